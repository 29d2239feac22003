section
-- ===== PART A: goes FIRST, ahead of the names: the tables' words, and 'selects' of the private methods out of them =====
/-- a private method of a class that the tables say can be made, by its rows of tables_1 -/
def lw_okq (q : MethodName × Nat) : Prop := (q.1.cls ≠ "java/lang/invoke/MethodHandle" ∧ q.1.cls ≠ "java/lang/invoke/VarHandle") ∧ Cond.instantiable q.1.cls q.2 ∈ tables_1 ∧ Cond.privateMethod q.1 ∈ tables_1 ∧ Cond.instanceMethod q.1 ∈ tables_1
theorem lw_p0 : lw_okq (⟨"java/lang/Throwable", "fillInStackTrace", "(I)Ljava/lang/Throwable;"⟩, 6) := ⟨⟨by decide +kernel, by decide +kernel⟩, List.mem_of_getElem? (i := 146) (by decide +kernel), List.mem_of_getElem? (i := 144) (by decide +kernel), List.mem_of_getElem? (i := 145) (by decide +kernel)⟩
theorem lw_p1 : lw_okq (⟨"PictureProof", "followMain", "(II)V"⟩, 4) := ⟨⟨by decide +kernel, by decide +kernel⟩, List.mem_of_getElem? (i := 15) (by decide +kernel), List.mem_of_getElem? (i := 281) (by decide +kernel), List.mem_of_getElem? (i := 282) (by decide +kernel)⟩
theorem lw_p2 : lw_okq (⟨"PictureProof", "clashes", "(II)Z"⟩, 4) := ⟨⟨by decide +kernel, by decide +kernel⟩, List.mem_of_getElem? (i := 15) (by decide +kernel), List.mem_of_getElem? (i := 295) (by decide +kernel), List.mem_of_getElem? (i := 296) (by decide +kernel)⟩
theorem lw_p3 : lw_okq (⟨"PictureProof", "takeOver", "(II)V"⟩, 4) := ⟨⟨by decide +kernel, by decide +kernel⟩, List.mem_of_getElem? (i := 15) (by decide +kernel), List.mem_of_getElem? (i := 304) (by decide +kernel), List.mem_of_getElem? (i := 305) (by decide +kernel)⟩
theorem lw_p4 : lw_okq (⟨"PictureProof", "checkComparison", "(III)V"⟩, 4) := ⟨⟨by decide +kernel, by decide +kernel⟩, List.mem_of_getElem? (i := 15) (by decide +kernel), List.mem_of_getElem? (i := 322) (by decide +kernel), List.mem_of_getElem? (i := 323) (by decide +kernel)⟩
theorem lw_p5 : lw_okq (⟨"PictureProof", "findMove", "(III)I"⟩, 4) := ⟨⟨by decide +kernel, by decide +kernel⟩, List.mem_of_getElem? (i := 15) (by decide +kernel), List.mem_of_getElem? (i := 327) (by decide +kernel), List.mem_of_getElem? (i := 328) (by decide +kernel)⟩
theorem lw_p6 : lw_okq (⟨"PictureProof", "fits", "(IIIII)Z"⟩, 4) := ⟨⟨by decide +kernel, by decide +kernel⟩, List.mem_of_getElem? (i := 15) (by decide +kernel), List.mem_of_getElem? (i := 331) (by decide +kernel), List.mem_of_getElem? (i := 332) (by decide +kernel)⟩
theorem lw_p7 : lw_okq (⟨"PictureProof", "differs", "(IIIII)Z"⟩, 4) := ⟨⟨by decide +kernel, by decide +kernel⟩, List.mem_of_getElem? (i := 15) (by decide +kernel), List.mem_of_getElem? (i := 360) (by decide +kernel), List.mem_of_getElem? (i := 361) (by decide +kernel)⟩
theorem lw_p8 : lw_okq (⟨"PictureProof", "isMoved", "(IIII)Z"⟩, 4) := ⟨⟨by decide +kernel, by decide +kernel⟩, List.mem_of_getElem? (i := 15) (by decide +kernel), List.mem_of_getElem? (i := 370) (by decide +kernel), List.mem_of_getElem? (i := 371) (by decide +kernel)⟩
theorem lw_p9 : lw_okq (⟨"PictureProof", "isMasked", "(IIII)Z"⟩, 4) := ⟨⟨by decide +kernel, by decide +kernel⟩, List.mem_of_getElem? (i := 15) (by decide +kernel), List.mem_of_getElem? (i := 384) (by decide +kernel), List.mem_of_getElem? (i := 385) (by decide +kernel)⟩
theorem lw_p10 : lw_okq (⟨"PictureProof", "isSoft", "(IIIII)Z"⟩, 4) := ⟨⟨by decide +kernel, by decide +kernel⟩, List.mem_of_getElem? (i := 15) (by decide +kernel), List.mem_of_getElem? (i := 388) (by decide +kernel), List.mem_of_getElem? (i := 389) (by decide +kernel)⟩
theorem lw_p11 : lw_okq (⟨"PictureProof", "findDifference", "(III)I"⟩, 4) := ⟨⟨by decide +kernel, by decide +kernel⟩, List.mem_of_getElem? (i := 15) (by decide +kernel), List.mem_of_getElem? (i := 405) (by decide +kernel), List.mem_of_getElem? (i := 406) (by decide +kernel)⟩
theorem lw_p12 : lw_okq (⟨"PictureProofModel", "goesWell", "(I)Z"⟩, 10) := ⟨⟨by decide +kernel, by decide +kernel⟩, List.mem_of_getElem? (i := 464) (by decide +kernel), List.mem_of_getElem? (i := 521) (by decide +kernel), List.mem_of_getElem? (i := 522) (by decide +kernel)⟩
theorem lw_p13 : lw_okq (⟨"PictureProofModel", "copy", "(II)V"⟩, 10) := ⟨⟨by decide +kernel, by decide +kernel⟩, List.mem_of_getElem? (i := 464) (by decide +kernel), List.mem_of_getElem? (i := 548) (by decide +kernel), List.mem_of_getElem? (i := 549) (by decide +kernel)⟩
theorem lw_p14 : lw_okq (⟨"PictureProofModel", "areSame", "(II)Z"⟩, 10) := ⟨⟨by decide +kernel, by decide +kernel⟩, List.mem_of_getElem? (i := 464) (by decide +kernel), List.mem_of_getElem? (i := 559) (by decide +kernel), List.mem_of_getElem? (i := 560) (by decide +kernel)⟩
theorem lw_p15 : lw_okq (⟨"PictureProofModel", "canCompare", "(III)Z"⟩, 10) := ⟨⟨by decide +kernel, by decide +kernel⟩, List.mem_of_getElem? (i := 464) (by decide +kernel), List.mem_of_getElem? (i := 571) (by decide +kernel), List.mem_of_getElem? (i := 572) (by decide +kernel)⟩
def lw_privs_1 : List (MethodName × Nat) := [(⟨"java/lang/Throwable", "fillInStackTrace", "(I)Ljava/lang/Throwable;"⟩, 6), (⟨"PictureProof", "followMain", "(II)V"⟩, 4), (⟨"PictureProof", "clashes", "(II)Z"⟩, 4), (⟨"PictureProof", "takeOver", "(II)V"⟩, 4), (⟨"PictureProof", "checkComparison", "(III)V"⟩, 4), (⟨"PictureProof", "findMove", "(III)I"⟩, 4), (⟨"PictureProof", "fits", "(IIIII)Z"⟩, 4), (⟨"PictureProof", "differs", "(IIIII)Z"⟩, 4), (⟨"PictureProof", "isMoved", "(IIII)Z"⟩, 4), (⟨"PictureProof", "isMasked", "(IIII)Z"⟩, 4), (⟨"PictureProof", "isSoft", "(IIIII)Z"⟩, 4), (⟨"PictureProof", "findDifference", "(III)I"⟩, 4), (⟨"PictureProofModel", "goesWell", "(I)Z"⟩, 10), (⟨"PictureProofModel", "copy", "(II)V"⟩, 10), (⟨"PictureProofModel", "areSame", "(II)Z"⟩, 10), (⟨"PictureProofModel", "canCompare", "(III)Z"⟩, 10)]
theorem lw_r1 : ∀ q ∈ lw_privs_1, lw_okq q := List.forall_mem_cons.mpr ⟨lw_p0, List.forall_mem_cons.mpr ⟨lw_p1, List.forall_mem_cons.mpr ⟨lw_p2, List.forall_mem_cons.mpr ⟨lw_p3, List.forall_mem_cons.mpr ⟨lw_p4, List.forall_mem_cons.mpr ⟨lw_p5, List.forall_mem_cons.mpr ⟨lw_p6, List.forall_mem_cons.mpr ⟨lw_p7, List.forall_mem_cons.mpr ⟨lw_p8, List.forall_mem_cons.mpr ⟨lw_p9, List.forall_mem_cons.mpr ⟨lw_p10, List.forall_mem_cons.mpr ⟨lw_p11, List.forall_mem_cons.mpr ⟨lw_p12, List.forall_mem_cons.mpr ⟨lw_p13, List.forall_mem_cons.mpr ⟨lw_p14, List.forall_mem_cons.mpr ⟨lw_p15, fun _ h => absurd h List.not_mem_nil⟩⟩⟩⟩⟩⟩⟩⟩⟩⟩⟩⟩⟩⟩⟩⟩
theorem lw_p16 : lw_okq (⟨"PictureProofModel", "findMove", "(III)V"⟩, 10) := ⟨⟨by decide +kernel, by decide +kernel⟩, List.mem_of_getElem? (i := 464) (by decide +kernel), List.mem_of_getElem? (i := 575) (by decide +kernel), List.mem_of_getElem? (i := 576) (by decide +kernel)⟩
theorem lw_p17 : lw_okq (⟨"PictureProofModel", "fits", "(IIIII)Z"⟩, 10) := ⟨⟨by decide +kernel, by decide +kernel⟩, List.mem_of_getElem? (i := 464) (by decide +kernel), List.mem_of_getElem? (i := 579) (by decide +kernel), List.mem_of_getElem? (i := 580) (by decide +kernel)⟩
theorem lw_p18 : lw_okq (⟨"PictureProofModel", "areAlike", "(III)Z"⟩, 10) := ⟨⟨by decide +kernel, by decide +kernel⟩, List.mem_of_getElem? (i := 464) (by decide +kernel), List.mem_of_getElem? (i := 583) (by decide +kernel), List.mem_of_getElem? (i := 584) (by decide +kernel)⟩
theorem lw_p19 : lw_okq (⟨"PictureProofModel", "differs", "(IIII)Z"⟩, 10) := ⟨⟨by decide +kernel, by decide +kernel⟩, List.mem_of_getElem? (i := 464) (by decide +kernel), List.mem_of_getElem? (i := 590) (by decide +kernel), List.mem_of_getElem? (i := 591) (by decide +kernel)⟩
theorem lw_p20 : lw_okq (⟨"PictureProofModel", "isSoft", "(IIII)Z"⟩, 10) := ⟨⟨by decide +kernel, by decide +kernel⟩, List.mem_of_getElem? (i := 464) (by decide +kernel), List.mem_of_getElem? (i := 594) (by decide +kernel), List.mem_of_getElem? (i := 595) (by decide +kernel)⟩
theorem lw_p21 : lw_okq (⟨"PictureProofModel", "isLeftOut", "(II)Z"⟩, 10) := ⟨⟨by decide +kernel, by decide +kernel⟩, List.mem_of_getElem? (i := 464) (by decide +kernel), List.mem_of_getElem? (i := 598) (by decide +kernel), List.mem_of_getElem? (i := 599) (by decide +kernel)⟩
theorem lw_p22 : lw_okq (⟨"PictureProofModel", "first", "(III)I"⟩, 10) := ⟨⟨by decide +kernel, by decide +kernel⟩, List.mem_of_getElem? (i := 464) (by decide +kernel), List.mem_of_getElem? (i := 609) (by decide +kernel), List.mem_of_getElem? (i := 610) (by decide +kernel)⟩
def lw_privs_2 : List (MethodName × Nat) := [(⟨"PictureProofModel", "findMove", "(III)V"⟩, 10), (⟨"PictureProofModel", "fits", "(IIIII)Z"⟩, 10), (⟨"PictureProofModel", "areAlike", "(III)Z"⟩, 10), (⟨"PictureProofModel", "differs", "(IIII)Z"⟩, 10), (⟨"PictureProofModel", "isSoft", "(IIII)Z"⟩, 10), (⟨"PictureProofModel", "isLeftOut", "(II)Z"⟩, 10), (⟨"PictureProofModel", "first", "(III)I"⟩, 10)]
theorem lw_r2 : ∀ q ∈ lw_privs_2, lw_okq q := List.forall_mem_cons.mpr ⟨lw_p16, List.forall_mem_cons.mpr ⟨lw_p17, List.forall_mem_cons.mpr ⟨lw_p18, List.forall_mem_cons.mpr ⟨lw_p19, List.forall_mem_cons.mpr ⟨lw_p20, List.forall_mem_cons.mpr ⟨lw_p21, List.forall_mem_cons.mpr ⟨lw_p22, fun _ h => absurd h List.not_mem_nil⟩⟩⟩⟩⟩⟩⟩
def lw_privs : List (MethodName × Nat) := lw_privs_1 ++ (lw_privs_2)
def lw_tbl : List Cond := k2_sels lw_privs ++ tables_1
theorem lw_privs_ok : ∀ q ∈ lw_privs, lw_okq q := by
  show ∀ q ∈ lw_privs_1 ++ (lw_privs_2), lw_okq q
  exact List.forall_mem_append.mpr ⟨lw_r1, lw_r2⟩
end
section
/-! ===== BEGIN words of one list among another's, by their places ===== -/
theorem goodIn_r {big : List Cond} (ws : List Cond) (ps : List Nat) (hp : ws = ps.filterMap (fun i => big[i]?)) (h : ws.all goodWord = true) : GoodIn big ws := by
  intro w hw
  have h1 := List.all_eq_true.mp h w hw
  rw [hp] at hw
  obtain ⟨i, -, hi⟩ := List.mem_filterMap.mp hw
  have hm : w ∈ big := by first | exact List.mem_of_getElem? hi | exact List.getElem?_mem hi
  exact ⟨hm, good_of_word h1⟩
theorem goodIn_app {big a b : List Cond} (ha : GoodIn big a) (hb : GoodIn big b) : GoodIn big (a ++ b) := fun w h => (List.mem_append.mp h).elim (ha w) (hb w)
theorem goodIn_ca {big a b : List Cond} {c : Cond} (ha : GoodIn big (c :: a)) (hb : GoodIn big b) : GoodIn big (c :: (a ++ b)) := fun w h => (List.mem_cons.mp h).elim (fun e => ha w (List.mem_cons.mpr (Or.inl e))) (fun h => (List.mem_append.mp h).elim (fun h => ha w (List.mem_cons.mpr (Or.inr h))) (hb w))
theorem goodIn_sub {big ws : List Cond} (hm : ∀ w ∈ ws, w ∈ big) (h : ws.all goodWord = true) : GoodIn big ws := fun w hw => ⟨hm w hw, good_of_word (List.all_eq_true.mp h w hw)⟩
/-! ===== END ===== -/

/-! ===== BEGIN exceptions that leave a method, and their catching by the caller (launches without stack traces) ===== -/
section VXA
/-! The laws vx_back, vx_callV, vx_callS, vx_callSW, vx_throw0, vx_throwS follow proofs of the library, with one case more: JvmDerived/Free/Laws.lean (Back.of_free), Shelf42/LK1.lean (callV, callS), Shelf/KitTraced.lean (throwNew0V, throwNewS). -/
/-- where a method has thrown q: the class by its name, the cell, what was written, the world -/
def vx_T (XC : String → State → State → Prop) (st : State) (q : Addr) (t : State) (mc ms : Nat) (free : Addr → Prop) : Prop :=
  ∃ (E : String) (ce : Cell) (L : List Loc), XC E st t ∧ t.heap[q]? = some ce ∧ ce.vm = .none ∧ st.vm.findClass E = some ce.cls ∧ st.WarmedH t.vm ∧ st.sameButNew ({ t with vm := st.vm } : State) L mc ms ∧ ∀ z ∈ L, free z.base
def vx_Q (Qc : Array Value → State → Outcome → State → Prop) (XC : String → State → State → Prop) (mc ms : Nat) (free : Addr → Prop) : Array Value → State → Outcome → State → Prop := fun a st o t =>
  (Qc a st o t ∧ ∃ L, FrameEnd st o t L mc ms ∧ ∀ q ∈ L, free q.base) ∨ ∃ q, o = .threw q ∧ vx_T XC st q t mc ms free
/-- a callee that returns or throws -/
def vx_Met (l : Launch) (y : MethodName) (ws : List Cond) (rm : Room) (Pc : Array Value → State → Prop) (Qc : Array Value → State → Outcome → State → Prop) (XC : String → State → State → Prop) (mc ms : Nat) (free : Addr → Prop) : Prop :=
  MetFree l y (headSpec ws rm) Pc (fun _ _ _ _ _ => True) (vx_Q Qc XC mc ms free)
def vx_Post (XC : String → State → State → Prop) (mc ms : Nat) (free : Addr → Prop) : Pt → Array Value → Addr → Pt → Prop := fun A a q B =>
  ∃ (g : JFrame) (mk : MethodId) (t : State) (L : List Loc) (E : String) (ce : Cell), B.U.heap = t.heap ∧ B.U.vm = t.vm ∧ XC E (A.U.calling g mk a) t ∧ t.heap[q]? = some ce ∧ ce.vm = .none ∧ A.U.vm.findClass E = some ce.cls ∧ B.locs = A.locs ++ L ∧ (∀ z ∈ L, free z.base) ∧ B.cells = A.cells + mc ∧ B.slots = A.slots + ms
def vx_Back (l : Launch) (R : Room) (p : Program) (e : Env) (below : List Frame) (s : State) (sargs : Array Value) (y : MethodName) (len W9 : Nat)
    (Pre : Pt → Array Value → Prop) (Post : Pt → Array Value → Option Value → Pt → Prop) (PostX : Pt → Array Value → Addr → Pt → Prop) : Prop :=
  ∀ (m : MethodId) (meth : Method) (c : Code) (A : Pt) (g : JFrame) (ig : Instr) (mk : MethodId) (a : Array Value),
    Stand p l e R s m sargs below meth c A.U A.locs A.cells A.slots → g.method = m → g.locals.size = c.maxLocals → decode c.code g.pc = .ok (ig, len) →
    2 * g.monitorRoom + (g.stack.map fun v => v.category).sum ≤ W9 → A.U.methodNamed? y = some mk → Pre A a →
    (∃ (v : Option Value) (B : Pt), Stand p l e R s m sargs below meth c B.U B.locs B.cells B.slots ∧ Post A a v B ∧
      Steps p.tables e below (doInvoke e (A.U.setTop g) [] mk a).1 (B.U.setTop { g with pc := g.pc + len, stack := v.toList ++ g.stack })) ∨
    (∃ (q : Addr) (B : Pt), Stand p l e R s m sargs below meth c B.U B.locs B.cells B.slots ∧ PostX A a q B ∧
      Steps p.tables e below (doInvoke e (A.U.setTop g) [] mk a).1 ((B.U.setTop g).pushFrame (.throwing q)))
section Payer
variable {l : Launch} {R : Room} {p : Program} {e : Env} {below : List Frame} {s : State} {sargs : Array Value} {y : MethodName} {len W9 : Nat}
theorem vx_back {ws : List Cond} {rm : Room} {Pc : Array Value → State → Prop} {Qc : Array Value → State → Outcome → State → Prop} {XC : String → State → State → Prop} {mc ms : Nat} {free : Addr → Prop} {bytes : ByteArray} {maxL : Nat} {ret : Option FieldType}
    (hM : vx_Met l y ws rm Pc Qc XC mc ms free) (hblind : FrameBlind Pc) (hrc : rm.cells = mc) (hrs : rm.slots = ms)
    (hframes : rm.frames + 1 ≤ R.frames) (hlocals : W9 + (maxL + 11) + rm.locals ≤ R.locals)
    (hws : ∀ w ∈ ws, ∀ a' U, s.WarmedH U.vm → w.before a' U = true) (hcode : Cond.code y bytes maxL ret ∈ ws) (hinit : ∀ a' U, s.WarmedH U.vm → (Cond.initialized y.cls).before a' U = true) :
    vx_Back l R p e below s sargs y len W9 (PreOf R mc ms Pc) (PostOf Qc mc ms free) (vx_Post XC mc ms free) := by
  intro m meth c A g ig mk a X hg hsize hdg hW hn hp
  have h1 : (headSpec ws rm).pre.before a A.U = true := atoms_intro fun w hw => hws w hw _ _ X.warmed
  have h2 : (Cond.code y bytes maxL ret).before a A.U = true := hws _ hcode _ _ X.warmed
  have h3 : (Cond.initialized y.cls).before a A.U = true := hinit _ _ X.warmed
  have h4 : A.cells + (headSpec ws rm).room.cells ≤ R.cells := by rw [show (headSpec ws rm).room.cells = mc from hrc]; exact hp.1
  have h5 : A.slots + (headSpec ws rm).room.slots ≤ R.slots := by rw [show (headSpec ws rm).room.slots = ms from hrs]; exact hp.2.1
  have hPc : Pc a (A.U.calling g mk a) := hblind _ _ _ _ hp.2.2
  obtain ⟨U, Ls, c0, s0⟩ := A
  dsimp only [Pt.U, Pt.locs, Pt.cells, Pt.slots] at h1 h2 h3 h4 h5 X hn hPc ⊢
  obtain ⟨methY, cY, hmY, hcY, -, hlY, -, -, -, -⟩ := Cond.code_spec hn h2
  obtain ⟨kY, hkY, -⟩ := className_of_methodNamed hn
  have hinitY : kY.init = .initialized := Cond.initialized_spec (findClass_of_methodNamed hn) hkY h3
  have h : At U g.method c below := by rw [hg]; exact X.here
  have hlocals9 : W9 + (maxL + 11) + (headSpec ws rm).room.locals ≤ R.locals := hlocals
  have happ : (headSpec ws rm).appliesLoose y e.platform (U.calling g mk a) = true :=
    Spec.appliesLoose_calling (g := g) h hdg hn hkY hinitY
      (X.room_calling (g := g) (R' := (headSpec ws rm).room) hsize hmY hcY hframes (by rw [hlY]; omega) h4 h5) h1
  obtain ⟨mid, hmid⟩ := h.above
  have hfr : (U.setTop g).frames = (.java g :: mid) ++ below := by rw [State.frames_setTop' g h.top, hmid]; rfl
  obtain ⟨o, s₂, hsteps, -, hend, hq⟩ := Steps.callFree hM p X.admits X.cas X.clock (acts := []) hfr happ hPc trivial
  have hq' : vx_Q Qc XC mc ms free a (U.calling g mk a) o s₂ := hq
  rw [State.frames_setTop' g h.top] at hend
  obtain ⟨g₀, hg0⟩ := Option.isSome_iff_exists.mp h.top
  obtain ⟨r, hr⟩ := State.topJava?_eq_some.mp hg0
  have hr' : (({ U with heap := s₂.heap, slotsUsed := s₂.slotsUsed } : State).setVm s₂.vm).frames = .java g₀ :: r := hr
  rcases hq' with ⟨hqc, L, hfe, hL⟩ | ⟨q, rfl, E, ce, L, hx, hce, hcv, hcl, hW₂, hsm, hL⟩
  · obtain ⟨⟨v, rfl⟩, hW₂, e2, q2, q3, q4, q5, q6⟩ := id hfe
    have e3 : s₂ = ({ (U.calling g mk a).setFrames s₂.frames with heap := s₂.heap, slotsUsed := s₂.slotsUsed } : State).setVm s₂.vm := by
      have : s₂ = ({ s₂ with vm := (U.calling g mk a).vm } : State).setVm s₂.vm := rfl
      rw [e2] at this
      exact this
    obtain ⟨c₂, i₂, len₂, hc₂, hd₂, hf₂⟩ := hend
    have hW' : U.WarmedH s₂.vm := hW₂
    have hcc : c₂ = c := by
      have h1 : s₂.code? g.method = U.code? g.method := by
        rw [State.code?_eq, State.code?_eq, hW'.alike.method?]
      exact Option.some.inj (hc₂.symm.trans (h1.trans h.code))
    subst hcc
    have hlen : len₂ = len := by rw [hdg] at hd₂; cases hd₂; rfl
    subst hlen
    have hs₂ : s₂ = (({ U with heap := s₂.heap, slotsUsed := s₂.slotsUsed } : State).setVm s₂.vm).setTop { g with pc := g.pc + len₂, stack := v.toList ++ g.stack } := by
      refine e3.trans ?_
      rw [hf₂, State.calling_eq h.top, State.setFrames_setFrames, State.setTop_of_frames _ hr', hr]
      rfl
    have hsame : U.sameButNew ({ U with heap := s₂.heap, slotsUsed := s₂.slotsUsed } : State) L mc ms := by
      refine ⟨?_, q2, q3, q4, q5, q6⟩
      obtain ⟨t, ht, -⟩ := State.frames_cons hr
      show ({ U with heap := s₂.heap, slotsUsed := s₂.slotsUsed } : State) = { U.setFrames U.frames with heap := s₂.heap, slotsUsed := s₂.slotsUsed }
      rw [State.setFrames_self ht]
    subst hg
    refine Or.inl ⟨v, ⟨(({ U with heap := s₂.heap, slotsUsed := s₂.slotsUsed } : State).setVm s₂.vm), Ls ++ L, c0 + mc, s0 + ms⟩,
      ⟨X.admits, X.cas, X.clock, X.frames, X.room, X.hears, X.method, X.code, (X.here.setHeapUsed s₂.heap s₂.slotsUsed).setVm hW'.alike, X.tail, State.WarmedH.trans X.warmed hW', X.limits, X.bytes, X.same.trans (hsame.setVm s.vm)⟩,
      ⟨g, mk, s₂, L, rfl, rfl, hqc, rfl, hL, rfl, rfl⟩, ?_⟩
    show Steps p.tables e below _ ((({ U with heap := s₂.heap, slotsUsed := s₂.slotsUsed } : State).setVm s₂.vm).setTop { g with pc := g.pc + len₂, stack := v.toList ++ g.stack })
    rw [← hs₂]
    exact hsteps
  · obtain ⟨e2, q2, q3, q4, q5, q6⟩ := id hsm
    have e3 : s₂ = ({ (U.calling g mk a).setFrames s₂.frames with heap := s₂.heap, slotsUsed := s₂.slotsUsed } : State).setVm s₂.vm := by
      have : s₂ = ({ s₂ with vm := (U.calling g mk a).vm } : State).setVm s₂.vm := rfl
      rw [e2] at this
      exact this
    have hf₂ : s₂.frames = .throwing q :: .java g :: U.frames.tail := hend
    have hW' : U.WarmedH s₂.vm := hW₂
    have hs₂ : s₂ = ((({ U with heap := s₂.heap, slotsUsed := s₂.slotsUsed } : State).setVm s₂.vm).setTop g).pushFrame (.throwing q) := by
      refine e3.trans ?_
      rw [hf₂, State.calling_eq h.top, State.setFrames_setFrames, State.pushFrame, State.frames_setTop _ hr', State.setTop_of_frames _ hr', State.setFrames_setFrames, hr]
      rfl
    have hsame : U.sameButNew ({ U with heap := s₂.heap, slotsUsed := s₂.slotsUsed } : State) L mc ms := by
      refine ⟨?_, q2, q3, q4, q5, q6⟩
      obtain ⟨t, ht, -⟩ := State.frames_cons hr
      show ({ U with heap := s₂.heap, slotsUsed := s₂.slotsUsed } : State) = { U.setFrames U.frames with heap := s₂.heap, slotsUsed := s₂.slotsUsed }
      rw [State.setFrames_self ht]
    subst hg
    refine Or.inr ⟨q, ⟨(({ U with heap := s₂.heap, slotsUsed := s₂.slotsUsed } : State).setVm s₂.vm), Ls ++ L, c0 + mc, s0 + ms⟩,
      ⟨X.admits, X.cas, X.clock, X.frames, X.room, X.hears, X.method, X.code, (X.here.setHeapUsed s₂.heap s₂.slotsUsed).setVm hW'.alike, X.tail, State.WarmedH.trans X.warmed hW', X.limits, X.bytes, X.same.trans (hsame.setVm s.vm)⟩,
      ⟨g, mk, s₂, L, E, ce, rfl, rfl, hx, hce, hcv, hcl, rfl, hL, rfl, rfl⟩, ?_⟩
    show Steps p.tables e below _ (((({ U with heap := s₂.heap, slotsUsed := s₂.slotsUsed } : State).setVm s₂.vm).setTop g).pushFrame (.throwing q))
    rw [← hs₂]
    exact hsteps
end Payer
section Calls
variable {p : Program} {l : Launch} {e : Env} {R : Room} {s : State} {m : MethodId} {args : Array Value} {below : List Frame} {meth : Method} {c : Code} {T : State} {locs : List Loc} {cells slots : Nat}
theorem vx_callV (X : Stand p l e R s m args below meth c T locs cells slots) (hexec : p.tables.exec = Jvm.exec) {own C : String} {index : Nat} {y : MethodName} {bytes : ByteArray} {maxL : Nat} {ret : Option FieldType}
    (hown : s.vm.findClass own = some m.cls) (hlink : (Cond.methodLink own index y).before args s = true) (hinst : (Cond.instanceMethod y).before args s = true) (hsel : (Cond.selects C y y).before args s = true)
    (hcode : (Cond.code y bytes maxL ret).before args s = true) (hy : y.cls ≠ "java/lang/invoke/MethodHandle" ∧ y.cls ≠ "java/lang/invoke/VarHandle")
    {W9 : Nat} {Pre : Pt → Array Value → Prop} {Post : Pt → Array Value → Option Value → Pt → Prop} {PostX : Pt → Array Value → Addr → Pt → Prop} (hK : vx_Back l R p e below s args y 3 W9 Pre Post PostX)
    {b : Addr} {cellB : Cell} (hcell : T.heap[b]? = some cellB) (hobj : cellB.vm.isStatics = false) (hcls : s.vm.findClass C = some cellB.cls)
    {g : JFrame} (hg : g.method = m) (hsize : g.locals.size = c.maxLocals) {argsL rest : List Value} (hlen : ∀ sig, parseMethodDescriptor y.desc = some sig → argsL.length = sig.parameters.length)
    (hstack : g.stack = argsL.reverse ++ .ref b :: rest) (hW : 2 * g.monitorRoom + (rest.map fun v => v.category).sum ≤ W9) (hdg : decode c.code g.pc = .ok (.invokevirtual index, 3))
    (hpre : ∀ vm₁, s.WarmedH vm₁ → Pre ⟨T.setVm vm₁, locs, cells, slots⟩ (Value.ref b :: argsL).toArray) :
    (∃ (v : Option Value) (vm₁ : Vm) (B : Pt), s.WarmedH vm₁ ∧ Stand p l e R s m args below meth c B.U B.locs B.cells B.slots ∧ Post ⟨T.setVm vm₁, locs, cells, slots⟩ (Value.ref b :: argsL).toArray v B ∧
      ∀ target, Steps p.tables e below (B.U.setTop { g with pc := g.pc + 3, stack := v.toList ++ rest }) target → Steps p.tables e below (T.setTop g) target) ∨
    (∃ (q : Addr) (vm₁ : Vm) (B : Pt), s.WarmedH vm₁ ∧ Stand p l e R s m args below meth c B.U B.locs B.cells B.slots ∧ PostX ⟨T.setVm vm₁, locs, cells, slots⟩ (Value.ref b :: argsL).toArray q B ∧
      Steps p.tables e below (T.setTop g) ((B.U.setTop { g with stack := rest }).pushFrame (.throwing q))) := by
  obtain ⟨mk, methM, hnamed, hmethM, hstM, habM⟩ := Cond.instanceMethod_spec hinst
  obtain ⟨methM', cM, hmethM', -, -, -, -, -, -, hsigM⟩ := Cond.code_spec hnamed hcode
  cases hmethM.symm.trans hmethM'
  obtain ⟨c2, r2, m2, q1, q2, q3, q4, kP, hkP, hkPi⟩ := Cond.selects_spec hsel
  cases hcls.symm.trans q1
  cases (State.methodFound?_of_named hnamed hy).symm.trans q2
  cases hnamed.symm.trans q3
  have hselP : selectMethod e.platform s.vm cellB.cls mk = .method mk := by rw [Launch.admits_selectMethod X.admits]; exact q4
  obtain ⟨vm₁, X₁, hstep₁⟩ := X.invokevirtual hexec hown hlink hnamed hmethM hstM hkP hkPi hy (a := b) (cell := cellB) hcell
    (fun z h => by rw [h] at hobj; cases hobj) hselP hmethM habM hkP hkPi (g := g) hg (argsL := argsL) (rest := rest) (hlen _ hsigM) hstack hdg
  rcases hK m meth c ⟨T.setVm vm₁, locs, cells, slots⟩ { g with stack := rest } (.invokevirtual index) mk (Value.ref b :: argsL).toArray X₁ hg hsize hdg hW (X₁.named hnamed) (hpre vm₁ X₁.warmed) with ⟨v, B, X', hpost, hsteps⟩ | ⟨q, B, X', hpost, hsteps⟩
  · exact Or.inl ⟨v, vm₁, B, X₁.warmed, X', hpost, fun target h => hstep₁ _ fun acts => by rw [doInvoke_state]; exact hsteps.trans h⟩
  · exact Or.inr ⟨q, vm₁, B, X₁.warmed, X', hpost, hstep₁ _ fun acts => by rw [doInvoke_state]; exact hsteps⟩
theorem vx_callS (X : Stand p l e R s m args below meth c T locs cells slots) (hexec : p.tables.exec = Jvm.exec) {own : String} {index : Nat} {y : MethodName} {bytes : ByteArray} {maxL : Nat} {ret : Option FieldType}
    (hown : s.vm.findClass own = some m.cls) (hlink : (Cond.methodLink own index y).before args s = true) (hstat : (Cond.static y).before args s = true) (hinit : (Cond.initialized y.cls).before args s = true)
    (hcode : (Cond.code y bytes maxL ret).before args s = true) (hy : y.cls ≠ "java/lang/invoke/MethodHandle" ∧ y.cls ≠ "java/lang/invoke/VarHandle")
    {W9 : Nat} {Pre : Pt → Array Value → Prop} {Post : Pt → Array Value → Option Value → Pt → Prop} {PostX : Pt → Array Value → Addr → Pt → Prop} (hK : vx_Back l R p e below s args y 3 W9 Pre Post PostX)
    {g : JFrame} (hg : g.method = m) (hsize : g.locals.size = c.maxLocals) {argsL rest : List Value} (hlen : ∀ sig, parseMethodDescriptor y.desc = some sig → argsL.length = sig.parameters.length)
    (hstack : g.stack = argsL.reverse ++ rest) (hW : 2 * g.monitorRoom + (rest.map fun v => v.category).sum ≤ W9) (hdg : decode c.code g.pc = .ok (.invokestatic index, 3))
    (hpre : ∀ vm₁, s.WarmedH vm₁ → Pre ⟨T.setVm vm₁, locs, cells, slots⟩ argsL.toArray) :
    (∃ (v : Option Value) (vm₁ : Vm) (B : Pt), s.WarmedH vm₁ ∧ Stand p l e R s m args below meth c B.U B.locs B.cells B.slots ∧ Post ⟨T.setVm vm₁, locs, cells, slots⟩ argsL.toArray v B ∧
      ∀ target, Steps p.tables e below (B.U.setTop { g with pc := g.pc + 3, stack := v.toList ++ rest }) target → Steps p.tables e below (T.setTop g) target) ∨
    (∃ (q : Addr) (vm₁ : Vm) (B : Pt), s.WarmedH vm₁ ∧ Stand p l e R s m args below meth c B.U B.locs B.cells B.slots ∧ PostX ⟨T.setVm vm₁, locs, cells, slots⟩ argsL.toArray q B ∧
      Steps p.tables e below (T.setTop g) ((B.U.setTop { g with stack := rest }).pushFrame (.throwing q))) := by
  obtain ⟨mk, hnamed⟩ := Cond.code_named hcode
  obtain ⟨methM, cM, hmethM, -, -, -, -, -, -, hsigM⟩ := Cond.code_spec hnamed hcode
  have hstatic : methM.isStatic = true := Cond.static_spec hnamed hmethM hstat
  obtain ⟨kP, hkP, -⟩ := className_of_methodNamed hnamed
  have hinitP : kP.init = .initialized := Cond.initialized_spec (findClass_of_methodNamed hnamed) hkP hinit
  obtain ⟨vm₁, X₁, hstep₁⟩ := X.invokestatic hexec hown hlink hnamed hmethM hstatic hkP hinitP hy (g := g) hg (argsL := argsL) (rest := rest) (hlen _ hsigM) hstack hdg
  rcases hK m meth c ⟨T.setVm vm₁, locs, cells, slots⟩ { g with stack := rest } (.invokestatic index) mk argsL.toArray X₁ hg hsize hdg hW (X₁.named hnamed) (hpre vm₁ X₁.warmed) with ⟨v, B, X', hpost, hsteps⟩ | ⟨q, B, X', hpost, hsteps⟩
  · exact Or.inl ⟨v, vm₁, B, X₁.warmed, X', hpost, fun target h => hstep₁ _ fun acts => by rw [doInvoke_state]; exact hsteps.trans h⟩
  · exact Or.inr ⟨q, vm₁, B, X₁.warmed, X', hpost, hstep₁ _ fun acts => by rw [doInvoke_state]; exact hsteps⟩
end Calls
theorem vx_cls {s : State} {T : State} {vm₁ : Vm} {E : String} {k : ClassId} (hW : s.WarmedH vm₁) (h : (T.setVm vm₁).vm.findClass E = some k) : s.vm.findClass E = some k := by
  have h1 : vm₁.findClass E = some k := h
  rw [hW.alike.findClass] at h1
  exact h1
/-- the method's frame g, with q thrown over it -/
def vx_W (p : Program) (l : Launch) (e : Env) (R : Room) (s : State) (m : MethodId) (args : Array Value) (below : List Frame) (meth : Method) (c : Code) (H : Heap) (locs : List Loc) (cells slots : Nat) (Q : State → Prop) (g : JFrame) (q : Addr) : Prop :=
  ∀ T : State, T.heap = H → Stand p l e R s m args below meth c T locs cells slots → ∃ t, Steps p.tables e below ((T.setTop g).pushFrame (.throwing q)) t ∧ Q t
def vx_Run (p : Program) (l : Launch) (e : Env) (R : Room) (s : State) (m : MethodId) (args : Array Value) (below : List Frame) (meth : Method) (c : Code) (H : Heap) (locs : List Loc) (cells slots mc ms : Nat) (g : JFrame) (rest : List Value) (Qa : State → Outcome → State → Prop) (XC : String → State → State → Prop) (free : Addr → Prop) : Prop :=
  ∀ T : State, T.heap = H → Stand p l e R s m args below meth c T locs cells slots →
    (∃ (v : Option Value) (st₀ t T' : State) (L : List Loc), st₀.heap = H ∧ Stand p l e R s m args below meth c T' (locs ++ L) (cells + mc) (slots + ms) ∧ (∀ q ∈ L, free q.base) ∧ T'.heap = t.heap ∧ T'.vm = t.vm ∧ Qa st₀ (.returned v) t ∧
      Goes p e below T g T' { g with pc := g.pc + 3, stack := v.toList ++ rest }) ∨
    (∃ (q : Addr) (st₀ t T' : State) (L : List Loc) (E : String) (ce : Cell), st₀.heap = H ∧ Stand p l e R s m args below meth c T' (locs ++ L) (cells + mc) (slots + ms) ∧ (∀ z ∈ L, free z.base) ∧ T'.heap = t.heap ∧ T'.vm = t.vm ∧ XC E st₀ t ∧ t.heap[q]? = some ce ∧ ce.vm = .none ∧ s.vm.findClass E = some ce.cls ∧
      Steps p.tables e below (T.setTop g) ((T'.setTop { g with stack := rest }).pushFrame (.throwing q)))
def vx_X {S : Type} (px : S → Prop) (B : String → S → State → Prop) (A : Nat → Prop) : String → State → State → Prop := fun E st t => ∃ u : S, px u ∧ B E u t ∧ va_F A st t
section Runs
variable {p : Program} {l : Launch} {e : Env} {R : Room} {s : State} {m : MethodId} {args : Array Value} {below : List Frame} {meth : Method} {c : Code} {H : Heap} {locs : List Loc} {cells slots : Nat}
variable {y : MethodName} {bytes cc : ByteArray} {maxL nL mc ms n index : Nat} {ret : Option FieldType} {ws : List Cond} {rm : Room} {Pc : Array Value → State → Prop} {Qc : Array Value → State → Outcome → State → Prop} {XC : String → State → State → Prop} {free : Addr → Prop} {Ts : List Cond} {own C : String} {b : Addr} {As rest : List Value} {g : JFrame}
theorem vx_callBack (cb : CallB R s args own index y bytes maxL ret ws rm mc ms n) (hM : vx_Met l y ws rm Pc Qc XC mc ms free) (hbl : FrameBlind Pc) : vx_Back l R p e below s args y 3 8 (PreOf R mc ms Pc) (PostOf Qc mc ms free) (vx_Post XC mc ms free) := by
  obtain ⟨hrc, hrs, hfr, hlo, hws, hcw, -, hini, -⟩ := cb
  exact vx_back (bytes := bytes) (maxL := maxL) (ret := ret) hM hbl hrc hrs hfr hlo hws hcw (fun a' U hW => word_at hW (Or.inl (by first | rfl | simp [Cond.onTables, Cond.keeps, Cond.steady])) hini)
theorem vx_runV (S : CallFix p m c cc nL s args Ts own) (hM : vx_Met l y ws rm Pc Qc XC mc ms free) (cw : CallW R s args own C index y bytes maxL ret ws rm mc ms n) (hp : PreV s H C b Pc As)
    (hg : g.method = m) (hn : As.length = n) (hsize : g.locals.size = nL) (hstack : g.stack = As.reverse ++ .ref b :: rest) (hW : 2 * g.monitorRoom + (rest.map fun v => v.category).sum ≤ 8) (hdg : decode cc g.pc = .ok (.invokevirtual index, 3)) (hf : cells + mc ≤ R.cells ∧ slots + ms ≤ R.slots) :
    vx_Run p l e R s m args below meth c H locs cells slots mc ms g rest (Qc (Value.ref b :: As).toArray) XC free := by
  have hK : vx_Back l R p e below s args y 3 8 (PreOf R mc ms Pc) (PostOf Qc mc ms free) (vx_Post XC mc ms free) := vx_callBack cw.1 hM hp.1
  obtain ⟨⟨-, -, -, -, -, -, hcode, -, hy, hlen, hl⟩, hin, hse⟩ := cw
  obtain ⟨hx, hb, hml, ho, -⟩ := S
  obtain ⟨-, ⟨cellB, hcB, hoB, hclB⟩, hPc⟩ := hp
  intro T hT X
  rcases vx_callV X hx (C := C) (bytes := bytes) (maxL := maxL) (ret := ret) ho hl hin hse hcode hy hK (by rw [hT]; exact hcB) hoB hclB hg (hsize.trans hml.symm) (argsL := As) (rest := rest) (fun sig h => hn.trans (hlen sig h)) hstack hW (by rw [hb]; exact hdg)
    (fun vm₁ hW₁ => ⟨hf.1, hf.2, hPc (T.setVm vm₁) hT hW₁⟩) with ⟨v, vm₁, ⟨U', l2, c2, s2⟩, hW₁, X', ⟨g', mk, t, L, e1, e2, hq, h1, hL, h2, h3⟩, st⟩ | ⟨q, vm₁, ⟨U', l2, c2, s2⟩, hW₁, X', ⟨g', mk, t, L, E, ce, e1, e2, hq, hce, hcv, hcl, h1, hL, h2, h3⟩, st⟩
  · dsimp only [Pt.U, Pt.locs, Pt.cells, Pt.slots] at X' e1 e2 h1 h2 h3 st
    subst h1; subst h2; subst h3
    exact Or.inl ⟨v, (T.setVm vm₁).calling g' mk (Value.ref b :: As).toArray, t, U', L, hT, X', hL, e1, e2, hq, st⟩
  · dsimp only [Pt.U, Pt.locs, Pt.cells, Pt.slots] at X' e1 e2 h1 h2 h3 st hcl
    subst h1; subst h2; subst h3
    exact Or.inr ⟨q, (T.setVm vm₁).calling g' mk (Value.ref b :: As).toArray, t, U', L, E, ce, hT, X', hL, e1, e2, hq, hce, hcv, vx_cls hW₁ hcl, st⟩
theorem vx_runS (S : CallFix p m c cc nL s args Ts own) (hM : vx_Met l y ws rm Pc Qc XC mc ms free) (cw : CallB R s args own index y bytes maxL ret ws rm mc ms n ∧ (Cond.static y).before args s = true) (hp : PreS s H Pc As)
    (hg : g.method = m) (hn : As.length = n) (hsize : g.locals.size = nL) (hstack : g.stack = As.reverse ++ rest) (hW : 2 * g.monitorRoom + (rest.map fun v => v.category).sum ≤ 8) (hdg : decode cc g.pc = .ok (.invokestatic index, 3)) (hf : cells + mc ≤ R.cells ∧ slots + ms ≤ R.slots) :
    vx_Run p l e R s m args below meth c H locs cells slots mc ms g rest (Qc As.toArray) XC free := by
  have hK : vx_Back l R p e below s args y 3 8 (PreOf R mc ms Pc) (PostOf Qc mc ms free) (vx_Post XC mc ms free) := vx_callBack cw.1 hM hp.1
  obtain ⟨⟨-, -, -, -, -, -, hcode, hini, hy, hlen, hl⟩, hstt⟩ := cw
  obtain ⟨hx, hb, hml, ho, -⟩ := S
  intro T hT X
  rcases vx_callS X hx (bytes := bytes) (maxL := maxL) (ret := ret) ho hl hstt hini hcode hy hK hg (hsize.trans hml.symm) (argsL := As) (rest := rest) (fun sig h => hn.trans (hlen sig h)) hstack hW (by rw [hb]; exact hdg)
    (fun vm₁ hW₁ => ⟨hf.1, hf.2, hp.2 (T.setVm vm₁) hT hW₁⟩) with ⟨v, vm₁, ⟨U', l2, c2, s2⟩, hW₁, X', ⟨g', mk, t, L, e1, e2, hq, h1, hL, h2, h3⟩, st⟩ | ⟨q, vm₁, ⟨U', l2, c2, s2⟩, hW₁, X', ⟨g', mk, t, L, E, ce, e1, e2, hq, hce, hcv, hcl, h1, hL, h2, h3⟩, st⟩
  · dsimp only [Pt.U, Pt.locs, Pt.cells, Pt.slots] at X' e1 e2 h1 h2 h3 st
    subst h1; subst h2; subst h3
    exact Or.inl ⟨v, (T.setVm vm₁).calling g' mk As.toArray, t, U', L, hT, X', hL, e1, e2, hq, st⟩
  · dsimp only [Pt.U, Pt.locs, Pt.cells, Pt.slots] at X' e1 e2 h1 h2 h3 st hcl
    subst h1; subst h2; subst h3
    exact Or.inr ⟨q, (T.setVm vm₁).calling g' mk As.toArray, t, U', L, E, ce, hT, X', hL, e1, e2, hq, hce, hcv, vx_cls hW₁ hcl, st⟩
end Runs
section Rows
variable {p : Program} {l : Launch} {e : Env} {R : Room} {s : State} {m : MethodId} {args : Array Value} {below : List Frame} {meth : Method} {c : Code} {H : Heap} {locs : List Loc} {cells slots : Nat} {Q : State → Prop}
variable {mc ms : Nat} {free : Addr → Prop} {A0 A1 : Nat → Prop} {H0 : Heap} {a : Array Value} {pc : Nat} {ls : Array Slot} {st0 rest : List Value}
theorem vx_keep {st₀ t T' : State} {L : List Loc} (h0 : st₀.heap = H) (e1 : T'.heap = t.heap) (hS : va_S A0 H0 H locs) (hA : ∀ q, q < H.size → A1 q → A0 q) (hf : ∀ q, free q → A0 q) (hL : ∀ q ∈ L, free q.base) (hF : va_F A1 st₀ t) :
    H.size ≤ T'.heap.size ∧ (∀ q : Nat, q < H.size → ¬ A1 q → T'.heap[q]? = H[q]?) ∧ va_S A0 H0 T'.heap (locs ++ L) := by
  obtain ⟨hz, hk⟩ := hF
  rw [h0] at hz hk
  exact ⟨by rw [e1]; exact hz, fun q h1 h2 => by rw [e1]; exact hk q h1 h2,
    ⟨Nat.le_trans hS.1 (by rw [e1]; exact hz), fun q h1 h2 => by rw [e1, hk q (Nat.lt_of_lt_of_le h1 hS.1) (fun z => h2 (hA q (Nat.lt_of_lt_of_le h1 hS.1) z))]; exact hS.2.1 q h1 h2, fun q hq => by
      rcases List.mem_append.mp hq with h | h
      · exact hS.2.2 q h
      · exact hf _ (hL q h)⟩⟩
theorem vx_calli {S SX : Type} {post : Int32 → S → Prop} {px : SX → Prop} {B : S → State → Prop} {BX : String → SX → State → Prop} {AX : Nat → Prop} (hr : vx_Run p l e R s m args below meth c H locs cells slots mc ms (F0 m pc ls st0) rest (va_Qi post B A1 a) (vx_X px BX AX) free) (hS : va_S A0 H0 H locs) (hA : ∀ q, q < H.size → A1 q → A0 q) (hf : ∀ q, free q → A0 q) (hAX : ∀ q, q < H.size → AX q → A0 q)
    (kx : ∀ (E : String) (ce : Cell) (q9 : Addr) (u : SX) (t : State) (H1 : Heap) (locs1 : List Loc), t.heap = H1 → s.vm.Alike t.vm → px u → BX E u t → H.size ≤ H1.size → (∀ q : Nat, q < H.size → ¬ AX q → H1[q]? = H[q]?) → va_S A0 H0 H1 locs1 → H1[q9]? = some ce → ce.vm = .none → s.vm.findClass E = some ce.cls → vx_W p l e R s m args below meth c H1 locs1 (cells + mc) (slots + ms) Q (F0 m pc ls rest) q9)
    (kk : ∀ (r : Int32) (u : S) (t : State) (H1 : Heap) (locs1 : List Loc), t.heap = H1 → s.vm.Alike t.vm → post r u → B u t → H.size ≤ H1.size → (∀ q : Nat, q < H.size → ¬ A1 q → H1[q]? = H[q]?) → va_S A0 H0 H1 locs1 → W p l e R s m args below meth c H1 locs1 (cells + mc) (slots + ms) Q (F0 m (pc + 3) ls (.int r :: rest))) : W p l e R s m args below meth c H locs cells slots Q (F0 m pc ls st0) := by
  intro T hT X
  rcases hr T hT X with ⟨v, st₀, t, T', L, h0, X', hL, e1, e2, ⟨⟨r, u, hv, hp, hb⟩, hF⟩, st⟩ | ⟨q, st₀, t, T', L, E, ce, h0, X', hL, e1, e2, ⟨u, hp, hb, hF⟩, hce, hcv, hcl, st⟩
  · cases hv
    obtain ⟨k1, k2, k3⟩ := vx_keep h0 e1 hS hA hf hL hF
    obtain ⟨t2, a1, b1⟩ := kk r u t T'.heap (locs ++ L) e1.symm (by rw [← e2]; exact X'.warmed.alike) hp hb k1 k2 k3 T' rfl X'
    exact ⟨t2, st t2 a1, b1⟩
  · obtain ⟨k1, k2, k3⟩ := vx_keep h0 e1 hS hAX hf hL hF
    obtain ⟨t2, a1, b1⟩ := kx E ce q u t T'.heap (locs ++ L) e1.symm (by rw [← e2]; exact X'.warmed.alike) hp hb k1 k2 k3 (by rw [e1]; exact hce) hcv hcl T' rfl X'
    exact ⟨t2, st.trans a1, b1⟩
theorem vx_calll {S SX : Type} {post : Int64 → S → Prop} {px : SX → Prop} {B : S → State → Prop} {BX : String → SX → State → Prop} {AX : Nat → Prop} (hr : vx_Run p l e R s m args below meth c H locs cells slots mc ms (F0 m pc ls st0) rest (va_Ql post B A1 a) (vx_X px BX AX) free) (hS : va_S A0 H0 H locs) (hA : ∀ q, q < H.size → A1 q → A0 q) (hf : ∀ q, free q → A0 q) (hAX : ∀ q, q < H.size → AX q → A0 q)
    (kx : ∀ (E : String) (ce : Cell) (q9 : Addr) (u : SX) (t : State) (H1 : Heap) (locs1 : List Loc), t.heap = H1 → s.vm.Alike t.vm → px u → BX E u t → H.size ≤ H1.size → (∀ q : Nat, q < H.size → ¬ AX q → H1[q]? = H[q]?) → va_S A0 H0 H1 locs1 → H1[q9]? = some ce → ce.vm = .none → s.vm.findClass E = some ce.cls → vx_W p l e R s m args below meth c H1 locs1 (cells + mc) (slots + ms) Q (F0 m pc ls rest) q9)
    (kk : ∀ (r : Int64) (u : S) (t : State) (H1 : Heap) (locs1 : List Loc), t.heap = H1 → s.vm.Alike t.vm → post r u → B u t → H.size ≤ H1.size → (∀ q : Nat, q < H.size → ¬ A1 q → H1[q]? = H[q]?) → va_S A0 H0 H1 locs1 → W p l e R s m args below meth c H1 locs1 (cells + mc) (slots + ms) Q (F0 m (pc + 3) ls (.long r :: rest))) : W p l e R s m args below meth c H locs cells slots Q (F0 m pc ls st0) := by
  intro T hT X
  rcases hr T hT X with ⟨v, st₀, t, T', L, h0, X', hL, e1, e2, ⟨⟨r, u, hv, hp, hb⟩, hF⟩, st⟩ | ⟨q, st₀, t, T', L, E, ce, h0, X', hL, e1, e2, ⟨u, hp, hb, hF⟩, hce, hcv, hcl, st⟩
  · cases hv
    obtain ⟨k1, k2, k3⟩ := vx_keep h0 e1 hS hA hf hL hF
    obtain ⟨t2, a1, b1⟩ := kk r u t T'.heap (locs ++ L) e1.symm (by rw [← e2]; exact X'.warmed.alike) hp hb k1 k2 k3 T' rfl X'
    exact ⟨t2, st t2 a1, b1⟩
  · obtain ⟨k1, k2, k3⟩ := vx_keep h0 e1 hS hAX hf hL hF
    obtain ⟨t2, a1, b1⟩ := kx E ce q u t T'.heap (locs ++ L) e1.symm (by rw [← e2]; exact X'.warmed.alike) hp hb k1 k2 k3 (by rw [e1]; exact hce) hcv hcl T' rfl X'
    exact ⟨t2, st.trans a1, b1⟩
theorem vx_callf {S SX : Type} {post : UInt32 → S → Prop} {px : SX → Prop} {B : S → State → Prop} {BX : String → SX → State → Prop} {AX : Nat → Prop} (hr : vx_Run p l e R s m args below meth c H locs cells slots mc ms (F0 m pc ls st0) rest (va_Qf post B A1 a) (vx_X px BX AX) free) (hS : va_S A0 H0 H locs) (hA : ∀ q, q < H.size → A1 q → A0 q) (hf : ∀ q, free q → A0 q) (hAX : ∀ q, q < H.size → AX q → A0 q)
    (kx : ∀ (E : String) (ce : Cell) (q9 : Addr) (u : SX) (t : State) (H1 : Heap) (locs1 : List Loc), t.heap = H1 → s.vm.Alike t.vm → px u → BX E u t → H.size ≤ H1.size → (∀ q : Nat, q < H.size → ¬ AX q → H1[q]? = H[q]?) → va_S A0 H0 H1 locs1 → H1[q9]? = some ce → ce.vm = .none → s.vm.findClass E = some ce.cls → vx_W p l e R s m args below meth c H1 locs1 (cells + mc) (slots + ms) Q (F0 m pc ls rest) q9)
    (kk : ∀ (r : UInt32) (u : S) (t : State) (H1 : Heap) (locs1 : List Loc), t.heap = H1 → s.vm.Alike t.vm → post r u → B u t → H.size ≤ H1.size → (∀ q : Nat, q < H.size → ¬ A1 q → H1[q]? = H[q]?) → va_S A0 H0 H1 locs1 → W p l e R s m args below meth c H1 locs1 (cells + mc) (slots + ms) Q (F0 m (pc + 3) ls (.float r :: rest))) : W p l e R s m args below meth c H locs cells slots Q (F0 m pc ls st0) := by
  intro T hT X
  rcases hr T hT X with ⟨v, st₀, t, T', L, h0, X', hL, e1, e2, ⟨⟨r, u, hv, hp, hb⟩, hF⟩, st⟩ | ⟨q, st₀, t, T', L, E, ce, h0, X', hL, e1, e2, ⟨u, hp, hb, hF⟩, hce, hcv, hcl, st⟩
  · cases hv
    obtain ⟨k1, k2, k3⟩ := vx_keep h0 e1 hS hA hf hL hF
    obtain ⟨t2, a1, b1⟩ := kk r u t T'.heap (locs ++ L) e1.symm (by rw [← e2]; exact X'.warmed.alike) hp hb k1 k2 k3 T' rfl X'
    exact ⟨t2, st t2 a1, b1⟩
  · obtain ⟨k1, k2, k3⟩ := vx_keep h0 e1 hS hAX hf hL hF
    obtain ⟨t2, a1, b1⟩ := kx E ce q u t T'.heap (locs ++ L) e1.symm (by rw [← e2]; exact X'.warmed.alike) hp hb k1 k2 k3 (by rw [e1]; exact hce) hcv hcl T' rfl X'
    exact ⟨t2, st.trans a1, b1⟩
theorem vx_calld {S SX : Type} {post : UInt64 → S → Prop} {px : SX → Prop} {B : S → State → Prop} {BX : String → SX → State → Prop} {AX : Nat → Prop} (hr : vx_Run p l e R s m args below meth c H locs cells slots mc ms (F0 m pc ls st0) rest (va_Qd post B A1 a) (vx_X px BX AX) free) (hS : va_S A0 H0 H locs) (hA : ∀ q, q < H.size → A1 q → A0 q) (hf : ∀ q, free q → A0 q) (hAX : ∀ q, q < H.size → AX q → A0 q)
    (kx : ∀ (E : String) (ce : Cell) (q9 : Addr) (u : SX) (t : State) (H1 : Heap) (locs1 : List Loc), t.heap = H1 → s.vm.Alike t.vm → px u → BX E u t → H.size ≤ H1.size → (∀ q : Nat, q < H.size → ¬ AX q → H1[q]? = H[q]?) → va_S A0 H0 H1 locs1 → H1[q9]? = some ce → ce.vm = .none → s.vm.findClass E = some ce.cls → vx_W p l e R s m args below meth c H1 locs1 (cells + mc) (slots + ms) Q (F0 m pc ls rest) q9)
    (kk : ∀ (r : UInt64) (u : S) (t : State) (H1 : Heap) (locs1 : List Loc), t.heap = H1 → s.vm.Alike t.vm → post r u → B u t → H.size ≤ H1.size → (∀ q : Nat, q < H.size → ¬ A1 q → H1[q]? = H[q]?) → va_S A0 H0 H1 locs1 → W p l e R s m args below meth c H1 locs1 (cells + mc) (slots + ms) Q (F0 m (pc + 3) ls (.double r :: rest))) : W p l e R s m args below meth c H locs cells slots Q (F0 m pc ls st0) := by
  intro T hT X
  rcases hr T hT X with ⟨v, st₀, t, T', L, h0, X', hL, e1, e2, ⟨⟨r, u, hv, hp, hb⟩, hF⟩, st⟩ | ⟨q, st₀, t, T', L, E, ce, h0, X', hL, e1, e2, ⟨u, hp, hb, hF⟩, hce, hcv, hcl, st⟩
  · cases hv
    obtain ⟨k1, k2, k3⟩ := vx_keep h0 e1 hS hA hf hL hF
    obtain ⟨t2, a1, b1⟩ := kk r u t T'.heap (locs ++ L) e1.symm (by rw [← e2]; exact X'.warmed.alike) hp hb k1 k2 k3 T' rfl X'
    exact ⟨t2, st t2 a1, b1⟩
  · obtain ⟨k1, k2, k3⟩ := vx_keep h0 e1 hS hAX hf hL hF
    obtain ⟨t2, a1, b1⟩ := kx E ce q u t T'.heap (locs ++ L) e1.symm (by rw [← e2]; exact X'.warmed.alike) hp hb k1 k2 k3 (by rw [e1]; exact hce) hcv hcl T' rfl X'
    exact ⟨t2, st.trans a1, b1⟩
theorem vx_callv {S SX : Type} {post : S → Prop} {px : SX → Prop} {B : S → State → Prop} {BX : String → SX → State → Prop} {AX : Nat → Prop} (hr : vx_Run p l e R s m args below meth c H locs cells slots mc ms (F0 m pc ls st0) rest (va_Qv post B A1 a) (vx_X px BX AX) free) (hS : va_S A0 H0 H locs) (hA : ∀ q, q < H.size → A1 q → A0 q) (hf : ∀ q, free q → A0 q) (hAX : ∀ q, q < H.size → AX q → A0 q)
    (kx : ∀ (E : String) (ce : Cell) (q9 : Addr) (u : SX) (t : State) (H1 : Heap) (locs1 : List Loc), t.heap = H1 → s.vm.Alike t.vm → px u → BX E u t → H.size ≤ H1.size → (∀ q : Nat, q < H.size → ¬ AX q → H1[q]? = H[q]?) → va_S A0 H0 H1 locs1 → H1[q9]? = some ce → ce.vm = .none → s.vm.findClass E = some ce.cls → vx_W p l e R s m args below meth c H1 locs1 (cells + mc) (slots + ms) Q (F0 m pc ls rest) q9)
    (kk : ∀ (u : S) (t : State) (H1 : Heap) (locs1 : List Loc), t.heap = H1 → s.vm.Alike t.vm → post u → B u t → H.size ≤ H1.size → (∀ q : Nat, q < H.size → ¬ A1 q → H1[q]? = H[q]?) → va_S A0 H0 H1 locs1 → W p l e R s m args below meth c H1 locs1 (cells + mc) (slots + ms) Q (F0 m (pc + 3) ls (rest))) : W p l e R s m args below meth c H locs cells slots Q (F0 m pc ls st0) := by
  intro T hT X
  rcases hr T hT X with ⟨v, st₀, t, T', L, h0, X', hL, e1, e2, ⟨⟨u, hv, hp, hb⟩, hF⟩, st⟩ | ⟨q, st₀, t, T', L, E, ce, h0, X', hL, e1, e2, ⟨u, hp, hb, hF⟩, hce, hcv, hcl, st⟩
  · cases hv
    obtain ⟨k1, k2, k3⟩ := vx_keep h0 e1 hS hA hf hL hF
    obtain ⟨t2, a1, b1⟩ := kk u t T'.heap (locs ++ L) e1.symm (by rw [← e2]; exact X'.warmed.alike) hp hb k1 k2 k3 T' rfl X'
    exact ⟨t2, st t2 a1, b1⟩
  · obtain ⟨k1, k2, k3⟩ := vx_keep h0 e1 hS hAX hf hL hF
    obtain ⟨t2, a1, b1⟩ := kx E ce q u t T'.heap (locs ++ L) e1.symm (by rw [← e2]; exact X'.warmed.alike) hp hb k1 k2 k3 (by rw [e1]; exact hce) hcv hcl T' rfl X'
    exact ⟨t2, st.trans a1, b1⟩
/-- caught by the row x of this method's table; the rows ahead don't take it -/
theorem vx_catch {own name : String} {E : String} {ce : Cell} {q : Addr} (hown : s.vm.findClass own = some m.cls) (pre : List ExceptionTableEntry) (x : ExceptionTableEntry) (suf : List ExceptionTableEntry) (hsplit : c.exceptionTable.toList = pre ++ x :: suf)
    (hpass : ∀ z ∈ pre, covers z pc = false ∨ (z.catchType ≠ 0 ∧ ∃ nm : String, (Cond.classLink own z.catchType nm).before args s = true ∧ va_Nc E nm s)) (hx : covers x pc = true) (h0 : x.catchType ≠ 0)
    (hlink : (Cond.classLink own x.catchType name).before args s = true) (hcast : (Cond.castable E name).before args s = true) (hcell : H[q]? = some ce) (hv : ce.vm = .none) (hcl : s.vm.findClass E = some ce.cls)
    (kk : W p l e R s m args below meth c H locs cells slots Q (F0 m x.handlerPc ls [.ref q])) : vx_W p l e R s m args below meth c H locs cells slots Q (F0 m pc ls rest) q := by
  intro T hT X
  have hpl : e.platform.magicAccessors = ({} : Platform).magicAccessors := by rw [X.admits.platform]
  obtain ⟨c3, c4, hc3, hc4, hasg⟩ := Cond.castable_spec hcast
  cases Option.some.inj (hc3.symm.trans hcl)
  obtain ⟨c5, hc5, hcl5⟩ := Cond.classLink_spec hown hlink e.platform hpl
  cases Option.some.inj (hc4.symm.trans hc5)
  obtain ⟨vm', X', st⟩ := X.thenCaughtThrough q (g := F0 m pc ls rest) rfl (Steps.refl _) (by rw [hT]; exact hcell) (by rw [hv]; rfl) (by obtain ⟨k9, h9, -⟩ := Vm.findClass_spec hcl; exact ⟨k9, h9⟩) pre x suf hsplit
    (fun z hz => by
      rcases hpass z hz with h | ⟨hz0, nm, hl1, hn1⟩
      · exact Or.inl h
      · obtain ⟨c6, hc6, hcl6⟩ := Cond.classLink_spec hown hl1 e.platform hpl
        obtain ⟨a8, b8, h1, h2, h3⟩ := hn1
        cases Option.some.inj (h1.symm.trans hcl)
        cases Option.some.inj (h2.symm.trans hc6)
        exact Or.inr ⟨hz0, _, hcl6, h3⟩) hx (Or.inr ⟨h0, c4, hcl5, hasg⟩)
  obtain ⟨t, a1, b1⟩ := kk (T.setVm vm') hT X'
  exact ⟨t, st.trans a1, b1⟩
end Rows
section Ends
variable {p : Program} {l : Launch} {e : Env} {R : Room} {s : State} {m : MethodId} {args : Array Value} {below : List Frame} {meth : Method} {c : Code} {H : Heap} {locs : List Loc} {cells slots : Nat} {Q : State → Prop}
variable {mc ms : Nat} {free : Addr → Prop} {A0 A1 : Nat → Prop} {H0 : Heap} {a : Array Value} {ls : Array Slot} {st0 rest : List Value}
variable {Qc : Array Value → State → Outcome → State → Prop} {XC : String → State → State → Prop}
/-- what a body that may throw owes at its end -/
def vx_MQ (below : List Frame) (Qc : Array Value → State → Outcome → State → Prop) (XC : String → State → State → Prop) (a : Array Value) (s : State) (mc ms : Nat) (free : Addr → Prop) : State → Prop := fun t =>
  ∃ o, t.status = .running ∧ Ended t below o ∧ vx_Q Qc XC mc ms free a s o t
theorem vx_ret {g : JFrame} {mc ms : Nat} (k : W p l e R s m args below meth c H locs cells slots (MQ below Qc args s mc ms free) g) : W p l e R s m args below meth c H locs cells slots (vx_MQ below Qc XC args s mc ms free) g := by
  intro T hT X
  obtain ⟨t, a1, o, b1, b2, b3, b4⟩ := k T hT X
  exact ⟨t, a1, o, b1, b2, Or.inl ⟨b3, b4⟩⟩
/-- not caught here: it goes on to the caller -/
theorem vx_widen {g : JFrame} {q : Addr} {k n : Nat} (h1 : cells ≤ k) (h2 : slots ≤ n) (kk : vx_W p l e R s m args below meth c H locs k n Q g q) : vx_W p l e R s m args below meth c H locs cells slots Q g q := fun T hT X => kk T hT (stand_widen X h1 h2)
theorem vx_out {pc : Nat} {E : String} {ce : Cell} {q : Addr} {mc ms : Nat} (hout : ∀ x ∈ c.exceptionTable.toList, covers x pc = false) (hlocks : meth.locks = false) (hcell : H[q]? = some ce) (hv : ce.vm = .none) (hcl : s.vm.findClass E = some ce.cls)
    (hx : ∀ t : State, t.heap = H → s.vm.Alike t.vm → XC E s t) (hf : ∀ z ∈ locs, free z.base) (hc : cells ≤ mc) (hs : slots ≤ ms) :
    vx_W p l e R s m args below meth c H locs cells slots (vx_MQ below Qc XC args s mc ms free) (F0 m pc ls rest) q := by
  intro T hT X
  obtain ⟨st1, hrun, hend, hW, hsm⟩ := X.leaveThrown q (g := F0 m pc ls rest) rfl rfl rfl hout hlocks
  have hcell9 : (T.setFrames (.throwing q :: below)).heap[q]? = some ce := by
    show T.heap[q]? = some ce
    rw [hT]; exact hcell
  exact ⟨_, st1, .threw q, hrun, hend, Or.inr ⟨q, rfl, E, ce, locs, hx _ hT hW.alike, hcell9, hv, hcl, hW, hsm.mono hc hs, hf⟩⟩
theorem vx_frame {U : State} {k n : Nat} (h : s.sameButNew ({ U with vm := s.vm } : State) locs k n) : s.heap.size ≤ U.heap.size ∧ ∀ q : Nat, q < s.heap.size → (∀ z ∈ locs, z.base ≠ q) → U.heap[q]? = s.heap[q]? := by
  obtain ⟨-, h2, -, -, -, h6⟩ := h
  refine ⟨h2, fun q hq hz => ?_⟩
  obtain ⟨c9, e1, e2, e3, e4⟩ := h6 q _ (Array.getElem?_eq_getElem hq)
  have hs : c9.slots = (s.heap[q]).slots := Array.ext_getElem? fun i => e4 i fun hm => hz _ hm rfl
  have h9 : c9 = s.heap[q] := by
    rw [hs] at e2
    exact e2
  have e5 : U.heap[q]? = some c9 := e1
  rw [e5, h9, Array.getElem?_eq_getElem hq]
/-- the words of a throw but the four that speak of the heap -/
def vx_no (w : Cond) : Bool := decide (w ≠ .isRef (.static Bundle.tN "UNASSIGNED_STACK" Bundle.steD)) && decide (w ≠ .isRef (.static Bundle.tN "SUPPRESSED_SENTINEL" Bundle.listD)) && decide (w ≠ .laysStatic Bundle.tN "UNASSIGNED_STACK" Bundle.steD) && decide (w ≠ .laysStatic Bundle.tN "SUPPRESSED_SENTINEL" Bundle.listD)
def vx_at0 (own : String) (ic : Nat) (X : String) (names : List String) : List Cond := (Bundle.ownAtoms0 own ic X names).filter vx_no
def vx_atS (own : String) (ic : Nat) (X : String) (names : List String) : List Cond := (Bundle.ownAtoms own ic X names).filter vx_no
/-- a word that the tables alone decide, or a good one -/
def vx_ot (w : Cond) : Bool := w.onTables || goodWord w
theorem vx_ot_at {args a' : Array Value} {s U : State} {w : Cond} (hW : s.WarmedH U.vm) (hvm : s.vm = U.vm) (hg : vx_ot w = true) (h : w.before args s = true) : w.before a' U = true := by
  simp only [vx_ot, Bool.or_eq_true] at hg
  rcases hg with hg | hg
  · exact va_tabs hg hvm h
  · exact word_at hW (good_of_word hg) h
/-- a list's words: the good ones out of the method's own list, the others by premises of their own -/
theorem vx_hat {args : Array Value} {s : State} {L B : List Cond} (h1 : ∀ w ∈ L.filter goodWord, w.before args s = true) (h2 : ∀ w ∈ L.filter (fun w => !goodWord w), w ∈ B) (h3 : ∀ w ∈ B, w.before args s = true) : ∀ w ∈ L, w.before args s = true := by
  intro w hw
  by_cases g : goodWord w = true
  · exact h1 w (List.mem_filter.mpr ⟨hw, g⟩)
  · refine h3 w (h2 w (List.mem_filter.mpr ⟨hw, ?_⟩))
    show (!goodWord w) = true
    cases hgw : goodWord w
    · rfl
    · exact absurd hgw g
theorem vx_c {args : Array Value} {s : State} {w : Cond} {B : List Cond} (h : w.before args s = true) (t : ∀ w ∈ B, w.before args s = true) : ∀ w' ∈ w :: B, w'.before args s = true := fun w' h' => (List.mem_cons.mp h').elim (fun e => by rw [e]; exact h) (t w')
theorem vx_n {args : Array Value} {s : State} : ∀ w ∈ ([] : List Cond), w.before args s = true := fun _ h => nomatch h
theorem vx_own {args : Array Value} {s : State} {L : List Cond} (h1 : ∀ w ∈ L.filter vx_no, w.before args s = true)
    (hU : (Cond.isRef (.static Bundle.tN "UNASSIGNED_STACK" Bundle.steD)).before args s = true) (hN : (Cond.isRef (.static Bundle.tN "SUPPRESSED_SENTINEL" Bundle.listD)).before args s = true)
    (lU : (Cond.laysStatic Bundle.tN "UNASSIGNED_STACK" Bundle.steD).before args s = true) (lN : (Cond.laysStatic Bundle.tN "SUPPRESSED_SENTINEL" Bundle.listD).before args s = true) : ∀ w ∈ L, w.before args s = true := by
  intro w hw
  by_cases e1 : w = .isRef (.static Bundle.tN "UNASSIGNED_STACK" Bundle.steD)
  · rw [e1]; exact hU
  · by_cases e2 : w = .isRef (.static Bundle.tN "SUPPRESSED_SENTINEL" Bundle.listD)
    · rw [e2]; exact hN
    · by_cases e3 : w = .laysStatic Bundle.tN "UNASSIGNED_STACK" Bundle.steD
      · rw [e3]; exact lU
      · by_cases e4 : w = .laysStatic Bundle.tN "SUPPRESSED_SENTINEL" Bundle.listD
        · rw [e4]; exact lN
        · exact h1 w (List.mem_filter.mpr ⟨hw, by unfold vx_no; rw [decide_eq_true e1, decide_eq_true e2, decide_eq_true e3, decide_eq_true e4]; rfl⟩)
/-- where a static field lies, its class's statics cell in H -/
def vx_L (C n d : String) (A : Nat → Prop) (U : State) (H : Heap) : Prop := ∃ (c : ClassId) (k : Class) (i : Nat) (f : Field) (a : Nat) (cell : Cell), U.vm.findClass C = some c ∧ U.fieldFound? C n d = some (c, k, i, f) ∧ f.isStatic = true ∧ k.statics = some a ∧ H[a]? = some cell ∧ cell.vm.isStatics = true ∧ cell.cls = c ∧ f.slot < cell.slots.size ∧ k.staticTypes[f.slot]? = some f.type ∧ ¬ A a
theorem vx_L.moved {C n d : String} {A : Nat → Prop} {u U : State} {H : Heap} (hvm : u.vm.Alike U.vm) (h : vx_L C n d A u H) : vx_L C n d A U H := by
  obtain ⟨c, k, i, f, a, cell, h1, h2, h3, h4, h5, h6, h7, h8, h9, h10⟩ := h
  obtain ⟨k', hi', he⟩ := State.fieldFound?_setVm hvm h2
  exact ⟨c, k', i, f, a, cell, by rw [hvm.findClass]; exact h1, hi', h3, by rw [he]; exact h4, h5, h6, h7, h8, by rw [he]; exact h9, h10⟩
theorem vx_L.kept {C n d : String} {A : Nat → Prop} {U : State} {H H1 : Heap} (h : vx_L C n d A U H) (hq : ∀ a : Nat, a < H.size → ¬ A a → H1[a]? = H[a]?) : vx_L C n d A U H1 := by
  obtain ⟨c, k, i, f, a, cell, h1, h2, h3, h4, h5, h6, h7, h8, h9, h10⟩ := h
  exact ⟨c, k, i, f, a, cell, h1, h2, h3, h4, by rw [hq a (Array.getElem?_eq_some_iff.mp h5).1 h10]; exact h5, h6, h7, h8, h9, h10⟩
theorem vx_L.narrow {C n d : String} {A B : Nat → Prop} {U : State} {H : Heap} (h : vx_L C n d A U H) (hAB : ∀ q, B q → A q) : vx_L C n d B U H := by
  obtain ⟨c, k, i, f, a, cell, h1, h2, h3, h4, h5, h6, h7, h8, h9, h10⟩ := h
  exact ⟨c, k, i, f, a, cell, h1, h2, h3, h4, h5, h6, h7, h8, h9, fun z => h10 (hAB _ z)⟩
theorem vx_L.word {C n d : String} {A : Nat → Prop} {s : State} {args : Array Value} (h : vx_L C n d A s s.heap) : (Cond.laysStatic C n d).before args s = true := by
  obtain ⟨c, k, i, f, a, cell, h1, h2, h3, h4, h5, h6, h7, h8, h9, -⟩ := h
  show (Cond.laysStatic C n d).holds args s none s [] = true
  exact Cond.laysStatic_of h1 h2 h3 h4 h5 h6 h7 h8 h9
/-- .. and what it holds: null or some reference -/
def vx_Zq (C n d : String) (A : Nat → Prop) (U : State) (H : Heap) : Prop := va_Zq C n d A U H ∧ vx_L C n d A U H
theorem vx_Zq.moved {C n d : String} {A : Nat → Prop} {u U : State} {H : Heap} (hvm : u.vm.Alike U.vm) (h : vx_Zq C n d A u H) : vx_Zq C n d A U H := ⟨va_Zq.moved hvm h.1, vx_L.moved hvm h.2⟩
theorem vx_Zq.kept {C n d : String} {A : Nat → Prop} {U : State} {H H1 : Heap} (h : vx_Zq C n d A U H) (hq : ∀ a : Nat, a < H.size → ¬ A a → H1[a]? = H[a]?) : vx_Zq C n d A U H1 := ⟨va_Zq.kept h.1 hq, vx_L.kept h.2 hq⟩
theorem vx_Zq.narrow {C n d : String} {A B : Nat → Prop} {U : State} {H : Heap} (h : vx_Zq C n d A U H) (hAB : ∀ q, B q → A q) : vx_Zq C n d B U H := ⟨va_Zq.narrow h.1 hAB, vx_L.narrow h.2 hAB⟩
theorem vx_Zqof {args : Array Value} {s : State} {C n d : String} {A : Nat → Prop} (hl : (Cond.laysStatic C n d).before args s = true) (hini : (Cond.initialized C).before args s = true) (h : (Cond.isRef (.static C n d)).before args s = true) (hA : ∀ a : Nat, a < s.heap.size → ¬ A a) : vx_Zq C n d A s s.heap := by
  refine ⟨va_Zqof hl hini h hA, ?_⟩
  obtain ⟨c, k, i, f, a, cell, h1, h2, h3, h4, h5, h6, h7, h8, h9⟩ := Cond.laysStatic_spec hl
  exact ⟨c, k, i, f, a, cell, h1, h2, h3, h4, h5, h6, h7, h8, h9, hA a (Array.getElem?_eq_some_iff.mp h5).1⟩
theorem vx_isRef {C n d : String} {v : Value} {A : Nat → Prop} {s : State} {args : Array Value} (h : va_Z C n d v A s s.heap) (hv : v.isRef = true) : (Cond.isRef (.static C n d)).before args s = true := by
  obtain ⟨cf, kf, fi, f, a, cell, h1, h2, h3, h4, h5, h6, h7, -⟩ := h
  have he : (Term.static C n d).eval args s none [] s = some v := by
    simp [Term.eval, State.fieldNamed?, h1, h2, h4, h5, h6, h7]
  simp only [Cond.before, Cond.holds, Cond.value, he]
  cases v <;> simp_all [Value.isRef]
theorem vx_isRefq {C n d : String} {A : Nat → Prop} {s : State} {args : Array Value} (h : va_Zq C n d A s s.heap) : (Cond.isRef (.static C n d)).before args s = true := by
  rcases h with h | ⟨t, h⟩
  · exact vx_isRef h rfl
  · exact vx_isRef h rfl
/-- the same frame, seen from here: as if the method were called anew in this heap -/
theorem vx_rebase {T : State} (X : Stand p l e R s m args below meth c T locs cells slots) {R' : Room} (hf : R'.frames ≤ R.frames) (hl : R'.locals ≤ R.locals) (hc : cells + R'.cells ≤ R.cells) (hs : slots + R'.slots ≤ R.slots) :
    Stand p l e R' ((T.setVm s.vm).setFrames (.invoking m args :: below)) m args below meth c T [] 0 0 := by
  have htop : (T.setVm s.vm).topJava?.isSome := X.here.top
  have hF : ((T.setVm s.vm).setFrames (.invoking m args :: below)).frames = .invoking m args :: below := State.frames_setFrames _ (State.cur_lt_of_top htop)
  obtain ⟨g₀, hg0⟩ := Option.isSome_iff_exists.mp htop
  obtain ⟨r, hr⟩ := State.topJava?_eq_some.mp hg0
  have hl9 : e.platform.stackLimits (T.setVm s.vm).me = e.platform.stackLimits s.me := X.limits
  have hb9 : (T.setVm s.vm).me.stackBytes = s.me.stackBytes := X.bytes
  refine ⟨X.admits, X.cas, X.clock, hF, ?_, X.hears, X.method, X.code, X.here, X.tail, X.warmed, ?_, ?_, ?_⟩
  · have h := X.room
    have hU : ((T.setVm s.vm).setFrames (.invoking m args :: below)).localsInUse = s.localsInUse := by
      rw [State.localsInUse_invoking hF (meth := meth) (c := c) X.method X.code, State.localsInUse_invoking X.frames X.method X.code]
    simp only [State.hasRoom, Bool.and_eq_true, decide_eq_true_eq] at h ⊢
    obtain ⟨⟨⟨⟨h1, h2, h3, h4, h5, h6⟩, h7⟩, h8⟩, h9⟩ := h
    rw [X.frames, List.length_cons] at h2 h3
    have q1 := X.heapSize
    have q2 := X.used
    simp only [hF, hU, List.length_cons, State.stackLimits_setFrames, State.stackBytes_setFrames, hl9, hb9]
    refine ⟨⟨⟨⟨by omega, by omega, by omega, by omega, by omega, h6⟩, ?_⟩, ?_⟩, X.book⟩
    · show T.heap.size + R'.cells ≤ e.platform.maxCells
      omega
    · show T.slotsUsed + R'.slots ≤ e.platform.maxSlots
      omega
  · rw [State.stackLimits_setFrames]; rfl
  · rw [State.stackBytes_setFrames]; rfl
  · refine ⟨?_, Nat.le_refl _, Nat.le_refl _, ?_, ?_, fun a c9 h9 => ⟨c9, h9, rfl, rfl, fun _ _ => rfl⟩⟩
    · obtain ⟨t, ht, -⟩ := State.frames_cons hr
      show T.setVm s.vm = { ((T.setVm s.vm).setFrames (.invoking m args :: below)).setFrames (T.setVm s.vm).frames with heap := T.heap, slotsUsed := T.slotsUsed }
      rw [State.setFrames_setFrames, State.setFrames_self ht]
      rfl
    · show T.slotsUsed = T.slotsUsed + ((T.heap.toList.drop T.heap.size).map (·.slots.size)).sum
      rw [List.drop_eq_nil_of_le (Nat.le_of_eq Array.length_toList)]
      rfl
    · show ((T.heap.toList.drop T.heap.size).map (·.slots.size)).sum ≤ 0
      rw [List.drop_eq_nil_of_le (Nat.le_of_eq Array.length_toList)]
      exact Nat.le_refl _
/-- 'throw new E()': new; dup; invokespecial; athrow -/
theorem vx_throw0 {cc : ByteArray} {pc : Nat} (hexec : p.tables.exec = Jvm.exec) (hb : c.code = cc) (hl : l.stackTraces = false) {own cls : String} {names : List String} {ik ic mc ms : Nat} {A : Nat → Prop}
    (hown : s.vm.findClass own = some m.cls) (hcls : Bundle.fit cls = true) (hnames : ∀ n ∈ names, Bundle.fit n = true)
    (hk : (Cond.classLink own ik cls).before args s = true) (hini : (Cond.initialized cls).before args s = true) (hat : ∀ w ∈ vx_at0 own ic cls names, w.before args s = true)
    (hgood : ∀ w ∈ Cond.classLink own ik cls :: Cond.initialized cls :: vx_at0 own ic cls names, vx_ot w = true)
    (hU : vx_Zq Bundle.tN "UNASSIGNED_STACK" Bundle.steD A s s.heap) (hN : vx_Zq Bundle.tN "SUPPRESSED_SENTINEL" Bundle.listD A s s.heap) (hS : va_S A s.heap H locs) (hsize : ls.size = c.maxLocals)
    (d0 : decode cc pc = .ok (.new ik, 3)) (d3 : decode cc (pc + 3) = .ok (.dup, 1)) (d4 : decode cc (pc + 4) = .ok (.invokespecial ic, 3)) (d7 : decode cc (pc + 7) = .ok (.athrow, 1))
    (hout : ∀ x ∈ c.exceptionTable.toList, covers x (pc + 7) = false)
    (hRframes : names.length + 3 < R.frames) (hRlocals : (rest.map fun v => v.category).sum + (13 * (names.length + 1) + 42) ≤ R.locals) (hRcells : cells + 1 ≤ R.cells) (hRslots : slots + 6 ≤ R.slots) (hlocks : meth.locks = false)
    (hx : ∀ t : State, s.vm.Alike t.vm → H.size ≤ t.heap.size → (∀ q : Nat, q < H.size → t.heap[q]? = H[q]?) → XC cls s t)
    (hf : ∀ z ∈ locs, free z.base) (hc : cells + 1 ≤ mc) (hs : slots + 6 ≤ ms) :
    W p l e R s m args below meth c H locs cells slots (vx_MQ below Qc XC args s mc ms free) (F0 m pc ls rest) := by
  intro T hT X
  have htr : e.platform.stackTraces = false := (show e.platform.stackTraces = l.stackTraces by rw [X.admits.platform]).trans hl
  have Y := vx_rebase X (R' := { frames := R.frames, locals := R.locals, cells := 1, slots := 6 }) (Nat.le_refl _) (Nat.le_refl _) hRcells hRslots
  obtain ⟨s', hA⟩ : ∃ z, z = (T.setVm s.vm).setFrames (.invoking m args :: below) := ⟨_, rfl⟩
  rw [← hA] at Y
  have hvm : s'.vm = s.vm := by rw [hA]; rfl
  have hhp : s'.heap = H := by rw [hA]; exact hT
  have hW0 : s.WarmedH s'.vm := by rw [hvm]; exact State.WarmedH.refl s
  have hat' : ∀ w ∈ vx_at0 own ic cls names, w.before args s' = true := fun w hw => vx_ot_at hW0 hvm.symm (hgood w (List.mem_cons_of_mem _ (List.mem_cons_of_mem _ hw))) (hat w hw)
  have hk' : (Cond.classLink own ik cls).before args s' = true := vx_ot_at hW0 hvm.symm (hgood _ List.mem_cons_self) hk
  have hini' : (Cond.initialized cls).before args s' = true := vx_ot_at hW0 hvm.symm (hgood _ (List.mem_cons_of_mem _ List.mem_cons_self)) hini
  have hU' : vx_Zq Bundle.tN "UNASSIGNED_STACK" Bundle.steD A s' s'.heap := by rw [hhp]; exact vx_Zq.moved hW0.alike (hU.kept hS.2.1)
  have hN' : vx_Zq Bundle.tN "SUPPRESSED_SENTINEL" Bundle.listD A s' s'.heap := by rw [hhp]; exact vx_Zq.moved hW0.alike (hN.kept hS.2.1)
  have h : ∀ w ∈ Bundle.ownAtoms0 own ic cls names, w.before args s' = true := vx_own hat' (vx_isRefq hU'.1) (vx_isRefq hN'.1) hU'.2.word hN'.2.word
  have hown' : s'.vm.findClass own = some m.cls := by rw [hvm]; exact hown
  have hins : (Cond.instantiable cls 6).before args s' = true := h _ (by simp [Bundle.ownAtoms0])
  obtain ⟨vm₁, cX, kX, hfX, hkX, -, -, X₁, st1⟩ := Y.newCold hexec (own := own) (C := cls) (index := ik) (n := 6) hown' hk' hins hini'
    (g := F0 m pc ls rest) rfl (by rw [hb]; exact d0) (Nat.le_refl _) (Nat.le_refl _)
  generalize hT1 : (T.setVm vm₁).pushCell { cls := cX, slots := kX.instanceTypes.map defaultValue, vm := .none } = T1 at X₁ st1
  have hcat : (Value.ref T.heap.size).category = 1 := rfl
  have hcellA : T1.heap[T.heap.size]? = some (freshCell cX kX) := by rw [← hT1]; exact State.heap_pushCell_size _ _
  have d3' : decode c.code (pc + 3) = .ok (.dup, 1) := by rw [hb]; exact d3
  obtain ⟨U, hsteps, hrun, hend, hW, hsame, ce, hce, hO⟩ := X₁.ctorThrow0 hexec htr (own := own) (cls := cls) (names := names) (ic := ic) hown' hcls hnames h (fun x hx => nomatch hx) hfX hkX hcellA (by rw [hhp, hT]; exact Nat.le_refl _)
    (g := { method := m, pc := pc + 4, locals := ls, stack := .ref T.heap.size :: .ref T.heap.size :: rest, locked := none }) rfl hsize rfl rfl (rest := rest) rfl
    (by rw [hb]; exact d4) (by rw [hb]; exact d7) hout hRframes (by simp only [List.map_cons, List.sum_cons, hcat]; omega) hlocks
  obtain ⟨f1, f2⟩ := vx_frame hsame
  rw [hhp] at f1 f2
  have hWs : s.WarmedH U.vm := State.WarmedH.trans hW0 hW
  have hcl : s.vm.findClass cls = some ce.cls := by
    have h9 := hO.cls
    rw [hvm] at h9
    exact h9
  have hall : s.sameButNew ({ U with vm := s.vm } : State) locs mc ms := by
    subst hA
    obtain ⟨e1, e2⟩ := hsame
    rw [State.setFrames_setFrames] at e1
    have h2 : (T.setVm s.vm).sameButNew ({ U with vm := s.vm } : State) [] (0 + 1) (0 + 6) := ⟨e1, e2⟩
    have h3 := X.same.trans h2
    rw [List.append_nil] at h3
    exact h3.mono hc hs
  refine ⟨U, ?_, .threw T.heap.size, hrun, hend, Or.inr ⟨T.heap.size, rfl, cls, ce, locs, hx U hWs.alike f1 (fun q hq => f2 q hq (fun z hz => nomatch hz)), hce, hO.vm, hcl, hWs, hall, hf⟩⟩
  refine st1 _ ?_
  show Steps p.tables e below (T1.setTop { method := m, pc := pc + 3, locals := ls, stack := .ref T.heap.size :: rest, locked := none }) _
  jvm_step X₁.here [X₁.here.top, hexec, d3', Value.category]
  exact hsteps
/-- 'throw new E("text")': new; dup; ldc; invokespecial; athrow -/
theorem vx_throwS {cc : ByteArray} {pc : Nat} (hexec : p.tables.exec = Jvm.exec) (hb : c.code = cc) (hl : l.stackTraces = false) {own cls text : String} {names : List String} {ik is ic mc ms sa : Nat} {A : Nat → Prop}
    (hown : s.vm.findClass own = some m.cls) (hcls : Bundle.fit cls = true) (hnames : ∀ n ∈ names, Bundle.fit n = true)
    (hk : (Cond.classLink own ik cls).before args s = true) (hini : (Cond.initialized cls).before args s = true) (hstr : vk_R own is text sa s) (hat : ∀ w ∈ vx_atS own ic cls names, w.before args s = true)
    (hgood : ∀ w ∈ Cond.classLink own ik cls :: Cond.initialized cls :: vx_atS own ic cls names, vx_ot w = true)
    (hU : vx_Zq Bundle.tN "UNASSIGNED_STACK" Bundle.steD A s s.heap) (hN : vx_Zq Bundle.tN "SUPPRESSED_SENTINEL" Bundle.listD A s s.heap) (hS : va_S A s.heap H locs) (hsize : ls.size = c.maxLocals)
    (d0 : decode cc pc = .ok (.new ik, 3)) (d3 : decode cc (pc + 3) = .ok (.dup, 1)) (d4 : decode cc (pc + 4) = .ok (.ldc is, 2)) (d6 : decode cc (pc + 6) = .ok (.invokespecial ic, 3)) (d9 : decode cc (pc + 9) = .ok (.athrow, 1))
    (hout : ∀ x ∈ c.exceptionTable.toList, covers x (pc + 9) = false)
    (hRframes : names.length + 3 < R.frames) (hRlocals : (rest.map fun v => v.category).sum + (13 * (names.length + 1) + 43) ≤ R.locals) (hRcells : cells + 1 ≤ R.cells) (hRslots : slots + 6 ≤ R.slots) (hlocks : meth.locks = false)
    (hx : ∀ t : State, s.vm.Alike t.vm → H.size ≤ t.heap.size → (∀ q : Nat, q < H.size → t.heap[q]? = H[q]?) → XC cls s t)
    (hf : ∀ z ∈ locs, free z.base) (hc : cells + 1 ≤ mc) (hs : slots + 6 ≤ ms) :
    W p l e R s m args below meth c H locs cells slots (vx_MQ below Qc XC args s mc ms free) (F0 m pc ls rest) := by
  intro T hT X
  have htr : e.platform.stackTraces = false := (show e.platform.stackTraces = l.stackTraces by rw [X.admits.platform]).trans hl
  have Y := vx_rebase X (R' := { frames := R.frames, locals := R.locals, cells := 1, slots := 6 }) (Nat.le_refl _) (Nat.le_refl _) hRcells hRslots
  obtain ⟨s', hA⟩ : ∃ z, z = (T.setVm s.vm).setFrames (.invoking m args :: below) := ⟨_, rfl⟩
  rw [← hA] at Y
  have hvm : s'.vm = s.vm := by rw [hA]; rfl
  have hhp : s'.heap = H := by rw [hA]; exact hT
  have hW0 : s.WarmedH s'.vm := by rw [hvm]; exact State.WarmedH.refl s
  have hat' : ∀ w ∈ vx_atS own ic cls names, w.before args s' = true := fun w hw => vx_ot_at hW0 hvm.symm (hgood w (List.mem_cons_of_mem _ (List.mem_cons_of_mem _ hw))) (hat w hw)
  have hk' : (Cond.classLink own ik cls).before args s' = true := vx_ot_at hW0 hvm.symm (hgood _ List.mem_cons_self) hk
  have hini' : (Cond.initialized cls).before args s' = true := vx_ot_at hW0 hvm.symm (hgood _ (List.mem_cons_of_mem _ List.mem_cons_self)) hini
  have hU' : vx_Zq Bundle.tN "UNASSIGNED_STACK" Bundle.steD A s' s'.heap := by rw [hhp]; exact vx_Zq.moved hW0.alike (hU.kept hS.2.1)
  have hN' : vx_Zq Bundle.tN "SUPPRESSED_SENTINEL" Bundle.listD A s' s'.heap := by rw [hhp]; exact vx_Zq.moved hW0.alike (hN.kept hS.2.1)
  have h : ∀ w ∈ Bundle.ownAtoms own ic cls names, w.before args s' = true := vx_own hat' (vx_isRefq hU'.1) (vx_isRefq hN'.1) hU'.2.word hN'.2.word
  have hown' : s'.vm.findClass own = some m.cls := by rw [hvm]; exact hown
  have hins : (Cond.instantiable cls 6).before args s' = true := h _ (by simp [Bundle.ownAtoms])
  obtain ⟨vm₁, cX, kX, hfX, hkX, -, -, X₁, st1⟩ := Y.newCold hexec (own := own) (C := cls) (index := ik) (n := 6) hown' hk' hins hini'
    (g := F0 m pc ls rest) rfl (by rw [hb]; exact d0) (Nat.le_refl _) (Nat.le_refl _)
  generalize hT1 : (T.setVm vm₁).pushCell { cls := cX, slots := kX.instanceTypes.map defaultValue, vm := .none } = T1 at X₁ st1
  have hcat : (Value.ref T.heap.size).category = 1 := rfl
  have hcellA : T1.heap[T.heap.size]? = some (freshCell cX kX) := by rw [← hT1]; exact State.heap_pushCell_size _ _
  have d3' : decode c.code (pc + 3) = .ok (.dup, 1) := by rw [hb]; exact d3
  have d4' : decode c.code (pc + 4) = .ok (.ldc is, 2) := by rw [hb]; exact d4
  have hstr' : vk_R own is text sa s' := vk_R.warm hW0 hstr
  obtain ⟨U, hsteps, hrun, hend, hW, hsame, ce, hce, hO⟩ := X₁.ctorThrowS hexec htr (own := own) (cls := cls) (names := names) (ic := ic) hown' hcls hnames h (fun x hx => nomatch hx) hfX hkX hcellA (by rw [hhp, hT]; exact Nat.le_refl _) (msg := .ref sa) rfl
    (g := { method := m, pc := pc + 6, locals := ls, stack := .ref sa :: .ref T.heap.size :: .ref T.heap.size :: rest, locked := none }) rfl hsize rfl rfl (rest := rest) rfl
    (by rw [hb]; exact d6) (by rw [hb]; exact d9) hout hRframes (by simp only [List.map_cons, List.sum_cons, hcat]; omega) hlocks
  obtain ⟨f1, f2⟩ := vx_frame hsame
  rw [hhp] at f1 f2
  have hWs : s.WarmedH U.vm := State.WarmedH.trans hW0 hW
  have hcl : s.vm.findClass cls = some ce.cls := by
    have h9 := hO.cls
    rw [hvm] at h9
    exact h9
  have hall : s.sameButNew ({ U with vm := s.vm } : State) locs mc ms := by
    subst hA
    obtain ⟨e1, e2⟩ := hsame
    rw [State.setFrames_setFrames] at e1
    have h2 : (T.setVm s.vm).sameButNew ({ U with vm := s.vm } : State) [] (0 + 1) (0 + 6) := ⟨e1, e2⟩
    have h3 := X.same.trans h2
    rw [List.append_nil] at h3
    exact h3.mono hc hs
  refine ⟨U, ?_, .threw T.heap.size, hrun, hend, Or.inr ⟨T.heap.size, rfl, cls, ce, locs, hx U hWs.alike f1 (fun q hq => f2 q hq (fun z hz => nomatch hz)), hce, hO.vm, hcl, hWs, hall, hf⟩⟩
  refine st1 _ ?_
  show Steps p.tables e below (T1.setTop { method := m, pc := pc + 3, locals := ls, stack := .ref T.heap.size :: rest, locked := none }) _
  jvm_step X₁.here [X₁.here.top, hexec, d3', Value.category]
  exact X₁.ldcString hexec (own := own) (text := text) (index := is) (a := sa) hown' hstr'.1 hstr'.2
    (g := { method := m, pc := pc + 4, locals := ls, stack := .ref T.heap.size :: .ref T.heap.size :: rest, locked := none }) rfl d4' _ hsteps
/-- 'throw new E("text")', the text by a wide index -/
theorem vx_throwSW {cc : ByteArray} {pc : Nat} (hexec : p.tables.exec = Jvm.exec) (hb : c.code = cc) (hl : l.stackTraces = false) {own cls text : String} {names : List String} {ik is ic mc ms sa : Nat} {A : Nat → Prop}
    (hown : s.vm.findClass own = some m.cls) (hcls : Bundle.fit cls = true) (hnames : ∀ n ∈ names, Bundle.fit n = true)
    (hk : (Cond.classLink own ik cls).before args s = true) (hini : (Cond.initialized cls).before args s = true) (hstr : vk_R own is text sa s) (hat : ∀ w ∈ vx_atS own ic cls names, w.before args s = true)
    (hgood : ∀ w ∈ Cond.classLink own ik cls :: Cond.initialized cls :: vx_atS own ic cls names, vx_ot w = true)
    (hU : vx_Zq Bundle.tN "UNASSIGNED_STACK" Bundle.steD A s s.heap) (hN : vx_Zq Bundle.tN "SUPPRESSED_SENTINEL" Bundle.listD A s s.heap) (hS : va_S A s.heap H locs) (hsize : ls.size = c.maxLocals)
    (d0 : decode cc pc = .ok (.new ik, 3)) (d3 : decode cc (pc + 3) = .ok (.dup, 1)) (d4 : decode cc (pc + 4) = .ok (.ldc_w is, 3)) (d7 : decode cc (pc + 7) = .ok (.invokespecial ic, 3)) (d10 : decode cc (pc + 10) = .ok (.athrow, 1))
    (hout : ∀ x ∈ c.exceptionTable.toList, covers x (pc + 10) = false)
    (hRframes : names.length + 3 < R.frames) (hRlocals : (rest.map fun v => v.category).sum + (13 * (names.length + 1) + 43) ≤ R.locals) (hRcells : cells + 1 ≤ R.cells) (hRslots : slots + 6 ≤ R.slots) (hlocks : meth.locks = false)
    (hx : ∀ t : State, s.vm.Alike t.vm → H.size ≤ t.heap.size → (∀ q : Nat, q < H.size → t.heap[q]? = H[q]?) → XC cls s t)
    (hf : ∀ z ∈ locs, free z.base) (hc : cells + 1 ≤ mc) (hs : slots + 6 ≤ ms) :
    W p l e R s m args below meth c H locs cells slots (vx_MQ below Qc XC args s mc ms free) (F0 m pc ls rest) := by
  intro T hT X
  have htr : e.platform.stackTraces = false := (show e.platform.stackTraces = l.stackTraces by rw [X.admits.platform]).trans hl
  have Y := vx_rebase X (R' := { frames := R.frames, locals := R.locals, cells := 1, slots := 6 }) (Nat.le_refl _) (Nat.le_refl _) hRcells hRslots
  obtain ⟨s', hA⟩ : ∃ z, z = (T.setVm s.vm).setFrames (.invoking m args :: below) := ⟨_, rfl⟩
  rw [← hA] at Y
  have hvm : s'.vm = s.vm := by rw [hA]; rfl
  have hhp : s'.heap = H := by rw [hA]; exact hT
  have hW0 : s.WarmedH s'.vm := by rw [hvm]; exact State.WarmedH.refl s
  have hat' : ∀ w ∈ vx_atS own ic cls names, w.before args s' = true := fun w hw => vx_ot_at hW0 hvm.symm (hgood w (List.mem_cons_of_mem _ (List.mem_cons_of_mem _ hw))) (hat w hw)
  have hk' : (Cond.classLink own ik cls).before args s' = true := vx_ot_at hW0 hvm.symm (hgood _ List.mem_cons_self) hk
  have hini' : (Cond.initialized cls).before args s' = true := vx_ot_at hW0 hvm.symm (hgood _ (List.mem_cons_of_mem _ List.mem_cons_self)) hini
  have hU' : vx_Zq Bundle.tN "UNASSIGNED_STACK" Bundle.steD A s' s'.heap := by rw [hhp]; exact vx_Zq.moved hW0.alike (hU.kept hS.2.1)
  have hN' : vx_Zq Bundle.tN "SUPPRESSED_SENTINEL" Bundle.listD A s' s'.heap := by rw [hhp]; exact vx_Zq.moved hW0.alike (hN.kept hS.2.1)
  have h : ∀ w ∈ Bundle.ownAtoms own ic cls names, w.before args s' = true := vx_own hat' (vx_isRefq hU'.1) (vx_isRefq hN'.1) hU'.2.word hN'.2.word
  have hown' : s'.vm.findClass own = some m.cls := by rw [hvm]; exact hown
  have hins : (Cond.instantiable cls 6).before args s' = true := h _ (by simp [Bundle.ownAtoms])
  obtain ⟨vm₁, cX, kX, hfX, hkX, -, -, X₁, st1⟩ := Y.newCold hexec (own := own) (C := cls) (index := ik) (n := 6) hown' hk' hins hini'
    (g := F0 m pc ls rest) rfl (by rw [hb]; exact d0) (Nat.le_refl _) (Nat.le_refl _)
  generalize hT1 : (T.setVm vm₁).pushCell { cls := cX, slots := kX.instanceTypes.map defaultValue, vm := .none } = T1 at X₁ st1
  have hcat : (Value.ref T.heap.size).category = 1 := rfl
  have hcellA : T1.heap[T.heap.size]? = some (freshCell cX kX) := by rw [← hT1]; exact State.heap_pushCell_size _ _
  have d3' : decode c.code (pc + 3) = .ok (.dup, 1) := by rw [hb]; exact d3
  have d4' : decode c.code (pc + 4) = .ok (.ldc_w is, 3) := by rw [hb]; exact d4
  have hstr' : vk_R own is text sa s' := vk_R.warm hW0 hstr
  obtain ⟨U, hsteps, hrun, hend, hW, hsame, ce, hce, hO⟩ := X₁.ctorThrowS hexec htr (own := own) (cls := cls) (names := names) (ic := ic) hown' hcls hnames h (fun x hx => nomatch hx) hfX hkX hcellA (by rw [hhp, hT]; exact Nat.le_refl _) (msg := .ref sa) rfl
    (g := { method := m, pc := pc + 7, locals := ls, stack := .ref sa :: .ref T.heap.size :: .ref T.heap.size :: rest, locked := none }) rfl hsize rfl rfl (rest := rest) rfl
    (by rw [hb]; exact d7) (by rw [hb]; exact d10) hout hRframes (by simp only [List.map_cons, List.sum_cons, hcat]; omega) hlocks
  obtain ⟨f1, f2⟩ := vx_frame hsame
  rw [hhp] at f1 f2
  have hWs : s.WarmedH U.vm := State.WarmedH.trans hW0 hW
  have hcl : s.vm.findClass cls = some ce.cls := by
    have h9 := hO.cls
    rw [hvm] at h9
    exact h9
  have hall : s.sameButNew ({ U with vm := s.vm } : State) locs mc ms := by
    subst hA
    obtain ⟨e1, e2⟩ := hsame
    rw [State.setFrames_setFrames] at e1
    have h2 : (T.setVm s.vm).sameButNew ({ U with vm := s.vm } : State) [] (0 + 1) (0 + 6) := ⟨e1, e2⟩
    have h3 := X.same.trans h2
    rw [List.append_nil] at h3
    exact h3.mono hc hs
  refine ⟨U, ?_, .threw T.heap.size, hrun, hend, Or.inr ⟨T.heap.size, rfl, cls, ce, locs, hx U hWs.alike f1 (fun q hq => f2 q hq (fun z hz => nomatch hz)), hce, hO.vm, hcl, hWs, hall, hf⟩⟩
  refine st1 _ ?_
  show Steps p.tables e below (T1.setTop { method := m, pc := pc + 3, locals := ls, stack := .ref T.heap.size :: rest, locked := none }) _
  jvm_step X₁.here [X₁.here.top, hexec, d3', Value.category]
  exact X₁.ldcStringW hexec (own := own) (text := text) (index := is) (a := sa) hown' hstr'.1 hstr'.2
    (g := { method := m, pc := pc + 4, locals := ls, stack := .ref T.heap.size :: .ref T.heap.size :: rest, locked := none }) rfl d4' _ hsteps
end Ends
section Bodies
variable {l : Launch}
theorem vx_ofW {y : MethodName} {ws ws' : List Cond} {rm : Room} {Pc : Array Value → State → Prop} {Qc : Array Value → State → Outcome → State → Prop} {XC : String → State → State → Prop} {mc ms : Nat} {free : Addr → Prop} {cc : ByteArray} {maxL : Nat} {ret : Option FieldType}
    (hy : plainName y.cls = true) (hw : ws = Cond.code y cc maxL ret :: ws')
    (body : ∀ p e s m args below meth c s₁, BodyLoose p l y (headSpec ws rm) cc maxL ret e s m args below meth c s₁ → c.maxLocals = maxL → (∀ x ∈ c.exceptionTable.toList, False) → Pc args s →
      W p l e (headSpec ws rm).room s m args below meth c s.heap [] 0 0 (vx_MQ below Qc XC args s mc ms free) (entryFrame m args maxL)) : vx_Met l y ws rm Pc Qc XC mc ms free := by
  refine MetFree.of_bodyS (code := cc) (maxLocals := maxL) (ret := ret) hy ?_ ?_
  · intro args s m h hn
    obtain ⟨meth, c, h1, h2, h3, h4, h5, h6, -, -⟩ := Cond.code_spec hn (atoms_spec (ws := ws) h _ (by rw [hw]; exact List.mem_cons_self))
    exact ⟨meth, c, h1, h2, h3, h4, h5, h6⟩
  · intro p e s m args below meth c s₁ B hml hP _
    have hh0 : s₁.heap = s.heap := by rw [B.state]; rfl
    have ht : ∀ x ∈ c.exceptionTable.toList, False := by
      obtain ⟨meth9, c9, h1, h2, -, -, -, -, h7, -⟩ := Cond.code_spec B.named (atoms_spec (ws := ws) B.pre _ (by rw [hw]; exact List.mem_cons_self))
      cases Option.some.inj (h1.symm.trans B.method)
      cases Option.some.inj (h2.symm.trans (Stand.of_body B).code)
      intro x hx
      rw [Array.isEmpty_iff.mp h7] at hx
      cases hx
    obtain ⟨t, a1, o, b1, b2, b3⟩ := body p e s m args below meth c s₁ B hml ht hP s₁ hh0 (Stand.of_body B)
    exact ⟨t, o, a1, b1, b2, b3⟩
/-- the table of a body with handlers -/
theorem vx_table {p : Program} {x y : MethodName} {S : Spec} {cc bytes : ByteArray} {maxL maxL' : Nat} {ret ret' : Option FieldType} {e : Env} {s s₁ : State} {m : MethodId} {args : Array Value} {below : List Frame} {meth : Method} {c : Code} {hh : List (Nat × Nat × Nat × Nat)}
    (B : BodyLoose p l y S cc maxL ret e s m args below meth c s₁) (h : (Cond.codeWith y bytes maxL' ret' hh).before args s = true) : c.exceptionTable.toList = tableOf hh := by
  obtain ⟨m9, meth9, c9, hn9, h1, h2, -, -, h6, -⟩ := Cond.codeWith_spec h
  cases Option.some.inj (hn9.symm.trans B.named)
  cases Option.some.inj (h1.symm.trans B.method)
  cases Option.some.inj (h2.symm.trans (Stand.of_body B).code)
  rw [← h6, table_eq]
end Bodies
end VXA
/-! ===== END ===== -/
/-! ===== BEGIN a static call of a method with an exception table ===== -/
section VXS
variable {p : Program} {l : Launch} {e : Env} {R : Room} {s : State} {m : MethodId} {args : Array Value} {below : List Frame} {meth : Method} {c : Code} {T : State} {H : Heap} {locs : List Loc} {cells slots : Nat}
abbrev vx_CSW (R : Room) (s : State) (args : Array Value) (own : String) (index : Nat) (y : MethodName) (bytes : ByteArray) (maxL : Nat) (ret : Option FieldType) (hh : List (Nat × Nat × Nat × Nat)) (ws : List Cond) (rm : Room) (mc ms n : Nat) : Prop :=
  (rm.cells = mc ∧ rm.slots = ms ∧ rm.frames + 1 ≤ R.frames ∧ 8 + (maxL + 11) + rm.locals ≤ R.locals ∧ (∀ w ∈ ws, ∀ (a' : Array Value) (U : State), s.WarmedH U.vm → w.before a' U = true) ∧ Cond.codeWith y bytes maxL ret hh ∈ ws) ∧
  (Cond.codeWith y bytes maxL ret hh).before args s = true ∧ (Cond.initialized y.cls).before args s = true ∧ (y.cls ≠ "java/lang/invoke/MethodHandle" ∧ y.cls ≠ "java/lang/invoke/VarHandle") ∧
  (∀ sig, parseMethodDescriptor y.desc = some sig → n = sig.parameters.length) ∧ (Cond.methodLink own index y).before args s = true ∧ (Cond.static y).before args s = true
theorem vx_cwSW {own : String} {index maxL mc ms : Nat} {y : MethodName} {bytes : ByteArray} {ret : Option FieldType} {hh : List (Nat × Nat × Nat × Nat)} {Ts ws ws' : List Cond} {rm : Room} (n : Nat) (ht : ∀ w ∈ Ts, w.before args s = true) (hT : GoodIn Ts (va_wsS own index y ws)) (hw : ws = Cond.codeWith y bytes maxL ret hh :: ws') (hrc : rm.cells = mc) (hrs : rm.slots = ms)
    (hd : y.cls ≠ "java/lang/invoke/MethodHandle" ∧ y.cls ≠ "java/lang/invoke/VarHandle" ∧ (parseMethodDescriptor y.desc).map (fun d => d.parameters.length) = some n) (hR : rm.frames + 1 ≤ R.frames ∧ 8 + (maxL + 11) + rm.locals ≤ R.locals) :
    vx_CSW R s args own index y bytes maxL ret hh ws rm mc ms n := by
  have ok : ∀ w ∈ va_wsS own index y ws, w.before args s = true := fun w h => ht w (hT w h).1
  have hG : GoodIn Ts ws := fun w h => hT w (by unfold va_wsS; exact List.mem_append_right _ h)
  have hc : Cond.codeWith y bytes maxL ret hh ∈ ws := by rw [hw]; exact List.mem_cons_self
  refine ⟨⟨hrc, hrs, hR.1, hR.2, pay_in ht hG, hc⟩, ht _ (hG _ hc).1, ok _ (by simp [va_wsS]), ⟨hd.1, hd.2.1⟩, fun sig h => ?_, ok _ (by simp [va_wsS]), ok _ (by simp [va_wsS])⟩
  have h2 := hd.2.2
  rw [h] at h2
  exact (Option.some.inj h2).symm
theorem vx_callSW (X : Stand p l e R s m args below meth c T locs cells slots) (hexec : p.tables.exec = Jvm.exec) {own : String} {index : Nat} {y : MethodName} {bytes : ByteArray} {maxL : Nat} {ret : Option FieldType} {hh : List (Nat × Nat × Nat × Nat)}
    (hown : s.vm.findClass own = some m.cls) (hlink : (Cond.methodLink own index y).before args s = true) (hstat : (Cond.static y).before args s = true) (hinit : (Cond.initialized y.cls).before args s = true)
    (hcode : (Cond.codeWith y bytes maxL ret hh).before args s = true) (hy : y.cls ≠ "java/lang/invoke/MethodHandle" ∧ y.cls ≠ "java/lang/invoke/VarHandle")
    {W9 : Nat} {Pre : Pt → Array Value → Prop} {Post : Pt → Array Value → Option Value → Pt → Prop} (hK : Back l R p e below s args y 3 W9 Pre Post)
    {g : JFrame} (hg : g.method = m) (hsize : g.locals.size = c.maxLocals) {argsL rest : List Value} (hlen : ∀ sig, parseMethodDescriptor y.desc = some sig → argsL.length = sig.parameters.length)
    (hstack : g.stack = argsL.reverse ++ rest) (hW : 2 * g.monitorRoom + (rest.map fun v => v.category).sum ≤ W9) (hdg : decode c.code g.pc = .ok (.invokestatic index, 3))
    (hpre : ∀ vm₁, s.WarmedH vm₁ → Pre ⟨T.setVm vm₁, locs, cells, slots⟩ argsL.toArray) :
    ∃ (v : Option Value) (vm₁ : Vm) (B : Pt), s.WarmedH vm₁ ∧ Stand p l e R s m args below meth c B.U B.locs B.cells B.slots ∧ Post ⟨T.setVm vm₁, locs, cells, slots⟩ argsL.toArray v B ∧
      ∀ target, Steps p.tables e below (B.U.setTop { g with pc := g.pc + 3, stack := v.toList ++ rest }) target → Steps p.tables e below (T.setTop g) target := by
  obtain ⟨mk, methM, cM, hnamed, hmethM, -, -, -, -, -, -, hsigM⟩ := Cond.codeWith_spec hcode
  have hstatic : methM.isStatic = true := Cond.static_spec hnamed hmethM hstat
  obtain ⟨kP, hkP, -⟩ := className_of_methodNamed hnamed
  have hinitP : kP.init = .initialized := Cond.initialized_spec (findClass_of_methodNamed hnamed) hkP hinit
  obtain ⟨vm₁, X₁, hstep₁⟩ := X.invokestatic hexec hown hlink hnamed hmethM hstatic hkP hinitP hy (g := g) hg (argsL := argsL) (rest := rest) (hlen _ hsigM) hstack hdg
  obtain ⟨v, B, X', hpost, hsteps⟩ := hK m meth c ⟨T.setVm vm₁, locs, cells, slots⟩ { g with stack := rest } (.invokestatic index) mk argsL.toArray X₁ hg hsize hdg hW (X₁.named hnamed) (hpre vm₁ X₁.warmed)
  exact ⟨v, vm₁, B, X₁.warmed, X', hpost, fun target h => hstep₁ _ fun acts => by rw [doInvoke_state]; exact hsteps.trans h⟩
theorem vx_runSW {y : MethodName} {bytes cc : ByteArray} {maxL nL mc ms n index : Nat} {ret : Option FieldType} {hh : List (Nat × Nat × Nat × Nat)} {ws : List Cond} {rm : Room} {Pc : Array Value → State → Prop} {Qc : Array Value → State → Outcome → State → Prop} {free : Addr → Prop} {Ts : List Cond} {own : String} {As rest : List Value} {g : JFrame}
    (S : CallFix p m c cc nL s args Ts own) (hM : Met l y ws rm Pc Qc mc ms free) (cw : vx_CSW R s args own index y bytes maxL ret hh ws rm mc ms n) (hp : PreS s H Pc As)
    (hg : g.method = m) (hn : As.length = n) (hsize : g.locals.size = nL) (hstack : g.stack = As.reverse ++ rest) (hW : 2 * g.monitorRoom + (rest.map fun v => v.category).sum ≤ 8) (hdg : decode cc g.pc = .ok (.invokestatic index, 3)) (hf : cells + mc ≤ R.cells ∧ slots + ms ≤ R.slots) :
    va_Run p l e R s m args below meth c H locs cells slots mc ms g rest (Qc As.toArray) (free) := by
  obtain ⟨⟨hrc, hrs, hfr, hlo, hws, hcw⟩, hcode, hini, hy, hlen, hl, hstt⟩ := cw
  have hK : Back l R p e below s args y 3 8 (PreOf R mc ms Pc) (PostOf Qc mc ms free) := va_backW (hh := hh) (bytes := bytes) (maxL := maxL) (ret := ret) hM hp.1 hrc hrs hfr hlo hws hcw (fun a' U hW => word_at hW (Or.inl (by first | rfl | simp [Cond.onTables, Cond.keeps, Cond.steady])) hini)
  obtain ⟨hx, hb, hml, ho, -⟩ := S
  intro T hT X
  obtain ⟨v, vm₁, ⟨U', l2, c2, s2⟩, hW₁, X', ⟨g', mk, t, L, e1, e2, hq, h1, hL, h2, h3⟩, st⟩ := vx_callSW X hx (hh := hh) (bytes := bytes) (maxL := maxL) (ret := ret) ho hl hstt hini hcode hy hK hg (hsize.trans hml.symm) (argsL := As) (rest := rest) (fun sig h => hn.trans (hlen sig h)) hstack hW (by rw [hb]; exact hdg)
    (fun vm₁ hW₁ => ⟨hf.1, hf.2, hp.2 (T.setVm vm₁) hT hW₁⟩)
  dsimp only [Pt.U, Pt.locs, Pt.cells, Pt.slots] at X' e1 e2 h1 h2 h3 st
  subst h1; subst h2; subst h3
  exact ⟨v, (T.setVm vm₁).calling g' mk As.toArray, t, U', L, hT, X', hL, e1, e2, hq, st⟩
/-- not caught here, past rows that name other classes: it goes on to the caller -/
theorem vx_outP {p : Program} {l : Launch} {e : Env} {R : Room} {s : State} {m : MethodId} {args : Array Value} {below : List Frame} {meth : Method} {c : Code} {H : Heap} {locs : List Loc} {cells slots : Nat} {free : Addr → Prop} {ls : Array Slot} {rest : List Value} {Qc : Array Value → State → Outcome → State → Prop} {XC : String → State → State → Prop}
    {pc : Nat} {own E : String} {ce : Cell} {q : Addr} {mc ms : Nat} (hown : s.vm.findClass own = some m.cls) (hlocks : meth.locks = false)
    (hpass : ∀ z ∈ c.exceptionTable.toList, covers z pc = false ∨ (z.catchType ≠ 0 ∧ ∃ nm : String, (Cond.classLink own z.catchType nm).before args s = true ∧ va_Nc E nm s)) (hcell : H[q]? = some ce) (hv : ce.vm = .none) (hcl : s.vm.findClass E = some ce.cls)
    (hx : ∀ t : State, t.heap = H → s.vm.Alike t.vm → XC E s t) (hf : ∀ z ∈ locs, free z.base) (hc : cells ≤ mc) (hs : slots ≤ ms) :
    vx_W p l e R s m args below meth c H locs cells slots (vx_MQ below Qc XC args s mc ms free) (F0 m pc ls rest) q := by
  intro T hT X
  have hpl : e.platform.magicAccessors = ({} : Platform).magicAccessors := by rw [X.admits.platform]
  obtain ⟨vm', hW', X', st⟩ := X.outThrough hlocks q (g := F0 m pc ls rest) rfl rfl rfl (cell := ce) (by rw [hT]; exact hcell) (by rw [hv]; rfl)
    (by obtain ⟨k9, h9, -⟩ := Vm.findClass_spec hcl; exact ⟨k9, h9⟩) (fun z hz => by
      rcases hpass z hz with h | ⟨hz0, nm, hl1, hn1⟩
      · exact Or.inl h
      · obtain ⟨c6, hc6, hcl6⟩ := Cond.classLink_spec hown hl1 e.platform hpl
        obtain ⟨a8, b8, h1, h2, h3⟩ := hn1
        cases Option.some.inj (h1.symm.trans hcl)
        cases Option.some.inj (h2.symm.trans hc6)
        exact Or.inr ⟨hz0, _, hcl6, h3⟩)
  obtain ⟨g₀, hfr⟩ := X'.frames_eq
  have hcell9 : ((T.setVm vm').setFrames (.throwing q :: below)).heap[q]? = some ce := by
    show T.heap[q]? = some ce
    rw [hT]; exact hcell
  have hend : Ended ((T.setVm vm').setFrames (.throwing q :: below)) below (.threw q) := State.frames_setFrames _ (State.cur_lt_of_frames hfr)
  refine ⟨(T.setVm vm').setFrames (.throwing q :: below), ?_, .threw q, X'.here.running, hend, Or.inr ⟨q, rfl, E, ce, locs, hx _ hT (X'.ends _).1.alike, hcell9, hv, hcl, (X'.ends _).1, (X'.ends _).2.mono hc hs, hf⟩⟩
  rw [X.pushThrowing_eq]
  exact st
/-- a thing of a world lies in the heap -/
theorem vx_lt {D : va_G} {cl : List vw_C} {ws : va_W} {H1 : Heap} (h : va_P D cl ws H1) {k : Nat} {q : Nat × va_E} (hk : ws[k]? = some q) : q.1 < H1.size := (h k q hk).lt
end VXS
/-! ===== END ===== -/
/-! ===== BEGIN methods with a table of their own: called by a name, returning or throwing ===== -/
section VXH
/-! vx_backW, vx_callVX, vx_callSX, vx_callVW, vx_runVW, vx_runVX, vx_runSX, vx_ofWH follow the same proofs as their sisters above (Free/Laws.lean, Shelf42/LK1.lean); vx_outP calls Shelf42/NT130.lean (outThrough). -/
section
variable {l : Launch} {R : Room} {p : Program} {e : Env} {below : List Frame} {s : State} {sargs : Array Value} {y : MethodName} {len W9 : Nat}
theorem vx_backW {ws : List Cond} {rm : Room} {Pc : Array Value → State → Prop} {Qc : Array Value → State → Outcome → State → Prop} {XC : String → State → State → Prop} {mc ms : Nat} {free : Addr → Prop} {bytes : ByteArray} {maxL : Nat} {ret : Option FieldType} {hh : List (Nat × Nat × Nat × Nat)}
    (hM : vx_Met l y ws rm Pc Qc XC mc ms free) (hblind : FrameBlind Pc) (hrc : rm.cells = mc) (hrs : rm.slots = ms)
    (hframes : rm.frames + 1 ≤ R.frames) (hlocals : W9 + (maxL + 11) + rm.locals ≤ R.locals)
    (hws : ∀ w ∈ ws, ∀ a' U, s.WarmedH U.vm → w.before a' U = true) (hcode : Cond.codeWith y bytes maxL ret hh ∈ ws) (hinit : ∀ a' U, s.WarmedH U.vm → (Cond.initialized y.cls).before a' U = true) :
    vx_Back l R p e below s sargs y len W9 (PreOf R mc ms Pc) (PostOf Qc mc ms free) (vx_Post XC mc ms free) := by
  intro m meth c A g ig mk a X hg hsize hdg hW hn hp
  have h1 : (headSpec ws rm).pre.before a A.U = true := atoms_intro fun w hw => hws w hw _ _ X.warmed
  have h2 : (Cond.codeWith y bytes maxL ret hh).before a A.U = true := hws _ hcode _ _ X.warmed
  have h3 : (Cond.initialized y.cls).before a A.U = true := hinit _ _ X.warmed
  have h4 : A.cells + (headSpec ws rm).room.cells ≤ R.cells := by rw [show (headSpec ws rm).room.cells = mc from hrc]; exact hp.1
  have h5 : A.slots + (headSpec ws rm).room.slots ≤ R.slots := by rw [show (headSpec ws rm).room.slots = ms from hrs]; exact hp.2.1
  have hPc : Pc a (A.U.calling g mk a) := hblind _ _ _ _ hp.2.2
  obtain ⟨U, Ls, c0, s0⟩ := A
  dsimp only [Pt.U, Pt.locs, Pt.cells, Pt.slots] at h1 h2 h3 h4 h5 X hn hPc ⊢
  obtain ⟨m9, methY, cY, hn9, hmY, hcY, -, hlY, -⟩ := Cond.codeWith_spec h2
  cases Option.some.inj (hn9.symm.trans hn)
  obtain ⟨kY, hkY, -⟩ := className_of_methodNamed hn
  have hinitY : kY.init = .initialized := Cond.initialized_spec (findClass_of_methodNamed hn) hkY h3
  have h : At U g.method c below := by rw [hg]; exact X.here
  have hlocals9 : W9 + (maxL + 11) + (headSpec ws rm).room.locals ≤ R.locals := hlocals
  have happ : (headSpec ws rm).appliesLoose y e.platform (U.calling g mk a) = true :=
    Spec.appliesLoose_calling (g := g) h hdg hn hkY hinitY
      (X.room_calling (g := g) (R' := (headSpec ws rm).room) hsize hmY hcY hframes (by rw [hlY]; omega) h4 h5) h1
  obtain ⟨mid, hmid⟩ := h.above
  have hfr : (U.setTop g).frames = (.java g :: mid) ++ below := by rw [State.frames_setTop' g h.top, hmid]; rfl
  obtain ⟨o, s₂, hsteps, -, hend, hq⟩ := Steps.callFree hM p X.admits X.cas X.clock (acts := []) hfr happ hPc trivial
  have hq' : vx_Q Qc XC mc ms free a (U.calling g mk a) o s₂ := hq
  rw [State.frames_setTop' g h.top] at hend
  obtain ⟨g₀, hg0⟩ := Option.isSome_iff_exists.mp h.top
  obtain ⟨r, hr⟩ := State.topJava?_eq_some.mp hg0
  have hr' : (({ U with heap := s₂.heap, slotsUsed := s₂.slotsUsed } : State).setVm s₂.vm).frames = .java g₀ :: r := hr
  rcases hq' with ⟨hqc, L, hfe, hL⟩ | ⟨q, rfl, E, ce, L, hx, hce, hcv, hcl, hW₂, hsm, hL⟩
  · obtain ⟨⟨v, rfl⟩, hW₂, e2, q2, q3, q4, q5, q6⟩ := id hfe
    have e3 : s₂ = ({ (U.calling g mk a).setFrames s₂.frames with heap := s₂.heap, slotsUsed := s₂.slotsUsed } : State).setVm s₂.vm := by
      have : s₂ = ({ s₂ with vm := (U.calling g mk a).vm } : State).setVm s₂.vm := rfl
      rw [e2] at this
      exact this
    obtain ⟨c₂, i₂, len₂, hc₂, hd₂, hf₂⟩ := hend
    have hW' : U.WarmedH s₂.vm := hW₂
    have hcc : c₂ = c := by
      have h1 : s₂.code? g.method = U.code? g.method := by
        rw [State.code?_eq, State.code?_eq, hW'.alike.method?]
      exact Option.some.inj (hc₂.symm.trans (h1.trans h.code))
    subst hcc
    have hlen : len₂ = len := by rw [hdg] at hd₂; cases hd₂; rfl
    subst hlen
    have hs₂ : s₂ = (({ U with heap := s₂.heap, slotsUsed := s₂.slotsUsed } : State).setVm s₂.vm).setTop { g with pc := g.pc + len₂, stack := v.toList ++ g.stack } := by
      refine e3.trans ?_
      rw [hf₂, State.calling_eq h.top, State.setFrames_setFrames, State.setTop_of_frames _ hr', hr]
      rfl
    have hsame : U.sameButNew ({ U with heap := s₂.heap, slotsUsed := s₂.slotsUsed } : State) L mc ms := by
      refine ⟨?_, q2, q3, q4, q5, q6⟩
      obtain ⟨t, ht, -⟩ := State.frames_cons hr
      show ({ U with heap := s₂.heap, slotsUsed := s₂.slotsUsed } : State) = { U.setFrames U.frames with heap := s₂.heap, slotsUsed := s₂.slotsUsed }
      rw [State.setFrames_self ht]
    subst hg
    refine Or.inl ⟨v, ⟨(({ U with heap := s₂.heap, slotsUsed := s₂.slotsUsed } : State).setVm s₂.vm), Ls ++ L, c0 + mc, s0 + ms⟩,
      ⟨X.admits, X.cas, X.clock, X.frames, X.room, X.hears, X.method, X.code, (X.here.setHeapUsed s₂.heap s₂.slotsUsed).setVm hW'.alike, X.tail, State.WarmedH.trans X.warmed hW', X.limits, X.bytes, X.same.trans (hsame.setVm s.vm)⟩,
      ⟨g, mk, s₂, L, rfl, rfl, hqc, rfl, hL, rfl, rfl⟩, ?_⟩
    show Steps p.tables e below _ ((({ U with heap := s₂.heap, slotsUsed := s₂.slotsUsed } : State).setVm s₂.vm).setTop { g with pc := g.pc + len₂, stack := v.toList ++ g.stack })
    rw [← hs₂]
    exact hsteps
  · obtain ⟨e2, q2, q3, q4, q5, q6⟩ := id hsm
    have e3 : s₂ = ({ (U.calling g mk a).setFrames s₂.frames with heap := s₂.heap, slotsUsed := s₂.slotsUsed } : State).setVm s₂.vm := by
      have : s₂ = ({ s₂ with vm := (U.calling g mk a).vm } : State).setVm s₂.vm := rfl
      rw [e2] at this
      exact this
    have hf₂ : s₂.frames = .throwing q :: .java g :: U.frames.tail := hend
    have hW' : U.WarmedH s₂.vm := hW₂
    have hs₂ : s₂ = ((({ U with heap := s₂.heap, slotsUsed := s₂.slotsUsed } : State).setVm s₂.vm).setTop g).pushFrame (.throwing q) := by
      refine e3.trans ?_
      rw [hf₂, State.calling_eq h.top, State.setFrames_setFrames, State.pushFrame, State.frames_setTop _ hr', State.setTop_of_frames _ hr', State.setFrames_setFrames, hr]
      rfl
    have hsame : U.sameButNew ({ U with heap := s₂.heap, slotsUsed := s₂.slotsUsed } : State) L mc ms := by
      refine ⟨?_, q2, q3, q4, q5, q6⟩
      obtain ⟨t, ht, -⟩ := State.frames_cons hr
      show ({ U with heap := s₂.heap, slotsUsed := s₂.slotsUsed } : State) = { U.setFrames U.frames with heap := s₂.heap, slotsUsed := s₂.slotsUsed }
      rw [State.setFrames_self ht]
    subst hg
    refine Or.inr ⟨q, ⟨(({ U with heap := s₂.heap, slotsUsed := s₂.slotsUsed } : State).setVm s₂.vm), Ls ++ L, c0 + mc, s0 + ms⟩,
      ⟨X.admits, X.cas, X.clock, X.frames, X.room, X.hears, X.method, X.code, (X.here.setHeapUsed s₂.heap s₂.slotsUsed).setVm hW'.alike, X.tail, State.WarmedH.trans X.warmed hW', X.limits, X.bytes, X.same.trans (hsame.setVm s.vm)⟩,
      ⟨g, mk, s₂, L, E, ce, rfl, rfl, hx, hce, hcv, hcl, rfl, hL, rfl, rfl⟩, ?_⟩
    show Steps p.tables e below _ (((({ U with heap := s₂.heap, slotsUsed := s₂.slotsUsed } : State).setVm s₂.vm).setTop g).pushFrame (.throwing q))
    rw [← hs₂]
    exact hsteps
end
variable {p : Program} {l : Launch} {e : Env} {R : Room} {s : State} {m : MethodId} {args : Array Value} {below : List Frame} {meth : Method} {c : Code} {T : State} {H : Heap} {locs : List Loc} {cells slots : Nat}
theorem vx_callVX (X : Stand p l e R s m args below meth c T locs cells slots) (hexec : p.tables.exec = Jvm.exec) {own C : String} {index : Nat} {y : MethodName} {bytes : ByteArray} {maxL : Nat} {ret : Option FieldType} {hh : List (Nat × Nat × Nat × Nat)}
    (hown : s.vm.findClass own = some m.cls) (hlink : (Cond.methodLink own index y).before args s = true) (hinst : (Cond.instanceMethod y).before args s = true) (hsel : (Cond.selects C y y).before args s = true)
    (hcode : (Cond.codeWith y bytes maxL ret hh).before args s = true) (hy : y.cls ≠ "java/lang/invoke/MethodHandle" ∧ y.cls ≠ "java/lang/invoke/VarHandle")
    {W9 : Nat} {Pre : Pt → Array Value → Prop} {Post : Pt → Array Value → Option Value → Pt → Prop} {PostX : Pt → Array Value → Addr → Pt → Prop} (hK : vx_Back l R p e below s args y 3 W9 Pre Post PostX)
    {b : Addr} {cellB : Cell} (hcell : T.heap[b]? = some cellB) (hobj : cellB.vm.isStatics = false) (hcls : s.vm.findClass C = some cellB.cls)
    {g : JFrame} (hg : g.method = m) (hsize : g.locals.size = c.maxLocals) {argsL rest : List Value} (hlen : ∀ sig, parseMethodDescriptor y.desc = some sig → argsL.length = sig.parameters.length)
    (hstack : g.stack = argsL.reverse ++ .ref b :: rest) (hW : 2 * g.monitorRoom + (rest.map fun v => v.category).sum ≤ W9) (hdg : decode c.code g.pc = .ok (.invokevirtual index, 3))
    (hpre : ∀ vm₁, s.WarmedH vm₁ → Pre ⟨T.setVm vm₁, locs, cells, slots⟩ (Value.ref b :: argsL).toArray) :
    (∃ (v : Option Value) (vm₁ : Vm) (B : Pt), s.WarmedH vm₁ ∧ Stand p l e R s m args below meth c B.U B.locs B.cells B.slots ∧ Post ⟨T.setVm vm₁, locs, cells, slots⟩ (Value.ref b :: argsL).toArray v B ∧
      ∀ target, Steps p.tables e below (B.U.setTop { g with pc := g.pc + 3, stack := v.toList ++ rest }) target → Steps p.tables e below (T.setTop g) target) ∨
    (∃ (q : Addr) (vm₁ : Vm) (B : Pt), s.WarmedH vm₁ ∧ Stand p l e R s m args below meth c B.U B.locs B.cells B.slots ∧ PostX ⟨T.setVm vm₁, locs, cells, slots⟩ (Value.ref b :: argsL).toArray q B ∧
      Steps p.tables e below (T.setTop g) ((B.U.setTop { g with stack := rest }).pushFrame (.throwing q))) := by
  obtain ⟨mk, methM, hnamed, hmethM, hstM, habM⟩ := Cond.instanceMethod_spec hinst
  obtain ⟨m8, methM', cM, hn8, hmethM', -, -, -, -, -, -, hsigM⟩ := Cond.codeWith_spec hcode
  cases Option.some.inj (hn8.symm.trans hnamed)
  cases hmethM.symm.trans hmethM'
  obtain ⟨c2, r2, m2, q1, q2, q3, q4, kP, hkP, hkPi⟩ := Cond.selects_spec hsel
  cases hcls.symm.trans q1
  cases (State.methodFound?_of_named hnamed hy).symm.trans q2
  cases hnamed.symm.trans q3
  have hselP : selectMethod e.platform s.vm cellB.cls mk = .method mk := by rw [Launch.admits_selectMethod X.admits]; exact q4
  obtain ⟨vm₁, X₁, hstep₁⟩ := X.invokevirtual hexec hown hlink hnamed hmethM hstM hkP hkPi hy (a := b) (cell := cellB) hcell
    (fun z h => by rw [h] at hobj; cases hobj) hselP hmethM habM hkP hkPi (g := g) hg (argsL := argsL) (rest := rest) (hlen _ hsigM) hstack hdg
  rcases hK m meth c ⟨T.setVm vm₁, locs, cells, slots⟩ { g with stack := rest } (.invokevirtual index) mk (Value.ref b :: argsL).toArray X₁ hg hsize hdg hW (X₁.named hnamed) (hpre vm₁ X₁.warmed) with ⟨v, B, X', hpost, hsteps⟩ | ⟨q, B, X', hpost, hsteps⟩
  · exact Or.inl ⟨v, vm₁, B, X₁.warmed, X', hpost, fun target h => hstep₁ _ fun acts => by rw [doInvoke_state]; exact hsteps.trans h⟩
  · exact Or.inr ⟨q, vm₁, B, X₁.warmed, X', hpost, hstep₁ _ fun acts => by rw [doInvoke_state]; exact hsteps⟩
theorem vx_callSX (X : Stand p l e R s m args below meth c T locs cells slots) (hexec : p.tables.exec = Jvm.exec) {own : String} {index : Nat} {y : MethodName} {bytes : ByteArray} {maxL : Nat} {ret : Option FieldType} {hh : List (Nat × Nat × Nat × Nat)}
    (hown : s.vm.findClass own = some m.cls) (hlink : (Cond.methodLink own index y).before args s = true) (hstat : (Cond.static y).before args s = true) (hinit : (Cond.initialized y.cls).before args s = true)
    (hcode : (Cond.codeWith y bytes maxL ret hh).before args s = true) (hy : y.cls ≠ "java/lang/invoke/MethodHandle" ∧ y.cls ≠ "java/lang/invoke/VarHandle")
    {W9 : Nat} {Pre : Pt → Array Value → Prop} {Post : Pt → Array Value → Option Value → Pt → Prop} {PostX : Pt → Array Value → Addr → Pt → Prop} (hK : vx_Back l R p e below s args y 3 W9 Pre Post PostX)
    {g : JFrame} (hg : g.method = m) (hsize : g.locals.size = c.maxLocals) {argsL rest : List Value} (hlen : ∀ sig, parseMethodDescriptor y.desc = some sig → argsL.length = sig.parameters.length)
    (hstack : g.stack = argsL.reverse ++ rest) (hW : 2 * g.monitorRoom + (rest.map fun v => v.category).sum ≤ W9) (hdg : decode c.code g.pc = .ok (.invokestatic index, 3))
    (hpre : ∀ vm₁, s.WarmedH vm₁ → Pre ⟨T.setVm vm₁, locs, cells, slots⟩ argsL.toArray) :
    (∃ (v : Option Value) (vm₁ : Vm) (B : Pt), s.WarmedH vm₁ ∧ Stand p l e R s m args below meth c B.U B.locs B.cells B.slots ∧ Post ⟨T.setVm vm₁, locs, cells, slots⟩ argsL.toArray v B ∧
      ∀ target, Steps p.tables e below (B.U.setTop { g with pc := g.pc + 3, stack := v.toList ++ rest }) target → Steps p.tables e below (T.setTop g) target) ∨
    (∃ (q : Addr) (vm₁ : Vm) (B : Pt), s.WarmedH vm₁ ∧ Stand p l e R s m args below meth c B.U B.locs B.cells B.slots ∧ PostX ⟨T.setVm vm₁, locs, cells, slots⟩ argsL.toArray q B ∧
      Steps p.tables e below (T.setTop g) ((B.U.setTop { g with stack := rest }).pushFrame (.throwing q))) := by
  obtain ⟨mk, methM, cM, hnamed, hmethM, -, -, -, -, -, -, hsigM⟩ := Cond.codeWith_spec hcode
  have hstatic : methM.isStatic = true := Cond.static_spec hnamed hmethM hstat
  obtain ⟨kP, hkP, -⟩ := className_of_methodNamed hnamed
  have hinitP : kP.init = .initialized := Cond.initialized_spec (findClass_of_methodNamed hnamed) hkP hinit
  obtain ⟨vm₁, X₁, hstep₁⟩ := X.invokestatic hexec hown hlink hnamed hmethM hstatic hkP hinitP hy (g := g) hg (argsL := argsL) (rest := rest) (hlen _ hsigM) hstack hdg
  rcases hK m meth c ⟨T.setVm vm₁, locs, cells, slots⟩ { g with stack := rest } (.invokestatic index) mk argsL.toArray X₁ hg hsize hdg hW (X₁.named hnamed) (hpre vm₁ X₁.warmed) with ⟨v, B, X', hpost, hsteps⟩ | ⟨q, B, X', hpost, hsteps⟩
  · exact Or.inl ⟨v, vm₁, B, X₁.warmed, X', hpost, fun target h => hstep₁ _ fun acts => by rw [doInvoke_state]; exact hsteps.trans h⟩
  · exact Or.inr ⟨q, vm₁, B, X₁.warmed, X', hpost, hstep₁ _ fun acts => by rw [doInvoke_state]; exact hsteps⟩
theorem vx_callVW (X : Stand p l e R s m args below meth c T locs cells slots) (hexec : p.tables.exec = Jvm.exec) {own C : String} {index : Nat} {y : MethodName} {bytes : ByteArray} {maxL : Nat} {ret : Option FieldType} {hh : List (Nat × Nat × Nat × Nat)}
    (hown : s.vm.findClass own = some m.cls) (hlink : (Cond.methodLink own index y).before args s = true) (hinst : (Cond.instanceMethod y).before args s = true) (hsel : (Cond.selects C y y).before args s = true)
    (hcode : (Cond.codeWith y bytes maxL ret hh).before args s = true) (hy : y.cls ≠ "java/lang/invoke/MethodHandle" ∧ y.cls ≠ "java/lang/invoke/VarHandle")
    {W9 : Nat} {Pre : Pt → Array Value → Prop} {Post : Pt → Array Value → Option Value → Pt → Prop} (hK : Back l R p e below s args y 3 W9 Pre Post)
    {b : Addr} {cellB : Cell} (hcell : T.heap[b]? = some cellB) (hobj : cellB.vm.isStatics = false) (hcls : s.vm.findClass C = some cellB.cls)
    {g : JFrame} (hg : g.method = m) (hsize : g.locals.size = c.maxLocals) {argsL rest : List Value} (hlen : ∀ sig, parseMethodDescriptor y.desc = some sig → argsL.length = sig.parameters.length)
    (hstack : g.stack = argsL.reverse ++ .ref b :: rest) (hW : 2 * g.monitorRoom + (rest.map fun v => v.category).sum ≤ W9) (hdg : decode c.code g.pc = .ok (.invokevirtual index, 3))
    (hpre : ∀ vm₁, s.WarmedH vm₁ → Pre ⟨T.setVm vm₁, locs, cells, slots⟩ (Value.ref b :: argsL).toArray) :
    ∃ (v : Option Value) (vm₁ : Vm) (B : Pt), s.WarmedH vm₁ ∧ Stand p l e R s m args below meth c B.U B.locs B.cells B.slots ∧ Post ⟨T.setVm vm₁, locs, cells, slots⟩ (Value.ref b :: argsL).toArray v B ∧
      ∀ target, Steps p.tables e below (B.U.setTop { g with pc := g.pc + 3, stack := v.toList ++ rest }) target → Steps p.tables e below (T.setTop g) target := by
  obtain ⟨mk, methM, hnamed, hmethM, hstM, habM⟩ := Cond.instanceMethod_spec hinst
  obtain ⟨m8, methM', cM, hn8, hmethM', -, -, -, -, -, -, hsigM⟩ := Cond.codeWith_spec hcode
  cases Option.some.inj (hn8.symm.trans hnamed)
  cases hmethM.symm.trans hmethM'
  obtain ⟨c2, r2, m2, q1, q2, q3, q4, kP, hkP, hkPi⟩ := Cond.selects_spec hsel
  cases hcls.symm.trans q1
  cases (State.methodFound?_of_named hnamed hy).symm.trans q2
  cases hnamed.symm.trans q3
  have hselP : selectMethod e.platform s.vm cellB.cls mk = .method mk := by rw [Launch.admits_selectMethod X.admits]; exact q4
  obtain ⟨vm₁, X₁, hstep₁⟩ := X.invokevirtual hexec hown hlink hnamed hmethM hstM hkP hkPi hy (a := b) (cell := cellB) hcell
    (fun z h => by rw [h] at hobj; cases hobj) hselP hmethM habM hkP hkPi (g := g) hg (argsL := argsL) (rest := rest) (hlen _ hsigM) hstack hdg
  obtain ⟨v, B, X', hpost, hsteps⟩ := hK m meth c ⟨T.setVm vm₁, locs, cells, slots⟩ { g with stack := rest } (.invokevirtual index) mk (Value.ref b :: argsL).toArray X₁ hg hsize hdg hW (X₁.named hnamed) (hpre vm₁ X₁.warmed)
  exact ⟨v, vm₁, B, X₁.warmed, X', hpost, fun target h => hstep₁ _ fun acts => by rw [doInvoke_state]; exact hsteps.trans h⟩
abbrev vx_CVW (R : Room) (s : State) (args : Array Value) (own C : String) (index : Nat) (y : MethodName) (bytes : ByteArray) (maxL : Nat) (ret : Option FieldType) (hh : List (Nat × Nat × Nat × Nat)) (ws : List Cond) (rm : Room) (mc ms n : Nat) : Prop :=
  (rm.cells = mc ∧ rm.slots = ms ∧ rm.frames + 1 ≤ R.frames ∧ 8 + (maxL + 11) + rm.locals ≤ R.locals ∧ (∀ w ∈ ws, ∀ (a' : Array Value) (U : State), s.WarmedH U.vm → w.before a' U = true) ∧ Cond.codeWith y bytes maxL ret hh ∈ ws) ∧
  (Cond.codeWith y bytes maxL ret hh).before args s = true ∧ (Cond.initialized y.cls).before args s = true ∧ (y.cls ≠ "java/lang/invoke/MethodHandle" ∧ y.cls ≠ "java/lang/invoke/VarHandle") ∧
  (∀ sig, parseMethodDescriptor y.desc = some sig → n = sig.parameters.length) ∧ (Cond.methodLink own index y).before args s = true ∧ (Cond.instanceMethod y).before args s = true ∧ (Cond.selects C y y).before args s = true
theorem vx_cwVW {own C : String} {index maxL mc ms : Nat} {y : MethodName} {bytes : ByteArray} {ret : Option FieldType} {hh : List (Nat × Nat × Nat × Nat)} {Ts ws ws' : List Cond} {rm : Room} (n : Nat) (ht : ∀ w ∈ Ts, w.before args s = true) (hT : GoodIn Ts (wsV own index C y ws)) (hw : ws = Cond.codeWith y bytes maxL ret hh :: ws') (hrc : rm.cells = mc) (hrs : rm.slots = ms)
    (hd : y.cls = C ∧ y.cls ≠ "java/lang/invoke/MethodHandle" ∧ y.cls ≠ "java/lang/invoke/VarHandle" ∧ (parseMethodDescriptor y.desc).map (fun d => d.parameters.length) = some n) (hR : rm.frames + 1 ≤ R.frames ∧ 8 + (maxL + 11) + rm.locals ≤ R.locals) :
    vx_CVW R s args own C index y bytes maxL ret hh ws rm mc ms n := by
  obtain ⟨hC, hd⟩ := hd
  subst hC
  have ok : ∀ w ∈ wsV own index y.cls y ws, w.before args s = true := fun w h => ht w (hT w h).1
  have hG : GoodIn Ts ws := fun w h => hT w (by unfold wsV; exact List.mem_append_right _ h)
  have hc : Cond.codeWith y bytes maxL ret hh ∈ ws := by rw [hw]; exact List.mem_cons_self
  refine ⟨⟨hrc, hrs, hR.1, hR.2, pay_in ht hG, hc⟩, ht _ (hG _ hc).1, ok _ (by simp [wsV]), ⟨hd.1, hd.2.1⟩, fun sig h => ?_, ok _ (by simp [wsV]), ok _ (by simp [wsV]), ok _ (by simp [wsV])⟩
  have h2 := hd.2.2
  rw [h] at h2
  exact (Option.some.inj h2).symm
theorem vx_runVW {y : MethodName} {bytes cc : ByteArray} {maxL nL mc ms n index : Nat} {ret : Option FieldType} {hh : List (Nat × Nat × Nat × Nat)} {ws : List Cond} {rm : Room} {Pc : Array Value → State → Prop} {Qc : Array Value → State → Outcome → State → Prop} {free : Addr → Prop} {Ts : List Cond} {own C : String} {b : Addr} {As rest : List Value} {g : JFrame}
    (S : CallFix p m c cc nL s args Ts own) (hM : Met l y ws rm Pc Qc mc ms free) (cw : vx_CVW R s args own C index y bytes maxL ret hh ws rm mc ms n) (hp : PreV s H C b Pc As)
    (hg : g.method = m) (hn : As.length = n) (hsize : g.locals.size = nL) (hstack : g.stack = As.reverse ++ .ref b :: rest) (hW : 2 * g.monitorRoom + (rest.map fun v => v.category).sum ≤ 8) (hdg : decode cc g.pc = .ok (.invokevirtual index, 3)) (hf : cells + mc ≤ R.cells ∧ slots + ms ≤ R.slots) :
    va_Run p l e R s m args below meth c H locs cells slots mc ms g rest (Qc (Value.ref b :: As).toArray) free := by
  obtain ⟨⟨hrc, hrs, hfr, hlo, hws, hcw⟩, hcode, hini, hy, hlen, hl, hin, hse⟩ := cw
  have hK : Back l R p e below s args y 3 8 (PreOf R mc ms Pc) (PostOf Qc mc ms free) := va_backW (hh := hh) (bytes := bytes) (maxL := maxL) (ret := ret) hM hp.1 hrc hrs hfr hlo hws hcw (fun a' U hW => word_at hW (Or.inl (by first | rfl | simp [Cond.onTables, Cond.keeps, Cond.steady])) hini)
  obtain ⟨hx, hb, hml, ho, -⟩ := S
  obtain ⟨-, ⟨cellB, hcB, hoB, hclB⟩, hPc⟩ := hp
  intro T hT X
  obtain ⟨v, vm₁, ⟨U', l2, c2, s2⟩, hW₁, X', ⟨g', mk, t, L, e1, e2, hq, h1, hL, h2, h3⟩, st⟩ := vx_callVW X hx (C := C) (hh := hh) (bytes := bytes) (maxL := maxL) (ret := ret) ho hl hin hse hcode hy hK (by rw [hT]; exact hcB) hoB hclB hg (hsize.trans hml.symm) (argsL := As) (rest := rest) (fun sig h => hn.trans (hlen sig h)) hstack hW (by rw [hb]; exact hdg)
    (fun vm₁ hW₁ => ⟨hf.1, hf.2, hPc (T.setVm vm₁) hT hW₁⟩)
  dsimp only [Pt.U, Pt.locs, Pt.cells, Pt.slots] at X' e1 e2 h1 h2 h3 st
  subst h1; subst h2; subst h3
  exact ⟨v, (T.setVm vm₁).calling g' mk (Value.ref b :: As).toArray, t, U', L, hT, X', hL, e1, e2, hq, st⟩
section
variable {y : MethodName} {bytes cc : ByteArray} {maxL nL mc ms n index : Nat} {ret : Option FieldType} {ws : List Cond} {rm : Room} {Pc : Array Value → State → Prop} {Qc : Array Value → State → Outcome → State → Prop} {XC : String → State → State → Prop} {free : Addr → Prop} {Ts : List Cond} {own C : String} {b : Addr} {As rest : List Value} {g : JFrame}
theorem vx_runVX {hh : List (Nat × Nat × Nat × Nat)} (S : CallFix p m c cc nL s args Ts own) (hM : vx_Met l y ws rm Pc Qc XC mc ms free) (cw : vx_CVW R s args own C index y bytes maxL ret hh ws rm mc ms n) (hp : PreV s H C b Pc As)
    (hg : g.method = m) (hn : As.length = n) (hsize : g.locals.size = nL) (hstack : g.stack = As.reverse ++ .ref b :: rest) (hW : 2 * g.monitorRoom + (rest.map fun v => v.category).sum ≤ 8) (hdg : decode cc g.pc = .ok (.invokevirtual index, 3)) (hf : cells + mc ≤ R.cells ∧ slots + ms ≤ R.slots) :
    vx_Run p l e R s m args below meth c H locs cells slots mc ms g rest (Qc (Value.ref b :: As).toArray) XC free := by
  obtain ⟨⟨hrc, hrs, hfr, hlo, hws, hcw⟩, hcode, hini, hy, hlen, hl, hin, hse⟩ := cw
  have hK : vx_Back l R p e below s args y 3 8 (PreOf R mc ms Pc) (PostOf Qc mc ms free) (vx_Post XC mc ms free) := vx_backW (hh := hh) (bytes := bytes) (maxL := maxL) (ret := ret) hM hp.1 hrc hrs hfr hlo hws hcw (fun a' U hW => word_at hW (Or.inl (by first | rfl | simp [Cond.onTables, Cond.keeps, Cond.steady])) hini)
  obtain ⟨hx, hb, hml, ho, -⟩ := S
  obtain ⟨-, ⟨cellB, hcB, hoB, hclB⟩, hPc⟩ := hp
  intro T hT X
  rcases vx_callVX X hx (C := C) (hh := hh) (bytes := bytes) (maxL := maxL) (ret := ret) ho hl hin hse hcode hy hK (by rw [hT]; exact hcB) hoB hclB hg (hsize.trans hml.symm) (argsL := As) (rest := rest) (fun sig h => hn.trans (hlen sig h)) hstack hW (by rw [hb]; exact hdg)
    (fun vm₁ hW₁ => ⟨hf.1, hf.2, hPc (T.setVm vm₁) hT hW₁⟩) with ⟨v, vm₁, ⟨U', l2, c2, s2⟩, hW₁, X', ⟨g', mk, t, L, e1, e2, hq, h1, hL, h2, h3⟩, st⟩ | ⟨q, vm₁, ⟨U', l2, c2, s2⟩, hW₁, X', ⟨g', mk, t, L, E, ce, e1, e2, hq, hce, hcv, hcl, h1, hL, h2, h3⟩, st⟩
  · dsimp only [Pt.U, Pt.locs, Pt.cells, Pt.slots] at X' e1 e2 h1 h2 h3 st
    subst h1; subst h2; subst h3
    exact Or.inl ⟨v, (T.setVm vm₁).calling g' mk (Value.ref b :: As).toArray, t, U', L, hT, X', hL, e1, e2, hq, st⟩
  · dsimp only [Pt.U, Pt.locs, Pt.cells, Pt.slots] at X' e1 e2 h1 h2 h3 st hcl
    subst h1; subst h2; subst h3
    exact Or.inr ⟨q, (T.setVm vm₁).calling g' mk (Value.ref b :: As).toArray, t, U', L, E, ce, hT, X', hL, e1, e2, hq, hce, hcv, vx_cls hW₁ hcl, st⟩
theorem vx_runSX {hh : List (Nat × Nat × Nat × Nat)} (S : CallFix p m c cc nL s args Ts own) (hM : vx_Met l y ws rm Pc Qc XC mc ms free) (cw : vx_CSW R s args own index y bytes maxL ret hh ws rm mc ms n) (hp : PreS s H Pc As)
    (hg : g.method = m) (hn : As.length = n) (hsize : g.locals.size = nL) (hstack : g.stack = As.reverse ++ rest) (hW : 2 * g.monitorRoom + (rest.map fun v => v.category).sum ≤ 8) (hdg : decode cc g.pc = .ok (.invokestatic index, 3)) (hf : cells + mc ≤ R.cells ∧ slots + ms ≤ R.slots) :
    vx_Run p l e R s m args below meth c H locs cells slots mc ms g rest (Qc As.toArray) XC free := by
  obtain ⟨⟨hrc, hrs, hfr, hlo, hws, hcw⟩, hcode, hini, hy, hlen, hl, hstt⟩ := cw
  have hK : vx_Back l R p e below s args y 3 8 (PreOf R mc ms Pc) (PostOf Qc mc ms free) (vx_Post XC mc ms free) := vx_backW (hh := hh) (bytes := bytes) (maxL := maxL) (ret := ret) hM hp.1 hrc hrs hfr hlo hws hcw (fun a' U hW => word_at hW (Or.inl (by first | rfl | simp [Cond.onTables, Cond.keeps, Cond.steady])) hini)
  obtain ⟨hx, hb, hml, ho, -⟩ := S
  intro T hT X
  rcases vx_callSX X hx (hh := hh) (bytes := bytes) (maxL := maxL) (ret := ret) ho hl hstt hini hcode hy hK hg (hsize.trans hml.symm) (argsL := As) (rest := rest) (fun sig h => hn.trans (hlen sig h)) hstack hW (by rw [hb]; exact hdg)
    (fun vm₁ hW₁ => ⟨hf.1, hf.2, hp.2 (T.setVm vm₁) hT hW₁⟩) with ⟨v, vm₁, ⟨U', l2, c2, s2⟩, hW₁, X', ⟨g', mk, t, L, e1, e2, hq, h1, hL, h2, h3⟩, st⟩ | ⟨q, vm₁, ⟨U', l2, c2, s2⟩, hW₁, X', ⟨g', mk, t, L, E, ce, e1, e2, hq, hce, hcv, hcl, h1, hL, h2, h3⟩, st⟩
  · dsimp only [Pt.U, Pt.locs, Pt.cells, Pt.slots] at X' e1 e2 h1 h2 h3 st
    subst h1; subst h2; subst h3
    exact Or.inl ⟨v, (T.setVm vm₁).calling g' mk As.toArray, t, U', L, hT, X', hL, e1, e2, hq, st⟩
  · dsimp only [Pt.U, Pt.locs, Pt.cells, Pt.slots] at X' e1 e2 h1 h2 h3 st hcl
    subst h1; subst h2; subst h3
    exact Or.inr ⟨q, (T.setVm vm₁).calling g' mk As.toArray, t, U', L, E, ce, hT, X', hL, e1, e2, hq, hce, hcv, vx_cls hW₁ hcl, st⟩
end
end VXH
theorem vx_ofWH {l : Launch} {y : MethodName} {ws ws' : List Cond} {rm : Room} {Pc : Array Value → State → Prop} {Qc : Array Value → State → Outcome → State → Prop} {XC : String → State → State → Prop} {mc ms : Nat} {free : Addr → Prop} {cc : ByteArray} {maxL : Nat} {ret : Option FieldType} {hh : List (Nat × Nat × Nat × Nat)}
    (hy : plainName y.cls = true) (hw : ws = Cond.codeWith y cc maxL ret hh :: ws')
    (body : ∀ p e s m args below meth c s₁, BodyLoose p l y (headSpec ws rm) cc maxL ret e s m args below meth c s₁ → c.maxLocals = maxL → Pc args s →
      W p l e (headSpec ws rm).room s m args below meth c s.heap [] 0 0 (vx_MQ below Qc XC args s mc ms free) (entryFrame m args maxL)) : vx_Met l y ws rm Pc Qc XC mc ms free := by
  refine MetFree.of_bodyS (code := cc) (maxLocals := maxL) (ret := ret) hy ?_ ?_
  · intro args s m h hn
    obtain ⟨m9, meth, c, hn9, h1, h2, h3, h4, -, h5, h6, -⟩ := Cond.codeWith_spec (atoms_spec (ws := ws) h _ (by rw [hw]; exact List.mem_cons_self))
    cases hn.symm.trans hn9
    exact ⟨meth, c, h1, h2, h3, h4, h5, h6⟩
  · intro p e s m args below meth c s₁ B hml hP _
    have hh0 : s₁.heap = s.heap := by rw [B.state]; rfl
    obtain ⟨t, a1, o, b1, b2, b3⟩ := body p e s m args below meth c s₁ B hml hP s₁ hh0 (Stand.of_body B)
    exact ⟨t, o, a1, b1, b2, b3⟩
/-! ===== END ===== -/
end
section
/-! ===== BEGIN printed: names, fields, word lists, decode rows ===== -/
def RX0 : String := "PictureProof$Histories"
def TX0 : u_T := fun k => match k with
  | 0 => ("PictureProof$Histories", "results", "[I", true)
  | _ => ("PictureProof$Histories", "lengths", "[I", true)
def tyX0 : Nat → FieldType := fun k => match k with
  | 0 => .array .int
  | _ => .array .int
abbrev wsX00 : List Cond := u_ws RX0 TX0 2
theorem nmX0 : ∀ a, a < 2 → ∀ b, b < 2 → a ≠ b → (TX0 a).2.1 ≠ (TX0 b).2.1 := by decide +kernel
theorem tyX0_ok : ∀ k, k < 2 → parseFieldDescriptor (TX0 k).2.2.1 = some (tyX0 k) := by decide +kernel
abbrev cX0_init : ByteArray := prog_2_method_1_code
def yX0_init : MethodName := ⟨RX0, "<init>", "()V"⟩
abbrev cX0_add : ByteArray := prog_2_method_2_code
def yX0_add : MethodName := ⟨RX0, "add", "(IZ)V"⟩
abbrev cX0_length : ByteArray := prog_2_method_3_code
def yX0_length : MethodName := ⟨RX0, "length", "(I)I"⟩
abbrev cX0_changes : ByteArray := prog_2_method_4_code
def yX0_changes : MethodName := ⟨RX0, "changes", "(I)I"⟩
def RX1 : String := "PictureProof$Pictures"
def TX1 : u_T := fun k => match k with
  | 0 => ("PictureProof$Pictures", "shades", "[I", true)
  | _ => ("PictureProof$Pictures", "held", "[Z", true)
def tyX1 : Nat → FieldType := fun k => match k with
  | 0 => .array .int
  | _ => .array .boolean
abbrev wsX10 : List Cond := u_ws RX1 TX1 2
theorem nmX1 : ∀ a, a < 2 → ∀ b, b < 2 → a ≠ b → (TX1 a).2.1 ≠ (TX1 b).2.1 := by decide +kernel
theorem tyX1_ok : ∀ k, k < 2 → parseFieldDescriptor (TX1 k).2.2.1 = some (tyX1 k) := by decide +kernel
abbrev cX1_init : ByteArray := prog_3_method_1_code
def yX1_init : MethodName := ⟨RX1, "<init>", "()V"⟩
abbrev cX1_isSlot : ByteArray := prog_3_method_2_code
def yX1_isSlot : MethodName := ⟨RX1, "isSlot", "(I)Z"⟩
abbrev cX1_place : ByteArray := prog_3_method_3_code
def yX1_place : MethodName := ⟨RX1, "place", "(III)I"⟩
abbrev cX1_has : ByteArray := prog_3_method_4_code
def yX1_has : MethodName := ⟨RX1, "has", "(I)Z"⟩
abbrev cX1_at : ByteArray := prog_3_method_5_code
def yX1_at : MethodName := ⟨RX1, "at", "(III)I"⟩
abbrev cX1_put : ByteArray := prog_3_method_6_code
def yX1_put : MethodName := ⟨RX1, "put", "(IIII)Z"⟩
abbrev cX1_copy : ByteArray := prog_3_method_7_code
def yX1_copy : MethodName := ⟨RX1, "copy", "(II)V"⟩
abbrev cX1_same : ByteArray := prog_3_method_8_code
def yX1_same : MethodName := ⟨RX1, "same", "(II)Z"⟩
def RX2 : String := "PictureProof$Rectangles"
def TX2 : u_T := fun k => match k with
  | 0 => ("PictureProof$Rectangles", "lefts", "[I", true)
  | 1 => ("PictureProof$Rectangles", "tops", "[I", true)
  | 2 => ("PictureProof$Rectangles", "rights", "[I", true)
  | _ => ("PictureProof$Rectangles", "bottoms", "[I", true)
def tyX2 : Nat → FieldType := fun k => match k with
  | 0 => .array .int
  | 1 => .array .int
  | 2 => .array .int
  | _ => .array .int
abbrev wsX20 : List Cond := u_ws RX2 TX2 4
theorem nmX2 : ∀ a, a < 4 → ∀ b, b < 4 → a ≠ b → (TX2 a).2.1 ≠ (TX2 b).2.1 := by decide +kernel
theorem tyX2_ok : ∀ k, k < 4 → parseFieldDescriptor (TX2 k).2.2.1 = some (tyX2 k) := by decide +kernel
abbrev cX2_init : ByteArray := prog_4_method_1_code
def yX2_init : MethodName := ⟨RX2, "<init>", "()V"⟩
abbrev cX2_put : ByteArray := prog_4_method_2_code
def yX2_put : MethodName := ⟨RX2, "put", "(IIIII)V"⟩
abbrev cX2_drop : ByteArray := prog_4_method_3_code
def yX2_drop : MethodName := ⟨RX2, "drop", "(I)V"⟩
abbrev cX2_has : ByteArray := prog_4_method_4_code
def yX2_has : MethodName := ⟨RX2, "has", "(I)Z"⟩
abbrev cX2_holds : ByteArray := prog_4_method_5_code
def yX2_holds : MethodName := ⟨RX2, "holds", "(III)Z"⟩
abbrev cX2_left : ByteArray := prog_4_method_6_code
def yX2_left : MethodName := ⟨RX2, "left", "(I)I"⟩
abbrev cX2_top : ByteArray := prog_4_method_7_code
def yX2_top : MethodName := ⟨RX2, "top", "(I)I"⟩
abbrev cX2_right : ByteArray := prog_4_method_8_code
def yX2_right : MethodName := ⟨RX2, "right", "(I)I"⟩
abbrev cX2_bottom : ByteArray := prog_4_method_9_code
def yX2_bottom : MethodName := ⟨RX2, "bottom", "(I)I"⟩
def RX3 : String := "PictureProof"
def TX3 : u_T := fun k => match k with
  | 0 => ("PictureProof", "pictures", "LPictureProof$Pictures;", true)
  | 1 => ("PictureProof", "parts", "LPictureProof$Rectangles;", true)
  | 2 => ("PictureProof", "masks", "LPictureProof$Rectangles;", true)
  | _ => ("PictureProof", "histories", "LPictureProof$Histories;", true)
def tyX3 : Nat → FieldType := fun k => match k with
  | 0 => .object "PictureProof$Pictures"
  | 1 => .object "PictureProof$Rectangles"
  | 2 => .object "PictureProof$Rectangles"
  | _ => .object "PictureProof$Histories"
abbrev wsX30 : List Cond := u_ws RX3 TX3 4
theorem nmX3 : ∀ a, a < 4 → ∀ b, b < 4 → a ≠ b → (TX3 a).2.1 ≠ (TX3 b).2.1 := by decide +kernel
theorem tyX3_ok : ∀ k, k < 4 → parseFieldDescriptor (TX3 k).2.2.1 = some (tyX3 k) := by decide +kernel
abbrev cX3_init : ByteArray := prog_1_method_1_code
def yX3_init : MethodName := ⟨RX3, "<init>", "()V"⟩
abbrev cX3_paint : ByteArray := prog_1_method_2_code
def yX3_paint : MethodName := ⟨RX3, "paint", "(IIIIII)I"⟩
abbrev cX3_shade : ByteArray := prog_1_method_3_code
def yX3_shade : MethodName := ⟨RX3, "shade", "(III)I"⟩
abbrev cX3_setPart : ByteArray := prog_1_method_4_code
def yX3_setPart : MethodName := ⟨RX3, "setPart", "(IIIII)V"⟩
abbrev cX3_setMask : ByteArray := prog_1_method_5_code
def yX3_setMask : MethodName := ⟨RX3, "setMask", "(IIIII)V"⟩
abbrev cX3_approve : ByteArray := prog_1_method_6_code
def yX3_approve : MethodName := ⟨RX3, "approve", "(II)Z"⟩
abbrev cX3_begin : ByteArray := prog_1_method_7_code
def yX3_begin : MethodName := ⟨RX3, "begin", "(I)I"⟩
abbrev cX3_join : ByteArray := prog_1_method_8_code
def yX3_join : MethodName := ⟨RX3, "join", "(I)I"⟩
abbrev cX3_isApproved : ByteArray := prog_1_method_9_code
def yX3_isApproved : MethodName := ⟨RX3, "isApproved", "(II)Z"⟩
abbrev cX3_differences : ByteArray := prog_1_method_10_code
def yX3_differences : MethodName := ⟨RX3, "differences", "(III)I"⟩
abbrev cX3_firstDifference : ByteArray := prog_1_method_11_code
def yX3_firstDifference : MethodName := ⟨RX3, "firstDifference", "(III)I"⟩
abbrev cX3_move : ByteArray := prog_1_method_12_code
def yX3_move : MethodName := ⟨RX3, "move", "(III)I"⟩
abbrev cX3_soft : ByteArray := prog_1_method_13_code
def yX3_soft : MethodName := ⟨RX3, "soft", "(III)I"⟩
abbrev cX3_run : ByteArray := prog_1_method_14_code
def yX3_run : MethodName := ⟨RX3, "run", "(III)Z"⟩
abbrev cX3_runs : ByteArray := prog_1_method_15_code
def yX3_runs : MethodName := ⟨RX3, "runs", "(I)I"⟩
abbrev cX3_doubt : ByteArray := prog_1_method_16_code
def yX3_doubt : MethodName := ⟨RX3, "doubt", "(I)I"⟩
abbrev cX3_checkArguments : ByteArray := prog_1_method_17_code
def yX3_checkArguments : MethodName := ⟨RX3, "checkArguments", "(Z)V"⟩
abbrev cX3_checkComparison : ByteArray := prog_1_method_18_code
def yX3_checkComparison : MethodName := ⟨RX3, "checkComparison", "(III)V"⟩
abbrev cX3_isWithin : ByteArray := prog_1_method_19_code
def yX3_isWithin : MethodName := ⟨RX3, "isWithin", "(III)Z"⟩
abbrev cX3_isTest : ByteArray := prog_1_method_20_code
def yX3_isTest : MethodName := ⟨RX3, "isTest", "(I)Z"⟩
abbrev cX3_isBranch : ByteArray := prog_1_method_21_code
def yX3_isBranch : MethodName := ⟨RX3, "isBranch", "(I)Z"⟩
abbrev cX3_isSideBranch : ByteArray := prog_1_method_22_code
def yX3_isSideBranch : MethodName := ⟨RX3, "isSideBranch", "(I)Z"⟩
abbrev cX3_isShade : ByteArray := prog_1_method_23_code
def yX3_isShade : MethodName := ⟨RX3, "isShade", "(I)Z"⟩
abbrev cX3_isCell : ByteArray := prog_1_method_24_code
def yX3_isCell : MethodName := ⟨RX3, "isCell", "(II)Z"⟩
abbrev cX3_isRectangle : ByteArray := prog_1_method_25_code
def yX3_isRectangle : MethodName := ⟨RX3, "isRectangle", "(IIII)Z"⟩
abbrev cX3_pictureSlot : ByteArray := prog_1_method_26_code
def yX3_pictureSlot : MethodName := ⟨RX3, "pictureSlot", "(I)I"⟩
abbrev cX3_approvedSlot : ByteArray := prog_1_method_27_code
def yX3_approvedSlot : MethodName := ⟨RX3, "approvedSlot", "(II)I"⟩
abbrev cX3_baseSlot : ByteArray := prog_1_method_28_code
def yX3_baseSlot : MethodName := ⟨RX3, "baseSlot", "(II)I"⟩
abbrev cX3_columnOf : ByteArray := prog_1_method_29_code
def yX3_columnOf : MethodName := ⟨RX3, "columnOf", "(I)I"⟩
abbrev cX3_rowOf : ByteArray := prog_1_method_30_code
def yX3_rowOf : MethodName := ⟨RX3, "rowOf", "(I)I"⟩
abbrev cX3_clashes : ByteArray := prog_1_method_31_code
def yX3_clashes : MethodName := ⟨RX3, "clashes", "(II)Z"⟩
abbrev cX3_takeOver : ByteArray := prog_1_method_32_code
def yX3_takeOver : MethodName := ⟨RX3, "takeOver", "(II)V"⟩
abbrev cX3_followMain : ByteArray := prog_1_method_33_code
def yX3_followMain : MethodName := ⟨RX3, "followMain", "(II)V"⟩
abbrev cX3_findDifference : ByteArray := prog_1_method_34_code
def yX3_findDifference : MethodName := ⟨RX3, "findDifference", "(III)I"⟩
abbrev cX3_differs : ByteArray := prog_1_method_35_code
def yX3_differs : MethodName := ⟨RX3, "differs", "(IIIII)Z"⟩
abbrev cX3_isAlike : ByteArray := prog_1_method_36_code
def yX3_isAlike : MethodName := ⟨RX3, "isAlike", "(III)Z"⟩
abbrev cX3_isSoft : ByteArray := prog_1_method_37_code
def yX3_isSoft : MethodName := ⟨RX3, "isSoft", "(IIIII)Z"⟩
abbrev cX3_isMoved : ByteArray := prog_1_method_38_code
def yX3_isMoved : MethodName := ⟨RX3, "isMoved", "(IIII)Z"⟩
abbrev cX3_isMasked : ByteArray := prog_1_method_39_code
def yX3_isMasked : MethodName := ⟨RX3, "isMasked", "(IIII)Z"⟩
abbrev cX3_moveBy : ByteArray := prog_1_method_40_code
def yX3_moveBy : MethodName := ⟨RX3, "moveBy", "(II)I"⟩
abbrev cX3_columnsOf : ByteArray := prog_1_method_41_code
def yX3_columnsOf : MethodName := ⟨RX3, "columnsOf", "(I)I"⟩
abbrev cX3_rowsOf : ByteArray := prog_1_method_42_code
def yX3_rowsOf : MethodName := ⟨RX3, "rowsOf", "(I)I"⟩
abbrev cX3_findMove : ByteArray := prog_1_method_43_code
def yX3_findMove : MethodName := ⟨RX3, "findMove", "(III)I"⟩
abbrev cX3_fits : ByteArray := prog_1_method_44_code
def yX3_fits : MethodName := ⟨RX3, "fits", "(IIIII)Z"⟩
def RX4 : String := "PictureProofModel"
def TX4 : u_T := fun k => match k with
  | 0 => ("PictureProofModel", "thrown", "I", false)
  | 1 => ("PictureProofModel", "pictures", "[I", true)
  | 2 => ("PictureProofModel", "kept", "[I", true)
  | 3 => ("PictureProofModel", "isKept", "[Z", true)
  | 4 => ("PictureProofModel", "parts", "[I", true)
  | 5 => ("PictureProofModel", "masks", "[I", true)
  | 6 => ("PictureProofModel", "results", "[I", true)
  | 7 => ("PictureProofModel", "many", "[I", true)
  | 8 => ("PictureProofModel", "byColumns", "I", false)
  | _ => ("PictureProofModel", "byRows", "I", false)
def tyX4 : Nat → FieldType := fun k => match k with
  | 0 => .int
  | 1 => .array .int
  | 2 => .array .int
  | 3 => .array .boolean
  | 4 => .array .int
  | 5 => .array .int
  | 6 => .array .int
  | 7 => .array .int
  | 8 => .int
  | _ => .int
abbrev wsX40 : List Cond := u_ws RX4 TX4 10
theorem nmX4 : ∀ a, a < 10 → ∀ b, b < 10 → a ≠ b → (TX4 a).2.1 ≠ (TX4 b).2.1 := by decide +kernel
theorem tyX4_ok : ∀ k, k < 10 → parseFieldDescriptor (TX4 k).2.2.1 = some (tyX4 k) := by decide +kernel
abbrev cX4_init : ByteArray := prog_6_method_1_code
def yX4_init : MethodName := ⟨RX4, "<init>", "()V"⟩
abbrev cX4_thrown : ByteArray := prog_6_method_2_code
def yX4_thrown : MethodName := ⟨RX4, "thrown", "()I"⟩
abbrev cX4_goesWell : ByteArray := prog_6_method_3_code
def yX4_goesWell : MethodName := ⟨RX4, "goesWell", "(I)Z"⟩
abbrev cX4_in : ByteArray := prog_6_method_4_code
def yX4_in : MethodName := ⟨RX4, "in", "(III)Z"⟩
abbrev cX4_isTest : ByteArray := prog_6_method_5_code
def yX4_isTest : MethodName := ⟨RX4, "isTest", "(I)Z"⟩
abbrev cX4_isCell : ByteArray := prog_6_method_6_code
def yX4_isCell : MethodName := ⟨RX4, "isCell", "(II)Z"⟩
abbrev cX4_isBox : ByteArray := prog_6_method_7_code
def yX4_isBox : MethodName := ⟨RX4, "isBox", "(IIII)Z"⟩
abbrev cX4_paint : ByteArray := prog_6_method_8_code
def yX4_paint : MethodName := ⟨RX4, "paint", "(IIIIII)I"⟩
abbrev cX4_shade : ByteArray := prog_6_method_9_code
def yX4_shade : MethodName := ⟨RX4, "shade", "(III)I"⟩
abbrev cX4_setPart : ByteArray := prog_6_method_10_code
def yX4_setPart : MethodName := ⟨RX4, "setPart", "(IIIII)V"⟩
abbrev cX4_setMask : ByteArray := prog_6_method_11_code
def yX4_setMask : MethodName := ⟨RX4, "setMask", "(IIIII)V"⟩
abbrev cX4_placeOf : ByteArray := prog_6_method_12_code
def yX4_placeOf : MethodName := ⟨RX4, "placeOf", "(II)I"⟩
abbrev cX4_baseOf : ByteArray := prog_6_method_13_code
def yX4_baseOf : MethodName := ⟨RX4, "baseOf", "(II)I"⟩
abbrev cX4_copy : ByteArray := prog_6_method_14_code
def yX4_copy : MethodName := ⟨RX4, "copy", "(II)V"⟩
abbrev cX4_areSame : ByteArray := prog_6_method_15_code
def yX4_areSame : MethodName := ⟨RX4, "areSame", "(II)Z"⟩
abbrev cX4_approve : ByteArray := prog_6_method_16_code
def yX4_approve : MethodName := ⟨RX4, "approve", "(II)Z"⟩
abbrev cX4_begin : ByteArray := prog_6_method_17_code
def yX4_begin : MethodName := ⟨RX4, "begin", "(I)I"⟩
abbrev cX4_join : ByteArray := prog_6_method_18_code
def yX4_join : MethodName := ⟨RX4, "join", "(I)I"⟩
abbrev cX4_isApproved : ByteArray := prog_6_method_19_code
def yX4_isApproved : MethodName := ⟨RX4, "isApproved", "(II)Z"⟩
abbrev cX4_areAlike : ByteArray := prog_6_method_20_code
def yX4_areAlike : MethodName := ⟨RX4, "areAlike", "(III)Z"⟩
abbrev cX4_fits : ByteArray := prog_6_method_21_code
def yX4_fits : MethodName := ⟨RX4, "fits", "(IIIII)Z"⟩
abbrev cX4_size : ByteArray := prog_6_method_22_code
def yX4_size : MethodName := ⟨RX4, "size", "(I)I"⟩
abbrev cX4_findMove : ByteArray := prog_6_method_23_code
def yX4_findMove : MethodName := ⟨RX4, "findMove", "(III)V"⟩
abbrev cX4_isWithin : ByteArray := prog_6_method_24_code
def yX4_isWithin : MethodName := ⟨RX4, "isWithin", "(IIIII)Z"⟩
abbrev cX4_isLeftOut : ByteArray := prog_6_method_25_code
def yX4_isLeftOut : MethodName := ⟨RX4, "isLeftOut", "(II)Z"⟩
abbrev cX4_isSoft : ByteArray := prog_6_method_26_code
def yX4_isSoft : MethodName := ⟨RX4, "isSoft", "(IIII)Z"⟩
abbrev cX4_differs : ByteArray := prog_6_method_27_code
def yX4_differs : MethodName := ⟨RX4, "differs", "(IIII)Z"⟩
abbrev cX4_canCompare : ByteArray := prog_6_method_28_code
def yX4_canCompare : MethodName := ⟨RX4, "canCompare", "(III)Z"⟩
abbrev cX4_first : ByteArray := prog_6_method_29_code
def yX4_first : MethodName := ⟨RX4, "first", "(III)I"⟩
abbrev cX4_differences : ByteArray := prog_6_method_30_code
def yX4_differences : MethodName := ⟨RX4, "differences", "(III)I"⟩
abbrev cX4_firstDifference : ByteArray := prog_6_method_31_code
def yX4_firstDifference : MethodName := ⟨RX4, "firstDifference", "(III)I"⟩
abbrev cX4_move : ByteArray := prog_6_method_32_code
def yX4_move : MethodName := ⟨RX4, "move", "(III)I"⟩
abbrev cX4_soft : ByteArray := prog_6_method_33_code
def yX4_soft : MethodName := ⟨RX4, "soft", "(III)I"⟩
abbrev cX4_run : ByteArray := prog_6_method_34_code
def yX4_run : MethodName := ⟨RX4, "run", "(III)Z"⟩
abbrev cX4_runs : ByteArray := prog_6_method_35_code
def yX4_runs : MethodName := ⟨RX4, "runs", "(I)I"⟩
abbrev cX4_doubt : ByteArray := prog_6_method_36_code
def yX4_doubt : MethodName := ⟨RX4, "doubt", "(I)I"⟩
def RJ6 : String := "java/lang/Integer"
def TJ6 : u_T := fun k => match k with
  | _ => ("", "", "", false)
def tyJ6 : Nat → FieldType := fun k => match k with
  | _ => .int
abbrev wsJ60 : List Cond := u_ws RJ6 TJ6 0
theorem nmJ6 : ∀ a, a < 0 → ∀ b, b < 0 → a ≠ b → (TJ6 a).2.1 ≠ (TJ6 b).2.1 := by decide +kernel
theorem tyJ6_ok : ∀ k, k < 0 → parseFieldDescriptor (TJ6 k).2.2.1 = some (tyJ6 k) := by decide +kernel
abbrev cJ6_bitCount_0f7a4 : ByteArray := prog_10_method_49_code
def yJ6_bitCount_0f7a4 : MethodName := ⟨RJ6, "bitCount", "(I)I"⟩
def RJ9 : String := "java/lang/Math"
def TJ9 : u_T := fun k => match k with
  | _ => ("", "", "", false)
def tyJ9 : Nat → FieldType := fun k => match k with
  | _ => .int
abbrev wsJ90 : List Cond := u_ws RJ9 TJ9 0
theorem nmJ9 : ∀ a, a < 0 → ∀ b, b < 0 → a ≠ b → (TJ9 a).2.1 ≠ (TJ9 b).2.1 := by decide +kernel
theorem tyJ9_ok : ∀ k, k < 0 → parseFieldDescriptor (TJ9 k).2.2.1 = some (tyJ9 k) := by decide +kernel
abbrev cJ9_abs_0f7a4 : ByteArray := prog_11_method_59_code
def yJ9_abs_0f7a4 : MethodName := ⟨RJ9, "abs", "(I)I"⟩
abbrev cJ9_max_7cf53 : ByteArray := prog_11_method_65_code
def yJ9_max_7cf53 : MethodName := ⟨RJ9, "max", "(II)I"⟩
abbrev cJ9_min_7cf53 : ByteArray := prog_11_method_69_code
def yJ9_min_7cf53 : MethodName := ⟨RJ9, "min", "(II)I"⟩
def RJ0 : String := "java/lang/String"
def TJ0 : u_T := fun k => match k with
  | _ => ("", "", "", false)
def tyJ0 : Nat → FieldType := fun k => match k with
  | _ => .int
abbrev wsJ00 : List Cond := u_ws RJ0 TJ0 0
theorem nmJ0 : ∀ a, a < 0 → ∀ b, b < 0 → a ≠ b → (TJ0 a).2.1 ≠ (TJ0 b).2.1 := by decide +kernel
theorem tyJ0_ok : ∀ k, k < 0 → parseFieldDescriptor (TJ0 k).2.2.1 = some (tyJ0 k) := by decide +kernel
def RJ10 : String := "java/lang/System"
def TJ10 : u_T := fun k => match k with
  | _ => ("", "", "", false)
def tyJ10 : Nat → FieldType := fun k => match k with
  | _ => .int
abbrev wsJ100 : List Cond := u_ws RJ10 TJ10 0
theorem nmJ10 : ∀ a, a < 0 → ∀ b, b < 0 → a ≠ b → (TJ10 a).2.1 ≠ (TJ10 b).2.1 := by decide +kernel
theorem tyJ10_ok : ∀ k, k < 0 → parseFieldDescriptor (TJ10 k).2.2.1 = some (tyJ10 k) := by decide +kernel
def RL : String := "PictureProofLaw"
abbrev cL_paint : ByteArray := method_3_code
def yL_paint : MethodName := ⟨RL, "paint", "(LPictureProof;IIIIII[J)I"⟩
abbrev cL_shade : ByteArray := method_4_code
def yL_shade : MethodName := ⟨RL, "shade", "(LPictureProof;III[J)I"⟩
abbrev cL_setPart : ByteArray := method_5_code
def yL_setPart : MethodName := ⟨RL, "setPart", "(LPictureProof;IIIII)I"⟩
abbrev cL_setMask : ByteArray := method_6_code
def yL_setMask : MethodName := ⟨RL, "setMask", "(LPictureProof;IIIII)I"⟩
abbrev cL_approve : ByteArray := method_7_code
def yL_approve : MethodName := ⟨RL, "approve", "(LPictureProof;II[J)I"⟩
abbrev cL_begin : ByteArray := method_8_code
def yL_begin : MethodName := ⟨RL, "begin", "(LPictureProof;I[J)I"⟩
abbrev cL_join : ByteArray := method_9_code
def yL_join : MethodName := ⟨RL, "join", "(LPictureProof;I[J)I"⟩
abbrev cL_isApproved : ByteArray := method_10_code
def yL_isApproved : MethodName := ⟨RL, "isApproved", "(LPictureProof;II[J)I"⟩
abbrev cL_differences : ByteArray := method_11_code
def yL_differences : MethodName := ⟨RL, "differences", "(LPictureProof;III[J)I"⟩
abbrev cL_firstDifference : ByteArray := method_12_code
def yL_firstDifference : MethodName := ⟨RL, "firstDifference", "(LPictureProof;III[J)I"⟩
abbrev cL_move : ByteArray := method_13_code
def yL_move : MethodName := ⟨RL, "move", "(LPictureProof;III[J)I"⟩
abbrev cL_soft : ByteArray := method_14_code
def yL_soft : MethodName := ⟨RL, "soft", "(LPictureProof;III[J)I"⟩
abbrev cL_run : ByteArray := method_15_code
def yL_run : MethodName := ⟨RL, "run", "(LPictureProof;III[J)I"⟩
abbrev cL_runs : ByteArray := method_16_code
def yL_runs : MethodName := ⟨RL, "runs", "(LPictureProof;I[J)I"⟩
abbrev cL_doubt : ByteArray := method_17_code
def yL_doubt : MethodName := ⟨RL, "doubt", "(LPictureProof;I[J)I"⟩
abbrev cL_law : ByteArray := code
def yL_law : MethodName := ⟨RL, "law", "([I)Z"⟩
def wsX0_init : List Cond := .code yX0_init cX0_init 1 none :: ([.methodLink RX0 3 objectInit, .instanceMethod objectInit, .code objectInit ⟨#[0xb1]⟩ 1 none, .arrayClass .int, .fieldLink RX0 9 "PictureProof$Histories" "results" "[I", .fieldLink RX0 15 "PictureProof$Histories" "lengths" "[I"] ++ wsX00)
def wsX3_isWithin : List Cond := .code yX3_isWithin cX3_isWithin 3 (some .boolean) :: ([])
def wsX3_isTest : List Cond := .code yX3_isTest cX3_isTest 1 (some .boolean) :: ([.methodLink RX3 70 yX3_isWithin, .static yX3_isWithin, .initialized RX3, .code yX3_isWithin cX3_isWithin 3 (some .boolean)])
def wsX0_add : List Cond := .code yX0_add cX0_add 3 none :: ([.fieldLink RX0 9 "PictureProof$Histories" "results" "[I", .fieldLink RX0 15 "PictureProof$Histories" "lengths" "[I", .methodLink RX0 22 Lib.Math.min.name, .static Lib.Math.min.name, .initialized "java/lang/Math", .code Lib.Math.min.name Lib.Math.min.code 2 (some .int), .static yX3_isTest, .initialized RX3, .code yX3_isTest cX3_isTest 1 (some .boolean), .methodLink RX3 70 yX3_isWithin, .static yX3_isWithin, .code yX3_isWithin cX3_isWithin 3 (some .boolean)] ++ wsX00)
def wsX0_length : List Cond := .code yX0_length cX0_length 2 (some .int) :: ([.fieldLink RX0 15 "PictureProof$Histories" "lengths" "[I", .static yX3_isTest, .initialized RX3, .code yX3_isTest cX3_isTest 1 (some .boolean), .methodLink RX3 70 yX3_isWithin, .static yX3_isWithin, .code yX3_isWithin cX3_isWithin 3 (some .boolean)] ++ wsX00)
def wsJ6_bitCount_0f7a4 : List Cond := .code yJ6_bitCount_0f7a4 cJ6_bitCount_0f7a4 1 (some .int) :: ([.constant RJ6 265 (1431655765), .constant RJ6 266 (858993459), .constant RJ6 267 (252645135)])
def wsX0_changes : List Cond := .code yX0_changes cX0_changes 4 (some .int) :: ([.fieldLink RX0 15 "PictureProof$Histories" "lengths" "[I", .fieldLink RX0 9 "PictureProof$Histories" "results" "[I", .static yX3_isTest, .initialized RX3, .code yX3_isTest cX3_isTest 1 (some .boolean), .methodLink RX3 70 yX3_isWithin, .static yX3_isWithin, .code yX3_isWithin cX3_isWithin 3 (some .boolean), .methodLink RX0 28 yJ6_bitCount_0f7a4, .static yJ6_bitCount_0f7a4, .initialized RJ6, .code yJ6_bitCount_0f7a4 cJ6_bitCount_0f7a4 1 (some .int), .constant RJ6 265 (1431655765), .constant RJ6 266 (858993459), .constant RJ6 267 (252645135)] ++ wsX00)
def wsX1_init : List Cond := .code yX1_init cX1_init 2 none :: ([.methodLink RX1 3 objectInit, .instanceMethod objectInit, .code objectInit ⟨#[0xb1]⟩ 1 none, .arrayClass .int, .fieldLink RX1 9 "PictureProof$Pictures" "shades" "[I", .arrayClass .boolean, .fieldLink RX1 15 "PictureProof$Pictures" "held" "[Z"] ++ wsX10)
def wsX1_isSlot : List Cond := .code yX1_isSlot cX1_isSlot 1 (some .boolean) :: ([.static yX3_isWithin, .initialized RX3, .code yX3_isWithin cX3_isWithin 3 (some .boolean)])
def wsX1_place : List Cond := .code yX1_place cX1_place 3 (some .int) :: ([])
def wsX1_has : List Cond := .code yX1_has cX1_has 2 (some .boolean) :: ([.fieldLink RX1 15 "PictureProof$Pictures" "held" "[Z", .methodLink RX1 23 yX1_isSlot, .static yX1_isSlot, .initialized RX1, .code yX1_isSlot cX1_isSlot 1 (some .boolean), .static yX3_isWithin, .initialized RX3, .code yX3_isWithin cX3_isWithin 3 (some .boolean)] ++ wsX10)
def wsX3_isCell : List Cond := .code yX3_isCell cX3_isCell 2 (some .boolean) :: ([.methodLink RX3 70 yX3_isWithin, .static yX3_isWithin, .initialized RX3, .code yX3_isWithin cX3_isWithin 3 (some .boolean)])
def wsX1_at : List Cond := .code yX1_at cX1_at 4 (some .int) :: ([.fieldLink RX1 9 "PictureProof$Pictures" "shades" "[I", .methodLink RX1 23 yX1_isSlot, .static yX1_isSlot, .initialized RX1, .code yX1_isSlot cX1_isSlot 1 (some .boolean), .static yX3_isWithin, .initialized RX3, .code yX3_isWithin cX3_isWithin 3 (some .boolean), .static yX3_isCell, .code yX3_isCell cX3_isCell 2 (some .boolean), .methodLink RX3 70 yX3_isWithin, .methodLink RX1 31 yX1_place, .static yX1_place, .code yX1_place cX1_place 3 (some .int)] ++ wsX10)
def wsX1_put : List Cond := .code yX1_put cX1_put 7 (some .boolean) :: ([.fieldLink RX1 9 "PictureProof$Pictures" "shades" "[I", .methodLink RX1 23 yX1_isSlot, .static yX1_isSlot, .initialized RX1, .code yX1_isSlot cX1_isSlot 1 (some .boolean), .static yX3_isWithin, .initialized RX3, .code yX3_isWithin cX3_isWithin 3 (some .boolean), .static yX3_isCell, .code yX3_isCell cX3_isCell 2 (some .boolean), .methodLink RX3 70 yX3_isWithin, .methodLink RX1 31 yX1_place, .static yX1_place, .code yX1_place cX1_place 3 (some .int)] ++ wsX10)
def wsX1_copy : List Cond := .code yX1_copy cX1_copy 3 none :: ([.fieldLink RX1 9 "PictureProof$Pictures" "shades" "[I", .methodLink RX1 35 arraycopyName, .native arraycopyName, .static arraycopyName, .initialized "java/lang/System", .fieldLink RX1 15 "PictureProof$Pictures" "held" "[Z", .methodLink RX1 23 yX1_isSlot, .static yX1_isSlot, .initialized RX1, .code yX1_isSlot cX1_isSlot 1 (some .boolean), .static yX3_isWithin, .initialized RX3, .code yX3_isWithin cX3_isWithin 3 (some .boolean)] ++ wsX10)
def wsX1_same : List Cond := .code yX1_same cX1_same 4 (some .boolean) :: ([.fieldLink RX1 9 "PictureProof$Pictures" "shades" "[I", .methodLink RX1 41 yX1_has, .instanceMethod yX1_has, .selects RX1 yX1_has yX1_has, .initialized RX1, .code yX1_has cX1_has 2 (some .boolean), .fieldLink RX1 15 "PictureProof$Pictures" "held" "[Z", .methodLink RX1 23 yX1_isSlot, .static yX1_isSlot, .code yX1_isSlot cX1_isSlot 1 (some .boolean), .static yX3_isWithin, .initialized RX3, .code yX3_isWithin cX3_isWithin 3 (some .boolean)] ++ wsX10)
def wsX2_init : List Cond := .code yX2_init cX2_init 1 none :: ([.methodLink RX2 3 objectInit, .instanceMethod objectInit, .code objectInit ⟨#[0xb1]⟩ 1 none, .arrayClass .int, .fieldLink RX2 9 "PictureProof$Rectangles" "lefts" "[I", .fieldLink RX2 15 "PictureProof$Rectangles" "tops" "[I", .fieldLink RX2 18 "PictureProof$Rectangles" "rights" "[I", .fieldLink RX2 21 "PictureProof$Rectangles" "bottoms" "[I"] ++ wsX20)
def wsX2_put : List Cond := .code yX2_put cX2_put 6 none :: ([.fieldLink RX2 9 "PictureProof$Rectangles" "lefts" "[I", .fieldLink RX2 15 "PictureProof$Rectangles" "tops" "[I", .fieldLink RX2 18 "PictureProof$Rectangles" "rights" "[I", .fieldLink RX2 21 "PictureProof$Rectangles" "bottoms" "[I", .static yX3_isTest, .initialized RX3, .code yX3_isTest cX3_isTest 1 (some .boolean), .methodLink RX3 70 yX3_isWithin, .static yX3_isWithin, .code yX3_isWithin cX3_isWithin 3 (some .boolean)] ++ wsX20)
def wsX2_drop : List Cond := .code yX2_drop cX2_drop 2 none :: ([.methodLink RX2 28 yX2_put, .instanceMethod yX2_put, .selects RX2 yX2_put yX2_put, .initialized RX2, .code yX2_put cX2_put 6 none, .fieldLink RX2 9 "PictureProof$Rectangles" "lefts" "[I", .fieldLink RX2 15 "PictureProof$Rectangles" "tops" "[I", .fieldLink RX2 18 "PictureProof$Rectangles" "rights" "[I", .fieldLink RX2 21 "PictureProof$Rectangles" "bottoms" "[I", .static yX3_isTest, .initialized RX3, .code yX3_isTest cX3_isTest 1 (some .boolean), .methodLink RX3 70 yX3_isWithin, .static yX3_isWithin, .code yX3_isWithin cX3_isWithin 3 (some .boolean)] ++ wsX20)
def wsX2_has : List Cond := .code yX2_has cX2_has 2 (some .boolean) :: ([.fieldLink RX2 9 "PictureProof$Rectangles" "lefts" "[I", .fieldLink RX2 18 "PictureProof$Rectangles" "rights" "[I", .static yX3_isTest, .initialized RX3, .code yX3_isTest cX3_isTest 1 (some .boolean), .methodLink RX3 70 yX3_isWithin, .static yX3_isWithin, .code yX3_isWithin cX3_isWithin 3 (some .boolean)] ++ wsX20)
def wsX2_holds : List Cond := .code yX2_holds cX2_holds 4 (some .boolean) :: ([.fieldLink RX2 9 "PictureProof$Rectangles" "lefts" "[I", .fieldLink RX2 18 "PictureProof$Rectangles" "rights" "[I", .fieldLink RX2 15 "PictureProof$Rectangles" "tops" "[I", .fieldLink RX2 21 "PictureProof$Rectangles" "bottoms" "[I", .static yX3_isTest, .initialized RX3, .code yX3_isTest cX3_isTest 1 (some .boolean), .methodLink RX3 70 yX3_isWithin, .static yX3_isWithin, .code yX3_isWithin cX3_isWithin 3 (some .boolean)] ++ wsX20)
def wsX2_left : List Cond := .code yX2_left cX2_left 2 (some .int) :: ([.fieldLink RX2 9 "PictureProof$Rectangles" "lefts" "[I", .static yX3_isTest, .initialized RX3, .code yX3_isTest cX3_isTest 1 (some .boolean), .methodLink RX3 70 yX3_isWithin, .static yX3_isWithin, .code yX3_isWithin cX3_isWithin 3 (some .boolean)] ++ wsX20)
def wsX2_top : List Cond := .code yX2_top cX2_top 2 (some .int) :: ([.fieldLink RX2 15 "PictureProof$Rectangles" "tops" "[I", .static yX3_isTest, .initialized RX3, .code yX3_isTest cX3_isTest 1 (some .boolean), .methodLink RX3 70 yX3_isWithin, .static yX3_isWithin, .code yX3_isWithin cX3_isWithin 3 (some .boolean)] ++ wsX20)
def wsX2_right : List Cond := .code yX2_right cX2_right 2 (some .int) :: ([.fieldLink RX2 18 "PictureProof$Rectangles" "rights" "[I", .static yX3_isTest, .initialized RX3, .code yX3_isTest cX3_isTest 1 (some .boolean), .methodLink RX3 70 yX3_isWithin, .static yX3_isWithin, .code yX3_isWithin cX3_isWithin 3 (some .boolean)] ++ wsX20)
def wsX2_bottom : List Cond := .code yX2_bottom cX2_bottom 2 (some .int) :: ([.fieldLink RX2 21 "PictureProof$Rectangles" "bottoms" "[I", .static yX3_isTest, .initialized RX3, .code yX3_isTest cX3_isTest 1 (some .boolean), .methodLink RX3 70 yX3_isWithin, .static yX3_isWithin, .code yX3_isWithin cX3_isWithin 3 (some .boolean)] ++ wsX20)
def wsX3_init_r1 : List Cond := [Cond.methodLink RX3 3 objectInit, Cond.instanceMethod objectInit, Cond.code objectInit ⟨#[0xb1]⟩ 1 none, Cond.classLink RX3 9 RX1, Cond.instantiable RX1 2, Cond.initialized RX1, Cond.fieldLink RX3 12 "PictureProof" "pictures" "LPictureProof$Pictures;", Cond.classLink RX3 16 RX2, Cond.instantiable RX2 4, Cond.initialized RX2, Cond.fieldLink RX3 19 "PictureProof" "parts" "LPictureProof$Rectangles;", Cond.fieldLink RX3 23 "PictureProof" "masks" "LPictureProof$Rectangles;", Cond.classLink RX3 26 RX0, Cond.instantiable RX0 2, Cond.initialized RX0, Cond.fieldLink RX3 29 "PictureProof" "histories" "LPictureProof$Histories;", Cond.methodLink RX3 11 yX1_init, Cond.instanceMethod yX1_init, Cond.code yX1_init cX1_init 2 none, Cond.methodLink RX1 3 objectInit, Cond.arrayClass .int, Cond.fieldLink RX1 9 "PictureProof$Pictures" "shades" "[I", Cond.arrayClass .boolean, Cond.fieldLink RX1 15 "PictureProof$Pictures" "held" "[Z"]
def wsX3_init_r2 : List Cond := [Cond.instanceMethod yX2_init, Cond.code yX2_init cX2_init 1 none, Cond.methodLink RX2 3 objectInit, Cond.fieldLink RX2 9 "PictureProof$Rectangles" "lefts" "[I", Cond.fieldLink RX2 15 "PictureProof$Rectangles" "tops" "[I", Cond.fieldLink RX2 18 "PictureProof$Rectangles" "rights" "[I", Cond.fieldLink RX2 21 "PictureProof$Rectangles" "bottoms" "[I", Cond.instanceMethod yX0_init, Cond.code yX0_init cX0_init 1 none, Cond.methodLink RX0 3 objectInit, Cond.fieldLink RX0 9 "PictureProof$Histories" "results" "[I", Cond.fieldLink RX0 15 "PictureProof$Histories" "lengths" "[I"]
def wsX3_init : List Cond := .code yX3_init cX3_init 1 none :: ((wsX3_init_r1 ++ wsX3_init_r2) ++ wsX10 ++ wsX30 ++ wsX20 ++ wsX00)
def wsX3_isRectangle : List Cond := .code yX3_isRectangle cX3_isRectangle 4 (some .boolean) :: ([.methodLink RX3 55 yX3_isCell, .static yX3_isCell, .initialized RX3, .code yX3_isCell cX3_isCell 2 (some .boolean), .methodLink RX3 70 yX3_isWithin, .static yX3_isWithin, .code yX3_isWithin cX3_isWithin 3 (some .boolean)])
def wsX3_isShade : List Cond := .code yX3_isShade cX3_isShade 1 (some .boolean) :: ([.methodLink RX3 70 yX3_isWithin, .static yX3_isWithin, .initialized RX3, .code yX3_isWithin cX3_isWithin 3 (some .boolean)])
def wsX3_checkArguments : List Cond := .code yX3_checkArguments cX3_checkArguments 1 none :: ([.classLink RX3 141 "java/lang/IllegalArgumentException", .initialized "java/lang/IllegalArgumentException"] ++ (vx_atS RX3 145 "java/lang/IllegalArgumentException" ["java/lang/RuntimeException", "java/lang/Exception"]).filter goodWord)
def wsX3_pictureSlot : List Cond := .code yX3_pictureSlot cX3_pictureSlot 1 (some .int) :: ([])
def wsX3_paint_r1 : List Cond := [Cond.fieldLink RX3 12 "PictureProof" "pictures" "LPictureProof$Pictures;", Cond.methodLink RX3 33 yX3_isTest, Cond.static yX3_isTest, Cond.initialized RX3, Cond.code yX3_isTest cX3_isTest 1 (some .boolean), Cond.methodLink RX3 70 yX3_isWithin, Cond.static yX3_isWithin, Cond.code yX3_isWithin cX3_isWithin 3 (some .boolean), Cond.methodLink RX3 37 yX3_isRectangle, Cond.static yX3_isRectangle, Cond.code yX3_isRectangle cX3_isRectangle 4 (some .boolean), Cond.methodLink RX3 55 yX3_isCell, Cond.static yX3_isCell, Cond.code yX3_isCell cX3_isCell 2 (some .boolean), Cond.methodLink RX3 41 yX3_isShade, Cond.static yX3_isShade, Cond.code yX3_isShade cX3_isShade 1 (some .boolean), Cond.methodLink RX3 44 yX3_checkArguments, Cond.static yX3_checkArguments, Cond.code yX3_checkArguments cX3_checkArguments 1 none, Cond.classLink RX3 141 "java/lang/IllegalArgumentException", Cond.initialized "java/lang/IllegalArgumentException", Cond.methodLink RX3 48 yX3_pictureSlot, Cond.static yX3_pictureSlot]
def wsX3_paint_r2 : List Cond := [Cond.code yX3_pictureSlot cX3_pictureSlot 1 (some .int), Cond.methodLink RX3 52 yX1_put, Cond.instanceMethod yX1_put, Cond.selects RX1 yX1_put yX1_put, Cond.initialized RX1, Cond.code yX1_put cX1_put 7 (some .boolean), Cond.fieldLink RX1 9 "PictureProof$Pictures" "shades" "[I", Cond.methodLink RX1 23 yX1_isSlot, Cond.static yX1_isSlot, Cond.code yX1_isSlot cX1_isSlot 1 (some .boolean), Cond.methodLink RX1 31 yX1_place, Cond.static yX1_place, Cond.code yX1_place cX1_place 3 (some .int)]
def wsX3_paint : List Cond := .code yX3_paint cX3_paint 10 (some .int) :: ((wsX3_paint_r1 ++ wsX3_paint_r2) ++ wsX30 ++ wsX10 ++ (vx_atS RX3 145 "java/lang/IllegalArgumentException" ["java/lang/RuntimeException", "java/lang/Exception"]).filter goodWord)
def wsX3_shade_r1 : List Cond := [Cond.fieldLink RX3 12 "PictureProof" "pictures" "LPictureProof$Pictures;", Cond.methodLink RX3 33 yX3_isTest, Cond.static yX3_isTest, Cond.initialized RX3, Cond.code yX3_isTest cX3_isTest 1 (some .boolean), Cond.methodLink RX3 70 yX3_isWithin, Cond.static yX3_isWithin, Cond.code yX3_isWithin cX3_isWithin 3 (some .boolean), Cond.methodLink RX3 55 yX3_isCell, Cond.static yX3_isCell, Cond.code yX3_isCell cX3_isCell 2 (some .boolean), Cond.methodLink RX3 44 yX3_checkArguments, Cond.static yX3_checkArguments, Cond.code yX3_checkArguments cX3_checkArguments 1 none, Cond.classLink RX3 141 "java/lang/IllegalArgumentException", Cond.initialized "java/lang/IllegalArgumentException", Cond.methodLink RX3 48 yX3_pictureSlot, Cond.static yX3_pictureSlot, Cond.code yX3_pictureSlot cX3_pictureSlot 1 (some .int), Cond.methodLink RX3 59 yX1_at, Cond.instanceMethod yX1_at, Cond.selects RX1 yX1_at yX1_at, Cond.initialized RX1, Cond.code yX1_at cX1_at 4 (some .int)]
def wsX3_shade_r2 : List Cond := [Cond.fieldLink RX1 9 "PictureProof$Pictures" "shades" "[I", Cond.methodLink RX1 23 yX1_isSlot, Cond.static yX1_isSlot, Cond.code yX1_isSlot cX1_isSlot 1 (some .boolean), Cond.methodLink RX1 31 yX1_place, Cond.static yX1_place, Cond.code yX1_place cX1_place 3 (some .int)]
def wsX3_shade : List Cond := .code yX3_shade cX3_shade 4 (some .int) :: ((wsX3_shade_r1 ++ wsX3_shade_r2) ++ wsX30 ++ wsX10 ++ (vx_atS RX3 145 "java/lang/IllegalArgumentException" ["java/lang/RuntimeException", "java/lang/Exception"]).filter goodWord)
def wsX3_setPart_r1 : List Cond := [Cond.fieldLink RX3 19 "PictureProof" "parts" "LPictureProof$Rectangles;", Cond.fieldLink RX3 23 "PictureProof" "masks" "LPictureProof$Rectangles;", Cond.methodLink RX3 33 yX3_isTest, Cond.static yX3_isTest, Cond.initialized RX3, Cond.code yX3_isTest cX3_isTest 1 (some .boolean), Cond.methodLink RX3 70 yX3_isWithin, Cond.static yX3_isWithin, Cond.code yX3_isWithin cX3_isWithin 3 (some .boolean), Cond.methodLink RX3 37 yX3_isRectangle, Cond.static yX3_isRectangle, Cond.code yX3_isRectangle cX3_isRectangle 4 (some .boolean), Cond.methodLink RX3 55 yX3_isCell, Cond.static yX3_isCell, Cond.code yX3_isCell cX3_isCell 2 (some .boolean), Cond.methodLink RX3 44 yX3_checkArguments, Cond.static yX3_checkArguments, Cond.code yX3_checkArguments cX3_checkArguments 1 none, Cond.classLink RX3 141 "java/lang/IllegalArgumentException", Cond.initialized "java/lang/IllegalArgumentException", Cond.methodLink RX3 63 yX2_put, Cond.instanceMethod yX2_put, Cond.selects RX2 yX2_put yX2_put, Cond.initialized RX2]
def wsX3_setPart_r2 : List Cond := [Cond.code yX2_put cX2_put 6 none, Cond.fieldLink RX2 9 "PictureProof$Rectangles" "lefts" "[I", Cond.fieldLink RX2 15 "PictureProof$Rectangles" "tops" "[I", Cond.fieldLink RX2 18 "PictureProof$Rectangles" "rights" "[I", Cond.fieldLink RX2 21 "PictureProof$Rectangles" "bottoms" "[I", Cond.methodLink RX3 66 yX2_drop, Cond.instanceMethod yX2_drop, Cond.selects RX2 yX2_drop yX2_drop, Cond.code yX2_drop cX2_drop 2 none, Cond.methodLink RX2 28 yX2_put]
def wsX3_setPart : List Cond := .code yX3_setPart cX3_setPart 6 none :: ((wsX3_setPart_r1 ++ wsX3_setPart_r2) ++ wsX30 ++ wsX20 ++ (vx_atS RX3 145 "java/lang/IllegalArgumentException" ["java/lang/RuntimeException", "java/lang/Exception"]).filter goodWord)
def wsX3_setMask_r1 : List Cond := [Cond.classLink RX3 77 "java/lang/IllegalStateException", Cond.initialized "java/lang/IllegalStateException", Cond.fieldLink RX3 19 "PictureProof" "parts" "LPictureProof$Rectangles;", Cond.fieldLink RX3 23 "PictureProof" "masks" "LPictureProof$Rectangles;", Cond.methodLink RX3 33 yX3_isTest, Cond.static yX3_isTest, Cond.initialized RX3, Cond.code yX3_isTest cX3_isTest 1 (some .boolean), Cond.methodLink RX3 70 yX3_isWithin, Cond.static yX3_isWithin, Cond.code yX3_isWithin cX3_isWithin 3 (some .boolean), Cond.methodLink RX3 44 yX3_checkArguments, Cond.static yX3_checkArguments, Cond.code yX3_checkArguments cX3_checkArguments 1 none, Cond.classLink RX3 141 "java/lang/IllegalArgumentException", Cond.initialized "java/lang/IllegalArgumentException", Cond.methodLink RX3 74 yX2_has, Cond.instanceMethod yX2_has, Cond.selects RX2 yX2_has yX2_has, Cond.initialized RX2, Cond.code yX2_has cX2_has 2 (some .boolean), Cond.fieldLink RX2 9 "PictureProof$Rectangles" "lefts" "[I", Cond.fieldLink RX2 18 "PictureProof$Rectangles" "rights" "[I", Cond.methodLink RX3 63 yX2_put]
def wsX3_setMask_r2 : List Cond := [Cond.instanceMethod yX2_put, Cond.selects RX2 yX2_put yX2_put, Cond.code yX2_put cX2_put 6 none, Cond.fieldLink RX2 15 "PictureProof$Rectangles" "tops" "[I", Cond.fieldLink RX2 21 "PictureProof$Rectangles" "bottoms" "[I"]
def wsX3_setMask : List Cond := .code yX3_setMask cX3_setMask 6 none :: ((wsX3_setMask_r1 ++ wsX3_setMask_r2) ++ wsX30 ++ wsX20 ++ (vx_atS RX3 81 "java/lang/IllegalStateException" ["java/lang/RuntimeException", "java/lang/Exception"]).filter goodWord ++ (vx_atS RX3 145 "java/lang/IllegalArgumentException" ["java/lang/RuntimeException", "java/lang/Exception"]).filter goodWord)
def wsX3_isBranch : List Cond := .code yX3_isBranch cX3_isBranch 1 (some .boolean) :: ([.methodLink RX3 70 yX3_isWithin, .static yX3_isWithin, .initialized RX3, .code yX3_isWithin cX3_isWithin 3 (some .boolean)])
def wsX3_approvedSlot : List Cond := .code yX3_approvedSlot cX3_approvedSlot 2 (some .int) :: ([])
def wsX3_approve_r1 : List Cond := [Cond.fieldLink RX3 12 "PictureProof" "pictures" "LPictureProof$Pictures;", Cond.methodLink RX3 84 yX3_isBranch, Cond.static yX3_isBranch, Cond.initialized RX3, Cond.code yX3_isBranch cX3_isBranch 1 (some .boolean), Cond.methodLink RX3 70 yX3_isWithin, Cond.static yX3_isWithin, Cond.code yX3_isWithin cX3_isWithin 3 (some .boolean), Cond.methodLink RX3 33 yX3_isTest, Cond.static yX3_isTest, Cond.code yX3_isTest cX3_isTest 1 (some .boolean), Cond.methodLink RX3 44 yX3_checkArguments, Cond.static yX3_checkArguments, Cond.code yX3_checkArguments cX3_checkArguments 1 none, Cond.classLink RX3 141 "java/lang/IllegalArgumentException", Cond.initialized "java/lang/IllegalArgumentException", Cond.methodLink RX3 87 yX3_approvedSlot, Cond.static yX3_approvedSlot, Cond.code yX3_approvedSlot cX3_approvedSlot 2 (some .int), Cond.methodLink RX3 91 yX1_has, Cond.instanceMethod yX1_has, Cond.selects RX1 yX1_has yX1_has, Cond.initialized RX1, Cond.code yX1_has cX1_has 2 (some .boolean)]
def wsX3_approve_r2 : List Cond := [Cond.fieldLink RX1 15 "PictureProof$Pictures" "held" "[Z", Cond.methodLink RX1 23 yX1_isSlot, Cond.static yX1_isSlot, Cond.code yX1_isSlot cX1_isSlot 1 (some .boolean), Cond.methodLink RX3 48 yX3_pictureSlot, Cond.static yX3_pictureSlot, Cond.code yX3_pictureSlot cX3_pictureSlot 1 (some .int), Cond.methodLink RX3 92 yX1_copy, Cond.instanceMethod yX1_copy, Cond.selects RX1 yX1_copy yX1_copy, Cond.code yX1_copy cX1_copy 3 none, Cond.fieldLink RX1 9 "PictureProof$Pictures" "shades" "[I", Cond.methodLink RX1 35 arraycopyName, Cond.native arraycopyName, Cond.static arraycopyName, Cond.initialized "java/lang/System"]
def wsX3_approve : List Cond := .code yX3_approve cX3_approve 5 (some .boolean) :: ((wsX3_approve_r1 ++ wsX3_approve_r2) ++ wsX30 ++ wsX10 ++ (vx_atS RX3 145 "java/lang/IllegalArgumentException" ["java/lang/RuntimeException", "java/lang/Exception"]).filter goodWord)
def wsX3_isSideBranch : List Cond := .code yX3_isSideBranch cX3_isSideBranch 1 (some .boolean) :: ([.methodLink RX3 70 yX3_isWithin, .static yX3_isWithin, .initialized RX3, .code yX3_isWithin cX3_isWithin 3 (some .boolean)])
def wsX3_baseSlot : List Cond := .code yX3_baseSlot cX3_baseSlot 2 (some .int) :: ([])
def wsX3_followMain : List Cond := .code yX3_followMain cX3_followMain 3 none :: ([.fieldLink RX3 12 "PictureProof" "pictures" "LPictureProof$Pictures;", .methodLink RX3 87 yX3_approvedSlot, .static yX3_approvedSlot, .initialized RX3, .code yX3_approvedSlot cX3_approvedSlot 2 (some .int), .methodLink RX3 148 yX3_baseSlot, .static yX3_baseSlot, .code yX3_baseSlot cX3_baseSlot 2 (some .int), .methodLink RX3 92 yX1_copy, .instanceMethod yX1_copy, .selects RX1 yX1_copy yX1_copy, .initialized RX1, .code yX1_copy cX1_copy 3 none, .fieldLink RX1 9 "PictureProof$Pictures" "shades" "[I", .methodLink RX1 35 arraycopyName, .native arraycopyName, .static arraycopyName, .initialized "java/lang/System", .fieldLink RX1 15 "PictureProof$Pictures" "held" "[Z", .methodLink RX1 23 yX1_isSlot, .static yX1_isSlot, .code yX1_isSlot cX1_isSlot 1 (some .boolean), .static yX3_isWithin, .code yX3_isWithin cX3_isWithin 3 (some .boolean)] ++ wsX30 ++ wsX10)
def wsX3_begin_r1 : List Cond := [Cond.fieldLink RX3 12 "PictureProof" "pictures" "LPictureProof$Pictures;", Cond.methodLink RX3 96 yX3_isSideBranch, Cond.static yX3_isSideBranch, Cond.initialized RX3, Cond.code yX3_isSideBranch cX3_isSideBranch 1 (some .boolean), Cond.methodLink RX3 70 yX3_isWithin, Cond.static yX3_isWithin, Cond.code yX3_isWithin cX3_isWithin 3 (some .boolean), Cond.methodLink RX3 44 yX3_checkArguments, Cond.static yX3_checkArguments, Cond.code yX3_checkArguments cX3_checkArguments 1 none, Cond.classLink RX3 141 "java/lang/IllegalArgumentException", Cond.initialized "java/lang/IllegalArgumentException", Cond.methodLink RX3 99 yX3_followMain, Cond.instanceMethod yX3_followMain, Cond.selects RX3 yX3_followMain yX3_followMain, Cond.code yX3_followMain cX3_followMain 3 none, Cond.methodLink RX3 87 yX3_approvedSlot, Cond.static yX3_approvedSlot, Cond.code yX3_approvedSlot cX3_approvedSlot 2 (some .int), Cond.methodLink RX3 148 yX3_baseSlot, Cond.static yX3_baseSlot, Cond.code yX3_baseSlot cX3_baseSlot 2 (some .int), Cond.methodLink RX3 92 yX1_copy]
def wsX3_begin_r2 : List Cond := [Cond.instanceMethod yX1_copy, Cond.selects RX1 yX1_copy yX1_copy, Cond.initialized RX1, Cond.code yX1_copy cX1_copy 3 none, Cond.fieldLink RX1 9 "PictureProof$Pictures" "shades" "[I", Cond.methodLink RX1 35 arraycopyName, Cond.native arraycopyName, Cond.static arraycopyName, Cond.initialized "java/lang/System", Cond.fieldLink RX1 15 "PictureProof$Pictures" "held" "[Z", Cond.methodLink RX1 23 yX1_isSlot, Cond.static yX1_isSlot, Cond.code yX1_isSlot cX1_isSlot 1 (some .boolean), Cond.methodLink RX3 91 yX1_has, Cond.instanceMethod yX1_has, Cond.selects RX1 yX1_has yX1_has, Cond.code yX1_has cX1_has 2 (some .boolean)]
def wsX3_begin : List Cond := .code yX3_begin cX3_begin 4 (some .int) :: ((wsX3_begin_r1 ++ wsX3_begin_r2) ++ wsX30 ++ wsX10 ++ (vx_atS RX3 145 "java/lang/IllegalArgumentException" ["java/lang/RuntimeException", "java/lang/Exception"]).filter goodWord)
def wsX3_clashes : List Cond := .code yX3_clashes cX3_clashes 6 (some .boolean) :: ([.fieldLink RX3 12 "PictureProof" "pictures" "LPictureProof$Pictures;", .methodLink RX3 87 yX3_approvedSlot, .static yX3_approvedSlot, .initialized RX3, .code yX3_approvedSlot cX3_approvedSlot 2 (some .int), .methodLink RX3 148 yX3_baseSlot, .static yX3_baseSlot, .code yX3_baseSlot cX3_baseSlot 2 (some .int), .methodLink RX3 151 yX1_same, .instanceMethod yX1_same, .selects RX1 yX1_same yX1_same, .initialized RX1, .code yX1_same cX1_same 4 (some .boolean), .fieldLink RX1 9 "PictureProof$Pictures" "shades" "[I", .methodLink RX1 41 yX1_has, .instanceMethod yX1_has, .selects RX1 yX1_has yX1_has, .code yX1_has cX1_has 2 (some .boolean), .fieldLink RX1 15 "PictureProof$Pictures" "held" "[Z", .methodLink RX1 23 yX1_isSlot, .static yX1_isSlot, .code yX1_isSlot cX1_isSlot 1 (some .boolean), .static yX3_isWithin, .code yX3_isWithin cX3_isWithin 3 (some .boolean)] ++ wsX30 ++ wsX10)
def wsX3_takeOver_r1 : List Cond := [Cond.fieldLink RX3 12 "PictureProof" "pictures" "LPictureProof$Pictures;", Cond.methodLink RX3 87 yX3_approvedSlot, Cond.static yX3_approvedSlot, Cond.initialized RX3, Cond.code yX3_approvedSlot cX3_approvedSlot 2 (some .int), Cond.methodLink RX3 148 yX3_baseSlot, Cond.static yX3_baseSlot, Cond.code yX3_baseSlot cX3_baseSlot 2 (some .int), Cond.methodLink RX3 151 yX1_same, Cond.instanceMethod yX1_same, Cond.selects RX1 yX1_same yX1_same, Cond.initialized RX1, Cond.code yX1_same cX1_same 4 (some .boolean), Cond.fieldLink RX1 9 "PictureProof$Pictures" "shades" "[I", Cond.methodLink RX1 41 yX1_has, Cond.instanceMethod yX1_has, Cond.selects RX1 yX1_has yX1_has, Cond.code yX1_has cX1_has 2 (some .boolean), Cond.fieldLink RX1 15 "PictureProof$Pictures" "held" "[Z", Cond.methodLink RX1 23 yX1_isSlot, Cond.static yX1_isSlot, Cond.code yX1_isSlot cX1_isSlot 1 (some .boolean), Cond.static yX3_isWithin, Cond.code yX3_isWithin cX3_isWithin 3 (some .boolean)]
def wsX3_takeOver_r2 : List Cond := [Cond.methodLink RX3 92 yX1_copy, Cond.instanceMethod yX1_copy, Cond.selects RX1 yX1_copy yX1_copy, Cond.code yX1_copy cX1_copy 3 none, Cond.methodLink RX1 35 arraycopyName, Cond.native arraycopyName, Cond.static arraycopyName, Cond.initialized "java/lang/System"]
def wsX3_takeOver : List Cond := .code yX3_takeOver cX3_takeOver 6 none :: ((wsX3_takeOver_r1 ++ wsX3_takeOver_r2) ++ wsX30 ++ wsX10)
def wsX3_join_r1 : List Cond := [Cond.methodLink RX3 96 yX3_isSideBranch, Cond.static yX3_isSideBranch, Cond.initialized RX3, Cond.code yX3_isSideBranch cX3_isSideBranch 1 (some .boolean), Cond.methodLink RX3 70 yX3_isWithin, Cond.static yX3_isWithin, Cond.code yX3_isWithin cX3_isWithin 3 (some .boolean), Cond.methodLink RX3 44 yX3_checkArguments, Cond.static yX3_checkArguments, Cond.code yX3_checkArguments cX3_checkArguments 1 none, Cond.classLink RX3 141 "java/lang/IllegalArgumentException", Cond.initialized "java/lang/IllegalArgumentException", Cond.methodLink RX3 102 yX3_clashes, Cond.instanceMethod yX3_clashes, Cond.selects RX3 yX3_clashes yX3_clashes, Cond.code yX3_clashes cX3_clashes 6 (some .boolean), Cond.fieldLink RX3 12 "PictureProof" "pictures" "LPictureProof$Pictures;", Cond.methodLink RX3 87 yX3_approvedSlot, Cond.static yX3_approvedSlot, Cond.code yX3_approvedSlot cX3_approvedSlot 2 (some .int), Cond.methodLink RX3 148 yX3_baseSlot, Cond.static yX3_baseSlot, Cond.code yX3_baseSlot cX3_baseSlot 2 (some .int), Cond.methodLink RX3 151 yX1_same]
def wsX3_join_r2 : List Cond := [Cond.instanceMethod yX1_same, Cond.selects RX1 yX1_same yX1_same, Cond.initialized RX1, Cond.code yX1_same cX1_same 4 (some .boolean), Cond.fieldLink RX1 9 "PictureProof$Pictures" "shades" "[I", Cond.methodLink RX1 41 yX1_has, Cond.instanceMethod yX1_has, Cond.selects RX1 yX1_has yX1_has, Cond.code yX1_has cX1_has 2 (some .boolean), Cond.fieldLink RX1 15 "PictureProof$Pictures" "held" "[Z", Cond.methodLink RX1 23 yX1_isSlot, Cond.static yX1_isSlot, Cond.code yX1_isSlot cX1_isSlot 1 (some .boolean), Cond.methodLink RX3 105 yX3_takeOver, Cond.instanceMethod yX3_takeOver, Cond.selects RX3 yX3_takeOver yX3_takeOver, Cond.code yX3_takeOver cX3_takeOver 6 none, Cond.methodLink RX3 92 yX1_copy, Cond.instanceMethod yX1_copy, Cond.selects RX1 yX1_copy yX1_copy, Cond.code yX1_copy cX1_copy 3 none, Cond.methodLink RX1 35 arraycopyName, Cond.native arraycopyName, Cond.static arraycopyName]
def wsX3_join_r3 : List Cond := [Cond.initialized "java/lang/System", Cond.methodLink RX3 99 yX3_followMain, Cond.instanceMethod yX3_followMain, Cond.selects RX3 yX3_followMain yX3_followMain, Cond.code yX3_followMain cX3_followMain 3 none]
def wsX3_join : List Cond := .code yX3_join cX3_join 4 (some .int) :: ((wsX3_join_r1 ++ (wsX3_join_r2 ++ wsX3_join_r3)) ++ wsX30 ++ wsX10 ++ (vx_atS RX3 145 "java/lang/IllegalArgumentException" ["java/lang/RuntimeException", "java/lang/Exception"]).filter goodWord)
def wsX3_isApproved_r1 : List Cond := [Cond.fieldLink RX3 12 "PictureProof" "pictures" "LPictureProof$Pictures;", Cond.methodLink RX3 84 yX3_isBranch, Cond.static yX3_isBranch, Cond.initialized RX3, Cond.code yX3_isBranch cX3_isBranch 1 (some .boolean), Cond.methodLink RX3 70 yX3_isWithin, Cond.static yX3_isWithin, Cond.code yX3_isWithin cX3_isWithin 3 (some .boolean), Cond.methodLink RX3 33 yX3_isTest, Cond.static yX3_isTest, Cond.code yX3_isTest cX3_isTest 1 (some .boolean), Cond.methodLink RX3 44 yX3_checkArguments, Cond.static yX3_checkArguments, Cond.code yX3_checkArguments cX3_checkArguments 1 none, Cond.classLink RX3 141 "java/lang/IllegalArgumentException", Cond.initialized "java/lang/IllegalArgumentException", Cond.methodLink RX3 87 yX3_approvedSlot, Cond.static yX3_approvedSlot, Cond.code yX3_approvedSlot cX3_approvedSlot 2 (some .int), Cond.methodLink RX3 91 yX1_has, Cond.instanceMethod yX1_has, Cond.selects RX1 yX1_has yX1_has, Cond.initialized RX1, Cond.code yX1_has cX1_has 2 (some .boolean)]
def wsX3_isApproved_r2 : List Cond := [Cond.fieldLink RX1 15 "PictureProof$Pictures" "held" "[Z", Cond.methodLink RX1 23 yX1_isSlot, Cond.static yX1_isSlot, Cond.code yX1_isSlot cX1_isSlot 1 (some .boolean)]
def wsX3_isApproved : List Cond := .code yX3_isApproved cX3_isApproved 3 (some .boolean) :: ((wsX3_isApproved_r1 ++ wsX3_isApproved_r2) ++ wsX30 ++ wsX10 ++ (vx_atS RX3 145 "java/lang/IllegalArgumentException" ["java/lang/RuntimeException", "java/lang/Exception"]).filter goodWord)
def wsX3_checkComparison_r1 : List Cond := [Cond.classLink RX3 77 "java/lang/IllegalStateException", Cond.initialized "java/lang/IllegalStateException", Cond.fieldLink RX3 12 "PictureProof" "pictures" "LPictureProof$Pictures;", Cond.methodLink RX3 84 yX3_isBranch, Cond.static yX3_isBranch, Cond.initialized RX3, Cond.code yX3_isBranch cX3_isBranch 1 (some .boolean), Cond.methodLink RX3 70 yX3_isWithin, Cond.static yX3_isWithin, Cond.code yX3_isWithin cX3_isWithin 3 (some .boolean), Cond.methodLink RX3 33 yX3_isTest, Cond.static yX3_isTest, Cond.code yX3_isTest cX3_isTest 1 (some .boolean), Cond.methodLink RX3 41 yX3_isShade, Cond.static yX3_isShade, Cond.code yX3_isShade cX3_isShade 1 (some .boolean), Cond.methodLink RX3 44 yX3_checkArguments, Cond.static yX3_checkArguments, Cond.code yX3_checkArguments cX3_checkArguments 1 none, Cond.classLink RX3 141 "java/lang/IllegalArgumentException", Cond.initialized "java/lang/IllegalArgumentException", Cond.methodLink RX3 87 yX3_approvedSlot, Cond.static yX3_approvedSlot, Cond.code yX3_approvedSlot cX3_approvedSlot 2 (some .int)]
def wsX3_checkComparison_r2 : List Cond := [Cond.methodLink RX3 91 yX1_has, Cond.instanceMethod yX1_has, Cond.selects RX1 yX1_has yX1_has, Cond.initialized RX1, Cond.code yX1_has cX1_has 2 (some .boolean), Cond.fieldLink RX1 15 "PictureProof$Pictures" "held" "[Z", Cond.methodLink RX1 23 yX1_isSlot, Cond.static yX1_isSlot, Cond.code yX1_isSlot cX1_isSlot 1 (some .boolean)]
def wsX3_checkComparison : List Cond := .code yX3_checkComparison cX3_checkComparison 4 none :: ((wsX3_checkComparison_r1 ++ wsX3_checkComparison_r2) ++ wsX30 ++ wsX10 ++ (vx_atS RX3 81 "java/lang/IllegalStateException" ["java/lang/RuntimeException", "java/lang/Exception"]).filter goodWord ++ (vx_atS RX3 145 "java/lang/IllegalArgumentException" ["java/lang/RuntimeException", "java/lang/Exception"]).filter goodWord)
def wsX3_isAlike : List Cond := .code yX3_isAlike cX3_isAlike 3 (some .boolean) :: ([.methodLink RX3 163 Lib.Math.abs.name, .static Lib.Math.abs.name, .initialized "java/lang/Math", .code Lib.Math.abs.name Lib.Math.abs.code 1 (some .int)])
def wsX3_fits_r1 : List Cond := [Cond.fieldLink RX3 19 "PictureProof" "parts" "LPictureProof$Rectangles;", Cond.fieldLink RX3 12 "PictureProof" "pictures" "LPictureProof$Pictures;", Cond.methodLink RX3 195 yX2_bottom, Cond.instanceMethod yX2_bottom, Cond.selects RX2 yX2_bottom yX2_bottom, Cond.initialized RX2, Cond.code yX2_bottom cX2_bottom 2 (some .int), Cond.fieldLink RX2 21 "PictureProof$Rectangles" "bottoms" "[I", Cond.static yX3_isTest, Cond.initialized RX3, Cond.code yX3_isTest cX3_isTest 1 (some .boolean), Cond.methodLink RX3 70 yX3_isWithin, Cond.static yX3_isWithin, Cond.code yX3_isWithin cX3_isWithin 3 (some .boolean), Cond.methodLink RX3 198 yX2_right, Cond.instanceMethod yX2_right, Cond.selects RX2 yX2_right yX2_right, Cond.code yX2_right cX2_right 2 (some .int), Cond.fieldLink RX2 18 "PictureProof$Rectangles" "rights" "[I", Cond.methodLink RX3 186 yX2_top, Cond.instanceMethod yX2_top, Cond.selects RX2 yX2_top yX2_top, Cond.code yX2_top cX2_top 2 (some .int), Cond.fieldLink RX2 15 "PictureProof$Rectangles" "tops" "[I"]
def wsX3_fits_r2 : List Cond := [Cond.methodLink RX3 183 yX2_left, Cond.instanceMethod yX2_left, Cond.selects RX2 yX2_left yX2_left, Cond.code yX2_left cX2_left 2 (some .int), Cond.fieldLink RX2 9 "PictureProof$Rectangles" "lefts" "[I", Cond.methodLink RX3 55 yX3_isCell, Cond.static yX3_isCell, Cond.code yX3_isCell cX3_isCell 2 (some .boolean), Cond.methodLink RX3 48 yX3_pictureSlot, Cond.static yX3_pictureSlot, Cond.code yX3_pictureSlot cX3_pictureSlot 1 (some .int), Cond.methodLink RX3 59 yX1_at, Cond.instanceMethod yX1_at, Cond.selects RX1 yX1_at yX1_at, Cond.initialized RX1, Cond.code yX1_at cX1_at 4 (some .int), Cond.fieldLink RX1 9 "PictureProof$Pictures" "shades" "[I", Cond.methodLink RX1 23 yX1_isSlot, Cond.static yX1_isSlot, Cond.code yX1_isSlot cX1_isSlot 1 (some .boolean), Cond.methodLink RX1 31 yX1_place, Cond.static yX1_place, Cond.code yX1_place cX1_place 3 (some .int), Cond.methodLink RX3 154 yX3_isAlike]
def wsX3_fits_r3 : List Cond := [Cond.static yX3_isAlike, Cond.code yX3_isAlike cX3_isAlike 3 (some .boolean), Cond.methodLink RX3 163 Lib.Math.abs.name, Cond.static Lib.Math.abs.name, Cond.initialized "java/lang/Math", Cond.code Lib.Math.abs.name Lib.Math.abs.code 1 (some .int)]
def wsX3_fits : List Cond := .code yX3_fits cX3_fits 11 (some .boolean) :: ((wsX3_fits_r1 ++ (wsX3_fits_r2 ++ wsX3_fits_r3)) ++ wsX30 ++ wsX20 ++ wsX10)
def wsX3_moveBy : List Cond := .code yX3_moveBy cX3_moveBy 2 (some .int) :: ([])
def wsX3_findMove_r1 : List Cond := [Cond.fieldLink RX3 19 "PictureProof" "parts" "LPictureProof$Rectangles;", Cond.methodLink RX3 163 Lib.Math.abs.name, Cond.static Lib.Math.abs.name, Cond.initialized "java/lang/Math", Cond.code Lib.Math.abs.name Lib.Math.abs.code 1 (some .int), Cond.methodLink RX3 74 yX2_has, Cond.instanceMethod yX2_has, Cond.selects RX2 yX2_has yX2_has, Cond.initialized RX2, Cond.code yX2_has cX2_has 2 (some .boolean), Cond.fieldLink RX2 9 "PictureProof$Rectangles" "lefts" "[I", Cond.fieldLink RX2 18 "PictureProof$Rectangles" "rights" "[I", Cond.static yX3_isTest, Cond.initialized RX3, Cond.code yX3_isTest cX3_isTest 1 (some .boolean), Cond.methodLink RX3 70 yX3_isWithin, Cond.static yX3_isWithin, Cond.code yX3_isWithin cX3_isWithin 3 (some .boolean), Cond.methodLink RX3 189 yX3_fits, Cond.instanceMethod yX3_fits, Cond.selects RX3 yX3_fits yX3_fits, Cond.code yX3_fits cX3_fits 11 (some .boolean), Cond.fieldLink RX3 12 "PictureProof" "pictures" "LPictureProof$Pictures;", Cond.methodLink RX3 195 yX2_bottom]
def wsX3_findMove_r2 : List Cond := [Cond.instanceMethod yX2_bottom, Cond.selects RX2 yX2_bottom yX2_bottom, Cond.code yX2_bottom cX2_bottom 2 (some .int), Cond.fieldLink RX2 21 "PictureProof$Rectangles" "bottoms" "[I", Cond.methodLink RX3 198 yX2_right, Cond.instanceMethod yX2_right, Cond.selects RX2 yX2_right yX2_right, Cond.code yX2_right cX2_right 2 (some .int), Cond.methodLink RX3 186 yX2_top, Cond.instanceMethod yX2_top, Cond.selects RX2 yX2_top yX2_top, Cond.code yX2_top cX2_top 2 (some .int), Cond.fieldLink RX2 15 "PictureProof$Rectangles" "tops" "[I", Cond.methodLink RX3 183 yX2_left, Cond.instanceMethod yX2_left, Cond.selects RX2 yX2_left yX2_left, Cond.code yX2_left cX2_left 2 (some .int), Cond.methodLink RX3 55 yX3_isCell, Cond.static yX3_isCell, Cond.code yX3_isCell cX3_isCell 2 (some .boolean), Cond.methodLink RX3 48 yX3_pictureSlot, Cond.static yX3_pictureSlot, Cond.code yX3_pictureSlot cX3_pictureSlot 1 (some .int), Cond.methodLink RX3 59 yX1_at]
def wsX3_findMove_r3 : List Cond := [Cond.instanceMethod yX1_at, Cond.selects RX1 yX1_at yX1_at, Cond.initialized RX1, Cond.code yX1_at cX1_at 4 (some .int), Cond.fieldLink RX1 9 "PictureProof$Pictures" "shades" "[I", Cond.methodLink RX1 23 yX1_isSlot, Cond.static yX1_isSlot, Cond.code yX1_isSlot cX1_isSlot 1 (some .boolean), Cond.methodLink RX1 31 yX1_place, Cond.static yX1_place, Cond.code yX1_place cX1_place 3 (some .int), Cond.methodLink RX3 154 yX3_isAlike, Cond.static yX3_isAlike, Cond.code yX3_isAlike cX3_isAlike 3 (some .boolean), Cond.methodLink RX3 192 yX3_moveBy, Cond.static yX3_moveBy, Cond.code yX3_moveBy cX3_moveBy 2 (some .int)]
def wsX3_findMove : List Cond := .code yX3_findMove cX3_findMove 9 (some .int) :: ((wsX3_findMove_r1 ++ (wsX3_findMove_r2 ++ wsX3_findMove_r3)) ++ wsX30 ++ wsX20 ++ wsX10)
def wsX3_columnOf : List Cond := .code yX3_columnOf cX3_columnOf 1 (some .int) :: ([])
def wsX3_rowOf : List Cond := .code yX3_rowOf cX3_rowOf 1 (some .int) :: ([])
def wsX3_columnsOf : List Cond := .code yX3_columnsOf cX3_columnsOf 1 (some .int) :: ([])
def wsX3_rowsOf : List Cond := .code yX3_rowsOf cX3_rowsOf 1 (some .int) :: ([])
def wsX3_isMoved : List Cond := .code yX3_isMoved cX3_isMoved 5 (some .boolean) :: ([.fieldLink RX3 19 "PictureProof" "parts" "LPictureProof$Rectangles;", .methodLink RX3 174 yX2_holds, .instanceMethod yX2_holds, .selects RX2 yX2_holds yX2_holds, .initialized RX2, .code yX2_holds cX2_holds 4 (some .boolean), .fieldLink RX2 9 "PictureProof$Rectangles" "lefts" "[I", .fieldLink RX2 18 "PictureProof$Rectangles" "rights" "[I", .fieldLink RX2 15 "PictureProof$Rectangles" "tops" "[I", .fieldLink RX2 21 "PictureProof$Rectangles" "bottoms" "[I", .static yX3_isTest, .initialized RX3, .code yX3_isTest cX3_isTest 1 (some .boolean), .methodLink RX3 70 yX3_isWithin, .static yX3_isWithin, .code yX3_isWithin cX3_isWithin 3 (some .boolean), .methodLink RX3 177 yX3_columnsOf, .static yX3_columnsOf, .code yX3_columnsOf cX3_columnsOf 1 (some .int), .methodLink RX3 180 yX3_rowsOf, .static yX3_rowsOf, .code yX3_rowsOf cX3_rowsOf 1 (some .int)] ++ wsX30 ++ wsX20)
def wsX3_isMasked_r1 : List Cond := [Cond.fieldLink RX3 19 "PictureProof" "parts" "LPictureProof$Rectangles;", Cond.fieldLink RX3 23 "PictureProof" "masks" "LPictureProof$Rectangles;", Cond.methodLink RX3 177 yX3_columnsOf, Cond.static yX3_columnsOf, Cond.initialized RX3, Cond.code yX3_columnsOf cX3_columnsOf 1 (some .int), Cond.methodLink RX3 183 yX2_left, Cond.instanceMethod yX2_left, Cond.selects RX2 yX2_left yX2_left, Cond.initialized RX2, Cond.code yX2_left cX2_left 2 (some .int), Cond.fieldLink RX2 9 "PictureProof$Rectangles" "lefts" "[I", Cond.static yX3_isTest, Cond.code yX3_isTest cX3_isTest 1 (some .boolean), Cond.methodLink RX3 70 yX3_isWithin, Cond.static yX3_isWithin, Cond.code yX3_isWithin cX3_isWithin 3 (some .boolean), Cond.methodLink RX3 180 yX3_rowsOf, Cond.static yX3_rowsOf, Cond.code yX3_rowsOf cX3_rowsOf 1 (some .int), Cond.methodLink RX3 186 yX2_top, Cond.instanceMethod yX2_top, Cond.selects RX2 yX2_top yX2_top, Cond.code yX2_top cX2_top 2 (some .int)]
def wsX3_isMasked_r2 : List Cond := [Cond.fieldLink RX2 15 "PictureProof$Rectangles" "tops" "[I", Cond.methodLink RX3 174 yX2_holds, Cond.instanceMethod yX2_holds, Cond.selects RX2 yX2_holds yX2_holds, Cond.code yX2_holds cX2_holds 4 (some .boolean), Cond.fieldLink RX2 18 "PictureProof$Rectangles" "rights" "[I", Cond.fieldLink RX2 21 "PictureProof$Rectangles" "bottoms" "[I"]
def wsX3_isMasked : List Cond := .code yX3_isMasked cX3_isMasked 7 (some .boolean) :: ((wsX3_isMasked_r1 ++ wsX3_isMasked_r2) ++ wsX30 ++ wsX20)
def wsX3_isSoft_r1 : List Cond := [Cond.methodLink RX3 168 Lib.Math.min.name, Cond.static Lib.Math.min.name, Cond.initialized "java/lang/Math", Cond.code Lib.Math.min.name Lib.Math.min.code 2 (some .int), Cond.methodLink RX3 171 Lib.Math.max.name, Cond.static Lib.Math.max.name, Cond.code Lib.Math.max.name Lib.Math.max.code 2 (some .int), Cond.fieldLink RX3 12 "PictureProof" "pictures" "LPictureProof$Pictures;", Cond.methodLink RX3 48 yX3_pictureSlot, Cond.static yX3_pictureSlot, Cond.initialized RX3, Cond.code yX3_pictureSlot cX3_pictureSlot 1 (some .int), Cond.methodLink RX3 59 yX1_at, Cond.instanceMethod yX1_at, Cond.selects RX1 yX1_at yX1_at, Cond.initialized RX1, Cond.code yX1_at cX1_at 4 (some .int), Cond.fieldLink RX1 9 "PictureProof$Pictures" "shades" "[I", Cond.methodLink RX1 23 yX1_isSlot, Cond.static yX1_isSlot, Cond.code yX1_isSlot cX1_isSlot 1 (some .boolean), Cond.static yX3_isWithin, Cond.code yX3_isWithin cX3_isWithin 3 (some .boolean), Cond.static yX3_isCell]
def wsX3_isSoft_r2 : List Cond := [Cond.code yX3_isCell cX3_isCell 2 (some .boolean), Cond.methodLink RX3 70 yX3_isWithin, Cond.methodLink RX1 31 yX1_place, Cond.static yX1_place, Cond.code yX1_place cX1_place 3 (some .int), Cond.methodLink RX3 154 yX3_isAlike, Cond.static yX3_isAlike, Cond.code yX3_isAlike cX3_isAlike 3 (some .boolean), Cond.methodLink RX3 163 Lib.Math.abs.name, Cond.static Lib.Math.abs.name, Cond.code Lib.Math.abs.name Lib.Math.abs.code 1 (some .int)]
def wsX3_isSoft : List Cond := .code yX3_isSoft cX3_isSoft 13 (some .boolean) :: ((wsX3_isSoft_r1 ++ wsX3_isSoft_r2) ++ wsX30 ++ wsX10)
def wsX3_differs_r1 : List Cond := [Cond.fieldLink RX3 12 "PictureProof" "pictures" "LPictureProof$Pictures;", Cond.methodLink RX3 122 yX3_columnOf, Cond.static yX3_columnOf, Cond.initialized RX3, Cond.code yX3_columnOf cX3_columnOf 1 (some .int), Cond.methodLink RX3 125 yX3_rowOf, Cond.static yX3_rowOf, Cond.code yX3_rowOf cX3_rowOf 1 (some .int), Cond.methodLink RX3 48 yX3_pictureSlot, Cond.static yX3_pictureSlot, Cond.code yX3_pictureSlot cX3_pictureSlot 1 (some .int), Cond.methodLink RX3 59 yX1_at, Cond.instanceMethod yX1_at, Cond.selects RX1 yX1_at yX1_at, Cond.initialized RX1, Cond.code yX1_at cX1_at 4 (some .int), Cond.fieldLink RX1 9 "PictureProof$Pictures" "shades" "[I", Cond.methodLink RX1 23 yX1_isSlot, Cond.static yX1_isSlot, Cond.code yX1_isSlot cX1_isSlot 1 (some .boolean), Cond.static yX3_isWithin, Cond.code yX3_isWithin cX3_isWithin 3 (some .boolean), Cond.static yX3_isCell, Cond.code yX3_isCell cX3_isCell 2 (some .boolean)]
def wsX3_differs_r2 : List Cond := [Cond.methodLink RX3 70 yX3_isWithin, Cond.methodLink RX1 31 yX1_place, Cond.static yX1_place, Cond.code yX1_place cX1_place 3 (some .int), Cond.methodLink RX3 154 yX3_isAlike, Cond.static yX3_isAlike, Cond.code yX3_isAlike cX3_isAlike 3 (some .boolean), Cond.methodLink RX3 163 Lib.Math.abs.name, Cond.static Lib.Math.abs.name, Cond.initialized "java/lang/Math", Cond.code Lib.Math.abs.name Lib.Math.abs.code 1 (some .int), Cond.methodLink RX3 157 yX3_isMoved, Cond.instanceMethod yX3_isMoved, Cond.selects RX3 yX3_isMoved yX3_isMoved, Cond.code yX3_isMoved cX3_isMoved 5 (some .boolean), Cond.fieldLink RX3 19 "PictureProof" "parts" "LPictureProof$Rectangles;", Cond.methodLink RX3 174 yX2_holds, Cond.instanceMethod yX2_holds, Cond.selects RX2 yX2_holds yX2_holds, Cond.initialized RX2, Cond.code yX2_holds cX2_holds 4 (some .boolean), Cond.fieldLink RX2 9 "PictureProof$Rectangles" "lefts" "[I", Cond.fieldLink RX2 18 "PictureProof$Rectangles" "rights" "[I", Cond.fieldLink RX2 15 "PictureProof$Rectangles" "tops" "[I"]
def wsX3_differs_r3 : List Cond := [Cond.fieldLink RX2 21 "PictureProof$Rectangles" "bottoms" "[I", Cond.static yX3_isTest, Cond.code yX3_isTest cX3_isTest 1 (some .boolean), Cond.methodLink RX3 177 yX3_columnsOf, Cond.static yX3_columnsOf, Cond.code yX3_columnsOf cX3_columnsOf 1 (some .int), Cond.methodLink RX3 180 yX3_rowsOf, Cond.static yX3_rowsOf, Cond.code yX3_rowsOf cX3_rowsOf 1 (some .int), Cond.methodLink RX3 160 yX3_isMasked, Cond.instanceMethod yX3_isMasked, Cond.selects RX3 yX3_isMasked yX3_isMasked, Cond.code yX3_isMasked cX3_isMasked 7 (some .boolean), Cond.fieldLink RX3 23 "PictureProof" "masks" "LPictureProof$Rectangles;", Cond.methodLink RX3 183 yX2_left, Cond.instanceMethod yX2_left, Cond.selects RX2 yX2_left yX2_left, Cond.code yX2_left cX2_left 2 (some .int), Cond.methodLink RX3 186 yX2_top, Cond.instanceMethod yX2_top, Cond.selects RX2 yX2_top yX2_top, Cond.code yX2_top cX2_top 2 (some .int), Cond.methodLink RX3 128 yX3_isSoft, Cond.instanceMethod yX3_isSoft]
def wsX3_differs_r4 : List Cond := [Cond.selects RX3 yX3_isSoft yX3_isSoft, Cond.code yX3_isSoft cX3_isSoft 13 (some .boolean), Cond.methodLink RX3 168 Lib.Math.min.name, Cond.static Lib.Math.min.name, Cond.code Lib.Math.min.name Lib.Math.min.code 2 (some .int), Cond.methodLink RX3 171 Lib.Math.max.name, Cond.static Lib.Math.max.name, Cond.code Lib.Math.max.name Lib.Math.max.code 2 (some .int)]
def wsX3_differs : List Cond := .code yX3_differs cX3_differs 10 (some .boolean) :: ((wsX3_differs_r1 ++ (wsX3_differs_r2 ++ (wsX3_differs_r3 ++ wsX3_differs_r4))) ++ wsX30 ++ wsX10 ++ wsX20)
def wsX3_differences_r1 : List Cond := [Cond.methodLink RX3 108 yX3_checkComparison, Cond.instanceMethod yX3_checkComparison, Cond.selects RX3 yX3_checkComparison yX3_checkComparison, Cond.initialized RX3, Cond.code yX3_checkComparison cX3_checkComparison 4 none, Cond.classLink RX3 77 "java/lang/IllegalStateException", Cond.initialized "java/lang/IllegalStateException", Cond.fieldLink RX3 12 "PictureProof" "pictures" "LPictureProof$Pictures;", Cond.methodLink RX3 84 yX3_isBranch, Cond.static yX3_isBranch, Cond.code yX3_isBranch cX3_isBranch 1 (some .boolean), Cond.methodLink RX3 70 yX3_isWithin, Cond.static yX3_isWithin, Cond.code yX3_isWithin cX3_isWithin 3 (some .boolean), Cond.methodLink RX3 33 yX3_isTest, Cond.static yX3_isTest, Cond.code yX3_isTest cX3_isTest 1 (some .boolean), Cond.methodLink RX3 41 yX3_isShade, Cond.static yX3_isShade, Cond.code yX3_isShade cX3_isShade 1 (some .boolean), Cond.methodLink RX3 44 yX3_checkArguments, Cond.static yX3_checkArguments, Cond.code yX3_checkArguments cX3_checkArguments 1 none, Cond.classLink RX3 141 "java/lang/IllegalArgumentException"]
def wsX3_differences_r2 : List Cond := [Cond.initialized "java/lang/IllegalArgumentException", Cond.methodLink RX3 87 yX3_approvedSlot, Cond.static yX3_approvedSlot, Cond.code yX3_approvedSlot cX3_approvedSlot 2 (some .int), Cond.methodLink RX3 91 yX1_has, Cond.instanceMethod yX1_has, Cond.selects RX1 yX1_has yX1_has, Cond.initialized RX1, Cond.code yX1_has cX1_has 2 (some .boolean), Cond.fieldLink RX1 15 "PictureProof$Pictures" "held" "[Z", Cond.methodLink RX1 23 yX1_isSlot, Cond.static yX1_isSlot, Cond.code yX1_isSlot cX1_isSlot 1 (some .boolean), Cond.methodLink RX3 112 yX3_findMove, Cond.instanceMethod yX3_findMove, Cond.selects RX3 yX3_findMove yX3_findMove, Cond.code yX3_findMove cX3_findMove 9 (some .int), Cond.fieldLink RX3 19 "PictureProof" "parts" "LPictureProof$Rectangles;", Cond.methodLink RX3 163 Lib.Math.abs.name, Cond.static Lib.Math.abs.name, Cond.initialized "java/lang/Math", Cond.code Lib.Math.abs.name Lib.Math.abs.code 1 (some .int), Cond.methodLink RX3 74 yX2_has, Cond.instanceMethod yX2_has]
def wsX3_differences_r3 : List Cond := [Cond.selects RX2 yX2_has yX2_has, Cond.initialized RX2, Cond.code yX2_has cX2_has 2 (some .boolean), Cond.fieldLink RX2 9 "PictureProof$Rectangles" "lefts" "[I", Cond.fieldLink RX2 18 "PictureProof$Rectangles" "rights" "[I", Cond.methodLink RX3 189 yX3_fits, Cond.instanceMethod yX3_fits, Cond.selects RX3 yX3_fits yX3_fits, Cond.code yX3_fits cX3_fits 11 (some .boolean), Cond.methodLink RX3 195 yX2_bottom, Cond.instanceMethod yX2_bottom, Cond.selects RX2 yX2_bottom yX2_bottom, Cond.code yX2_bottom cX2_bottom 2 (some .int), Cond.fieldLink RX2 21 "PictureProof$Rectangles" "bottoms" "[I", Cond.methodLink RX3 198 yX2_right, Cond.instanceMethod yX2_right, Cond.selects RX2 yX2_right yX2_right, Cond.code yX2_right cX2_right 2 (some .int), Cond.methodLink RX3 186 yX2_top, Cond.instanceMethod yX2_top, Cond.selects RX2 yX2_top yX2_top, Cond.code yX2_top cX2_top 2 (some .int), Cond.fieldLink RX2 15 "PictureProof$Rectangles" "tops" "[I", Cond.methodLink RX3 183 yX2_left]
def wsX3_differences_r4 : List Cond := [Cond.instanceMethod yX2_left, Cond.selects RX2 yX2_left yX2_left, Cond.code yX2_left cX2_left 2 (some .int), Cond.methodLink RX3 55 yX3_isCell, Cond.static yX3_isCell, Cond.code yX3_isCell cX3_isCell 2 (some .boolean), Cond.methodLink RX3 48 yX3_pictureSlot, Cond.static yX3_pictureSlot, Cond.code yX3_pictureSlot cX3_pictureSlot 1 (some .int), Cond.methodLink RX3 59 yX1_at, Cond.instanceMethod yX1_at, Cond.selects RX1 yX1_at yX1_at, Cond.code yX1_at cX1_at 4 (some .int), Cond.fieldLink RX1 9 "PictureProof$Pictures" "shades" "[I", Cond.methodLink RX1 31 yX1_place, Cond.static yX1_place, Cond.code yX1_place cX1_place 3 (some .int), Cond.methodLink RX3 154 yX3_isAlike, Cond.static yX3_isAlike, Cond.code yX3_isAlike cX3_isAlike 3 (some .boolean), Cond.methodLink RX3 192 yX3_moveBy, Cond.static yX3_moveBy, Cond.code yX3_moveBy cX3_moveBy 2 (some .int), Cond.methodLink RX3 115 yX3_differs]
def wsX3_differences_r5 : List Cond := [Cond.instanceMethod yX3_differs, Cond.selects RX3 yX3_differs yX3_differs, Cond.code yX3_differs cX3_differs 10 (some .boolean), Cond.methodLink RX3 122 yX3_columnOf, Cond.static yX3_columnOf, Cond.code yX3_columnOf cX3_columnOf 1 (some .int), Cond.methodLink RX3 125 yX3_rowOf, Cond.static yX3_rowOf, Cond.code yX3_rowOf cX3_rowOf 1 (some .int), Cond.methodLink RX3 157 yX3_isMoved, Cond.instanceMethod yX3_isMoved, Cond.selects RX3 yX3_isMoved yX3_isMoved, Cond.code yX3_isMoved cX3_isMoved 5 (some .boolean), Cond.methodLink RX3 174 yX2_holds, Cond.instanceMethod yX2_holds, Cond.selects RX2 yX2_holds yX2_holds, Cond.code yX2_holds cX2_holds 4 (some .boolean), Cond.methodLink RX3 177 yX3_columnsOf, Cond.static yX3_columnsOf, Cond.code yX3_columnsOf cX3_columnsOf 1 (some .int), Cond.methodLink RX3 180 yX3_rowsOf, Cond.static yX3_rowsOf, Cond.code yX3_rowsOf cX3_rowsOf 1 (some .int), Cond.methodLink RX3 160 yX3_isMasked]
def wsX3_differences_r6 : List Cond := [Cond.instanceMethod yX3_isMasked, Cond.selects RX3 yX3_isMasked yX3_isMasked, Cond.code yX3_isMasked cX3_isMasked 7 (some .boolean), Cond.fieldLink RX3 23 "PictureProof" "masks" "LPictureProof$Rectangles;", Cond.methodLink RX3 128 yX3_isSoft, Cond.instanceMethod yX3_isSoft, Cond.selects RX3 yX3_isSoft yX3_isSoft, Cond.code yX3_isSoft cX3_isSoft 13 (some .boolean), Cond.methodLink RX3 168 Lib.Math.min.name, Cond.static Lib.Math.min.name, Cond.code Lib.Math.min.name Lib.Math.min.code 2 (some .int), Cond.methodLink RX3 171 Lib.Math.max.name, Cond.static Lib.Math.max.name, Cond.code Lib.Math.max.name Lib.Math.max.code 2 (some .int)]
def wsX3_differences : List Cond := .code yX3_differences cX3_differences 8 (some .int) :: ((wsX3_differences_r1 ++ (wsX3_differences_r2 ++ (wsX3_differences_r3 ++ (wsX3_differences_r4 ++ (wsX3_differences_r5 ++ wsX3_differences_r6))))) ++ wsX30 ++ wsX10 ++ wsX20 ++ (vx_atS RX3 81 "java/lang/IllegalStateException" ["java/lang/RuntimeException", "java/lang/Exception"]).filter goodWord ++ (vx_atS RX3 145 "java/lang/IllegalArgumentException" ["java/lang/RuntimeException", "java/lang/Exception"]).filter goodWord)
def wsX3_findDifference_r1 : List Cond := [Cond.methodLink RX3 112 yX3_findMove, Cond.instanceMethod yX3_findMove, Cond.selects RX3 yX3_findMove yX3_findMove, Cond.initialized RX3, Cond.code yX3_findMove cX3_findMove 9 (some .int), Cond.fieldLink RX3 19 "PictureProof" "parts" "LPictureProof$Rectangles;", Cond.methodLink RX3 163 Lib.Math.abs.name, Cond.static Lib.Math.abs.name, Cond.initialized "java/lang/Math", Cond.code Lib.Math.abs.name Lib.Math.abs.code 1 (some .int), Cond.methodLink RX3 74 yX2_has, Cond.instanceMethod yX2_has, Cond.selects RX2 yX2_has yX2_has, Cond.initialized RX2, Cond.code yX2_has cX2_has 2 (some .boolean), Cond.fieldLink RX2 9 "PictureProof$Rectangles" "lefts" "[I", Cond.fieldLink RX2 18 "PictureProof$Rectangles" "rights" "[I", Cond.static yX3_isTest, Cond.code yX3_isTest cX3_isTest 1 (some .boolean), Cond.methodLink RX3 70 yX3_isWithin, Cond.static yX3_isWithin, Cond.code yX3_isWithin cX3_isWithin 3 (some .boolean), Cond.methodLink RX3 189 yX3_fits, Cond.instanceMethod yX3_fits]
def wsX3_findDifference_r2 : List Cond := [Cond.selects RX3 yX3_fits yX3_fits, Cond.code yX3_fits cX3_fits 11 (some .boolean), Cond.fieldLink RX3 12 "PictureProof" "pictures" "LPictureProof$Pictures;", Cond.methodLink RX3 195 yX2_bottom, Cond.instanceMethod yX2_bottom, Cond.selects RX2 yX2_bottom yX2_bottom, Cond.code yX2_bottom cX2_bottom 2 (some .int), Cond.fieldLink RX2 21 "PictureProof$Rectangles" "bottoms" "[I", Cond.methodLink RX3 198 yX2_right, Cond.instanceMethod yX2_right, Cond.selects RX2 yX2_right yX2_right, Cond.code yX2_right cX2_right 2 (some .int), Cond.methodLink RX3 186 yX2_top, Cond.instanceMethod yX2_top, Cond.selects RX2 yX2_top yX2_top, Cond.code yX2_top cX2_top 2 (some .int), Cond.fieldLink RX2 15 "PictureProof$Rectangles" "tops" "[I", Cond.methodLink RX3 183 yX2_left, Cond.instanceMethod yX2_left, Cond.selects RX2 yX2_left yX2_left, Cond.code yX2_left cX2_left 2 (some .int), Cond.methodLink RX3 55 yX3_isCell, Cond.static yX3_isCell, Cond.code yX3_isCell cX3_isCell 2 (some .boolean)]
def wsX3_findDifference_r3 : List Cond := [Cond.methodLink RX3 48 yX3_pictureSlot, Cond.static yX3_pictureSlot, Cond.code yX3_pictureSlot cX3_pictureSlot 1 (some .int), Cond.methodLink RX3 59 yX1_at, Cond.instanceMethod yX1_at, Cond.selects RX1 yX1_at yX1_at, Cond.initialized RX1, Cond.code yX1_at cX1_at 4 (some .int), Cond.fieldLink RX1 9 "PictureProof$Pictures" "shades" "[I", Cond.methodLink RX1 23 yX1_isSlot, Cond.static yX1_isSlot, Cond.code yX1_isSlot cX1_isSlot 1 (some .boolean), Cond.methodLink RX1 31 yX1_place, Cond.static yX1_place, Cond.code yX1_place cX1_place 3 (some .int), Cond.methodLink RX3 154 yX3_isAlike, Cond.static yX3_isAlike, Cond.code yX3_isAlike cX3_isAlike 3 (some .boolean), Cond.methodLink RX3 192 yX3_moveBy, Cond.static yX3_moveBy, Cond.code yX3_moveBy cX3_moveBy 2 (some .int), Cond.methodLink RX3 115 yX3_differs, Cond.instanceMethod yX3_differs, Cond.selects RX3 yX3_differs yX3_differs]
def wsX3_findDifference_r4 : List Cond := [Cond.code yX3_differs cX3_differs 10 (some .boolean), Cond.methodLink RX3 122 yX3_columnOf, Cond.static yX3_columnOf, Cond.code yX3_columnOf cX3_columnOf 1 (some .int), Cond.methodLink RX3 125 yX3_rowOf, Cond.static yX3_rowOf, Cond.code yX3_rowOf cX3_rowOf 1 (some .int), Cond.methodLink RX3 157 yX3_isMoved, Cond.instanceMethod yX3_isMoved, Cond.selects RX3 yX3_isMoved yX3_isMoved, Cond.code yX3_isMoved cX3_isMoved 5 (some .boolean), Cond.methodLink RX3 174 yX2_holds, Cond.instanceMethod yX2_holds, Cond.selects RX2 yX2_holds yX2_holds, Cond.code yX2_holds cX2_holds 4 (some .boolean), Cond.methodLink RX3 177 yX3_columnsOf, Cond.static yX3_columnsOf, Cond.code yX3_columnsOf cX3_columnsOf 1 (some .int), Cond.methodLink RX3 180 yX3_rowsOf, Cond.static yX3_rowsOf, Cond.code yX3_rowsOf cX3_rowsOf 1 (some .int), Cond.methodLink RX3 160 yX3_isMasked, Cond.instanceMethod yX3_isMasked, Cond.selects RX3 yX3_isMasked yX3_isMasked]
def wsX3_findDifference_r5 : List Cond := [Cond.code yX3_isMasked cX3_isMasked 7 (some .boolean), Cond.fieldLink RX3 23 "PictureProof" "masks" "LPictureProof$Rectangles;", Cond.methodLink RX3 128 yX3_isSoft, Cond.instanceMethod yX3_isSoft, Cond.selects RX3 yX3_isSoft yX3_isSoft, Cond.code yX3_isSoft cX3_isSoft 13 (some .boolean), Cond.methodLink RX3 168 Lib.Math.min.name, Cond.static Lib.Math.min.name, Cond.code Lib.Math.min.name Lib.Math.min.code 2 (some .int), Cond.methodLink RX3 171 Lib.Math.max.name, Cond.static Lib.Math.max.name, Cond.code Lib.Math.max.name Lib.Math.max.code 2 (some .int)]
def wsX3_findDifference : List Cond := .code yX3_findDifference cX3_findDifference 6 (some .int) :: ((wsX3_findDifference_r1 ++ (wsX3_findDifference_r2 ++ (wsX3_findDifference_r3 ++ (wsX3_findDifference_r4 ++ wsX3_findDifference_r5)))) ++ wsX30 ++ wsX20 ++ wsX10)
def wsX3_firstDifference_r1 : List Cond := [Cond.methodLink RX3 108 yX3_checkComparison, Cond.instanceMethod yX3_checkComparison, Cond.selects RX3 yX3_checkComparison yX3_checkComparison, Cond.initialized RX3, Cond.code yX3_checkComparison cX3_checkComparison 4 none, Cond.classLink RX3 77 "java/lang/IllegalStateException", Cond.initialized "java/lang/IllegalStateException", Cond.fieldLink RX3 12 "PictureProof" "pictures" "LPictureProof$Pictures;", Cond.methodLink RX3 84 yX3_isBranch, Cond.static yX3_isBranch, Cond.code yX3_isBranch cX3_isBranch 1 (some .boolean), Cond.methodLink RX3 70 yX3_isWithin, Cond.static yX3_isWithin, Cond.code yX3_isWithin cX3_isWithin 3 (some .boolean), Cond.methodLink RX3 33 yX3_isTest, Cond.static yX3_isTest, Cond.code yX3_isTest cX3_isTest 1 (some .boolean), Cond.methodLink RX3 41 yX3_isShade, Cond.static yX3_isShade, Cond.code yX3_isShade cX3_isShade 1 (some .boolean), Cond.methodLink RX3 44 yX3_checkArguments, Cond.static yX3_checkArguments, Cond.code yX3_checkArguments cX3_checkArguments 1 none, Cond.classLink RX3 141 "java/lang/IllegalArgumentException"]
def wsX3_firstDifference_r2 : List Cond := [Cond.initialized "java/lang/IllegalArgumentException", Cond.methodLink RX3 87 yX3_approvedSlot, Cond.static yX3_approvedSlot, Cond.code yX3_approvedSlot cX3_approvedSlot 2 (some .int), Cond.methodLink RX3 91 yX1_has, Cond.instanceMethod yX1_has, Cond.selects RX1 yX1_has yX1_has, Cond.initialized RX1, Cond.code yX1_has cX1_has 2 (some .boolean), Cond.fieldLink RX1 15 "PictureProof$Pictures" "held" "[Z", Cond.methodLink RX1 23 yX1_isSlot, Cond.static yX1_isSlot, Cond.code yX1_isSlot cX1_isSlot 1 (some .boolean), Cond.methodLink RX3 119 yX3_findDifference, Cond.instanceMethod yX3_findDifference, Cond.selects RX3 yX3_findDifference yX3_findDifference, Cond.code yX3_findDifference cX3_findDifference 6 (some .int), Cond.methodLink RX3 112 yX3_findMove, Cond.instanceMethod yX3_findMove, Cond.selects RX3 yX3_findMove yX3_findMove, Cond.code yX3_findMove cX3_findMove 9 (some .int), Cond.fieldLink RX3 19 "PictureProof" "parts" "LPictureProof$Rectangles;", Cond.methodLink RX3 163 Lib.Math.abs.name, Cond.static Lib.Math.abs.name]
def wsX3_firstDifference_r3 : List Cond := [Cond.initialized "java/lang/Math", Cond.code Lib.Math.abs.name Lib.Math.abs.code 1 (some .int), Cond.methodLink RX3 74 yX2_has, Cond.instanceMethod yX2_has, Cond.selects RX2 yX2_has yX2_has, Cond.initialized RX2, Cond.code yX2_has cX2_has 2 (some .boolean), Cond.fieldLink RX2 9 "PictureProof$Rectangles" "lefts" "[I", Cond.fieldLink RX2 18 "PictureProof$Rectangles" "rights" "[I", Cond.methodLink RX3 189 yX3_fits, Cond.instanceMethod yX3_fits, Cond.selects RX3 yX3_fits yX3_fits, Cond.code yX3_fits cX3_fits 11 (some .boolean), Cond.methodLink RX3 195 yX2_bottom, Cond.instanceMethod yX2_bottom, Cond.selects RX2 yX2_bottom yX2_bottom, Cond.code yX2_bottom cX2_bottom 2 (some .int), Cond.fieldLink RX2 21 "PictureProof$Rectangles" "bottoms" "[I", Cond.methodLink RX3 198 yX2_right, Cond.instanceMethod yX2_right, Cond.selects RX2 yX2_right yX2_right, Cond.code yX2_right cX2_right 2 (some .int), Cond.methodLink RX3 186 yX2_top, Cond.instanceMethod yX2_top]
def wsX3_firstDifference_r4 : List Cond := [Cond.selects RX2 yX2_top yX2_top, Cond.code yX2_top cX2_top 2 (some .int), Cond.fieldLink RX2 15 "PictureProof$Rectangles" "tops" "[I", Cond.methodLink RX3 183 yX2_left, Cond.instanceMethod yX2_left, Cond.selects RX2 yX2_left yX2_left, Cond.code yX2_left cX2_left 2 (some .int), Cond.methodLink RX3 55 yX3_isCell, Cond.static yX3_isCell, Cond.code yX3_isCell cX3_isCell 2 (some .boolean), Cond.methodLink RX3 48 yX3_pictureSlot, Cond.static yX3_pictureSlot, Cond.code yX3_pictureSlot cX3_pictureSlot 1 (some .int), Cond.methodLink RX3 59 yX1_at, Cond.instanceMethod yX1_at, Cond.selects RX1 yX1_at yX1_at, Cond.code yX1_at cX1_at 4 (some .int), Cond.fieldLink RX1 9 "PictureProof$Pictures" "shades" "[I", Cond.methodLink RX1 31 yX1_place, Cond.static yX1_place, Cond.code yX1_place cX1_place 3 (some .int), Cond.methodLink RX3 154 yX3_isAlike, Cond.static yX3_isAlike, Cond.code yX3_isAlike cX3_isAlike 3 (some .boolean)]
def wsX3_firstDifference_r5 : List Cond := [Cond.methodLink RX3 192 yX3_moveBy, Cond.static yX3_moveBy, Cond.code yX3_moveBy cX3_moveBy 2 (some .int), Cond.methodLink RX3 115 yX3_differs, Cond.instanceMethod yX3_differs, Cond.selects RX3 yX3_differs yX3_differs, Cond.code yX3_differs cX3_differs 10 (some .boolean), Cond.methodLink RX3 122 yX3_columnOf, Cond.static yX3_columnOf, Cond.code yX3_columnOf cX3_columnOf 1 (some .int), Cond.methodLink RX3 125 yX3_rowOf, Cond.static yX3_rowOf, Cond.code yX3_rowOf cX3_rowOf 1 (some .int), Cond.methodLink RX3 157 yX3_isMoved, Cond.instanceMethod yX3_isMoved, Cond.selects RX3 yX3_isMoved yX3_isMoved, Cond.code yX3_isMoved cX3_isMoved 5 (some .boolean), Cond.methodLink RX3 174 yX2_holds, Cond.instanceMethod yX2_holds, Cond.selects RX2 yX2_holds yX2_holds, Cond.code yX2_holds cX2_holds 4 (some .boolean), Cond.methodLink RX3 177 yX3_columnsOf, Cond.static yX3_columnsOf, Cond.code yX3_columnsOf cX3_columnsOf 1 (some .int)]
def wsX3_firstDifference_r6 : List Cond := [Cond.methodLink RX3 180 yX3_rowsOf, Cond.static yX3_rowsOf, Cond.code yX3_rowsOf cX3_rowsOf 1 (some .int), Cond.methodLink RX3 160 yX3_isMasked, Cond.instanceMethod yX3_isMasked, Cond.selects RX3 yX3_isMasked yX3_isMasked, Cond.code yX3_isMasked cX3_isMasked 7 (some .boolean), Cond.fieldLink RX3 23 "PictureProof" "masks" "LPictureProof$Rectangles;", Cond.methodLink RX3 128 yX3_isSoft, Cond.instanceMethod yX3_isSoft, Cond.selects RX3 yX3_isSoft yX3_isSoft, Cond.code yX3_isSoft cX3_isSoft 13 (some .boolean), Cond.methodLink RX3 168 Lib.Math.min.name, Cond.static Lib.Math.min.name, Cond.code Lib.Math.min.name Lib.Math.min.code 2 (some .int), Cond.methodLink RX3 171 Lib.Math.max.name, Cond.static Lib.Math.max.name, Cond.code Lib.Math.max.name Lib.Math.max.code 2 (some .int)]
def wsX3_firstDifference : List Cond := .code yX3_firstDifference cX3_firstDifference 4 (some .int) :: ((wsX3_firstDifference_r1 ++ (wsX3_firstDifference_r2 ++ (wsX3_firstDifference_r3 ++ (wsX3_firstDifference_r4 ++ (wsX3_firstDifference_r5 ++ wsX3_firstDifference_r6))))) ++ wsX30 ++ wsX10 ++ wsX20 ++ (vx_atS RX3 81 "java/lang/IllegalStateException" ["java/lang/RuntimeException", "java/lang/Exception"]).filter goodWord ++ (vx_atS RX3 145 "java/lang/IllegalArgumentException" ["java/lang/RuntimeException", "java/lang/Exception"]).filter goodWord)
def wsX3_move_r1 : List Cond := [Cond.methodLink RX3 108 yX3_checkComparison, Cond.instanceMethod yX3_checkComparison, Cond.selects RX3 yX3_checkComparison yX3_checkComparison, Cond.initialized RX3, Cond.code yX3_checkComparison cX3_checkComparison 4 none, Cond.classLink RX3 77 "java/lang/IllegalStateException", Cond.initialized "java/lang/IllegalStateException", Cond.fieldLink RX3 12 "PictureProof" "pictures" "LPictureProof$Pictures;", Cond.methodLink RX3 84 yX3_isBranch, Cond.static yX3_isBranch, Cond.code yX3_isBranch cX3_isBranch 1 (some .boolean), Cond.methodLink RX3 70 yX3_isWithin, Cond.static yX3_isWithin, Cond.code yX3_isWithin cX3_isWithin 3 (some .boolean), Cond.methodLink RX3 33 yX3_isTest, Cond.static yX3_isTest, Cond.code yX3_isTest cX3_isTest 1 (some .boolean), Cond.methodLink RX3 41 yX3_isShade, Cond.static yX3_isShade, Cond.code yX3_isShade cX3_isShade 1 (some .boolean), Cond.methodLink RX3 44 yX3_checkArguments, Cond.static yX3_checkArguments, Cond.code yX3_checkArguments cX3_checkArguments 1 none, Cond.classLink RX3 141 "java/lang/IllegalArgumentException"]
def wsX3_move_r2 : List Cond := [Cond.initialized "java/lang/IllegalArgumentException", Cond.methodLink RX3 87 yX3_approvedSlot, Cond.static yX3_approvedSlot, Cond.code yX3_approvedSlot cX3_approvedSlot 2 (some .int), Cond.methodLink RX3 91 yX1_has, Cond.instanceMethod yX1_has, Cond.selects RX1 yX1_has yX1_has, Cond.initialized RX1, Cond.code yX1_has cX1_has 2 (some .boolean), Cond.fieldLink RX1 15 "PictureProof$Pictures" "held" "[Z", Cond.methodLink RX1 23 yX1_isSlot, Cond.static yX1_isSlot, Cond.code yX1_isSlot cX1_isSlot 1 (some .boolean), Cond.methodLink RX3 112 yX3_findMove, Cond.instanceMethod yX3_findMove, Cond.selects RX3 yX3_findMove yX3_findMove, Cond.code yX3_findMove cX3_findMove 9 (some .int), Cond.fieldLink RX3 19 "PictureProof" "parts" "LPictureProof$Rectangles;", Cond.methodLink RX3 163 Lib.Math.abs.name, Cond.static Lib.Math.abs.name, Cond.initialized "java/lang/Math", Cond.code Lib.Math.abs.name Lib.Math.abs.code 1 (some .int), Cond.methodLink RX3 74 yX2_has, Cond.instanceMethod yX2_has]
def wsX3_move_r3 : List Cond := [Cond.selects RX2 yX2_has yX2_has, Cond.initialized RX2, Cond.code yX2_has cX2_has 2 (some .boolean), Cond.fieldLink RX2 9 "PictureProof$Rectangles" "lefts" "[I", Cond.fieldLink RX2 18 "PictureProof$Rectangles" "rights" "[I", Cond.methodLink RX3 189 yX3_fits, Cond.instanceMethod yX3_fits, Cond.selects RX3 yX3_fits yX3_fits, Cond.code yX3_fits cX3_fits 11 (some .boolean), Cond.methodLink RX3 195 yX2_bottom, Cond.instanceMethod yX2_bottom, Cond.selects RX2 yX2_bottom yX2_bottom, Cond.code yX2_bottom cX2_bottom 2 (some .int), Cond.fieldLink RX2 21 "PictureProof$Rectangles" "bottoms" "[I", Cond.methodLink RX3 198 yX2_right, Cond.instanceMethod yX2_right, Cond.selects RX2 yX2_right yX2_right, Cond.code yX2_right cX2_right 2 (some .int), Cond.methodLink RX3 186 yX2_top, Cond.instanceMethod yX2_top, Cond.selects RX2 yX2_top yX2_top, Cond.code yX2_top cX2_top 2 (some .int), Cond.fieldLink RX2 15 "PictureProof$Rectangles" "tops" "[I", Cond.methodLink RX3 183 yX2_left]
def wsX3_move_r4 : List Cond := [Cond.instanceMethod yX2_left, Cond.selects RX2 yX2_left yX2_left, Cond.code yX2_left cX2_left 2 (some .int), Cond.methodLink RX3 55 yX3_isCell, Cond.static yX3_isCell, Cond.code yX3_isCell cX3_isCell 2 (some .boolean), Cond.methodLink RX3 48 yX3_pictureSlot, Cond.static yX3_pictureSlot, Cond.code yX3_pictureSlot cX3_pictureSlot 1 (some .int), Cond.methodLink RX3 59 yX1_at, Cond.instanceMethod yX1_at, Cond.selects RX1 yX1_at yX1_at, Cond.code yX1_at cX1_at 4 (some .int), Cond.fieldLink RX1 9 "PictureProof$Pictures" "shades" "[I", Cond.methodLink RX1 31 yX1_place, Cond.static yX1_place, Cond.code yX1_place cX1_place 3 (some .int), Cond.methodLink RX3 154 yX3_isAlike, Cond.static yX3_isAlike, Cond.code yX3_isAlike cX3_isAlike 3 (some .boolean), Cond.methodLink RX3 192 yX3_moveBy, Cond.static yX3_moveBy, Cond.code yX3_moveBy cX3_moveBy 2 (some .int)]
def wsX3_move : List Cond := .code yX3_move cX3_move 4 (some .int) :: ((wsX3_move_r1 ++ (wsX3_move_r2 ++ (wsX3_move_r3 ++ wsX3_move_r4))) ++ wsX30 ++ wsX10 ++ wsX20 ++ (vx_atS RX3 81 "java/lang/IllegalStateException" ["java/lang/RuntimeException", "java/lang/Exception"]).filter goodWord ++ (vx_atS RX3 145 "java/lang/IllegalArgumentException" ["java/lang/RuntimeException", "java/lang/Exception"]).filter goodWord)
def wsX3_soft_r1 : List Cond := [Cond.methodLink RX3 108 yX3_checkComparison, Cond.instanceMethod yX3_checkComparison, Cond.selects RX3 yX3_checkComparison yX3_checkComparison, Cond.initialized RX3, Cond.code yX3_checkComparison cX3_checkComparison 4 none, Cond.classLink RX3 77 "java/lang/IllegalStateException", Cond.initialized "java/lang/IllegalStateException", Cond.fieldLink RX3 12 "PictureProof" "pictures" "LPictureProof$Pictures;", Cond.methodLink RX3 84 yX3_isBranch, Cond.static yX3_isBranch, Cond.code yX3_isBranch cX3_isBranch 1 (some .boolean), Cond.methodLink RX3 70 yX3_isWithin, Cond.static yX3_isWithin, Cond.code yX3_isWithin cX3_isWithin 3 (some .boolean), Cond.methodLink RX3 33 yX3_isTest, Cond.static yX3_isTest, Cond.code yX3_isTest cX3_isTest 1 (some .boolean), Cond.methodLink RX3 41 yX3_isShade, Cond.static yX3_isShade, Cond.code yX3_isShade cX3_isShade 1 (some .boolean), Cond.methodLink RX3 44 yX3_checkArguments, Cond.static yX3_checkArguments, Cond.code yX3_checkArguments cX3_checkArguments 1 none, Cond.classLink RX3 141 "java/lang/IllegalArgumentException"]
def wsX3_soft_r2 : List Cond := [Cond.initialized "java/lang/IllegalArgumentException", Cond.methodLink RX3 87 yX3_approvedSlot, Cond.static yX3_approvedSlot, Cond.code yX3_approvedSlot cX3_approvedSlot 2 (some .int), Cond.methodLink RX3 91 yX1_has, Cond.instanceMethod yX1_has, Cond.selects RX1 yX1_has yX1_has, Cond.initialized RX1, Cond.code yX1_has cX1_has 2 (some .boolean), Cond.fieldLink RX1 15 "PictureProof$Pictures" "held" "[Z", Cond.methodLink RX1 23 yX1_isSlot, Cond.static yX1_isSlot, Cond.code yX1_isSlot cX1_isSlot 1 (some .boolean), Cond.methodLink RX3 122 yX3_columnOf, Cond.static yX3_columnOf, Cond.code yX3_columnOf cX3_columnOf 1 (some .int), Cond.methodLink RX3 125 yX3_rowOf, Cond.static yX3_rowOf, Cond.code yX3_rowOf cX3_rowOf 1 (some .int), Cond.methodLink RX3 128 yX3_isSoft, Cond.instanceMethod yX3_isSoft, Cond.selects RX3 yX3_isSoft yX3_isSoft, Cond.code yX3_isSoft cX3_isSoft 13 (some .boolean), Cond.methodLink RX3 168 Lib.Math.min.name]
def wsX3_soft_r3 : List Cond := [Cond.static Lib.Math.min.name, Cond.initialized "java/lang/Math", Cond.code Lib.Math.min.name Lib.Math.min.code 2 (some .int), Cond.methodLink RX3 171 Lib.Math.max.name, Cond.static Lib.Math.max.name, Cond.code Lib.Math.max.name Lib.Math.max.code 2 (some .int), Cond.methodLink RX3 48 yX3_pictureSlot, Cond.static yX3_pictureSlot, Cond.code yX3_pictureSlot cX3_pictureSlot 1 (some .int), Cond.methodLink RX3 59 yX1_at, Cond.instanceMethod yX1_at, Cond.selects RX1 yX1_at yX1_at, Cond.code yX1_at cX1_at 4 (some .int), Cond.fieldLink RX1 9 "PictureProof$Pictures" "shades" "[I", Cond.static yX3_isCell, Cond.code yX3_isCell cX3_isCell 2 (some .boolean), Cond.methodLink RX1 31 yX1_place, Cond.static yX1_place, Cond.code yX1_place cX1_place 3 (some .int), Cond.methodLink RX3 154 yX3_isAlike, Cond.static yX3_isAlike, Cond.code yX3_isAlike cX3_isAlike 3 (some .boolean), Cond.methodLink RX3 163 Lib.Math.abs.name, Cond.static Lib.Math.abs.name]
def wsX3_soft_r4 : List Cond := [Cond.code Lib.Math.abs.name Lib.Math.abs.code 1 (some .int)]
def wsX3_soft : List Cond := .code yX3_soft cX3_soft 7 (some .int) :: ((wsX3_soft_r1 ++ (wsX3_soft_r2 ++ (wsX3_soft_r3 ++ wsX3_soft_r4))) ++ wsX30 ++ wsX10 ++ (vx_atS RX3 81 "java/lang/IllegalStateException" ["java/lang/RuntimeException", "java/lang/Exception"]).filter goodWord ++ (vx_atS RX3 145 "java/lang/IllegalArgumentException" ["java/lang/RuntimeException", "java/lang/Exception"]).filter goodWord)
def wsX3_run_r1 : List Cond := [Cond.fieldLink RX3 29 "PictureProof" "histories" "LPictureProof$Histories;", Cond.methodLink RX3 108 yX3_checkComparison, Cond.instanceMethod yX3_checkComparison, Cond.selects RX3 yX3_checkComparison yX3_checkComparison, Cond.initialized RX3, Cond.code yX3_checkComparison cX3_checkComparison 4 none, Cond.classLink RX3 77 "java/lang/IllegalStateException", Cond.initialized "java/lang/IllegalStateException", Cond.fieldLink RX3 12 "PictureProof" "pictures" "LPictureProof$Pictures;", Cond.methodLink RX3 84 yX3_isBranch, Cond.static yX3_isBranch, Cond.code yX3_isBranch cX3_isBranch 1 (some .boolean), Cond.methodLink RX3 70 yX3_isWithin, Cond.static yX3_isWithin, Cond.code yX3_isWithin cX3_isWithin 3 (some .boolean), Cond.methodLink RX3 33 yX3_isTest, Cond.static yX3_isTest, Cond.code yX3_isTest cX3_isTest 1 (some .boolean), Cond.methodLink RX3 41 yX3_isShade, Cond.static yX3_isShade, Cond.code yX3_isShade cX3_isShade 1 (some .boolean), Cond.methodLink RX3 44 yX3_checkArguments, Cond.static yX3_checkArguments, Cond.code yX3_checkArguments cX3_checkArguments 1 none]
def wsX3_run_r2 : List Cond := [Cond.classLink RX3 141 "java/lang/IllegalArgumentException", Cond.initialized "java/lang/IllegalArgumentException", Cond.methodLink RX3 87 yX3_approvedSlot, Cond.static yX3_approvedSlot, Cond.code yX3_approvedSlot cX3_approvedSlot 2 (some .int), Cond.methodLink RX3 91 yX1_has, Cond.instanceMethod yX1_has, Cond.selects RX1 yX1_has yX1_has, Cond.initialized RX1, Cond.code yX1_has cX1_has 2 (some .boolean), Cond.fieldLink RX1 15 "PictureProof$Pictures" "held" "[Z", Cond.methodLink RX1 23 yX1_isSlot, Cond.static yX1_isSlot, Cond.code yX1_isSlot cX1_isSlot 1 (some .boolean), Cond.methodLink RX3 119 yX3_findDifference, Cond.instanceMethod yX3_findDifference, Cond.selects RX3 yX3_findDifference yX3_findDifference, Cond.code yX3_findDifference cX3_findDifference 6 (some .int), Cond.methodLink RX3 112 yX3_findMove, Cond.instanceMethod yX3_findMove, Cond.selects RX3 yX3_findMove yX3_findMove, Cond.code yX3_findMove cX3_findMove 9 (some .int), Cond.fieldLink RX3 19 "PictureProof" "parts" "LPictureProof$Rectangles;", Cond.methodLink RX3 163 Lib.Math.abs.name]
def wsX3_run_r3 : List Cond := [Cond.static Lib.Math.abs.name, Cond.initialized "java/lang/Math", Cond.code Lib.Math.abs.name Lib.Math.abs.code 1 (some .int), Cond.methodLink RX3 74 yX2_has, Cond.instanceMethod yX2_has, Cond.selects RX2 yX2_has yX2_has, Cond.initialized RX2, Cond.code yX2_has cX2_has 2 (some .boolean), Cond.fieldLink RX2 9 "PictureProof$Rectangles" "lefts" "[I", Cond.fieldLink RX2 18 "PictureProof$Rectangles" "rights" "[I", Cond.methodLink RX3 189 yX3_fits, Cond.instanceMethod yX3_fits, Cond.selects RX3 yX3_fits yX3_fits, Cond.code yX3_fits cX3_fits 11 (some .boolean), Cond.methodLink RX3 195 yX2_bottom, Cond.instanceMethod yX2_bottom, Cond.selects RX2 yX2_bottom yX2_bottom, Cond.code yX2_bottom cX2_bottom 2 (some .int), Cond.fieldLink RX2 21 "PictureProof$Rectangles" "bottoms" "[I", Cond.methodLink RX3 198 yX2_right, Cond.instanceMethod yX2_right, Cond.selects RX2 yX2_right yX2_right, Cond.code yX2_right cX2_right 2 (some .int), Cond.methodLink RX3 186 yX2_top]
def wsX3_run_r4 : List Cond := [Cond.instanceMethod yX2_top, Cond.selects RX2 yX2_top yX2_top, Cond.code yX2_top cX2_top 2 (some .int), Cond.fieldLink RX2 15 "PictureProof$Rectangles" "tops" "[I", Cond.methodLink RX3 183 yX2_left, Cond.instanceMethod yX2_left, Cond.selects RX2 yX2_left yX2_left, Cond.code yX2_left cX2_left 2 (some .int), Cond.methodLink RX3 55 yX3_isCell, Cond.static yX3_isCell, Cond.code yX3_isCell cX3_isCell 2 (some .boolean), Cond.methodLink RX3 48 yX3_pictureSlot, Cond.static yX3_pictureSlot, Cond.code yX3_pictureSlot cX3_pictureSlot 1 (some .int), Cond.methodLink RX3 59 yX1_at, Cond.instanceMethod yX1_at, Cond.selects RX1 yX1_at yX1_at, Cond.code yX1_at cX1_at 4 (some .int), Cond.fieldLink RX1 9 "PictureProof$Pictures" "shades" "[I", Cond.methodLink RX1 31 yX1_place, Cond.static yX1_place, Cond.code yX1_place cX1_place 3 (some .int), Cond.methodLink RX3 154 yX3_isAlike, Cond.static yX3_isAlike]
def wsX3_run_r5 : List Cond := [Cond.code yX3_isAlike cX3_isAlike 3 (some .boolean), Cond.methodLink RX3 192 yX3_moveBy, Cond.static yX3_moveBy, Cond.code yX3_moveBy cX3_moveBy 2 (some .int), Cond.methodLink RX3 115 yX3_differs, Cond.instanceMethod yX3_differs, Cond.selects RX3 yX3_differs yX3_differs, Cond.code yX3_differs cX3_differs 10 (some .boolean), Cond.methodLink RX3 122 yX3_columnOf, Cond.static yX3_columnOf, Cond.code yX3_columnOf cX3_columnOf 1 (some .int), Cond.methodLink RX3 125 yX3_rowOf, Cond.static yX3_rowOf, Cond.code yX3_rowOf cX3_rowOf 1 (some .int), Cond.methodLink RX3 157 yX3_isMoved, Cond.instanceMethod yX3_isMoved, Cond.selects RX3 yX3_isMoved yX3_isMoved, Cond.code yX3_isMoved cX3_isMoved 5 (some .boolean), Cond.methodLink RX3 174 yX2_holds, Cond.instanceMethod yX2_holds, Cond.selects RX2 yX2_holds yX2_holds, Cond.code yX2_holds cX2_holds 4 (some .boolean), Cond.methodLink RX3 177 yX3_columnsOf, Cond.static yX3_columnsOf]
def wsX3_run_r6 : List Cond := [Cond.code yX3_columnsOf cX3_columnsOf 1 (some .int), Cond.methodLink RX3 180 yX3_rowsOf, Cond.static yX3_rowsOf, Cond.code yX3_rowsOf cX3_rowsOf 1 (some .int), Cond.methodLink RX3 160 yX3_isMasked, Cond.instanceMethod yX3_isMasked, Cond.selects RX3 yX3_isMasked yX3_isMasked, Cond.code yX3_isMasked cX3_isMasked 7 (some .boolean), Cond.fieldLink RX3 23 "PictureProof" "masks" "LPictureProof$Rectangles;", Cond.methodLink RX3 128 yX3_isSoft, Cond.instanceMethod yX3_isSoft, Cond.selects RX3 yX3_isSoft yX3_isSoft, Cond.code yX3_isSoft cX3_isSoft 13 (some .boolean), Cond.methodLink RX3 168 Lib.Math.min.name, Cond.static Lib.Math.min.name, Cond.code Lib.Math.min.name Lib.Math.min.code 2 (some .int), Cond.methodLink RX3 171 Lib.Math.max.name, Cond.static Lib.Math.max.name, Cond.code Lib.Math.max.name Lib.Math.max.code 2 (some .int), Cond.methodLink RX3 131 yX0_add, Cond.instanceMethod yX0_add, Cond.selects RX0 yX0_add yX0_add, Cond.initialized RX0, Cond.code yX0_add cX0_add 3 none]
def wsX3_run_r7 : List Cond := [Cond.fieldLink RX0 9 "PictureProof$Histories" "results" "[I", Cond.fieldLink RX0 15 "PictureProof$Histories" "lengths" "[I", Cond.methodLink RX0 22 Lib.Math.min.name]
def wsX3_run : List Cond := .code yX3_run cX3_run 5 (some .boolean) :: ((wsX3_run_r1 ++ (wsX3_run_r2 ++ (wsX3_run_r3 ++ (wsX3_run_r4 ++ (wsX3_run_r5 ++ (wsX3_run_r6 ++ wsX3_run_r7)))))) ++ wsX30 ++ wsX10 ++ wsX20 ++ wsX00 ++ (vx_atS RX3 81 "java/lang/IllegalStateException" ["java/lang/RuntimeException", "java/lang/Exception"]).filter goodWord ++ (vx_atS RX3 145 "java/lang/IllegalArgumentException" ["java/lang/RuntimeException", "java/lang/Exception"]).filter goodWord)
def wsX3_runs : List Cond := .code yX3_runs cX3_runs 2 (some .int) :: ([.fieldLink RX3 29 "PictureProof" "histories" "LPictureProof$Histories;", .methodLink RX3 33 yX3_isTest, .static yX3_isTest, .initialized RX3, .code yX3_isTest cX3_isTest 1 (some .boolean), .methodLink RX3 70 yX3_isWithin, .static yX3_isWithin, .code yX3_isWithin cX3_isWithin 3 (some .boolean), .methodLink RX3 44 yX3_checkArguments, .static yX3_checkArguments, .code yX3_checkArguments cX3_checkArguments 1 none, .classLink RX3 141 "java/lang/IllegalArgumentException", .initialized "java/lang/IllegalArgumentException", .methodLink RX3 135 yX0_length, .instanceMethod yX0_length, .selects RX0 yX0_length yX0_length, .initialized RX0, .code yX0_length cX0_length 2 (some .int), .fieldLink RX0 15 "PictureProof$Histories" "lengths" "[I"] ++ wsX30 ++ wsX00 ++ (vx_atS RX3 145 "java/lang/IllegalArgumentException" ["java/lang/RuntimeException", "java/lang/Exception"]).filter goodWord)
def wsX3_doubt_r1 : List Cond := [Cond.fieldLink RX3 29 "PictureProof" "histories" "LPictureProof$Histories;", Cond.methodLink RX3 33 yX3_isTest, Cond.static yX3_isTest, Cond.initialized RX3, Cond.code yX3_isTest cX3_isTest 1 (some .boolean), Cond.methodLink RX3 70 yX3_isWithin, Cond.static yX3_isWithin, Cond.code yX3_isWithin cX3_isWithin 3 (some .boolean), Cond.methodLink RX3 44 yX3_checkArguments, Cond.static yX3_checkArguments, Cond.code yX3_checkArguments cX3_checkArguments 1 none, Cond.classLink RX3 141 "java/lang/IllegalArgumentException", Cond.initialized "java/lang/IllegalArgumentException", Cond.methodLink RX3 135 yX0_length, Cond.instanceMethod yX0_length, Cond.selects RX0 yX0_length yX0_length, Cond.initialized RX0, Cond.code yX0_length cX0_length 2 (some .int), Cond.fieldLink RX0 15 "PictureProof$Histories" "lengths" "[I", Cond.methodLink RX3 138 yX0_changes, Cond.instanceMethod yX0_changes, Cond.selects RX0 yX0_changes yX0_changes, Cond.code yX0_changes cX0_changes 4 (some .int), Cond.fieldLink RX0 9 "PictureProof$Histories" "results" "[I"]
def wsX3_doubt_r2 : List Cond := [Cond.methodLink RX0 28 yJ6_bitCount_0f7a4, Cond.static yJ6_bitCount_0f7a4, Cond.initialized RJ6, Cond.code yJ6_bitCount_0f7a4 cJ6_bitCount_0f7a4 1 (some .int), Cond.constant RJ6 265 (1431655765), Cond.constant RJ6 266 (858993459), Cond.constant RJ6 267 (252645135)]
def wsX3_doubt : List Cond := .code yX3_doubt cX3_doubt 3 (some .int) :: ((wsX3_doubt_r1 ++ wsX3_doubt_r2) ++ wsX30 ++ wsX00 ++ (vx_atS RX3 145 "java/lang/IllegalArgumentException" ["java/lang/RuntimeException", "java/lang/Exception"]).filter goodWord)
def wsX4_init : List Cond := .code yX4_init cX4_init 1 none :: ([.methodLink RX4 1 objectInit, .instanceMethod objectInit, .code objectInit ⟨#[0xb1]⟩ 1 none, .arrayClass .int, .fieldLink RX4 7 "PictureProofModel" "pictures" "[I", .fieldLink RX4 13 "PictureProofModel" "kept" "[I", .arrayClass .boolean, .fieldLink RX4 16 "PictureProofModel" "isKept" "[Z", .fieldLink RX4 20 "PictureProofModel" "parts" "[I", .fieldLink RX4 23 "PictureProofModel" "masks" "[I", .fieldLink RX4 26 "PictureProofModel" "results" "[I", .fieldLink RX4 29 "PictureProofModel" "many" "[I"] ++ wsX40)
def wsX4_thrown : List Cond := .code yX4_thrown cX4_thrown 1 (some .int) :: ([.fieldLink RX4 32 "PictureProofModel" "thrown" "I"] ++ wsX40)
def wsX4_goesWell : List Cond := .code yX4_goesWell cX4_goesWell 2 (some .boolean) :: ([.fieldLink RX4 32 "PictureProofModel" "thrown" "I"] ++ wsX40)
def wsX4_in : List Cond := .code yX4_in cX4_in 3 (some .boolean) :: ([])
def wsX4_isTest : List Cond := .code yX4_isTest cX4_isTest 1 (some .boolean) :: ([.methodLink RX4 36 yX4_in, .static yX4_in, .initialized RX4, .code yX4_in cX4_in 3 (some .boolean)])
def wsX4_isCell : List Cond := .code yX4_isCell cX4_isCell 2 (some .boolean) :: ([.methodLink RX4 36 yX4_in, .static yX4_in, .initialized RX4, .code yX4_in cX4_in 3 (some .boolean)])
def wsX4_isBox : List Cond := .code yX4_isBox cX4_isBox 4 (some .boolean) :: ([.methodLink RX4 40 yX4_isCell, .static yX4_isCell, .initialized RX4, .code yX4_isCell cX4_isCell 2 (some .boolean), .methodLink RX4 36 yX4_in, .static yX4_in, .code yX4_in cX4_in 3 (some .boolean)])
def wsX4_paint : List Cond := .code yX4_paint cX4_paint 10 (some .int) :: ([.fieldLink RX4 7 "PictureProofModel" "pictures" "[I", .methodLink RX4 44 yX4_isTest, .static yX4_isTest, .initialized RX4, .code yX4_isTest cX4_isTest 1 (some .boolean), .methodLink RX4 36 yX4_in, .static yX4_in, .code yX4_in cX4_in 3 (some .boolean), .methodLink RX4 48 yX4_isBox, .static yX4_isBox, .code yX4_isBox cX4_isBox 4 (some .boolean), .methodLink RX4 40 yX4_isCell, .static yX4_isCell, .code yX4_isCell cX4_isCell 2 (some .boolean), .methodLink RX4 52 yX4_goesWell, .instanceMethod yX4_goesWell, .selects RX4 yX4_goesWell yX4_goesWell, .code yX4_goesWell cX4_goesWell 2 (some .boolean), .fieldLink RX4 32 "PictureProofModel" "thrown" "I"] ++ wsX40)
def wsX4_shade : List Cond := .code yX4_shade cX4_shade 4 (some .int) :: ([.fieldLink RX4 7 "PictureProofModel" "pictures" "[I", .methodLink RX4 44 yX4_isTest, .static yX4_isTest, .initialized RX4, .code yX4_isTest cX4_isTest 1 (some .boolean), .methodLink RX4 36 yX4_in, .static yX4_in, .code yX4_in cX4_in 3 (some .boolean), .methodLink RX4 40 yX4_isCell, .static yX4_isCell, .code yX4_isCell cX4_isCell 2 (some .boolean), .methodLink RX4 52 yX4_goesWell, .instanceMethod yX4_goesWell, .selects RX4 yX4_goesWell yX4_goesWell, .code yX4_goesWell cX4_goesWell 2 (some .boolean), .fieldLink RX4 32 "PictureProofModel" "thrown" "I"] ++ wsX40)
def wsX4_setPart : List Cond := .code yX4_setPart cX4_setPart 6 none :: ([.fieldLink RX4 20 "PictureProofModel" "parts" "[I", .fieldLink RX4 23 "PictureProofModel" "masks" "[I", .methodLink RX4 44 yX4_isTest, .static yX4_isTest, .initialized RX4, .code yX4_isTest cX4_isTest 1 (some .boolean), .methodLink RX4 36 yX4_in, .static yX4_in, .code yX4_in cX4_in 3 (some .boolean), .methodLink RX4 48 yX4_isBox, .static yX4_isBox, .code yX4_isBox cX4_isBox 4 (some .boolean), .methodLink RX4 40 yX4_isCell, .static yX4_isCell, .code yX4_isCell cX4_isCell 2 (some .boolean), .methodLink RX4 52 yX4_goesWell, .instanceMethod yX4_goesWell, .selects RX4 yX4_goesWell yX4_goesWell, .code yX4_goesWell cX4_goesWell 2 (some .boolean), .fieldLink RX4 32 "PictureProofModel" "thrown" "I"] ++ wsX40)
def wsX4_setMask : List Cond := .code yX4_setMask cX4_setMask 7 none :: ([.fieldLink RX4 20 "PictureProofModel" "parts" "[I", .fieldLink RX4 23 "PictureProofModel" "masks" "[I", .methodLink RX4 44 yX4_isTest, .static yX4_isTest, .initialized RX4, .code yX4_isTest cX4_isTest 1 (some .boolean), .methodLink RX4 36 yX4_in, .static yX4_in, .code yX4_in cX4_in 3 (some .boolean), .methodLink RX4 52 yX4_goesWell, .instanceMethod yX4_goesWell, .selects RX4 yX4_goesWell yX4_goesWell, .code yX4_goesWell cX4_goesWell 2 (some .boolean), .fieldLink RX4 32 "PictureProofModel" "thrown" "I"] ++ wsX40)
def wsX4_placeOf : List Cond := .code yX4_placeOf cX4_placeOf 2 (some .int) :: ([])
def wsX4_baseOf : List Cond := .code yX4_baseOf cX4_baseOf 2 (some .int) :: ([])
def wsX4_copy : List Cond := .code yX4_copy cX4_copy 4 none :: ([.fieldLink RX4 16 "PictureProofModel" "isKept" "[Z", .fieldLink RX4 13 "PictureProofModel" "kept" "[I"] ++ wsX40)
def wsX4_areSame : List Cond := .code yX4_areSame cX4_areSame 5 (some .boolean) :: ([.fieldLink RX4 16 "PictureProofModel" "isKept" "[Z", .fieldLink RX4 13 "PictureProofModel" "kept" "[I"] ++ wsX40)
def wsX4_approve : List Cond := .code yX4_approve cX4_approve 6 (some .boolean) :: ([.fieldLink RX4 16 "PictureProofModel" "isKept" "[Z", .fieldLink RX4 13 "PictureProofModel" "kept" "[I", .fieldLink RX4 7 "PictureProofModel" "pictures" "[I", .methodLink RX4 36 yX4_in, .static yX4_in, .initialized RX4, .code yX4_in cX4_in 3 (some .boolean), .methodLink RX4 44 yX4_isTest, .static yX4_isTest, .code yX4_isTest cX4_isTest 1 (some .boolean), .methodLink RX4 52 yX4_goesWell, .instanceMethod yX4_goesWell, .selects RX4 yX4_goesWell yX4_goesWell, .code yX4_goesWell cX4_goesWell 2 (some .boolean), .fieldLink RX4 32 "PictureProofModel" "thrown" "I", .methodLink RX4 55 yX4_placeOf, .static yX4_placeOf, .code yX4_placeOf cX4_placeOf 2 (some .int)] ++ wsX40)
def wsX4_begin : List Cond := .code yX4_begin cX4_begin 4 (some .int) :: ([.fieldLink RX4 16 "PictureProofModel" "isKept" "[Z", .methodLink RX4 36 yX4_in, .static yX4_in, .initialized RX4, .code yX4_in cX4_in 3 (some .boolean), .methodLink RX4 52 yX4_goesWell, .instanceMethod yX4_goesWell, .selects RX4 yX4_goesWell yX4_goesWell, .code yX4_goesWell cX4_goesWell 2 (some .boolean), .fieldLink RX4 32 "PictureProofModel" "thrown" "I", .methodLink RX4 55 yX4_placeOf, .static yX4_placeOf, .code yX4_placeOf cX4_placeOf 2 (some .int), .methodLink RX4 59 yX4_copy, .instanceMethod yX4_copy, .selects RX4 yX4_copy yX4_copy, .code yX4_copy cX4_copy 4 none, .fieldLink RX4 13 "PictureProofModel" "kept" "[I", .methodLink RX4 63 yX4_baseOf, .static yX4_baseOf, .code yX4_baseOf cX4_baseOf 2 (some .int)] ++ wsX40)
def wsX4_join_r1 : List Cond := [Cond.methodLink RX4 36 yX4_in, Cond.static yX4_in, Cond.initialized RX4, Cond.code yX4_in cX4_in 3 (some .boolean), Cond.methodLink RX4 52 yX4_goesWell, Cond.instanceMethod yX4_goesWell, Cond.selects RX4 yX4_goesWell yX4_goesWell, Cond.code yX4_goesWell cX4_goesWell 2 (some .boolean), Cond.fieldLink RX4 32 "PictureProofModel" "thrown" "I", Cond.methodLink RX4 55 yX4_placeOf, Cond.static yX4_placeOf, Cond.code yX4_placeOf cX4_placeOf 2 (some .int), Cond.methodLink RX4 63 yX4_baseOf, Cond.static yX4_baseOf, Cond.code yX4_baseOf cX4_baseOf 2 (some .int), Cond.methodLink RX4 66 yX4_areSame, Cond.instanceMethod yX4_areSame, Cond.selects RX4 yX4_areSame yX4_areSame, Cond.code yX4_areSame cX4_areSame 5 (some .boolean), Cond.fieldLink RX4 16 "PictureProofModel" "isKept" "[Z", Cond.fieldLink RX4 13 "PictureProofModel" "kept" "[I", Cond.methodLink RX4 59 yX4_copy, Cond.instanceMethod yX4_copy, Cond.selects RX4 yX4_copy yX4_copy]
def wsX4_join_r2 : List Cond := [Cond.code yX4_copy cX4_copy 4 none]
def wsX4_join : List Cond := .code yX4_join cX4_join 9 (some .int) :: ((wsX4_join_r1 ++ wsX4_join_r2) ++ wsX40)
def wsX4_isApproved : List Cond := .code yX4_isApproved cX4_isApproved 3 (some .boolean) :: ([.fieldLink RX4 16 "PictureProofModel" "isKept" "[Z", .methodLink RX4 36 yX4_in, .static yX4_in, .initialized RX4, .code yX4_in cX4_in 3 (some .boolean), .methodLink RX4 44 yX4_isTest, .static yX4_isTest, .code yX4_isTest cX4_isTest 1 (some .boolean), .methodLink RX4 52 yX4_goesWell, .instanceMethod yX4_goesWell, .selects RX4 yX4_goesWell yX4_goesWell, .code yX4_goesWell cX4_goesWell 2 (some .boolean), .fieldLink RX4 32 "PictureProofModel" "thrown" "I", .methodLink RX4 55 yX4_placeOf, .static yX4_placeOf, .code yX4_placeOf cX4_placeOf 2 (some .int)] ++ wsX40)
def wsX4_areAlike : List Cond := .code yX4_areAlike cX4_areAlike 4 (some .boolean) :: ([.methodLink RX4 36 yX4_in, .static yX4_in, .initialized RX4, .code yX4_in cX4_in 3 (some .boolean)])
def wsX4_fits : List Cond := .code yX4_fits cX4_fits 13 (some .boolean) :: ([.fieldLink RX4 20 "PictureProofModel" "parts" "[I", .fieldLink RX4 13 "PictureProofModel" "kept" "[I", .fieldLink RX4 7 "PictureProofModel" "pictures" "[I", .methodLink RX4 55 yX4_placeOf, .static yX4_placeOf, .initialized RX4, .code yX4_placeOf cX4_placeOf 2 (some .int), .methodLink RX4 40 yX4_isCell, .static yX4_isCell, .code yX4_isCell cX4_isCell 2 (some .boolean), .methodLink RX4 36 yX4_in, .static yX4_in, .code yX4_in cX4_in 3 (some .boolean), .methodLink RX4 69 yX4_areAlike, .instanceMethod yX4_areAlike, .selects RX4 yX4_areAlike yX4_areAlike, .code yX4_areAlike cX4_areAlike 4 (some .boolean)] ++ wsX40)
def wsX4_size : List Cond := .code yX4_size cX4_size 1 (some .int) :: ([])
def wsX4_findMove_r1 : List Cond := [Cond.fieldLink RX4 72 "PictureProofModel" "byColumns" "I", Cond.fieldLink RX4 75 "PictureProofModel" "byRows" "I", Cond.fieldLink RX4 20 "PictureProofModel" "parts" "[I", Cond.methodLink RX4 78 yX4_fits, Cond.instanceMethod yX4_fits, Cond.selects RX4 yX4_fits yX4_fits, Cond.initialized RX4, Cond.code yX4_fits cX4_fits 13 (some .boolean), Cond.fieldLink RX4 13 "PictureProofModel" "kept" "[I", Cond.fieldLink RX4 7 "PictureProofModel" "pictures" "[I", Cond.methodLink RX4 55 yX4_placeOf, Cond.static yX4_placeOf, Cond.code yX4_placeOf cX4_placeOf 2 (some .int), Cond.methodLink RX4 40 yX4_isCell, Cond.static yX4_isCell, Cond.code yX4_isCell cX4_isCell 2 (some .boolean), Cond.methodLink RX4 36 yX4_in, Cond.static yX4_in, Cond.code yX4_in cX4_in 3 (some .boolean), Cond.methodLink RX4 69 yX4_areAlike, Cond.instanceMethod yX4_areAlike, Cond.selects RX4 yX4_areAlike yX4_areAlike, Cond.code yX4_areAlike cX4_areAlike 4 (some .boolean), Cond.methodLink RX4 82 yX4_size]
def wsX4_findMove_r2 : List Cond := [Cond.static yX4_size, Cond.code yX4_size cX4_size 1 (some .int)]
def wsX4_findMove : List Cond := .code yX4_findMove cX4_findMove 8 none :: ((wsX4_findMove_r1 ++ wsX4_findMove_r2) ++ wsX40)
def wsX4_isWithin : List Cond := .code yX4_isWithin cX4_isWithin 5 (some .boolean) :: ([.methodLink RX4 36 yX4_in, .static yX4_in, .initialized RX4, .code yX4_in cX4_in 3 (some .boolean)])
def wsX4_isLeftOut : List Cond := .code yX4_isLeftOut cX4_isLeftOut 11 (some .boolean) :: ([.fieldLink RX4 20 "PictureProofModel" "parts" "[I", .fieldLink RX4 72 "PictureProofModel" "byColumns" "I", .fieldLink RX4 75 "PictureProofModel" "byRows" "I", .fieldLink RX4 23 "PictureProofModel" "masks" "[I", .methodLink RX4 86 yX4_isWithin, .static yX4_isWithin, .initialized RX4, .code yX4_isWithin cX4_isWithin 5 (some .boolean), .methodLink RX4 36 yX4_in, .static yX4_in, .code yX4_in cX4_in 3 (some .boolean)] ++ wsX40)
def wsX4_isSoft : List Cond := .code yX4_isSoft cX4_isSoft 11 (some .boolean) :: ([.fieldLink RX4 7 "PictureProofModel" "pictures" "[I", .fieldLink RX4 13 "PictureProofModel" "kept" "[I", .methodLink RX4 40 yX4_isCell, .static yX4_isCell, .initialized RX4, .code yX4_isCell cX4_isCell 2 (some .boolean), .methodLink RX4 36 yX4_in, .static yX4_in, .code yX4_in cX4_in 3 (some .boolean), .methodLink RX4 55 yX4_placeOf, .static yX4_placeOf, .code yX4_placeOf cX4_placeOf 2 (some .int)] ++ wsX40)
def wsX4_differs_r1 : List Cond := [Cond.fieldLink RX4 7 "PictureProofModel" "pictures" "[I", Cond.fieldLink RX4 13 "PictureProofModel" "kept" "[I", Cond.methodLink RX4 55 yX4_placeOf, Cond.static yX4_placeOf, Cond.initialized RX4, Cond.code yX4_placeOf cX4_placeOf 2 (some .int), Cond.methodLink RX4 69 yX4_areAlike, Cond.instanceMethod yX4_areAlike, Cond.selects RX4 yX4_areAlike yX4_areAlike, Cond.code yX4_areAlike cX4_areAlike 4 (some .boolean), Cond.methodLink RX4 36 yX4_in, Cond.static yX4_in, Cond.code yX4_in cX4_in 3 (some .boolean), Cond.methodLink RX4 89 yX4_isSoft, Cond.instanceMethod yX4_isSoft, Cond.selects RX4 yX4_isSoft yX4_isSoft, Cond.code yX4_isSoft cX4_isSoft 11 (some .boolean), Cond.methodLink RX4 40 yX4_isCell, Cond.static yX4_isCell, Cond.code yX4_isCell cX4_isCell 2 (some .boolean), Cond.methodLink RX4 92 yX4_isLeftOut, Cond.instanceMethod yX4_isLeftOut, Cond.selects RX4 yX4_isLeftOut yX4_isLeftOut, Cond.code yX4_isLeftOut cX4_isLeftOut 11 (some .boolean)]
def wsX4_differs_r2 : List Cond := [Cond.fieldLink RX4 20 "PictureProofModel" "parts" "[I", Cond.fieldLink RX4 72 "PictureProofModel" "byColumns" "I", Cond.fieldLink RX4 75 "PictureProofModel" "byRows" "I", Cond.fieldLink RX4 23 "PictureProofModel" "masks" "[I", Cond.methodLink RX4 86 yX4_isWithin, Cond.static yX4_isWithin, Cond.code yX4_isWithin cX4_isWithin 5 (some .boolean)]
def wsX4_differs : List Cond := .code yX4_differs cX4_differs 6 (some .boolean) :: ((wsX4_differs_r1 ++ wsX4_differs_r2) ++ wsX40)
def wsX4_canCompare_r1 : List Cond := [Cond.fieldLink RX4 16 "PictureProofModel" "isKept" "[Z", Cond.methodLink RX4 36 yX4_in, Cond.static yX4_in, Cond.initialized RX4, Cond.code yX4_in cX4_in 3 (some .boolean), Cond.methodLink RX4 44 yX4_isTest, Cond.static yX4_isTest, Cond.code yX4_isTest cX4_isTest 1 (some .boolean), Cond.methodLink RX4 55 yX4_placeOf, Cond.static yX4_placeOf, Cond.code yX4_placeOf cX4_placeOf 2 (some .int), Cond.methodLink RX4 52 yX4_goesWell, Cond.instanceMethod yX4_goesWell, Cond.selects RX4 yX4_goesWell yX4_goesWell, Cond.code yX4_goesWell cX4_goesWell 2 (some .boolean), Cond.fieldLink RX4 32 "PictureProofModel" "thrown" "I", Cond.methodLink RX4 95 yX4_findMove, Cond.instanceMethod yX4_findMove, Cond.selects RX4 yX4_findMove yX4_findMove, Cond.code yX4_findMove cX4_findMove 8 none, Cond.fieldLink RX4 72 "PictureProofModel" "byColumns" "I", Cond.fieldLink RX4 75 "PictureProofModel" "byRows" "I", Cond.fieldLink RX4 20 "PictureProofModel" "parts" "[I", Cond.methodLink RX4 78 yX4_fits]
def wsX4_canCompare_r2 : List Cond := [Cond.instanceMethod yX4_fits, Cond.selects RX4 yX4_fits yX4_fits, Cond.code yX4_fits cX4_fits 13 (some .boolean), Cond.fieldLink RX4 13 "PictureProofModel" "kept" "[I", Cond.fieldLink RX4 7 "PictureProofModel" "pictures" "[I", Cond.methodLink RX4 40 yX4_isCell, Cond.static yX4_isCell, Cond.code yX4_isCell cX4_isCell 2 (some .boolean), Cond.methodLink RX4 69 yX4_areAlike, Cond.instanceMethod yX4_areAlike, Cond.selects RX4 yX4_areAlike yX4_areAlike, Cond.code yX4_areAlike cX4_areAlike 4 (some .boolean), Cond.methodLink RX4 82 yX4_size, Cond.static yX4_size, Cond.code yX4_size cX4_size 1 (some .int)]
def wsX4_canCompare : List Cond := .code yX4_canCompare cX4_canCompare 5 (some .boolean) :: ((wsX4_canCompare_r1 ++ wsX4_canCompare_r2) ++ wsX40)
def wsX4_first_r1 : List Cond := [Cond.methodLink RX4 99 yX4_differs, Cond.instanceMethod yX4_differs, Cond.selects RX4 yX4_differs yX4_differs, Cond.initialized RX4, Cond.code yX4_differs cX4_differs 6 (some .boolean), Cond.fieldLink RX4 7 "PictureProofModel" "pictures" "[I", Cond.fieldLink RX4 13 "PictureProofModel" "kept" "[I", Cond.methodLink RX4 55 yX4_placeOf, Cond.static yX4_placeOf, Cond.code yX4_placeOf cX4_placeOf 2 (some .int), Cond.methodLink RX4 69 yX4_areAlike, Cond.instanceMethod yX4_areAlike, Cond.selects RX4 yX4_areAlike yX4_areAlike, Cond.code yX4_areAlike cX4_areAlike 4 (some .boolean), Cond.methodLink RX4 36 yX4_in, Cond.static yX4_in, Cond.code yX4_in cX4_in 3 (some .boolean), Cond.methodLink RX4 89 yX4_isSoft, Cond.instanceMethod yX4_isSoft, Cond.selects RX4 yX4_isSoft yX4_isSoft, Cond.code yX4_isSoft cX4_isSoft 11 (some .boolean), Cond.methodLink RX4 40 yX4_isCell, Cond.static yX4_isCell, Cond.code yX4_isCell cX4_isCell 2 (some .boolean)]
def wsX4_first_r2 : List Cond := [Cond.methodLink RX4 92 yX4_isLeftOut, Cond.instanceMethod yX4_isLeftOut, Cond.selects RX4 yX4_isLeftOut yX4_isLeftOut, Cond.code yX4_isLeftOut cX4_isLeftOut 11 (some .boolean), Cond.fieldLink RX4 20 "PictureProofModel" "parts" "[I", Cond.fieldLink RX4 72 "PictureProofModel" "byColumns" "I", Cond.fieldLink RX4 75 "PictureProofModel" "byRows" "I", Cond.fieldLink RX4 23 "PictureProofModel" "masks" "[I", Cond.methodLink RX4 86 yX4_isWithin, Cond.static yX4_isWithin, Cond.code yX4_isWithin cX4_isWithin 5 (some .boolean)]
def wsX4_first : List Cond := .code yX4_first cX4_first 5 (some .int) :: ((wsX4_first_r1 ++ wsX4_first_r2) ++ wsX40)
def wsX4_differences_r1 : List Cond := [Cond.methodLink RX4 102 yX4_canCompare, Cond.instanceMethod yX4_canCompare, Cond.selects RX4 yX4_canCompare yX4_canCompare, Cond.initialized RX4, Cond.code yX4_canCompare cX4_canCompare 5 (some .boolean), Cond.fieldLink RX4 16 "PictureProofModel" "isKept" "[Z", Cond.methodLink RX4 36 yX4_in, Cond.static yX4_in, Cond.code yX4_in cX4_in 3 (some .boolean), Cond.methodLink RX4 44 yX4_isTest, Cond.static yX4_isTest, Cond.code yX4_isTest cX4_isTest 1 (some .boolean), Cond.methodLink RX4 55 yX4_placeOf, Cond.static yX4_placeOf, Cond.code yX4_placeOf cX4_placeOf 2 (some .int), Cond.methodLink RX4 52 yX4_goesWell, Cond.instanceMethod yX4_goesWell, Cond.selects RX4 yX4_goesWell yX4_goesWell, Cond.code yX4_goesWell cX4_goesWell 2 (some .boolean), Cond.fieldLink RX4 32 "PictureProofModel" "thrown" "I", Cond.methodLink RX4 95 yX4_findMove, Cond.instanceMethod yX4_findMove, Cond.selects RX4 yX4_findMove yX4_findMove, Cond.code yX4_findMove cX4_findMove 8 none]
def wsX4_differences_r2 : List Cond := [Cond.fieldLink RX4 72 "PictureProofModel" "byColumns" "I", Cond.fieldLink RX4 75 "PictureProofModel" "byRows" "I", Cond.fieldLink RX4 20 "PictureProofModel" "parts" "[I", Cond.methodLink RX4 78 yX4_fits, Cond.instanceMethod yX4_fits, Cond.selects RX4 yX4_fits yX4_fits, Cond.code yX4_fits cX4_fits 13 (some .boolean), Cond.fieldLink RX4 13 "PictureProofModel" "kept" "[I", Cond.fieldLink RX4 7 "PictureProofModel" "pictures" "[I", Cond.methodLink RX4 40 yX4_isCell, Cond.static yX4_isCell, Cond.code yX4_isCell cX4_isCell 2 (some .boolean), Cond.methodLink RX4 69 yX4_areAlike, Cond.instanceMethod yX4_areAlike, Cond.selects RX4 yX4_areAlike yX4_areAlike, Cond.code yX4_areAlike cX4_areAlike 4 (some .boolean), Cond.methodLink RX4 82 yX4_size, Cond.static yX4_size, Cond.code yX4_size cX4_size 1 (some .int), Cond.methodLink RX4 99 yX4_differs, Cond.instanceMethod yX4_differs, Cond.selects RX4 yX4_differs yX4_differs, Cond.code yX4_differs cX4_differs 6 (some .boolean), Cond.methodLink RX4 89 yX4_isSoft]
def wsX4_differences_r3 : List Cond := [Cond.instanceMethod yX4_isSoft, Cond.selects RX4 yX4_isSoft yX4_isSoft, Cond.code yX4_isSoft cX4_isSoft 11 (some .boolean), Cond.methodLink RX4 92 yX4_isLeftOut, Cond.instanceMethod yX4_isLeftOut, Cond.selects RX4 yX4_isLeftOut yX4_isLeftOut, Cond.code yX4_isLeftOut cX4_isLeftOut 11 (some .boolean), Cond.fieldLink RX4 23 "PictureProofModel" "masks" "[I", Cond.methodLink RX4 86 yX4_isWithin, Cond.static yX4_isWithin, Cond.code yX4_isWithin cX4_isWithin 5 (some .boolean)]
def wsX4_differences : List Cond := .code yX4_differences cX4_differences 7 (some .int) :: ((wsX4_differences_r1 ++ (wsX4_differences_r2 ++ wsX4_differences_r3)) ++ wsX40)
def wsX4_firstDifference_r1 : List Cond := [Cond.methodLink RX4 102 yX4_canCompare, Cond.instanceMethod yX4_canCompare, Cond.selects RX4 yX4_canCompare yX4_canCompare, Cond.initialized RX4, Cond.code yX4_canCompare cX4_canCompare 5 (some .boolean), Cond.fieldLink RX4 16 "PictureProofModel" "isKept" "[Z", Cond.methodLink RX4 36 yX4_in, Cond.static yX4_in, Cond.code yX4_in cX4_in 3 (some .boolean), Cond.methodLink RX4 44 yX4_isTest, Cond.static yX4_isTest, Cond.code yX4_isTest cX4_isTest 1 (some .boolean), Cond.methodLink RX4 55 yX4_placeOf, Cond.static yX4_placeOf, Cond.code yX4_placeOf cX4_placeOf 2 (some .int), Cond.methodLink RX4 52 yX4_goesWell, Cond.instanceMethod yX4_goesWell, Cond.selects RX4 yX4_goesWell yX4_goesWell, Cond.code yX4_goesWell cX4_goesWell 2 (some .boolean), Cond.fieldLink RX4 32 "PictureProofModel" "thrown" "I", Cond.methodLink RX4 95 yX4_findMove, Cond.instanceMethod yX4_findMove, Cond.selects RX4 yX4_findMove yX4_findMove, Cond.code yX4_findMove cX4_findMove 8 none]
def wsX4_firstDifference_r2 : List Cond := [Cond.fieldLink RX4 72 "PictureProofModel" "byColumns" "I", Cond.fieldLink RX4 75 "PictureProofModel" "byRows" "I", Cond.fieldLink RX4 20 "PictureProofModel" "parts" "[I", Cond.methodLink RX4 78 yX4_fits, Cond.instanceMethod yX4_fits, Cond.selects RX4 yX4_fits yX4_fits, Cond.code yX4_fits cX4_fits 13 (some .boolean), Cond.fieldLink RX4 13 "PictureProofModel" "kept" "[I", Cond.fieldLink RX4 7 "PictureProofModel" "pictures" "[I", Cond.methodLink RX4 40 yX4_isCell, Cond.static yX4_isCell, Cond.code yX4_isCell cX4_isCell 2 (some .boolean), Cond.methodLink RX4 69 yX4_areAlike, Cond.instanceMethod yX4_areAlike, Cond.selects RX4 yX4_areAlike yX4_areAlike, Cond.code yX4_areAlike cX4_areAlike 4 (some .boolean), Cond.methodLink RX4 82 yX4_size, Cond.static yX4_size, Cond.code yX4_size cX4_size 1 (some .int), Cond.methodLink RX4 105 yX4_first, Cond.instanceMethod yX4_first, Cond.selects RX4 yX4_first yX4_first, Cond.code yX4_first cX4_first 5 (some .int), Cond.methodLink RX4 99 yX4_differs]
def wsX4_firstDifference_r3 : List Cond := [Cond.instanceMethod yX4_differs, Cond.selects RX4 yX4_differs yX4_differs, Cond.code yX4_differs cX4_differs 6 (some .boolean), Cond.methodLink RX4 89 yX4_isSoft, Cond.instanceMethod yX4_isSoft, Cond.selects RX4 yX4_isSoft yX4_isSoft, Cond.code yX4_isSoft cX4_isSoft 11 (some .boolean), Cond.methodLink RX4 92 yX4_isLeftOut, Cond.instanceMethod yX4_isLeftOut, Cond.selects RX4 yX4_isLeftOut yX4_isLeftOut, Cond.code yX4_isLeftOut cX4_isLeftOut 11 (some .boolean), Cond.fieldLink RX4 23 "PictureProofModel" "masks" "[I", Cond.methodLink RX4 86 yX4_isWithin, Cond.static yX4_isWithin, Cond.code yX4_isWithin cX4_isWithin 5 (some .boolean)]
def wsX4_firstDifference : List Cond := .code yX4_firstDifference cX4_firstDifference 4 (some .int) :: ((wsX4_firstDifference_r1 ++ (wsX4_firstDifference_r2 ++ wsX4_firstDifference_r3)) ++ wsX40)
def wsX4_move_r1 : List Cond := [Cond.fieldLink RX4 75 "PictureProofModel" "byRows" "I", Cond.fieldLink RX4 72 "PictureProofModel" "byColumns" "I", Cond.methodLink RX4 102 yX4_canCompare, Cond.instanceMethod yX4_canCompare, Cond.selects RX4 yX4_canCompare yX4_canCompare, Cond.initialized RX4, Cond.code yX4_canCompare cX4_canCompare 5 (some .boolean), Cond.fieldLink RX4 16 "PictureProofModel" "isKept" "[Z", Cond.methodLink RX4 36 yX4_in, Cond.static yX4_in, Cond.code yX4_in cX4_in 3 (some .boolean), Cond.methodLink RX4 44 yX4_isTest, Cond.static yX4_isTest, Cond.code yX4_isTest cX4_isTest 1 (some .boolean), Cond.methodLink RX4 55 yX4_placeOf, Cond.static yX4_placeOf, Cond.code yX4_placeOf cX4_placeOf 2 (some .int), Cond.methodLink RX4 52 yX4_goesWell, Cond.instanceMethod yX4_goesWell, Cond.selects RX4 yX4_goesWell yX4_goesWell, Cond.code yX4_goesWell cX4_goesWell 2 (some .boolean), Cond.fieldLink RX4 32 "PictureProofModel" "thrown" "I", Cond.methodLink RX4 95 yX4_findMove, Cond.instanceMethod yX4_findMove]
def wsX4_move_r2 : List Cond := [Cond.selects RX4 yX4_findMove yX4_findMove, Cond.code yX4_findMove cX4_findMove 8 none, Cond.fieldLink RX4 20 "PictureProofModel" "parts" "[I", Cond.methodLink RX4 78 yX4_fits, Cond.instanceMethod yX4_fits, Cond.selects RX4 yX4_fits yX4_fits, Cond.code yX4_fits cX4_fits 13 (some .boolean), Cond.fieldLink RX4 13 "PictureProofModel" "kept" "[I", Cond.fieldLink RX4 7 "PictureProofModel" "pictures" "[I", Cond.methodLink RX4 40 yX4_isCell, Cond.static yX4_isCell, Cond.code yX4_isCell cX4_isCell 2 (some .boolean), Cond.methodLink RX4 69 yX4_areAlike, Cond.instanceMethod yX4_areAlike, Cond.selects RX4 yX4_areAlike yX4_areAlike, Cond.code yX4_areAlike cX4_areAlike 4 (some .boolean), Cond.methodLink RX4 82 yX4_size, Cond.static yX4_size, Cond.code yX4_size cX4_size 1 (some .int)]
def wsX4_move : List Cond := .code yX4_move cX4_move 4 (some .int) :: ((wsX4_move_r1 ++ wsX4_move_r2) ++ wsX40)
def wsX4_soft_r1 : List Cond := [Cond.methodLink RX4 102 yX4_canCompare, Cond.instanceMethod yX4_canCompare, Cond.selects RX4 yX4_canCompare yX4_canCompare, Cond.initialized RX4, Cond.code yX4_canCompare cX4_canCompare 5 (some .boolean), Cond.fieldLink RX4 16 "PictureProofModel" "isKept" "[Z", Cond.methodLink RX4 36 yX4_in, Cond.static yX4_in, Cond.code yX4_in cX4_in 3 (some .boolean), Cond.methodLink RX4 44 yX4_isTest, Cond.static yX4_isTest, Cond.code yX4_isTest cX4_isTest 1 (some .boolean), Cond.methodLink RX4 55 yX4_placeOf, Cond.static yX4_placeOf, Cond.code yX4_placeOf cX4_placeOf 2 (some .int), Cond.methodLink RX4 52 yX4_goesWell, Cond.instanceMethod yX4_goesWell, Cond.selects RX4 yX4_goesWell yX4_goesWell, Cond.code yX4_goesWell cX4_goesWell 2 (some .boolean), Cond.fieldLink RX4 32 "PictureProofModel" "thrown" "I", Cond.methodLink RX4 95 yX4_findMove, Cond.instanceMethod yX4_findMove, Cond.selects RX4 yX4_findMove yX4_findMove, Cond.code yX4_findMove cX4_findMove 8 none]
def wsX4_soft_r2 : List Cond := [Cond.fieldLink RX4 72 "PictureProofModel" "byColumns" "I", Cond.fieldLink RX4 75 "PictureProofModel" "byRows" "I", Cond.fieldLink RX4 20 "PictureProofModel" "parts" "[I", Cond.methodLink RX4 78 yX4_fits, Cond.instanceMethod yX4_fits, Cond.selects RX4 yX4_fits yX4_fits, Cond.code yX4_fits cX4_fits 13 (some .boolean), Cond.fieldLink RX4 13 "PictureProofModel" "kept" "[I", Cond.fieldLink RX4 7 "PictureProofModel" "pictures" "[I", Cond.methodLink RX4 40 yX4_isCell, Cond.static yX4_isCell, Cond.code yX4_isCell cX4_isCell 2 (some .boolean), Cond.methodLink RX4 69 yX4_areAlike, Cond.instanceMethod yX4_areAlike, Cond.selects RX4 yX4_areAlike yX4_areAlike, Cond.code yX4_areAlike cX4_areAlike 4 (some .boolean), Cond.methodLink RX4 82 yX4_size, Cond.static yX4_size, Cond.code yX4_size cX4_size 1 (some .int), Cond.methodLink RX4 89 yX4_isSoft, Cond.instanceMethod yX4_isSoft, Cond.selects RX4 yX4_isSoft yX4_isSoft, Cond.code yX4_isSoft cX4_isSoft 11 (some .boolean)]
def wsX4_soft : List Cond := .code yX4_soft cX4_soft 7 (some .int) :: ((wsX4_soft_r1 ++ wsX4_soft_r2) ++ wsX40)
def wsX4_run_r1 : List Cond := [Cond.fieldLink RX4 29 "PictureProofModel" "many" "[I", Cond.fieldLink RX4 26 "PictureProofModel" "results" "[I", Cond.methodLink RX4 102 yX4_canCompare, Cond.instanceMethod yX4_canCompare, Cond.selects RX4 yX4_canCompare yX4_canCompare, Cond.initialized RX4, Cond.code yX4_canCompare cX4_canCompare 5 (some .boolean), Cond.fieldLink RX4 16 "PictureProofModel" "isKept" "[Z", Cond.methodLink RX4 36 yX4_in, Cond.static yX4_in, Cond.code yX4_in cX4_in 3 (some .boolean), Cond.methodLink RX4 44 yX4_isTest, Cond.static yX4_isTest, Cond.code yX4_isTest cX4_isTest 1 (some .boolean), Cond.methodLink RX4 55 yX4_placeOf, Cond.static yX4_placeOf, Cond.code yX4_placeOf cX4_placeOf 2 (some .int), Cond.methodLink RX4 52 yX4_goesWell, Cond.instanceMethod yX4_goesWell, Cond.selects RX4 yX4_goesWell yX4_goesWell, Cond.code yX4_goesWell cX4_goesWell 2 (some .boolean), Cond.fieldLink RX4 32 "PictureProofModel" "thrown" "I", Cond.methodLink RX4 95 yX4_findMove, Cond.instanceMethod yX4_findMove]
def wsX4_run_r2 : List Cond := [Cond.selects RX4 yX4_findMove yX4_findMove, Cond.code yX4_findMove cX4_findMove 8 none, Cond.fieldLink RX4 72 "PictureProofModel" "byColumns" "I", Cond.fieldLink RX4 75 "PictureProofModel" "byRows" "I", Cond.fieldLink RX4 20 "PictureProofModel" "parts" "[I", Cond.methodLink RX4 78 yX4_fits, Cond.instanceMethod yX4_fits, Cond.selects RX4 yX4_fits yX4_fits, Cond.code yX4_fits cX4_fits 13 (some .boolean), Cond.fieldLink RX4 13 "PictureProofModel" "kept" "[I", Cond.fieldLink RX4 7 "PictureProofModel" "pictures" "[I", Cond.methodLink RX4 40 yX4_isCell, Cond.static yX4_isCell, Cond.code yX4_isCell cX4_isCell 2 (some .boolean), Cond.methodLink RX4 69 yX4_areAlike, Cond.instanceMethod yX4_areAlike, Cond.selects RX4 yX4_areAlike yX4_areAlike, Cond.code yX4_areAlike cX4_areAlike 4 (some .boolean), Cond.methodLink RX4 82 yX4_size, Cond.static yX4_size, Cond.code yX4_size cX4_size 1 (some .int), Cond.methodLink RX4 105 yX4_first, Cond.instanceMethod yX4_first, Cond.selects RX4 yX4_first yX4_first]
def wsX4_run_r3 : List Cond := [Cond.code yX4_first cX4_first 5 (some .int), Cond.methodLink RX4 99 yX4_differs, Cond.instanceMethod yX4_differs, Cond.selects RX4 yX4_differs yX4_differs, Cond.code yX4_differs cX4_differs 6 (some .boolean), Cond.methodLink RX4 89 yX4_isSoft, Cond.instanceMethod yX4_isSoft, Cond.selects RX4 yX4_isSoft yX4_isSoft, Cond.code yX4_isSoft cX4_isSoft 11 (some .boolean), Cond.methodLink RX4 92 yX4_isLeftOut, Cond.instanceMethod yX4_isLeftOut, Cond.selects RX4 yX4_isLeftOut yX4_isLeftOut, Cond.code yX4_isLeftOut cX4_isLeftOut 11 (some .boolean), Cond.fieldLink RX4 23 "PictureProofModel" "masks" "[I", Cond.methodLink RX4 86 yX4_isWithin, Cond.static yX4_isWithin, Cond.code yX4_isWithin cX4_isWithin 5 (some .boolean)]
def wsX4_run : List Cond := .code yX4_run cX4_run 6 (some .boolean) :: ((wsX4_run_r1 ++ (wsX4_run_r2 ++ wsX4_run_r3)) ++ wsX40)
def wsX4_runs : List Cond := .code yX4_runs cX4_runs 2 (some .int) :: ([.fieldLink RX4 29 "PictureProofModel" "many" "[I", .methodLink RX4 44 yX4_isTest, .static yX4_isTest, .initialized RX4, .code yX4_isTest cX4_isTest 1 (some .boolean), .methodLink RX4 36 yX4_in, .static yX4_in, .code yX4_in cX4_in 3 (some .boolean), .methodLink RX4 52 yX4_goesWell, .instanceMethod yX4_goesWell, .selects RX4 yX4_goesWell yX4_goesWell, .code yX4_goesWell cX4_goesWell 2 (some .boolean), .fieldLink RX4 32 "PictureProofModel" "thrown" "I"] ++ wsX40)
def wsX4_doubt : List Cond := .code yX4_doubt cX4_doubt 4 (some .int) :: ([.fieldLink RX4 29 "PictureProofModel" "many" "[I", .fieldLink RX4 26 "PictureProofModel" "results" "[I", .methodLink RX4 44 yX4_isTest, .static yX4_isTest, .initialized RX4, .code yX4_isTest cX4_isTest 1 (some .boolean), .methodLink RX4 36 yX4_in, .static yX4_in, .code yX4_in cX4_in 3 (some .boolean), .methodLink RX4 52 yX4_goesWell, .instanceMethod yX4_goesWell, .selects RX4 yX4_goesWell yX4_goesWell, .code yX4_goesWell cX4_goesWell 2 (some .boolean), .fieldLink RX4 32 "PictureProofModel" "thrown" "I"] ++ wsX40)
def wsJ9_abs_0f7a4 : List Cond := .code yJ9_abs_0f7a4 cJ9_abs_0f7a4 1 (some .int) :: ([])
def wsJ9_max_7cf53 : List Cond := .code yJ9_max_7cf53 cJ9_max_7cf53 2 (some .int) :: ([])
def wsJ9_min_7cf53 : List Cond := .code yJ9_min_7cf53 cJ9_min_7cf53 2 (some .int) :: ([])
def wsL_paint_r1 : List Cond := [Cond.classLink RL 13 "java/lang/IllegalArgumentException", Cond.methodLink RL 7 yX3_paint, Cond.instanceMethod yX3_paint, Cond.selects RX3 yX3_paint yX3_paint, Cond.initialized RX3, Cond.code yX3_paint cX3_paint 10 (some .int), Cond.fieldLink RX3 12 "PictureProof" "pictures" "LPictureProof$Pictures;", Cond.methodLink RX3 33 yX3_isTest, Cond.static yX3_isTest, Cond.code yX3_isTest cX3_isTest 1 (some .boolean), Cond.methodLink RX3 70 yX3_isWithin, Cond.static yX3_isWithin, Cond.code yX3_isWithin cX3_isWithin 3 (some .boolean), Cond.methodLink RX3 37 yX3_isRectangle, Cond.static yX3_isRectangle, Cond.code yX3_isRectangle cX3_isRectangle 4 (some .boolean), Cond.methodLink RX3 55 yX3_isCell, Cond.static yX3_isCell, Cond.code yX3_isCell cX3_isCell 2 (some .boolean), Cond.methodLink RX3 41 yX3_isShade, Cond.static yX3_isShade, Cond.code yX3_isShade cX3_isShade 1 (some .boolean), Cond.methodLink RX3 44 yX3_checkArguments, Cond.static yX3_checkArguments]
def wsL_paint_r2 : List Cond := [Cond.code yX3_checkArguments cX3_checkArguments 1 none, Cond.classLink RX3 141 "java/lang/IllegalArgumentException", Cond.initialized "java/lang/IllegalArgumentException", Cond.methodLink RX3 48 yX3_pictureSlot, Cond.static yX3_pictureSlot, Cond.code yX3_pictureSlot cX3_pictureSlot 1 (some .int), Cond.methodLink RX3 52 yX1_put, Cond.instanceMethod yX1_put, Cond.selects RX1 yX1_put yX1_put, Cond.initialized RX1, Cond.code yX1_put cX1_put 7 (some .boolean), Cond.fieldLink RX1 9 "PictureProof$Pictures" "shades" "[I", Cond.methodLink RX1 23 yX1_isSlot, Cond.static yX1_isSlot, Cond.code yX1_isSlot cX1_isSlot 1 (some .boolean), Cond.methodLink RX1 31 yX1_place, Cond.static yX1_place, Cond.code yX1_place cX1_place 3 (some .int)]
def wsL_paint : List Cond := .codeWith yL_paint cL_paint 9 (some .int) [(0, 18, 21, 13)] :: ((wsL_paint_r1 ++ wsL_paint_r2) ++ wsX30 ++ wsX10 ++ (vx_atS RX3 145 "java/lang/IllegalArgumentException" ["java/lang/RuntimeException", "java/lang/Exception"]).filter goodWord)
def wsL_shade_r1 : List Cond := [Cond.classLink RL 13 "java/lang/IllegalArgumentException", Cond.methodLink RL 15 yX3_shade, Cond.instanceMethod yX3_shade, Cond.selects RX3 yX3_shade yX3_shade, Cond.initialized RX3, Cond.code yX3_shade cX3_shade 4 (some .int), Cond.fieldLink RX3 12 "PictureProof" "pictures" "LPictureProof$Pictures;", Cond.methodLink RX3 33 yX3_isTest, Cond.static yX3_isTest, Cond.code yX3_isTest cX3_isTest 1 (some .boolean), Cond.methodLink RX3 70 yX3_isWithin, Cond.static yX3_isWithin, Cond.code yX3_isWithin cX3_isWithin 3 (some .boolean), Cond.methodLink RX3 55 yX3_isCell, Cond.static yX3_isCell, Cond.code yX3_isCell cX3_isCell 2 (some .boolean), Cond.methodLink RX3 44 yX3_checkArguments, Cond.static yX3_checkArguments, Cond.code yX3_checkArguments cX3_checkArguments 1 none, Cond.classLink RX3 141 "java/lang/IllegalArgumentException", Cond.initialized "java/lang/IllegalArgumentException", Cond.methodLink RX3 48 yX3_pictureSlot, Cond.static yX3_pictureSlot, Cond.code yX3_pictureSlot cX3_pictureSlot 1 (some .int)]
def wsL_shade_r2 : List Cond := [Cond.methodLink RX3 59 yX1_at, Cond.instanceMethod yX1_at, Cond.selects RX1 yX1_at yX1_at, Cond.initialized RX1, Cond.code yX1_at cX1_at 4 (some .int), Cond.fieldLink RX1 9 "PictureProof$Pictures" "shades" "[I", Cond.methodLink RX1 23 yX1_isSlot, Cond.static yX1_isSlot, Cond.code yX1_isSlot cX1_isSlot 1 (some .boolean), Cond.methodLink RX1 31 yX1_place, Cond.static yX1_place, Cond.code yX1_place cX1_place 3 (some .int)]
def wsL_shade : List Cond := .codeWith yL_shade cL_shade 6 (some .int) [(0, 12, 15, 13)] :: ((wsL_shade_r1 ++ wsL_shade_r2) ++ wsX30 ++ wsX10 ++ (vx_atS RX3 145 "java/lang/IllegalArgumentException" ["java/lang/RuntimeException", "java/lang/Exception"]).filter goodWord)
def wsL_setPart_r1 : List Cond := [Cond.classLink RL 13 "java/lang/IllegalArgumentException", Cond.methodLink RL 19 yX3_setPart, Cond.instanceMethod yX3_setPart, Cond.selects RX3 yX3_setPart yX3_setPart, Cond.initialized RX3, Cond.code yX3_setPart cX3_setPart 6 none, Cond.fieldLink RX3 19 "PictureProof" "parts" "LPictureProof$Rectangles;", Cond.fieldLink RX3 23 "PictureProof" "masks" "LPictureProof$Rectangles;", Cond.methodLink RX3 33 yX3_isTest, Cond.static yX3_isTest, Cond.code yX3_isTest cX3_isTest 1 (some .boolean), Cond.methodLink RX3 70 yX3_isWithin, Cond.static yX3_isWithin, Cond.code yX3_isWithin cX3_isWithin 3 (some .boolean), Cond.methodLink RX3 37 yX3_isRectangle, Cond.static yX3_isRectangle, Cond.code yX3_isRectangle cX3_isRectangle 4 (some .boolean), Cond.methodLink RX3 55 yX3_isCell, Cond.static yX3_isCell, Cond.code yX3_isCell cX3_isCell 2 (some .boolean), Cond.methodLink RX3 44 yX3_checkArguments, Cond.static yX3_checkArguments, Cond.code yX3_checkArguments cX3_checkArguments 1 none, Cond.classLink RX3 141 "java/lang/IllegalArgumentException"]
def wsL_setPart_r2 : List Cond := [Cond.initialized "java/lang/IllegalArgumentException", Cond.methodLink RX3 63 yX2_put, Cond.instanceMethod yX2_put, Cond.selects RX2 yX2_put yX2_put, Cond.initialized RX2, Cond.code yX2_put cX2_put 6 none, Cond.fieldLink RX2 9 "PictureProof$Rectangles" "lefts" "[I", Cond.fieldLink RX2 15 "PictureProof$Rectangles" "tops" "[I", Cond.fieldLink RX2 18 "PictureProof$Rectangles" "rights" "[I", Cond.fieldLink RX2 21 "PictureProof$Rectangles" "bottoms" "[I", Cond.methodLink RX3 66 yX2_drop, Cond.instanceMethod yX2_drop, Cond.selects RX2 yX2_drop yX2_drop, Cond.code yX2_drop cX2_drop 2 none, Cond.methodLink RX2 28 yX2_put]
def wsL_setPart : List Cond := .codeWith yL_setPart cL_setPart 7 (some .int) [(0, 11, 14, 13)] :: ((wsL_setPart_r1 ++ wsL_setPart_r2) ++ wsX30 ++ wsX20 ++ (vx_atS RX3 145 "java/lang/IllegalArgumentException" ["java/lang/RuntimeException", "java/lang/Exception"]).filter goodWord)
def wsL_setMask_r1 : List Cond := [Cond.classLink RL 13 "java/lang/IllegalArgumentException", Cond.classLink RL 26 "java/lang/IllegalStateException", Cond.methodLink RL 23 yX3_setMask, Cond.instanceMethod yX3_setMask, Cond.selects RX3 yX3_setMask yX3_setMask, Cond.initialized RX3, Cond.code yX3_setMask cX3_setMask 6 none, Cond.classLink RX3 77 "java/lang/IllegalStateException", Cond.initialized "java/lang/IllegalStateException", Cond.fieldLink RX3 19 "PictureProof" "parts" "LPictureProof$Rectangles;", Cond.fieldLink RX3 23 "PictureProof" "masks" "LPictureProof$Rectangles;", Cond.methodLink RX3 33 yX3_isTest, Cond.static yX3_isTest, Cond.code yX3_isTest cX3_isTest 1 (some .boolean), Cond.methodLink RX3 70 yX3_isWithin, Cond.static yX3_isWithin, Cond.code yX3_isWithin cX3_isWithin 3 (some .boolean), Cond.methodLink RX3 44 yX3_checkArguments, Cond.static yX3_checkArguments, Cond.code yX3_checkArguments cX3_checkArguments 1 none, Cond.classLink RX3 141 "java/lang/IllegalArgumentException", Cond.initialized "java/lang/IllegalArgumentException", Cond.methodLink RX3 74 yX2_has, Cond.instanceMethod yX2_has]
def wsL_setMask_r2 : List Cond := [Cond.selects RX2 yX2_has yX2_has, Cond.initialized RX2, Cond.code yX2_has cX2_has 2 (some .boolean), Cond.fieldLink RX2 9 "PictureProof$Rectangles" "lefts" "[I", Cond.fieldLink RX2 18 "PictureProof$Rectangles" "rights" "[I", Cond.methodLink RX3 63 yX2_put, Cond.instanceMethod yX2_put, Cond.selects RX2 yX2_put yX2_put, Cond.code yX2_put cX2_put 6 none, Cond.fieldLink RX2 15 "PictureProof$Rectangles" "tops" "[I", Cond.fieldLink RX2 21 "PictureProof$Rectangles" "bottoms" "[I"]
def wsL_setMask : List Cond := .codeWith yL_setMask cL_setMask 7 (some .int) [(0, 11, 14, 13), (0, 11, 18, 26)] :: ((wsL_setMask_r1 ++ wsL_setMask_r2) ++ wsX30 ++ wsX20 ++ (vx_atS RX3 81 "java/lang/IllegalStateException" ["java/lang/RuntimeException", "java/lang/Exception"]).filter goodWord ++ (vx_atS RX3 145 "java/lang/IllegalArgumentException" ["java/lang/RuntimeException", "java/lang/Exception"]).filter goodWord)
def wsL_approve_r1 : List Cond := [Cond.classLink RL 13 "java/lang/IllegalArgumentException", Cond.methodLink RL 28 yX3_approve, Cond.instanceMethod yX3_approve, Cond.selects RX3 yX3_approve yX3_approve, Cond.initialized RX3, Cond.code yX3_approve cX3_approve 5 (some .boolean), Cond.fieldLink RX3 12 "PictureProof" "pictures" "LPictureProof$Pictures;", Cond.methodLink RX3 84 yX3_isBranch, Cond.static yX3_isBranch, Cond.code yX3_isBranch cX3_isBranch 1 (some .boolean), Cond.methodLink RX3 70 yX3_isWithin, Cond.static yX3_isWithin, Cond.code yX3_isWithin cX3_isWithin 3 (some .boolean), Cond.methodLink RX3 33 yX3_isTest, Cond.static yX3_isTest, Cond.code yX3_isTest cX3_isTest 1 (some .boolean), Cond.methodLink RX3 44 yX3_checkArguments, Cond.static yX3_checkArguments, Cond.code yX3_checkArguments cX3_checkArguments 1 none, Cond.classLink RX3 141 "java/lang/IllegalArgumentException", Cond.initialized "java/lang/IllegalArgumentException", Cond.methodLink RX3 87 yX3_approvedSlot, Cond.static yX3_approvedSlot, Cond.code yX3_approvedSlot cX3_approvedSlot 2 (some .int)]
def wsL_approve_r2 : List Cond := [Cond.methodLink RX3 91 yX1_has, Cond.instanceMethod yX1_has, Cond.selects RX1 yX1_has yX1_has, Cond.initialized RX1, Cond.code yX1_has cX1_has 2 (some .boolean), Cond.fieldLink RX1 15 "PictureProof$Pictures" "held" "[Z", Cond.methodLink RX1 23 yX1_isSlot, Cond.static yX1_isSlot, Cond.code yX1_isSlot cX1_isSlot 1 (some .boolean), Cond.methodLink RX3 48 yX3_pictureSlot, Cond.static yX3_pictureSlot, Cond.code yX3_pictureSlot cX3_pictureSlot 1 (some .int), Cond.methodLink RX3 92 yX1_copy, Cond.instanceMethod yX1_copy, Cond.selects RX1 yX1_copy yX1_copy, Cond.code yX1_copy cX1_copy 3 none, Cond.fieldLink RX1 9 "PictureProof$Pictures" "shades" "[I", Cond.methodLink RX1 35 arraycopyName, Cond.native arraycopyName, Cond.static arraycopyName, Cond.initialized "java/lang/System"]
def wsL_approve : List Cond := .codeWith yL_approve cL_approve 5 (some .int) [(0, 17, 20, 13)] :: ((wsL_approve_r1 ++ wsL_approve_r2) ++ wsX30 ++ wsX10 ++ (vx_atS RX3 145 "java/lang/IllegalArgumentException" ["java/lang/RuntimeException", "java/lang/Exception"]).filter goodWord)
def wsL_begin_r1 : List Cond := [Cond.classLink RL 13 "java/lang/IllegalArgumentException", Cond.methodLink RL 32 yX3_begin, Cond.instanceMethod yX3_begin, Cond.selects RX3 yX3_begin yX3_begin, Cond.initialized RX3, Cond.code yX3_begin cX3_begin 4 (some .int), Cond.fieldLink RX3 12 "PictureProof" "pictures" "LPictureProof$Pictures;", Cond.methodLink RX3 96 yX3_isSideBranch, Cond.static yX3_isSideBranch, Cond.code yX3_isSideBranch cX3_isSideBranch 1 (some .boolean), Cond.methodLink RX3 70 yX3_isWithin, Cond.static yX3_isWithin, Cond.code yX3_isWithin cX3_isWithin 3 (some .boolean), Cond.methodLink RX3 44 yX3_checkArguments, Cond.static yX3_checkArguments, Cond.code yX3_checkArguments cX3_checkArguments 1 none, Cond.classLink RX3 141 "java/lang/IllegalArgumentException", Cond.initialized "java/lang/IllegalArgumentException", Cond.methodLink RX3 99 yX3_followMain, Cond.instanceMethod yX3_followMain, Cond.selects RX3 yX3_followMain yX3_followMain, Cond.code yX3_followMain cX3_followMain 3 none, Cond.methodLink RX3 87 yX3_approvedSlot, Cond.static yX3_approvedSlot]
def wsL_begin_r2 : List Cond := [Cond.code yX3_approvedSlot cX3_approvedSlot 2 (some .int), Cond.methodLink RX3 148 yX3_baseSlot, Cond.static yX3_baseSlot, Cond.code yX3_baseSlot cX3_baseSlot 2 (some .int), Cond.methodLink RX3 92 yX1_copy, Cond.instanceMethod yX1_copy, Cond.selects RX1 yX1_copy yX1_copy, Cond.initialized RX1, Cond.code yX1_copy cX1_copy 3 none, Cond.fieldLink RX1 9 "PictureProof$Pictures" "shades" "[I", Cond.methodLink RX1 35 arraycopyName, Cond.native arraycopyName, Cond.static arraycopyName, Cond.initialized "java/lang/System", Cond.fieldLink RX1 15 "PictureProof$Pictures" "held" "[Z", Cond.methodLink RX1 23 yX1_isSlot, Cond.static yX1_isSlot, Cond.code yX1_isSlot cX1_isSlot 1 (some .boolean), Cond.methodLink RX3 91 yX1_has, Cond.instanceMethod yX1_has, Cond.selects RX1 yX1_has yX1_has, Cond.code yX1_has cX1_has 2 (some .boolean)]
def wsL_begin : List Cond := .codeWith yL_begin cL_begin 4 (some .int) [(0, 9, 12, 13)] :: ((wsL_begin_r1 ++ wsL_begin_r2) ++ wsX30 ++ wsX10 ++ (vx_atS RX3 145 "java/lang/IllegalArgumentException" ["java/lang/RuntimeException", "java/lang/Exception"]).filter goodWord)
def wsL_join_r1 : List Cond := [Cond.classLink RL 13 "java/lang/IllegalArgumentException", Cond.methodLink RL 36 yX3_join, Cond.instanceMethod yX3_join, Cond.selects RX3 yX3_join yX3_join, Cond.initialized RX3, Cond.code yX3_join cX3_join 4 (some .int), Cond.methodLink RX3 96 yX3_isSideBranch, Cond.static yX3_isSideBranch, Cond.code yX3_isSideBranch cX3_isSideBranch 1 (some .boolean), Cond.methodLink RX3 70 yX3_isWithin, Cond.static yX3_isWithin, Cond.code yX3_isWithin cX3_isWithin 3 (some .boolean), Cond.methodLink RX3 44 yX3_checkArguments, Cond.static yX3_checkArguments, Cond.code yX3_checkArguments cX3_checkArguments 1 none, Cond.classLink RX3 141 "java/lang/IllegalArgumentException", Cond.initialized "java/lang/IllegalArgumentException", Cond.methodLink RX3 102 yX3_clashes, Cond.instanceMethod yX3_clashes, Cond.selects RX3 yX3_clashes yX3_clashes, Cond.code yX3_clashes cX3_clashes 6 (some .boolean), Cond.fieldLink RX3 12 "PictureProof" "pictures" "LPictureProof$Pictures;", Cond.methodLink RX3 87 yX3_approvedSlot, Cond.static yX3_approvedSlot]
def wsL_join_r2 : List Cond := [Cond.code yX3_approvedSlot cX3_approvedSlot 2 (some .int), Cond.methodLink RX3 148 yX3_baseSlot, Cond.static yX3_baseSlot, Cond.code yX3_baseSlot cX3_baseSlot 2 (some .int), Cond.methodLink RX3 151 yX1_same, Cond.instanceMethod yX1_same, Cond.selects RX1 yX1_same yX1_same, Cond.initialized RX1, Cond.code yX1_same cX1_same 4 (some .boolean), Cond.fieldLink RX1 9 "PictureProof$Pictures" "shades" "[I", Cond.methodLink RX1 41 yX1_has, Cond.instanceMethod yX1_has, Cond.selects RX1 yX1_has yX1_has, Cond.code yX1_has cX1_has 2 (some .boolean), Cond.fieldLink RX1 15 "PictureProof$Pictures" "held" "[Z", Cond.methodLink RX1 23 yX1_isSlot, Cond.static yX1_isSlot, Cond.code yX1_isSlot cX1_isSlot 1 (some .boolean), Cond.methodLink RX3 105 yX3_takeOver, Cond.instanceMethod yX3_takeOver, Cond.selects RX3 yX3_takeOver yX3_takeOver, Cond.code yX3_takeOver cX3_takeOver 6 none, Cond.methodLink RX3 92 yX1_copy, Cond.instanceMethod yX1_copy]
def wsL_join_r3 : List Cond := [Cond.selects RX1 yX1_copy yX1_copy, Cond.code yX1_copy cX1_copy 3 none, Cond.methodLink RX1 35 arraycopyName, Cond.native arraycopyName, Cond.static arraycopyName, Cond.initialized "java/lang/System", Cond.methodLink RX3 99 yX3_followMain, Cond.instanceMethod yX3_followMain, Cond.selects RX3 yX3_followMain yX3_followMain, Cond.code yX3_followMain cX3_followMain 3 none]
def wsL_join : List Cond := .codeWith yL_join cL_join 4 (some .int) [(0, 9, 12, 13)] :: ((wsL_join_r1 ++ (wsL_join_r2 ++ wsL_join_r3)) ++ wsX30 ++ wsX10 ++ (vx_atS RX3 145 "java/lang/IllegalArgumentException" ["java/lang/RuntimeException", "java/lang/Exception"]).filter goodWord)
def wsL_isApproved_r1 : List Cond := [Cond.classLink RL 13 "java/lang/IllegalArgumentException", Cond.methodLink RL 39 yX3_isApproved, Cond.instanceMethod yX3_isApproved, Cond.selects RX3 yX3_isApproved yX3_isApproved, Cond.initialized RX3, Cond.code yX3_isApproved cX3_isApproved 3 (some .boolean), Cond.fieldLink RX3 12 "PictureProof" "pictures" "LPictureProof$Pictures;", Cond.methodLink RX3 84 yX3_isBranch, Cond.static yX3_isBranch, Cond.code yX3_isBranch cX3_isBranch 1 (some .boolean), Cond.methodLink RX3 70 yX3_isWithin, Cond.static yX3_isWithin, Cond.code yX3_isWithin cX3_isWithin 3 (some .boolean), Cond.methodLink RX3 33 yX3_isTest, Cond.static yX3_isTest, Cond.code yX3_isTest cX3_isTest 1 (some .boolean), Cond.methodLink RX3 44 yX3_checkArguments, Cond.static yX3_checkArguments, Cond.code yX3_checkArguments cX3_checkArguments 1 none, Cond.classLink RX3 141 "java/lang/IllegalArgumentException", Cond.initialized "java/lang/IllegalArgumentException", Cond.methodLink RX3 87 yX3_approvedSlot, Cond.static yX3_approvedSlot, Cond.code yX3_approvedSlot cX3_approvedSlot 2 (some .int)]
def wsL_isApproved_r2 : List Cond := [Cond.methodLink RX3 91 yX1_has, Cond.instanceMethod yX1_has, Cond.selects RX1 yX1_has yX1_has, Cond.initialized RX1, Cond.code yX1_has cX1_has 2 (some .boolean), Cond.fieldLink RX1 15 "PictureProof$Pictures" "held" "[Z", Cond.methodLink RX1 23 yX1_isSlot, Cond.static yX1_isSlot, Cond.code yX1_isSlot cX1_isSlot 1 (some .boolean)]
def wsL_isApproved : List Cond := .codeWith yL_isApproved cL_isApproved 5 (some .int) [(0, 17, 20, 13)] :: ((wsL_isApproved_r1 ++ wsL_isApproved_r2) ++ wsX30 ++ wsX10 ++ (vx_atS RX3 145 "java/lang/IllegalArgumentException" ["java/lang/RuntimeException", "java/lang/Exception"]).filter goodWord)
def wsL_differences_r1 : List Cond := [Cond.classLink RL 13 "java/lang/IllegalArgumentException", Cond.classLink RL 26 "java/lang/IllegalStateException", Cond.methodLink RL 42 yX3_differences, Cond.instanceMethod yX3_differences, Cond.selects RX3 yX3_differences yX3_differences, Cond.initialized RX3, Cond.code yX3_differences cX3_differences 8 (some .int), Cond.methodLink RX3 108 yX3_checkComparison, Cond.instanceMethod yX3_checkComparison, Cond.selects RX3 yX3_checkComparison yX3_checkComparison, Cond.code yX3_checkComparison cX3_checkComparison 4 none, Cond.classLink RX3 77 "java/lang/IllegalStateException", Cond.initialized "java/lang/IllegalStateException", Cond.fieldLink RX3 12 "PictureProof" "pictures" "LPictureProof$Pictures;", Cond.methodLink RX3 84 yX3_isBranch, Cond.static yX3_isBranch, Cond.code yX3_isBranch cX3_isBranch 1 (some .boolean), Cond.methodLink RX3 70 yX3_isWithin, Cond.static yX3_isWithin, Cond.code yX3_isWithin cX3_isWithin 3 (some .boolean), Cond.methodLink RX3 33 yX3_isTest, Cond.static yX3_isTest, Cond.code yX3_isTest cX3_isTest 1 (some .boolean), Cond.methodLink RX3 41 yX3_isShade]
def wsL_differences_r2 : List Cond := [Cond.static yX3_isShade, Cond.code yX3_isShade cX3_isShade 1 (some .boolean), Cond.methodLink RX3 44 yX3_checkArguments, Cond.static yX3_checkArguments, Cond.code yX3_checkArguments cX3_checkArguments 1 none, Cond.classLink RX3 141 "java/lang/IllegalArgumentException", Cond.initialized "java/lang/IllegalArgumentException", Cond.methodLink RX3 87 yX3_approvedSlot, Cond.static yX3_approvedSlot, Cond.code yX3_approvedSlot cX3_approvedSlot 2 (some .int), Cond.methodLink RX3 91 yX1_has, Cond.instanceMethod yX1_has, Cond.selects RX1 yX1_has yX1_has, Cond.initialized RX1, Cond.code yX1_has cX1_has 2 (some .boolean), Cond.fieldLink RX1 15 "PictureProof$Pictures" "held" "[Z", Cond.methodLink RX1 23 yX1_isSlot, Cond.static yX1_isSlot, Cond.code yX1_isSlot cX1_isSlot 1 (some .boolean), Cond.methodLink RX3 112 yX3_findMove, Cond.instanceMethod yX3_findMove, Cond.selects RX3 yX3_findMove yX3_findMove, Cond.code yX3_findMove cX3_findMove 9 (some .int), Cond.fieldLink RX3 19 "PictureProof" "parts" "LPictureProof$Rectangles;"]
def wsL_differences_r3 : List Cond := [Cond.methodLink RX3 163 Lib.Math.abs.name, Cond.static Lib.Math.abs.name, Cond.initialized "java/lang/Math", Cond.code Lib.Math.abs.name Lib.Math.abs.code 1 (some .int), Cond.methodLink RX3 74 yX2_has, Cond.instanceMethod yX2_has, Cond.selects RX2 yX2_has yX2_has, Cond.initialized RX2, Cond.code yX2_has cX2_has 2 (some .boolean), Cond.fieldLink RX2 9 "PictureProof$Rectangles" "lefts" "[I", Cond.fieldLink RX2 18 "PictureProof$Rectangles" "rights" "[I", Cond.methodLink RX3 189 yX3_fits, Cond.instanceMethod yX3_fits, Cond.selects RX3 yX3_fits yX3_fits, Cond.code yX3_fits cX3_fits 11 (some .boolean), Cond.methodLink RX3 195 yX2_bottom, Cond.instanceMethod yX2_bottom, Cond.selects RX2 yX2_bottom yX2_bottom, Cond.code yX2_bottom cX2_bottom 2 (some .int), Cond.fieldLink RX2 21 "PictureProof$Rectangles" "bottoms" "[I", Cond.methodLink RX3 198 yX2_right, Cond.instanceMethod yX2_right, Cond.selects RX2 yX2_right yX2_right, Cond.code yX2_right cX2_right 2 (some .int)]
def wsL_differences_r4 : List Cond := [Cond.methodLink RX3 186 yX2_top, Cond.instanceMethod yX2_top, Cond.selects RX2 yX2_top yX2_top, Cond.code yX2_top cX2_top 2 (some .int), Cond.fieldLink RX2 15 "PictureProof$Rectangles" "tops" "[I", Cond.methodLink RX3 183 yX2_left, Cond.instanceMethod yX2_left, Cond.selects RX2 yX2_left yX2_left, Cond.code yX2_left cX2_left 2 (some .int), Cond.methodLink RX3 55 yX3_isCell, Cond.static yX3_isCell, Cond.code yX3_isCell cX3_isCell 2 (some .boolean), Cond.methodLink RX3 48 yX3_pictureSlot, Cond.static yX3_pictureSlot, Cond.code yX3_pictureSlot cX3_pictureSlot 1 (some .int), Cond.methodLink RX3 59 yX1_at, Cond.instanceMethod yX1_at, Cond.selects RX1 yX1_at yX1_at, Cond.code yX1_at cX1_at 4 (some .int), Cond.fieldLink RX1 9 "PictureProof$Pictures" "shades" "[I", Cond.methodLink RX1 31 yX1_place, Cond.static yX1_place, Cond.code yX1_place cX1_place 3 (some .int), Cond.methodLink RX3 154 yX3_isAlike]
def wsL_differences_r5 : List Cond := [Cond.static yX3_isAlike, Cond.code yX3_isAlike cX3_isAlike 3 (some .boolean), Cond.methodLink RX3 192 yX3_moveBy, Cond.static yX3_moveBy, Cond.code yX3_moveBy cX3_moveBy 2 (some .int), Cond.methodLink RX3 115 yX3_differs, Cond.instanceMethod yX3_differs, Cond.selects RX3 yX3_differs yX3_differs, Cond.code yX3_differs cX3_differs 10 (some .boolean), Cond.methodLink RX3 122 yX3_columnOf, Cond.static yX3_columnOf, Cond.code yX3_columnOf cX3_columnOf 1 (some .int), Cond.methodLink RX3 125 yX3_rowOf, Cond.static yX3_rowOf, Cond.code yX3_rowOf cX3_rowOf 1 (some .int), Cond.methodLink RX3 157 yX3_isMoved, Cond.instanceMethod yX3_isMoved, Cond.selects RX3 yX3_isMoved yX3_isMoved, Cond.code yX3_isMoved cX3_isMoved 5 (some .boolean), Cond.methodLink RX3 174 yX2_holds, Cond.instanceMethod yX2_holds, Cond.selects RX2 yX2_holds yX2_holds, Cond.code yX2_holds cX2_holds 4 (some .boolean), Cond.methodLink RX3 177 yX3_columnsOf]
def wsL_differences_r6 : List Cond := [Cond.static yX3_columnsOf, Cond.code yX3_columnsOf cX3_columnsOf 1 (some .int), Cond.methodLink RX3 180 yX3_rowsOf, Cond.static yX3_rowsOf, Cond.code yX3_rowsOf cX3_rowsOf 1 (some .int), Cond.methodLink RX3 160 yX3_isMasked, Cond.instanceMethod yX3_isMasked, Cond.selects RX3 yX3_isMasked yX3_isMasked, Cond.code yX3_isMasked cX3_isMasked 7 (some .boolean), Cond.fieldLink RX3 23 "PictureProof" "masks" "LPictureProof$Rectangles;", Cond.methodLink RX3 128 yX3_isSoft, Cond.instanceMethod yX3_isSoft, Cond.selects RX3 yX3_isSoft yX3_isSoft, Cond.code yX3_isSoft cX3_isSoft 13 (some .boolean), Cond.methodLink RX3 168 Lib.Math.min.name, Cond.static Lib.Math.min.name, Cond.code Lib.Math.min.name Lib.Math.min.code 2 (some .int), Cond.methodLink RX3 171 Lib.Math.max.name, Cond.static Lib.Math.max.name, Cond.code Lib.Math.max.name Lib.Math.max.code 2 (some .int)]
def wsL_differences : List Cond := .codeWith yL_differences cL_differences 6 (some .int) [(0, 12, 15, 13), (0, 12, 19, 26)] :: ((wsL_differences_r1 ++ (wsL_differences_r2 ++ (wsL_differences_r3 ++ (wsL_differences_r4 ++ (wsL_differences_r5 ++ wsL_differences_r6))))) ++ wsX30 ++ wsX10 ++ wsX20 ++ (vx_atS RX3 81 "java/lang/IllegalStateException" ["java/lang/RuntimeException", "java/lang/Exception"]).filter goodWord ++ (vx_atS RX3 145 "java/lang/IllegalArgumentException" ["java/lang/RuntimeException", "java/lang/Exception"]).filter goodWord)
def wsL_firstDifference_r1 : List Cond := [Cond.classLink RL 13 "java/lang/IllegalArgumentException", Cond.classLink RL 26 "java/lang/IllegalStateException", Cond.methodLink RL 45 yX3_firstDifference, Cond.instanceMethod yX3_firstDifference, Cond.selects RX3 yX3_firstDifference yX3_firstDifference, Cond.initialized RX3, Cond.code yX3_firstDifference cX3_firstDifference 4 (some .int), Cond.methodLink RX3 108 yX3_checkComparison, Cond.instanceMethod yX3_checkComparison, Cond.selects RX3 yX3_checkComparison yX3_checkComparison, Cond.code yX3_checkComparison cX3_checkComparison 4 none, Cond.classLink RX3 77 "java/lang/IllegalStateException", Cond.initialized "java/lang/IllegalStateException", Cond.fieldLink RX3 12 "PictureProof" "pictures" "LPictureProof$Pictures;", Cond.methodLink RX3 84 yX3_isBranch, Cond.static yX3_isBranch, Cond.code yX3_isBranch cX3_isBranch 1 (some .boolean), Cond.methodLink RX3 70 yX3_isWithin, Cond.static yX3_isWithin, Cond.code yX3_isWithin cX3_isWithin 3 (some .boolean), Cond.methodLink RX3 33 yX3_isTest, Cond.static yX3_isTest, Cond.code yX3_isTest cX3_isTest 1 (some .boolean), Cond.methodLink RX3 41 yX3_isShade]
def wsL_firstDifference_r2 : List Cond := [Cond.static yX3_isShade, Cond.code yX3_isShade cX3_isShade 1 (some .boolean), Cond.methodLink RX3 44 yX3_checkArguments, Cond.static yX3_checkArguments, Cond.code yX3_checkArguments cX3_checkArguments 1 none, Cond.classLink RX3 141 "java/lang/IllegalArgumentException", Cond.initialized "java/lang/IllegalArgumentException", Cond.methodLink RX3 87 yX3_approvedSlot, Cond.static yX3_approvedSlot, Cond.code yX3_approvedSlot cX3_approvedSlot 2 (some .int), Cond.methodLink RX3 91 yX1_has, Cond.instanceMethod yX1_has, Cond.selects RX1 yX1_has yX1_has, Cond.initialized RX1, Cond.code yX1_has cX1_has 2 (some .boolean), Cond.fieldLink RX1 15 "PictureProof$Pictures" "held" "[Z", Cond.methodLink RX1 23 yX1_isSlot, Cond.static yX1_isSlot, Cond.code yX1_isSlot cX1_isSlot 1 (some .boolean), Cond.methodLink RX3 119 yX3_findDifference, Cond.instanceMethod yX3_findDifference, Cond.selects RX3 yX3_findDifference yX3_findDifference, Cond.code yX3_findDifference cX3_findDifference 6 (some .int), Cond.methodLink RX3 112 yX3_findMove]
def wsL_firstDifference_r3 : List Cond := [Cond.instanceMethod yX3_findMove, Cond.selects RX3 yX3_findMove yX3_findMove, Cond.code yX3_findMove cX3_findMove 9 (some .int), Cond.fieldLink RX3 19 "PictureProof" "parts" "LPictureProof$Rectangles;", Cond.methodLink RX3 163 Lib.Math.abs.name, Cond.static Lib.Math.abs.name, Cond.initialized "java/lang/Math", Cond.code Lib.Math.abs.name Lib.Math.abs.code 1 (some .int), Cond.methodLink RX3 74 yX2_has, Cond.instanceMethod yX2_has, Cond.selects RX2 yX2_has yX2_has, Cond.initialized RX2, Cond.code yX2_has cX2_has 2 (some .boolean), Cond.fieldLink RX2 9 "PictureProof$Rectangles" "lefts" "[I", Cond.fieldLink RX2 18 "PictureProof$Rectangles" "rights" "[I", Cond.methodLink RX3 189 yX3_fits, Cond.instanceMethod yX3_fits, Cond.selects RX3 yX3_fits yX3_fits, Cond.code yX3_fits cX3_fits 11 (some .boolean), Cond.methodLink RX3 195 yX2_bottom, Cond.instanceMethod yX2_bottom, Cond.selects RX2 yX2_bottom yX2_bottom, Cond.code yX2_bottom cX2_bottom 2 (some .int), Cond.fieldLink RX2 21 "PictureProof$Rectangles" "bottoms" "[I"]
def wsL_firstDifference_r4 : List Cond := [Cond.methodLink RX3 198 yX2_right, Cond.instanceMethod yX2_right, Cond.selects RX2 yX2_right yX2_right, Cond.code yX2_right cX2_right 2 (some .int), Cond.methodLink RX3 186 yX2_top, Cond.instanceMethod yX2_top, Cond.selects RX2 yX2_top yX2_top, Cond.code yX2_top cX2_top 2 (some .int), Cond.fieldLink RX2 15 "PictureProof$Rectangles" "tops" "[I", Cond.methodLink RX3 183 yX2_left, Cond.instanceMethod yX2_left, Cond.selects RX2 yX2_left yX2_left, Cond.code yX2_left cX2_left 2 (some .int), Cond.methodLink RX3 55 yX3_isCell, Cond.static yX3_isCell, Cond.code yX3_isCell cX3_isCell 2 (some .boolean), Cond.methodLink RX3 48 yX3_pictureSlot, Cond.static yX3_pictureSlot, Cond.code yX3_pictureSlot cX3_pictureSlot 1 (some .int), Cond.methodLink RX3 59 yX1_at, Cond.instanceMethod yX1_at, Cond.selects RX1 yX1_at yX1_at, Cond.code yX1_at cX1_at 4 (some .int), Cond.fieldLink RX1 9 "PictureProof$Pictures" "shades" "[I"]
def wsL_firstDifference_r5 : List Cond := [Cond.methodLink RX1 31 yX1_place, Cond.static yX1_place, Cond.code yX1_place cX1_place 3 (some .int), Cond.methodLink RX3 154 yX3_isAlike, Cond.static yX3_isAlike, Cond.code yX3_isAlike cX3_isAlike 3 (some .boolean), Cond.methodLink RX3 192 yX3_moveBy, Cond.static yX3_moveBy, Cond.code yX3_moveBy cX3_moveBy 2 (some .int), Cond.methodLink RX3 115 yX3_differs, Cond.instanceMethod yX3_differs, Cond.selects RX3 yX3_differs yX3_differs, Cond.code yX3_differs cX3_differs 10 (some .boolean), Cond.methodLink RX3 122 yX3_columnOf, Cond.static yX3_columnOf, Cond.code yX3_columnOf cX3_columnOf 1 (some .int), Cond.methodLink RX3 125 yX3_rowOf, Cond.static yX3_rowOf, Cond.code yX3_rowOf cX3_rowOf 1 (some .int), Cond.methodLink RX3 157 yX3_isMoved, Cond.instanceMethod yX3_isMoved, Cond.selects RX3 yX3_isMoved yX3_isMoved, Cond.code yX3_isMoved cX3_isMoved 5 (some .boolean), Cond.methodLink RX3 174 yX2_holds]
def wsL_firstDifference_r6 : List Cond := [Cond.instanceMethod yX2_holds, Cond.selects RX2 yX2_holds yX2_holds, Cond.code yX2_holds cX2_holds 4 (some .boolean), Cond.methodLink RX3 177 yX3_columnsOf, Cond.static yX3_columnsOf, Cond.code yX3_columnsOf cX3_columnsOf 1 (some .int), Cond.methodLink RX3 180 yX3_rowsOf, Cond.static yX3_rowsOf, Cond.code yX3_rowsOf cX3_rowsOf 1 (some .int), Cond.methodLink RX3 160 yX3_isMasked, Cond.instanceMethod yX3_isMasked, Cond.selects RX3 yX3_isMasked yX3_isMasked, Cond.code yX3_isMasked cX3_isMasked 7 (some .boolean), Cond.fieldLink RX3 23 "PictureProof" "masks" "LPictureProof$Rectangles;", Cond.methodLink RX3 128 yX3_isSoft, Cond.instanceMethod yX3_isSoft, Cond.selects RX3 yX3_isSoft yX3_isSoft, Cond.code yX3_isSoft cX3_isSoft 13 (some .boolean), Cond.methodLink RX3 168 Lib.Math.min.name, Cond.static Lib.Math.min.name, Cond.code Lib.Math.min.name Lib.Math.min.code 2 (some .int), Cond.methodLink RX3 171 Lib.Math.max.name, Cond.static Lib.Math.max.name, Cond.code Lib.Math.max.name Lib.Math.max.code 2 (some .int)]
def wsL_firstDifference : List Cond := .codeWith yL_firstDifference cL_firstDifference 6 (some .int) [(0, 12, 15, 13), (0, 12, 19, 26)] :: ((wsL_firstDifference_r1 ++ (wsL_firstDifference_r2 ++ (wsL_firstDifference_r3 ++ (wsL_firstDifference_r4 ++ (wsL_firstDifference_r5 ++ wsL_firstDifference_r6))))) ++ wsX30 ++ wsX10 ++ wsX20 ++ (vx_atS RX3 81 "java/lang/IllegalStateException" ["java/lang/RuntimeException", "java/lang/Exception"]).filter goodWord ++ (vx_atS RX3 145 "java/lang/IllegalArgumentException" ["java/lang/RuntimeException", "java/lang/Exception"]).filter goodWord)
def wsL_move_r1 : List Cond := [Cond.classLink RL 13 "java/lang/IllegalArgumentException", Cond.classLink RL 26 "java/lang/IllegalStateException", Cond.methodLink RL 48 yX3_move, Cond.instanceMethod yX3_move, Cond.selects RX3 yX3_move yX3_move, Cond.initialized RX3, Cond.code yX3_move cX3_move 4 (some .int), Cond.methodLink RX3 108 yX3_checkComparison, Cond.instanceMethod yX3_checkComparison, Cond.selects RX3 yX3_checkComparison yX3_checkComparison, Cond.code yX3_checkComparison cX3_checkComparison 4 none, Cond.classLink RX3 77 "java/lang/IllegalStateException", Cond.initialized "java/lang/IllegalStateException", Cond.fieldLink RX3 12 "PictureProof" "pictures" "LPictureProof$Pictures;", Cond.methodLink RX3 84 yX3_isBranch, Cond.static yX3_isBranch, Cond.code yX3_isBranch cX3_isBranch 1 (some .boolean), Cond.methodLink RX3 70 yX3_isWithin, Cond.static yX3_isWithin, Cond.code yX3_isWithin cX3_isWithin 3 (some .boolean), Cond.methodLink RX3 33 yX3_isTest, Cond.static yX3_isTest, Cond.code yX3_isTest cX3_isTest 1 (some .boolean), Cond.methodLink RX3 41 yX3_isShade]
def wsL_move_r2 : List Cond := [Cond.static yX3_isShade, Cond.code yX3_isShade cX3_isShade 1 (some .boolean), Cond.methodLink RX3 44 yX3_checkArguments, Cond.static yX3_checkArguments, Cond.code yX3_checkArguments cX3_checkArguments 1 none, Cond.classLink RX3 141 "java/lang/IllegalArgumentException", Cond.initialized "java/lang/IllegalArgumentException", Cond.methodLink RX3 87 yX3_approvedSlot, Cond.static yX3_approvedSlot, Cond.code yX3_approvedSlot cX3_approvedSlot 2 (some .int), Cond.methodLink RX3 91 yX1_has, Cond.instanceMethod yX1_has, Cond.selects RX1 yX1_has yX1_has, Cond.initialized RX1, Cond.code yX1_has cX1_has 2 (some .boolean), Cond.fieldLink RX1 15 "PictureProof$Pictures" "held" "[Z", Cond.methodLink RX1 23 yX1_isSlot, Cond.static yX1_isSlot, Cond.code yX1_isSlot cX1_isSlot 1 (some .boolean), Cond.methodLink RX3 112 yX3_findMove, Cond.instanceMethod yX3_findMove, Cond.selects RX3 yX3_findMove yX3_findMove, Cond.code yX3_findMove cX3_findMove 9 (some .int), Cond.fieldLink RX3 19 "PictureProof" "parts" "LPictureProof$Rectangles;"]
def wsL_move_r3 : List Cond := [Cond.methodLink RX3 163 Lib.Math.abs.name, Cond.static Lib.Math.abs.name, Cond.initialized "java/lang/Math", Cond.code Lib.Math.abs.name Lib.Math.abs.code 1 (some .int), Cond.methodLink RX3 74 yX2_has, Cond.instanceMethod yX2_has, Cond.selects RX2 yX2_has yX2_has, Cond.initialized RX2, Cond.code yX2_has cX2_has 2 (some .boolean), Cond.fieldLink RX2 9 "PictureProof$Rectangles" "lefts" "[I", Cond.fieldLink RX2 18 "PictureProof$Rectangles" "rights" "[I", Cond.methodLink RX3 189 yX3_fits, Cond.instanceMethod yX3_fits, Cond.selects RX3 yX3_fits yX3_fits, Cond.code yX3_fits cX3_fits 11 (some .boolean), Cond.methodLink RX3 195 yX2_bottom, Cond.instanceMethod yX2_bottom, Cond.selects RX2 yX2_bottom yX2_bottom, Cond.code yX2_bottom cX2_bottom 2 (some .int), Cond.fieldLink RX2 21 "PictureProof$Rectangles" "bottoms" "[I", Cond.methodLink RX3 198 yX2_right, Cond.instanceMethod yX2_right, Cond.selects RX2 yX2_right yX2_right, Cond.code yX2_right cX2_right 2 (some .int)]
def wsL_move_r4 : List Cond := [Cond.methodLink RX3 186 yX2_top, Cond.instanceMethod yX2_top, Cond.selects RX2 yX2_top yX2_top, Cond.code yX2_top cX2_top 2 (some .int), Cond.fieldLink RX2 15 "PictureProof$Rectangles" "tops" "[I", Cond.methodLink RX3 183 yX2_left, Cond.instanceMethod yX2_left, Cond.selects RX2 yX2_left yX2_left, Cond.code yX2_left cX2_left 2 (some .int), Cond.methodLink RX3 55 yX3_isCell, Cond.static yX3_isCell, Cond.code yX3_isCell cX3_isCell 2 (some .boolean), Cond.methodLink RX3 48 yX3_pictureSlot, Cond.static yX3_pictureSlot, Cond.code yX3_pictureSlot cX3_pictureSlot 1 (some .int), Cond.methodLink RX3 59 yX1_at, Cond.instanceMethod yX1_at, Cond.selects RX1 yX1_at yX1_at, Cond.code yX1_at cX1_at 4 (some .int), Cond.fieldLink RX1 9 "PictureProof$Pictures" "shades" "[I", Cond.methodLink RX1 31 yX1_place, Cond.static yX1_place, Cond.code yX1_place cX1_place 3 (some .int), Cond.methodLink RX3 154 yX3_isAlike]
def wsL_move_r5 : List Cond := [Cond.static yX3_isAlike, Cond.code yX3_isAlike cX3_isAlike 3 (some .boolean), Cond.methodLink RX3 192 yX3_moveBy, Cond.static yX3_moveBy, Cond.code yX3_moveBy cX3_moveBy 2 (some .int)]
def wsL_move : List Cond := .codeWith yL_move cL_move 6 (some .int) [(0, 12, 15, 13), (0, 12, 19, 26)] :: ((wsL_move_r1 ++ (wsL_move_r2 ++ (wsL_move_r3 ++ (wsL_move_r4 ++ wsL_move_r5)))) ++ wsX30 ++ wsX10 ++ wsX20 ++ (vx_atS RX3 81 "java/lang/IllegalStateException" ["java/lang/RuntimeException", "java/lang/Exception"]).filter goodWord ++ (vx_atS RX3 145 "java/lang/IllegalArgumentException" ["java/lang/RuntimeException", "java/lang/Exception"]).filter goodWord)
def wsL_soft_r1 : List Cond := [Cond.classLink RL 13 "java/lang/IllegalArgumentException", Cond.classLink RL 26 "java/lang/IllegalStateException", Cond.methodLink RL 51 yX3_soft, Cond.instanceMethod yX3_soft, Cond.selects RX3 yX3_soft yX3_soft, Cond.initialized RX3, Cond.code yX3_soft cX3_soft 7 (some .int), Cond.methodLink RX3 108 yX3_checkComparison, Cond.instanceMethod yX3_checkComparison, Cond.selects RX3 yX3_checkComparison yX3_checkComparison, Cond.code yX3_checkComparison cX3_checkComparison 4 none, Cond.classLink RX3 77 "java/lang/IllegalStateException", Cond.initialized "java/lang/IllegalStateException", Cond.fieldLink RX3 12 "PictureProof" "pictures" "LPictureProof$Pictures;", Cond.methodLink RX3 84 yX3_isBranch, Cond.static yX3_isBranch, Cond.code yX3_isBranch cX3_isBranch 1 (some .boolean), Cond.methodLink RX3 70 yX3_isWithin, Cond.static yX3_isWithin, Cond.code yX3_isWithin cX3_isWithin 3 (some .boolean), Cond.methodLink RX3 33 yX3_isTest, Cond.static yX3_isTest, Cond.code yX3_isTest cX3_isTest 1 (some .boolean), Cond.methodLink RX3 41 yX3_isShade]
def wsL_soft_r2 : List Cond := [Cond.static yX3_isShade, Cond.code yX3_isShade cX3_isShade 1 (some .boolean), Cond.methodLink RX3 44 yX3_checkArguments, Cond.static yX3_checkArguments, Cond.code yX3_checkArguments cX3_checkArguments 1 none, Cond.classLink RX3 141 "java/lang/IllegalArgumentException", Cond.initialized "java/lang/IllegalArgumentException", Cond.methodLink RX3 87 yX3_approvedSlot, Cond.static yX3_approvedSlot, Cond.code yX3_approvedSlot cX3_approvedSlot 2 (some .int), Cond.methodLink RX3 91 yX1_has, Cond.instanceMethod yX1_has, Cond.selects RX1 yX1_has yX1_has, Cond.initialized RX1, Cond.code yX1_has cX1_has 2 (some .boolean), Cond.fieldLink RX1 15 "PictureProof$Pictures" "held" "[Z", Cond.methodLink RX1 23 yX1_isSlot, Cond.static yX1_isSlot, Cond.code yX1_isSlot cX1_isSlot 1 (some .boolean), Cond.methodLink RX3 122 yX3_columnOf, Cond.static yX3_columnOf, Cond.code yX3_columnOf cX3_columnOf 1 (some .int), Cond.methodLink RX3 125 yX3_rowOf, Cond.static yX3_rowOf]
def wsL_soft_r3 : List Cond := [Cond.code yX3_rowOf cX3_rowOf 1 (some .int), Cond.methodLink RX3 128 yX3_isSoft, Cond.instanceMethod yX3_isSoft, Cond.selects RX3 yX3_isSoft yX3_isSoft, Cond.code yX3_isSoft cX3_isSoft 13 (some .boolean), Cond.methodLink RX3 168 Lib.Math.min.name, Cond.static Lib.Math.min.name, Cond.initialized "java/lang/Math", Cond.code Lib.Math.min.name Lib.Math.min.code 2 (some .int), Cond.methodLink RX3 171 Lib.Math.max.name, Cond.static Lib.Math.max.name, Cond.code Lib.Math.max.name Lib.Math.max.code 2 (some .int), Cond.methodLink RX3 48 yX3_pictureSlot, Cond.static yX3_pictureSlot, Cond.code yX3_pictureSlot cX3_pictureSlot 1 (some .int), Cond.methodLink RX3 59 yX1_at, Cond.instanceMethod yX1_at, Cond.selects RX1 yX1_at yX1_at, Cond.code yX1_at cX1_at 4 (some .int), Cond.fieldLink RX1 9 "PictureProof$Pictures" "shades" "[I", Cond.static yX3_isCell, Cond.code yX3_isCell cX3_isCell 2 (some .boolean), Cond.methodLink RX1 31 yX1_place, Cond.static yX1_place]
def wsL_soft_r4 : List Cond := [Cond.code yX1_place cX1_place 3 (some .int), Cond.methodLink RX3 154 yX3_isAlike, Cond.static yX3_isAlike, Cond.code yX3_isAlike cX3_isAlike 3 (some .boolean), Cond.methodLink RX3 163 Lib.Math.abs.name, Cond.static Lib.Math.abs.name, Cond.code Lib.Math.abs.name Lib.Math.abs.code 1 (some .int)]
def wsL_soft : List Cond := .codeWith yL_soft cL_soft 6 (some .int) [(0, 12, 15, 13), (0, 12, 19, 26)] :: ((wsL_soft_r1 ++ (wsL_soft_r2 ++ (wsL_soft_r3 ++ wsL_soft_r4))) ++ wsX30 ++ wsX10 ++ (vx_atS RX3 81 "java/lang/IllegalStateException" ["java/lang/RuntimeException", "java/lang/Exception"]).filter goodWord ++ (vx_atS RX3 145 "java/lang/IllegalArgumentException" ["java/lang/RuntimeException", "java/lang/Exception"]).filter goodWord)
def wsL_run_r1 : List Cond := [Cond.classLink RL 13 "java/lang/IllegalArgumentException", Cond.classLink RL 26 "java/lang/IllegalStateException", Cond.methodLink RL 54 yX3_run, Cond.instanceMethod yX3_run, Cond.selects RX3 yX3_run yX3_run, Cond.initialized RX3, Cond.code yX3_run cX3_run 5 (some .boolean), Cond.fieldLink RX3 29 "PictureProof" "histories" "LPictureProof$Histories;", Cond.methodLink RX3 108 yX3_checkComparison, Cond.instanceMethod yX3_checkComparison, Cond.selects RX3 yX3_checkComparison yX3_checkComparison, Cond.code yX3_checkComparison cX3_checkComparison 4 none, Cond.classLink RX3 77 "java/lang/IllegalStateException", Cond.initialized "java/lang/IllegalStateException", Cond.fieldLink RX3 12 "PictureProof" "pictures" "LPictureProof$Pictures;", Cond.methodLink RX3 84 yX3_isBranch, Cond.static yX3_isBranch, Cond.code yX3_isBranch cX3_isBranch 1 (some .boolean), Cond.methodLink RX3 70 yX3_isWithin, Cond.static yX3_isWithin, Cond.code yX3_isWithin cX3_isWithin 3 (some .boolean), Cond.methodLink RX3 33 yX3_isTest, Cond.static yX3_isTest, Cond.code yX3_isTest cX3_isTest 1 (some .boolean)]
def wsL_run_r2 : List Cond := [Cond.methodLink RX3 41 yX3_isShade, Cond.static yX3_isShade, Cond.code yX3_isShade cX3_isShade 1 (some .boolean), Cond.methodLink RX3 44 yX3_checkArguments, Cond.static yX3_checkArguments, Cond.code yX3_checkArguments cX3_checkArguments 1 none, Cond.classLink RX3 141 "java/lang/IllegalArgumentException", Cond.initialized "java/lang/IllegalArgumentException", Cond.methodLink RX3 87 yX3_approvedSlot, Cond.static yX3_approvedSlot, Cond.code yX3_approvedSlot cX3_approvedSlot 2 (some .int), Cond.methodLink RX3 91 yX1_has, Cond.instanceMethod yX1_has, Cond.selects RX1 yX1_has yX1_has, Cond.initialized RX1, Cond.code yX1_has cX1_has 2 (some .boolean), Cond.fieldLink RX1 15 "PictureProof$Pictures" "held" "[Z", Cond.methodLink RX1 23 yX1_isSlot, Cond.static yX1_isSlot, Cond.code yX1_isSlot cX1_isSlot 1 (some .boolean), Cond.methodLink RX3 119 yX3_findDifference, Cond.instanceMethod yX3_findDifference, Cond.selects RX3 yX3_findDifference yX3_findDifference, Cond.code yX3_findDifference cX3_findDifference 6 (some .int)]
def wsL_run_r3 : List Cond := [Cond.methodLink RX3 112 yX3_findMove, Cond.instanceMethod yX3_findMove, Cond.selects RX3 yX3_findMove yX3_findMove, Cond.code yX3_findMove cX3_findMove 9 (some .int), Cond.fieldLink RX3 19 "PictureProof" "parts" "LPictureProof$Rectangles;", Cond.methodLink RX3 163 Lib.Math.abs.name, Cond.static Lib.Math.abs.name, Cond.initialized "java/lang/Math", Cond.code Lib.Math.abs.name Lib.Math.abs.code 1 (some .int), Cond.methodLink RX3 74 yX2_has, Cond.instanceMethod yX2_has, Cond.selects RX2 yX2_has yX2_has, Cond.initialized RX2, Cond.code yX2_has cX2_has 2 (some .boolean), Cond.fieldLink RX2 9 "PictureProof$Rectangles" "lefts" "[I", Cond.fieldLink RX2 18 "PictureProof$Rectangles" "rights" "[I", Cond.methodLink RX3 189 yX3_fits, Cond.instanceMethod yX3_fits, Cond.selects RX3 yX3_fits yX3_fits, Cond.code yX3_fits cX3_fits 11 (some .boolean), Cond.methodLink RX3 195 yX2_bottom, Cond.instanceMethod yX2_bottom, Cond.selects RX2 yX2_bottom yX2_bottom, Cond.code yX2_bottom cX2_bottom 2 (some .int)]
def wsL_run_r4 : List Cond := [Cond.fieldLink RX2 21 "PictureProof$Rectangles" "bottoms" "[I", Cond.methodLink RX3 198 yX2_right, Cond.instanceMethod yX2_right, Cond.selects RX2 yX2_right yX2_right, Cond.code yX2_right cX2_right 2 (some .int), Cond.methodLink RX3 186 yX2_top, Cond.instanceMethod yX2_top, Cond.selects RX2 yX2_top yX2_top, Cond.code yX2_top cX2_top 2 (some .int), Cond.fieldLink RX2 15 "PictureProof$Rectangles" "tops" "[I", Cond.methodLink RX3 183 yX2_left, Cond.instanceMethod yX2_left, Cond.selects RX2 yX2_left yX2_left, Cond.code yX2_left cX2_left 2 (some .int), Cond.methodLink RX3 55 yX3_isCell, Cond.static yX3_isCell, Cond.code yX3_isCell cX3_isCell 2 (some .boolean), Cond.methodLink RX3 48 yX3_pictureSlot, Cond.static yX3_pictureSlot, Cond.code yX3_pictureSlot cX3_pictureSlot 1 (some .int), Cond.methodLink RX3 59 yX1_at, Cond.instanceMethod yX1_at, Cond.selects RX1 yX1_at yX1_at, Cond.code yX1_at cX1_at 4 (some .int)]
def wsL_run_r5 : List Cond := [Cond.fieldLink RX1 9 "PictureProof$Pictures" "shades" "[I", Cond.methodLink RX1 31 yX1_place, Cond.static yX1_place, Cond.code yX1_place cX1_place 3 (some .int), Cond.methodLink RX3 154 yX3_isAlike, Cond.static yX3_isAlike, Cond.code yX3_isAlike cX3_isAlike 3 (some .boolean), Cond.methodLink RX3 192 yX3_moveBy, Cond.static yX3_moveBy, Cond.code yX3_moveBy cX3_moveBy 2 (some .int), Cond.methodLink RX3 115 yX3_differs, Cond.instanceMethod yX3_differs, Cond.selects RX3 yX3_differs yX3_differs, Cond.code yX3_differs cX3_differs 10 (some .boolean), Cond.methodLink RX3 122 yX3_columnOf, Cond.static yX3_columnOf, Cond.code yX3_columnOf cX3_columnOf 1 (some .int), Cond.methodLink RX3 125 yX3_rowOf, Cond.static yX3_rowOf, Cond.code yX3_rowOf cX3_rowOf 1 (some .int), Cond.methodLink RX3 157 yX3_isMoved, Cond.instanceMethod yX3_isMoved, Cond.selects RX3 yX3_isMoved yX3_isMoved, Cond.code yX3_isMoved cX3_isMoved 5 (some .boolean)]
def wsL_run_r6 : List Cond := [Cond.methodLink RX3 174 yX2_holds, Cond.instanceMethod yX2_holds, Cond.selects RX2 yX2_holds yX2_holds, Cond.code yX2_holds cX2_holds 4 (some .boolean), Cond.methodLink RX3 177 yX3_columnsOf, Cond.static yX3_columnsOf, Cond.code yX3_columnsOf cX3_columnsOf 1 (some .int), Cond.methodLink RX3 180 yX3_rowsOf, Cond.static yX3_rowsOf, Cond.code yX3_rowsOf cX3_rowsOf 1 (some .int), Cond.methodLink RX3 160 yX3_isMasked, Cond.instanceMethod yX3_isMasked, Cond.selects RX3 yX3_isMasked yX3_isMasked, Cond.code yX3_isMasked cX3_isMasked 7 (some .boolean), Cond.fieldLink RX3 23 "PictureProof" "masks" "LPictureProof$Rectangles;", Cond.methodLink RX3 128 yX3_isSoft, Cond.instanceMethod yX3_isSoft, Cond.selects RX3 yX3_isSoft yX3_isSoft, Cond.code yX3_isSoft cX3_isSoft 13 (some .boolean), Cond.methodLink RX3 168 Lib.Math.min.name, Cond.static Lib.Math.min.name, Cond.code Lib.Math.min.name Lib.Math.min.code 2 (some .int), Cond.methodLink RX3 171 Lib.Math.max.name, Cond.static Lib.Math.max.name]
def wsL_run_r7 : List Cond := [Cond.code Lib.Math.max.name Lib.Math.max.code 2 (some .int), Cond.methodLink RX3 131 yX0_add, Cond.instanceMethod yX0_add, Cond.selects RX0 yX0_add yX0_add, Cond.initialized RX0, Cond.code yX0_add cX0_add 3 none, Cond.fieldLink RX0 9 "PictureProof$Histories" "results" "[I", Cond.fieldLink RX0 15 "PictureProof$Histories" "lengths" "[I", Cond.methodLink RX0 22 Lib.Math.min.name]
def wsL_run : List Cond := .codeWith yL_run cL_run 6 (some .int) [(0, 19, 22, 13), (0, 19, 26, 26)] :: ((wsL_run_r1 ++ (wsL_run_r2 ++ (wsL_run_r3 ++ (wsL_run_r4 ++ (wsL_run_r5 ++ (wsL_run_r6 ++ wsL_run_r7)))))) ++ wsX30 ++ wsX10 ++ wsX20 ++ wsX00 ++ (vx_atS RX3 81 "java/lang/IllegalStateException" ["java/lang/RuntimeException", "java/lang/Exception"]).filter goodWord ++ (vx_atS RX3 145 "java/lang/IllegalArgumentException" ["java/lang/RuntimeException", "java/lang/Exception"]).filter goodWord)
def wsL_runs : List Cond := .codeWith yL_runs cL_runs 4 (some .int) [(0, 9, 12, 13)] :: ([.classLink RL 13 "java/lang/IllegalArgumentException", .methodLink RL 58 yX3_runs, .instanceMethod yX3_runs, .selects RX3 yX3_runs yX3_runs, .initialized RX3, .code yX3_runs cX3_runs 2 (some .int), .fieldLink RX3 29 "PictureProof" "histories" "LPictureProof$Histories;", .methodLink RX3 33 yX3_isTest, .static yX3_isTest, .code yX3_isTest cX3_isTest 1 (some .boolean), .methodLink RX3 70 yX3_isWithin, .static yX3_isWithin, .code yX3_isWithin cX3_isWithin 3 (some .boolean), .methodLink RX3 44 yX3_checkArguments, .static yX3_checkArguments, .code yX3_checkArguments cX3_checkArguments 1 none, .classLink RX3 141 "java/lang/IllegalArgumentException", .initialized "java/lang/IllegalArgumentException", .methodLink RX3 135 yX0_length, .instanceMethod yX0_length, .selects RX0 yX0_length yX0_length, .initialized RX0, .code yX0_length cX0_length 2 (some .int), .fieldLink RX0 15 "PictureProof$Histories" "lengths" "[I"] ++ wsX30 ++ wsX00 ++ (vx_atS RX3 145 "java/lang/IllegalArgumentException" ["java/lang/RuntimeException", "java/lang/Exception"]).filter goodWord)
def wsL_doubt_r1 : List Cond := [Cond.classLink RL 13 "java/lang/IllegalArgumentException", Cond.methodLink RL 61 yX3_doubt, Cond.instanceMethod yX3_doubt, Cond.selects RX3 yX3_doubt yX3_doubt, Cond.initialized RX3, Cond.code yX3_doubt cX3_doubt 3 (some .int), Cond.fieldLink RX3 29 "PictureProof" "histories" "LPictureProof$Histories;", Cond.methodLink RX3 33 yX3_isTest, Cond.static yX3_isTest, Cond.code yX3_isTest cX3_isTest 1 (some .boolean), Cond.methodLink RX3 70 yX3_isWithin, Cond.static yX3_isWithin, Cond.code yX3_isWithin cX3_isWithin 3 (some .boolean), Cond.methodLink RX3 44 yX3_checkArguments, Cond.static yX3_checkArguments, Cond.code yX3_checkArguments cX3_checkArguments 1 none, Cond.classLink RX3 141 "java/lang/IllegalArgumentException", Cond.initialized "java/lang/IllegalArgumentException", Cond.methodLink RX3 135 yX0_length, Cond.instanceMethod yX0_length, Cond.selects RX0 yX0_length yX0_length, Cond.initialized RX0, Cond.code yX0_length cX0_length 2 (some .int), Cond.fieldLink RX0 15 "PictureProof$Histories" "lengths" "[I"]
def wsL_doubt_r2 : List Cond := [Cond.methodLink RX3 138 yX0_changes, Cond.instanceMethod yX0_changes, Cond.selects RX0 yX0_changes yX0_changes, Cond.code yX0_changes cX0_changes 4 (some .int), Cond.fieldLink RX0 9 "PictureProof$Histories" "results" "[I", Cond.methodLink RX0 28 yJ6_bitCount_0f7a4, Cond.static yJ6_bitCount_0f7a4, Cond.initialized RJ6, Cond.code yJ6_bitCount_0f7a4 cJ6_bitCount_0f7a4 1 (some .int), Cond.constant RJ6 265 (1431655765), Cond.constant RJ6 266 (858993459), Cond.constant RJ6 267 (252645135)]
def wsL_doubt : List Cond := .codeWith yL_doubt cL_doubt 4 (some .int) [(0, 9, 12, 13)] :: ((wsL_doubt_r1 ++ wsL_doubt_r2) ++ wsX30 ++ wsX00 ++ (vx_atS RX3 145 "java/lang/IllegalArgumentException" ["java/lang/RuntimeException", "java/lang/Exception"]).filter goodWord)
def wsL_law0_r1 : List Cond := [Cond.classLink RL 8 RX3, Cond.instantiable RX3 4, Cond.initialized RX3, Cond.classLink RL 65 RX4, Cond.instantiable RX4 10, Cond.initialized RX4, Cond.arrayClass .long, Cond.methodLink RL 64 yX3_init, Cond.instanceMethod yX3_init, Cond.code yX3_init cX3_init 1 none, Cond.methodLink RX3 3 objectInit, Cond.instanceMethod objectInit, Cond.code objectInit ⟨#[0xb1]⟩ 1 none, Cond.classLink RX3 9 RX1, Cond.instantiable RX1 2, Cond.initialized RX1, Cond.fieldLink RX3 12 "PictureProof" "pictures" "LPictureProof$Pictures;", Cond.classLink RX3 16 RX2, Cond.instantiable RX2 4, Cond.initialized RX2, Cond.fieldLink RX3 19 "PictureProof" "parts" "LPictureProof$Rectangles;", Cond.fieldLink RX3 23 "PictureProof" "masks" "LPictureProof$Rectangles;", Cond.classLink RX3 26 RX0, Cond.instantiable RX0 2]
def wsL_law0_r2 : List Cond := [Cond.initialized RX0, Cond.fieldLink RX3 29 "PictureProof" "histories" "LPictureProof$Histories;", Cond.methodLink RX3 11 yX1_init, Cond.instanceMethod yX1_init, Cond.code yX1_init cX1_init 2 none, Cond.methodLink RX1 3 objectInit, Cond.arrayClass .int, Cond.fieldLink RX1 9 "PictureProof$Pictures" "shades" "[I", Cond.arrayClass .boolean, Cond.fieldLink RX1 15 "PictureProof$Pictures" "held" "[Z", Cond.instanceMethod yX2_init, Cond.code yX2_init cX2_init 1 none, Cond.methodLink RX2 3 objectInit, Cond.fieldLink RX2 9 "PictureProof$Rectangles" "lefts" "[I", Cond.fieldLink RX2 15 "PictureProof$Rectangles" "tops" "[I", Cond.fieldLink RX2 18 "PictureProof$Rectangles" "rights" "[I", Cond.fieldLink RX2 21 "PictureProof$Rectangles" "bottoms" "[I", Cond.instanceMethod yX0_init, Cond.code yX0_init cX0_init 1 none, Cond.methodLink RX0 3 objectInit, Cond.fieldLink RX0 9 "PictureProof$Histories" "results" "[I", Cond.fieldLink RX0 15 "PictureProof$Histories" "lengths" "[I", Cond.methodLink RL 67 yX4_init, Cond.instanceMethod yX4_init]
def wsL_law0_r3 : List Cond := [Cond.code yX4_init cX4_init 1 none, Cond.methodLink RX4 1 objectInit, Cond.fieldLink RX4 7 "PictureProofModel" "pictures" "[I", Cond.fieldLink RX4 13 "PictureProofModel" "kept" "[I", Cond.fieldLink RX4 16 "PictureProofModel" "isKept" "[Z", Cond.fieldLink RX4 20 "PictureProofModel" "parts" "[I", Cond.fieldLink RX4 23 "PictureProofModel" "masks" "[I", Cond.fieldLink RX4 26 "PictureProofModel" "results" "[I", Cond.fieldLink RX4 29 "PictureProofModel" "many" "[I", Cond.methodLink RL 68 yL_paint, Cond.static yL_paint, Cond.initialized RL, Cond.codeWith yL_paint cL_paint 9 (some .int) [(0, 18, 21, 13)], Cond.classLink RL 13 "java/lang/IllegalArgumentException", Cond.methodLink RL 7 yX3_paint, Cond.instanceMethod yX3_paint, Cond.selects RX3 yX3_paint yX3_paint, Cond.code yX3_paint cX3_paint 10 (some .int), Cond.methodLink RX3 33 yX3_isTest, Cond.static yX3_isTest, Cond.code yX3_isTest cX3_isTest 1 (some .boolean), Cond.methodLink RX3 70 yX3_isWithin, Cond.static yX3_isWithin, Cond.code yX3_isWithin cX3_isWithin 3 (some .boolean)]
def wsL_law0_r4 : List Cond := [Cond.methodLink RX3 37 yX3_isRectangle, Cond.static yX3_isRectangle, Cond.code yX3_isRectangle cX3_isRectangle 4 (some .boolean), Cond.methodLink RX3 55 yX3_isCell, Cond.static yX3_isCell, Cond.code yX3_isCell cX3_isCell 2 (some .boolean), Cond.methodLink RX3 41 yX3_isShade, Cond.static yX3_isShade, Cond.code yX3_isShade cX3_isShade 1 (some .boolean), Cond.methodLink RX3 44 yX3_checkArguments, Cond.static yX3_checkArguments, Cond.code yX3_checkArguments cX3_checkArguments 1 none, Cond.classLink RX3 141 "java/lang/IllegalArgumentException", Cond.initialized "java/lang/IllegalArgumentException", Cond.methodLink RX3 48 yX3_pictureSlot, Cond.static yX3_pictureSlot, Cond.code yX3_pictureSlot cX3_pictureSlot 1 (some .int), Cond.methodLink RX3 52 yX1_put, Cond.instanceMethod yX1_put, Cond.selects RX1 yX1_put yX1_put, Cond.code yX1_put cX1_put 7 (some .boolean), Cond.methodLink RX1 23 yX1_isSlot, Cond.static yX1_isSlot, Cond.code yX1_isSlot cX1_isSlot 1 (some .boolean)]
def wsL_law0_r5 : List Cond := [Cond.methodLink RX1 31 yX1_place, Cond.static yX1_place, Cond.code yX1_place cX1_place 3 (some .int), Cond.methodLink RL 73 yX4_paint, Cond.instanceMethod yX4_paint, Cond.selects RX4 yX4_paint yX4_paint, Cond.code yX4_paint cX4_paint 10 (some .int), Cond.methodLink RX4 44 yX4_isTest, Cond.static yX4_isTest, Cond.code yX4_isTest cX4_isTest 1 (some .boolean), Cond.methodLink RX4 36 yX4_in, Cond.static yX4_in, Cond.code yX4_in cX4_in 3 (some .boolean), Cond.methodLink RX4 48 yX4_isBox, Cond.static yX4_isBox, Cond.code yX4_isBox cX4_isBox 4 (some .boolean), Cond.methodLink RX4 40 yX4_isCell, Cond.static yX4_isCell, Cond.code yX4_isCell cX4_isCell 2 (some .boolean), Cond.methodLink RX4 52 yX4_goesWell, Cond.instanceMethod yX4_goesWell, Cond.selects RX4 yX4_goesWell yX4_goesWell, Cond.code yX4_goesWell cX4_goesWell 2 (some .boolean), Cond.fieldLink RX4 32 "PictureProofModel" "thrown" "I"]
def wsL_law0_r6 : List Cond := [Cond.methodLink RL 74 yX4_thrown, Cond.instanceMethod yX4_thrown, Cond.selects RX4 yX4_thrown yX4_thrown, Cond.code yX4_thrown cX4_thrown 1 (some .int), Cond.methodLink RL 78 yL_shade, Cond.static yL_shade, Cond.codeWith yL_shade cL_shade 6 (some .int) [(0, 12, 15, 13)], Cond.methodLink RL 15 yX3_shade, Cond.instanceMethod yX3_shade, Cond.selects RX3 yX3_shade yX3_shade, Cond.code yX3_shade cX3_shade 4 (some .int), Cond.methodLink RX3 59 yX1_at, Cond.instanceMethod yX1_at, Cond.selects RX1 yX1_at yX1_at, Cond.code yX1_at cX1_at 4 (some .int), Cond.methodLink RL 81 yX4_shade, Cond.instanceMethod yX4_shade, Cond.selects RX4 yX4_shade yX4_shade, Cond.code yX4_shade cX4_shade 4 (some .int), Cond.methodLink RL 82 yL_setPart, Cond.static yL_setPart, Cond.codeWith yL_setPart cL_setPart 7 (some .int) [(0, 11, 14, 13)], Cond.methodLink RL 19 yX3_setPart, Cond.instanceMethod yX3_setPart]
def wsL_law0_r7 : List Cond := [Cond.selects RX3 yX3_setPart yX3_setPart, Cond.code yX3_setPart cX3_setPart 6 none, Cond.methodLink RX3 63 yX2_put, Cond.instanceMethod yX2_put, Cond.selects RX2 yX2_put yX2_put, Cond.code yX2_put cX2_put 6 none, Cond.methodLink RX3 66 yX2_drop, Cond.instanceMethod yX2_drop, Cond.selects RX2 yX2_drop yX2_drop, Cond.code yX2_drop cX2_drop 2 none, Cond.methodLink RX2 28 yX2_put, Cond.methodLink RL 85 yX4_setPart, Cond.instanceMethod yX4_setPart, Cond.selects RX4 yX4_setPart yX4_setPart, Cond.code yX4_setPart cX4_setPart 6 none, Cond.methodLink RL 86 yL_setMask, Cond.static yL_setMask, Cond.codeWith yL_setMask cL_setMask 7 (some .int) [(0, 11, 14, 13), (0, 11, 18, 26)], Cond.classLink RL 26 "java/lang/IllegalStateException", Cond.methodLink RL 23 yX3_setMask, Cond.instanceMethod yX3_setMask, Cond.selects RX3 yX3_setMask yX3_setMask, Cond.code yX3_setMask cX3_setMask 6 none, Cond.classLink RX3 77 "java/lang/IllegalStateException"]
def wsL_law0_r8 : List Cond := [Cond.initialized "java/lang/IllegalStateException", Cond.methodLink RX3 74 yX2_has, Cond.instanceMethod yX2_has, Cond.selects RX2 yX2_has yX2_has, Cond.code yX2_has cX2_has 2 (some .boolean), Cond.methodLink RL 88 yX4_setMask, Cond.instanceMethod yX4_setMask, Cond.selects RX4 yX4_setMask yX4_setMask, Cond.code yX4_setMask cX4_setMask 7 none, Cond.methodLink RL 89 yL_approve, Cond.static yL_approve, Cond.codeWith yL_approve cL_approve 5 (some .int) [(0, 17, 20, 13)], Cond.methodLink RL 28 yX3_approve, Cond.instanceMethod yX3_approve, Cond.selects RX3 yX3_approve yX3_approve, Cond.code yX3_approve cX3_approve 5 (some .boolean), Cond.methodLink RX3 84 yX3_isBranch, Cond.static yX3_isBranch, Cond.code yX3_isBranch cX3_isBranch 1 (some .boolean), Cond.methodLink RX3 87 yX3_approvedSlot, Cond.static yX3_approvedSlot, Cond.code yX3_approvedSlot cX3_approvedSlot 2 (some .int), Cond.methodLink RX3 91 yX1_has, Cond.instanceMethod yX1_has]
def wsL_law0_r9 : List Cond := [Cond.selects RX1 yX1_has yX1_has, Cond.code yX1_has cX1_has 2 (some .boolean), Cond.methodLink RX3 92 yX1_copy, Cond.instanceMethod yX1_copy, Cond.selects RX1 yX1_copy yX1_copy, Cond.code yX1_copy cX1_copy 3 none, Cond.methodLink RX1 35 arraycopyName, Cond.native arraycopyName, Cond.static arraycopyName, Cond.initialized "java/lang/System", Cond.methodLink RL 92 yX4_approve, Cond.instanceMethod yX4_approve, Cond.selects RX4 yX4_approve yX4_approve, Cond.code yX4_approve cX4_approve 6 (some .boolean), Cond.methodLink RX4 55 yX4_placeOf, Cond.static yX4_placeOf, Cond.code yX4_placeOf cX4_placeOf 2 (some .int), Cond.methodLink RL 93 yL_begin, Cond.static yL_begin, Cond.codeWith yL_begin cL_begin 4 (some .int) [(0, 9, 12, 13)], Cond.methodLink RL 32 yX3_begin, Cond.instanceMethod yX3_begin, Cond.selects RX3 yX3_begin yX3_begin, Cond.code yX3_begin cX3_begin 4 (some .int)]
def wsL_law0_r10 : List Cond := [Cond.methodLink RX3 96 yX3_isSideBranch, Cond.static yX3_isSideBranch, Cond.code yX3_isSideBranch cX3_isSideBranch 1 (some .boolean), Cond.methodLink RX3 99 yX3_followMain, Cond.instanceMethod yX3_followMain, Cond.selects RX3 yX3_followMain yX3_followMain, Cond.code yX3_followMain cX3_followMain 3 none, Cond.methodLink RX3 148 yX3_baseSlot, Cond.static yX3_baseSlot, Cond.code yX3_baseSlot cX3_baseSlot 2 (some .int), Cond.methodLink RL 96 yX4_begin, Cond.instanceMethod yX4_begin, Cond.selects RX4 yX4_begin yX4_begin, Cond.code yX4_begin cX4_begin 4 (some .int), Cond.methodLink RX4 59 yX4_copy, Cond.instanceMethod yX4_copy, Cond.selects RX4 yX4_copy yX4_copy, Cond.code yX4_copy cX4_copy 4 none, Cond.methodLink RX4 63 yX4_baseOf, Cond.static yX4_baseOf, Cond.code yX4_baseOf cX4_baseOf 2 (some .int), Cond.methodLink RL 97 yL_join, Cond.static yL_join, Cond.codeWith yL_join cL_join 4 (some .int) [(0, 9, 12, 13)]]
def wsL_law0_r11 : List Cond := [Cond.methodLink RL 36 yX3_join, Cond.instanceMethod yX3_join, Cond.selects RX3 yX3_join yX3_join, Cond.code yX3_join cX3_join 4 (some .int), Cond.methodLink RX3 102 yX3_clashes, Cond.instanceMethod yX3_clashes, Cond.selects RX3 yX3_clashes yX3_clashes, Cond.code yX3_clashes cX3_clashes 6 (some .boolean), Cond.methodLink RX3 151 yX1_same, Cond.instanceMethod yX1_same, Cond.selects RX1 yX1_same yX1_same, Cond.code yX1_same cX1_same 4 (some .boolean), Cond.methodLink RX1 41 yX1_has, Cond.methodLink RX3 105 yX3_takeOver, Cond.instanceMethod yX3_takeOver, Cond.selects RX3 yX3_takeOver yX3_takeOver, Cond.code yX3_takeOver cX3_takeOver 6 none, Cond.methodLink RL 99 yX4_join, Cond.instanceMethod yX4_join, Cond.selects RX4 yX4_join yX4_join, Cond.code yX4_join cX4_join 9 (some .int), Cond.methodLink RX4 66 yX4_areSame, Cond.instanceMethod yX4_areSame, Cond.selects RX4 yX4_areSame yX4_areSame]
def wsL_law0_r12 : List Cond := [Cond.code yX4_areSame cX4_areSame 5 (some .boolean), Cond.methodLink RL 100 yL_isApproved, Cond.static yL_isApproved, Cond.codeWith yL_isApproved cL_isApproved 5 (some .int) [(0, 17, 20, 13)], Cond.methodLink RL 39 yX3_isApproved, Cond.instanceMethod yX3_isApproved, Cond.selects RX3 yX3_isApproved yX3_isApproved, Cond.code yX3_isApproved cX3_isApproved 3 (some .boolean), Cond.methodLink RL 102 yX4_isApproved, Cond.instanceMethod yX4_isApproved, Cond.selects RX4 yX4_isApproved yX4_isApproved, Cond.code yX4_isApproved cX4_isApproved 3 (some .boolean), Cond.methodLink RL 103 yL_differences, Cond.static yL_differences, Cond.codeWith yL_differences cL_differences 6 (some .int) [(0, 12, 15, 13), (0, 12, 19, 26)], Cond.methodLink RL 42 yX3_differences, Cond.instanceMethod yX3_differences, Cond.selects RX3 yX3_differences yX3_differences, Cond.code yX3_differences cX3_differences 8 (some .int), Cond.methodLink RX3 108 yX3_checkComparison, Cond.instanceMethod yX3_checkComparison, Cond.selects RX3 yX3_checkComparison yX3_checkComparison, Cond.code yX3_checkComparison cX3_checkComparison 4 none, Cond.methodLink RX3 112 yX3_findMove]
def wsL_law0_r13 : List Cond := [Cond.instanceMethod yX3_findMove, Cond.selects RX3 yX3_findMove yX3_findMove, Cond.code yX3_findMove cX3_findMove 9 (some .int), Cond.methodLink RX3 163 Lib.Math.abs.name, Cond.static Lib.Math.abs.name, Cond.initialized "java/lang/Math", Cond.code Lib.Math.abs.name Lib.Math.abs.code 1 (some .int), Cond.methodLink RX3 189 yX3_fits, Cond.instanceMethod yX3_fits, Cond.selects RX3 yX3_fits yX3_fits, Cond.code yX3_fits cX3_fits 11 (some .boolean), Cond.methodLink RX3 195 yX2_bottom, Cond.instanceMethod yX2_bottom, Cond.selects RX2 yX2_bottom yX2_bottom, Cond.code yX2_bottom cX2_bottom 2 (some .int), Cond.methodLink RX3 198 yX2_right, Cond.instanceMethod yX2_right, Cond.selects RX2 yX2_right yX2_right, Cond.code yX2_right cX2_right 2 (some .int), Cond.methodLink RX3 186 yX2_top, Cond.instanceMethod yX2_top, Cond.selects RX2 yX2_top yX2_top, Cond.code yX2_top cX2_top 2 (some .int), Cond.methodLink RX3 183 yX2_left]
def wsL_law0_r14 : List Cond := [Cond.instanceMethod yX2_left, Cond.selects RX2 yX2_left yX2_left, Cond.code yX2_left cX2_left 2 (some .int), Cond.methodLink RX3 154 yX3_isAlike, Cond.static yX3_isAlike, Cond.code yX3_isAlike cX3_isAlike 3 (some .boolean), Cond.methodLink RX3 192 yX3_moveBy, Cond.static yX3_moveBy, Cond.code yX3_moveBy cX3_moveBy 2 (some .int), Cond.methodLink RX3 115 yX3_differs, Cond.instanceMethod yX3_differs, Cond.selects RX3 yX3_differs yX3_differs, Cond.code yX3_differs cX3_differs 10 (some .boolean), Cond.methodLink RX3 122 yX3_columnOf, Cond.static yX3_columnOf, Cond.code yX3_columnOf cX3_columnOf 1 (some .int), Cond.methodLink RX3 125 yX3_rowOf, Cond.static yX3_rowOf, Cond.code yX3_rowOf cX3_rowOf 1 (some .int), Cond.methodLink RX3 157 yX3_isMoved, Cond.instanceMethod yX3_isMoved, Cond.selects RX3 yX3_isMoved yX3_isMoved, Cond.code yX3_isMoved cX3_isMoved 5 (some .boolean), Cond.methodLink RX3 174 yX2_holds]
def wsL_law0_r15 : List Cond := [Cond.instanceMethod yX2_holds, Cond.selects RX2 yX2_holds yX2_holds, Cond.code yX2_holds cX2_holds 4 (some .boolean), Cond.methodLink RX3 177 yX3_columnsOf, Cond.static yX3_columnsOf, Cond.code yX3_columnsOf cX3_columnsOf 1 (some .int), Cond.methodLink RX3 180 yX3_rowsOf, Cond.static yX3_rowsOf, Cond.code yX3_rowsOf cX3_rowsOf 1 (some .int), Cond.methodLink RX3 160 yX3_isMasked, Cond.instanceMethod yX3_isMasked, Cond.selects RX3 yX3_isMasked yX3_isMasked, Cond.code yX3_isMasked cX3_isMasked 7 (some .boolean), Cond.methodLink RX3 128 yX3_isSoft, Cond.instanceMethod yX3_isSoft, Cond.selects RX3 yX3_isSoft yX3_isSoft, Cond.code yX3_isSoft cX3_isSoft 13 (some .boolean), Cond.methodLink RX3 168 Lib.Math.min.name, Cond.static Lib.Math.min.name, Cond.code Lib.Math.min.name Lib.Math.min.code 2 (some .int), Cond.methodLink RX3 171 Lib.Math.max.name, Cond.static Lib.Math.max.name, Cond.code Lib.Math.max.name Lib.Math.max.code 2 (some .int), Cond.methodLink RL 105 yX4_differences]
def wsL_law0_r16 : List Cond := [Cond.instanceMethod yX4_differences, Cond.selects RX4 yX4_differences yX4_differences, Cond.code yX4_differences cX4_differences 7 (some .int), Cond.methodLink RX4 102 yX4_canCompare, Cond.instanceMethod yX4_canCompare, Cond.selects RX4 yX4_canCompare yX4_canCompare, Cond.code yX4_canCompare cX4_canCompare 5 (some .boolean), Cond.methodLink RX4 95 yX4_findMove, Cond.instanceMethod yX4_findMove, Cond.selects RX4 yX4_findMove yX4_findMove, Cond.code yX4_findMove cX4_findMove 8 none, Cond.fieldLink RX4 72 "PictureProofModel" "byColumns" "I", Cond.fieldLink RX4 75 "PictureProofModel" "byRows" "I", Cond.methodLink RX4 78 yX4_fits, Cond.instanceMethod yX4_fits, Cond.selects RX4 yX4_fits yX4_fits, Cond.code yX4_fits cX4_fits 13 (some .boolean), Cond.methodLink RX4 69 yX4_areAlike, Cond.instanceMethod yX4_areAlike, Cond.selects RX4 yX4_areAlike yX4_areAlike, Cond.code yX4_areAlike cX4_areAlike 4 (some .boolean), Cond.methodLink RX4 82 yX4_size, Cond.static yX4_size, Cond.code yX4_size cX4_size 1 (some .int)]
def wsL_law0_r17 : List Cond := [Cond.methodLink RX4 99 yX4_differs, Cond.instanceMethod yX4_differs, Cond.selects RX4 yX4_differs yX4_differs, Cond.code yX4_differs cX4_differs 6 (some .boolean), Cond.methodLink RX4 89 yX4_isSoft, Cond.instanceMethod yX4_isSoft, Cond.selects RX4 yX4_isSoft yX4_isSoft, Cond.code yX4_isSoft cX4_isSoft 11 (some .boolean), Cond.methodLink RX4 92 yX4_isLeftOut, Cond.instanceMethod yX4_isLeftOut, Cond.selects RX4 yX4_isLeftOut yX4_isLeftOut, Cond.code yX4_isLeftOut cX4_isLeftOut 11 (some .boolean), Cond.methodLink RX4 86 yX4_isWithin, Cond.static yX4_isWithin, Cond.code yX4_isWithin cX4_isWithin 5 (some .boolean), Cond.methodLink RL 106 yL_firstDifference, Cond.static yL_firstDifference, Cond.codeWith yL_firstDifference cL_firstDifference 6 (some .int) [(0, 12, 15, 13), (0, 12, 19, 26)], Cond.methodLink RL 45 yX3_firstDifference, Cond.instanceMethod yX3_firstDifference, Cond.selects RX3 yX3_firstDifference yX3_firstDifference, Cond.code yX3_firstDifference cX3_firstDifference 4 (some .int), Cond.methodLink RX3 119 yX3_findDifference, Cond.instanceMethod yX3_findDifference]
def wsL_law0_r18 : List Cond := [Cond.selects RX3 yX3_findDifference yX3_findDifference, Cond.code yX3_findDifference cX3_findDifference 6 (some .int), Cond.methodLink RL 108 yX4_firstDifference, Cond.instanceMethod yX4_firstDifference, Cond.selects RX4 yX4_firstDifference yX4_firstDifference, Cond.code yX4_firstDifference cX4_firstDifference 4 (some .int), Cond.methodLink RX4 105 yX4_first, Cond.instanceMethod yX4_first, Cond.selects RX4 yX4_first yX4_first, Cond.code yX4_first cX4_first 5 (some .int), Cond.methodLink RL 109 yL_move, Cond.static yL_move, Cond.codeWith yL_move cL_move 6 (some .int) [(0, 12, 15, 13), (0, 12, 19, 26)], Cond.methodLink RL 48 yX3_move, Cond.instanceMethod yX3_move, Cond.selects RX3 yX3_move yX3_move, Cond.code yX3_move cX3_move 4 (some .int), Cond.methodLink RL 111 yX4_move, Cond.instanceMethod yX4_move, Cond.selects RX4 yX4_move yX4_move, Cond.code yX4_move cX4_move 4 (some .int), Cond.methodLink RL 112 yL_soft, Cond.static yL_soft, Cond.codeWith yL_soft cL_soft 6 (some .int) [(0, 12, 15, 13), (0, 12, 19, 26)]]
def wsL_law0_r19 : List Cond := [Cond.methodLink RL 51 yX3_soft, Cond.instanceMethod yX3_soft, Cond.selects RX3 yX3_soft yX3_soft, Cond.code yX3_soft cX3_soft 7 (some .int), Cond.methodLink RL 114 yX4_soft, Cond.instanceMethod yX4_soft, Cond.selects RX4 yX4_soft yX4_soft, Cond.code yX4_soft cX4_soft 7 (some .int), Cond.methodLink RL 115 yL_run, Cond.static yL_run, Cond.codeWith yL_run cL_run 6 (some .int) [(0, 19, 22, 13), (0, 19, 26, 26)], Cond.methodLink RL 54 yX3_run, Cond.instanceMethod yX3_run, Cond.selects RX3 yX3_run yX3_run, Cond.code yX3_run cX3_run 5 (some .boolean), Cond.methodLink RX3 131 yX0_add, Cond.instanceMethod yX0_add, Cond.selects RX0 yX0_add yX0_add, Cond.code yX0_add cX0_add 3 none, Cond.methodLink RX0 22 Lib.Math.min.name, Cond.methodLink RL 117 yX4_run, Cond.instanceMethod yX4_run, Cond.selects RX4 yX4_run yX4_run, Cond.code yX4_run cX4_run 6 (some .boolean)]
def wsL_law0_r20 : List Cond := [Cond.methodLink RL 118 yL_runs, Cond.static yL_runs, Cond.codeWith yL_runs cL_runs 4 (some .int) [(0, 9, 12, 13)], Cond.methodLink RL 58 yX3_runs, Cond.instanceMethod yX3_runs, Cond.selects RX3 yX3_runs yX3_runs, Cond.code yX3_runs cX3_runs 2 (some .int), Cond.methodLink RX3 135 yX0_length, Cond.instanceMethod yX0_length, Cond.selects RX0 yX0_length yX0_length, Cond.code yX0_length cX0_length 2 (some .int), Cond.methodLink RL 120 yX4_runs, Cond.instanceMethod yX4_runs, Cond.selects RX4 yX4_runs yX4_runs, Cond.code yX4_runs cX4_runs 2 (some .int), Cond.methodLink RL 121 yL_doubt, Cond.static yL_doubt, Cond.codeWith yL_doubt cL_doubt 4 (some .int) [(0, 9, 12, 13)], Cond.methodLink RL 61 yX3_doubt, Cond.instanceMethod yX3_doubt, Cond.selects RX3 yX3_doubt yX3_doubt, Cond.code yX3_doubt cX3_doubt 3 (some .int), Cond.methodLink RX3 138 yX0_changes, Cond.instanceMethod yX0_changes]
def wsL_law0_r21 : List Cond := [Cond.selects RX0 yX0_changes yX0_changes, Cond.code yX0_changes cX0_changes 4 (some .int), Cond.methodLink RX0 28 yJ6_bitCount_0f7a4, Cond.static yJ6_bitCount_0f7a4, Cond.initialized RJ6, Cond.code yJ6_bitCount_0f7a4 cJ6_bitCount_0f7a4 1 (some .int), Cond.constant RJ6 265 (1431655765), Cond.constant RJ6 266 (858993459), Cond.constant RJ6 267 (252645135), Cond.methodLink RL 123 yX4_doubt, Cond.instanceMethod yX4_doubt, Cond.selects RX4 yX4_doubt yX4_doubt, Cond.code yX4_doubt cX4_doubt 4 (some .int)]
def wsL_law0 : List Cond := (wsL_law0_r1 ++ (wsL_law0_r2 ++ (wsL_law0_r3 ++ (wsL_law0_r4 ++ (wsL_law0_r5 ++ (wsL_law0_r6 ++ (wsL_law0_r7 ++ (wsL_law0_r8 ++ (wsL_law0_r9 ++ (wsL_law0_r10 ++ (wsL_law0_r11 ++ (wsL_law0_r12 ++ (wsL_law0_r13 ++ (wsL_law0_r14 ++ (wsL_law0_r15 ++ (wsL_law0_r16 ++ (wsL_law0_r17 ++ (wsL_law0_r18 ++ (wsL_law0_r19 ++ (wsL_law0_r20 ++ wsL_law0_r21)))))))))))))))))))) ++ wsX30 ++ wsX40 ++ wsX10 ++ wsX20 ++ wsX00 ++ ([] : List Cond)
def wsL_law : List Cond := wsL_law0 ++ (vx_atS RX3 145 "java/lang/IllegalArgumentException" ["java/lang/RuntimeException", "java/lang/Exception"]).filter goodWord ++ (vx_atS RX3 81 "java/lang/IllegalStateException" ["java/lang/RuntimeException", "java/lang/Exception"]).filter goodWord
abbrev vwCl : List vw_C := [(RX0, TX0, 2), (RX1, TX1, 2), (RX2, TX2, 4), (RX3, TX3, 4), (RX4, TX4, 10)]
end
section
set_option maxRecDepth 20000 in
theorem wsL_law0_r1_in : ∀ w ∈ wsL_law0_r1, w ∈ lw_tbl := List.forall_mem_cons.mpr ⟨List.mem_of_getElem? (i := 37) (by decide +kernel), List.forall_mem_cons.mpr ⟨List.mem_of_getElem? (i := 38) (by decide +kernel), List.forall_mem_cons.mpr ⟨List.mem_of_getElem? (i := 24) (by decide +kernel), List.forall_mem_cons.mpr ⟨List.mem_of_getElem? (i := 486) (by decide +kernel), List.forall_mem_cons.mpr ⟨List.mem_of_getElem? (i := 487) (by decide +kernel), List.forall_mem_cons.mpr ⟨List.mem_of_getElem? (i := 28) (by decide +kernel), List.forall_mem_cons.mpr ⟨List.mem_of_getElem? (i := 655) (by decide +kernel), List.forall_mem_cons.mpr ⟨List.mem_of_getElem? (i := 39) (by decide +kernel), List.forall_mem_cons.mpr ⟨List.mem_of_getElem? (i := 40) (by decide +kernel), List.forall_mem_cons.mpr ⟨List.mem_of_getElem? (i := 41) rfl, List.forall_mem_cons.mpr ⟨List.mem_of_getElem? (i := 42) (by decide +kernel), List.forall_mem_cons.mpr ⟨List.mem_of_getElem? (i := 43) (by decide +kernel), List.forall_mem_cons.mpr ⟨List.mem_of_getElem? (i := 44) rfl, List.forall_mem_cons.mpr ⟨List.mem_of_getElem? (i := 45) (by decide +kernel), List.forall_mem_cons.mpr ⟨List.mem_of_getElem? (i := 46) (by decide +kernel), List.forall_mem_cons.mpr ⟨List.mem_of_getElem? (i := 25) (by decide +kernel), List.forall_mem_cons.mpr ⟨List.mem_of_getElem? (i := 92) (by decide +kernel), List.forall_mem_cons.mpr ⟨List.mem_of_getElem? (i := 60) (by decide +kernel), List.forall_mem_cons.mpr ⟨List.mem_of_getElem? (i := 61) (by decide +kernel), List.forall_mem_cons.mpr ⟨List.mem_of_getElem? (i := 26) (by decide +kernel), List.forall_mem_cons.mpr ⟨List.mem_of_getElem? (i := 93) (by decide +kernel), List.forall_mem_cons.mpr ⟨List.mem_of_getElem? (i := 94) (by decide +kernel), List.forall_mem_cons.mpr ⟨List.mem_of_getElem? (i := 79) (by decide +kernel), List.forall_mem_cons.mpr ⟨List.mem_of_getElem? (i := 80) (by decide +kernel), fun _ h => absurd h List.not_mem_nil⟩⟩⟩⟩⟩⟩⟩⟩⟩⟩⟩⟩⟩⟩⟩⟩⟩⟩⟩⟩⟩⟩⟩⟩
set_option maxRecDepth 20000 in
theorem wsL_law0_r2_in : ∀ w ∈ wsL_law0_r2, w ∈ lw_tbl := List.forall_mem_cons.mpr ⟨List.mem_of_getElem? (i := 27) (by decide +kernel), List.forall_mem_cons.mpr ⟨List.mem_of_getElem? (i := 95) (by decide +kernel), List.forall_mem_cons.mpr ⟨List.mem_of_getElem? (i := 47) (by decide +kernel), List.forall_mem_cons.mpr ⟨List.mem_of_getElem? (i := 48) (by decide +kernel), List.forall_mem_cons.mpr ⟨List.mem_of_getElem? (i := 49) rfl, List.forall_mem_cons.mpr ⟨List.mem_of_getElem? (i := 50) (by decide +kernel), List.forall_mem_cons.mpr ⟨List.mem_of_getElem? (i := 58) (by decide +kernel), List.forall_mem_cons.mpr ⟨List.mem_of_getElem? (i := 51) (by decide +kernel), List.forall_mem_cons.mpr ⟨List.mem_of_getElem? (i := 59) (by decide +kernel), List.forall_mem_cons.mpr ⟨List.mem_of_getElem? (i := 52) (by decide +kernel), List.forall_mem_cons.mpr ⟨List.mem_of_getElem? (i := 63) (by decide +kernel), List.forall_mem_cons.mpr ⟨List.mem_of_getElem? (i := 64) rfl, List.forall_mem_cons.mpr ⟨List.mem_of_getElem? (i := 65) (by decide +kernel), List.forall_mem_cons.mpr ⟨List.mem_of_getElem? (i := 66) (by decide +kernel), List.forall_mem_cons.mpr ⟨List.mem_of_getElem? (i := 67) (by decide +kernel), List.forall_mem_cons.mpr ⟨List.mem_of_getElem? (i := 68) (by decide +kernel), List.forall_mem_cons.mpr ⟨List.mem_of_getElem? (i := 69) (by decide +kernel), List.forall_mem_cons.mpr ⟨List.mem_of_getElem? (i := 82) (by decide +kernel), List.forall_mem_cons.mpr ⟨List.mem_of_getElem? (i := 83) rfl, List.forall_mem_cons.mpr ⟨List.mem_of_getElem? (i := 84) (by decide +kernel), List.forall_mem_cons.mpr ⟨List.mem_of_getElem? (i := 85) (by decide +kernel), List.forall_mem_cons.mpr ⟨List.mem_of_getElem? (i := 86) (by decide +kernel), List.forall_mem_cons.mpr ⟨List.mem_of_getElem? (i := 488) (by decide +kernel), List.forall_mem_cons.mpr ⟨List.mem_of_getElem? (i := 489) (by decide +kernel), fun _ h => absurd h List.not_mem_nil⟩⟩⟩⟩⟩⟩⟩⟩⟩⟩⟩⟩⟩⟩⟩⟩⟩⟩⟩⟩⟩⟩⟩⟩
set_option maxRecDepth 20000 in
theorem wsL_law0_r3_in : ∀ w ∈ wsL_law0_r3, w ∈ lw_tbl := List.forall_mem_cons.mpr ⟨List.mem_of_getElem? (i := 490) rfl, List.forall_mem_cons.mpr ⟨List.mem_of_getElem? (i := 491) (by decide +kernel), List.forall_mem_cons.mpr ⟨List.mem_of_getElem? (i := 493) (by decide +kernel), List.forall_mem_cons.mpr ⟨List.mem_of_getElem? (i := 494) (by decide +kernel), List.forall_mem_cons.mpr ⟨List.mem_of_getElem? (i := 495) (by decide +kernel), List.forall_mem_cons.mpr ⟨List.mem_of_getElem? (i := 496) (by decide +kernel), List.forall_mem_cons.mpr ⟨List.mem_of_getElem? (i := 497) (by decide +kernel), List.forall_mem_cons.mpr ⟨List.mem_of_getElem? (i := 498) (by decide +kernel), List.forall_mem_cons.mpr ⟨List.mem_of_getElem? (i := 499) (by decide +kernel), List.forall_mem_cons.mpr ⟨List.mem_of_getElem? (i := 105) (by decide +kernel), List.forall_mem_cons.mpr ⟨List.mem_of_getElem? (i := 106) (by decide +kernel), List.forall_mem_cons.mpr ⟨List.mem_of_getElem? (i := 23) (by decide +kernel), List.forall_mem_cons.mpr ⟨List.mem_of_getElem? (i := 107) rfl, List.forall_mem_cons.mpr ⟨List.mem_of_getElem? (i := 108) (by decide +kernel), List.forall_mem_cons.mpr ⟨List.mem_of_getElem? (i := 109) (by decide +kernel), List.forall_mem_cons.mpr ⟨List.mem_of_getElem? (i := 110) (by decide +kernel), List.forall_mem_cons.mpr ⟨List.mem_of_getElem? (i := 111) (by decide +kernel), List.forall_mem_cons.mpr ⟨List.mem_of_getElem? (i := 112) rfl, List.forall_mem_cons.mpr ⟨List.mem_of_getElem? (i := 113) (by decide +kernel), List.forall_mem_cons.mpr ⟨List.mem_of_getElem? (i := 114) (by decide +kernel), List.forall_mem_cons.mpr ⟨List.mem_of_getElem? (i := 115) rfl, List.forall_mem_cons.mpr ⟨List.mem_of_getElem? (i := 116) (by decide +kernel), List.forall_mem_cons.mpr ⟨List.mem_of_getElem? (i := 117) (by decide +kernel), List.forall_mem_cons.mpr ⟨List.mem_of_getElem? (i := 118) rfl, fun _ h => absurd h List.not_mem_nil⟩⟩⟩⟩⟩⟩⟩⟩⟩⟩⟩⟩⟩⟩⟩⟩⟩⟩⟩⟩⟩⟩⟩⟩
set_option maxRecDepth 20000 in
theorem wsL_law0_r4_in : ∀ w ∈ wsL_law0_r4, w ∈ lw_tbl := List.forall_mem_cons.mpr ⟨List.mem_of_getElem? (i := 119) (by decide +kernel), List.forall_mem_cons.mpr ⟨List.mem_of_getElem? (i := 120) (by decide +kernel), List.forall_mem_cons.mpr ⟨List.mem_of_getElem? (i := 121) rfl, List.forall_mem_cons.mpr ⟨List.mem_of_getElem? (i := 122) (by decide +kernel), List.forall_mem_cons.mpr ⟨List.mem_of_getElem? (i := 123) (by decide +kernel), List.forall_mem_cons.mpr ⟨List.mem_of_getElem? (i := 124) rfl, List.forall_mem_cons.mpr ⟨List.mem_of_getElem? (i := 125) (by decide +kernel), List.forall_mem_cons.mpr ⟨List.mem_of_getElem? (i := 126) (by decide +kernel), List.forall_mem_cons.mpr ⟨List.mem_of_getElem? (i := 127) rfl, List.forall_mem_cons.mpr ⟨List.mem_of_getElem? (i := 128) (by decide +kernel), List.forall_mem_cons.mpr ⟨List.mem_of_getElem? (i := 129) (by decide +kernel), List.forall_mem_cons.mpr ⟨List.mem_of_getElem? (i := 130) rfl, List.forall_mem_cons.mpr ⟨List.mem_of_getElem? (i := 131) (by decide +kernel), List.forall_mem_cons.mpr ⟨List.mem_of_getElem? (i := 32) (by decide +kernel), List.forall_mem_cons.mpr ⟨List.mem_of_getElem? (i := 198) (by decide +kernel), List.forall_mem_cons.mpr ⟨List.mem_of_getElem? (i := 199) (by decide +kernel), List.forall_mem_cons.mpr ⟨List.mem_of_getElem? (i := 200) rfl, List.forall_mem_cons.mpr ⟨List.mem_of_getElem? (i := 201) (by decide +kernel), List.forall_mem_cons.mpr ⟨List.mem_of_getElem? (i := 202) (by decide +kernel), List.forall_mem_cons.mpr ⟨List.mem_of_getElem? (i := 203) (by decide +kernel), List.forall_mem_cons.mpr ⟨List.mem_of_getElem? (i := 204) rfl, List.forall_mem_cons.mpr ⟨List.mem_of_getElem? (i := 205) (by decide +kernel), List.forall_mem_cons.mpr ⟨List.mem_of_getElem? (i := 206) (by decide +kernel), List.forall_mem_cons.mpr ⟨List.mem_of_getElem? (i := 207) rfl, fun _ h => absurd h List.not_mem_nil⟩⟩⟩⟩⟩⟩⟩⟩⟩⟩⟩⟩⟩⟩⟩⟩⟩⟩⟩⟩⟩⟩⟩⟩
set_option maxRecDepth 20000 in
theorem wsL_law0_r5_in : ∀ w ∈ wsL_law0_r5, w ∈ lw_tbl := List.forall_mem_cons.mpr ⟨List.mem_of_getElem? (i := 210) (by decide +kernel), List.forall_mem_cons.mpr ⟨List.mem_of_getElem? (i := 211) (by decide +kernel), List.forall_mem_cons.mpr ⟨List.mem_of_getElem? (i := 212) rfl, List.forall_mem_cons.mpr ⟨List.mem_of_getElem? (i := 527) (by decide +kernel), List.forall_mem_cons.mpr ⟨List.mem_of_getElem? (i := 528) (by decide +kernel), List.forall_mem_cons.mpr ⟨List.mem_of_getElem? (i := 529) (by decide +kernel), List.forall_mem_cons.mpr ⟨List.mem_of_getElem? (i := 530) rfl, List.forall_mem_cons.mpr ⟨List.mem_of_getElem? (i := 531) (by decide +kernel), List.forall_mem_cons.mpr ⟨List.mem_of_getElem? (i := 532) (by decide +kernel), List.forall_mem_cons.mpr ⟨List.mem_of_getElem? (i := 533) rfl, List.forall_mem_cons.mpr ⟨List.mem_of_getElem? (i := 534) (by decide +kernel), List.forall_mem_cons.mpr ⟨List.mem_of_getElem? (i := 535) (by decide +kernel), List.forall_mem_cons.mpr ⟨List.mem_of_getElem? (i := 536) rfl, List.forall_mem_cons.mpr ⟨List.mem_of_getElem? (i := 537) (by decide +kernel), List.forall_mem_cons.mpr ⟨List.mem_of_getElem? (i := 538) (by decide +kernel), List.forall_mem_cons.mpr ⟨List.mem_of_getElem? (i := 539) rfl, List.forall_mem_cons.mpr ⟨List.mem_of_getElem? (i := 540) (by decide +kernel), List.forall_mem_cons.mpr ⟨List.mem_of_getElem? (i := 541) (by decide +kernel), List.forall_mem_cons.mpr ⟨List.mem_of_getElem? (i := 542) rfl, List.forall_mem_cons.mpr ⟨List.mem_of_getElem? (i := 543) (by decide +kernel), List.forall_mem_cons.mpr ⟨List.mem_of_getElem? (i := 545) (by decide +kernel), List.forall_mem_cons.mpr ⟨List.mem_of_getElem? (i := 12) (by decide +kernel), List.forall_mem_cons.mpr ⟨List.mem_of_getElem? (i := 546) rfl, List.forall_mem_cons.mpr ⟨List.mem_of_getElem? (i := 492) (by decide +kernel), fun _ h => absurd h List.not_mem_nil⟩⟩⟩⟩⟩⟩⟩⟩⟩⟩⟩⟩⟩⟩⟩⟩⟩⟩⟩⟩⟩⟩⟩⟩
set_option maxRecDepth 20000 in
theorem wsL_law0_r6_in : ∀ w ∈ wsL_law0_r6, w ∈ lw_tbl := List.forall_mem_cons.mpr ⟨List.mem_of_getElem? (i := 523) (by decide +kernel), List.forall_mem_cons.mpr ⟨List.mem_of_getElem? (i := 524) (by decide +kernel), List.forall_mem_cons.mpr ⟨List.mem_of_getElem? (i := 525) (by decide +kernel), List.forall_mem_cons.mpr ⟨List.mem_of_getElem? (i := 526) rfl, List.forall_mem_cons.mpr ⟨List.mem_of_getElem? (i := 213) (by decide +kernel), List.forall_mem_cons.mpr ⟨List.mem_of_getElem? (i := 214) (by decide +kernel), List.forall_mem_cons.mpr ⟨List.mem_of_getElem? (i := 215) rfl, List.forall_mem_cons.mpr ⟨List.mem_of_getElem? (i := 216) (by decide +kernel), List.forall_mem_cons.mpr ⟨List.mem_of_getElem? (i := 217) (by decide +kernel), List.forall_mem_cons.mpr ⟨List.mem_of_getElem? (i := 218) (by decide +kernel), List.forall_mem_cons.mpr ⟨List.mem_of_getElem? (i := 219) rfl, List.forall_mem_cons.mpr ⟨List.mem_of_getElem? (i := 220) (by decide +kernel), List.forall_mem_cons.mpr ⟨List.mem_of_getElem? (i := 221) (by decide +kernel), List.forall_mem_cons.mpr ⟨List.mem_of_getElem? (i := 222) (by decide +kernel), List.forall_mem_cons.mpr ⟨List.mem_of_getElem? (i := 223) rfl, List.forall_mem_cons.mpr ⟨List.mem_of_getElem? (i := 547) (by decide +kernel), List.forall_mem_cons.mpr ⟨List.mem_of_getElem? (i := 548) (by decide +kernel), List.forall_mem_cons.mpr ⟨List.mem_of_getElem? (i := 549) (by decide +kernel), List.forall_mem_cons.mpr ⟨List.mem_of_getElem? (i := 550) rfl, List.forall_mem_cons.mpr ⟨List.mem_of_getElem? (i := 224) (by decide +kernel), List.forall_mem_cons.mpr ⟨List.mem_of_getElem? (i := 225) (by decide +kernel), List.forall_mem_cons.mpr ⟨List.mem_of_getElem? (i := 226) rfl, List.forall_mem_cons.mpr ⟨List.mem_of_getElem? (i := 227) (by decide +kernel), List.forall_mem_cons.mpr ⟨List.mem_of_getElem? (i := 228) (by decide +kernel), fun _ h => absurd h List.not_mem_nil⟩⟩⟩⟩⟩⟩⟩⟩⟩⟩⟩⟩⟩⟩⟩⟩⟩⟩⟩⟩⟩⟩⟩⟩
set_option maxRecDepth 20000 in
theorem wsL_law0_r7_in : ∀ w ∈ wsL_law0_r7, w ∈ lw_tbl := List.forall_mem_cons.mpr ⟨List.mem_of_getElem? (i := 229) (by decide +kernel), List.forall_mem_cons.mpr ⟨List.mem_of_getElem? (i := 230) rfl, List.forall_mem_cons.mpr ⟨List.mem_of_getElem? (i := 231) (by decide +kernel), List.forall_mem_cons.mpr ⟨List.mem_of_getElem? (i := 232) (by decide +kernel), List.forall_mem_cons.mpr ⟨List.mem_of_getElem? (i := 233) (by decide +kernel), List.forall_mem_cons.mpr ⟨List.mem_of_getElem? (i := 234) rfl, List.forall_mem_cons.mpr ⟨List.mem_of_getElem? (i := 236) (by decide +kernel), List.forall_mem_cons.mpr ⟨List.mem_of_getElem? (i := 237) (by decide +kernel), List.forall_mem_cons.mpr ⟨List.mem_of_getElem? (i := 238) (by decide +kernel), List.forall_mem_cons.mpr ⟨List.mem_of_getElem? (i := 239) rfl, List.forall_mem_cons.mpr ⟨List.mem_of_getElem? (i := 240) (by decide +kernel), List.forall_mem_cons.mpr ⟨List.mem_of_getElem? (i := 551) (by decide +kernel), List.forall_mem_cons.mpr ⟨List.mem_of_getElem? (i := 552) (by decide +kernel), List.forall_mem_cons.mpr ⟨List.mem_of_getElem? (i := 553) (by decide +kernel), List.forall_mem_cons.mpr ⟨List.mem_of_getElem? (i := 554) rfl, List.forall_mem_cons.mpr ⟨List.mem_of_getElem? (i := 241) (by decide +kernel), List.forall_mem_cons.mpr ⟨List.mem_of_getElem? (i := 242) (by decide +kernel), List.forall_mem_cons.mpr ⟨List.mem_of_getElem? (i := 243) rfl, List.forall_mem_cons.mpr ⟨List.mem_of_getElem? (i := 244) (by decide +kernel), List.forall_mem_cons.mpr ⟨List.mem_of_getElem? (i := 245) (by decide +kernel), List.forall_mem_cons.mpr ⟨List.mem_of_getElem? (i := 246) (by decide +kernel), List.forall_mem_cons.mpr ⟨List.mem_of_getElem? (i := 247) (by decide +kernel), List.forall_mem_cons.mpr ⟨List.mem_of_getElem? (i := 248) rfl, List.forall_mem_cons.mpr ⟨List.mem_of_getElem? (i := 253) (by decide +kernel), fun _ h => absurd h List.not_mem_nil⟩⟩⟩⟩⟩⟩⟩⟩⟩⟩⟩⟩⟩⟩⟩⟩⟩⟩⟩⟩⟩⟩⟩⟩
set_option maxRecDepth 20000 in
theorem wsL_law0_r8_in : ∀ w ∈ wsL_law0_r8, w ∈ lw_tbl := List.forall_mem_cons.mpr ⟨List.mem_of_getElem? (i := 33) (by decide +kernel), List.forall_mem_cons.mpr ⟨List.mem_of_getElem? (i := 249) (by decide +kernel), List.forall_mem_cons.mpr ⟨List.mem_of_getElem? (i := 250) (by decide +kernel), List.forall_mem_cons.mpr ⟨List.mem_of_getElem? (i := 251) (by decide +kernel), List.forall_mem_cons.mpr ⟨List.mem_of_getElem? (i := 252) rfl, List.forall_mem_cons.mpr ⟨List.mem_of_getElem? (i := 555) (by decide +kernel), List.forall_mem_cons.mpr ⟨List.mem_of_getElem? (i := 556) (by decide +kernel), List.forall_mem_cons.mpr ⟨List.mem_of_getElem? (i := 557) (by decide +kernel), List.forall_mem_cons.mpr ⟨List.mem_of_getElem? (i := 558) rfl, List.forall_mem_cons.mpr ⟨List.mem_of_getElem? (i := 269) (by decide +kernel), List.forall_mem_cons.mpr ⟨List.mem_of_getElem? (i := 270) (by decide +kernel), List.forall_mem_cons.mpr ⟨List.mem_of_getElem? (i := 271) rfl, List.forall_mem_cons.mpr ⟨List.mem_of_getElem? (i := 272) (by decide +kernel), List.forall_mem_cons.mpr ⟨List.mem_of_getElem? (i := 273) (by decide +kernel), List.forall_mem_cons.mpr ⟨List.mem_of_getElem? (i := 274) (by decide +kernel), List.forall_mem_cons.mpr ⟨List.mem_of_getElem? (i := 275) rfl, List.forall_mem_cons.mpr ⟨List.mem_of_getElem? (i := 276) (by decide +kernel), List.forall_mem_cons.mpr ⟨List.mem_of_getElem? (i := 277) (by decide +kernel), List.forall_mem_cons.mpr ⟨List.mem_of_getElem? (i := 278) rfl, List.forall_mem_cons.mpr ⟨List.mem_of_getElem? (i := 279) (by decide +kernel), List.forall_mem_cons.mpr ⟨List.mem_of_getElem? (i := 280) (by decide +kernel), List.forall_mem_cons.mpr ⟨List.mem_of_getElem? (i := 281) rfl, List.forall_mem_cons.mpr ⟨List.mem_of_getElem? (i := 282) (by decide +kernel), List.forall_mem_cons.mpr ⟨List.mem_of_getElem? (i := 283) (by decide +kernel), fun _ h => absurd h List.not_mem_nil⟩⟩⟩⟩⟩⟩⟩⟩⟩⟩⟩⟩⟩⟩⟩⟩⟩⟩⟩⟩⟩⟩⟩⟩
set_option maxRecDepth 20000 in
theorem wsL_law0_r9_in : ∀ w ∈ wsL_law0_r9, w ∈ lw_tbl := List.forall_mem_cons.mpr ⟨List.mem_of_getElem? (i := 284) (by decide +kernel), List.forall_mem_cons.mpr ⟨List.mem_of_getElem? (i := 285) rfl, List.forall_mem_cons.mpr ⟨List.mem_of_getElem? (i := 286) (by decide +kernel), List.forall_mem_cons.mpr ⟨List.mem_of_getElem? (i := 287) (by decide +kernel), List.forall_mem_cons.mpr ⟨List.mem_of_getElem? (i := 288) (by decide +kernel), List.forall_mem_cons.mpr ⟨List.mem_of_getElem? (i := 289) rfl, List.forall_mem_cons.mpr ⟨List.mem_of_getElem? (i := 290) (by decide +kernel), List.forall_mem_cons.mpr ⟨List.mem_of_getElem? (i := 292) (by decide +kernel), List.forall_mem_cons.mpr ⟨List.mem_of_getElem? (i := 291) (by decide +kernel), List.forall_mem_cons.mpr ⟨List.mem_of_getElem? (i := 34) (by decide +kernel), List.forall_mem_cons.mpr ⟨List.mem_of_getElem? (i := 559) (by decide +kernel), List.forall_mem_cons.mpr ⟨List.mem_of_getElem? (i := 560) (by decide +kernel), List.forall_mem_cons.mpr ⟨List.mem_of_getElem? (i := 561) (by decide +kernel), List.forall_mem_cons.mpr ⟨List.mem_of_getElem? (i := 562) rfl, List.forall_mem_cons.mpr ⟨List.mem_of_getElem? (i := 563) (by decide +kernel), List.forall_mem_cons.mpr ⟨List.mem_of_getElem? (i := 564) (by decide +kernel), List.forall_mem_cons.mpr ⟨List.mem_of_getElem? (i := 565) rfl, List.forall_mem_cons.mpr ⟨List.mem_of_getElem? (i := 293) (by decide +kernel), List.forall_mem_cons.mpr ⟨List.mem_of_getElem? (i := 294) (by decide +kernel), List.forall_mem_cons.mpr ⟨List.mem_of_getElem? (i := 295) rfl, List.forall_mem_cons.mpr ⟨List.mem_of_getElem? (i := 296) (by decide +kernel), List.forall_mem_cons.mpr ⟨List.mem_of_getElem? (i := 297) (by decide +kernel), List.forall_mem_cons.mpr ⟨List.mem_of_getElem? (i := 298) (by decide +kernel), List.forall_mem_cons.mpr ⟨List.mem_of_getElem? (i := 299) rfl, fun _ h => absurd h List.not_mem_nil⟩⟩⟩⟩⟩⟩⟩⟩⟩⟩⟩⟩⟩⟩⟩⟩⟩⟩⟩⟩⟩⟩⟩⟩
set_option maxRecDepth 20000 in
theorem wsL_law0_r10_in : ∀ w ∈ wsL_law0_r10, w ∈ lw_tbl := List.forall_mem_cons.mpr ⟨List.mem_of_getElem? (i := 300) (by decide +kernel), List.forall_mem_cons.mpr ⟨List.mem_of_getElem? (i := 301) (by decide +kernel), List.forall_mem_cons.mpr ⟨List.mem_of_getElem? (i := 302) rfl, List.forall_mem_cons.mpr ⟨List.mem_of_getElem? (i := 303) (by decide +kernel), List.forall_mem_cons.mpr ⟨List.mem_of_getElem? (i := 305) (by decide +kernel), List.forall_mem_cons.mpr ⟨List.mem_of_getElem? (i := 1) (by decide +kernel), List.forall_mem_cons.mpr ⟨List.mem_of_getElem? (i := 306) rfl, List.forall_mem_cons.mpr ⟨List.mem_of_getElem? (i := 307) (by decide +kernel), List.forall_mem_cons.mpr ⟨List.mem_of_getElem? (i := 308) (by decide +kernel), List.forall_mem_cons.mpr ⟨List.mem_of_getElem? (i := 309) rfl, List.forall_mem_cons.mpr ⟨List.mem_of_getElem? (i := 566) (by decide +kernel), List.forall_mem_cons.mpr ⟨List.mem_of_getElem? (i := 567) (by decide +kernel), List.forall_mem_cons.mpr ⟨List.mem_of_getElem? (i := 568) (by decide +kernel), List.forall_mem_cons.mpr ⟨List.mem_of_getElem? (i := 569) rfl, List.forall_mem_cons.mpr ⟨List.mem_of_getElem? (i := 570) (by decide +kernel), List.forall_mem_cons.mpr ⟨List.mem_of_getElem? (i := 572) (by decide +kernel), List.forall_mem_cons.mpr ⟨List.mem_of_getElem? (i := 13) (by decide +kernel), List.forall_mem_cons.mpr ⟨List.mem_of_getElem? (i := 573) rfl, List.forall_mem_cons.mpr ⟨List.mem_of_getElem? (i := 574) (by decide +kernel), List.forall_mem_cons.mpr ⟨List.mem_of_getElem? (i := 575) (by decide +kernel), List.forall_mem_cons.mpr ⟨List.mem_of_getElem? (i := 576) rfl, List.forall_mem_cons.mpr ⟨List.mem_of_getElem? (i := 310) (by decide +kernel), List.forall_mem_cons.mpr ⟨List.mem_of_getElem? (i := 311) (by decide +kernel), List.forall_mem_cons.mpr ⟨List.mem_of_getElem? (i := 312) rfl, fun _ h => absurd h List.not_mem_nil⟩⟩⟩⟩⟩⟩⟩⟩⟩⟩⟩⟩⟩⟩⟩⟩⟩⟩⟩⟩⟩⟩⟩⟩
set_option maxRecDepth 20000 in
theorem wsL_law0_r11_in : ∀ w ∈ wsL_law0_r11, w ∈ lw_tbl := List.forall_mem_cons.mpr ⟨List.mem_of_getElem? (i := 313) (by decide +kernel), List.forall_mem_cons.mpr ⟨List.mem_of_getElem? (i := 314) (by decide +kernel), List.forall_mem_cons.mpr ⟨List.mem_of_getElem? (i := 315) (by decide +kernel), List.forall_mem_cons.mpr ⟨List.mem_of_getElem? (i := 316) rfl, List.forall_mem_cons.mpr ⟨List.mem_of_getElem? (i := 317) (by decide +kernel), List.forall_mem_cons.mpr ⟨List.mem_of_getElem? (i := 319) (by decide +kernel), List.forall_mem_cons.mpr ⟨List.mem_of_getElem? (i := 2) (by decide +kernel), List.forall_mem_cons.mpr ⟨List.mem_of_getElem? (i := 320) rfl, List.forall_mem_cons.mpr ⟨List.mem_of_getElem? (i := 321) (by decide +kernel), List.forall_mem_cons.mpr ⟨List.mem_of_getElem? (i := 322) (by decide +kernel), List.forall_mem_cons.mpr ⟨List.mem_of_getElem? (i := 323) (by decide +kernel), List.forall_mem_cons.mpr ⟨List.mem_of_getElem? (i := 324) rfl, List.forall_mem_cons.mpr ⟨List.mem_of_getElem? (i := 325) (by decide +kernel), List.forall_mem_cons.mpr ⟨List.mem_of_getElem? (i := 326) (by decide +kernel), List.forall_mem_cons.mpr ⟨List.mem_of_getElem? (i := 328) (by decide +kernel), List.forall_mem_cons.mpr ⟨List.mem_of_getElem? (i := 3) (by decide +kernel), List.forall_mem_cons.mpr ⟨List.mem_of_getElem? (i := 329) rfl, List.forall_mem_cons.mpr ⟨List.mem_of_getElem? (i := 577) (by decide +kernel), List.forall_mem_cons.mpr ⟨List.mem_of_getElem? (i := 578) (by decide +kernel), List.forall_mem_cons.mpr ⟨List.mem_of_getElem? (i := 579) (by decide +kernel), List.forall_mem_cons.mpr ⟨List.mem_of_getElem? (i := 580) rfl, List.forall_mem_cons.mpr ⟨List.mem_of_getElem? (i := 581) (by decide +kernel), List.forall_mem_cons.mpr ⟨List.mem_of_getElem? (i := 583) (by decide +kernel), List.forall_mem_cons.mpr ⟨List.mem_of_getElem? (i := 14) (by decide +kernel), fun _ h => absurd h List.not_mem_nil⟩⟩⟩⟩⟩⟩⟩⟩⟩⟩⟩⟩⟩⟩⟩⟩⟩⟩⟩⟩⟩⟩⟩⟩
set_option maxRecDepth 20000 in
theorem wsL_law0_r12_in : ∀ w ∈ wsL_law0_r12, w ∈ lw_tbl := List.forall_mem_cons.mpr ⟨List.mem_of_getElem? (i := 584) rfl, List.forall_mem_cons.mpr ⟨List.mem_of_getElem? (i := 330) (by decide +kernel), List.forall_mem_cons.mpr ⟨List.mem_of_getElem? (i := 331) (by decide +kernel), List.forall_mem_cons.mpr ⟨List.mem_of_getElem? (i := 332) rfl, List.forall_mem_cons.mpr ⟨List.mem_of_getElem? (i := 333) (by decide +kernel), List.forall_mem_cons.mpr ⟨List.mem_of_getElem? (i := 334) (by decide +kernel), List.forall_mem_cons.mpr ⟨List.mem_of_getElem? (i := 335) (by decide +kernel), List.forall_mem_cons.mpr ⟨List.mem_of_getElem? (i := 336) rfl, List.forall_mem_cons.mpr ⟨List.mem_of_getElem? (i := 585) (by decide +kernel), List.forall_mem_cons.mpr ⟨List.mem_of_getElem? (i := 586) (by decide +kernel), List.forall_mem_cons.mpr ⟨List.mem_of_getElem? (i := 587) (by decide +kernel), List.forall_mem_cons.mpr ⟨List.mem_of_getElem? (i := 588) rfl, List.forall_mem_cons.mpr ⟨List.mem_of_getElem? (i := 337) (by decide +kernel), List.forall_mem_cons.mpr ⟨List.mem_of_getElem? (i := 338) (by decide +kernel), List.forall_mem_cons.mpr ⟨List.mem_of_getElem? (i := 339) rfl, List.forall_mem_cons.mpr ⟨List.mem_of_getElem? (i := 340) (by decide +kernel), List.forall_mem_cons.mpr ⟨List.mem_of_getElem? (i := 341) (by decide +kernel), List.forall_mem_cons.mpr ⟨List.mem_of_getElem? (i := 342) (by decide +kernel), List.forall_mem_cons.mpr ⟨List.mem_of_getElem? (i := 343) rfl, List.forall_mem_cons.mpr ⟨List.mem_of_getElem? (i := 344) (by decide +kernel), List.forall_mem_cons.mpr ⟨List.mem_of_getElem? (i := 346) (by decide +kernel), List.forall_mem_cons.mpr ⟨List.mem_of_getElem? (i := 4) (by decide +kernel), List.forall_mem_cons.mpr ⟨List.mem_of_getElem? (i := 347) rfl, List.forall_mem_cons.mpr ⟨List.mem_of_getElem? (i := 349) (by decide +kernel), fun _ h => absurd h List.not_mem_nil⟩⟩⟩⟩⟩⟩⟩⟩⟩⟩⟩⟩⟩⟩⟩⟩⟩⟩⟩⟩⟩⟩⟩⟩
set_option maxRecDepth 20000 in
theorem wsL_law0_r13_in : ∀ w ∈ wsL_law0_r13, w ∈ lw_tbl := List.forall_mem_cons.mpr ⟨List.mem_of_getElem? (i := 351) (by decide +kernel), List.forall_mem_cons.mpr ⟨List.mem_of_getElem? (i := 5) (by decide +kernel), List.forall_mem_cons.mpr ⟨List.mem_of_getElem? (i := 352) rfl, List.forall_mem_cons.mpr ⟨List.mem_of_getElem? (i := 376) (by decide +kernel), List.forall_mem_cons.mpr ⟨List.mem_of_getElem? (i := 377) (by decide +kernel), List.forall_mem_cons.mpr ⟨List.mem_of_getElem? (i := 35) (by decide +kernel), List.forall_mem_cons.mpr ⟨List.mem_of_getElem? (i := 378) rfl, List.forall_mem_cons.mpr ⟨List.mem_of_getElem? (i := 353) (by decide +kernel), List.forall_mem_cons.mpr ⟨List.mem_of_getElem? (i := 355) (by decide +kernel), List.forall_mem_cons.mpr ⟨List.mem_of_getElem? (i := 6) (by decide +kernel), List.forall_mem_cons.mpr ⟨List.mem_of_getElem? (i := 356) rfl, List.forall_mem_cons.mpr ⟨List.mem_of_getElem? (i := 357) (by decide +kernel), List.forall_mem_cons.mpr ⟨List.mem_of_getElem? (i := 358) (by decide +kernel), List.forall_mem_cons.mpr ⟨List.mem_of_getElem? (i := 359) (by decide +kernel), List.forall_mem_cons.mpr ⟨List.mem_of_getElem? (i := 360) rfl, List.forall_mem_cons.mpr ⟨List.mem_of_getElem? (i := 361) (by decide +kernel), List.forall_mem_cons.mpr ⟨List.mem_of_getElem? (i := 362) (by decide +kernel), List.forall_mem_cons.mpr ⟨List.mem_of_getElem? (i := 363) (by decide +kernel), List.forall_mem_cons.mpr ⟨List.mem_of_getElem? (i := 364) rfl, List.forall_mem_cons.mpr ⟨List.mem_of_getElem? (i := 365) (by decide +kernel), List.forall_mem_cons.mpr ⟨List.mem_of_getElem? (i := 366) (by decide +kernel), List.forall_mem_cons.mpr ⟨List.mem_of_getElem? (i := 367) (by decide +kernel), List.forall_mem_cons.mpr ⟨List.mem_of_getElem? (i := 368) rfl, List.forall_mem_cons.mpr ⟨List.mem_of_getElem? (i := 369) (by decide +kernel), fun _ h => absurd h List.not_mem_nil⟩⟩⟩⟩⟩⟩⟩⟩⟩⟩⟩⟩⟩⟩⟩⟩⟩⟩⟩⟩⟩⟩⟩⟩
set_option maxRecDepth 20000 in
theorem wsL_law0_r14_in : ∀ w ∈ wsL_law0_r14, w ∈ lw_tbl := List.forall_mem_cons.mpr ⟨List.mem_of_getElem? (i := 370) (by decide +kernel), List.forall_mem_cons.mpr ⟨List.mem_of_getElem? (i := 371) (by decide +kernel), List.forall_mem_cons.mpr ⟨List.mem_of_getElem? (i := 372) rfl, List.forall_mem_cons.mpr ⟨List.mem_of_getElem? (i := 373) (by decide +kernel), List.forall_mem_cons.mpr ⟨List.mem_of_getElem? (i := 374) (by decide +kernel), List.forall_mem_cons.mpr ⟨List.mem_of_getElem? (i := 375) rfl, List.forall_mem_cons.mpr ⟨List.mem_of_getElem? (i := 379) (by decide +kernel), List.forall_mem_cons.mpr ⟨List.mem_of_getElem? (i := 380) (by decide +kernel), List.forall_mem_cons.mpr ⟨List.mem_of_getElem? (i := 381) rfl, List.forall_mem_cons.mpr ⟨List.mem_of_getElem? (i := 382) (by decide +kernel), List.forall_mem_cons.mpr ⟨List.mem_of_getElem? (i := 384) (by decide +kernel), List.forall_mem_cons.mpr ⟨List.mem_of_getElem? (i := 7) (by decide +kernel), List.forall_mem_cons.mpr ⟨List.mem_of_getElem? (i := 385) rfl, List.forall_mem_cons.mpr ⟨List.mem_of_getElem? (i := 386) (by decide +kernel), List.forall_mem_cons.mpr ⟨List.mem_of_getElem? (i := 387) (by decide +kernel), List.forall_mem_cons.mpr ⟨List.mem_of_getElem? (i := 388) rfl, List.forall_mem_cons.mpr ⟨List.mem_of_getElem? (i := 389) (by decide +kernel), List.forall_mem_cons.mpr ⟨List.mem_of_getElem? (i := 390) (by decide +kernel), List.forall_mem_cons.mpr ⟨List.mem_of_getElem? (i := 391) rfl, List.forall_mem_cons.mpr ⟨List.mem_of_getElem? (i := 392) (by decide +kernel), List.forall_mem_cons.mpr ⟨List.mem_of_getElem? (i := 394) (by decide +kernel), List.forall_mem_cons.mpr ⟨List.mem_of_getElem? (i := 8) (by decide +kernel), List.forall_mem_cons.mpr ⟨List.mem_of_getElem? (i := 395) rfl, List.forall_mem_cons.mpr ⟨List.mem_of_getElem? (i := 396) (by decide +kernel), fun _ h => absurd h List.not_mem_nil⟩⟩⟩⟩⟩⟩⟩⟩⟩⟩⟩⟩⟩⟩⟩⟩⟩⟩⟩⟩⟩⟩⟩⟩
set_option maxRecDepth 20000 in
theorem wsL_law0_r15_in : ∀ w ∈ wsL_law0_r15, w ∈ lw_tbl := List.forall_mem_cons.mpr ⟨List.mem_of_getElem? (i := 397) (by decide +kernel), List.forall_mem_cons.mpr ⟨List.mem_of_getElem? (i := 398) (by decide +kernel), List.forall_mem_cons.mpr ⟨List.mem_of_getElem? (i := 399) rfl, List.forall_mem_cons.mpr ⟨List.mem_of_getElem? (i := 400) (by decide +kernel), List.forall_mem_cons.mpr ⟨List.mem_of_getElem? (i := 401) (by decide +kernel), List.forall_mem_cons.mpr ⟨List.mem_of_getElem? (i := 402) rfl, List.forall_mem_cons.mpr ⟨List.mem_of_getElem? (i := 403) (by decide +kernel), List.forall_mem_cons.mpr ⟨List.mem_of_getElem? (i := 404) (by decide +kernel), List.forall_mem_cons.mpr ⟨List.mem_of_getElem? (i := 405) rfl, List.forall_mem_cons.mpr ⟨List.mem_of_getElem? (i := 406) (by decide +kernel), List.forall_mem_cons.mpr ⟨List.mem_of_getElem? (i := 408) (by decide +kernel), List.forall_mem_cons.mpr ⟨List.mem_of_getElem? (i := 9) (by decide +kernel), List.forall_mem_cons.mpr ⟨List.mem_of_getElem? (i := 409) rfl, List.forall_mem_cons.mpr ⟨List.mem_of_getElem? (i := 410) (by decide +kernel), List.forall_mem_cons.mpr ⟨List.mem_of_getElem? (i := 412) (by decide +kernel), List.forall_mem_cons.mpr ⟨List.mem_of_getElem? (i := 10) (by decide +kernel), List.forall_mem_cons.mpr ⟨List.mem_of_getElem? (i := 413) rfl, List.forall_mem_cons.mpr ⟨List.mem_of_getElem? (i := 414) (by decide +kernel), List.forall_mem_cons.mpr ⟨List.mem_of_getElem? (i := 415) (by decide +kernel), List.forall_mem_cons.mpr ⟨List.mem_of_getElem? (i := 416) rfl, List.forall_mem_cons.mpr ⟨List.mem_of_getElem? (i := 417) (by decide +kernel), List.forall_mem_cons.mpr ⟨List.mem_of_getElem? (i := 418) (by decide +kernel), List.forall_mem_cons.mpr ⟨List.mem_of_getElem? (i := 419) rfl, List.forall_mem_cons.mpr ⟨List.mem_of_getElem? (i := 589) (by decide +kernel), fun _ h => absurd h List.not_mem_nil⟩⟩⟩⟩⟩⟩⟩⟩⟩⟩⟩⟩⟩⟩⟩⟩⟩⟩⟩⟩⟩⟩⟩⟩
set_option maxRecDepth 20000 in
theorem wsL_law0_r16_in : ∀ w ∈ wsL_law0_r16, w ∈ lw_tbl := List.forall_mem_cons.mpr ⟨List.mem_of_getElem? (i := 590) (by decide +kernel), List.forall_mem_cons.mpr ⟨List.mem_of_getElem? (i := 591) (by decide +kernel), List.forall_mem_cons.mpr ⟨List.mem_of_getElem? (i := 592) rfl, List.forall_mem_cons.mpr ⟨List.mem_of_getElem? (i := 593) (by decide +kernel), List.forall_mem_cons.mpr ⟨List.mem_of_getElem? (i := 595) (by decide +kernel), List.forall_mem_cons.mpr ⟨List.mem_of_getElem? (i := 15) (by decide +kernel), List.forall_mem_cons.mpr ⟨List.mem_of_getElem? (i := 596) rfl, List.forall_mem_cons.mpr ⟨List.mem_of_getElem? (i := 597) (by decide +kernel), List.forall_mem_cons.mpr ⟨List.mem_of_getElem? (i := 599) (by decide +kernel), List.forall_mem_cons.mpr ⟨List.mem_of_getElem? (i := 16) (by decide +kernel), List.forall_mem_cons.mpr ⟨List.mem_of_getElem? (i := 600) rfl, List.forall_mem_cons.mpr ⟨List.mem_of_getElem? (i := 500) (by decide +kernel), List.forall_mem_cons.mpr ⟨List.mem_of_getElem? (i := 501) (by decide +kernel), List.forall_mem_cons.mpr ⟨List.mem_of_getElem? (i := 601) (by decide +kernel), List.forall_mem_cons.mpr ⟨List.mem_of_getElem? (i := 603) (by decide +kernel), List.forall_mem_cons.mpr ⟨List.mem_of_getElem? (i := 17) (by decide +kernel), List.forall_mem_cons.mpr ⟨List.mem_of_getElem? (i := 604) rfl, List.forall_mem_cons.mpr ⟨List.mem_of_getElem? (i := 605) (by decide +kernel), List.forall_mem_cons.mpr ⟨List.mem_of_getElem? (i := 607) (by decide +kernel), List.forall_mem_cons.mpr ⟨List.mem_of_getElem? (i := 18) (by decide +kernel), List.forall_mem_cons.mpr ⟨List.mem_of_getElem? (i := 608) rfl, List.forall_mem_cons.mpr ⟨List.mem_of_getElem? (i := 609) (by decide +kernel), List.forall_mem_cons.mpr ⟨List.mem_of_getElem? (i := 610) (by decide +kernel), List.forall_mem_cons.mpr ⟨List.mem_of_getElem? (i := 611) rfl, fun _ h => absurd h List.not_mem_nil⟩⟩⟩⟩⟩⟩⟩⟩⟩⟩⟩⟩⟩⟩⟩⟩⟩⟩⟩⟩⟩⟩⟩⟩
set_option maxRecDepth 20000 in
theorem wsL_law0_r17_in : ∀ w ∈ wsL_law0_r17, w ∈ lw_tbl := List.forall_mem_cons.mpr ⟨List.mem_of_getElem? (i := 612) (by decide +kernel), List.forall_mem_cons.mpr ⟨List.mem_of_getElem? (i := 614) (by decide +kernel), List.forall_mem_cons.mpr ⟨List.mem_of_getElem? (i := 19) (by decide +kernel), List.forall_mem_cons.mpr ⟨List.mem_of_getElem? (i := 615) rfl, List.forall_mem_cons.mpr ⟨List.mem_of_getElem? (i := 616) (by decide +kernel), List.forall_mem_cons.mpr ⟨List.mem_of_getElem? (i := 618) (by decide +kernel), List.forall_mem_cons.mpr ⟨List.mem_of_getElem? (i := 20) (by decide +kernel), List.forall_mem_cons.mpr ⟨List.mem_of_getElem? (i := 619) rfl, List.forall_mem_cons.mpr ⟨List.mem_of_getElem? (i := 620) (by decide +kernel), List.forall_mem_cons.mpr ⟨List.mem_of_getElem? (i := 622) (by decide +kernel), List.forall_mem_cons.mpr ⟨List.mem_of_getElem? (i := 21) (by decide +kernel), List.forall_mem_cons.mpr ⟨List.mem_of_getElem? (i := 623) rfl, List.forall_mem_cons.mpr ⟨List.mem_of_getElem? (i := 624) (by decide +kernel), List.forall_mem_cons.mpr ⟨List.mem_of_getElem? (i := 625) (by decide +kernel), List.forall_mem_cons.mpr ⟨List.mem_of_getElem? (i := 626) rfl, List.forall_mem_cons.mpr ⟨List.mem_of_getElem? (i := 420) (by decide +kernel), List.forall_mem_cons.mpr ⟨List.mem_of_getElem? (i := 421) (by decide +kernel), List.forall_mem_cons.mpr ⟨List.mem_of_getElem? (i := 422) rfl, List.forall_mem_cons.mpr ⟨List.mem_of_getElem? (i := 423) (by decide +kernel), List.forall_mem_cons.mpr ⟨List.mem_of_getElem? (i := 424) (by decide +kernel), List.forall_mem_cons.mpr ⟨List.mem_of_getElem? (i := 425) (by decide +kernel), List.forall_mem_cons.mpr ⟨List.mem_of_getElem? (i := 426) rfl, List.forall_mem_cons.mpr ⟨List.mem_of_getElem? (i := 427) (by decide +kernel), List.forall_mem_cons.mpr ⟨List.mem_of_getElem? (i := 429) (by decide +kernel), fun _ h => absurd h List.not_mem_nil⟩⟩⟩⟩⟩⟩⟩⟩⟩⟩⟩⟩⟩⟩⟩⟩⟩⟩⟩⟩⟩⟩⟩⟩
set_option maxRecDepth 20000 in
theorem wsL_law0_r18_in : ∀ w ∈ wsL_law0_r18, w ∈ lw_tbl := List.forall_mem_cons.mpr ⟨List.mem_of_getElem? (i := 11) (by decide +kernel), List.forall_mem_cons.mpr ⟨List.mem_of_getElem? (i := 430) rfl, List.forall_mem_cons.mpr ⟨List.mem_of_getElem? (i := 627) (by decide +kernel), List.forall_mem_cons.mpr ⟨List.mem_of_getElem? (i := 628) (by decide +kernel), List.forall_mem_cons.mpr ⟨List.mem_of_getElem? (i := 629) (by decide +kernel), List.forall_mem_cons.mpr ⟨List.mem_of_getElem? (i := 630) rfl, List.forall_mem_cons.mpr ⟨List.mem_of_getElem? (i := 631) (by decide +kernel), List.forall_mem_cons.mpr ⟨List.mem_of_getElem? (i := 633) (by decide +kernel), List.forall_mem_cons.mpr ⟨List.mem_of_getElem? (i := 22) (by decide +kernel), List.forall_mem_cons.mpr ⟨List.mem_of_getElem? (i := 634) rfl, List.forall_mem_cons.mpr ⟨List.mem_of_getElem? (i := 431) (by decide +kernel), List.forall_mem_cons.mpr ⟨List.mem_of_getElem? (i := 432) (by decide +kernel), List.forall_mem_cons.mpr ⟨List.mem_of_getElem? (i := 433) rfl, List.forall_mem_cons.mpr ⟨List.mem_of_getElem? (i := 434) (by decide +kernel), List.forall_mem_cons.mpr ⟨List.mem_of_getElem? (i := 435) (by decide +kernel), List.forall_mem_cons.mpr ⟨List.mem_of_getElem? (i := 436) (by decide +kernel), List.forall_mem_cons.mpr ⟨List.mem_of_getElem? (i := 437) rfl, List.forall_mem_cons.mpr ⟨List.mem_of_getElem? (i := 635) (by decide +kernel), List.forall_mem_cons.mpr ⟨List.mem_of_getElem? (i := 636) (by decide +kernel), List.forall_mem_cons.mpr ⟨List.mem_of_getElem? (i := 637) (by decide +kernel), List.forall_mem_cons.mpr ⟨List.mem_of_getElem? (i := 638) rfl, List.forall_mem_cons.mpr ⟨List.mem_of_getElem? (i := 438) (by decide +kernel), List.forall_mem_cons.mpr ⟨List.mem_of_getElem? (i := 439) (by decide +kernel), List.forall_mem_cons.mpr ⟨List.mem_of_getElem? (i := 440) rfl, fun _ h => absurd h List.not_mem_nil⟩⟩⟩⟩⟩⟩⟩⟩⟩⟩⟩⟩⟩⟩⟩⟩⟩⟩⟩⟩⟩⟩⟩⟩
set_option maxRecDepth 20000 in
theorem wsL_law0_r19_in : ∀ w ∈ wsL_law0_r19, w ∈ lw_tbl := List.forall_mem_cons.mpr ⟨List.mem_of_getElem? (i := 441) (by decide +kernel), List.forall_mem_cons.mpr ⟨List.mem_of_getElem? (i := 442) (by decide +kernel), List.forall_mem_cons.mpr ⟨List.mem_of_getElem? (i := 443) (by decide +kernel), List.forall_mem_cons.mpr ⟨List.mem_of_getElem? (i := 444) rfl, List.forall_mem_cons.mpr ⟨List.mem_of_getElem? (i := 639) (by decide +kernel), List.forall_mem_cons.mpr ⟨List.mem_of_getElem? (i := 640) (by decide +kernel), List.forall_mem_cons.mpr ⟨List.mem_of_getElem? (i := 641) (by decide +kernel), List.forall_mem_cons.mpr ⟨List.mem_of_getElem? (i := 642) rfl, List.forall_mem_cons.mpr ⟨List.mem_of_getElem? (i := 445) (by decide +kernel), List.forall_mem_cons.mpr ⟨List.mem_of_getElem? (i := 446) (by decide +kernel), List.forall_mem_cons.mpr ⟨List.mem_of_getElem? (i := 447) rfl, List.forall_mem_cons.mpr ⟨List.mem_of_getElem? (i := 448) (by decide +kernel), List.forall_mem_cons.mpr ⟨List.mem_of_getElem? (i := 449) (by decide +kernel), List.forall_mem_cons.mpr ⟨List.mem_of_getElem? (i := 450) (by decide +kernel), List.forall_mem_cons.mpr ⟨List.mem_of_getElem? (i := 451) rfl, List.forall_mem_cons.mpr ⟨List.mem_of_getElem? (i := 452) (by decide +kernel), List.forall_mem_cons.mpr ⟨List.mem_of_getElem? (i := 453) (by decide +kernel), List.forall_mem_cons.mpr ⟨List.mem_of_getElem? (i := 454) (by decide +kernel), List.forall_mem_cons.mpr ⟨List.mem_of_getElem? (i := 455) rfl, List.forall_mem_cons.mpr ⟨List.mem_of_getElem? (i := 457) (by decide +kernel), List.forall_mem_cons.mpr ⟨List.mem_of_getElem? (i := 643) (by decide +kernel), List.forall_mem_cons.mpr ⟨List.mem_of_getElem? (i := 644) (by decide +kernel), List.forall_mem_cons.mpr ⟨List.mem_of_getElem? (i := 645) (by decide +kernel), List.forall_mem_cons.mpr ⟨List.mem_of_getElem? (i := 646) rfl, fun _ h => absurd h List.not_mem_nil⟩⟩⟩⟩⟩⟩⟩⟩⟩⟩⟩⟩⟩⟩⟩⟩⟩⟩⟩⟩⟩⟩⟩⟩
set_option maxRecDepth 20000 in
theorem wsL_law0_r20_in : ∀ w ∈ wsL_law0_r20, w ∈ lw_tbl := List.forall_mem_cons.mpr ⟨List.mem_of_getElem? (i := 458) (by decide +kernel), List.forall_mem_cons.mpr ⟨List.mem_of_getElem? (i := 459) (by decide +kernel), List.forall_mem_cons.mpr ⟨List.mem_of_getElem? (i := 460) rfl, List.forall_mem_cons.mpr ⟨List.mem_of_getElem? (i := 461) (by decide +kernel), List.forall_mem_cons.mpr ⟨List.mem_of_getElem? (i := 462) (by decide +kernel), List.forall_mem_cons.mpr ⟨List.mem_of_getElem? (i := 463) (by decide +kernel), List.forall_mem_cons.mpr ⟨List.mem_of_getElem? (i := 464) rfl, List.forall_mem_cons.mpr ⟨List.mem_of_getElem? (i := 465) (by decide +kernel), List.forall_mem_cons.mpr ⟨List.mem_of_getElem? (i := 466) (by decide +kernel), List.forall_mem_cons.mpr ⟨List.mem_of_getElem? (i := 467) (by decide +kernel), List.forall_mem_cons.mpr ⟨List.mem_of_getElem? (i := 468) rfl, List.forall_mem_cons.mpr ⟨List.mem_of_getElem? (i := 647) (by decide +kernel), List.forall_mem_cons.mpr ⟨List.mem_of_getElem? (i := 648) (by decide +kernel), List.forall_mem_cons.mpr ⟨List.mem_of_getElem? (i := 649) (by decide +kernel), List.forall_mem_cons.mpr ⟨List.mem_of_getElem? (i := 650) rfl, List.forall_mem_cons.mpr ⟨List.mem_of_getElem? (i := 469) (by decide +kernel), List.forall_mem_cons.mpr ⟨List.mem_of_getElem? (i := 470) (by decide +kernel), List.forall_mem_cons.mpr ⟨List.mem_of_getElem? (i := 471) rfl, List.forall_mem_cons.mpr ⟨List.mem_of_getElem? (i := 472) (by decide +kernel), List.forall_mem_cons.mpr ⟨List.mem_of_getElem? (i := 473) (by decide +kernel), List.forall_mem_cons.mpr ⟨List.mem_of_getElem? (i := 474) (by decide +kernel), List.forall_mem_cons.mpr ⟨List.mem_of_getElem? (i := 475) rfl, List.forall_mem_cons.mpr ⟨List.mem_of_getElem? (i := 476) (by decide +kernel), List.forall_mem_cons.mpr ⟨List.mem_of_getElem? (i := 477) (by decide +kernel), fun _ h => absurd h List.not_mem_nil⟩⟩⟩⟩⟩⟩⟩⟩⟩⟩⟩⟩⟩⟩⟩⟩⟩⟩⟩⟩⟩⟩⟩⟩
set_option maxRecDepth 20000 in
theorem wsL_law0_r21_in : ∀ w ∈ wsL_law0_r21, w ∈ lw_tbl := List.forall_mem_cons.mpr ⟨List.mem_of_getElem? (i := 478) (by decide +kernel), List.forall_mem_cons.mpr ⟨List.mem_of_getElem? (i := 479) rfl, List.forall_mem_cons.mpr ⟨List.mem_of_getElem? (i := 480) (by decide +kernel), List.forall_mem_cons.mpr ⟨List.mem_of_getElem? (i := 481) (by decide +kernel), List.forall_mem_cons.mpr ⟨List.mem_of_getElem? (i := 36) (by decide +kernel), List.forall_mem_cons.mpr ⟨List.mem_of_getElem? (i := 482) rfl, List.forall_mem_cons.mpr ⟨List.mem_of_getElem? (i := 483) (by decide +kernel), List.forall_mem_cons.mpr ⟨List.mem_of_getElem? (i := 484) (by decide +kernel), List.forall_mem_cons.mpr ⟨List.mem_of_getElem? (i := 485) (by decide +kernel), List.forall_mem_cons.mpr ⟨List.mem_of_getElem? (i := 651) (by decide +kernel), List.forall_mem_cons.mpr ⟨List.mem_of_getElem? (i := 652) (by decide +kernel), List.forall_mem_cons.mpr ⟨List.mem_of_getElem? (i := 653) (by decide +kernel), List.forall_mem_cons.mpr ⟨List.mem_of_getElem? (i := 654) rfl, fun _ h => absurd h List.not_mem_nil⟩⟩⟩⟩⟩⟩⟩⟩⟩⟩⟩⟩⟩
theorem wsX30_in : ∀ w ∈ wsX30, w ∈ lw_tbl := by decide +kernel
theorem wsX40_in : ∀ w ∈ wsX40, w ∈ lw_tbl := by decide +kernel
theorem wsX10_in : ∀ w ∈ wsX10, w ∈ lw_tbl := by decide +kernel
theorem wsX20_in : ∀ w ∈ wsX20, w ∈ lw_tbl := by decide +kernel
theorem wsX00_in : ∀ w ∈ wsX00, w ∈ lw_tbl := by decide +kernel
theorem wsL_law_in0 : ∀ w ∈ wsL_law0, w ∈ lw_tbl := by
  show ∀ w ∈ (wsL_law0_r1 ++ (wsL_law0_r2 ++ (wsL_law0_r3 ++ (wsL_law0_r4 ++ (wsL_law0_r5 ++ (wsL_law0_r6 ++ (wsL_law0_r7 ++ (wsL_law0_r8 ++ (wsL_law0_r9 ++ (wsL_law0_r10 ++ (wsL_law0_r11 ++ (wsL_law0_r12 ++ (wsL_law0_r13 ++ (wsL_law0_r14 ++ (wsL_law0_r15 ++ (wsL_law0_r16 ++ (wsL_law0_r17 ++ (wsL_law0_r18 ++ (wsL_law0_r19 ++ (wsL_law0_r20 ++ wsL_law0_r21)))))))))))))))))))) ++ wsX30 ++ wsX40 ++ wsX10 ++ wsX20 ++ wsX00 ++ ([] : List Cond), w ∈ lw_tbl
  exact List.forall_mem_append.mpr ⟨List.forall_mem_append.mpr ⟨List.forall_mem_append.mpr ⟨List.forall_mem_append.mpr ⟨List.forall_mem_append.mpr ⟨List.forall_mem_append.mpr ⟨List.forall_mem_append.mpr ⟨wsL_law0_r1_in, List.forall_mem_append.mpr ⟨wsL_law0_r2_in, List.forall_mem_append.mpr ⟨wsL_law0_r3_in, List.forall_mem_append.mpr ⟨wsL_law0_r4_in, List.forall_mem_append.mpr ⟨wsL_law0_r5_in, List.forall_mem_append.mpr ⟨wsL_law0_r6_in, List.forall_mem_append.mpr ⟨wsL_law0_r7_in, List.forall_mem_append.mpr ⟨wsL_law0_r8_in, List.forall_mem_append.mpr ⟨wsL_law0_r9_in, List.forall_mem_append.mpr ⟨wsL_law0_r10_in, List.forall_mem_append.mpr ⟨wsL_law0_r11_in, List.forall_mem_append.mpr ⟨wsL_law0_r12_in, List.forall_mem_append.mpr ⟨wsL_law0_r13_in, List.forall_mem_append.mpr ⟨wsL_law0_r14_in, List.forall_mem_append.mpr ⟨wsL_law0_r15_in, List.forall_mem_append.mpr ⟨wsL_law0_r16_in, List.forall_mem_append.mpr ⟨wsL_law0_r17_in, List.forall_mem_append.mpr ⟨wsL_law0_r18_in, List.forall_mem_append.mpr ⟨wsL_law0_r19_in, List.forall_mem_append.mpr ⟨wsL_law0_r20_in, wsL_law0_r21_in⟩⟩⟩⟩⟩⟩⟩⟩⟩⟩⟩⟩⟩⟩⟩⟩⟩⟩⟩⟩, wsX30_in⟩, wsX40_in⟩, wsX10_in⟩, wsX20_in⟩, wsX00_in⟩, fun _ h => absurd h List.not_mem_nil⟩
theorem wsL_law_x0 : ∀ w ∈ (vx_atS RX3 145 "java/lang/IllegalArgumentException" ["java/lang/RuntimeException", "java/lang/Exception"]).filter goodWord, w ∈ lw_tbl := by decide +kernel
theorem wsL_law_x1 : ∀ w ∈ (vx_atS RX3 81 "java/lang/IllegalStateException" ["java/lang/RuntimeException", "java/lang/Exception"]).filter goodWord, w ∈ lw_tbl := by decide +kernel
theorem wsL_law_in : ∀ w ∈ wsL_law, w ∈ lw_tbl := fun w h => (List.mem_append.mp h).elim (fun h => (List.mem_append.mp h).elim (fun h => wsL_law_in0 w h) (fun h => wsL_law_x0 w h)) (fun h => wsL_law_x1 w h)
theorem inlX0 : ∀ w ∈ wsX00, w ∈ wsL_law := fun _ h => List.mem_append_left _ (List.mem_append_left _ (List.mem_append_left _ (List.mem_append_right _ h)))
theorem inX0 : ∀ w ∈ wsX00, w ∈ lw_tbl := fun w h => wsL_law_in w (inlX0 w h)
theorem inlX1 : ∀ w ∈ wsX10, w ∈ wsL_law := fun _ h => List.mem_append_left _ (List.mem_append_left _ (List.mem_append_left _ (List.mem_append_left _ (List.mem_append_left _ (List.mem_append_right _ h)))))
theorem inX1 : ∀ w ∈ wsX10, w ∈ lw_tbl := fun w h => wsL_law_in w (inlX1 w h)
theorem inlX2 : ∀ w ∈ wsX20, w ∈ wsL_law := fun _ h => List.mem_append_left _ (List.mem_append_left _ (List.mem_append_left _ (List.mem_append_left _ (List.mem_append_right _ h))))
theorem inX2 : ∀ w ∈ wsX20, w ∈ lw_tbl := fun w h => wsL_law_in w (inlX2 w h)
theorem inlX3 : ∀ w ∈ wsX30, w ∈ wsL_law := fun _ h => List.mem_append_left _ (List.mem_append_left _ (List.mem_append_left _ (List.mem_append_left _ (List.mem_append_left _ (List.mem_append_left _ (List.mem_append_left _ (List.mem_append_right _ h)))))))
theorem inX3 : ∀ w ∈ wsX30, w ∈ lw_tbl := fun w h => wsL_law_in w (inlX3 w h)
theorem inlX4 : ∀ w ∈ wsX40, w ∈ wsL_law := fun _ h => List.mem_append_left _ (List.mem_append_left _ (List.mem_append_left _ (List.mem_append_left _ (List.mem_append_left _ (List.mem_append_left _ (List.mem_append_right _ h))))))
theorem inX4 : ∀ w ∈ wsX40, w ∈ lw_tbl := fun w h => wsL_law_in w (inlX4 w h)
theorem inJ6 : ∀ w ∈ wsJ60, w ∈ lw_tbl := by decide +kernel
theorem inJ9 : ∀ w ∈ wsJ90, w ∈ lw_tbl := by decide +kernel
theorem inJ0 : ∀ w ∈ wsJ00, w ∈ lw_tbl := by decide +kernel
theorem inJ10 : ∀ w ∈ wsJ100, w ∈ lw_tbl := by decide +kernel
end
section
theorem dX0_init_0 : decode cX0_init 0 = .ok (.aload_n 0, 1) := by decide +kernel
theorem dX0_init_1 : decode cX0_init 1 = .ok (.invokespecial 3, 3) := by decide +kernel
theorem dX0_init_4 : decode cX0_init 4 = .ok (.aload_n 0, 1) := by decide +kernel
theorem dX0_init_5 : decode cX0_init 5 = .ok (.iconst 5, 1) := by decide +kernel
theorem dX0_init_6 : decode cX0_init 6 = .ok (.newarray .int, 2) := by decide +kernel
theorem dX0_init_8 : decode cX0_init 8 = .ok (.putfield 9, 3) := by decide +kernel
theorem dX0_init_11 : decode cX0_init 11 = .ok (.aload_n 0, 1) := by decide +kernel
theorem dX0_init_12 : decode cX0_init 12 = .ok (.iconst 5, 1) := by decide +kernel
theorem dX0_init_13 : decode cX0_init 13 = .ok (.newarray .int, 2) := by decide +kernel
theorem dX0_init_15 : decode cX0_init 15 = .ok (.putfield 15, 3) := by decide +kernel
theorem dX0_init_18 : decode cX0_init 18 = .ok (.return_, 1) := by decide +kernel
set_option maxRecDepth 20000 in
theorem ggX0_add_X3_isTest : GoodIn wsX0_add wsX3_isTest := goodIn_r _ [9, 10, 11, 8, 12] (by decide +kernel) (by decide +kernel)
set_option maxRecDepth 20000 in
theorem gX0_add_X3_isTest_n18 : GoodIn wsX0_add (wsX3_isTest) := ggX0_add_X3_isTest
theorem dX0_add_0 : decode cX0_add 0 = .ok (.iload_n 1, 1) := by decide +kernel
theorem dX0_add_1 : decode cX0_add 1 = .ok (.invokestatic 18, 3) := by decide +kernel
theorem dX0_add_4 : decode cX0_add 4 = .ok (.ifCond .ne 4, 3) := by decide +kernel
theorem dX0_add_7 : decode cX0_add 7 = .ok (.return_, 1) := by decide +kernel
theorem dX0_add_8 : decode cX0_add 8 = .ok (.aload_n 0, 1) := by decide +kernel
theorem dX0_add_9 : decode cX0_add 9 = .ok (.getfield 9, 3) := by decide +kernel
theorem dX0_add_12 : decode cX0_add 12 = .ok (.iload_n 1, 1) := by decide +kernel
theorem dX0_add_13 : decode cX0_add 13 = .ok (.aload_n 0, 1) := by decide +kernel
theorem dX0_add_14 : decode cX0_add 14 = .ok (.getfield 9, 3) := by decide +kernel
theorem dX0_add_17 : decode cX0_add 17 = .ok (.iload_n 1, 1) := by decide +kernel
theorem dX0_add_18 : decode cX0_add 18 = .ok (.iaload, 1) := by decide +kernel
theorem dX0_add_19 : decode cX0_add 19 = .ok (.iconst 1, 1) := by decide +kernel
theorem dX0_add_20 : decode cX0_add 20 = .ok (.ishl, 1) := by decide +kernel
theorem dX0_add_21 : decode cX0_add 21 = .ok (.iload_n 2, 1) := by decide +kernel
theorem dX0_add_22 : decode cX0_add 22 = .ok (.ifCond .eq 7, 3) := by decide +kernel
theorem dX0_add_25 : decode cX0_add 25 = .ok (.iconst 1, 1) := by decide +kernel
theorem dX0_add_26 : decode cX0_add 26 = .ok (.goto 4, 3) := by decide +kernel
theorem dX0_add_29 : decode cX0_add 29 = .ok (.iconst 0, 1) := by decide +kernel
theorem dX0_add_30 : decode cX0_add 30 = .ok (.ior, 1) := by decide +kernel
theorem dX0_add_31 : decode cX0_add 31 = .ok (.iastore, 1) := by decide +kernel
theorem dX0_add_32 : decode cX0_add 32 = .ok (.aload_n 0, 1) := by decide +kernel
theorem dX0_add_33 : decode cX0_add 33 = .ok (.getfield 15, 3) := by decide +kernel
theorem dX0_add_36 : decode cX0_add 36 = .ok (.iload_n 1, 1) := by decide +kernel
theorem dX0_add_37 : decode cX0_add 37 = .ok (.aload_n 0, 1) := by decide +kernel
theorem dX0_add_38 : decode cX0_add 38 = .ok (.getfield 15, 3) := by decide +kernel
theorem dX0_add_41 : decode cX0_add 41 = .ok (.iload_n 1, 1) := by decide +kernel
theorem dX0_add_42 : decode cX0_add 42 = .ok (.iaload, 1) := by decide +kernel
theorem dX0_add_43 : decode cX0_add 43 = .ok (.iconst 1, 1) := by decide +kernel
theorem dX0_add_44 : decode cX0_add 44 = .ok (.iadd, 1) := by decide +kernel
theorem dX0_add_45 : decode cX0_add 45 = .ok (.bipush 10, 2) := by decide +kernel
theorem dX0_add_47 : decode cX0_add 47 = .ok (.invokestatic 22, 3) := by decide +kernel
theorem dX0_add_50 : decode cX0_add 50 = .ok (.iastore, 1) := by decide +kernel
theorem dX0_add_51 : decode cX0_add 51 = .ok (.return_, 1) := by decide +kernel
set_option maxRecDepth 20000 in
theorem ggX0_length_X3_isTest : GoodIn wsX0_length wsX3_isTest := goodIn_r _ [4, 5, 6, 3, 7] (by decide +kernel) (by decide +kernel)
set_option maxRecDepth 20000 in
theorem gX0_length_X3_isTest_n18 : GoodIn wsX0_length (wsX3_isTest) := ggX0_length_X3_isTest
theorem dX0_length_0 : decode cX0_length 0 = .ok (.iload_n 1, 1) := by decide +kernel
theorem dX0_length_1 : decode cX0_length 1 = .ok (.invokestatic 18, 3) := by decide +kernel
theorem dX0_length_4 : decode cX0_length 4 = .ok (.ifCond .eq 12, 3) := by decide +kernel
theorem dX0_length_7 : decode cX0_length 7 = .ok (.aload_n 0, 1) := by decide +kernel
theorem dX0_length_8 : decode cX0_length 8 = .ok (.getfield 15, 3) := by decide +kernel
theorem dX0_length_11 : decode cX0_length 11 = .ok (.iload_n 1, 1) := by decide +kernel
theorem dX0_length_12 : decode cX0_length 12 = .ok (.iaload, 1) := by decide +kernel
theorem dX0_length_13 : decode cX0_length 13 = .ok (.goto 4, 3) := by decide +kernel
theorem dX0_length_16 : decode cX0_length 16 = .ok (.iconst 0, 1) := by decide +kernel
theorem dX0_length_17 : decode cX0_length 17 = .ok (.ireturn, 1) := by decide +kernel
set_option maxRecDepth 20000 in
theorem ggX0_changes_X3_isTest : GoodIn wsX0_changes wsX3_isTest := goodIn_r _ [5, 6, 7, 4, 8] (by decide +kernel) (by decide +kernel)
set_option maxRecDepth 20000 in
theorem gX0_changes_X3_isTest_n18 : GoodIn wsX0_changes (wsX3_isTest) := ggX0_changes_X3_isTest
set_option maxRecDepth 20000 in
theorem ggX0_changes_J6_bitCount_0f7a4 : GoodIn wsX0_changes wsJ6_bitCount_0f7a4 := goodIn_r _ [12, 13, 14, 15] (by decide +kernel) (by decide +kernel)
set_option maxRecDepth 20000 in
theorem gX0_changes_J6_bitCount_0f7a4 : GoodIn wsX0_changes (va_wsS RX0 28 yJ6_bitCount_0f7a4 wsJ6_bitCount_0f7a4) := goodIn_app (goodIn_of _ (by decide +kernel)) ggX0_changes_J6_bitCount_0f7a4
theorem dX0_changes_0 : decode cX0_changes 0 = .ok (.iload_n 1, 1) := by decide +kernel
theorem dX0_changes_1 : decode cX0_changes 1 = .ok (.invokestatic 18, 3) := by decide +kernel
theorem dX0_changes_4 : decode cX0_changes 4 = .ok (.ifCond .eq 13, 3) := by decide +kernel
theorem dX0_changes_7 : decode cX0_changes 7 = .ok (.aload_n 0, 1) := by decide +kernel
theorem dX0_changes_8 : decode cX0_changes 8 = .ok (.getfield 15, 3) := by decide +kernel
theorem dX0_changes_11 : decode cX0_changes 11 = .ok (.iload_n 1, 1) := by decide +kernel
theorem dX0_changes_12 : decode cX0_changes 12 = .ok (.iaload, 1) := by decide +kernel
theorem dX0_changes_13 : decode cX0_changes 13 = .ok (.iconst 2, 1) := by decide +kernel
theorem dX0_changes_14 : decode cX0_changes 14 = .ok (.if_icmp .ge 5, 3) := by decide +kernel
theorem dX0_changes_17 : decode cX0_changes 17 = .ok (.iconst 0, 1) := by decide +kernel
theorem dX0_changes_18 : decode cX0_changes 18 = .ok (.ireturn, 1) := by decide +kernel
theorem dX0_changes_19 : decode cX0_changes 19 = .ok (.iconst 1, 1) := by decide +kernel
theorem dX0_changes_20 : decode cX0_changes 20 = .ok (.aload_n 0, 1) := by decide +kernel
theorem dX0_changes_21 : decode cX0_changes 21 = .ok (.getfield 15, 3) := by decide +kernel
theorem dX0_changes_24 : decode cX0_changes 24 = .ok (.iload_n 1, 1) := by decide +kernel
theorem dX0_changes_25 : decode cX0_changes 25 = .ok (.iaload, 1) := by decide +kernel
theorem dX0_changes_26 : decode cX0_changes 26 = .ok (.iconst 1, 1) := by decide +kernel
theorem dX0_changes_27 : decode cX0_changes 27 = .ok (.isub, 1) := by decide +kernel
theorem dX0_changes_28 : decode cX0_changes 28 = .ok (.ishl, 1) := by decide +kernel
theorem dX0_changes_29 : decode cX0_changes 29 = .ok (.iconst 1, 1) := by decide +kernel
theorem dX0_changes_30 : decode cX0_changes 30 = .ok (.isub, 1) := by decide +kernel
theorem dX0_changes_31 : decode cX0_changes 31 = .ok (.istore_n 2, 1) := by decide +kernel
theorem dX0_changes_32 : decode cX0_changes 32 = .ok (.aload_n 0, 1) := by decide +kernel
theorem dX0_changes_33 : decode cX0_changes 33 = .ok (.getfield 9, 3) := by decide +kernel
theorem dX0_changes_36 : decode cX0_changes 36 = .ok (.iload_n 1, 1) := by decide +kernel
theorem dX0_changes_37 : decode cX0_changes 37 = .ok (.iaload, 1) := by decide +kernel
theorem dX0_changes_38 : decode cX0_changes 38 = .ok (.aload_n 0, 1) := by decide +kernel
theorem dX0_changes_39 : decode cX0_changes 39 = .ok (.getfield 9, 3) := by decide +kernel
theorem dX0_changes_42 : decode cX0_changes 42 = .ok (.iload_n 1, 1) := by decide +kernel
theorem dX0_changes_43 : decode cX0_changes 43 = .ok (.iaload, 1) := by decide +kernel
theorem dX0_changes_44 : decode cX0_changes 44 = .ok (.iconst 1, 1) := by decide +kernel
theorem dX0_changes_45 : decode cX0_changes 45 = .ok (.ishr, 1) := by decide +kernel
theorem dX0_changes_46 : decode cX0_changes 46 = .ok (.ixor, 1) := by decide +kernel
theorem dX0_changes_47 : decode cX0_changes 47 = .ok (.istore_n 3, 1) := by decide +kernel
theorem dX0_changes_48 : decode cX0_changes 48 = .ok (.iload_n 3, 1) := by decide +kernel
theorem dX0_changes_49 : decode cX0_changes 49 = .ok (.iload_n 2, 1) := by decide +kernel
theorem dX0_changes_50 : decode cX0_changes 50 = .ok (.iand, 1) := by decide +kernel
theorem dX0_changes_51 : decode cX0_changes 51 = .ok (.invokestatic 28, 3) := by decide +kernel
theorem dX0_changes_54 : decode cX0_changes 54 = .ok (.ireturn, 1) := by decide +kernel
theorem dX1_init_0 : decode cX1_init 0 = .ok (.aload_n 0, 1) := by decide +kernel
theorem dX1_init_1 : decode cX1_init 1 = .ok (.invokespecial 3, 3) := by decide +kernel
theorem dX1_init_4 : decode cX1_init 4 = .ok (.aload_n 0, 1) := by decide +kernel
theorem dX1_init_5 : decode cX1_init 5 = .ok (.sipush 2880, 3) := by decide +kernel
theorem dX1_init_8 : decode cX1_init 8 = .ok (.newarray .int, 2) := by decide +kernel
theorem dX1_init_10 : decode cX1_init 10 = .ok (.putfield 9, 3) := by decide +kernel
theorem dX1_init_13 : decode cX1_init 13 = .ok (.aload_n 0, 1) := by decide +kernel
theorem dX1_init_14 : decode cX1_init 14 = .ok (.bipush 45, 2) := by decide +kernel
theorem dX1_init_16 : decode cX1_init 16 = .ok (.newarray .boolean, 2) := by decide +kernel
theorem dX1_init_18 : decode cX1_init 18 = .ok (.putfield 15, 3) := by decide +kernel
theorem dX1_init_21 : decode cX1_init 21 = .ok (.iconst 0, 1) := by decide +kernel
theorem dX1_init_22 : decode cX1_init 22 = .ok (.istore_n 1, 1) := by decide +kernel
theorem dX1_init_23 : decode cX1_init 23 = .ok (.iload_n 1, 1) := by decide +kernel
theorem dX1_init_24 : decode cX1_init 24 = .ok (.iconst 5, 1) := by decide +kernel
theorem dX1_init_25 : decode cX1_init 25 = .ok (.if_icmp .ge 16, 3) := by decide +kernel
theorem dX1_init_28 : decode cX1_init 28 = .ok (.aload_n 0, 1) := by decide +kernel
theorem dX1_init_29 : decode cX1_init 29 = .ok (.getfield 15, 3) := by decide +kernel
theorem dX1_init_32 : decode cX1_init 32 = .ok (.iload_n 1, 1) := by decide +kernel
theorem dX1_init_33 : decode cX1_init 33 = .ok (.iconst 1, 1) := by decide +kernel
theorem dX1_init_34 : decode cX1_init 34 = .ok (.bastore, 1) := by decide +kernel
theorem dX1_init_35 : decode cX1_init 35 = .ok (.iinc 1 1, 3) := by decide +kernel
theorem dX1_init_38 : decode cX1_init 38 = .ok (.goto (-15), 3) := by decide +kernel
theorem dX1_init_41 : decode cX1_init 41 = .ok (.return_, 1) := by decide +kernel
set_option maxRecDepth 20000 in
theorem ggX1_isSlot_X3_isWithin : GoodIn wsX1_isSlot wsX3_isWithin := goodIn_r _ [3] (by decide +kernel) (by decide +kernel)
set_option maxRecDepth 20000 in
theorem gX1_isSlot_X3_isWithin_n19 : GoodIn wsX1_isSlot (wsX3_isWithin) := ggX1_isSlot_X3_isWithin
theorem dX1_isSlot_0 : decode cX1_isSlot 0 = .ok (.iload_n 0, 1) := by decide +kernel
theorem dX1_isSlot_1 : decode cX1_isSlot 1 = .ok (.iconst 0, 1) := by decide +kernel
theorem dX1_isSlot_2 : decode cX1_isSlot 2 = .ok (.bipush 44, 2) := by decide +kernel
theorem dX1_isSlot_4 : decode cX1_isSlot 4 = .ok (.invokestatic 19, 3) := by decide +kernel
theorem dX1_isSlot_7 : decode cX1_isSlot 7 = .ok (.ireturn, 1) := by decide +kernel
theorem dX1_place_0 : decode cX1_place 0 = .ok (.iload_n 0, 1) := by decide +kernel
theorem dX1_place_1 : decode cX1_place 1 = .ok (.bipush 64, 2) := by decide +kernel
theorem dX1_place_3 : decode cX1_place 3 = .ok (.imul, 1) := by decide +kernel
theorem dX1_place_4 : decode cX1_place 4 = .ok (.iload_n 2, 1) := by decide +kernel
theorem dX1_place_5 : decode cX1_place 5 = .ok (.bipush 8, 2) := by decide +kernel
theorem dX1_place_7 : decode cX1_place 7 = .ok (.imul, 1) := by decide +kernel
theorem dX1_place_8 : decode cX1_place 8 = .ok (.iadd, 1) := by decide +kernel
theorem dX1_place_9 : decode cX1_place 9 = .ok (.iload_n 1, 1) := by decide +kernel
theorem dX1_place_10 : decode cX1_place 10 = .ok (.iadd, 1) := by decide +kernel
theorem dX1_place_11 : decode cX1_place 11 = .ok (.ireturn, 1) := by decide +kernel
set_option maxRecDepth 20000 in
theorem ggX1_has_X1_isSlot : GoodIn wsX1_has wsX1_isSlot := goodIn_r _ [5, 6, 7, 8] (by decide +kernel) (by decide +kernel)
set_option maxRecDepth 20000 in
theorem gX1_has_X1_isSlot : GoodIn wsX1_has (va_wsS RX1 23 yX1_isSlot wsX1_isSlot) := goodIn_app (goodIn_of _ (by decide +kernel)) ggX1_has_X1_isSlot
theorem dX1_has_0 : decode cX1_has 0 = .ok (.iload_n 1, 1) := by decide +kernel
theorem dX1_has_1 : decode cX1_has 1 = .ok (.invokestatic 23, 3) := by decide +kernel
theorem dX1_has_4 : decode cX1_has 4 = .ok (.ifCond .eq 16, 3) := by decide +kernel
theorem dX1_has_7 : decode cX1_has 7 = .ok (.aload_n 0, 1) := by decide +kernel
theorem dX1_has_8 : decode cX1_has 8 = .ok (.getfield 15, 3) := by decide +kernel
theorem dX1_has_11 : decode cX1_has 11 = .ok (.iload_n 1, 1) := by decide +kernel
theorem dX1_has_12 : decode cX1_has 12 = .ok (.baload, 1) := by decide +kernel
theorem dX1_has_13 : decode cX1_has 13 = .ok (.ifCond .eq 7, 3) := by decide +kernel
theorem dX1_has_16 : decode cX1_has 16 = .ok (.iconst 1, 1) := by decide +kernel
theorem dX1_has_17 : decode cX1_has 17 = .ok (.goto 4, 3) := by decide +kernel
theorem dX1_has_20 : decode cX1_has 20 = .ok (.iconst 0, 1) := by decide +kernel
theorem dX1_has_21 : decode cX1_has 21 = .ok (.ireturn, 1) := by decide +kernel
set_option maxRecDepth 20000 in
theorem ggX1_at_X1_isSlot : GoodIn wsX1_at wsX1_isSlot := goodIn_r _ [5, 6, 7, 8] (by decide +kernel) (by decide +kernel)
set_option maxRecDepth 20000 in
theorem gX1_at_X1_isSlot : GoodIn wsX1_at (va_wsS RX1 23 yX1_isSlot wsX1_isSlot) := goodIn_app (goodIn_of _ (by decide +kernel)) ggX1_at_X1_isSlot
set_option maxRecDepth 20000 in
theorem ggX1_at_X3_isCell : GoodIn wsX1_at wsX3_isCell := goodIn_r _ [10, 11, 6, 7, 8] (by decide +kernel) (by decide +kernel)
set_option maxRecDepth 20000 in
theorem gX1_at_X3_isCell_n27 : GoodIn wsX1_at (wsX3_isCell) := ggX1_at_X3_isCell
set_option maxRecDepth 20000 in
theorem ggX1_at_X1_place : GoodIn wsX1_at wsX1_place := goodIn_r _ [14] (by decide +kernel) (by decide +kernel)
set_option maxRecDepth 20000 in
theorem gX1_at_X1_place : GoodIn wsX1_at (va_wsS RX1 31 yX1_place wsX1_place) := goodIn_app (goodIn_of _ (by decide +kernel)) ggX1_at_X1_place
theorem dX1_at_0 : decode cX1_at 0 = .ok (.iload_n 1, 1) := by decide +kernel
theorem dX1_at_1 : decode cX1_at 1 = .ok (.invokestatic 23, 3) := by decide +kernel
theorem dX1_at_4 : decode cX1_at 4 = .ok (.ifCond .eq 11, 3) := by decide +kernel
theorem dX1_at_7 : decode cX1_at 7 = .ok (.iload_n 2, 1) := by decide +kernel
theorem dX1_at_8 : decode cX1_at 8 = .ok (.iload_n 3, 1) := by decide +kernel
theorem dX1_at_9 : decode cX1_at 9 = .ok (.invokestatic 27, 3) := by decide +kernel
theorem dX1_at_12 : decode cX1_at 12 = .ok (.ifCond .ne 5, 3) := by decide +kernel
theorem dX1_at_15 : decode cX1_at 15 = .ok (.iconst 0, 1) := by decide +kernel
theorem dX1_at_16 : decode cX1_at 16 = .ok (.ireturn, 1) := by decide +kernel
theorem dX1_at_17 : decode cX1_at 17 = .ok (.aload_n 0, 1) := by decide +kernel
theorem dX1_at_18 : decode cX1_at 18 = .ok (.getfield 9, 3) := by decide +kernel
theorem dX1_at_21 : decode cX1_at 21 = .ok (.iload_n 1, 1) := by decide +kernel
theorem dX1_at_22 : decode cX1_at 22 = .ok (.iload_n 2, 1) := by decide +kernel
theorem dX1_at_23 : decode cX1_at 23 = .ok (.iload_n 3, 1) := by decide +kernel
theorem dX1_at_24 : decode cX1_at 24 = .ok (.invokestatic 31, 3) := by decide +kernel
theorem dX1_at_27 : decode cX1_at 27 = .ok (.iaload, 1) := by decide +kernel
theorem dX1_at_28 : decode cX1_at 28 = .ok (.ireturn, 1) := by decide +kernel
set_option maxRecDepth 20000 in
theorem ggX1_put_X1_isSlot : GoodIn wsX1_put wsX1_isSlot := goodIn_r _ [5, 6, 7, 8] (by decide +kernel) (by decide +kernel)
set_option maxRecDepth 20000 in
theorem gX1_put_X1_isSlot : GoodIn wsX1_put (va_wsS RX1 23 yX1_isSlot wsX1_isSlot) := goodIn_app (goodIn_of _ (by decide +kernel)) ggX1_put_X1_isSlot
set_option maxRecDepth 20000 in
theorem ggX1_put_X3_isCell : GoodIn wsX1_put wsX3_isCell := goodIn_r _ [10, 11, 6, 7, 8] (by decide +kernel) (by decide +kernel)
set_option maxRecDepth 20000 in
theorem gX1_put_X3_isCell_n27 : GoodIn wsX1_put (wsX3_isCell) := ggX1_put_X3_isCell
set_option maxRecDepth 20000 in
theorem ggX1_put_X1_place : GoodIn wsX1_put wsX1_place := goodIn_r _ [14] (by decide +kernel) (by decide +kernel)
set_option maxRecDepth 20000 in
theorem gX1_put_X1_place : GoodIn wsX1_put (va_wsS RX1 31 yX1_place wsX1_place) := goodIn_app (goodIn_of _ (by decide +kernel)) ggX1_put_X1_place
theorem dX1_put_0 : decode cX1_put 0 = .ok (.iload_n 1, 1) := by decide +kernel
theorem dX1_put_1 : decode cX1_put 1 = .ok (.invokestatic 23, 3) := by decide +kernel
theorem dX1_put_4 : decode cX1_put 4 = .ok (.ifCond .eq 11, 3) := by decide +kernel
theorem dX1_put_7 : decode cX1_put 7 = .ok (.iload_n 2, 1) := by decide +kernel
theorem dX1_put_8 : decode cX1_put 8 = .ok (.iload_n 3, 1) := by decide +kernel
theorem dX1_put_9 : decode cX1_put 9 = .ok (.invokestatic 27, 3) := by decide +kernel
theorem dX1_put_12 : decode cX1_put 12 = .ok (.ifCond .ne 5, 3) := by decide +kernel
theorem dX1_put_15 : decode cX1_put 15 = .ok (.iconst 0, 1) := by decide +kernel
theorem dX1_put_16 : decode cX1_put 16 = .ok (.ireturn, 1) := by decide +kernel
theorem dX1_put_17 : decode cX1_put 17 = .ok (.iload_n 1, 1) := by decide +kernel
theorem dX1_put_18 : decode cX1_put 18 = .ok (.iload_n 2, 1) := by decide +kernel
theorem dX1_put_19 : decode cX1_put 19 = .ok (.iload_n 3, 1) := by decide +kernel
theorem dX1_put_20 : decode cX1_put 20 = .ok (.invokestatic 31, 3) := by decide +kernel
theorem dX1_put_23 : decode cX1_put 23 = .ok (.istore 5, 2) := by decide +kernel
theorem dX1_put_25 : decode cX1_put 25 = .ok (.aload_n 0, 1) := by decide +kernel
theorem dX1_put_26 : decode cX1_put 26 = .ok (.getfield 9, 3) := by decide +kernel
theorem dX1_put_29 : decode cX1_put 29 = .ok (.iload 5, 2) := by decide +kernel
theorem dX1_put_31 : decode cX1_put 31 = .ok (.iaload, 1) := by decide +kernel
theorem dX1_put_32 : decode cX1_put 32 = .ok (.iload 4, 2) := by decide +kernel
theorem dX1_put_34 : decode cX1_put 34 = .ok (.if_icmp .eq 7, 3) := by decide +kernel
theorem dX1_put_37 : decode cX1_put 37 = .ok (.iconst 1, 1) := by decide +kernel
theorem dX1_put_38 : decode cX1_put 38 = .ok (.goto 4, 3) := by decide +kernel
theorem dX1_put_41 : decode cX1_put 41 = .ok (.iconst 0, 1) := by decide +kernel
theorem dX1_put_42 : decode cX1_put 42 = .ok (.istore 6, 2) := by decide +kernel
theorem dX1_put_44 : decode cX1_put 44 = .ok (.aload_n 0, 1) := by decide +kernel
theorem dX1_put_45 : decode cX1_put 45 = .ok (.getfield 9, 3) := by decide +kernel
theorem dX1_put_48 : decode cX1_put 48 = .ok (.iload 5, 2) := by decide +kernel
theorem dX1_put_50 : decode cX1_put 50 = .ok (.iload 4, 2) := by decide +kernel
theorem dX1_put_52 : decode cX1_put 52 = .ok (.iastore, 1) := by decide +kernel
theorem dX1_put_53 : decode cX1_put 53 = .ok (.iload 6, 2) := by decide +kernel
theorem dX1_put_55 : decode cX1_put 55 = .ok (.ireturn, 1) := by decide +kernel
set_option maxRecDepth 20000 in
theorem ggX1_copy_X1_isSlot : GoodIn wsX1_copy wsX1_isSlot := goodIn_r _ [10, 11, 12, 13] (by decide +kernel) (by decide +kernel)
set_option maxRecDepth 20000 in
theorem gX1_copy_X1_isSlot : GoodIn wsX1_copy (va_wsS RX1 23 yX1_isSlot wsX1_isSlot) := goodIn_app (goodIn_of _ (by decide +kernel)) ggX1_copy_X1_isSlot
theorem dX1_copy_0 : decode cX1_copy 0 = .ok (.iload_n 1, 1) := by decide +kernel
theorem dX1_copy_1 : decode cX1_copy 1 = .ok (.invokestatic 23, 3) := by decide +kernel
theorem dX1_copy_4 : decode cX1_copy 4 = .ok (.ifCond .eq 10, 3) := by decide +kernel
theorem dX1_copy_7 : decode cX1_copy 7 = .ok (.iload_n 2, 1) := by decide +kernel
theorem dX1_copy_8 : decode cX1_copy 8 = .ok (.invokestatic 23, 3) := by decide +kernel
theorem dX1_copy_11 : decode cX1_copy 11 = .ok (.ifCond .ne 4, 3) := by decide +kernel
theorem dX1_copy_14 : decode cX1_copy 14 = .ok (.return_, 1) := by decide +kernel
theorem dX1_copy_15 : decode cX1_copy 15 = .ok (.aload_n 0, 1) := by decide +kernel
theorem dX1_copy_16 : decode cX1_copy 16 = .ok (.getfield 9, 3) := by decide +kernel
theorem dX1_copy_19 : decode cX1_copy 19 = .ok (.iload_n 1, 1) := by decide +kernel
theorem dX1_copy_20 : decode cX1_copy 20 = .ok (.bipush 64, 2) := by decide +kernel
theorem dX1_copy_22 : decode cX1_copy 22 = .ok (.imul, 1) := by decide +kernel
theorem dX1_copy_23 : decode cX1_copy 23 = .ok (.aload_n 0, 1) := by decide +kernel
theorem dX1_copy_24 : decode cX1_copy 24 = .ok (.getfield 9, 3) := by decide +kernel
theorem dX1_copy_27 : decode cX1_copy 27 = .ok (.iload_n 2, 1) := by decide +kernel
theorem dX1_copy_28 : decode cX1_copy 28 = .ok (.bipush 64, 2) := by decide +kernel
theorem dX1_copy_30 : decode cX1_copy 30 = .ok (.imul, 1) := by decide +kernel
theorem dX1_copy_31 : decode cX1_copy 31 = .ok (.bipush 64, 2) := by decide +kernel
theorem dX1_copy_33 : decode cX1_copy 33 = .ok (.invokestatic 35, 3) := by decide +kernel
theorem dX1_copy_36 : decode cX1_copy 36 = .ok (.aload_n 0, 1) := by decide +kernel
theorem dX1_copy_37 : decode cX1_copy 37 = .ok (.getfield 15, 3) := by decide +kernel
theorem dX1_copy_40 : decode cX1_copy 40 = .ok (.iload_n 2, 1) := by decide +kernel
theorem dX1_copy_41 : decode cX1_copy 41 = .ok (.aload_n 0, 1) := by decide +kernel
theorem dX1_copy_42 : decode cX1_copy 42 = .ok (.getfield 15, 3) := by decide +kernel
theorem dX1_copy_45 : decode cX1_copy 45 = .ok (.iload_n 1, 1) := by decide +kernel
theorem dX1_copy_46 : decode cX1_copy 46 = .ok (.baload, 1) := by decide +kernel
theorem dX1_copy_47 : decode cX1_copy 47 = .ok (.bastore, 1) := by decide +kernel
theorem dX1_copy_48 : decode cX1_copy 48 = .ok (.return_, 1) := by decide +kernel
set_option maxRecDepth 20000 in
theorem ggX1_same_X1_has : GoodIn wsX1_same wsX1_has := goodIn_r _ [6, 7, 8, 9, 5, 10, 11, 12, 13, 14, 15] (by decide +kernel) (by decide +kernel)
set_option maxRecDepth 20000 in
theorem gX1_same_X1_has : GoodIn wsX1_same (wsV RX1 41 RX1 yX1_has wsX1_has) := goodIn_app (goodIn_of _ (by decide +kernel)) ggX1_same_X1_has
theorem dX1_same_0 : decode cX1_same 0 = .ok (.aload_n 0, 1) := by decide +kernel
theorem dX1_same_1 : decode cX1_same 1 = .ok (.iload_n 1, 1) := by decide +kernel
theorem dX1_same_2 : decode cX1_same 2 = .ok (.invokevirtual 41, 3) := by decide +kernel
theorem dX1_same_5 : decode cX1_same 5 = .ok (.ifCond .eq 11, 3) := by decide +kernel
theorem dX1_same_8 : decode cX1_same 8 = .ok (.aload_n 0, 1) := by decide +kernel
theorem dX1_same_9 : decode cX1_same 9 = .ok (.iload_n 2, 1) := by decide +kernel
theorem dX1_same_10 : decode cX1_same 10 = .ok (.invokevirtual 41, 3) := by decide +kernel
theorem dX1_same_13 : decode cX1_same 13 = .ok (.ifCond .ne 22, 3) := by decide +kernel
theorem dX1_same_16 : decode cX1_same 16 = .ok (.aload_n 0, 1) := by decide +kernel
theorem dX1_same_17 : decode cX1_same 17 = .ok (.iload_n 1, 1) := by decide +kernel
theorem dX1_same_18 : decode cX1_same 18 = .ok (.invokevirtual 41, 3) := by decide +kernel
theorem dX1_same_21 : decode cX1_same 21 = .ok (.aload_n 0, 1) := by decide +kernel
theorem dX1_same_22 : decode cX1_same 22 = .ok (.iload_n 2, 1) := by decide +kernel
theorem dX1_same_23 : decode cX1_same 23 = .ok (.invokevirtual 41, 3) := by decide +kernel
theorem dX1_same_26 : decode cX1_same 26 = .ok (.if_icmp .ne 7, 3) := by decide +kernel
theorem dX1_same_29 : decode cX1_same 29 = .ok (.iconst 1, 1) := by decide +kernel
theorem dX1_same_30 : decode cX1_same 30 = .ok (.goto 4, 3) := by decide +kernel
theorem dX1_same_33 : decode cX1_same 33 = .ok (.iconst 0, 1) := by decide +kernel
theorem dX1_same_34 : decode cX1_same 34 = .ok (.ireturn, 1) := by decide +kernel
theorem dX1_same_35 : decode cX1_same 35 = .ok (.iconst 0, 1) := by decide +kernel
theorem dX1_same_36 : decode cX1_same 36 = .ok (.istore_n 3, 1) := by decide +kernel
theorem dX1_same_37 : decode cX1_same 37 = .ok (.iload_n 3, 1) := by decide +kernel
theorem dX1_same_38 : decode cX1_same 38 = .ok (.bipush 64, 2) := by decide +kernel
theorem dX1_same_40 : decode cX1_same 40 = .ok (.if_icmp .ge 36, 3) := by decide +kernel
theorem dX1_same_43 : decode cX1_same 43 = .ok (.aload_n 0, 1) := by decide +kernel
theorem dX1_same_44 : decode cX1_same 44 = .ok (.getfield 9, 3) := by decide +kernel
theorem dX1_same_47 : decode cX1_same 47 = .ok (.iload_n 1, 1) := by decide +kernel
theorem dX1_same_48 : decode cX1_same 48 = .ok (.bipush 64, 2) := by decide +kernel
theorem dX1_same_50 : decode cX1_same 50 = .ok (.imul, 1) := by decide +kernel
theorem dX1_same_51 : decode cX1_same 51 = .ok (.iload_n 3, 1) := by decide +kernel
theorem dX1_same_52 : decode cX1_same 52 = .ok (.iadd, 1) := by decide +kernel
theorem dX1_same_53 : decode cX1_same 53 = .ok (.iaload, 1) := by decide +kernel
theorem dX1_same_54 : decode cX1_same 54 = .ok (.aload_n 0, 1) := by decide +kernel
theorem dX1_same_55 : decode cX1_same 55 = .ok (.getfield 9, 3) := by decide +kernel
theorem dX1_same_58 : decode cX1_same 58 = .ok (.iload_n 2, 1) := by decide +kernel
theorem dX1_same_59 : decode cX1_same 59 = .ok (.bipush 64, 2) := by decide +kernel
theorem dX1_same_61 : decode cX1_same 61 = .ok (.imul, 1) := by decide +kernel
theorem dX1_same_62 : decode cX1_same 62 = .ok (.iload_n 3, 1) := by decide +kernel
theorem dX1_same_63 : decode cX1_same 63 = .ok (.iadd, 1) := by decide +kernel
theorem dX1_same_64 : decode cX1_same 64 = .ok (.iaload, 1) := by decide +kernel
theorem dX1_same_65 : decode cX1_same 65 = .ok (.if_icmp .eq 5, 3) := by decide +kernel
theorem dX1_same_68 : decode cX1_same 68 = .ok (.iconst 0, 1) := by decide +kernel
theorem dX1_same_69 : decode cX1_same 69 = .ok (.ireturn, 1) := by decide +kernel
theorem dX1_same_70 : decode cX1_same 70 = .ok (.iinc 3 1, 3) := by decide +kernel
theorem dX1_same_73 : decode cX1_same 73 = .ok (.goto (-36), 3) := by decide +kernel
theorem dX1_same_76 : decode cX1_same 76 = .ok (.iconst 1, 1) := by decide +kernel
theorem dX1_same_77 : decode cX1_same 77 = .ok (.ireturn, 1) := by decide +kernel
theorem dX2_init_0 : decode cX2_init 0 = .ok (.aload_n 0, 1) := by decide +kernel
theorem dX2_init_1 : decode cX2_init 1 = .ok (.invokespecial 3, 3) := by decide +kernel
theorem dX2_init_4 : decode cX2_init 4 = .ok (.aload_n 0, 1) := by decide +kernel
theorem dX2_init_5 : decode cX2_init 5 = .ok (.iconst 5, 1) := by decide +kernel
theorem dX2_init_6 : decode cX2_init 6 = .ok (.newarray .int, 2) := by decide +kernel
theorem dX2_init_8 : decode cX2_init 8 = .ok (.putfield 9, 3) := by decide +kernel
theorem dX2_init_11 : decode cX2_init 11 = .ok (.aload_n 0, 1) := by decide +kernel
theorem dX2_init_12 : decode cX2_init 12 = .ok (.iconst 5, 1) := by decide +kernel
theorem dX2_init_13 : decode cX2_init 13 = .ok (.newarray .int, 2) := by decide +kernel
theorem dX2_init_15 : decode cX2_init 15 = .ok (.putfield 15, 3) := by decide +kernel
theorem dX2_init_18 : decode cX2_init 18 = .ok (.aload_n 0, 1) := by decide +kernel
theorem dX2_init_19 : decode cX2_init 19 = .ok (.iconst 5, 1) := by decide +kernel
theorem dX2_init_20 : decode cX2_init 20 = .ok (.newarray .int, 2) := by decide +kernel
theorem dX2_init_22 : decode cX2_init 22 = .ok (.putfield 18, 3) := by decide +kernel
theorem dX2_init_25 : decode cX2_init 25 = .ok (.aload_n 0, 1) := by decide +kernel
theorem dX2_init_26 : decode cX2_init 26 = .ok (.iconst 5, 1) := by decide +kernel
theorem dX2_init_27 : decode cX2_init 27 = .ok (.newarray .int, 2) := by decide +kernel
theorem dX2_init_29 : decode cX2_init 29 = .ok (.putfield 21, 3) := by decide +kernel
theorem dX2_init_32 : decode cX2_init 32 = .ok (.return_, 1) := by decide +kernel
set_option maxRecDepth 20000 in
theorem ggX2_put_X3_isTest : GoodIn wsX2_put wsX3_isTest := goodIn_r _ [7, 8, 9, 6, 10] (by decide +kernel) (by decide +kernel)
set_option maxRecDepth 20000 in
theorem gX2_put_X3_isTest_n24 : GoodIn wsX2_put (wsX3_isTest) := ggX2_put_X3_isTest
theorem dX2_put_0 : decode cX2_put 0 = .ok (.iload_n 1, 1) := by decide +kernel
theorem dX2_put_1 : decode cX2_put 1 = .ok (.invokestatic 24, 3) := by decide +kernel
theorem dX2_put_4 : decode cX2_put 4 = .ok (.ifCond .ne 4, 3) := by decide +kernel
theorem dX2_put_7 : decode cX2_put 7 = .ok (.return_, 1) := by decide +kernel
theorem dX2_put_8 : decode cX2_put 8 = .ok (.aload_n 0, 1) := by decide +kernel
theorem dX2_put_9 : decode cX2_put 9 = .ok (.getfield 9, 3) := by decide +kernel
theorem dX2_put_12 : decode cX2_put 12 = .ok (.iload_n 1, 1) := by decide +kernel
theorem dX2_put_13 : decode cX2_put 13 = .ok (.iload_n 2, 1) := by decide +kernel
theorem dX2_put_14 : decode cX2_put 14 = .ok (.iastore, 1) := by decide +kernel
theorem dX2_put_15 : decode cX2_put 15 = .ok (.aload_n 0, 1) := by decide +kernel
theorem dX2_put_16 : decode cX2_put 16 = .ok (.getfield 15, 3) := by decide +kernel
theorem dX2_put_19 : decode cX2_put 19 = .ok (.iload_n 1, 1) := by decide +kernel
theorem dX2_put_20 : decode cX2_put 20 = .ok (.iload_n 3, 1) := by decide +kernel
theorem dX2_put_21 : decode cX2_put 21 = .ok (.iastore, 1) := by decide +kernel
theorem dX2_put_22 : decode cX2_put 22 = .ok (.aload_n 0, 1) := by decide +kernel
theorem dX2_put_23 : decode cX2_put 23 = .ok (.getfield 18, 3) := by decide +kernel
theorem dX2_put_26 : decode cX2_put 26 = .ok (.iload_n 1, 1) := by decide +kernel
theorem dX2_put_27 : decode cX2_put 27 = .ok (.iload_n 2, 1) := by decide +kernel
theorem dX2_put_28 : decode cX2_put 28 = .ok (.iload 4, 2) := by decide +kernel
theorem dX2_put_30 : decode cX2_put 30 = .ok (.iadd, 1) := by decide +kernel
theorem dX2_put_31 : decode cX2_put 31 = .ok (.iastore, 1) := by decide +kernel
theorem dX2_put_32 : decode cX2_put 32 = .ok (.aload_n 0, 1) := by decide +kernel
theorem dX2_put_33 : decode cX2_put 33 = .ok (.getfield 21, 3) := by decide +kernel
theorem dX2_put_36 : decode cX2_put 36 = .ok (.iload_n 1, 1) := by decide +kernel
theorem dX2_put_37 : decode cX2_put 37 = .ok (.iload_n 3, 1) := by decide +kernel
theorem dX2_put_38 : decode cX2_put 38 = .ok (.iload 5, 2) := by decide +kernel
theorem dX2_put_40 : decode cX2_put 40 = .ok (.iadd, 1) := by decide +kernel
theorem dX2_put_41 : decode cX2_put 41 = .ok (.iastore, 1) := by decide +kernel
theorem dX2_put_42 : decode cX2_put 42 = .ok (.return_, 1) := by decide +kernel
set_option maxRecDepth 20000 in
theorem ggX2_drop_X2_put : GoodIn wsX2_drop wsX2_put := goodIn_r _ [5, 6, 7, 8, 9, 10, 11, 12, 13, 14, 15, 16, 17, 18, 19] (by decide +kernel) (by decide +kernel)
set_option maxRecDepth 20000 in
theorem gX2_drop_X2_put : GoodIn wsX2_drop (wsV RX2 28 RX2 yX2_put wsX2_put) := goodIn_app (goodIn_of _ (by decide +kernel)) ggX2_drop_X2_put
theorem dX2_drop_0 : decode cX2_drop 0 = .ok (.aload_n 0, 1) := by decide +kernel
theorem dX2_drop_1 : decode cX2_drop 1 = .ok (.iload_n 1, 1) := by decide +kernel
theorem dX2_drop_2 : decode cX2_drop 2 = .ok (.iconst 0, 1) := by decide +kernel
theorem dX2_drop_3 : decode cX2_drop 3 = .ok (.iconst 0, 1) := by decide +kernel
theorem dX2_drop_4 : decode cX2_drop 4 = .ok (.iconst 0, 1) := by decide +kernel
theorem dX2_drop_5 : decode cX2_drop 5 = .ok (.iconst 0, 1) := by decide +kernel
theorem dX2_drop_6 : decode cX2_drop 6 = .ok (.invokevirtual 28, 3) := by decide +kernel
theorem dX2_drop_9 : decode cX2_drop 9 = .ok (.return_, 1) := by decide +kernel
set_option maxRecDepth 20000 in
theorem ggX2_has_X3_isTest : GoodIn wsX2_has wsX3_isTest := goodIn_r _ [5, 6, 7, 4, 8] (by decide +kernel) (by decide +kernel)
set_option maxRecDepth 20000 in
theorem gX2_has_X3_isTest_n24 : GoodIn wsX2_has (wsX3_isTest) := ggX2_has_X3_isTest
theorem dX2_has_0 : decode cX2_has 0 = .ok (.iload_n 1, 1) := by decide +kernel
theorem dX2_has_1 : decode cX2_has 1 = .ok (.invokestatic 24, 3) := by decide +kernel
theorem dX2_has_4 : decode cX2_has 4 = .ok (.ifCond .eq 22, 3) := by decide +kernel
theorem dX2_has_7 : decode cX2_has 7 = .ok (.aload_n 0, 1) := by decide +kernel
theorem dX2_has_8 : decode cX2_has 8 = .ok (.getfield 9, 3) := by decide +kernel
theorem dX2_has_11 : decode cX2_has 11 = .ok (.iload_n 1, 1) := by decide +kernel
theorem dX2_has_12 : decode cX2_has 12 = .ok (.iaload, 1) := by decide +kernel
theorem dX2_has_13 : decode cX2_has 13 = .ok (.aload_n 0, 1) := by decide +kernel
theorem dX2_has_14 : decode cX2_has 14 = .ok (.getfield 18, 3) := by decide +kernel
theorem dX2_has_17 : decode cX2_has 17 = .ok (.iload_n 1, 1) := by decide +kernel
theorem dX2_has_18 : decode cX2_has 18 = .ok (.iaload, 1) := by decide +kernel
theorem dX2_has_19 : decode cX2_has 19 = .ok (.if_icmp .ge 7, 3) := by decide +kernel
theorem dX2_has_22 : decode cX2_has 22 = .ok (.iconst 1, 1) := by decide +kernel
theorem dX2_has_23 : decode cX2_has 23 = .ok (.goto 4, 3) := by decide +kernel
theorem dX2_has_26 : decode cX2_has 26 = .ok (.iconst 0, 1) := by decide +kernel
theorem dX2_has_27 : decode cX2_has 27 = .ok (.ireturn, 1) := by decide +kernel
set_option maxRecDepth 20000 in
theorem ggX2_holds_X3_isTest : GoodIn wsX2_holds wsX3_isTest := goodIn_r _ [7, 8, 9, 6, 10] (by decide +kernel) (by decide +kernel)
set_option maxRecDepth 20000 in
theorem gX2_holds_X3_isTest_n24 : GoodIn wsX2_holds (wsX3_isTest) := ggX2_holds_X3_isTest
theorem dX2_holds_0 : decode cX2_holds 0 = .ok (.iload_n 1, 1) := by decide +kernel
theorem dX2_holds_1 : decode cX2_holds 1 = .ok (.invokestatic 24, 3) := by decide +kernel
theorem dX2_holds_4 : decode cX2_holds 4 = .ok (.ifCond .eq 47, 3) := by decide +kernel
theorem dX2_holds_7 : decode cX2_holds 7 = .ok (.iload_n 2, 1) := by decide +kernel
theorem dX2_holds_8 : decode cX2_holds 8 = .ok (.aload_n 0, 1) := by decide +kernel
theorem dX2_holds_9 : decode cX2_holds 9 = .ok (.getfield 9, 3) := by decide +kernel
theorem dX2_holds_12 : decode cX2_holds 12 = .ok (.iload_n 1, 1) := by decide +kernel
theorem dX2_holds_13 : decode cX2_holds 13 = .ok (.iaload, 1) := by decide +kernel
theorem dX2_holds_14 : decode cX2_holds 14 = .ok (.if_icmp .lt 37, 3) := by decide +kernel
theorem dX2_holds_17 : decode cX2_holds 17 = .ok (.iload_n 2, 1) := by decide +kernel
theorem dX2_holds_18 : decode cX2_holds 18 = .ok (.aload_n 0, 1) := by decide +kernel
theorem dX2_holds_19 : decode cX2_holds 19 = .ok (.getfield 18, 3) := by decide +kernel
theorem dX2_holds_22 : decode cX2_holds 22 = .ok (.iload_n 1, 1) := by decide +kernel
theorem dX2_holds_23 : decode cX2_holds 23 = .ok (.iaload, 1) := by decide +kernel
theorem dX2_holds_24 : decode cX2_holds 24 = .ok (.if_icmp .ge 27, 3) := by decide +kernel
theorem dX2_holds_27 : decode cX2_holds 27 = .ok (.iload_n 3, 1) := by decide +kernel
theorem dX2_holds_28 : decode cX2_holds 28 = .ok (.aload_n 0, 1) := by decide +kernel
theorem dX2_holds_29 : decode cX2_holds 29 = .ok (.getfield 15, 3) := by decide +kernel
theorem dX2_holds_32 : decode cX2_holds 32 = .ok (.iload_n 1, 1) := by decide +kernel
theorem dX2_holds_33 : decode cX2_holds 33 = .ok (.iaload, 1) := by decide +kernel
theorem dX2_holds_34 : decode cX2_holds 34 = .ok (.if_icmp .lt 17, 3) := by decide +kernel
theorem dX2_holds_37 : decode cX2_holds 37 = .ok (.iload_n 3, 1) := by decide +kernel
theorem dX2_holds_38 : decode cX2_holds 38 = .ok (.aload_n 0, 1) := by decide +kernel
theorem dX2_holds_39 : decode cX2_holds 39 = .ok (.getfield 21, 3) := by decide +kernel
theorem dX2_holds_42 : decode cX2_holds 42 = .ok (.iload_n 1, 1) := by decide +kernel
theorem dX2_holds_43 : decode cX2_holds 43 = .ok (.iaload, 1) := by decide +kernel
theorem dX2_holds_44 : decode cX2_holds 44 = .ok (.if_icmp .ge 7, 3) := by decide +kernel
theorem dX2_holds_47 : decode cX2_holds 47 = .ok (.iconst 1, 1) := by decide +kernel
theorem dX2_holds_48 : decode cX2_holds 48 = .ok (.goto 4, 3) := by decide +kernel
theorem dX2_holds_51 : decode cX2_holds 51 = .ok (.iconst 0, 1) := by decide +kernel
theorem dX2_holds_52 : decode cX2_holds 52 = .ok (.ireturn, 1) := by decide +kernel
set_option maxRecDepth 20000 in
theorem ggX2_left_X3_isTest : GoodIn wsX2_left wsX3_isTest := goodIn_r _ [4, 5, 6, 3, 7] (by decide +kernel) (by decide +kernel)
set_option maxRecDepth 20000 in
theorem gX2_left_X3_isTest_n24 : GoodIn wsX2_left (wsX3_isTest) := ggX2_left_X3_isTest
theorem dX2_left_0 : decode cX2_left 0 = .ok (.iload_n 1, 1) := by decide +kernel
theorem dX2_left_1 : decode cX2_left 1 = .ok (.invokestatic 24, 3) := by decide +kernel
theorem dX2_left_4 : decode cX2_left 4 = .ok (.ifCond .eq 12, 3) := by decide +kernel
theorem dX2_left_7 : decode cX2_left 7 = .ok (.aload_n 0, 1) := by decide +kernel
theorem dX2_left_8 : decode cX2_left 8 = .ok (.getfield 9, 3) := by decide +kernel
theorem dX2_left_11 : decode cX2_left 11 = .ok (.iload_n 1, 1) := by decide +kernel
theorem dX2_left_12 : decode cX2_left 12 = .ok (.iaload, 1) := by decide +kernel
theorem dX2_left_13 : decode cX2_left 13 = .ok (.goto 4, 3) := by decide +kernel
theorem dX2_left_16 : decode cX2_left 16 = .ok (.iconst 0, 1) := by decide +kernel
theorem dX2_left_17 : decode cX2_left 17 = .ok (.ireturn, 1) := by decide +kernel
set_option maxRecDepth 20000 in
theorem ggX2_top_X3_isTest : GoodIn wsX2_top wsX3_isTest := goodIn_r _ [4, 5, 6, 3, 7] (by decide +kernel) (by decide +kernel)
set_option maxRecDepth 20000 in
theorem gX2_top_X3_isTest_n24 : GoodIn wsX2_top (wsX3_isTest) := ggX2_top_X3_isTest
theorem dX2_top_0 : decode cX2_top 0 = .ok (.iload_n 1, 1) := by decide +kernel
theorem dX2_top_1 : decode cX2_top 1 = .ok (.invokestatic 24, 3) := by decide +kernel
theorem dX2_top_4 : decode cX2_top 4 = .ok (.ifCond .eq 12, 3) := by decide +kernel
theorem dX2_top_7 : decode cX2_top 7 = .ok (.aload_n 0, 1) := by decide +kernel
theorem dX2_top_8 : decode cX2_top 8 = .ok (.getfield 15, 3) := by decide +kernel
theorem dX2_top_11 : decode cX2_top 11 = .ok (.iload_n 1, 1) := by decide +kernel
theorem dX2_top_12 : decode cX2_top 12 = .ok (.iaload, 1) := by decide +kernel
theorem dX2_top_13 : decode cX2_top 13 = .ok (.goto 4, 3) := by decide +kernel
theorem dX2_top_16 : decode cX2_top 16 = .ok (.iconst 0, 1) := by decide +kernel
theorem dX2_top_17 : decode cX2_top 17 = .ok (.ireturn, 1) := by decide +kernel
set_option maxRecDepth 20000 in
theorem ggX2_right_X3_isTest : GoodIn wsX2_right wsX3_isTest := goodIn_r _ [4, 5, 6, 3, 7] (by decide +kernel) (by decide +kernel)
set_option maxRecDepth 20000 in
theorem gX2_right_X3_isTest_n24 : GoodIn wsX2_right (wsX3_isTest) := ggX2_right_X3_isTest
theorem dX2_right_0 : decode cX2_right 0 = .ok (.iload_n 1, 1) := by decide +kernel
theorem dX2_right_1 : decode cX2_right 1 = .ok (.invokestatic 24, 3) := by decide +kernel
theorem dX2_right_4 : decode cX2_right 4 = .ok (.ifCond .eq 12, 3) := by decide +kernel
theorem dX2_right_7 : decode cX2_right 7 = .ok (.aload_n 0, 1) := by decide +kernel
theorem dX2_right_8 : decode cX2_right 8 = .ok (.getfield 18, 3) := by decide +kernel
theorem dX2_right_11 : decode cX2_right 11 = .ok (.iload_n 1, 1) := by decide +kernel
theorem dX2_right_12 : decode cX2_right 12 = .ok (.iaload, 1) := by decide +kernel
theorem dX2_right_13 : decode cX2_right 13 = .ok (.goto 4, 3) := by decide +kernel
theorem dX2_right_16 : decode cX2_right 16 = .ok (.iconst 0, 1) := by decide +kernel
theorem dX2_right_17 : decode cX2_right 17 = .ok (.ireturn, 1) := by decide +kernel
set_option maxRecDepth 20000 in
theorem ggX2_bottom_X3_isTest : GoodIn wsX2_bottom wsX3_isTest := goodIn_r _ [4, 5, 6, 3, 7] (by decide +kernel) (by decide +kernel)
set_option maxRecDepth 20000 in
theorem gX2_bottom_X3_isTest_n24 : GoodIn wsX2_bottom (wsX3_isTest) := ggX2_bottom_X3_isTest
theorem dX2_bottom_0 : decode cX2_bottom 0 = .ok (.iload_n 1, 1) := by decide +kernel
theorem dX2_bottom_1 : decode cX2_bottom 1 = .ok (.invokestatic 24, 3) := by decide +kernel
theorem dX2_bottom_4 : decode cX2_bottom 4 = .ok (.ifCond .eq 12, 3) := by decide +kernel
theorem dX2_bottom_7 : decode cX2_bottom 7 = .ok (.aload_n 0, 1) := by decide +kernel
theorem dX2_bottom_8 : decode cX2_bottom 8 = .ok (.getfield 21, 3) := by decide +kernel
theorem dX2_bottom_11 : decode cX2_bottom 11 = .ok (.iload_n 1, 1) := by decide +kernel
theorem dX2_bottom_12 : decode cX2_bottom 12 = .ok (.iaload, 1) := by decide +kernel
theorem dX2_bottom_13 : decode cX2_bottom 13 = .ok (.goto 4, 3) := by decide +kernel
theorem dX2_bottom_16 : decode cX2_bottom 16 = .ok (.iconst 0, 1) := by decide +kernel
theorem dX2_bottom_17 : decode cX2_bottom 17 = .ok (.ireturn, 1) := by decide +kernel
set_option maxRecDepth 20000 in
theorem ggX3_init_X1_init : GoodIn wsX3_init wsX1_init := goodIn_r _ [19, 20, 2, 3, 21, 22, 23, 24, 37, 38] (by decide +kernel) (by decide +kernel)
set_option maxRecDepth 20000 in
theorem gX3_init_X1_init : GoodIn wsX3_init (wsX1_init) := ggX3_init_X1_init
set_option maxRecDepth 20000 in
theorem ggX3_init_X2_init : GoodIn wsX3_init wsX2_init := goodIn_r _ [26, 27, 2, 3, 21, 28, 29, 30, 31, 43, 44, 45, 46] (by decide +kernel) (by decide +kernel)
set_option maxRecDepth 20000 in
theorem gX3_init_X2_init_n18 : GoodIn wsX3_init (wsX2_init) := ggX3_init_X2_init
set_option maxRecDepth 20000 in
theorem ggX3_init_X0_init : GoodIn wsX3_init wsX0_init := goodIn_r _ [33, 34, 2, 3, 21, 35, 36, 47, 48] (by decide +kernel) (by decide +kernel)
set_option maxRecDepth 20000 in
theorem gX3_init_X0_init_n28 : GoodIn wsX3_init (wsX0_init) := ggX3_init_X0_init
theorem dX3_init_0 : decode cX3_init 0 = .ok (.aload_n 0, 1) := by decide +kernel
theorem dX3_init_1 : decode cX3_init 1 = .ok (.invokespecial 3, 3) := by decide +kernel
theorem dX3_init_4 : decode cX3_init 4 = .ok (.aload_n 0, 1) := by decide +kernel
theorem dX3_init_5 : decode cX3_init 5 = .ok (.new 9, 3) := by decide +kernel
theorem dX3_init_8 : decode cX3_init 8 = .ok (.dup, 1) := by decide +kernel
theorem dX3_init_9 : decode cX3_init 9 = .ok (.invokespecial 11, 3) := by decide +kernel
theorem dX3_init_12 : decode cX3_init 12 = .ok (.putfield 12, 3) := by decide +kernel
theorem dX3_init_15 : decode cX3_init 15 = .ok (.aload_n 0, 1) := by decide +kernel
theorem dX3_init_16 : decode cX3_init 16 = .ok (.new 16, 3) := by decide +kernel
theorem dX3_init_19 : decode cX3_init 19 = .ok (.dup, 1) := by decide +kernel
theorem dX3_init_20 : decode cX3_init 20 = .ok (.invokespecial 18, 3) := by decide +kernel
theorem dX3_init_23 : decode cX3_init 23 = .ok (.putfield 19, 3) := by decide +kernel
theorem dX3_init_26 : decode cX3_init 26 = .ok (.aload_n 0, 1) := by decide +kernel
theorem dX3_init_27 : decode cX3_init 27 = .ok (.new 16, 3) := by decide +kernel
theorem dX3_init_30 : decode cX3_init 30 = .ok (.dup, 1) := by decide +kernel
theorem dX3_init_31 : decode cX3_init 31 = .ok (.invokespecial 18, 3) := by decide +kernel
theorem dX3_init_34 : decode cX3_init 34 = .ok (.putfield 23, 3) := by decide +kernel
theorem dX3_init_37 : decode cX3_init 37 = .ok (.aload_n 0, 1) := by decide +kernel
theorem dX3_init_38 : decode cX3_init 38 = .ok (.new 26, 3) := by decide +kernel
theorem dX3_init_41 : decode cX3_init 41 = .ok (.dup, 1) := by decide +kernel
theorem dX3_init_42 : decode cX3_init 42 = .ok (.invokespecial 28, 3) := by decide +kernel
theorem dX3_init_45 : decode cX3_init 45 = .ok (.putfield 29, 3) := by decide +kernel
theorem dX3_init_48 : decode cX3_init 48 = .ok (.return_, 1) := by decide +kernel
set_option maxRecDepth 20000 in
theorem ggX3_paint_X3_isTest : GoodIn wsX3_paint wsX3_isTest := goodIn_r _ [5, 6, 7, 4, 8] (by decide +kernel) (by decide +kernel)
set_option maxRecDepth 20000 in
theorem gX3_paint_X3_isTest : GoodIn wsX3_paint (va_wsS RX3 33 yX3_isTest wsX3_isTest) := goodIn_app (goodIn_of _ (by decide +kernel)) ggX3_paint_X3_isTest
set_option maxRecDepth 20000 in
theorem ggX3_paint_X3_isRectangle : GoodIn wsX3_paint wsX3_isRectangle := goodIn_r _ [11, 12, 13, 4, 14, 6, 7, 8] (by decide +kernel) (by decide +kernel)
set_option maxRecDepth 20000 in
theorem gX3_paint_X3_isRectangle : GoodIn wsX3_paint (va_wsS RX3 37 yX3_isRectangle wsX3_isRectangle) := goodIn_app (goodIn_of _ (by decide +kernel)) ggX3_paint_X3_isRectangle
set_option maxRecDepth 20000 in
theorem ggX3_paint_X3_isShade : GoodIn wsX3_paint wsX3_isShade := goodIn_r _ [17, 6, 7, 4, 8] (by decide +kernel) (by decide +kernel)
set_option maxRecDepth 20000 in
theorem gX3_paint_X3_isShade : GoodIn wsX3_paint (va_wsS RX3 41 yX3_isShade wsX3_isShade) := goodIn_app (goodIn_of _ (by decide +kernel)) ggX3_paint_X3_isShade
set_option maxRecDepth 20000 in
theorem ggX3_paint_X3_checkArguments : GoodIn wsX3_paint wsX3_checkArguments := goodIn_ca (goodIn_r _ [20, 21, 22] (by decide +kernel) (by decide +kernel)) (goodIn_sub (fun _ h => List.mem_cons_of_mem _ (List.mem_append_right _ h)) (by decide +kernel))
set_option maxRecDepth 20000 in
theorem gX3_paint_X3_checkArguments : GoodIn wsX3_paint (va_wsS RX3 44 yX3_checkArguments wsX3_checkArguments) := goodIn_app (goodIn_of _ (by decide +kernel)) ggX3_paint_X3_checkArguments
set_option maxRecDepth 20000 in
theorem ggX3_paint_X3_pictureSlot : GoodIn wsX3_paint wsX3_pictureSlot := goodIn_r _ [25] (by decide +kernel) (by decide +kernel)
set_option maxRecDepth 20000 in
theorem gX3_paint_X3_pictureSlot : GoodIn wsX3_paint (va_wsS RX3 48 yX3_pictureSlot wsX3_pictureSlot) := goodIn_app (goodIn_of _ (by decide +kernel)) ggX3_paint_X3_pictureSlot
set_option maxRecDepth 20000 in
theorem ggX3_paint_X1_put : GoodIn wsX3_paint wsX1_put := goodIn_r _ [30, 31, 32, 33, 29, 34, 7, 4, 8, 13, 14, 6, 35, 36, 37, 42, 43] (by decide +kernel) (by decide +kernel)
set_option maxRecDepth 20000 in
theorem gX3_paint_X1_put : GoodIn wsX3_paint (wsV RX3 52 RX1 yX1_put wsX1_put) := goodIn_app (goodIn_of _ (by decide +kernel)) ggX3_paint_X1_put
theorem dX3_paint_0 : decode cX3_paint 0 = .ok (.iload_n 1, 1) := by decide +kernel
theorem dX3_paint_1 : decode cX3_paint 1 = .ok (.invokestatic 33, 3) := by decide +kernel
theorem dX3_paint_4 : decode cX3_paint 4 = .ok (.ifCond .eq 27, 3) := by decide +kernel
theorem dX3_paint_7 : decode cX3_paint 7 = .ok (.iload_n 2, 1) := by decide +kernel
theorem dX3_paint_8 : decode cX3_paint 8 = .ok (.iload_n 3, 1) := by decide +kernel
theorem dX3_paint_9 : decode cX3_paint 9 = .ok (.iload 4, 2) := by decide +kernel
theorem dX3_paint_11 : decode cX3_paint 11 = .ok (.iload 5, 2) := by decide +kernel
theorem dX3_paint_13 : decode cX3_paint 13 = .ok (.invokestatic 37, 3) := by decide +kernel
theorem dX3_paint_16 : decode cX3_paint 16 = .ok (.ifCond .eq 15, 3) := by decide +kernel
theorem dX3_paint_19 : decode cX3_paint 19 = .ok (.iload 6, 2) := by decide +kernel
theorem dX3_paint_21 : decode cX3_paint 21 = .ok (.invokestatic 41, 3) := by decide +kernel
theorem dX3_paint_24 : decode cX3_paint 24 = .ok (.ifCond .eq 7, 3) := by decide +kernel
theorem dX3_paint_27 : decode cX3_paint 27 = .ok (.iconst 1, 1) := by decide +kernel
theorem dX3_paint_28 : decode cX3_paint 28 = .ok (.goto 4, 3) := by decide +kernel
theorem dX3_paint_31 : decode cX3_paint 31 = .ok (.iconst 0, 1) := by decide +kernel
theorem dX3_paint_32 : decode cX3_paint 32 = .ok (.invokestatic 44, 3) := by decide +kernel
theorem dX3_paint_35 : decode cX3_paint 35 = .ok (.iconst 0, 1) := by decide +kernel
theorem dX3_paint_36 : decode cX3_paint 36 = .ok (.istore 7, 2) := by decide +kernel
theorem dX3_paint_38 : decode cX3_paint 38 = .ok (.iconst 0, 1) := by decide +kernel
theorem dX3_paint_39 : decode cX3_paint 39 = .ok (.istore 8, 2) := by decide +kernel
theorem dX3_paint_41 : decode cX3_paint 41 = .ok (.iload 8, 2) := by decide +kernel
theorem dX3_paint_43 : decode cX3_paint 43 = .ok (.iload 5, 2) := by decide +kernel
theorem dX3_paint_45 : decode cX3_paint 45 = .ok (.if_icmp .ge 52, 3) := by decide +kernel
theorem dX3_paint_48 : decode cX3_paint 48 = .ok (.iconst 0, 1) := by decide +kernel
theorem dX3_paint_49 : decode cX3_paint 49 = .ok (.istore 9, 2) := by decide +kernel
theorem dX3_paint_51 : decode cX3_paint 51 = .ok (.iload 9, 2) := by decide +kernel
theorem dX3_paint_53 : decode cX3_paint 53 = .ok (.iload 4, 2) := by decide +kernel
theorem dX3_paint_55 : decode cX3_paint 55 = .ok (.if_icmp .ge 36, 3) := by decide +kernel
theorem dX3_paint_58 : decode cX3_paint 58 = .ok (.aload_n 0, 1) := by decide +kernel
theorem dX3_paint_59 : decode cX3_paint 59 = .ok (.getfield 12, 3) := by decide +kernel
theorem dX3_paint_62 : decode cX3_paint 62 = .ok (.iload_n 1, 1) := by decide +kernel
theorem dX3_paint_63 : decode cX3_paint 63 = .ok (.invokestatic 48, 3) := by decide +kernel
theorem dX3_paint_66 : decode cX3_paint 66 = .ok (.iload_n 2, 1) := by decide +kernel
theorem dX3_paint_67 : decode cX3_paint 67 = .ok (.iload 9, 2) := by decide +kernel
theorem dX3_paint_69 : decode cX3_paint 69 = .ok (.iadd, 1) := by decide +kernel
theorem dX3_paint_70 : decode cX3_paint 70 = .ok (.iload_n 3, 1) := by decide +kernel
theorem dX3_paint_71 : decode cX3_paint 71 = .ok (.iload 8, 2) := by decide +kernel
theorem dX3_paint_73 : decode cX3_paint 73 = .ok (.iadd, 1) := by decide +kernel
theorem dX3_paint_74 : decode cX3_paint 74 = .ok (.iload 6, 2) := by decide +kernel
theorem dX3_paint_76 : decode cX3_paint 76 = .ok (.invokevirtual 52, 3) := by decide +kernel
theorem dX3_paint_79 : decode cX3_paint 79 = .ok (.ifCond .eq 6, 3) := by decide +kernel
theorem dX3_paint_82 : decode cX3_paint 82 = .ok (.iinc 7 1, 3) := by decide +kernel
theorem dX3_paint_85 : decode cX3_paint 85 = .ok (.iinc 9 1, 3) := by decide +kernel
theorem dX3_paint_88 : decode cX3_paint 88 = .ok (.goto (-37), 3) := by decide +kernel
theorem dX3_paint_91 : decode cX3_paint 91 = .ok (.iinc 8 1, 3) := by decide +kernel
theorem dX3_paint_94 : decode cX3_paint 94 = .ok (.goto (-53), 3) := by decide +kernel
theorem dX3_paint_97 : decode cX3_paint 97 = .ok (.iload 7, 2) := by decide +kernel
theorem dX3_paint_99 : decode cX3_paint 99 = .ok (.ireturn, 1) := by decide +kernel
set_option maxRecDepth 20000 in
theorem ggX3_shade_X3_isTest : GoodIn wsX3_shade wsX3_isTest := goodIn_r _ [5, 6, 7, 4, 8] (by decide +kernel) (by decide +kernel)
set_option maxRecDepth 20000 in
theorem gX3_shade_X3_isTest : GoodIn wsX3_shade (va_wsS RX3 33 yX3_isTest wsX3_isTest) := goodIn_app (goodIn_of _ (by decide +kernel)) ggX3_shade_X3_isTest
set_option maxRecDepth 20000 in
theorem ggX3_shade_X3_isCell : GoodIn wsX3_shade wsX3_isCell := goodIn_r _ [11, 6, 7, 4, 8] (by decide +kernel) (by decide +kernel)
set_option maxRecDepth 20000 in
theorem gX3_shade_X3_isCell : GoodIn wsX3_shade (va_wsS RX3 55 yX3_isCell wsX3_isCell) := goodIn_app (goodIn_of _ (by decide +kernel)) ggX3_shade_X3_isCell
set_option maxRecDepth 20000 in
theorem ggX3_shade_X3_checkArguments : GoodIn wsX3_shade wsX3_checkArguments := goodIn_ca (goodIn_r _ [14, 15, 16] (by decide +kernel) (by decide +kernel)) (goodIn_sub (fun _ h => List.mem_cons_of_mem _ (List.mem_append_right _ h)) (by decide +kernel))
set_option maxRecDepth 20000 in
theorem gX3_shade_X3_checkArguments : GoodIn wsX3_shade (va_wsS RX3 44 yX3_checkArguments wsX3_checkArguments) := goodIn_app (goodIn_of _ (by decide +kernel)) ggX3_shade_X3_checkArguments
set_option maxRecDepth 20000 in
theorem ggX3_shade_X3_pictureSlot : GoodIn wsX3_shade wsX3_pictureSlot := goodIn_r _ [19] (by decide +kernel) (by decide +kernel)
set_option maxRecDepth 20000 in
theorem gX3_shade_X3_pictureSlot : GoodIn wsX3_shade (va_wsS RX3 48 yX3_pictureSlot wsX3_pictureSlot) := goodIn_app (goodIn_of _ (by decide +kernel)) ggX3_shade_X3_pictureSlot
set_option maxRecDepth 20000 in
theorem ggX3_shade_X1_at : GoodIn wsX3_shade wsX1_at := goodIn_r _ [24, 25, 26, 27, 23, 28, 7, 4, 8, 10, 11, 6, 29, 30, 31, 36, 37] (by decide +kernel) (by decide +kernel)
set_option maxRecDepth 20000 in
theorem gX3_shade_X1_at : GoodIn wsX3_shade (wsV RX3 59 RX1 yX1_at wsX1_at) := goodIn_app (goodIn_of _ (by decide +kernel)) ggX3_shade_X1_at
theorem dX3_shade_0 : decode cX3_shade 0 = .ok (.iload_n 1, 1) := by decide +kernel
theorem dX3_shade_1 : decode cX3_shade 1 = .ok (.invokestatic 33, 3) := by decide +kernel
theorem dX3_shade_4 : decode cX3_shade 4 = .ok (.ifCond .eq 15, 3) := by decide +kernel
theorem dX3_shade_7 : decode cX3_shade 7 = .ok (.iload_n 2, 1) := by decide +kernel
theorem dX3_shade_8 : decode cX3_shade 8 = .ok (.iload_n 3, 1) := by decide +kernel
theorem dX3_shade_9 : decode cX3_shade 9 = .ok (.invokestatic 55, 3) := by decide +kernel
theorem dX3_shade_12 : decode cX3_shade 12 = .ok (.ifCond .eq 7, 3) := by decide +kernel
theorem dX3_shade_15 : decode cX3_shade 15 = .ok (.iconst 1, 1) := by decide +kernel
theorem dX3_shade_16 : decode cX3_shade 16 = .ok (.goto 4, 3) := by decide +kernel
theorem dX3_shade_19 : decode cX3_shade 19 = .ok (.iconst 0, 1) := by decide +kernel
theorem dX3_shade_20 : decode cX3_shade 20 = .ok (.invokestatic 44, 3) := by decide +kernel
theorem dX3_shade_23 : decode cX3_shade 23 = .ok (.aload_n 0, 1) := by decide +kernel
theorem dX3_shade_24 : decode cX3_shade 24 = .ok (.getfield 12, 3) := by decide +kernel
theorem dX3_shade_27 : decode cX3_shade 27 = .ok (.iload_n 1, 1) := by decide +kernel
theorem dX3_shade_28 : decode cX3_shade 28 = .ok (.invokestatic 48, 3) := by decide +kernel
theorem dX3_shade_31 : decode cX3_shade 31 = .ok (.iload_n 2, 1) := by decide +kernel
theorem dX3_shade_32 : decode cX3_shade 32 = .ok (.iload_n 3, 1) := by decide +kernel
theorem dX3_shade_33 : decode cX3_shade 33 = .ok (.invokevirtual 59, 3) := by decide +kernel
theorem dX3_shade_36 : decode cX3_shade 36 = .ok (.ireturn, 1) := by decide +kernel
set_option maxRecDepth 20000 in
theorem ggX3_setPart_X3_isTest : GoodIn wsX3_setPart wsX3_isTest := goodIn_r _ [6, 7, 8, 5, 9] (by decide +kernel) (by decide +kernel)
set_option maxRecDepth 20000 in
theorem gX3_setPart_X3_isTest : GoodIn wsX3_setPart (va_wsS RX3 33 yX3_isTest wsX3_isTest) := goodIn_app (goodIn_of _ (by decide +kernel)) ggX3_setPart_X3_isTest
set_option maxRecDepth 20000 in
theorem ggX3_setPart_X3_isRectangle : GoodIn wsX3_setPart wsX3_isRectangle := goodIn_r _ [12, 13, 14, 5, 15, 7, 8, 9] (by decide +kernel) (by decide +kernel)
set_option maxRecDepth 20000 in
theorem gX3_setPart_X3_isRectangle : GoodIn wsX3_setPart (va_wsS RX3 37 yX3_isRectangle wsX3_isRectangle) := goodIn_app (goodIn_of _ (by decide +kernel)) ggX3_setPart_X3_isRectangle
set_option maxRecDepth 20000 in
theorem ggX3_setPart_X3_checkArguments : GoodIn wsX3_setPart wsX3_checkArguments := goodIn_ca (goodIn_r _ [18, 19, 20] (by decide +kernel) (by decide +kernel)) (goodIn_sub (fun _ h => List.mem_cons_of_mem _ (List.mem_append_right _ h)) (by decide +kernel))
set_option maxRecDepth 20000 in
theorem gX3_setPart_X3_checkArguments : GoodIn wsX3_setPart (va_wsS RX3 44 yX3_checkArguments wsX3_checkArguments) := goodIn_app (goodIn_of _ (by decide +kernel)) ggX3_setPart_X3_checkArguments
set_option maxRecDepth 20000 in
theorem ggX3_setPart_X2_put : GoodIn wsX3_setPart wsX2_put := goodIn_r _ [25, 26, 27, 28, 29, 4, 5, 6, 7, 8, 9, 39, 40, 41, 42] (by decide +kernel) (by decide +kernel)
set_option maxRecDepth 20000 in
theorem gX3_setPart_X2_put : GoodIn wsX3_setPart (wsV RX3 63 RX2 yX2_put wsX2_put) := goodIn_app (goodIn_of _ (by decide +kernel)) ggX3_setPart_X2_put
set_option maxRecDepth 20000 in
theorem ggX3_setPart_X2_drop : GoodIn wsX3_setPart wsX2_drop := goodIn_r _ [33, 34, 22, 23, 24, 25, 26, 27, 28, 29, 4, 5, 6, 7, 8, 9, 39, 40, 41, 42] (by decide +kernel) (by decide +kernel)
set_option maxRecDepth 20000 in
theorem gX3_setPart_X2_drop : GoodIn wsX3_setPart (wsV RX3 66 RX2 yX2_drop wsX2_drop) := goodIn_app (goodIn_of _ (by decide +kernel)) ggX3_setPart_X2_drop
theorem dX3_setPart_0 : decode cX3_setPart 0 = .ok (.iload_n 1, 1) := by decide +kernel
theorem dX3_setPart_1 : decode cX3_setPart 1 = .ok (.invokestatic 33, 3) := by decide +kernel
theorem dX3_setPart_4 : decode cX3_setPart 4 = .ok (.ifCond .eq 19, 3) := by decide +kernel
theorem dX3_setPart_7 : decode cX3_setPart 7 = .ok (.iload_n 2, 1) := by decide +kernel
theorem dX3_setPart_8 : decode cX3_setPart 8 = .ok (.iload_n 3, 1) := by decide +kernel
theorem dX3_setPart_9 : decode cX3_setPart 9 = .ok (.iload 4, 2) := by decide +kernel
theorem dX3_setPart_11 : decode cX3_setPart 11 = .ok (.iload 5, 2) := by decide +kernel
theorem dX3_setPart_13 : decode cX3_setPart 13 = .ok (.invokestatic 37, 3) := by decide +kernel
theorem dX3_setPart_16 : decode cX3_setPart 16 = .ok (.ifCond .eq 7, 3) := by decide +kernel
theorem dX3_setPart_19 : decode cX3_setPart 19 = .ok (.iconst 1, 1) := by decide +kernel
theorem dX3_setPart_20 : decode cX3_setPart 20 = .ok (.goto 4, 3) := by decide +kernel
theorem dX3_setPart_23 : decode cX3_setPart 23 = .ok (.iconst 0, 1) := by decide +kernel
theorem dX3_setPart_24 : decode cX3_setPart 24 = .ok (.invokestatic 44, 3) := by decide +kernel
theorem dX3_setPart_27 : decode cX3_setPart 27 = .ok (.aload_n 0, 1) := by decide +kernel
theorem dX3_setPart_28 : decode cX3_setPart 28 = .ok (.getfield 19, 3) := by decide +kernel
theorem dX3_setPart_31 : decode cX3_setPart 31 = .ok (.iload_n 1, 1) := by decide +kernel
theorem dX3_setPart_32 : decode cX3_setPart 32 = .ok (.iload_n 2, 1) := by decide +kernel
theorem dX3_setPart_33 : decode cX3_setPart 33 = .ok (.iload_n 3, 1) := by decide +kernel
theorem dX3_setPart_34 : decode cX3_setPart 34 = .ok (.iload 4, 2) := by decide +kernel
theorem dX3_setPart_36 : decode cX3_setPart 36 = .ok (.iload 5, 2) := by decide +kernel
theorem dX3_setPart_38 : decode cX3_setPart 38 = .ok (.invokevirtual 63, 3) := by decide +kernel
theorem dX3_setPart_41 : decode cX3_setPart 41 = .ok (.aload_n 0, 1) := by decide +kernel
theorem dX3_setPart_42 : decode cX3_setPart 42 = .ok (.getfield 23, 3) := by decide +kernel
theorem dX3_setPart_45 : decode cX3_setPart 45 = .ok (.iload_n 1, 1) := by decide +kernel
theorem dX3_setPart_46 : decode cX3_setPart 46 = .ok (.invokevirtual 66, 3) := by decide +kernel
theorem dX3_setPart_49 : decode cX3_setPart 49 = .ok (.return_, 1) := by decide +kernel
set_option maxRecDepth 20000 in
theorem ggX3_setMask_X3_isTest : GoodIn wsX3_setMask wsX3_isTest := goodIn_r _ [8, 9, 10, 7, 11] (by decide +kernel) (by decide +kernel)
set_option maxRecDepth 20000 in
theorem gX3_setMask_X3_isTest : GoodIn wsX3_setMask (va_wsS RX3 33 yX3_isTest wsX3_isTest) := goodIn_app (goodIn_of _ (by decide +kernel)) ggX3_setMask_X3_isTest
set_option maxRecDepth 20000 in
theorem ggX3_setMask_X3_isWithin : GoodIn wsX3_setMask wsX3_isWithin := goodIn_r _ [11] (by decide +kernel) (by decide +kernel)
set_option maxRecDepth 20000 in
theorem gX3_setMask_X3_isWithin : GoodIn wsX3_setMask (va_wsS RX3 70 yX3_isWithin wsX3_isWithin) := goodIn_app (goodIn_of _ (by decide +kernel)) ggX3_setMask_X3_isWithin
set_option maxRecDepth 20000 in
theorem ggX3_setMask_X3_checkArguments : GoodIn wsX3_setMask wsX3_checkArguments := goodIn_ca (goodIn_r _ [14, 15, 16] (by decide +kernel) (by decide +kernel)) (goodIn_sub (fun _ h => List.mem_cons_of_mem _ (List.mem_append_right _ h)) (by decide +kernel))
set_option maxRecDepth 20000 in
theorem gX3_setMask_X3_checkArguments : GoodIn wsX3_setMask (va_wsS RX3 44 yX3_checkArguments wsX3_checkArguments) := goodIn_app (goodIn_of _ (by decide +kernel)) ggX3_setMask_X3_checkArguments
set_option maxRecDepth 20000 in
theorem ggX3_setMask_X2_has : GoodIn wsX3_setMask wsX2_has := goodIn_r _ [21, 22, 23, 6, 7, 8, 9, 10, 11, 34, 35, 36, 37] (by decide +kernel) (by decide +kernel)
set_option maxRecDepth 20000 in
theorem gX3_setMask_X2_has : GoodIn wsX3_setMask (wsV RX3 74 RX2 yX2_has wsX2_has) := goodIn_app (goodIn_of _ (by decide +kernel)) ggX3_setMask_X2_has
set_option maxRecDepth 20000 in
theorem ggX3_setMask_X2_put : GoodIn wsX3_setMask wsX2_put := goodIn_r _ [27, 22, 28, 23, 29, 6, 7, 8, 9, 10, 11, 34, 35, 36, 37] (by decide +kernel) (by decide +kernel)
set_option maxRecDepth 20000 in
theorem gX3_setMask_X2_put : GoodIn wsX3_setMask (wsV RX3 63 RX2 yX2_put wsX2_put) := goodIn_app (goodIn_of _ (by decide +kernel)) ggX3_setMask_X2_put
theorem dX3_setMask_0 : decode cX3_setMask 0 = .ok (.iload_n 1, 1) := by decide +kernel
theorem dX3_setMask_1 : decode cX3_setMask 1 = .ok (.invokestatic 33, 3) := by decide +kernel
theorem dX3_setMask_4 : decode cX3_setMask 4 = .ok (.ifCond .eq 51, 3) := by decide +kernel
theorem dX3_setMask_7 : decode cX3_setMask 7 = .ok (.iload_n 2, 1) := by decide +kernel
theorem dX3_setMask_8 : decode cX3_setMask 8 = .ok (.bipush (-8), 2) := by decide +kernel
theorem dX3_setMask_10 : decode cX3_setMask 10 = .ok (.bipush 8, 2) := by decide +kernel
theorem dX3_setMask_12 : decode cX3_setMask 12 = .ok (.invokestatic 70, 3) := by decide +kernel
theorem dX3_setMask_15 : decode cX3_setMask 15 = .ok (.ifCond .eq 40, 3) := by decide +kernel
theorem dX3_setMask_18 : decode cX3_setMask 18 = .ok (.iload_n 3, 1) := by decide +kernel
theorem dX3_setMask_19 : decode cX3_setMask 19 = .ok (.bipush (-8), 2) := by decide +kernel
theorem dX3_setMask_21 : decode cX3_setMask 21 = .ok (.bipush 8, 2) := by decide +kernel
theorem dX3_setMask_23 : decode cX3_setMask 23 = .ok (.invokestatic 70, 3) := by decide +kernel
theorem dX3_setMask_26 : decode cX3_setMask 26 = .ok (.ifCond .eq 29, 3) := by decide +kernel
theorem dX3_setMask_29 : decode cX3_setMask 29 = .ok (.iload 4, 2) := by decide +kernel
theorem dX3_setMask_31 : decode cX3_setMask 31 = .ok (.iconst 1, 1) := by decide +kernel
theorem dX3_setMask_32 : decode cX3_setMask 32 = .ok (.bipush 8, 2) := by decide +kernel
theorem dX3_setMask_34 : decode cX3_setMask 34 = .ok (.invokestatic 70, 3) := by decide +kernel
theorem dX3_setMask_37 : decode cX3_setMask 37 = .ok (.ifCond .eq 18, 3) := by decide +kernel
theorem dX3_setMask_40 : decode cX3_setMask 40 = .ok (.iload 5, 2) := by decide +kernel
theorem dX3_setMask_42 : decode cX3_setMask 42 = .ok (.iconst 1, 1) := by decide +kernel
theorem dX3_setMask_43 : decode cX3_setMask 43 = .ok (.bipush 8, 2) := by decide +kernel
theorem dX3_setMask_45 : decode cX3_setMask 45 = .ok (.invokestatic 70, 3) := by decide +kernel
theorem dX3_setMask_48 : decode cX3_setMask 48 = .ok (.ifCond .eq 7, 3) := by decide +kernel
theorem dX3_setMask_51 : decode cX3_setMask 51 = .ok (.iconst 1, 1) := by decide +kernel
theorem dX3_setMask_52 : decode cX3_setMask 52 = .ok (.goto 4, 3) := by decide +kernel
theorem dX3_setMask_55 : decode cX3_setMask 55 = .ok (.iconst 0, 1) := by decide +kernel
theorem dX3_setMask_56 : decode cX3_setMask 56 = .ok (.invokestatic 44, 3) := by decide +kernel
theorem dX3_setMask_59 : decode cX3_setMask 59 = .ok (.aload_n 0, 1) := by decide +kernel
theorem dX3_setMask_60 : decode cX3_setMask 60 = .ok (.getfield 19, 3) := by decide +kernel
theorem dX3_setMask_63 : decode cX3_setMask 63 = .ok (.iload_n 1, 1) := by decide +kernel
theorem dX3_setMask_64 : decode cX3_setMask 64 = .ok (.invokevirtual 74, 3) := by decide +kernel
theorem dX3_setMask_67 : decode cX3_setMask 67 = .ok (.ifCond .ne 13, 3) := by decide +kernel
theorem dX3_setMask_70 : decode cX3_setMask 70 = .ok (.new 77, 3) := by decide +kernel
theorem dX3_setMask_73 : decode cX3_setMask 73 = .ok (.dup, 1) := by decide +kernel
theorem dX3_setMask_74 : decode cX3_setMask 74 = .ok (.ldc 79, 2) := by decide +kernel
theorem dX3_setMask_76 : decode cX3_setMask 76 = .ok (.invokespecial 81, 3) := by decide +kernel
theorem dX3_setMask_79 : decode cX3_setMask 79 = .ok (.athrow, 1) := by decide +kernel
theorem dX3_setMask_80 : decode cX3_setMask 80 = .ok (.aload_n 0, 1) := by decide +kernel
theorem dX3_setMask_81 : decode cX3_setMask 81 = .ok (.getfield 23, 3) := by decide +kernel
theorem dX3_setMask_84 : decode cX3_setMask 84 = .ok (.iload_n 1, 1) := by decide +kernel
theorem dX3_setMask_85 : decode cX3_setMask 85 = .ok (.iload_n 2, 1) := by decide +kernel
theorem dX3_setMask_86 : decode cX3_setMask 86 = .ok (.iload_n 3, 1) := by decide +kernel
theorem dX3_setMask_87 : decode cX3_setMask 87 = .ok (.iload 4, 2) := by decide +kernel
theorem dX3_setMask_89 : decode cX3_setMask 89 = .ok (.iload 5, 2) := by decide +kernel
theorem dX3_setMask_91 : decode cX3_setMask 91 = .ok (.invokevirtual 63, 3) := by decide +kernel
theorem dX3_setMask_94 : decode cX3_setMask 94 = .ok (.return_, 1) := by decide +kernel
set_option maxRecDepth 20000 in
theorem ggX3_approve_X3_isBranch : GoodIn wsX3_approve wsX3_isBranch := goodIn_r _ [5, 6, 7, 4, 8] (by decide +kernel) (by decide +kernel)
set_option maxRecDepth 20000 in
theorem gX3_approve_X3_isBranch : GoodIn wsX3_approve (va_wsS RX3 84 yX3_isBranch wsX3_isBranch) := goodIn_app (goodIn_of _ (by decide +kernel)) ggX3_approve_X3_isBranch
set_option maxRecDepth 20000 in
theorem ggX3_approve_X3_isTest : GoodIn wsX3_approve wsX3_isTest := goodIn_r _ [11, 6, 7, 4, 8] (by decide +kernel) (by decide +kernel)
set_option maxRecDepth 20000 in
theorem gX3_approve_X3_isTest : GoodIn wsX3_approve (va_wsS RX3 33 yX3_isTest wsX3_isTest) := goodIn_app (goodIn_of _ (by decide +kernel)) ggX3_approve_X3_isTest
set_option maxRecDepth 20000 in
theorem ggX3_approve_X3_checkArguments : GoodIn wsX3_approve wsX3_checkArguments := goodIn_ca (goodIn_r _ [14, 15, 16] (by decide +kernel) (by decide +kernel)) (goodIn_sub (fun _ h => List.mem_cons_of_mem _ (List.mem_append_right _ h)) (by decide +kernel))
set_option maxRecDepth 20000 in
theorem gX3_approve_X3_checkArguments : GoodIn wsX3_approve (va_wsS RX3 44 yX3_checkArguments wsX3_checkArguments) := goodIn_app (goodIn_of _ (by decide +kernel)) ggX3_approve_X3_checkArguments
set_option maxRecDepth 20000 in
theorem ggX3_approve_X3_approvedSlot : GoodIn wsX3_approve wsX3_approvedSlot := goodIn_r _ [19] (by decide +kernel) (by decide +kernel)
set_option maxRecDepth 20000 in
theorem gX3_approve_X3_approvedSlot : GoodIn wsX3_approve (va_wsS RX3 87 yX3_approvedSlot wsX3_approvedSlot) := goodIn_app (goodIn_of _ (by decide +kernel)) ggX3_approve_X3_approvedSlot
set_option maxRecDepth 20000 in
theorem ggX3_approve_X1_has : GoodIn wsX3_approve wsX1_has := goodIn_r _ [24, 25, 26, 27, 23, 28, 7, 4, 8, 45, 46] (by decide +kernel) (by decide +kernel)
set_option maxRecDepth 20000 in
theorem gX3_approve_X1_has : GoodIn wsX3_approve (wsV RX3 91 RX1 yX1_has wsX1_has) := goodIn_app (goodIn_of _ (by decide +kernel)) ggX3_approve_X1_has
set_option maxRecDepth 20000 in
theorem ggX3_approve_X3_pictureSlot : GoodIn wsX3_approve wsX3_pictureSlot := goodIn_r _ [31] (by decide +kernel) (by decide +kernel)
set_option maxRecDepth 20000 in
theorem gX3_approve_X3_pictureSlot : GoodIn wsX3_approve (va_wsS RX3 48 yX3_pictureSlot wsX3_pictureSlot) := goodIn_app (goodIn_of _ (by decide +kernel)) ggX3_approve_X3_pictureSlot
set_option maxRecDepth 20000 in
theorem ggX3_approve_X1_copy : GoodIn wsX3_approve wsX1_copy := goodIn_r _ [35, 36, 37, 38, 39, 40, 25, 26, 27, 23, 28, 7, 4, 8, 45, 46] (by decide +kernel) (by decide +kernel)
set_option maxRecDepth 20000 in
theorem gX3_approve_X1_copy : GoodIn wsX3_approve (wsV RX3 92 RX1 yX1_copy wsX1_copy) := goodIn_app (goodIn_of _ (by decide +kernel)) ggX3_approve_X1_copy
theorem dX3_approve_0 : decode cX3_approve 0 = .ok (.iload_n 1, 1) := by decide +kernel
theorem dX3_approve_1 : decode cX3_approve 1 = .ok (.invokestatic 84, 3) := by decide +kernel
theorem dX3_approve_4 : decode cX3_approve 4 = .ok (.ifCond .eq 14, 3) := by decide +kernel
theorem dX3_approve_7 : decode cX3_approve 7 = .ok (.iload_n 2, 1) := by decide +kernel
theorem dX3_approve_8 : decode cX3_approve 8 = .ok (.invokestatic 33, 3) := by decide +kernel
theorem dX3_approve_11 : decode cX3_approve 11 = .ok (.ifCond .eq 7, 3) := by decide +kernel
theorem dX3_approve_14 : decode cX3_approve 14 = .ok (.iconst 1, 1) := by decide +kernel
theorem dX3_approve_15 : decode cX3_approve 15 = .ok (.goto 4, 3) := by decide +kernel
theorem dX3_approve_18 : decode cX3_approve 18 = .ok (.iconst 0, 1) := by decide +kernel
theorem dX3_approve_19 : decode cX3_approve 19 = .ok (.invokestatic 44, 3) := by decide +kernel
theorem dX3_approve_22 : decode cX3_approve 22 = .ok (.iload_n 1, 1) := by decide +kernel
theorem dX3_approve_23 : decode cX3_approve 23 = .ok (.iload_n 2, 1) := by decide +kernel
theorem dX3_approve_24 : decode cX3_approve 24 = .ok (.invokestatic 87, 3) := by decide +kernel
theorem dX3_approve_27 : decode cX3_approve 27 = .ok (.istore_n 3, 1) := by decide +kernel
theorem dX3_approve_28 : decode cX3_approve 28 = .ok (.aload_n 0, 1) := by decide +kernel
theorem dX3_approve_29 : decode cX3_approve 29 = .ok (.getfield 12, 3) := by decide +kernel
theorem dX3_approve_32 : decode cX3_approve 32 = .ok (.iload_n 3, 1) := by decide +kernel
theorem dX3_approve_33 : decode cX3_approve 33 = .ok (.invokevirtual 91, 3) := by decide +kernel
theorem dX3_approve_36 : decode cX3_approve 36 = .ok (.istore 4, 2) := by decide +kernel
theorem dX3_approve_38 : decode cX3_approve 38 = .ok (.aload_n 0, 1) := by decide +kernel
theorem dX3_approve_39 : decode cX3_approve 39 = .ok (.getfield 12, 3) := by decide +kernel
theorem dX3_approve_42 : decode cX3_approve 42 = .ok (.iload_n 2, 1) := by decide +kernel
theorem dX3_approve_43 : decode cX3_approve 43 = .ok (.invokestatic 48, 3) := by decide +kernel
theorem dX3_approve_46 : decode cX3_approve 46 = .ok (.iload_n 3, 1) := by decide +kernel
theorem dX3_approve_47 : decode cX3_approve 47 = .ok (.invokevirtual 92, 3) := by decide +kernel
theorem dX3_approve_50 : decode cX3_approve 50 = .ok (.iload 4, 2) := by decide +kernel
theorem dX3_approve_52 : decode cX3_approve 52 = .ok (.ireturn, 1) := by decide +kernel
set_option maxRecDepth 20000 in
theorem ggX3_begin_X3_isSideBranch : GoodIn wsX3_begin wsX3_isSideBranch := goodIn_r _ [5, 6, 7, 4, 8] (by decide +kernel) (by decide +kernel)
set_option maxRecDepth 20000 in
theorem gX3_begin_X3_isSideBranch : GoodIn wsX3_begin (va_wsS RX3 96 yX3_isSideBranch wsX3_isSideBranch) := goodIn_app (goodIn_of _ (by decide +kernel)) ggX3_begin_X3_isSideBranch
set_option maxRecDepth 20000 in
theorem ggX3_begin_X3_checkArguments : GoodIn wsX3_begin wsX3_checkArguments := goodIn_ca (goodIn_r _ [11, 12, 13] (by decide +kernel) (by decide +kernel)) (goodIn_sub (fun _ h => List.mem_cons_of_mem _ (List.mem_append_right _ h)) (by decide +kernel))
set_option maxRecDepth 20000 in
theorem gX3_begin_X3_checkArguments : GoodIn wsX3_begin (va_wsS RX3 44 yX3_checkArguments wsX3_checkArguments) := goodIn_app (goodIn_of _ (by decide +kernel)) ggX3_begin_X3_checkArguments
set_option maxRecDepth 20000 in
theorem ggX3_begin_X3_followMain : GoodIn wsX3_begin wsX3_followMain := goodIn_r _ [17, 1, 18, 19, 4, 20, 21, 22, 23, 24, 25, 26, 27, 28, 29, 30, 31, 32, 33, 34, 35, 36, 37, 7, 8, 42, 43, 44, 45, 46, 47] (by decide +kernel) (by decide +kernel)
set_option maxRecDepth 20000 in
theorem gX3_begin_X3_followMain : GoodIn wsX3_begin (wsV RX3 99 RX3 yX3_followMain wsX3_followMain) := goodIn_app (goodIn_of _ (by decide +kernel)) ggX3_begin_X3_followMain
set_option maxRecDepth 20000 in
theorem ggX3_begin_X3_approvedSlot : GoodIn wsX3_begin wsX3_approvedSlot := goodIn_r _ [20] (by decide +kernel) (by decide +kernel)
set_option maxRecDepth 20000 in
theorem gX3_begin_X3_approvedSlot : GoodIn wsX3_begin (va_wsS RX3 87 yX3_approvedSlot wsX3_approvedSlot) := goodIn_app (goodIn_of _ (by decide +kernel)) ggX3_begin_X3_approvedSlot
set_option maxRecDepth 20000 in
theorem ggX3_begin_X1_has : GoodIn wsX3_begin wsX1_has := goodIn_r _ [41, 34, 35, 36, 27, 37, 7, 4, 8, 46, 47] (by decide +kernel) (by decide +kernel)
set_option maxRecDepth 20000 in
theorem gX3_begin_X1_has : GoodIn wsX3_begin (wsV RX3 91 RX1 yX1_has wsX1_has) := goodIn_app (goodIn_of _ (by decide +kernel)) ggX3_begin_X1_has
theorem dX3_begin_0 : decode cX3_begin 0 = .ok (.iload_n 1, 1) := by decide +kernel
theorem dX3_begin_1 : decode cX3_begin 1 = .ok (.invokestatic 96, 3) := by decide +kernel
theorem dX3_begin_4 : decode cX3_begin 4 = .ok (.invokestatic 44, 3) := by decide +kernel
theorem dX3_begin_7 : decode cX3_begin 7 = .ok (.iconst 0, 1) := by decide +kernel
theorem dX3_begin_8 : decode cX3_begin 8 = .ok (.istore_n 2, 1) := by decide +kernel
theorem dX3_begin_9 : decode cX3_begin 9 = .ok (.iconst 0, 1) := by decide +kernel
theorem dX3_begin_10 : decode cX3_begin 10 = .ok (.istore_n 3, 1) := by decide +kernel
theorem dX3_begin_11 : decode cX3_begin 11 = .ok (.iload_n 3, 1) := by decide +kernel
theorem dX3_begin_12 : decode cX3_begin 12 = .ok (.iconst 5, 1) := by decide +kernel
theorem dX3_begin_13 : decode cX3_begin 13 = .ok (.if_icmp .ge 33, 3) := by decide +kernel
theorem dX3_begin_16 : decode cX3_begin 16 = .ok (.aload_n 0, 1) := by decide +kernel
theorem dX3_begin_17 : decode cX3_begin 17 = .ok (.iload_n 1, 1) := by decide +kernel
theorem dX3_begin_18 : decode cX3_begin 18 = .ok (.iload_n 3, 1) := by decide +kernel
theorem dX3_begin_19 : decode cX3_begin 19 = .ok (.invokevirtual 99, 3) := by decide +kernel
theorem dX3_begin_22 : decode cX3_begin 22 = .ok (.aload_n 0, 1) := by decide +kernel
theorem dX3_begin_23 : decode cX3_begin 23 = .ok (.getfield 12, 3) := by decide +kernel
theorem dX3_begin_26 : decode cX3_begin 26 = .ok (.iload_n 1, 1) := by decide +kernel
theorem dX3_begin_27 : decode cX3_begin 27 = .ok (.iload_n 3, 1) := by decide +kernel
theorem dX3_begin_28 : decode cX3_begin 28 = .ok (.invokestatic 87, 3) := by decide +kernel
theorem dX3_begin_31 : decode cX3_begin 31 = .ok (.invokevirtual 91, 3) := by decide +kernel
theorem dX3_begin_34 : decode cX3_begin 34 = .ok (.ifCond .eq 6, 3) := by decide +kernel
theorem dX3_begin_37 : decode cX3_begin 37 = .ok (.iinc 2 1, 3) := by decide +kernel
theorem dX3_begin_40 : decode cX3_begin 40 = .ok (.iinc 3 1, 3) := by decide +kernel
theorem dX3_begin_43 : decode cX3_begin 43 = .ok (.goto (-32), 3) := by decide +kernel
theorem dX3_begin_46 : decode cX3_begin 46 = .ok (.iload_n 2, 1) := by decide +kernel
theorem dX3_begin_47 : decode cX3_begin 47 = .ok (.ireturn, 1) := by decide +kernel
set_option maxRecDepth 20000 in
theorem ggX3_join_X3_isSideBranch : GoodIn wsX3_join wsX3_isSideBranch := goodIn_r _ [4, 5, 6, 3, 7] (by decide +kernel) (by decide +kernel)
set_option maxRecDepth 20000 in
theorem gX3_join_X3_isSideBranch : GoodIn wsX3_join (va_wsS RX3 96 yX3_isSideBranch wsX3_isSideBranch) := goodIn_app (goodIn_of _ (by decide +kernel)) ggX3_join_X3_isSideBranch
set_option maxRecDepth 20000 in
theorem ggX3_join_X3_checkArguments : GoodIn wsX3_join wsX3_checkArguments := goodIn_ca (goodIn_r _ [10, 11, 12] (by decide +kernel) (by decide +kernel)) (goodIn_sub (fun _ h => List.mem_cons_of_mem _ (List.mem_append_right _ h)) (by decide +kernel))
set_option maxRecDepth 20000 in
theorem gX3_join_X3_checkArguments : GoodIn wsX3_join (va_wsS RX3 44 yX3_checkArguments wsX3_checkArguments) := goodIn_app (goodIn_of _ (by decide +kernel)) ggX3_join_X3_checkArguments
set_option maxRecDepth 20000 in
theorem ggX3_join_X3_clashes : GoodIn wsX3_join wsX3_clashes := goodIn_r _ [16, 17, 18, 19, 3, 20, 21, 22, 23, 24, 25, 26, 27, 28, 29, 30, 31, 32, 33, 34, 35, 36, 37, 6, 7, 54, 55, 56, 57, 58, 59] (by decide +kernel) (by decide +kernel)
set_option maxRecDepth 20000 in
theorem gX3_join_X3_clashes : GoodIn wsX3_join (wsV RX3 102 RX3 yX3_clashes wsX3_clashes) := goodIn_app (goodIn_of _ (by decide +kernel)) ggX3_join_X3_clashes
set_option maxRecDepth 20000 in
theorem ggX3_join_X3_takeOver : GoodIn wsX3_join wsX3_takeOver := goodIn_r _ [41, 17, 18, 19, 3, 20, 21, 22, 23, 24, 25, 26, 27, 28, 29, 30, 31, 32, 33, 34, 35, 36, 37, 6, 7, 42, 43, 44, 45, 46, 47, 48, 49, 54, 55, 56, 57, 58, 59] (by decide +kernel) (by decide +kernel)
set_option maxRecDepth 20000 in
theorem gX3_join_X3_takeOver : GoodIn wsX3_join (wsV RX3 105 RX3 yX3_takeOver wsX3_takeOver) := goodIn_app (goodIn_of _ (by decide +kernel)) ggX3_join_X3_takeOver
set_option maxRecDepth 20000 in
theorem ggX3_join_X3_followMain : GoodIn wsX3_join wsX3_followMain := goodIn_r _ [53, 17, 18, 19, 3, 20, 21, 22, 23, 42, 43, 44, 27, 45, 29, 46, 47, 48, 49, 34, 35, 36, 37, 6, 7, 54, 55, 56, 57, 58, 59] (by decide +kernel) (by decide +kernel)
set_option maxRecDepth 20000 in
theorem gX3_join_X3_followMain : GoodIn wsX3_join (wsV RX3 99 RX3 yX3_followMain wsX3_followMain) := goodIn_app (goodIn_of _ (by decide +kernel)) ggX3_join_X3_followMain
theorem dX3_join_0 : decode cX3_join 0 = .ok (.iload_n 1, 1) := by decide +kernel
theorem dX3_join_1 : decode cX3_join 1 = .ok (.invokestatic 96, 3) := by decide +kernel
theorem dX3_join_4 : decode cX3_join 4 = .ok (.invokestatic 44, 3) := by decide +kernel
theorem dX3_join_7 : decode cX3_join 7 = .ok (.iconst 0, 1) := by decide +kernel
theorem dX3_join_8 : decode cX3_join 8 = .ok (.istore_n 2, 1) := by decide +kernel
theorem dX3_join_9 : decode cX3_join 9 = .ok (.iconst 0, 1) := by decide +kernel
theorem dX3_join_10 : decode cX3_join 10 = .ok (.istore_n 3, 1) := by decide +kernel
theorem dX3_join_11 : decode cX3_join 11 = .ok (.iload_n 3, 1) := by decide +kernel
theorem dX3_join_12 : decode cX3_join 12 = .ok (.iconst 5, 1) := by decide +kernel
theorem dX3_join_13 : decode cX3_join 13 = .ok (.if_icmp .ge 39, 3) := by decide +kernel
theorem dX3_join_16 : decode cX3_join 16 = .ok (.aload_n 0, 1) := by decide +kernel
theorem dX3_join_17 : decode cX3_join 17 = .ok (.iload_n 1, 1) := by decide +kernel
theorem dX3_join_18 : decode cX3_join 18 = .ok (.iload_n 3, 1) := by decide +kernel
theorem dX3_join_19 : decode cX3_join 19 = .ok (.invokevirtual 102, 3) := by decide +kernel
theorem dX3_join_22 : decode cX3_join 22 = .ok (.ifCond .eq 12, 3) := by decide +kernel
theorem dX3_join_25 : decode cX3_join 25 = .ok (.iload_n 2, 1) := by decide +kernel
theorem dX3_join_26 : decode cX3_join 26 = .ok (.iconst 1, 1) := by decide +kernel
theorem dX3_join_27 : decode cX3_join 27 = .ok (.iload_n 3, 1) := by decide +kernel
theorem dX3_join_28 : decode cX3_join 28 = .ok (.ishl, 1) := by decide +kernel
theorem dX3_join_29 : decode cX3_join 29 = .ok (.ior, 1) := by decide +kernel
theorem dX3_join_30 : decode cX3_join 30 = .ok (.istore_n 2, 1) := by decide +kernel
theorem dX3_join_31 : decode cX3_join 31 = .ok (.goto 15, 3) := by decide +kernel
theorem dX3_join_34 : decode cX3_join 34 = .ok (.aload_n 0, 1) := by decide +kernel
theorem dX3_join_35 : decode cX3_join 35 = .ok (.iload_n 1, 1) := by decide +kernel
theorem dX3_join_36 : decode cX3_join 36 = .ok (.iload_n 3, 1) := by decide +kernel
theorem dX3_join_37 : decode cX3_join 37 = .ok (.invokevirtual 105, 3) := by decide +kernel
theorem dX3_join_40 : decode cX3_join 40 = .ok (.aload_n 0, 1) := by decide +kernel
theorem dX3_join_41 : decode cX3_join 41 = .ok (.iload_n 1, 1) := by decide +kernel
theorem dX3_join_42 : decode cX3_join 42 = .ok (.iload_n 3, 1) := by decide +kernel
theorem dX3_join_43 : decode cX3_join 43 = .ok (.invokevirtual 99, 3) := by decide +kernel
theorem dX3_join_46 : decode cX3_join 46 = .ok (.iinc 3 1, 3) := by decide +kernel
theorem dX3_join_49 : decode cX3_join 49 = .ok (.goto (-38), 3) := by decide +kernel
theorem dX3_join_52 : decode cX3_join 52 = .ok (.iload_n 2, 1) := by decide +kernel
theorem dX3_join_53 : decode cX3_join 53 = .ok (.ireturn, 1) := by decide +kernel
set_option maxRecDepth 20000 in
theorem ggX3_isApproved_X3_isBranch : GoodIn wsX3_isApproved wsX3_isBranch := goodIn_r _ [5, 6, 7, 4, 8] (by decide +kernel) (by decide +kernel)
set_option maxRecDepth 20000 in
theorem gX3_isApproved_X3_isBranch : GoodIn wsX3_isApproved (va_wsS RX3 84 yX3_isBranch wsX3_isBranch) := goodIn_app (goodIn_of _ (by decide +kernel)) ggX3_isApproved_X3_isBranch
set_option maxRecDepth 20000 in
theorem ggX3_isApproved_X3_isTest : GoodIn wsX3_isApproved wsX3_isTest := goodIn_r _ [11, 6, 7, 4, 8] (by decide +kernel) (by decide +kernel)
set_option maxRecDepth 20000 in
theorem gX3_isApproved_X3_isTest : GoodIn wsX3_isApproved (va_wsS RX3 33 yX3_isTest wsX3_isTest) := goodIn_app (goodIn_of _ (by decide +kernel)) ggX3_isApproved_X3_isTest
set_option maxRecDepth 20000 in
theorem ggX3_isApproved_X3_checkArguments : GoodIn wsX3_isApproved wsX3_checkArguments := goodIn_ca (goodIn_r _ [14, 15, 16] (by decide +kernel) (by decide +kernel)) (goodIn_sub (fun _ h => List.mem_cons_of_mem _ (List.mem_append_right _ h)) (by decide +kernel))
set_option maxRecDepth 20000 in
theorem gX3_isApproved_X3_checkArguments : GoodIn wsX3_isApproved (va_wsS RX3 44 yX3_checkArguments wsX3_checkArguments) := goodIn_app (goodIn_of _ (by decide +kernel)) ggX3_isApproved_X3_checkArguments
set_option maxRecDepth 20000 in
theorem ggX3_isApproved_X3_approvedSlot : GoodIn wsX3_isApproved wsX3_approvedSlot := goodIn_r _ [19] (by decide +kernel) (by decide +kernel)
set_option maxRecDepth 20000 in
theorem gX3_isApproved_X3_approvedSlot : GoodIn wsX3_isApproved (va_wsS RX3 87 yX3_approvedSlot wsX3_approvedSlot) := goodIn_app (goodIn_of _ (by decide +kernel)) ggX3_isApproved_X3_approvedSlot
set_option maxRecDepth 20000 in
theorem ggX3_isApproved_X1_has : GoodIn wsX3_isApproved wsX1_has := goodIn_r _ [24, 25, 26, 27, 23, 28, 7, 4, 8, 33, 34] (by decide +kernel) (by decide +kernel)
set_option maxRecDepth 20000 in
theorem gX3_isApproved_X1_has : GoodIn wsX3_isApproved (wsV RX3 91 RX1 yX1_has wsX1_has) := goodIn_app (goodIn_of _ (by decide +kernel)) ggX3_isApproved_X1_has
theorem dX3_isApproved_0 : decode cX3_isApproved 0 = .ok (.iload_n 1, 1) := by decide +kernel
theorem dX3_isApproved_1 : decode cX3_isApproved 1 = .ok (.invokestatic 84, 3) := by decide +kernel
theorem dX3_isApproved_4 : decode cX3_isApproved 4 = .ok (.ifCond .eq 14, 3) := by decide +kernel
theorem dX3_isApproved_7 : decode cX3_isApproved 7 = .ok (.iload_n 2, 1) := by decide +kernel
theorem dX3_isApproved_8 : decode cX3_isApproved 8 = .ok (.invokestatic 33, 3) := by decide +kernel
theorem dX3_isApproved_11 : decode cX3_isApproved 11 = .ok (.ifCond .eq 7, 3) := by decide +kernel
theorem dX3_isApproved_14 : decode cX3_isApproved 14 = .ok (.iconst 1, 1) := by decide +kernel
theorem dX3_isApproved_15 : decode cX3_isApproved 15 = .ok (.goto 4, 3) := by decide +kernel
theorem dX3_isApproved_18 : decode cX3_isApproved 18 = .ok (.iconst 0, 1) := by decide +kernel
theorem dX3_isApproved_19 : decode cX3_isApproved 19 = .ok (.invokestatic 44, 3) := by decide +kernel
theorem dX3_isApproved_22 : decode cX3_isApproved 22 = .ok (.aload_n 0, 1) := by decide +kernel
theorem dX3_isApproved_23 : decode cX3_isApproved 23 = .ok (.getfield 12, 3) := by decide +kernel
theorem dX3_isApproved_26 : decode cX3_isApproved 26 = .ok (.iload_n 1, 1) := by decide +kernel
theorem dX3_isApproved_27 : decode cX3_isApproved 27 = .ok (.iload_n 2, 1) := by decide +kernel
theorem dX3_isApproved_28 : decode cX3_isApproved 28 = .ok (.invokestatic 87, 3) := by decide +kernel
theorem dX3_isApproved_31 : decode cX3_isApproved 31 = .ok (.invokevirtual 91, 3) := by decide +kernel
theorem dX3_isApproved_34 : decode cX3_isApproved 34 = .ok (.ireturn, 1) := by decide +kernel
set_option maxRecDepth 20000 in
theorem ggX3_differences_X3_checkComparison : GoodIn wsX3_differences wsX3_checkComparison := goodIn_ca (goodIn_ca (goodIn_r _ [5, 6, 7, 8, 9, 10, 4, 11, 12, 13, 14, 15, 16, 17, 18, 19, 20, 21, 22, 23, 24, 25, 26, 27, 28, 29, 30, 31, 32, 33, 34, 35, 36, 37, 135, 136, 137, 138, 139, 140] (by decide +kernel) (by decide +kernel)) (goodIn_sub (fun _ h => List.mem_cons_of_mem _ (List.mem_append_left _ (List.mem_append_right _ h))) (by decide +kernel))) (goodIn_sub (fun _ h => List.mem_cons_of_mem _ (List.mem_append_right _ h)) (by decide +kernel))
set_option maxRecDepth 20000 in
theorem gX3_differences_X3_checkComparison : GoodIn wsX3_differences (wsV RX3 108 RX3 yX3_checkComparison wsX3_checkComparison) := goodIn_app (goodIn_of _ (by decide +kernel)) ggX3_differences_X3_checkComparison
set_option maxRecDepth 20000 in
theorem ggX3_differences_X3_approvedSlot : GoodIn wsX3_differences wsX3_approvedSlot := goodIn_r _ [28] (by decide +kernel) (by decide +kernel)
set_option maxRecDepth 20000 in
theorem gX3_differences_X3_approvedSlot : GoodIn wsX3_differences (va_wsS RX3 87 yX3_approvedSlot wsX3_approvedSlot) := goodIn_app (goodIn_of _ (by decide +kernel)) ggX3_differences_X3_approvedSlot
set_option maxRecDepth 20000 in
theorem ggX3_differences_X3_findMove : GoodIn wsX3_differences wsX3_findMove := goodIn_r _ [41, 42, 43, 44, 45, 46, 47, 48, 49, 50, 51, 52, 53, 16, 4, 17, 12, 13, 14, 54, 55, 56, 57, 8, 58, 59, 60, 61, 62, 63, 64, 65, 66, 67, 68, 69, 70, 71, 72, 73, 74, 75, 76, 77, 78, 79, 80, 81, 82, 83, 84, 32, 85, 86, 35, 36, 37, 87, 88, 89, 90, 91, 92, 93, 94, 95, 135, 136, 137, 138, 141, 142, 143, 144, 139, 140] (by decide +kernel) (by decide +kernel)
set_option maxRecDepth 20000 in
theorem gX3_differences_X3_findMove : GoodIn wsX3_differences (wsV RX3 112 RX3 yX3_findMove wsX3_findMove) := goodIn_app (goodIn_of _ (by decide +kernel)) ggX3_differences_X3_findMove
set_option maxRecDepth 20000 in
theorem ggX3_differences_X3_differs : GoodIn wsX3_differences wsX3_differs := goodIn_r _ [99, 8, 100, 101, 4, 102, 103, 104, 105, 79, 80, 81, 82, 83, 84, 32, 85, 86, 35, 36, 37, 13, 14, 77, 78, 12, 87, 88, 89, 90, 91, 92, 43, 44, 45, 46, 106, 107, 108, 109, 42, 110, 111, 112, 50, 113, 52, 53, 71, 62, 16, 17, 114, 115, 116, 117, 118, 119, 120, 121, 122, 123, 124, 72, 73, 74, 75, 67, 68, 69, 70, 125, 126, 127, 128, 129, 130, 131, 132, 133, 134, 135, 136, 137, 138, 139, 140, 141, 142, 143, 144] (by decide +kernel) (by decide +kernel)
set_option maxRecDepth 20000 in
theorem gX3_differences_X3_differs : GoodIn wsX3_differences (wsV RX3 115 RX3 yX3_differs wsX3_differs) := goodIn_app (goodIn_of _ (by decide +kernel)) ggX3_differences_X3_differs
theorem dX3_differences_0 : decode cX3_differences 0 = .ok (.aload_n 0, 1) := by decide +kernel
theorem dX3_differences_1 : decode cX3_differences 1 = .ok (.iload_n 1, 1) := by decide +kernel
theorem dX3_differences_2 : decode cX3_differences 2 = .ok (.iload_n 2, 1) := by decide +kernel
theorem dX3_differences_3 : decode cX3_differences 3 = .ok (.iload_n 3, 1) := by decide +kernel
theorem dX3_differences_4 : decode cX3_differences 4 = .ok (.invokevirtual 108, 3) := by decide +kernel
theorem dX3_differences_7 : decode cX3_differences 7 = .ok (.iload_n 1, 1) := by decide +kernel
theorem dX3_differences_8 : decode cX3_differences 8 = .ok (.iload_n 2, 1) := by decide +kernel
theorem dX3_differences_9 : decode cX3_differences 9 = .ok (.invokestatic 87, 3) := by decide +kernel
theorem dX3_differences_12 : decode cX3_differences 12 = .ok (.istore 4, 2) := by decide +kernel
theorem dX3_differences_14 : decode cX3_differences 14 = .ok (.aload_n 0, 1) := by decide +kernel
theorem dX3_differences_15 : decode cX3_differences 15 = .ok (.iload 4, 2) := by decide +kernel
theorem dX3_differences_17 : decode cX3_differences 17 = .ok (.iload_n 2, 1) := by decide +kernel
theorem dX3_differences_18 : decode cX3_differences 18 = .ok (.iload_n 3, 1) := by decide +kernel
theorem dX3_differences_19 : decode cX3_differences 19 = .ok (.invokevirtual 112, 3) := by decide +kernel
theorem dX3_differences_22 : decode cX3_differences 22 = .ok (.istore 5, 2) := by decide +kernel
theorem dX3_differences_24 : decode cX3_differences 24 = .ok (.iconst 0, 1) := by decide +kernel
theorem dX3_differences_25 : decode cX3_differences 25 = .ok (.istore 6, 2) := by decide +kernel
theorem dX3_differences_27 : decode cX3_differences 27 = .ok (.iconst 0, 1) := by decide +kernel
theorem dX3_differences_28 : decode cX3_differences 28 = .ok (.istore 7, 2) := by decide +kernel
theorem dX3_differences_30 : decode cX3_differences 30 = .ok (.iload 7, 2) := by decide +kernel
theorem dX3_differences_32 : decode cX3_differences 32 = .ok (.bipush 64, 2) := by decide +kernel
theorem dX3_differences_34 : decode cX3_differences 34 = .ok (.if_icmp .ge 27, 3) := by decide +kernel
theorem dX3_differences_37 : decode cX3_differences 37 = .ok (.aload_n 0, 1) := by decide +kernel
theorem dX3_differences_38 : decode cX3_differences 38 = .ok (.iload 4, 2) := by decide +kernel
theorem dX3_differences_40 : decode cX3_differences 40 = .ok (.iload_n 2, 1) := by decide +kernel
theorem dX3_differences_41 : decode cX3_differences 41 = .ok (.iload_n 3, 1) := by decide +kernel
theorem dX3_differences_42 : decode cX3_differences 42 = .ok (.iload 5, 2) := by decide +kernel
theorem dX3_differences_44 : decode cX3_differences 44 = .ok (.iload 7, 2) := by decide +kernel
theorem dX3_differences_46 : decode cX3_differences 46 = .ok (.invokevirtual 115, 3) := by decide +kernel
theorem dX3_differences_49 : decode cX3_differences 49 = .ok (.ifCond .eq 6, 3) := by decide +kernel
theorem dX3_differences_52 : decode cX3_differences 52 = .ok (.iinc 6 1, 3) := by decide +kernel
theorem dX3_differences_55 : decode cX3_differences 55 = .ok (.iinc 7 1, 3) := by decide +kernel
theorem dX3_differences_58 : decode cX3_differences 58 = .ok (.goto (-28), 3) := by decide +kernel
theorem dX3_differences_61 : decode cX3_differences 61 = .ok (.iload 6, 2) := by decide +kernel
theorem dX3_differences_63 : decode cX3_differences 63 = .ok (.ireturn, 1) := by decide +kernel
set_option maxRecDepth 20000 in
theorem ggX3_firstDifference_X3_checkComparison : GoodIn wsX3_firstDifference wsX3_checkComparison := goodIn_ca (goodIn_ca (goodIn_r _ [5, 6, 7, 8, 9, 10, 4, 11, 12, 13, 14, 15, 16, 17, 18, 19, 20, 21, 22, 23, 24, 25, 26, 27, 28, 29, 30, 31, 32, 33, 34, 35, 36, 37, 139, 140, 141, 142, 143, 144] (by decide +kernel) (by decide +kernel)) (goodIn_sub (fun _ h => List.mem_cons_of_mem _ (List.mem_append_left _ (List.mem_append_right _ h))) (by decide +kernel))) (goodIn_sub (fun _ h => List.mem_cons_of_mem _ (List.mem_append_right _ h)) (by decide +kernel))
set_option maxRecDepth 20000 in
theorem gX3_firstDifference_X3_checkComparison : GoodIn wsX3_firstDifference (wsV RX3 108 RX3 yX3_checkComparison wsX3_checkComparison) := goodIn_app (goodIn_of _ (by decide +kernel)) ggX3_firstDifference_X3_checkComparison
set_option maxRecDepth 20000 in
theorem ggX3_firstDifference_X3_approvedSlot : GoodIn wsX3_firstDifference wsX3_approvedSlot := goodIn_r _ [28] (by decide +kernel) (by decide +kernel)
set_option maxRecDepth 20000 in
theorem gX3_firstDifference_X3_approvedSlot : GoodIn wsX3_firstDifference (va_wsS RX3 87 yX3_approvedSlot wsX3_approvedSlot) := goodIn_app (goodIn_of _ (by decide +kernel)) ggX3_firstDifference_X3_approvedSlot
set_option maxRecDepth 20000 in
theorem ggX3_firstDifference_X3_findDifference : GoodIn wsX3_firstDifference wsX3_findDifference := goodIn_r _ [41, 42, 43, 44, 4, 45, 46, 47, 48, 49, 50, 51, 52, 53, 54, 55, 56, 57, 16, 17, 12, 13, 14, 58, 59, 60, 61, 8, 62, 63, 64, 65, 66, 67, 68, 69, 70, 71, 72, 73, 74, 75, 76, 77, 78, 79, 80, 81, 82, 83, 84, 85, 86, 87, 88, 32, 89, 90, 35, 36, 37, 91, 92, 93, 94, 95, 96, 97, 98, 99, 100, 101, 102, 103, 104, 105, 106, 107, 108, 109, 110, 111, 112, 113, 114, 115, 116, 117, 118, 119, 120, 121, 122, 123, 124, 125, 126, 127, 128, 129, 130, 131, 132, 133, 134, 135, 136, 137, 138, 139, 140, 141, 142, 145, 146, 147, 148, 143, 144] (by decide +kernel) (by decide +kernel)
set_option maxRecDepth 20000 in
theorem gX3_firstDifference_X3_findDifference : GoodIn wsX3_firstDifference (wsV RX3 119 RX3 yX3_findDifference wsX3_findDifference) := goodIn_app (goodIn_of _ (by decide +kernel)) ggX3_firstDifference_X3_findDifference
theorem dX3_firstDifference_0 : decode cX3_firstDifference 0 = .ok (.aload_n 0, 1) := by decide +kernel
theorem dX3_firstDifference_1 : decode cX3_firstDifference 1 = .ok (.iload_n 1, 1) := by decide +kernel
theorem dX3_firstDifference_2 : decode cX3_firstDifference 2 = .ok (.iload_n 2, 1) := by decide +kernel
theorem dX3_firstDifference_3 : decode cX3_firstDifference 3 = .ok (.iload_n 3, 1) := by decide +kernel
theorem dX3_firstDifference_4 : decode cX3_firstDifference 4 = .ok (.invokevirtual 108, 3) := by decide +kernel
theorem dX3_firstDifference_7 : decode cX3_firstDifference 7 = .ok (.aload_n 0, 1) := by decide +kernel
theorem dX3_firstDifference_8 : decode cX3_firstDifference 8 = .ok (.iload_n 1, 1) := by decide +kernel
theorem dX3_firstDifference_9 : decode cX3_firstDifference 9 = .ok (.iload_n 2, 1) := by decide +kernel
theorem dX3_firstDifference_10 : decode cX3_firstDifference 10 = .ok (.invokestatic 87, 3) := by decide +kernel
theorem dX3_firstDifference_13 : decode cX3_firstDifference 13 = .ok (.iload_n 2, 1) := by decide +kernel
theorem dX3_firstDifference_14 : decode cX3_firstDifference 14 = .ok (.iload_n 3, 1) := by decide +kernel
theorem dX3_firstDifference_15 : decode cX3_firstDifference 15 = .ok (.invokevirtual 119, 3) := by decide +kernel
theorem dX3_firstDifference_18 : decode cX3_firstDifference 18 = .ok (.ireturn, 1) := by decide +kernel
set_option maxRecDepth 20000 in
theorem ggX3_move_X3_checkComparison : GoodIn wsX3_move wsX3_checkComparison := goodIn_ca (goodIn_ca (goodIn_r _ [5, 6, 7, 8, 9, 10, 4, 11, 12, 13, 14, 15, 16, 17, 18, 19, 20, 21, 22, 23, 24, 25, 26, 27, 28, 29, 30, 31, 32, 33, 34, 35, 36, 37, 96, 97, 98, 99, 100, 101] (by decide +kernel) (by decide +kernel)) (goodIn_sub (fun _ h => List.mem_cons_of_mem _ (List.mem_append_left _ (List.mem_append_right _ h))) (by decide +kernel))) (goodIn_sub (fun _ h => List.mem_cons_of_mem _ (List.mem_append_right _ h)) (by decide +kernel))
set_option maxRecDepth 20000 in
theorem gX3_move_X3_checkComparison : GoodIn wsX3_move (wsV RX3 108 RX3 yX3_checkComparison wsX3_checkComparison) := goodIn_app (goodIn_of _ (by decide +kernel)) ggX3_move_X3_checkComparison
set_option maxRecDepth 20000 in
theorem ggX3_move_X3_approvedSlot : GoodIn wsX3_move wsX3_approvedSlot := goodIn_r _ [28] (by decide +kernel) (by decide +kernel)
set_option maxRecDepth 20000 in
theorem gX3_move_X3_approvedSlot : GoodIn wsX3_move (va_wsS RX3 87 yX3_approvedSlot wsX3_approvedSlot) := goodIn_app (goodIn_of _ (by decide +kernel)) ggX3_move_X3_approvedSlot
set_option maxRecDepth 20000 in
theorem ggX3_move_X3_findMove : GoodIn wsX3_move wsX3_findMove := goodIn_r _ [41, 42, 43, 44, 45, 46, 47, 48, 49, 50, 51, 52, 53, 16, 4, 17, 12, 13, 14, 54, 55, 56, 57, 8, 58, 59, 60, 61, 62, 63, 64, 65, 66, 67, 68, 69, 70, 71, 72, 73, 74, 75, 76, 77, 78, 79, 80, 81, 82, 83, 84, 32, 85, 86, 35, 36, 37, 87, 88, 89, 90, 91, 92, 93, 94, 95, 96, 97, 98, 99, 102, 103, 104, 105, 100, 101] (by decide +kernel) (by decide +kernel)
set_option maxRecDepth 20000 in
theorem gX3_move_X3_findMove : GoodIn wsX3_move (wsV RX3 112 RX3 yX3_findMove wsX3_findMove) := goodIn_app (goodIn_of _ (by decide +kernel)) ggX3_move_X3_findMove
theorem dX3_move_0 : decode cX3_move 0 = .ok (.aload_n 0, 1) := by decide +kernel
theorem dX3_move_1 : decode cX3_move 1 = .ok (.iload_n 1, 1) := by decide +kernel
theorem dX3_move_2 : decode cX3_move 2 = .ok (.iload_n 2, 1) := by decide +kernel
theorem dX3_move_3 : decode cX3_move 3 = .ok (.iload_n 3, 1) := by decide +kernel
theorem dX3_move_4 : decode cX3_move 4 = .ok (.invokevirtual 108, 3) := by decide +kernel
theorem dX3_move_7 : decode cX3_move 7 = .ok (.aload_n 0, 1) := by decide +kernel
theorem dX3_move_8 : decode cX3_move 8 = .ok (.iload_n 1, 1) := by decide +kernel
theorem dX3_move_9 : decode cX3_move 9 = .ok (.iload_n 2, 1) := by decide +kernel
theorem dX3_move_10 : decode cX3_move 10 = .ok (.invokestatic 87, 3) := by decide +kernel
theorem dX3_move_13 : decode cX3_move 13 = .ok (.iload_n 2, 1) := by decide +kernel
theorem dX3_move_14 : decode cX3_move 14 = .ok (.iload_n 3, 1) := by decide +kernel
theorem dX3_move_15 : decode cX3_move 15 = .ok (.invokevirtual 112, 3) := by decide +kernel
theorem dX3_move_18 : decode cX3_move 18 = .ok (.ireturn, 1) := by decide +kernel
set_option maxRecDepth 20000 in
theorem ggX3_soft_X3_checkComparison : GoodIn wsX3_soft wsX3_checkComparison := goodIn_ca (goodIn_ca (goodIn_r _ [5, 6, 7, 8, 9, 10, 4, 11, 12, 13, 14, 15, 16, 17, 18, 19, 20, 21, 22, 23, 24, 25, 26, 27, 28, 29, 30, 31, 32, 33, 34, 35, 36, 37, 74, 75, 76, 77, 78, 79] (by decide +kernel) (by decide +kernel)) (goodIn_sub (fun _ h => List.mem_cons_of_mem _ (List.mem_append_left _ (List.mem_append_right _ h))) (by decide +kernel))) (goodIn_sub (fun _ h => List.mem_cons_of_mem _ (List.mem_append_right _ h)) (by decide +kernel))
set_option maxRecDepth 20000 in
theorem gX3_soft_X3_checkComparison : GoodIn wsX3_soft (wsV RX3 108 RX3 yX3_checkComparison wsX3_checkComparison) := goodIn_app (goodIn_of _ (by decide +kernel)) ggX3_soft_X3_checkComparison
set_option maxRecDepth 20000 in
theorem ggX3_soft_X3_approvedSlot : GoodIn wsX3_soft wsX3_approvedSlot := goodIn_r _ [28] (by decide +kernel) (by decide +kernel)
set_option maxRecDepth 20000 in
theorem gX3_soft_X3_approvedSlot : GoodIn wsX3_soft (va_wsS RX3 87 yX3_approvedSlot wsX3_approvedSlot) := goodIn_app (goodIn_of _ (by decide +kernel)) ggX3_soft_X3_approvedSlot
set_option maxRecDepth 20000 in
theorem ggX3_soft_X3_columnOf : GoodIn wsX3_soft wsX3_columnOf := goodIn_r _ [40] (by decide +kernel) (by decide +kernel)
set_option maxRecDepth 20000 in
theorem gX3_soft_X3_columnOf : GoodIn wsX3_soft (va_wsS RX3 122 yX3_columnOf wsX3_columnOf) := goodIn_app (goodIn_of _ (by decide +kernel)) ggX3_soft_X3_columnOf
set_option maxRecDepth 20000 in
theorem ggX3_soft_X3_rowOf : GoodIn wsX3_soft wsX3_rowOf := goodIn_r _ [43] (by decide +kernel) (by decide +kernel)
set_option maxRecDepth 20000 in
theorem gX3_soft_X3_rowOf : GoodIn wsX3_soft (va_wsS RX3 125 yX3_rowOf wsX3_rowOf) := goodIn_app (goodIn_of _ (by decide +kernel)) ggX3_soft_X3_rowOf
set_option maxRecDepth 20000 in
theorem ggX3_soft_X3_isSoft : GoodIn wsX3_soft wsX3_isSoft := goodIn_r _ [47, 48, 49, 50, 51, 52, 53, 54, 8, 55, 56, 4, 57, 58, 59, 60, 32, 61, 62, 35, 36, 37, 13, 14, 63, 64, 12, 65, 66, 67, 68, 69, 70, 71, 72, 73, 74, 75, 76, 77, 78, 79] (by decide +kernel) (by decide +kernel)
set_option maxRecDepth 20000 in
theorem gX3_soft_X3_isSoft : GoodIn wsX3_soft (wsV RX3 128 RX3 yX3_isSoft wsX3_isSoft) := goodIn_app (goodIn_of _ (by decide +kernel)) ggX3_soft_X3_isSoft
theorem dX3_soft_0 : decode cX3_soft 0 = .ok (.aload_n 0, 1) := by decide +kernel
theorem dX3_soft_1 : decode cX3_soft 1 = .ok (.iload_n 1, 1) := by decide +kernel
theorem dX3_soft_2 : decode cX3_soft 2 = .ok (.iload_n 2, 1) := by decide +kernel
theorem dX3_soft_3 : decode cX3_soft 3 = .ok (.iload_n 3, 1) := by decide +kernel
theorem dX3_soft_4 : decode cX3_soft 4 = .ok (.invokevirtual 108, 3) := by decide +kernel
theorem dX3_soft_7 : decode cX3_soft 7 = .ok (.iload_n 1, 1) := by decide +kernel
theorem dX3_soft_8 : decode cX3_soft 8 = .ok (.iload_n 2, 1) := by decide +kernel
theorem dX3_soft_9 : decode cX3_soft 9 = .ok (.invokestatic 87, 3) := by decide +kernel
theorem dX3_soft_12 : decode cX3_soft 12 = .ok (.istore 4, 2) := by decide +kernel
theorem dX3_soft_14 : decode cX3_soft 14 = .ok (.iconst 0, 1) := by decide +kernel
theorem dX3_soft_15 : decode cX3_soft 15 = .ok (.istore 5, 2) := by decide +kernel
theorem dX3_soft_17 : decode cX3_soft 17 = .ok (.iconst 0, 1) := by decide +kernel
theorem dX3_soft_18 : decode cX3_soft 18 = .ok (.istore 6, 2) := by decide +kernel
theorem dX3_soft_20 : decode cX3_soft 20 = .ok (.iload 6, 2) := by decide +kernel
theorem dX3_soft_22 : decode cX3_soft 22 = .ok (.bipush 64, 2) := by decide +kernel
theorem dX3_soft_24 : decode cX3_soft 24 = .ok (.if_icmp .ge 33, 3) := by decide +kernel
theorem dX3_soft_27 : decode cX3_soft 27 = .ok (.aload_n 0, 1) := by decide +kernel
theorem dX3_soft_28 : decode cX3_soft 28 = .ok (.iload 4, 2) := by decide +kernel
theorem dX3_soft_30 : decode cX3_soft 30 = .ok (.iload_n 2, 1) := by decide +kernel
theorem dX3_soft_31 : decode cX3_soft 31 = .ok (.iload_n 3, 1) := by decide +kernel
theorem dX3_soft_32 : decode cX3_soft 32 = .ok (.iload 6, 2) := by decide +kernel
theorem dX3_soft_34 : decode cX3_soft 34 = .ok (.invokestatic 122, 3) := by decide +kernel
theorem dX3_soft_37 : decode cX3_soft 37 = .ok (.iload 6, 2) := by decide +kernel
theorem dX3_soft_39 : decode cX3_soft 39 = .ok (.invokestatic 125, 3) := by decide +kernel
theorem dX3_soft_42 : decode cX3_soft 42 = .ok (.invokevirtual 128, 3) := by decide +kernel
theorem dX3_soft_45 : decode cX3_soft 45 = .ok (.ifCond .eq 6, 3) := by decide +kernel
theorem dX3_soft_48 : decode cX3_soft 48 = .ok (.iinc 5 1, 3) := by decide +kernel
theorem dX3_soft_51 : decode cX3_soft 51 = .ok (.iinc 6 1, 3) := by decide +kernel
theorem dX3_soft_54 : decode cX3_soft 54 = .ok (.goto (-34), 3) := by decide +kernel
theorem dX3_soft_57 : decode cX3_soft 57 = .ok (.iload 5, 2) := by decide +kernel
theorem dX3_soft_59 : decode cX3_soft 59 = .ok (.ireturn, 1) := by decide +kernel
set_option maxRecDepth 20000 in
theorem ggX3_run_X3_checkComparison : GoodIn wsX3_run wsX3_checkComparison := goodIn_ca (goodIn_ca (goodIn_r _ [6, 7, 8, 9, 10, 11, 5, 12, 13, 14, 15, 16, 17, 18, 19, 20, 21, 22, 23, 24, 25, 26, 27, 28, 29, 30, 31, 32, 33, 34, 35, 36, 37, 38, 148, 149, 150, 151, 152, 153] (by decide +kernel) (by decide +kernel)) (goodIn_sub (fun _ h => List.mem_cons_of_mem _ (List.mem_append_left _ (List.mem_append_right _ h))) (by decide +kernel))) (goodIn_sub (fun _ h => List.mem_cons_of_mem _ (List.mem_append_right _ h)) (by decide +kernel))
set_option maxRecDepth 20000 in
theorem gX3_run_X3_checkComparison : GoodIn wsX3_run (wsV RX3 108 RX3 yX3_checkComparison wsX3_checkComparison) := goodIn_app (goodIn_of _ (by decide +kernel)) ggX3_run_X3_checkComparison
set_option maxRecDepth 20000 in
theorem ggX3_run_X3_approvedSlot : GoodIn wsX3_run wsX3_approvedSlot := goodIn_r _ [29] (by decide +kernel) (by decide +kernel)
set_option maxRecDepth 20000 in
theorem gX3_run_X3_approvedSlot : GoodIn wsX3_run (va_wsS RX3 87 yX3_approvedSlot wsX3_approvedSlot) := goodIn_app (goodIn_of _ (by decide +kernel)) ggX3_run_X3_approvedSlot
set_option maxRecDepth 20000 in
theorem ggX3_run_X3_findDifference : GoodIn wsX3_run wsX3_findDifference := goodIn_r _ [42, 43, 44, 45, 5, 46, 47, 48, 49, 50, 51, 52, 53, 54, 55, 56, 57, 58, 17, 18, 13, 14, 15, 59, 60, 61, 62, 9, 63, 64, 65, 66, 67, 68, 69, 70, 71, 72, 73, 74, 75, 76, 77, 78, 79, 80, 81, 82, 83, 84, 85, 86, 87, 88, 89, 33, 90, 91, 36, 37, 38, 92, 93, 94, 95, 96, 97, 98, 99, 100, 101, 102, 103, 104, 105, 106, 107, 108, 109, 110, 111, 112, 113, 114, 115, 116, 117, 118, 119, 120, 121, 122, 123, 124, 125, 126, 127, 128, 129, 130, 131, 132, 133, 134, 135, 136, 137, 138, 139, 148, 149, 150, 151, 154, 155, 156, 157, 152, 153] (by decide +kernel) (by decide +kernel)
set_option maxRecDepth 20000 in
theorem gX3_run_X3_findDifference : GoodIn wsX3_run (wsV RX3 119 RX3 yX3_findDifference wsX3_findDifference) := goodIn_app (goodIn_of _ (by decide +kernel)) ggX3_run_X3_findDifference
set_option maxRecDepth 20000 in
theorem ggX3_run_X0_add : GoodIn wsX3_run wsX0_add := goodIn_r _ [144, 145, 146, 147, 135, 50, 136, 17, 5, 18, 13, 14, 15, 158, 159] (by decide +kernel) (by decide +kernel)
set_option maxRecDepth 20000 in
theorem gX3_run_X0_add : GoodIn wsX3_run (wsV RX3 131 RX0 yX0_add wsX0_add) := goodIn_app (goodIn_of _ (by decide +kernel)) ggX3_run_X0_add
end
section
theorem dX3_run_0 : decode cX3_run 0 = .ok (.aload_n 0, 1) := by decide +kernel
theorem dX3_run_1 : decode cX3_run 1 = .ok (.iload_n 1, 1) := by decide +kernel
theorem dX3_run_2 : decode cX3_run 2 = .ok (.iload_n 2, 1) := by decide +kernel
theorem dX3_run_3 : decode cX3_run 3 = .ok (.iload_n 3, 1) := by decide +kernel
theorem dX3_run_4 : decode cX3_run 4 = .ok (.invokevirtual 108, 3) := by decide +kernel
theorem dX3_run_7 : decode cX3_run 7 = .ok (.aload_n 0, 1) := by decide +kernel
theorem dX3_run_8 : decode cX3_run 8 = .ok (.iload_n 1, 1) := by decide +kernel
theorem dX3_run_9 : decode cX3_run 9 = .ok (.iload_n 2, 1) := by decide +kernel
theorem dX3_run_10 : decode cX3_run 10 = .ok (.invokestatic 87, 3) := by decide +kernel
theorem dX3_run_13 : decode cX3_run 13 = .ok (.iload_n 2, 1) := by decide +kernel
theorem dX3_run_14 : decode cX3_run 14 = .ok (.iload_n 3, 1) := by decide +kernel
theorem dX3_run_15 : decode cX3_run 15 = .ok (.invokevirtual 119, 3) := by decide +kernel
theorem dX3_run_18 : decode cX3_run 18 = .ok (.ifCond .ge 7, 3) := by decide +kernel
theorem dX3_run_21 : decode cX3_run 21 = .ok (.iconst 1, 1) := by decide +kernel
theorem dX3_run_22 : decode cX3_run 22 = .ok (.goto 4, 3) := by decide +kernel
theorem dX3_run_25 : decode cX3_run 25 = .ok (.iconst 0, 1) := by decide +kernel
theorem dX3_run_26 : decode cX3_run 26 = .ok (.istore 4, 2) := by decide +kernel
theorem dX3_run_28 : decode cX3_run 28 = .ok (.aload_n 0, 1) := by decide +kernel
theorem dX3_run_29 : decode cX3_run 29 = .ok (.getfield 29, 3) := by decide +kernel
theorem dX3_run_32 : decode cX3_run 32 = .ok (.iload_n 2, 1) := by decide +kernel
theorem dX3_run_33 : decode cX3_run 33 = .ok (.iload 4, 2) := by decide +kernel
theorem dX3_run_35 : decode cX3_run 35 = .ok (.invokevirtual 131, 3) := by decide +kernel
theorem dX3_run_38 : decode cX3_run 38 = .ok (.iload 4, 2) := by decide +kernel
theorem dX3_run_40 : decode cX3_run 40 = .ok (.ireturn, 1) := by decide +kernel
set_option maxRecDepth 20000 in
theorem ggX3_runs_X3_isTest : GoodIn wsX3_runs wsX3_isTest := goodIn_r _ [5, 6, 7, 4, 8] (by decide +kernel) (by decide +kernel)
set_option maxRecDepth 20000 in
theorem gX3_runs_X3_isTest : GoodIn wsX3_runs (va_wsS RX3 33 yX3_isTest wsX3_isTest) := goodIn_app (goodIn_of _ (by decide +kernel)) ggX3_runs_X3_isTest
set_option maxRecDepth 20000 in
theorem ggX3_runs_X3_checkArguments : GoodIn wsX3_runs wsX3_checkArguments := goodIn_ca (goodIn_r _ [11, 12, 13] (by decide +kernel) (by decide +kernel)) (goodIn_sub (fun _ h => List.mem_cons_of_mem _ (List.mem_append_right _ h)) (by decide +kernel))
set_option maxRecDepth 20000 in
theorem gX3_runs_X3_checkArguments : GoodIn wsX3_runs (va_wsS RX3 44 yX3_checkArguments wsX3_checkArguments) := goodIn_app (goodIn_of _ (by decide +kernel)) ggX3_runs_X3_checkArguments
set_option maxRecDepth 20000 in
theorem ggX3_runs_X0_length : GoodIn wsX3_runs wsX0_length := goodIn_r _ [18, 19, 3, 4, 5, 6, 7, 8, 24, 25] (by decide +kernel) (by decide +kernel)
set_option maxRecDepth 20000 in
theorem gX3_runs_X0_length : GoodIn wsX3_runs (wsV RX3 135 RX0 yX0_length wsX0_length) := goodIn_app (goodIn_of _ (by decide +kernel)) ggX3_runs_X0_length
theorem dX3_runs_0 : decode cX3_runs 0 = .ok (.iload_n 1, 1) := by decide +kernel
theorem dX3_runs_1 : decode cX3_runs 1 = .ok (.invokestatic 33, 3) := by decide +kernel
theorem dX3_runs_4 : decode cX3_runs 4 = .ok (.invokestatic 44, 3) := by decide +kernel
theorem dX3_runs_7 : decode cX3_runs 7 = .ok (.aload_n 0, 1) := by decide +kernel
theorem dX3_runs_8 : decode cX3_runs 8 = .ok (.getfield 29, 3) := by decide +kernel
theorem dX3_runs_11 : decode cX3_runs 11 = .ok (.iload_n 1, 1) := by decide +kernel
theorem dX3_runs_12 : decode cX3_runs 12 = .ok (.invokevirtual 135, 3) := by decide +kernel
theorem dX3_runs_15 : decode cX3_runs 15 = .ok (.ireturn, 1) := by decide +kernel
set_option maxRecDepth 20000 in
theorem ggX3_doubt_X3_isTest : GoodIn wsX3_doubt wsX3_isTest := goodIn_r _ [5, 6, 7, 4, 8] (by decide +kernel) (by decide +kernel)
set_option maxRecDepth 20000 in
theorem gX3_doubt_X3_isTest : GoodIn wsX3_doubt (va_wsS RX3 33 yX3_isTest wsX3_isTest) := goodIn_app (goodIn_of _ (by decide +kernel)) ggX3_doubt_X3_isTest
set_option maxRecDepth 20000 in
theorem ggX3_doubt_X3_checkArguments : GoodIn wsX3_doubt wsX3_checkArguments := goodIn_ca (goodIn_r _ [11, 12, 13] (by decide +kernel) (by decide +kernel)) (goodIn_sub (fun _ h => List.mem_cons_of_mem _ (List.mem_append_right _ h)) (by decide +kernel))
set_option maxRecDepth 20000 in
theorem gX3_doubt_X3_checkArguments : GoodIn wsX3_doubt (va_wsS RX3 44 yX3_checkArguments wsX3_checkArguments) := goodIn_app (goodIn_of _ (by decide +kernel)) ggX3_doubt_X3_checkArguments
set_option maxRecDepth 20000 in
theorem ggX3_doubt_X0_length : GoodIn wsX3_doubt wsX0_length := goodIn_r _ [18, 19, 3, 4, 5, 6, 7, 8, 36, 37] (by decide +kernel) (by decide +kernel)
set_option maxRecDepth 20000 in
theorem gX3_doubt_X0_length : GoodIn wsX3_doubt (wsV RX3 135 RX0 yX0_length wsX0_length) := goodIn_app (goodIn_of _ (by decide +kernel)) ggX3_doubt_X0_length
set_option maxRecDepth 20000 in
theorem ggX3_doubt_X0_changes : GoodIn wsX3_doubt wsX0_changes := goodIn_r _ [23, 19, 24, 3, 4, 5, 6, 7, 8, 25, 26, 27, 28, 29, 30, 31, 36, 37] (by decide +kernel) (by decide +kernel)
set_option maxRecDepth 20000 in
theorem gX3_doubt_X0_changes : GoodIn wsX3_doubt (wsV RX3 138 RX0 yX0_changes wsX0_changes) := goodIn_app (goodIn_of _ (by decide +kernel)) ggX3_doubt_X0_changes
theorem dX3_doubt_0 : decode cX3_doubt 0 = .ok (.iload_n 1, 1) := by decide +kernel
theorem dX3_doubt_1 : decode cX3_doubt 1 = .ok (.invokestatic 33, 3) := by decide +kernel
theorem dX3_doubt_4 : decode cX3_doubt 4 = .ok (.invokestatic 44, 3) := by decide +kernel
theorem dX3_doubt_7 : decode cX3_doubt 7 = .ok (.aload_n 0, 1) := by decide +kernel
theorem dX3_doubt_8 : decode cX3_doubt 8 = .ok (.getfield 29, 3) := by decide +kernel
theorem dX3_doubt_11 : decode cX3_doubt 11 = .ok (.iload_n 1, 1) := by decide +kernel
theorem dX3_doubt_12 : decode cX3_doubt 12 = .ok (.invokevirtual 135, 3) := by decide +kernel
theorem dX3_doubt_15 : decode cX3_doubt 15 = .ok (.iconst 1, 1) := by decide +kernel
theorem dX3_doubt_16 : decode cX3_doubt 16 = .ok (.isub, 1) := by decide +kernel
theorem dX3_doubt_17 : decode cX3_doubt 17 = .ok (.istore_n 2, 1) := by decide +kernel
theorem dX3_doubt_18 : decode cX3_doubt 18 = .ok (.iload_n 2, 1) := by decide +kernel
theorem dX3_doubt_19 : decode cX3_doubt 19 = .ok (.iconst 1, 1) := by decide +kernel
theorem dX3_doubt_20 : decode cX3_doubt 20 = .ok (.if_icmp .ge 5, 3) := by decide +kernel
theorem dX3_doubt_23 : decode cX3_doubt 23 = .ok (.iconst 0, 1) := by decide +kernel
theorem dX3_doubt_24 : decode cX3_doubt 24 = .ok (.ireturn, 1) := by decide +kernel
theorem dX3_doubt_25 : decode cX3_doubt 25 = .ok (.bipush 100, 2) := by decide +kernel
theorem dX3_doubt_27 : decode cX3_doubt 27 = .ok (.aload_n 0, 1) := by decide +kernel
theorem dX3_doubt_28 : decode cX3_doubt 28 = .ok (.getfield 29, 3) := by decide +kernel
theorem dX3_doubt_31 : decode cX3_doubt 31 = .ok (.iload_n 1, 1) := by decide +kernel
theorem dX3_doubt_32 : decode cX3_doubt 32 = .ok (.invokevirtual 138, 3) := by decide +kernel
theorem dX3_doubt_35 : decode cX3_doubt 35 = .ok (.imul, 1) := by decide +kernel
theorem dX3_doubt_36 : decode cX3_doubt 36 = .ok (.iload_n 2, 1) := by decide +kernel
theorem dX3_doubt_37 : decode cX3_doubt 37 = .ok (.idiv, 1) := by decide +kernel
theorem dX3_doubt_38 : decode cX3_doubt 38 = .ok (.ireturn, 1) := by decide +kernel
theorem dX3_checkArguments_0 : decode cX3_checkArguments 0 = .ok (.iload_n 0, 1) := by decide +kernel
theorem dX3_checkArguments_1 : decode cX3_checkArguments 1 = .ok (.ifCond .ne 13, 3) := by decide +kernel
theorem dX3_checkArguments_4 : decode cX3_checkArguments 4 = .ok (.new 141, 3) := by decide +kernel
theorem dX3_checkArguments_7 : decode cX3_checkArguments 7 = .ok (.dup, 1) := by decide +kernel
theorem dX3_checkArguments_8 : decode cX3_checkArguments 8 = .ok (.ldc 143, 2) := by decide +kernel
theorem dX3_checkArguments_10 : decode cX3_checkArguments 10 = .ok (.invokespecial 145, 3) := by decide +kernel
theorem dX3_checkArguments_13 : decode cX3_checkArguments 13 = .ok (.athrow, 1) := by decide +kernel
theorem dX3_checkArguments_14 : decode cX3_checkArguments 14 = .ok (.return_, 1) := by decide +kernel
set_option maxRecDepth 20000 in
theorem ggX3_checkComparison_X3_isBranch : GoodIn wsX3_checkComparison wsX3_isBranch := goodIn_r _ [7, 8, 9, 6, 10] (by decide +kernel) (by decide +kernel)
set_option maxRecDepth 20000 in
theorem gX3_checkComparison_X3_isBranch : GoodIn wsX3_checkComparison (va_wsS RX3 84 yX3_isBranch wsX3_isBranch) := goodIn_app (goodIn_of _ (by decide +kernel)) ggX3_checkComparison_X3_isBranch
set_option maxRecDepth 20000 in
theorem ggX3_checkComparison_X3_isTest : GoodIn wsX3_checkComparison wsX3_isTest := goodIn_r _ [13, 8, 9, 6, 10] (by decide +kernel) (by decide +kernel)
set_option maxRecDepth 20000 in
theorem gX3_checkComparison_X3_isTest : GoodIn wsX3_checkComparison (va_wsS RX3 33 yX3_isTest wsX3_isTest) := goodIn_app (goodIn_of _ (by decide +kernel)) ggX3_checkComparison_X3_isTest
set_option maxRecDepth 20000 in
theorem ggX3_checkComparison_X3_isShade : GoodIn wsX3_checkComparison wsX3_isShade := goodIn_r _ [16, 8, 9, 6, 10] (by decide +kernel) (by decide +kernel)
set_option maxRecDepth 20000 in
theorem gX3_checkComparison_X3_isShade : GoodIn wsX3_checkComparison (va_wsS RX3 41 yX3_isShade wsX3_isShade) := goodIn_app (goodIn_of _ (by decide +kernel)) ggX3_checkComparison_X3_isShade
set_option maxRecDepth 20000 in
theorem ggX3_checkComparison_X3_checkArguments : GoodIn wsX3_checkComparison wsX3_checkArguments := goodIn_ca (goodIn_r _ [19, 20, 21] (by decide +kernel) (by decide +kernel)) (goodIn_sub (fun _ h => List.mem_cons_of_mem _ (List.mem_append_right _ h)) (by decide +kernel))
set_option maxRecDepth 20000 in
theorem gX3_checkComparison_X3_checkArguments : GoodIn wsX3_checkComparison (va_wsS RX3 44 yX3_checkArguments wsX3_checkArguments) := goodIn_app (goodIn_of _ (by decide +kernel)) ggX3_checkComparison_X3_checkArguments
set_option maxRecDepth 20000 in
theorem ggX3_checkComparison_X3_approvedSlot : GoodIn wsX3_checkComparison wsX3_approvedSlot := goodIn_r _ [24] (by decide +kernel) (by decide +kernel)
set_option maxRecDepth 20000 in
theorem gX3_checkComparison_X3_approvedSlot : GoodIn wsX3_checkComparison (va_wsS RX3 87 yX3_approvedSlot wsX3_approvedSlot) := goodIn_app (goodIn_of _ (by decide +kernel)) ggX3_checkComparison_X3_approvedSlot
set_option maxRecDepth 20000 in
theorem ggX3_checkComparison_X1_has : GoodIn wsX3_checkComparison wsX1_has := goodIn_r _ [29, 30, 31, 32, 28, 33, 9, 6, 10, 38, 39] (by decide +kernel) (by decide +kernel)
set_option maxRecDepth 20000 in
theorem gX3_checkComparison_X1_has : GoodIn wsX3_checkComparison (wsV RX3 91 RX1 yX1_has wsX1_has) := goodIn_app (goodIn_of _ (by decide +kernel)) ggX3_checkComparison_X1_has
theorem dX3_checkComparison_0 : decode cX3_checkComparison 0 = .ok (.iload_n 1, 1) := by decide +kernel
theorem dX3_checkComparison_1 : decode cX3_checkComparison 1 = .ok (.invokestatic 84, 3) := by decide +kernel
theorem dX3_checkComparison_4 : decode cX3_checkComparison 4 = .ok (.ifCond .eq 21, 3) := by decide +kernel
theorem dX3_checkComparison_7 : decode cX3_checkComparison 7 = .ok (.iload_n 2, 1) := by decide +kernel
theorem dX3_checkComparison_8 : decode cX3_checkComparison 8 = .ok (.invokestatic 33, 3) := by decide +kernel
theorem dX3_checkComparison_11 : decode cX3_checkComparison 11 = .ok (.ifCond .eq 14, 3) := by decide +kernel
theorem dX3_checkComparison_14 : decode cX3_checkComparison 14 = .ok (.iload_n 3, 1) := by decide +kernel
theorem dX3_checkComparison_15 : decode cX3_checkComparison 15 = .ok (.invokestatic 41, 3) := by decide +kernel
theorem dX3_checkComparison_18 : decode cX3_checkComparison 18 = .ok (.ifCond .eq 7, 3) := by decide +kernel
theorem dX3_checkComparison_21 : decode cX3_checkComparison 21 = .ok (.iconst 1, 1) := by decide +kernel
theorem dX3_checkComparison_22 : decode cX3_checkComparison 22 = .ok (.goto 4, 3) := by decide +kernel
theorem dX3_checkComparison_25 : decode cX3_checkComparison 25 = .ok (.iconst 0, 1) := by decide +kernel
theorem dX3_checkComparison_26 : decode cX3_checkComparison 26 = .ok (.invokestatic 44, 3) := by decide +kernel
theorem dX3_checkComparison_29 : decode cX3_checkComparison 29 = .ok (.aload_n 0, 1) := by decide +kernel
theorem dX3_checkComparison_30 : decode cX3_checkComparison 30 = .ok (.getfield 12, 3) := by decide +kernel
theorem dX3_checkComparison_33 : decode cX3_checkComparison 33 = .ok (.iload_n 1, 1) := by decide +kernel
theorem dX3_checkComparison_34 : decode cX3_checkComparison 34 = .ok (.iload_n 2, 1) := by decide +kernel
theorem dX3_checkComparison_35 : decode cX3_checkComparison 35 = .ok (.invokestatic 87, 3) := by decide +kernel
theorem dX3_checkComparison_38 : decode cX3_checkComparison 38 = .ok (.invokevirtual 91, 3) := by decide +kernel
theorem dX3_checkComparison_41 : decode cX3_checkComparison 41 = .ok (.ifCond .ne 13, 3) := by decide +kernel
theorem dX3_checkComparison_44 : decode cX3_checkComparison 44 = .ok (.new 77, 3) := by decide +kernel
theorem dX3_checkComparison_47 : decode cX3_checkComparison 47 = .ok (.dup, 1) := by decide +kernel
theorem dX3_checkComparison_48 : decode cX3_checkComparison 48 = .ok (.ldc 146, 2) := by decide +kernel
theorem dX3_checkComparison_50 : decode cX3_checkComparison 50 = .ok (.invokespecial 81, 3) := by decide +kernel
theorem dX3_checkComparison_53 : decode cX3_checkComparison 53 = .ok (.athrow, 1) := by decide +kernel
theorem dX3_checkComparison_54 : decode cX3_checkComparison 54 = .ok (.return_, 1) := by decide +kernel
theorem dX3_isWithin_0 : decode cX3_isWithin 0 = .ok (.iload_n 0, 1) := by decide +kernel
theorem dX3_isWithin_1 : decode cX3_isWithin 1 = .ok (.iload_n 1, 1) := by decide +kernel
theorem dX3_isWithin_2 : decode cX3_isWithin 2 = .ok (.if_icmp .lt 12, 3) := by decide +kernel
theorem dX3_isWithin_5 : decode cX3_isWithin 5 = .ok (.iload_n 0, 1) := by decide +kernel
theorem dX3_isWithin_6 : decode cX3_isWithin 6 = .ok (.iload_n 2, 1) := by decide +kernel
theorem dX3_isWithin_7 : decode cX3_isWithin 7 = .ok (.if_icmp .gt 7, 3) := by decide +kernel
theorem dX3_isWithin_10 : decode cX3_isWithin 10 = .ok (.iconst 1, 1) := by decide +kernel
theorem dX3_isWithin_11 : decode cX3_isWithin 11 = .ok (.goto 4, 3) := by decide +kernel
theorem dX3_isWithin_14 : decode cX3_isWithin 14 = .ok (.iconst 0, 1) := by decide +kernel
theorem dX3_isWithin_15 : decode cX3_isWithin 15 = .ok (.ireturn, 1) := by decide +kernel
set_option maxRecDepth 20000 in
theorem ggX3_isTest_X3_isWithin : GoodIn wsX3_isTest wsX3_isWithin := goodIn_r _ [4] (by decide +kernel) (by decide +kernel)
set_option maxRecDepth 20000 in
theorem gX3_isTest_X3_isWithin : GoodIn wsX3_isTest (va_wsS RX3 70 yX3_isWithin wsX3_isWithin) := goodIn_app (goodIn_of _ (by decide +kernel)) ggX3_isTest_X3_isWithin
theorem dX3_isTest_0 : decode cX3_isTest 0 = .ok (.iload_n 0, 1) := by decide +kernel
theorem dX3_isTest_1 : decode cX3_isTest 1 = .ok (.iconst 0, 1) := by decide +kernel
theorem dX3_isTest_2 : decode cX3_isTest 2 = .ok (.iconst 4, 1) := by decide +kernel
theorem dX3_isTest_3 : decode cX3_isTest 3 = .ok (.invokestatic 70, 3) := by decide +kernel
theorem dX3_isTest_6 : decode cX3_isTest 6 = .ok (.ireturn, 1) := by decide +kernel
set_option maxRecDepth 20000 in
theorem ggX3_isBranch_X3_isWithin : GoodIn wsX3_isBranch wsX3_isWithin := goodIn_r _ [4] (by decide +kernel) (by decide +kernel)
set_option maxRecDepth 20000 in
theorem gX3_isBranch_X3_isWithin : GoodIn wsX3_isBranch (va_wsS RX3 70 yX3_isWithin wsX3_isWithin) := goodIn_app (goodIn_of _ (by decide +kernel)) ggX3_isBranch_X3_isWithin
theorem dX3_isBranch_0 : decode cX3_isBranch 0 = .ok (.iload_n 0, 1) := by decide +kernel
theorem dX3_isBranch_1 : decode cX3_isBranch 1 = .ok (.iconst 0, 1) := by decide +kernel
theorem dX3_isBranch_2 : decode cX3_isBranch 2 = .ok (.iconst 3, 1) := by decide +kernel
theorem dX3_isBranch_3 : decode cX3_isBranch 3 = .ok (.invokestatic 70, 3) := by decide +kernel
theorem dX3_isBranch_6 : decode cX3_isBranch 6 = .ok (.ireturn, 1) := by decide +kernel
set_option maxRecDepth 20000 in
theorem ggX3_isSideBranch_X3_isWithin : GoodIn wsX3_isSideBranch wsX3_isWithin := goodIn_r _ [4] (by decide +kernel) (by decide +kernel)
set_option maxRecDepth 20000 in
theorem gX3_isSideBranch_X3_isWithin : GoodIn wsX3_isSideBranch (va_wsS RX3 70 yX3_isWithin wsX3_isWithin) := goodIn_app (goodIn_of _ (by decide +kernel)) ggX3_isSideBranch_X3_isWithin
theorem dX3_isSideBranch_0 : decode cX3_isSideBranch 0 = .ok (.iload_n 0, 1) := by decide +kernel
theorem dX3_isSideBranch_1 : decode cX3_isSideBranch 1 = .ok (.iconst 1, 1) := by decide +kernel
theorem dX3_isSideBranch_2 : decode cX3_isSideBranch 2 = .ok (.iconst 3, 1) := by decide +kernel
theorem dX3_isSideBranch_3 : decode cX3_isSideBranch 3 = .ok (.invokestatic 70, 3) := by decide +kernel
theorem dX3_isSideBranch_6 : decode cX3_isSideBranch 6 = .ok (.ireturn, 1) := by decide +kernel
set_option maxRecDepth 20000 in
theorem ggX3_isShade_X3_isWithin : GoodIn wsX3_isShade wsX3_isWithin := goodIn_r _ [4] (by decide +kernel) (by decide +kernel)
set_option maxRecDepth 20000 in
theorem gX3_isShade_X3_isWithin : GoodIn wsX3_isShade (va_wsS RX3 70 yX3_isWithin wsX3_isWithin) := goodIn_app (goodIn_of _ (by decide +kernel)) ggX3_isShade_X3_isWithin
theorem dX3_isShade_0 : decode cX3_isShade 0 = .ok (.iload_n 0, 1) := by decide +kernel
theorem dX3_isShade_1 : decode cX3_isShade 1 = .ok (.iconst 0, 1) := by decide +kernel
theorem dX3_isShade_2 : decode cX3_isShade 2 = .ok (.sipush 255, 3) := by decide +kernel
theorem dX3_isShade_5 : decode cX3_isShade 5 = .ok (.invokestatic 70, 3) := by decide +kernel
theorem dX3_isShade_8 : decode cX3_isShade 8 = .ok (.ireturn, 1) := by decide +kernel
set_option maxRecDepth 20000 in
theorem ggX3_isCell_X3_isWithin : GoodIn wsX3_isCell wsX3_isWithin := goodIn_r _ [4] (by decide +kernel) (by decide +kernel)
set_option maxRecDepth 20000 in
theorem gX3_isCell_X3_isWithin : GoodIn wsX3_isCell (va_wsS RX3 70 yX3_isWithin wsX3_isWithin) := goodIn_app (goodIn_of _ (by decide +kernel)) ggX3_isCell_X3_isWithin
theorem dX3_isCell_0 : decode cX3_isCell 0 = .ok (.iload_n 0, 1) := by decide +kernel
theorem dX3_isCell_1 : decode cX3_isCell 1 = .ok (.iconst 0, 1) := by decide +kernel
theorem dX3_isCell_2 : decode cX3_isCell 2 = .ok (.bipush 7, 2) := by decide +kernel
theorem dX3_isCell_4 : decode cX3_isCell 4 = .ok (.invokestatic 70, 3) := by decide +kernel
theorem dX3_isCell_7 : decode cX3_isCell 7 = .ok (.ifCond .eq 17, 3) := by decide +kernel
theorem dX3_isCell_10 : decode cX3_isCell 10 = .ok (.iload_n 1, 1) := by decide +kernel
theorem dX3_isCell_11 : decode cX3_isCell 11 = .ok (.iconst 0, 1) := by decide +kernel
theorem dX3_isCell_12 : decode cX3_isCell 12 = .ok (.bipush 7, 2) := by decide +kernel
theorem dX3_isCell_14 : decode cX3_isCell 14 = .ok (.invokestatic 70, 3) := by decide +kernel
theorem dX3_isCell_17 : decode cX3_isCell 17 = .ok (.ifCond .eq 7, 3) := by decide +kernel
theorem dX3_isCell_20 : decode cX3_isCell 20 = .ok (.iconst 1, 1) := by decide +kernel
theorem dX3_isCell_21 : decode cX3_isCell 21 = .ok (.goto 4, 3) := by decide +kernel
theorem dX3_isCell_24 : decode cX3_isCell 24 = .ok (.iconst 0, 1) := by decide +kernel
theorem dX3_isCell_25 : decode cX3_isCell 25 = .ok (.ireturn, 1) := by decide +kernel
set_option maxRecDepth 20000 in
theorem ggX3_isRectangle_X3_isCell : GoodIn wsX3_isRectangle wsX3_isCell := goodIn_r _ [4, 5, 6, 3, 7] (by decide +kernel) (by decide +kernel)
set_option maxRecDepth 20000 in
theorem gX3_isRectangle_X3_isCell : GoodIn wsX3_isRectangle (va_wsS RX3 55 yX3_isCell wsX3_isCell) := goodIn_app (goodIn_of _ (by decide +kernel)) ggX3_isRectangle_X3_isCell
set_option maxRecDepth 20000 in
theorem ggX3_isRectangle_X3_isWithin : GoodIn wsX3_isRectangle wsX3_isWithin := goodIn_r _ [7] (by decide +kernel) (by decide +kernel)
set_option maxRecDepth 20000 in
theorem gX3_isRectangle_X3_isWithin : GoodIn wsX3_isRectangle (va_wsS RX3 70 yX3_isWithin wsX3_isWithin) := goodIn_app (goodIn_of _ (by decide +kernel)) ggX3_isRectangle_X3_isWithin
theorem dX3_isRectangle_0 : decode cX3_isRectangle 0 = .ok (.iload_n 0, 1) := by decide +kernel
theorem dX3_isRectangle_1 : decode cX3_isRectangle 1 = .ok (.iload_n 1, 1) := by decide +kernel
theorem dX3_isRectangle_2 : decode cX3_isRectangle 2 = .ok (.invokestatic 55, 3) := by decide +kernel
theorem dX3_isRectangle_5 : decode cX3_isRectangle 5 = .ok (.ifCond .eq 31, 3) := by decide +kernel
theorem dX3_isRectangle_8 : decode cX3_isRectangle 8 = .ok (.iload_n 2, 1) := by decide +kernel
theorem dX3_isRectangle_9 : decode cX3_isRectangle 9 = .ok (.iconst 1, 1) := by decide +kernel
theorem dX3_isRectangle_10 : decode cX3_isRectangle 10 = .ok (.bipush 8, 2) := by decide +kernel
theorem dX3_isRectangle_12 : decode cX3_isRectangle 12 = .ok (.iload_n 0, 1) := by decide +kernel
theorem dX3_isRectangle_13 : decode cX3_isRectangle 13 = .ok (.isub, 1) := by decide +kernel
theorem dX3_isRectangle_14 : decode cX3_isRectangle 14 = .ok (.invokestatic 70, 3) := by decide +kernel
theorem dX3_isRectangle_17 : decode cX3_isRectangle 17 = .ok (.ifCond .eq 19, 3) := by decide +kernel
theorem dX3_isRectangle_20 : decode cX3_isRectangle 20 = .ok (.iload_n 3, 1) := by decide +kernel
theorem dX3_isRectangle_21 : decode cX3_isRectangle 21 = .ok (.iconst 1, 1) := by decide +kernel
theorem dX3_isRectangle_22 : decode cX3_isRectangle 22 = .ok (.bipush 8, 2) := by decide +kernel
theorem dX3_isRectangle_24 : decode cX3_isRectangle 24 = .ok (.iload_n 1, 1) := by decide +kernel
theorem dX3_isRectangle_25 : decode cX3_isRectangle 25 = .ok (.isub, 1) := by decide +kernel
theorem dX3_isRectangle_26 : decode cX3_isRectangle 26 = .ok (.invokestatic 70, 3) := by decide +kernel
theorem dX3_isRectangle_29 : decode cX3_isRectangle 29 = .ok (.ifCond .eq 7, 3) := by decide +kernel
theorem dX3_isRectangle_32 : decode cX3_isRectangle 32 = .ok (.iconst 1, 1) := by decide +kernel
theorem dX3_isRectangle_33 : decode cX3_isRectangle 33 = .ok (.goto 4, 3) := by decide +kernel
theorem dX3_isRectangle_36 : decode cX3_isRectangle 36 = .ok (.iconst 0, 1) := by decide +kernel
theorem dX3_isRectangle_37 : decode cX3_isRectangle 37 = .ok (.ireturn, 1) := by decide +kernel
theorem dX3_pictureSlot_0 : decode cX3_pictureSlot 0 = .ok (.iload_n 0, 1) := by decide +kernel
theorem dX3_pictureSlot_1 : decode cX3_pictureSlot 1 = .ok (.ireturn, 1) := by decide +kernel
theorem dX3_approvedSlot_0 : decode cX3_approvedSlot 0 = .ok (.iconst 5, 1) := by decide +kernel
theorem dX3_approvedSlot_1 : decode cX3_approvedSlot 1 = .ok (.iload_n 0, 1) := by decide +kernel
theorem dX3_approvedSlot_2 : decode cX3_approvedSlot 2 = .ok (.iconst 5, 1) := by decide +kernel
theorem dX3_approvedSlot_3 : decode cX3_approvedSlot 3 = .ok (.imul, 1) := by decide +kernel
theorem dX3_approvedSlot_4 : decode cX3_approvedSlot 4 = .ok (.iadd, 1) := by decide +kernel
theorem dX3_approvedSlot_5 : decode cX3_approvedSlot 5 = .ok (.iload_n 1, 1) := by decide +kernel
theorem dX3_approvedSlot_6 : decode cX3_approvedSlot 6 = .ok (.iadd, 1) := by decide +kernel
theorem dX3_approvedSlot_7 : decode cX3_approvedSlot 7 = .ok (.ireturn, 1) := by decide +kernel
theorem dX3_baseSlot_0 : decode cX3_baseSlot 0 = .ok (.bipush 25, 2) := by decide +kernel
theorem dX3_baseSlot_2 : decode cX3_baseSlot 2 = .ok (.iload_n 0, 1) := by decide +kernel
theorem dX3_baseSlot_3 : decode cX3_baseSlot 3 = .ok (.iconst 5, 1) := by decide +kernel
theorem dX3_baseSlot_4 : decode cX3_baseSlot 4 = .ok (.imul, 1) := by decide +kernel
theorem dX3_baseSlot_5 : decode cX3_baseSlot 5 = .ok (.iadd, 1) := by decide +kernel
theorem dX3_baseSlot_6 : decode cX3_baseSlot 6 = .ok (.iload_n 1, 1) := by decide +kernel
theorem dX3_baseSlot_7 : decode cX3_baseSlot 7 = .ok (.iadd, 1) := by decide +kernel
theorem dX3_baseSlot_8 : decode cX3_baseSlot 8 = .ok (.ireturn, 1) := by decide +kernel
theorem dX3_columnOf_0 : decode cX3_columnOf 0 = .ok (.iload_n 0, 1) := by decide +kernel
theorem dX3_columnOf_1 : decode cX3_columnOf 1 = .ok (.bipush 8, 2) := by decide +kernel
theorem dX3_columnOf_3 : decode cX3_columnOf 3 = .ok (.irem, 1) := by decide +kernel
theorem dX3_columnOf_4 : decode cX3_columnOf 4 = .ok (.ireturn, 1) := by decide +kernel
theorem dX3_rowOf_0 : decode cX3_rowOf 0 = .ok (.iload_n 0, 1) := by decide +kernel
theorem dX3_rowOf_1 : decode cX3_rowOf 1 = .ok (.bipush 8, 2) := by decide +kernel
theorem dX3_rowOf_3 : decode cX3_rowOf 3 = .ok (.idiv, 1) := by decide +kernel
theorem dX3_rowOf_4 : decode cX3_rowOf 4 = .ok (.ireturn, 1) := by decide +kernel
set_option maxRecDepth 20000 in
theorem ggX3_clashes_X3_approvedSlot : GoodIn wsX3_clashes wsX3_approvedSlot := goodIn_r _ [5] (by decide +kernel) (by decide +kernel)
set_option maxRecDepth 20000 in
theorem gX3_clashes_X3_approvedSlot : GoodIn wsX3_clashes (va_wsS RX3 87 yX3_approvedSlot wsX3_approvedSlot) := goodIn_app (goodIn_of _ (by decide +kernel)) ggX3_clashes_X3_approvedSlot
set_option maxRecDepth 20000 in
theorem ggX3_clashes_X3_baseSlot : GoodIn wsX3_clashes wsX3_baseSlot := goodIn_r _ [8] (by decide +kernel) (by decide +kernel)
set_option maxRecDepth 20000 in
theorem gX3_clashes_X3_baseSlot : GoodIn wsX3_clashes (va_wsS RX3 148 yX3_baseSlot wsX3_baseSlot) := goodIn_app (goodIn_of _ (by decide +kernel)) ggX3_clashes_X3_baseSlot
set_option maxRecDepth 20000 in
theorem ggX3_clashes_X1_same : GoodIn wsX3_clashes wsX1_same := goodIn_r _ [13, 14, 15, 16, 17, 12, 18, 19, 20, 21, 22, 23, 4, 24, 29, 30] (by decide +kernel) (by decide +kernel)
set_option maxRecDepth 20000 in
theorem gX3_clashes_X1_same : GoodIn wsX3_clashes (wsV RX3 151 RX1 yX1_same wsX1_same) := goodIn_app (goodIn_of _ (by decide +kernel)) ggX3_clashes_X1_same
theorem dX3_clashes_0 : decode cX3_clashes 0 = .ok (.iload_n 1, 1) := by decide +kernel
theorem dX3_clashes_1 : decode cX3_clashes 1 = .ok (.iload_n 2, 1) := by decide +kernel
theorem dX3_clashes_2 : decode cX3_clashes 2 = .ok (.invokestatic 87, 3) := by decide +kernel
theorem dX3_clashes_5 : decode cX3_clashes 5 = .ok (.istore_n 3, 1) := by decide +kernel
theorem dX3_clashes_6 : decode cX3_clashes 6 = .ok (.iconst 0, 1) := by decide +kernel
theorem dX3_clashes_7 : decode cX3_clashes 7 = .ok (.iload_n 2, 1) := by decide +kernel
theorem dX3_clashes_8 : decode cX3_clashes 8 = .ok (.invokestatic 87, 3) := by decide +kernel
theorem dX3_clashes_11 : decode cX3_clashes 11 = .ok (.istore 4, 2) := by decide +kernel
theorem dX3_clashes_13 : decode cX3_clashes 13 = .ok (.iload_n 1, 1) := by decide +kernel
theorem dX3_clashes_14 : decode cX3_clashes 14 = .ok (.iload_n 2, 1) := by decide +kernel
theorem dX3_clashes_15 : decode cX3_clashes 15 = .ok (.invokestatic 148, 3) := by decide +kernel
theorem dX3_clashes_18 : decode cX3_clashes 18 = .ok (.istore 5, 2) := by decide +kernel
theorem dX3_clashes_20 : decode cX3_clashes 20 = .ok (.aload_n 0, 1) := by decide +kernel
theorem dX3_clashes_21 : decode cX3_clashes 21 = .ok (.getfield 12, 3) := by decide +kernel
theorem dX3_clashes_24 : decode cX3_clashes 24 = .ok (.iload_n 3, 1) := by decide +kernel
theorem dX3_clashes_25 : decode cX3_clashes 25 = .ok (.iload 5, 2) := by decide +kernel
theorem dX3_clashes_27 : decode cX3_clashes 27 = .ok (.invokevirtual 151, 3) := by decide +kernel
theorem dX3_clashes_30 : decode cX3_clashes 30 = .ok (.ifCond .ne 34, 3) := by decide +kernel
theorem dX3_clashes_33 : decode cX3_clashes 33 = .ok (.aload_n 0, 1) := by decide +kernel
theorem dX3_clashes_34 : decode cX3_clashes 34 = .ok (.getfield 12, 3) := by decide +kernel
theorem dX3_clashes_37 : decode cX3_clashes 37 = .ok (.iload 4, 2) := by decide +kernel
theorem dX3_clashes_39 : decode cX3_clashes 39 = .ok (.iload 5, 2) := by decide +kernel
theorem dX3_clashes_41 : decode cX3_clashes 41 = .ok (.invokevirtual 151, 3) := by decide +kernel
theorem dX3_clashes_44 : decode cX3_clashes 44 = .ok (.ifCond .ne 20, 3) := by decide +kernel
theorem dX3_clashes_47 : decode cX3_clashes 47 = .ok (.aload_n 0, 1) := by decide +kernel
theorem dX3_clashes_48 : decode cX3_clashes 48 = .ok (.getfield 12, 3) := by decide +kernel
theorem dX3_clashes_51 : decode cX3_clashes 51 = .ok (.iload_n 3, 1) := by decide +kernel
theorem dX3_clashes_52 : decode cX3_clashes 52 = .ok (.iload 4, 2) := by decide +kernel
theorem dX3_clashes_54 : decode cX3_clashes 54 = .ok (.invokevirtual 151, 3) := by decide +kernel
theorem dX3_clashes_57 : decode cX3_clashes 57 = .ok (.ifCond .ne 7, 3) := by decide +kernel
theorem dX3_clashes_60 : decode cX3_clashes 60 = .ok (.iconst 1, 1) := by decide +kernel
theorem dX3_clashes_61 : decode cX3_clashes 61 = .ok (.goto 4, 3) := by decide +kernel
theorem dX3_clashes_64 : decode cX3_clashes 64 = .ok (.iconst 0, 1) := by decide +kernel
theorem dX3_clashes_65 : decode cX3_clashes 65 = .ok (.ireturn, 1) := by decide +kernel
set_option maxRecDepth 20000 in
theorem ggX3_takeOver_X3_approvedSlot : GoodIn wsX3_takeOver wsX3_approvedSlot := goodIn_r _ [5] (by decide +kernel) (by decide +kernel)
set_option maxRecDepth 20000 in
theorem gX3_takeOver_X3_approvedSlot : GoodIn wsX3_takeOver (va_wsS RX3 87 yX3_approvedSlot wsX3_approvedSlot) := goodIn_app (goodIn_of _ (by decide +kernel)) ggX3_takeOver_X3_approvedSlot
set_option maxRecDepth 20000 in
theorem ggX3_takeOver_X3_baseSlot : GoodIn wsX3_takeOver wsX3_baseSlot := goodIn_r _ [8] (by decide +kernel) (by decide +kernel)
set_option maxRecDepth 20000 in
theorem gX3_takeOver_X3_baseSlot : GoodIn wsX3_takeOver (va_wsS RX3 148 yX3_baseSlot wsX3_baseSlot) := goodIn_app (goodIn_of _ (by decide +kernel)) ggX3_takeOver_X3_baseSlot
set_option maxRecDepth 20000 in
theorem ggX3_takeOver_X1_same : GoodIn wsX3_takeOver wsX1_same := goodIn_r _ [13, 14, 15, 16, 17, 12, 18, 19, 20, 21, 22, 23, 4, 24, 37, 38] (by decide +kernel) (by decide +kernel)
set_option maxRecDepth 20000 in
theorem gX3_takeOver_X1_same : GoodIn wsX3_takeOver (wsV RX3 151 RX1 yX1_same wsX1_same) := goodIn_app (goodIn_of _ (by decide +kernel)) ggX3_takeOver_X1_same
set_option maxRecDepth 20000 in
theorem ggX3_takeOver_X1_copy : GoodIn wsX3_takeOver wsX1_copy := goodIn_r _ [28, 14, 29, 30, 31, 32, 19, 20, 21, 12, 22, 23, 4, 24, 37, 38] (by decide +kernel) (by decide +kernel)
set_option maxRecDepth 20000 in
theorem gX3_takeOver_X1_copy : GoodIn wsX3_takeOver (wsV RX3 92 RX1 yX1_copy wsX1_copy) := goodIn_app (goodIn_of _ (by decide +kernel)) ggX3_takeOver_X1_copy
theorem dX3_takeOver_0 : decode cX3_takeOver 0 = .ok (.iload_n 1, 1) := by decide +kernel
theorem dX3_takeOver_1 : decode cX3_takeOver 1 = .ok (.iload_n 2, 1) := by decide +kernel
theorem dX3_takeOver_2 : decode cX3_takeOver 2 = .ok (.invokestatic 87, 3) := by decide +kernel
theorem dX3_takeOver_5 : decode cX3_takeOver 5 = .ok (.istore_n 3, 1) := by decide +kernel
theorem dX3_takeOver_6 : decode cX3_takeOver 6 = .ok (.iconst 0, 1) := by decide +kernel
theorem dX3_takeOver_7 : decode cX3_takeOver 7 = .ok (.iload_n 2, 1) := by decide +kernel
theorem dX3_takeOver_8 : decode cX3_takeOver 8 = .ok (.invokestatic 87, 3) := by decide +kernel
theorem dX3_takeOver_11 : decode cX3_takeOver 11 = .ok (.istore 4, 2) := by decide +kernel
theorem dX3_takeOver_13 : decode cX3_takeOver 13 = .ok (.iload_n 1, 1) := by decide +kernel
theorem dX3_takeOver_14 : decode cX3_takeOver 14 = .ok (.iload_n 2, 1) := by decide +kernel
theorem dX3_takeOver_15 : decode cX3_takeOver 15 = .ok (.invokestatic 148, 3) := by decide +kernel
theorem dX3_takeOver_18 : decode cX3_takeOver 18 = .ok (.istore 5, 2) := by decide +kernel
theorem dX3_takeOver_20 : decode cX3_takeOver 20 = .ok (.aload_n 0, 1) := by decide +kernel
theorem dX3_takeOver_21 : decode cX3_takeOver 21 = .ok (.getfield 12, 3) := by decide +kernel
theorem dX3_takeOver_24 : decode cX3_takeOver 24 = .ok (.iload 4, 2) := by decide +kernel
theorem dX3_takeOver_26 : decode cX3_takeOver 26 = .ok (.iload 5, 2) := by decide +kernel
theorem dX3_takeOver_28 : decode cX3_takeOver 28 = .ok (.invokevirtual 151, 3) := by decide +kernel
theorem dX3_takeOver_31 : decode cX3_takeOver 31 = .ok (.ifCond .eq 13, 3) := by decide +kernel
theorem dX3_takeOver_34 : decode cX3_takeOver 34 = .ok (.aload_n 0, 1) := by decide +kernel
theorem dX3_takeOver_35 : decode cX3_takeOver 35 = .ok (.getfield 12, 3) := by decide +kernel
theorem dX3_takeOver_38 : decode cX3_takeOver 38 = .ok (.iload_n 3, 1) := by decide +kernel
theorem dX3_takeOver_39 : decode cX3_takeOver 39 = .ok (.iload 4, 2) := by decide +kernel
theorem dX3_takeOver_41 : decode cX3_takeOver 41 = .ok (.invokevirtual 92, 3) := by decide +kernel
theorem dX3_takeOver_44 : decode cX3_takeOver 44 = .ok (.return_, 1) := by decide +kernel
set_option maxRecDepth 20000 in
theorem ggX3_followMain_X3_approvedSlot : GoodIn wsX3_followMain wsX3_approvedSlot := goodIn_r _ [5] (by decide +kernel) (by decide +kernel)
set_option maxRecDepth 20000 in
theorem gX3_followMain_X3_approvedSlot : GoodIn wsX3_followMain (va_wsS RX3 87 yX3_approvedSlot wsX3_approvedSlot) := goodIn_app (goodIn_of _ (by decide +kernel)) ggX3_followMain_X3_approvedSlot
set_option maxRecDepth 20000 in
theorem ggX3_followMain_X3_baseSlot : GoodIn wsX3_followMain wsX3_baseSlot := goodIn_r _ [8] (by decide +kernel) (by decide +kernel)
set_option maxRecDepth 20000 in
theorem gX3_followMain_X3_baseSlot : GoodIn wsX3_followMain (va_wsS RX3 148 yX3_baseSlot wsX3_baseSlot) := goodIn_app (goodIn_of _ (by decide +kernel)) ggX3_followMain_X3_baseSlot
set_option maxRecDepth 20000 in
theorem ggX3_followMain_X1_copy : GoodIn wsX3_followMain wsX1_copy := goodIn_r _ [13, 14, 15, 16, 17, 18, 19, 20, 21, 12, 22, 23, 4, 24, 29, 30] (by decide +kernel) (by decide +kernel)
set_option maxRecDepth 20000 in
theorem gX3_followMain_X1_copy : GoodIn wsX3_followMain (wsV RX3 92 RX1 yX1_copy wsX1_copy) := goodIn_app (goodIn_of _ (by decide +kernel)) ggX3_followMain_X1_copy
theorem dX3_followMain_0 : decode cX3_followMain 0 = .ok (.aload_n 0, 1) := by decide +kernel
theorem dX3_followMain_1 : decode cX3_followMain 1 = .ok (.getfield 12, 3) := by decide +kernel
theorem dX3_followMain_4 : decode cX3_followMain 4 = .ok (.iconst 0, 1) := by decide +kernel
theorem dX3_followMain_5 : decode cX3_followMain 5 = .ok (.iload_n 2, 1) := by decide +kernel
theorem dX3_followMain_6 : decode cX3_followMain 6 = .ok (.invokestatic 87, 3) := by decide +kernel
theorem dX3_followMain_9 : decode cX3_followMain 9 = .ok (.iload_n 1, 1) := by decide +kernel
theorem dX3_followMain_10 : decode cX3_followMain 10 = .ok (.iload_n 2, 1) := by decide +kernel
theorem dX3_followMain_11 : decode cX3_followMain 11 = .ok (.invokestatic 148, 3) := by decide +kernel
theorem dX3_followMain_14 : decode cX3_followMain 14 = .ok (.invokevirtual 92, 3) := by decide +kernel
theorem dX3_followMain_17 : decode cX3_followMain 17 = .ok (.aload_n 0, 1) := by decide +kernel
theorem dX3_followMain_18 : decode cX3_followMain 18 = .ok (.getfield 12, 3) := by decide +kernel
theorem dX3_followMain_21 : decode cX3_followMain 21 = .ok (.iconst 0, 1) := by decide +kernel
theorem dX3_followMain_22 : decode cX3_followMain 22 = .ok (.iload_n 2, 1) := by decide +kernel
theorem dX3_followMain_23 : decode cX3_followMain 23 = .ok (.invokestatic 87, 3) := by decide +kernel
theorem dX3_followMain_26 : decode cX3_followMain 26 = .ok (.iload_n 1, 1) := by decide +kernel
theorem dX3_followMain_27 : decode cX3_followMain 27 = .ok (.iload_n 2, 1) := by decide +kernel
theorem dX3_followMain_28 : decode cX3_followMain 28 = .ok (.invokestatic 87, 3) := by decide +kernel
theorem dX3_followMain_31 : decode cX3_followMain 31 = .ok (.invokevirtual 92, 3) := by decide +kernel
theorem dX3_followMain_34 : decode cX3_followMain 34 = .ok (.return_, 1) := by decide +kernel
set_option maxRecDepth 20000 in
theorem ggX3_findDifference_X3_findMove : GoodIn wsX3_findDifference wsX3_findMove := goodIn_r _ [5, 6, 7, 8, 9, 10, 11, 12, 13, 14, 15, 16, 17, 18, 4, 19, 20, 21, 22, 23, 24, 25, 26, 27, 28, 29, 30, 31, 32, 33, 34, 35, 36, 37, 38, 39, 40, 41, 42, 43, 44, 45, 46, 47, 48, 49, 50, 51, 52, 53, 54, 55, 56, 57, 58, 59, 60, 61, 62, 63, 64, 65, 66, 67, 68, 69, 109, 110, 111, 112, 113, 114, 115, 116, 117, 118] (by decide +kernel) (by decide +kernel)
set_option maxRecDepth 20000 in
theorem gX3_findDifference_X3_findMove : GoodIn wsX3_findDifference (wsV RX3 112 RX3 yX3_findMove wsX3_findMove) := goodIn_app (goodIn_of _ (by decide +kernel)) ggX3_findDifference_X3_findMove
set_option maxRecDepth 20000 in
theorem ggX3_findDifference_X3_differs : GoodIn wsX3_findDifference wsX3_differs := goodIn_r _ [73, 27, 74, 75, 4, 76, 77, 78, 79, 49, 50, 51, 52, 53, 54, 55, 56, 57, 58, 59, 60, 21, 22, 47, 48, 20, 61, 62, 63, 64, 65, 66, 7, 8, 9, 10, 80, 81, 82, 83, 6, 84, 85, 86, 14, 87, 16, 17, 41, 32, 18, 19, 88, 89, 90, 91, 92, 93, 94, 95, 96, 97, 98, 42, 43, 44, 45, 37, 38, 39, 40, 99, 100, 101, 102, 103, 104, 105, 106, 107, 108, 109, 110, 111, 112, 117, 118, 113, 114, 115, 116] (by decide +kernel) (by decide +kernel)
set_option maxRecDepth 20000 in
theorem gX3_findDifference_X3_differs : GoodIn wsX3_findDifference (wsV RX3 115 RX3 yX3_differs wsX3_differs) := goodIn_app (goodIn_of _ (by decide +kernel)) ggX3_findDifference_X3_differs
theorem dX3_findDifference_0 : decode cX3_findDifference 0 = .ok (.aload_n 0, 1) := by decide +kernel
theorem dX3_findDifference_1 : decode cX3_findDifference 1 = .ok (.iload_n 1, 1) := by decide +kernel
theorem dX3_findDifference_2 : decode cX3_findDifference 2 = .ok (.iload_n 2, 1) := by decide +kernel
theorem dX3_findDifference_3 : decode cX3_findDifference 3 = .ok (.iload_n 3, 1) := by decide +kernel
theorem dX3_findDifference_4 : decode cX3_findDifference 4 = .ok (.invokevirtual 112, 3) := by decide +kernel
theorem dX3_findDifference_7 : decode cX3_findDifference 7 = .ok (.istore 4, 2) := by decide +kernel
theorem dX3_findDifference_9 : decode cX3_findDifference 9 = .ok (.iconst 0, 1) := by decide +kernel
theorem dX3_findDifference_10 : decode cX3_findDifference 10 = .ok (.istore 5, 2) := by decide +kernel
theorem dX3_findDifference_12 : decode cX3_findDifference 12 = .ok (.iload 5, 2) := by decide +kernel
theorem dX3_findDifference_14 : decode cX3_findDifference 14 = .ok (.bipush 64, 2) := by decide +kernel
theorem dX3_findDifference_16 : decode cX3_findDifference 16 = .ok (.if_icmp .ge 26, 3) := by decide +kernel
theorem dX3_findDifference_19 : decode cX3_findDifference 19 = .ok (.aload_n 0, 1) := by decide +kernel
theorem dX3_findDifference_20 : decode cX3_findDifference 20 = .ok (.iload_n 1, 1) := by decide +kernel
theorem dX3_findDifference_21 : decode cX3_findDifference 21 = .ok (.iload_n 2, 1) := by decide +kernel
theorem dX3_findDifference_22 : decode cX3_findDifference 22 = .ok (.iload_n 3, 1) := by decide +kernel
theorem dX3_findDifference_23 : decode cX3_findDifference 23 = .ok (.iload 4, 2) := by decide +kernel
theorem dX3_findDifference_25 : decode cX3_findDifference 25 = .ok (.iload 5, 2) := by decide +kernel
theorem dX3_findDifference_27 : decode cX3_findDifference 27 = .ok (.invokevirtual 115, 3) := by decide +kernel
theorem dX3_findDifference_30 : decode cX3_findDifference 30 = .ok (.ifCond .eq 6, 3) := by decide +kernel
theorem dX3_findDifference_33 : decode cX3_findDifference 33 = .ok (.iload 5, 2) := by decide +kernel
theorem dX3_findDifference_35 : decode cX3_findDifference 35 = .ok (.ireturn, 1) := by decide +kernel
theorem dX3_findDifference_36 : decode cX3_findDifference 36 = .ok (.iinc 5 1, 3) := by decide +kernel
theorem dX3_findDifference_39 : decode cX3_findDifference 39 = .ok (.goto (-27), 3) := by decide +kernel
theorem dX3_findDifference_42 : decode cX3_findDifference 42 = .ok (.iconst (-1), 1) := by decide +kernel
theorem dX3_findDifference_43 : decode cX3_findDifference 43 = .ok (.ireturn, 1) := by decide +kernel
set_option maxRecDepth 20000 in
theorem ggX3_differs_X3_columnOf : GoodIn wsX3_differs wsX3_columnOf := goodIn_r _ [5] (by decide +kernel) (by decide +kernel)
set_option maxRecDepth 20000 in
theorem gX3_differs_X3_columnOf : GoodIn wsX3_differs (va_wsS RX3 122 yX3_columnOf wsX3_columnOf) := goodIn_app (goodIn_of _ (by decide +kernel)) ggX3_differs_X3_columnOf
set_option maxRecDepth 20000 in
theorem ggX3_differs_X3_rowOf : GoodIn wsX3_differs wsX3_rowOf := goodIn_r _ [8] (by decide +kernel) (by decide +kernel)
set_option maxRecDepth 20000 in
theorem gX3_differs_X3_rowOf : GoodIn wsX3_differs (va_wsS RX3 125 yX3_rowOf wsX3_rowOf) := goodIn_app (goodIn_of _ (by decide +kernel)) ggX3_differs_X3_rowOf
set_option maxRecDepth 20000 in
theorem ggX3_differs_X3_pictureSlot : GoodIn wsX3_differs wsX3_pictureSlot := goodIn_r _ [11] (by decide +kernel) (by decide +kernel)
set_option maxRecDepth 20000 in
theorem gX3_differs_X3_pictureSlot : GoodIn wsX3_differs (va_wsS RX3 48 yX3_pictureSlot wsX3_pictureSlot) := goodIn_app (goodIn_of _ (by decide +kernel)) ggX3_differs_X3_pictureSlot
set_option maxRecDepth 20000 in
theorem ggX3_differs_X1_at : GoodIn wsX3_differs wsX1_at := goodIn_r _ [16, 17, 18, 19, 15, 20, 21, 4, 22, 23, 24, 25, 26, 27, 28, 85, 86] (by decide +kernel) (by decide +kernel)
set_option maxRecDepth 20000 in
theorem gX3_differs_X1_at : GoodIn wsX3_differs (wsV RX3 59 RX1 yX1_at wsX1_at) := goodIn_app (goodIn_of _ (by decide +kernel)) ggX3_differs_X1_at
set_option maxRecDepth 20000 in
theorem ggX3_differs_X3_isAlike : GoodIn wsX3_differs wsX3_isAlike := goodIn_r _ [31, 32, 33, 34, 35] (by decide +kernel) (by decide +kernel)
set_option maxRecDepth 20000 in
theorem gX3_differs_X3_isAlike : GoodIn wsX3_differs (va_wsS RX3 154 yX3_isAlike wsX3_isAlike) := goodIn_app (goodIn_of _ (by decide +kernel)) ggX3_differs_X3_isAlike
set_option maxRecDepth 20000 in
theorem ggX3_differs_X3_isMoved : GoodIn wsX3_differs wsX3_isMoved := goodIn_r _ [39, 40, 41, 42, 43, 44, 45, 46, 47, 48, 49, 50, 4, 51, 25, 21, 22, 52, 53, 54, 55, 56, 57, 81, 82, 83, 84, 87, 88, 89, 90] (by decide +kernel) (by decide +kernel)
set_option maxRecDepth 20000 in
theorem gX3_differs_X3_isMoved : GoodIn wsX3_differs (wsV RX3 157 RX3 yX3_isMoved wsX3_isMoved) := goodIn_app (goodIn_of _ (by decide +kernel)) ggX3_differs_X3_isMoved
set_option maxRecDepth 20000 in
theorem ggX3_differs_X3_isMasked : GoodIn wsX3_differs wsX3_isMasked := goodIn_r _ [61, 40, 62, 52, 53, 4, 54, 63, 64, 65, 44, 66, 46, 50, 51, 25, 21, 22, 55, 56, 57, 67, 68, 69, 70, 48, 41, 42, 43, 45, 47, 49, 81, 82, 83, 84, 87, 88, 89, 90] (by decide +kernel) (by decide +kernel)
set_option maxRecDepth 20000 in
theorem gX3_differs_X3_isMasked : GoodIn wsX3_differs (wsV RX3 160 RX3 yX3_isMasked wsX3_isMasked) := goodIn_app (goodIn_of _ (by decide +kernel)) ggX3_differs_X3_isMasked
set_option maxRecDepth 20000 in
theorem ggX3_differs_X3_isSoft : GoodIn wsX3_differs wsX3_isSoft := goodIn_r _ [74, 75, 76, 34, 77, 78, 79, 80, 1, 9, 10, 4, 11, 12, 13, 14, 15, 16, 17, 18, 19, 20, 21, 22, 23, 24, 25, 26, 27, 28, 29, 30, 31, 32, 33, 35, 81, 82, 83, 84, 85, 86] (by decide +kernel) (by decide +kernel)
set_option maxRecDepth 20000 in
theorem gX3_differs_X3_isSoft : GoodIn wsX3_differs (wsV RX3 128 RX3 yX3_isSoft wsX3_isSoft) := goodIn_app (goodIn_of _ (by decide +kernel)) ggX3_differs_X3_isSoft
theorem dX3_differs_0 : decode cX3_differs 0 = .ok (.iload 5, 2) := by decide +kernel
theorem dX3_differs_2 : decode cX3_differs 2 = .ok (.invokestatic 122, 3) := by decide +kernel
theorem dX3_differs_5 : decode cX3_differs 5 = .ok (.istore 6, 2) := by decide +kernel
theorem dX3_differs_7 : decode cX3_differs 7 = .ok (.iload 5, 2) := by decide +kernel
theorem dX3_differs_9 : decode cX3_differs 9 = .ok (.invokestatic 125, 3) := by decide +kernel
theorem dX3_differs_12 : decode cX3_differs 12 = .ok (.istore 7, 2) := by decide +kernel
theorem dX3_differs_14 : decode cX3_differs 14 = .ok (.aload_n 0, 1) := by decide +kernel
theorem dX3_differs_15 : decode cX3_differs 15 = .ok (.getfield 12, 3) := by decide +kernel
theorem dX3_differs_18 : decode cX3_differs 18 = .ok (.iload_n 2, 1) := by decide +kernel
theorem dX3_differs_19 : decode cX3_differs 19 = .ok (.invokestatic 48, 3) := by decide +kernel
theorem dX3_differs_22 : decode cX3_differs 22 = .ok (.iload 6, 2) := by decide +kernel
theorem dX3_differs_24 : decode cX3_differs 24 = .ok (.iload 7, 2) := by decide +kernel
theorem dX3_differs_26 : decode cX3_differs 26 = .ok (.invokevirtual 59, 3) := by decide +kernel
theorem dX3_differs_29 : decode cX3_differs 29 = .ok (.istore 8, 2) := by decide +kernel
theorem dX3_differs_31 : decode cX3_differs 31 = .ok (.aload_n 0, 1) := by decide +kernel
theorem dX3_differs_32 : decode cX3_differs 32 = .ok (.getfield 12, 3) := by decide +kernel
theorem dX3_differs_35 : decode cX3_differs 35 = .ok (.iload_n 1, 1) := by decide +kernel
theorem dX3_differs_36 : decode cX3_differs 36 = .ok (.iload 6, 2) := by decide +kernel
theorem dX3_differs_38 : decode cX3_differs 38 = .ok (.iload 7, 2) := by decide +kernel
theorem dX3_differs_40 : decode cX3_differs 40 = .ok (.invokevirtual 59, 3) := by decide +kernel
theorem dX3_differs_43 : decode cX3_differs 43 = .ok (.istore 9, 2) := by decide +kernel
theorem dX3_differs_45 : decode cX3_differs 45 = .ok (.iload 8, 2) := by decide +kernel
theorem dX3_differs_47 : decode cX3_differs 47 = .ok (.iload 9, 2) := by decide +kernel
theorem dX3_differs_49 : decode cX3_differs 49 = .ok (.iload_n 3, 1) := by decide +kernel
theorem dX3_differs_50 : decode cX3_differs 50 = .ok (.invokestatic 154, 3) := by decide +kernel
theorem dX3_differs_53 : decode cX3_differs 53 = .ok (.ifCond .ne 49, 3) := by decide +kernel
theorem dX3_differs_56 : decode cX3_differs 56 = .ok (.aload_n 0, 1) := by decide +kernel
theorem dX3_differs_57 : decode cX3_differs 57 = .ok (.iload_n 2, 1) := by decide +kernel
theorem dX3_differs_58 : decode cX3_differs 58 = .ok (.iload 4, 2) := by decide +kernel
theorem dX3_differs_60 : decode cX3_differs 60 = .ok (.iload 6, 2) := by decide +kernel
theorem dX3_differs_62 : decode cX3_differs 62 = .ok (.iload 7, 2) := by decide +kernel
theorem dX3_differs_64 : decode cX3_differs 64 = .ok (.invokevirtual 157, 3) := by decide +kernel
theorem dX3_differs_67 : decode cX3_differs 67 = .ok (.ifCond .ne 35, 3) := by decide +kernel
theorem dX3_differs_70 : decode cX3_differs 70 = .ok (.aload_n 0, 1) := by decide +kernel
theorem dX3_differs_71 : decode cX3_differs 71 = .ok (.iload_n 2, 1) := by decide +kernel
theorem dX3_differs_72 : decode cX3_differs 72 = .ok (.iload 4, 2) := by decide +kernel
theorem dX3_differs_74 : decode cX3_differs 74 = .ok (.iload 6, 2) := by decide +kernel
theorem dX3_differs_76 : decode cX3_differs 76 = .ok (.iload 7, 2) := by decide +kernel
theorem dX3_differs_78 : decode cX3_differs 78 = .ok (.invokevirtual 160, 3) := by decide +kernel
theorem dX3_differs_81 : decode cX3_differs 81 = .ok (.ifCond .ne 21, 3) := by decide +kernel
theorem dX3_differs_84 : decode cX3_differs 84 = .ok (.aload_n 0, 1) := by decide +kernel
theorem dX3_differs_85 : decode cX3_differs 85 = .ok (.iload_n 1, 1) := by decide +kernel
theorem dX3_differs_86 : decode cX3_differs 86 = .ok (.iload_n 2, 1) := by decide +kernel
theorem dX3_differs_87 : decode cX3_differs 87 = .ok (.iload_n 3, 1) := by decide +kernel
theorem dX3_differs_88 : decode cX3_differs 88 = .ok (.iload 6, 2) := by decide +kernel
theorem dX3_differs_90 : decode cX3_differs 90 = .ok (.iload 7, 2) := by decide +kernel
theorem dX3_differs_92 : decode cX3_differs 92 = .ok (.invokevirtual 128, 3) := by decide +kernel
theorem dX3_differs_95 : decode cX3_differs 95 = .ok (.ifCond .ne 7, 3) := by decide +kernel
theorem dX3_differs_98 : decode cX3_differs 98 = .ok (.iconst 1, 1) := by decide +kernel
theorem dX3_differs_99 : decode cX3_differs 99 = .ok (.goto 4, 3) := by decide +kernel
theorem dX3_differs_102 : decode cX3_differs 102 = .ok (.iconst 0, 1) := by decide +kernel
theorem dX3_differs_103 : decode cX3_differs 103 = .ok (.ireturn, 1) := by decide +kernel
theorem dX3_isAlike_0 : decode cX3_isAlike 0 = .ok (.iload_n 0, 1) := by decide +kernel
theorem dX3_isAlike_1 : decode cX3_isAlike 1 = .ok (.iload_n 1, 1) := by decide +kernel
theorem dX3_isAlike_2 : decode cX3_isAlike 2 = .ok (.isub, 1) := by decide +kernel
theorem dX3_isAlike_3 : decode cX3_isAlike 3 = .ok (.invokestatic 163, 3) := by decide +kernel
theorem dX3_isAlike_6 : decode cX3_isAlike 6 = .ok (.iload_n 2, 1) := by decide +kernel
theorem dX3_isAlike_7 : decode cX3_isAlike 7 = .ok (.if_icmp .gt 7, 3) := by decide +kernel
theorem dX3_isAlike_10 : decode cX3_isAlike 10 = .ok (.iconst 1, 1) := by decide +kernel
theorem dX3_isAlike_11 : decode cX3_isAlike 11 = .ok (.goto 4, 3) := by decide +kernel
theorem dX3_isAlike_14 : decode cX3_isAlike 14 = .ok (.iconst 0, 1) := by decide +kernel
theorem dX3_isAlike_15 : decode cX3_isAlike 15 = .ok (.ireturn, 1) := by decide +kernel
set_option maxRecDepth 20000 in
theorem ggX3_isSoft_X3_pictureSlot : GoodIn wsX3_isSoft wsX3_pictureSlot := goodIn_r _ [12] (by decide +kernel) (by decide +kernel)
set_option maxRecDepth 20000 in
theorem gX3_isSoft_X3_pictureSlot : GoodIn wsX3_isSoft (va_wsS RX3 48 yX3_pictureSlot wsX3_pictureSlot) := goodIn_app (goodIn_of _ (by decide +kernel)) ggX3_isSoft_X3_pictureSlot
set_option maxRecDepth 20000 in
theorem ggX3_isSoft_X1_at : GoodIn wsX3_isSoft wsX1_at := goodIn_r _ [17, 18, 19, 20, 16, 21, 22, 11, 23, 24, 25, 26, 27, 28, 29, 40, 41] (by decide +kernel) (by decide +kernel)
set_option maxRecDepth 20000 in
theorem gX3_isSoft_X1_at : GoodIn wsX3_isSoft (wsV RX3 59 RX1 yX1_at wsX1_at) := goodIn_app (goodIn_of _ (by decide +kernel)) ggX3_isSoft_X1_at
set_option maxRecDepth 20000 in
theorem ggX3_isSoft_X3_isAlike : GoodIn wsX3_isSoft wsX3_isAlike := goodIn_r _ [32, 33, 34, 3, 35] (by decide +kernel) (by decide +kernel)
set_option maxRecDepth 20000 in
theorem gX3_isSoft_X3_isAlike : GoodIn wsX3_isSoft (va_wsS RX3 154 yX3_isAlike wsX3_isAlike) := goodIn_app (goodIn_of _ (by decide +kernel)) ggX3_isSoft_X3_isAlike
set_option maxRecDepth 20000 in
theorem ggX3_isSoft_X3_isWithin : GoodIn wsX3_isSoft wsX3_isWithin := goodIn_r _ [23] (by decide +kernel) (by decide +kernel)
set_option maxRecDepth 20000 in
theorem gX3_isSoft_X3_isWithin : GoodIn wsX3_isSoft (va_wsS RX3 70 yX3_isWithin wsX3_isWithin) := goodIn_app (goodIn_of _ (by decide +kernel)) ggX3_isSoft_X3_isWithin
theorem dX3_isSoft_0 : decode cX3_isSoft 0 = .ok (.sipush 255, 3) := by decide +kernel
theorem dX3_isSoft_3 : decode cX3_isSoft 3 = .ok (.istore 6, 2) := by decide +kernel
theorem dX3_isSoft_5 : decode cX3_isSoft 5 = .ok (.iconst 0, 1) := by decide +kernel
theorem dX3_isSoft_6 : decode cX3_isSoft 6 = .ok (.istore 7, 2) := by decide +kernel
theorem dX3_isSoft_8 : decode cX3_isSoft 8 = .ok (.iload 5, 2) := by decide +kernel
theorem dX3_isSoft_10 : decode cX3_isSoft 10 = .ok (.iconst 1, 1) := by decide +kernel
theorem dX3_isSoft_11 : decode cX3_isSoft 11 = .ok (.iadd, 1) := by decide +kernel
theorem dX3_isSoft_12 : decode cX3_isSoft 12 = .ok (.bipush 7, 2) := by decide +kernel
theorem dX3_isSoft_14 : decode cX3_isSoft 14 = .ok (.invokestatic 168, 3) := by decide +kernel
theorem dX3_isSoft_17 : decode cX3_isSoft 17 = .ok (.istore 8, 2) := by decide +kernel
theorem dX3_isSoft_19 : decode cX3_isSoft 19 = .ok (.iload 4, 2) := by decide +kernel
theorem dX3_isSoft_21 : decode cX3_isSoft 21 = .ok (.iconst 1, 1) := by decide +kernel
theorem dX3_isSoft_22 : decode cX3_isSoft 22 = .ok (.iadd, 1) := by decide +kernel
theorem dX3_isSoft_23 : decode cX3_isSoft 23 = .ok (.bipush 7, 2) := by decide +kernel
theorem dX3_isSoft_25 : decode cX3_isSoft 25 = .ok (.invokestatic 168, 3) := by decide +kernel
theorem dX3_isSoft_28 : decode cX3_isSoft 28 = .ok (.istore 9, 2) := by decide +kernel
theorem dX3_isSoft_30 : decode cX3_isSoft 30 = .ok (.iload 5, 2) := by decide +kernel
theorem dX3_isSoft_32 : decode cX3_isSoft 32 = .ok (.iconst 1, 1) := by decide +kernel
theorem dX3_isSoft_33 : decode cX3_isSoft 33 = .ok (.isub, 1) := by decide +kernel
theorem dX3_isSoft_34 : decode cX3_isSoft 34 = .ok (.iconst 0, 1) := by decide +kernel
theorem dX3_isSoft_35 : decode cX3_isSoft 35 = .ok (.invokestatic 171, 3) := by decide +kernel
theorem dX3_isSoft_38 : decode cX3_isSoft 38 = .ok (.istore 10, 2) := by decide +kernel
theorem dX3_isSoft_40 : decode cX3_isSoft 40 = .ok (.iload 10, 2) := by decide +kernel
theorem dX3_isSoft_42 : decode cX3_isSoft 42 = .ok (.iload 8, 2) := by decide +kernel
theorem dX3_isSoft_44 : decode cX3_isSoft 44 = .ok (.if_icmp .gt 67, 3) := by decide +kernel
theorem dX3_isSoft_47 : decode cX3_isSoft 47 = .ok (.iload 4, 2) := by decide +kernel
theorem dX3_isSoft_49 : decode cX3_isSoft 49 = .ok (.iconst 1, 1) := by decide +kernel
theorem dX3_isSoft_50 : decode cX3_isSoft 50 = .ok (.isub, 1) := by decide +kernel
theorem dX3_isSoft_51 : decode cX3_isSoft 51 = .ok (.iconst 0, 1) := by decide +kernel
theorem dX3_isSoft_52 : decode cX3_isSoft 52 = .ok (.invokestatic 171, 3) := by decide +kernel
theorem dX3_isSoft_55 : decode cX3_isSoft 55 = .ok (.istore 11, 2) := by decide +kernel
theorem dX3_isSoft_57 : decode cX3_isSoft 57 = .ok (.iload 11, 2) := by decide +kernel
theorem dX3_isSoft_59 : decode cX3_isSoft 59 = .ok (.iload 9, 2) := by decide +kernel
theorem dX3_isSoft_61 : decode cX3_isSoft 61 = .ok (.if_icmp .gt 44, 3) := by decide +kernel
theorem dX3_isSoft_64 : decode cX3_isSoft 64 = .ok (.aload_n 0, 1) := by decide +kernel
theorem dX3_isSoft_65 : decode cX3_isSoft 65 = .ok (.getfield 12, 3) := by decide +kernel
theorem dX3_isSoft_68 : decode cX3_isSoft 68 = .ok (.iload_n 2, 1) := by decide +kernel
theorem dX3_isSoft_69 : decode cX3_isSoft 69 = .ok (.invokestatic 48, 3) := by decide +kernel
theorem dX3_isSoft_72 : decode cX3_isSoft 72 = .ok (.iload 11, 2) := by decide +kernel
theorem dX3_isSoft_74 : decode cX3_isSoft 74 = .ok (.iload 10, 2) := by decide +kernel
theorem dX3_isSoft_76 : decode cX3_isSoft 76 = .ok (.invokevirtual 59, 3) := by decide +kernel
theorem dX3_isSoft_79 : decode cX3_isSoft 79 = .ok (.istore 12, 2) := by decide +kernel
theorem dX3_isSoft_81 : decode cX3_isSoft 81 = .ok (.iload 6, 2) := by decide +kernel
theorem dX3_isSoft_83 : decode cX3_isSoft 83 = .ok (.iload 12, 2) := by decide +kernel
theorem dX3_isSoft_85 : decode cX3_isSoft 85 = .ok (.invokestatic 168, 3) := by decide +kernel
theorem dX3_isSoft_88 : decode cX3_isSoft 88 = .ok (.istore 6, 2) := by decide +kernel
theorem dX3_isSoft_90 : decode cX3_isSoft 90 = .ok (.iload 7, 2) := by decide +kernel
theorem dX3_isSoft_92 : decode cX3_isSoft 92 = .ok (.iload 12, 2) := by decide +kernel
theorem dX3_isSoft_94 : decode cX3_isSoft 94 = .ok (.invokestatic 171, 3) := by decide +kernel
theorem dX3_isSoft_97 : decode cX3_isSoft 97 = .ok (.istore 7, 2) := by decide +kernel
theorem dX3_isSoft_99 : decode cX3_isSoft 99 = .ok (.iinc 11 1, 3) := by decide +kernel
theorem dX3_isSoft_102 : decode cX3_isSoft 102 = .ok (.goto (-45), 3) := by decide +kernel
theorem dX3_isSoft_105 : decode cX3_isSoft 105 = .ok (.iinc 10 1, 3) := by decide +kernel
theorem dX3_isSoft_108 : decode cX3_isSoft 108 = .ok (.goto (-68), 3) := by decide +kernel
theorem dX3_isSoft_111 : decode cX3_isSoft 111 = .ok (.iload 6, 2) := by decide +kernel
theorem dX3_isSoft_113 : decode cX3_isSoft 113 = .ok (.iload 7, 2) := by decide +kernel
theorem dX3_isSoft_115 : decode cX3_isSoft 115 = .ok (.iload_n 3, 1) := by decide +kernel
theorem dX3_isSoft_116 : decode cX3_isSoft 116 = .ok (.invokestatic 154, 3) := by decide +kernel
theorem dX3_isSoft_119 : decode cX3_isSoft 119 = .ok (.ifCond .ne 29, 3) := by decide +kernel
theorem dX3_isSoft_122 : decode cX3_isSoft 122 = .ok (.aload_n 0, 1) := by decide +kernel
theorem dX3_isSoft_123 : decode cX3_isSoft 123 = .ok (.getfield 12, 3) := by decide +kernel
theorem dX3_isSoft_126 : decode cX3_isSoft 126 = .ok (.iload_n 1, 1) := by decide +kernel
theorem dX3_isSoft_127 : decode cX3_isSoft 127 = .ok (.iload 4, 2) := by decide +kernel
theorem dX3_isSoft_129 : decode cX3_isSoft 129 = .ok (.iload 5, 2) := by decide +kernel
theorem dX3_isSoft_131 : decode cX3_isSoft 131 = .ok (.invokevirtual 59, 3) := by decide +kernel
theorem dX3_isSoft_134 : decode cX3_isSoft 134 = .ok (.iload 6, 2) := by decide +kernel
theorem dX3_isSoft_136 : decode cX3_isSoft 136 = .ok (.iload 7, 2) := by decide +kernel
theorem dX3_isSoft_138 : decode cX3_isSoft 138 = .ok (.invokestatic 70, 3) := by decide +kernel
theorem dX3_isSoft_141 : decode cX3_isSoft 141 = .ok (.ifCond .eq 7, 3) := by decide +kernel
theorem dX3_isSoft_144 : decode cX3_isSoft 144 = .ok (.iconst 1, 1) := by decide +kernel
theorem dX3_isSoft_145 : decode cX3_isSoft 145 = .ok (.goto 4, 3) := by decide +kernel
theorem dX3_isSoft_148 : decode cX3_isSoft 148 = .ok (.iconst 0, 1) := by decide +kernel
theorem dX3_isSoft_149 : decode cX3_isSoft 149 = .ok (.ireturn, 1) := by decide +kernel
set_option maxRecDepth 20000 in
theorem ggX3_isMoved_X2_holds : GoodIn wsX3_isMoved wsX2_holds := goodIn_r _ [6, 7, 8, 9, 10, 11, 12, 13, 14, 15, 16, 27, 28, 29, 30] (by decide +kernel) (by decide +kernel)
set_option maxRecDepth 20000 in
theorem gX3_isMoved_X2_holds : GoodIn wsX3_isMoved (wsV RX3 174 RX2 yX2_holds wsX2_holds) := goodIn_app (goodIn_of _ (by decide +kernel)) ggX3_isMoved_X2_holds
set_option maxRecDepth 20000 in
theorem ggX3_isMoved_X3_columnsOf : GoodIn wsX3_isMoved wsX3_columnsOf := goodIn_r _ [19] (by decide +kernel) (by decide +kernel)
set_option maxRecDepth 20000 in
theorem gX3_isMoved_X3_columnsOf : GoodIn wsX3_isMoved (va_wsS RX3 177 yX3_columnsOf wsX3_columnsOf) := goodIn_app (goodIn_of _ (by decide +kernel)) ggX3_isMoved_X3_columnsOf
set_option maxRecDepth 20000 in
theorem ggX3_isMoved_X3_rowsOf : GoodIn wsX3_isMoved wsX3_rowsOf := goodIn_r _ [22] (by decide +kernel) (by decide +kernel)
set_option maxRecDepth 20000 in
theorem gX3_isMoved_X3_rowsOf : GoodIn wsX3_isMoved (va_wsS RX3 180 yX3_rowsOf wsX3_rowsOf) := goodIn_app (goodIn_of _ (by decide +kernel)) ggX3_isMoved_X3_rowsOf
theorem dX3_isMoved_0 : decode cX3_isMoved 0 = .ok (.iload_n 2, 1) := by decide +kernel
theorem dX3_isMoved_1 : decode cX3_isMoved 1 = .ok (.sipush 5050, 3) := by decide +kernel
theorem dX3_isMoved_4 : decode cX3_isMoved 4 = .ok (.if_icmp .ne 5, 3) := by decide +kernel
theorem dX3_isMoved_7 : decode cX3_isMoved 7 = .ok (.iconst 0, 1) := by decide +kernel
theorem dX3_isMoved_8 : decode cX3_isMoved 8 = .ok (.ireturn, 1) := by decide +kernel
theorem dX3_isMoved_9 : decode cX3_isMoved 9 = .ok (.aload_n 0, 1) := by decide +kernel
theorem dX3_isMoved_10 : decode cX3_isMoved 10 = .ok (.getfield 19, 3) := by decide +kernel
theorem dX3_isMoved_13 : decode cX3_isMoved 13 = .ok (.iload_n 1, 1) := by decide +kernel
theorem dX3_isMoved_14 : decode cX3_isMoved 14 = .ok (.iload_n 3, 1) := by decide +kernel
theorem dX3_isMoved_15 : decode cX3_isMoved 15 = .ok (.iload 4, 2) := by decide +kernel
theorem dX3_isMoved_17 : decode cX3_isMoved 17 = .ok (.invokevirtual 174, 3) := by decide +kernel
theorem dX3_isMoved_20 : decode cX3_isMoved 20 = .ok (.ifCond .ne 27, 3) := by decide +kernel
theorem dX3_isMoved_23 : decode cX3_isMoved 23 = .ok (.aload_n 0, 1) := by decide +kernel
theorem dX3_isMoved_24 : decode cX3_isMoved 24 = .ok (.getfield 19, 3) := by decide +kernel
theorem dX3_isMoved_27 : decode cX3_isMoved 27 = .ok (.iload_n 1, 1) := by decide +kernel
theorem dX3_isMoved_28 : decode cX3_isMoved 28 = .ok (.iload_n 3, 1) := by decide +kernel
theorem dX3_isMoved_29 : decode cX3_isMoved 29 = .ok (.iload_n 2, 1) := by decide +kernel
theorem dX3_isMoved_30 : decode cX3_isMoved 30 = .ok (.invokestatic 177, 3) := by decide +kernel
theorem dX3_isMoved_33 : decode cX3_isMoved 33 = .ok (.isub, 1) := by decide +kernel
theorem dX3_isMoved_34 : decode cX3_isMoved 34 = .ok (.iload 4, 2) := by decide +kernel
theorem dX3_isMoved_36 : decode cX3_isMoved 36 = .ok (.iload_n 2, 1) := by decide +kernel
theorem dX3_isMoved_37 : decode cX3_isMoved 37 = .ok (.invokestatic 180, 3) := by decide +kernel
theorem dX3_isMoved_40 : decode cX3_isMoved 40 = .ok (.isub, 1) := by decide +kernel
theorem dX3_isMoved_41 : decode cX3_isMoved 41 = .ok (.invokevirtual 174, 3) := by decide +kernel
theorem dX3_isMoved_44 : decode cX3_isMoved 44 = .ok (.ifCond .eq 7, 3) := by decide +kernel
theorem dX3_isMoved_47 : decode cX3_isMoved 47 = .ok (.iconst 1, 1) := by decide +kernel
theorem dX3_isMoved_48 : decode cX3_isMoved 48 = .ok (.goto 4, 3) := by decide +kernel
theorem dX3_isMoved_51 : decode cX3_isMoved 51 = .ok (.iconst 0, 1) := by decide +kernel
theorem dX3_isMoved_52 : decode cX3_isMoved 52 = .ok (.ireturn, 1) := by decide +kernel
set_option maxRecDepth 20000 in
theorem ggX3_isMasked_X3_columnsOf : GoodIn wsX3_isMasked wsX3_columnsOf := goodIn_r _ [6] (by decide +kernel) (by decide +kernel)
set_option maxRecDepth 20000 in
theorem gX3_isMasked_X3_columnsOf : GoodIn wsX3_isMasked (va_wsS RX3 177 yX3_columnsOf wsX3_columnsOf) := goodIn_app (goodIn_of _ (by decide +kernel)) ggX3_isMasked_X3_columnsOf
set_option maxRecDepth 20000 in
theorem ggX3_isMasked_X2_left : GoodIn wsX3_isMasked wsX2_left := goodIn_r _ [11, 12, 13, 5, 14, 15, 16, 17, 36, 37, 38, 39] (by decide +kernel) (by decide +kernel)
set_option maxRecDepth 20000 in
theorem gX3_isMasked_X2_left : GoodIn wsX3_isMasked (wsV RX3 183 RX2 yX2_left wsX2_left) := goodIn_app (goodIn_of _ (by decide +kernel)) ggX3_isMasked_X2_left
set_option maxRecDepth 20000 in
theorem ggX3_isMasked_X3_rowsOf : GoodIn wsX3_isMasked wsX3_rowsOf := goodIn_r _ [20] (by decide +kernel) (by decide +kernel)
set_option maxRecDepth 20000 in
theorem gX3_isMasked_X3_rowsOf : GoodIn wsX3_isMasked (va_wsS RX3 180 yX3_rowsOf wsX3_rowsOf) := goodIn_app (goodIn_of _ (by decide +kernel)) ggX3_isMasked_X3_rowsOf
set_option maxRecDepth 20000 in
theorem ggX3_isMasked_X2_top : GoodIn wsX3_isMasked wsX2_top := goodIn_r _ [24, 25, 13, 5, 14, 15, 16, 17, 36, 37, 38, 39] (by decide +kernel) (by decide +kernel)
set_option maxRecDepth 20000 in
theorem gX3_isMasked_X2_top : GoodIn wsX3_isMasked (wsV RX3 186 RX2 yX2_top wsX2_top) := goodIn_app (goodIn_of _ (by decide +kernel)) ggX3_isMasked_X2_top
set_option maxRecDepth 20000 in
theorem ggX3_isMasked_X2_holds : GoodIn wsX3_isMasked wsX2_holds := goodIn_r _ [29, 12, 30, 25, 31, 13, 5, 14, 15, 16, 17, 36, 37, 38, 39] (by decide +kernel) (by decide +kernel)
set_option maxRecDepth 20000 in
theorem gX3_isMasked_X2_holds : GoodIn wsX3_isMasked (wsV RX3 174 RX2 yX2_holds wsX2_holds) := goodIn_app (goodIn_of _ (by decide +kernel)) ggX3_isMasked_X2_holds
theorem dX3_isMasked_0 : decode cX3_isMasked 0 = .ok (.iload_n 3, 1) := by decide +kernel
theorem dX3_isMasked_1 : decode cX3_isMasked 1 = .ok (.iload_n 2, 1) := by decide +kernel
theorem dX3_isMasked_2 : decode cX3_isMasked 2 = .ok (.invokestatic 177, 3) := by decide +kernel
theorem dX3_isMasked_5 : decode cX3_isMasked 5 = .ok (.isub, 1) := by decide +kernel
theorem dX3_isMasked_6 : decode cX3_isMasked 6 = .ok (.aload_n 0, 1) := by decide +kernel
theorem dX3_isMasked_7 : decode cX3_isMasked 7 = .ok (.getfield 19, 3) := by decide +kernel
theorem dX3_isMasked_10 : decode cX3_isMasked 10 = .ok (.iload_n 1, 1) := by decide +kernel
theorem dX3_isMasked_11 : decode cX3_isMasked 11 = .ok (.invokevirtual 183, 3) := by decide +kernel
theorem dX3_isMasked_14 : decode cX3_isMasked 14 = .ok (.isub, 1) := by decide +kernel
theorem dX3_isMasked_15 : decode cX3_isMasked 15 = .ok (.istore 5, 2) := by decide +kernel
theorem dX3_isMasked_17 : decode cX3_isMasked 17 = .ok (.iload 4, 2) := by decide +kernel
theorem dX3_isMasked_19 : decode cX3_isMasked 19 = .ok (.iload_n 2, 1) := by decide +kernel
theorem dX3_isMasked_20 : decode cX3_isMasked 20 = .ok (.invokestatic 180, 3) := by decide +kernel
theorem dX3_isMasked_23 : decode cX3_isMasked 23 = .ok (.isub, 1) := by decide +kernel
theorem dX3_isMasked_24 : decode cX3_isMasked 24 = .ok (.aload_n 0, 1) := by decide +kernel
theorem dX3_isMasked_25 : decode cX3_isMasked 25 = .ok (.getfield 19, 3) := by decide +kernel
theorem dX3_isMasked_28 : decode cX3_isMasked 28 = .ok (.iload_n 1, 1) := by decide +kernel
theorem dX3_isMasked_29 : decode cX3_isMasked 29 = .ok (.invokevirtual 186, 3) := by decide +kernel
theorem dX3_isMasked_32 : decode cX3_isMasked 32 = .ok (.isub, 1) := by decide +kernel
theorem dX3_isMasked_33 : decode cX3_isMasked 33 = .ok (.istore 6, 2) := by decide +kernel
theorem dX3_isMasked_35 : decode cX3_isMasked 35 = .ok (.aload_n 0, 1) := by decide +kernel
theorem dX3_isMasked_36 : decode cX3_isMasked 36 = .ok (.getfield 23, 3) := by decide +kernel
theorem dX3_isMasked_39 : decode cX3_isMasked 39 = .ok (.iload_n 1, 1) := by decide +kernel
theorem dX3_isMasked_40 : decode cX3_isMasked 40 = .ok (.iload 5, 2) := by decide +kernel
theorem dX3_isMasked_42 : decode cX3_isMasked 42 = .ok (.iload 6, 2) := by decide +kernel
theorem dX3_isMasked_44 : decode cX3_isMasked 44 = .ok (.invokevirtual 174, 3) := by decide +kernel
theorem dX3_isMasked_47 : decode cX3_isMasked 47 = .ok (.ireturn, 1) := by decide +kernel
theorem dX3_moveBy_0 : decode cX3_moveBy 0 = .ok (.sipush 5050, 3) := by decide +kernel
theorem dX3_moveBy_3 : decode cX3_moveBy 3 = .ok (.bipush 100, 2) := by decide +kernel
theorem dX3_moveBy_5 : decode cX3_moveBy 5 = .ok (.iload_n 1, 1) := by decide +kernel
theorem dX3_moveBy_6 : decode cX3_moveBy 6 = .ok (.imul, 1) := by decide +kernel
theorem dX3_moveBy_7 : decode cX3_moveBy 7 = .ok (.iadd, 1) := by decide +kernel
theorem dX3_moveBy_8 : decode cX3_moveBy 8 = .ok (.iload_n 0, 1) := by decide +kernel
theorem dX3_moveBy_9 : decode cX3_moveBy 9 = .ok (.iadd, 1) := by decide +kernel
theorem dX3_moveBy_10 : decode cX3_moveBy 10 = .ok (.ireturn, 1) := by decide +kernel
theorem dX3_columnsOf_0 : decode cX3_columnsOf 0 = .ok (.iload_n 0, 1) := by decide +kernel
theorem dX3_columnsOf_1 : decode cX3_columnsOf 1 = .ok (.bipush 100, 2) := by decide +kernel
theorem dX3_columnsOf_3 : decode cX3_columnsOf 3 = .ok (.irem, 1) := by decide +kernel
theorem dX3_columnsOf_4 : decode cX3_columnsOf 4 = .ok (.bipush 50, 2) := by decide +kernel
theorem dX3_columnsOf_6 : decode cX3_columnsOf 6 = .ok (.isub, 1) := by decide +kernel
theorem dX3_columnsOf_7 : decode cX3_columnsOf 7 = .ok (.ireturn, 1) := by decide +kernel
theorem dX3_rowsOf_0 : decode cX3_rowsOf 0 = .ok (.iload_n 0, 1) := by decide +kernel
theorem dX3_rowsOf_1 : decode cX3_rowsOf 1 = .ok (.bipush 100, 2) := by decide +kernel
theorem dX3_rowsOf_3 : decode cX3_rowsOf 3 = .ok (.idiv, 1) := by decide +kernel
theorem dX3_rowsOf_4 : decode cX3_rowsOf 4 = .ok (.bipush 50, 2) := by decide +kernel
theorem dX3_rowsOf_6 : decode cX3_rowsOf 6 = .ok (.isub, 1) := by decide +kernel
theorem dX3_rowsOf_7 : decode cX3_rowsOf 7 = .ok (.ireturn, 1) := by decide +kernel
set_option maxRecDepth 20000 in
theorem ggX3_findMove_X2_has : GoodIn wsX3_findMove wsX2_has := goodIn_r _ [10, 11, 12, 13, 14, 15, 16, 17, 18, 70, 71, 72, 73] (by decide +kernel) (by decide +kernel)
set_option maxRecDepth 20000 in
theorem gX3_findMove_X2_has : GoodIn wsX3_findMove (wsV RX3 74 RX2 yX2_has wsX2_has) := goodIn_app (goodIn_of _ (by decide +kernel)) ggX3_findMove_X2_has
set_option maxRecDepth 20000 in
theorem ggX3_findMove_X3_fits : GoodIn wsX3_findMove wsX3_fits := goodIn_r _ [22, 1, 23, 24, 25, 26, 9, 27, 28, 13, 14, 15, 16, 17, 18, 29, 30, 31, 32, 12, 33, 34, 35, 36, 37, 38, 39, 40, 41, 11, 42, 43, 44, 45, 46, 47, 48, 49, 50, 51, 52, 53, 54, 55, 56, 57, 58, 59, 60, 61, 62, 2, 3, 4, 5, 66, 67, 68, 69, 70, 71, 72, 73, 74, 75] (by decide +kernel) (by decide +kernel)
set_option maxRecDepth 20000 in
theorem gX3_findMove_X3_fits : GoodIn wsX3_findMove (wsV RX3 189 RX3 yX3_fits wsX3_fits) := goodIn_app (goodIn_of _ (by decide +kernel)) ggX3_findMove_X3_fits
set_option maxRecDepth 20000 in
theorem ggX3_findMove_X3_moveBy : GoodIn wsX3_findMove wsX3_moveBy := goodIn_r _ [65] (by decide +kernel) (by decide +kernel)
set_option maxRecDepth 20000 in
theorem gX3_findMove_X3_moveBy : GoodIn wsX3_findMove (va_wsS RX3 192 yX3_moveBy wsX3_moveBy) := goodIn_app (goodIn_of _ (by decide +kernel)) ggX3_findMove_X3_moveBy
theorem dX3_findMove_0 : decode cX3_findMove 0 = .ok (.aload_n 0, 1) := by decide +kernel
theorem dX3_findMove_1 : decode cX3_findMove 1 = .ok (.getfield 19, 3) := by decide +kernel
theorem dX3_findMove_4 : decode cX3_findMove 4 = .ok (.iload_n 2, 1) := by decide +kernel
theorem dX3_findMove_5 : decode cX3_findMove 5 = .ok (.invokevirtual 74, 3) := by decide +kernel
theorem dX3_findMove_8 : decode cX3_findMove 8 = .ok (.ifCond .eq 15, 3) := by decide +kernel
theorem dX3_findMove_11 : decode cX3_findMove 11 = .ok (.aload_n 0, 1) := by decide +kernel
theorem dX3_findMove_12 : decode cX3_findMove 12 = .ok (.iload_n 1, 1) := by decide +kernel
theorem dX3_findMove_13 : decode cX3_findMove 13 = .ok (.iload_n 2, 1) := by decide +kernel
theorem dX3_findMove_14 : decode cX3_findMove 14 = .ok (.iload_n 3, 1) := by decide +kernel
theorem dX3_findMove_15 : decode cX3_findMove 15 = .ok (.iconst 0, 1) := by decide +kernel
theorem dX3_findMove_16 : decode cX3_findMove 16 = .ok (.iconst 0, 1) := by decide +kernel
theorem dX3_findMove_17 : decode cX3_findMove 17 = .ok (.invokevirtual 189, 3) := by decide +kernel
theorem dX3_findMove_20 : decode cX3_findMove 20 = .ok (.ifCond .eq 7, 3) := by decide +kernel
theorem dX3_findMove_23 : decode cX3_findMove 23 = .ok (.sipush 5050, 3) := by decide +kernel
theorem dX3_findMove_26 : decode cX3_findMove 26 = .ok (.ireturn, 1) := by decide +kernel
theorem dX3_findMove_27 : decode cX3_findMove 27 = .ok (.sipush 5050, 3) := by decide +kernel
theorem dX3_findMove_30 : decode cX3_findMove 30 = .ok (.istore 4, 2) := by decide +kernel
theorem dX3_findMove_32 : decode cX3_findMove 32 = .ok (.iconst 5, 1) := by decide +kernel
theorem dX3_findMove_33 : decode cX3_findMove 33 = .ok (.istore 5, 2) := by decide +kernel
theorem dX3_findMove_35 : decode cX3_findMove 35 = .ok (.bipush (-2), 2) := by decide +kernel
theorem dX3_findMove_37 : decode cX3_findMove 37 = .ok (.istore 6, 2) := by decide +kernel
theorem dX3_findMove_39 : decode cX3_findMove 39 = .ok (.iload 6, 2) := by decide +kernel
theorem dX3_findMove_41 : decode cX3_findMove 41 = .ok (.iconst 2, 1) := by decide +kernel
theorem dX3_findMove_42 : decode cX3_findMove 42 = .ok (.if_icmp .gt 72, 3) := by decide +kernel
theorem dX3_findMove_45 : decode cX3_findMove 45 = .ok (.bipush (-2), 2) := by decide +kernel
theorem dX3_findMove_47 : decode cX3_findMove 47 = .ok (.istore 7, 2) := by decide +kernel
theorem dX3_findMove_49 : decode cX3_findMove 49 = .ok (.iload 7, 2) := by decide +kernel
theorem dX3_findMove_51 : decode cX3_findMove 51 = .ok (.iconst 2, 1) := by decide +kernel
theorem dX3_findMove_52 : decode cX3_findMove 52 = .ok (.if_icmp .gt 56, 3) := by decide +kernel
theorem dX3_findMove_55 : decode cX3_findMove 55 = .ok (.iload 6, 2) := by decide +kernel
theorem dX3_findMove_57 : decode cX3_findMove 57 = .ok (.invokestatic 163, 3) := by decide +kernel
theorem dX3_findMove_60 : decode cX3_findMove 60 = .ok (.iload 7, 2) := by decide +kernel
theorem dX3_findMove_62 : decode cX3_findMove 62 = .ok (.invokestatic 163, 3) := by decide +kernel
theorem dX3_findMove_65 : decode cX3_findMove 65 = .ok (.iadd, 1) := by decide +kernel
theorem dX3_findMove_66 : decode cX3_findMove 66 = .ok (.istore 8, 2) := by decide +kernel
theorem dX3_findMove_68 : decode cX3_findMove 68 = .ok (.iload 8, 2) := by decide +kernel
theorem dX3_findMove_70 : decode cX3_findMove 70 = .ok (.iload 5, 2) := by decide +kernel
theorem dX3_findMove_72 : decode cX3_findMove 72 = .ok (.if_icmp .ge 30, 3) := by decide +kernel
theorem dX3_findMove_75 : decode cX3_findMove 75 = .ok (.aload_n 0, 1) := by decide +kernel
theorem dX3_findMove_76 : decode cX3_findMove 76 = .ok (.iload_n 1, 1) := by decide +kernel
theorem dX3_findMove_77 : decode cX3_findMove 77 = .ok (.iload_n 2, 1) := by decide +kernel
theorem dX3_findMove_78 : decode cX3_findMove 78 = .ok (.iload_n 3, 1) := by decide +kernel
theorem dX3_findMove_79 : decode cX3_findMove 79 = .ok (.iload 7, 2) := by decide +kernel
theorem dX3_findMove_81 : decode cX3_findMove 81 = .ok (.iload 6, 2) := by decide +kernel
theorem dX3_findMove_83 : decode cX3_findMove 83 = .ok (.invokevirtual 189, 3) := by decide +kernel
theorem dX3_findMove_86 : decode cX3_findMove 86 = .ok (.ifCond .eq 16, 3) := by decide +kernel
theorem dX3_findMove_89 : decode cX3_findMove 89 = .ok (.iload 8, 2) := by decide +kernel
theorem dX3_findMove_91 : decode cX3_findMove 91 = .ok (.istore 5, 2) := by decide +kernel
theorem dX3_findMove_93 : decode cX3_findMove 93 = .ok (.iload 7, 2) := by decide +kernel
theorem dX3_findMove_95 : decode cX3_findMove 95 = .ok (.iload 6, 2) := by decide +kernel
theorem dX3_findMove_97 : decode cX3_findMove 97 = .ok (.invokestatic 192, 3) := by decide +kernel
theorem dX3_findMove_100 : decode cX3_findMove 100 = .ok (.istore 4, 2) := by decide +kernel
theorem dX3_findMove_102 : decode cX3_findMove 102 = .ok (.iinc 7 1, 3) := by decide +kernel
theorem dX3_findMove_105 : decode cX3_findMove 105 = .ok (.goto (-56), 3) := by decide +kernel
theorem dX3_findMove_108 : decode cX3_findMove 108 = .ok (.iinc 6 1, 3) := by decide +kernel
theorem dX3_findMove_111 : decode cX3_findMove 111 = .ok (.goto (-72), 3) := by decide +kernel
theorem dX3_findMove_114 : decode cX3_findMove 114 = .ok (.iload 4, 2) := by decide +kernel
theorem dX3_findMove_116 : decode cX3_findMove 116 = .ok (.ireturn, 1) := by decide +kernel
set_option maxRecDepth 20000 in
theorem ggX3_fits_X2_bottom : GoodIn wsX3_fits wsX2_bottom := goodIn_r _ [7, 8, 9, 10, 11, 12, 13, 14, 59, 60, 61, 62] (by decide +kernel) (by decide +kernel)
set_option maxRecDepth 20000 in
theorem gX3_fits_X2_bottom : GoodIn wsX3_fits (wsV RX3 195 RX2 yX2_bottom wsX2_bottom) := goodIn_app (goodIn_of _ (by decide +kernel)) ggX3_fits_X2_bottom
set_option maxRecDepth 20000 in
theorem ggX3_fits_X2_right : GoodIn wsX3_fits wsX2_right := goodIn_r _ [18, 19, 9, 10, 11, 12, 13, 14, 59, 60, 61, 62] (by decide +kernel) (by decide +kernel)
set_option maxRecDepth 20000 in
theorem gX3_fits_X2_right : GoodIn wsX3_fits (wsV RX3 198 RX2 yX2_right wsX2_right) := goodIn_app (goodIn_of _ (by decide +kernel)) ggX3_fits_X2_right
set_option maxRecDepth 20000 in
theorem ggX3_fits_X2_top : GoodIn wsX3_fits wsX2_top := goodIn_r _ [23, 24, 9, 10, 11, 12, 13, 14, 59, 60, 61, 62] (by decide +kernel) (by decide +kernel)
set_option maxRecDepth 20000 in
theorem gX3_fits_X2_top : GoodIn wsX3_fits (wsV RX3 186 RX2 yX2_top wsX2_top) := goodIn_app (goodIn_of _ (by decide +kernel)) ggX3_fits_X2_top
set_option maxRecDepth 20000 in
theorem ggX3_fits_X2_left : GoodIn wsX3_fits wsX2_left := goodIn_r _ [28, 29, 9, 10, 11, 12, 13, 14, 59, 60, 61, 62] (by decide +kernel) (by decide +kernel)
set_option maxRecDepth 20000 in
theorem gX3_fits_X2_left : GoodIn wsX3_fits (wsV RX3 183 RX2 yX2_left wsX2_left) := goodIn_app (goodIn_of _ (by decide +kernel)) ggX3_fits_X2_left
set_option maxRecDepth 20000 in
theorem ggX3_fits_X3_isCell : GoodIn wsX3_fits wsX3_isCell := goodIn_r _ [32, 12, 13, 10, 14] (by decide +kernel) (by decide +kernel)
set_option maxRecDepth 20000 in
theorem gX3_fits_X3_isCell : GoodIn wsX3_fits (va_wsS RX3 55 yX3_isCell wsX3_isCell) := goodIn_app (goodIn_of _ (by decide +kernel)) ggX3_fits_X3_isCell
set_option maxRecDepth 20000 in
theorem ggX3_fits_X3_pictureSlot : GoodIn wsX3_fits wsX3_pictureSlot := goodIn_r _ [35] (by decide +kernel) (by decide +kernel)
set_option maxRecDepth 20000 in
theorem gX3_fits_X3_pictureSlot : GoodIn wsX3_fits (va_wsS RX3 48 yX3_pictureSlot wsX3_pictureSlot) := goodIn_app (goodIn_of _ (by decide +kernel)) ggX3_fits_X3_pictureSlot
set_option maxRecDepth 20000 in
theorem ggX3_fits_X1_at : GoodIn wsX3_fits wsX1_at := goodIn_r _ [40, 41, 42, 43, 39, 44, 13, 10, 14, 31, 32, 12, 45, 46, 47, 63, 64] (by decide +kernel) (by decide +kernel)
set_option maxRecDepth 20000 in
theorem gX3_fits_X1_at : GoodIn wsX3_fits (wsV RX3 59 RX1 yX1_at wsX1_at) := goodIn_app (goodIn_of _ (by decide +kernel)) ggX3_fits_X1_at
set_option maxRecDepth 20000 in
theorem ggX3_fits_X3_isAlike : GoodIn wsX3_fits wsX3_isAlike := goodIn_r _ [50, 51, 52, 53, 54] (by decide +kernel) (by decide +kernel)
set_option maxRecDepth 20000 in
theorem gX3_fits_X3_isAlike : GoodIn wsX3_fits (va_wsS RX3 154 yX3_isAlike wsX3_isAlike) := goodIn_app (goodIn_of _ (by decide +kernel)) ggX3_fits_X3_isAlike
theorem dX3_fits_0 : decode cX3_fits 0 = .ok (.aload_n 0, 1) := by decide +kernel
theorem dX3_fits_1 : decode cX3_fits 1 = .ok (.getfield 19, 3) := by decide +kernel
theorem dX3_fits_4 : decode cX3_fits 4 = .ok (.iload_n 2, 1) := by decide +kernel
theorem dX3_fits_5 : decode cX3_fits 5 = .ok (.invokevirtual 195, 3) := by decide +kernel
theorem dX3_fits_8 : decode cX3_fits 8 = .ok (.istore 6, 2) := by decide +kernel
theorem dX3_fits_10 : decode cX3_fits 10 = .ok (.aload_n 0, 1) := by decide +kernel
theorem dX3_fits_11 : decode cX3_fits 11 = .ok (.getfield 19, 3) := by decide +kernel
theorem dX3_fits_14 : decode cX3_fits 14 = .ok (.iload_n 2, 1) := by decide +kernel
theorem dX3_fits_15 : decode cX3_fits 15 = .ok (.invokevirtual 198, 3) := by decide +kernel
theorem dX3_fits_18 : decode cX3_fits 18 = .ok (.istore 7, 2) := by decide +kernel
theorem dX3_fits_20 : decode cX3_fits 20 = .ok (.aload_n 0, 1) := by decide +kernel
theorem dX3_fits_21 : decode cX3_fits 21 = .ok (.getfield 19, 3) := by decide +kernel
theorem dX3_fits_24 : decode cX3_fits 24 = .ok (.iload_n 2, 1) := by decide +kernel
theorem dX3_fits_25 : decode cX3_fits 25 = .ok (.invokevirtual 186, 3) := by decide +kernel
theorem dX3_fits_28 : decode cX3_fits 28 = .ok (.istore 8, 2) := by decide +kernel
theorem dX3_fits_30 : decode cX3_fits 30 = .ok (.iload 8, 2) := by decide +kernel
theorem dX3_fits_32 : decode cX3_fits 32 = .ok (.iload 6, 2) := by decide +kernel
theorem dX3_fits_34 : decode cX3_fits 34 = .ok (.if_icmp .ge 96, 3) := by decide +kernel
theorem dX3_fits_37 : decode cX3_fits 37 = .ok (.aload_n 0, 1) := by decide +kernel
theorem dX3_fits_38 : decode cX3_fits 38 = .ok (.getfield 19, 3) := by decide +kernel
theorem dX3_fits_41 : decode cX3_fits 41 = .ok (.iload_n 2, 1) := by decide +kernel
theorem dX3_fits_42 : decode cX3_fits 42 = .ok (.invokevirtual 183, 3) := by decide +kernel
theorem dX3_fits_45 : decode cX3_fits 45 = .ok (.istore 9, 2) := by decide +kernel
theorem dX3_fits_47 : decode cX3_fits 47 = .ok (.iload 9, 2) := by decide +kernel
theorem dX3_fits_49 : decode cX3_fits 49 = .ok (.iload 7, 2) := by decide +kernel
theorem dX3_fits_51 : decode cX3_fits 51 = .ok (.if_icmp .ge 73, 3) := by decide +kernel
theorem dX3_fits_54 : decode cX3_fits 54 = .ok (.iload 9, 2) := by decide +kernel
theorem dX3_fits_56 : decode cX3_fits 56 = .ok (.iload 4, 2) := by decide +kernel
theorem dX3_fits_58 : decode cX3_fits 58 = .ok (.iadd, 1) := by decide +kernel
theorem dX3_fits_59 : decode cX3_fits 59 = .ok (.iload 8, 2) := by decide +kernel
theorem dX3_fits_61 : decode cX3_fits 61 = .ok (.iload 5, 2) := by decide +kernel
theorem dX3_fits_63 : decode cX3_fits 63 = .ok (.iadd, 1) := by decide +kernel
theorem dX3_fits_64 : decode cX3_fits 64 = .ok (.invokestatic 55, 3) := by decide +kernel
theorem dX3_fits_67 : decode cX3_fits 67 = .ok (.ifCond .ne 5, 3) := by decide +kernel
theorem dX3_fits_70 : decode cX3_fits 70 = .ok (.iconst 0, 1) := by decide +kernel
theorem dX3_fits_71 : decode cX3_fits 71 = .ok (.ireturn, 1) := by decide +kernel
theorem dX3_fits_72 : decode cX3_fits 72 = .ok (.aload_n 0, 1) := by decide +kernel
theorem dX3_fits_73 : decode cX3_fits 73 = .ok (.getfield 12, 3) := by decide +kernel
theorem dX3_fits_76 : decode cX3_fits 76 = .ok (.iload_n 2, 1) := by decide +kernel
theorem dX3_fits_77 : decode cX3_fits 77 = .ok (.invokestatic 48, 3) := by decide +kernel
theorem dX3_fits_80 : decode cX3_fits 80 = .ok (.iload 9, 2) := by decide +kernel
theorem dX3_fits_82 : decode cX3_fits 82 = .ok (.iload 4, 2) := by decide +kernel
theorem dX3_fits_84 : decode cX3_fits 84 = .ok (.iadd, 1) := by decide +kernel
theorem dX3_fits_85 : decode cX3_fits 85 = .ok (.iload 8, 2) := by decide +kernel
theorem dX3_fits_87 : decode cX3_fits 87 = .ok (.iload 5, 2) := by decide +kernel
theorem dX3_fits_89 : decode cX3_fits 89 = .ok (.iadd, 1) := by decide +kernel
theorem dX3_fits_90 : decode cX3_fits 90 = .ok (.invokevirtual 59, 3) := by decide +kernel
theorem dX3_fits_93 : decode cX3_fits 93 = .ok (.istore 10, 2) := by decide +kernel
theorem dX3_fits_95 : decode cX3_fits 95 = .ok (.iload 10, 2) := by decide +kernel
theorem dX3_fits_97 : decode cX3_fits 97 = .ok (.aload_n 0, 1) := by decide +kernel
theorem dX3_fits_98 : decode cX3_fits 98 = .ok (.getfield 12, 3) := by decide +kernel
theorem dX3_fits_101 : decode cX3_fits 101 = .ok (.iload_n 1, 1) := by decide +kernel
theorem dX3_fits_102 : decode cX3_fits 102 = .ok (.iload 9, 2) := by decide +kernel
theorem dX3_fits_104 : decode cX3_fits 104 = .ok (.iload 8, 2) := by decide +kernel
theorem dX3_fits_106 : decode cX3_fits 106 = .ok (.invokevirtual 59, 3) := by decide +kernel
theorem dX3_fits_109 : decode cX3_fits 109 = .ok (.iload_n 3, 1) := by decide +kernel
theorem dX3_fits_110 : decode cX3_fits 110 = .ok (.invokestatic 154, 3) := by decide +kernel
theorem dX3_fits_113 : decode cX3_fits 113 = .ok (.ifCond .ne 5, 3) := by decide +kernel
theorem dX3_fits_116 : decode cX3_fits 116 = .ok (.iconst 0, 1) := by decide +kernel
theorem dX3_fits_117 : decode cX3_fits 117 = .ok (.ireturn, 1) := by decide +kernel
theorem dX3_fits_118 : decode cX3_fits 118 = .ok (.iinc 9 1, 3) := by decide +kernel
theorem dX3_fits_121 : decode cX3_fits 121 = .ok (.goto (-74), 3) := by decide +kernel
theorem dX3_fits_124 : decode cX3_fits 124 = .ok (.iinc 8 1, 3) := by decide +kernel
theorem dX3_fits_127 : decode cX3_fits 127 = .ok (.goto (-97), 3) := by decide +kernel
theorem dX3_fits_130 : decode cX3_fits 130 = .ok (.iconst 1, 1) := by decide +kernel
theorem dX3_fits_131 : decode cX3_fits 131 = .ok (.ireturn, 1) := by decide +kernel
theorem dX4_init_0 : decode cX4_init 0 = .ok (.aload_n 0, 1) := by decide +kernel
theorem dX4_init_1 : decode cX4_init 1 = .ok (.invokespecial 1, 3) := by decide +kernel
theorem dX4_init_4 : decode cX4_init 4 = .ok (.aload_n 0, 1) := by decide +kernel
theorem dX4_init_5 : decode cX4_init 5 = .ok (.sipush 320, 3) := by decide +kernel
theorem dX4_init_8 : decode cX4_init 8 = .ok (.newarray .int, 2) := by decide +kernel
theorem dX4_init_10 : decode cX4_init 10 = .ok (.putfield 7, 3) := by decide +kernel
theorem dX4_init_13 : decode cX4_init 13 = .ok (.aload_n 0, 1) := by decide +kernel
theorem dX4_init_14 : decode cX4_init 14 = .ok (.sipush 2240, 3) := by decide +kernel
theorem dX4_init_17 : decode cX4_init 17 = .ok (.newarray .int, 2) := by decide +kernel
theorem dX4_init_19 : decode cX4_init 19 = .ok (.putfield 13, 3) := by decide +kernel
theorem dX4_init_22 : decode cX4_init 22 = .ok (.aload_n 0, 1) := by decide +kernel
theorem dX4_init_23 : decode cX4_init 23 = .ok (.bipush 35, 2) := by decide +kernel
theorem dX4_init_25 : decode cX4_init 25 = .ok (.newarray .boolean, 2) := by decide +kernel
theorem dX4_init_27 : decode cX4_init 27 = .ok (.putfield 16, 3) := by decide +kernel
theorem dX4_init_30 : decode cX4_init 30 = .ok (.aload_n 0, 1) := by decide +kernel
theorem dX4_init_31 : decode cX4_init 31 = .ok (.bipush 20, 2) := by decide +kernel
theorem dX4_init_33 : decode cX4_init 33 = .ok (.newarray .int, 2) := by decide +kernel
theorem dX4_init_35 : decode cX4_init 35 = .ok (.putfield 20, 3) := by decide +kernel
theorem dX4_init_38 : decode cX4_init 38 = .ok (.aload_n 0, 1) := by decide +kernel
theorem dX4_init_39 : decode cX4_init 39 = .ok (.bipush 20, 2) := by decide +kernel
theorem dX4_init_41 : decode cX4_init 41 = .ok (.newarray .int, 2) := by decide +kernel
theorem dX4_init_43 : decode cX4_init 43 = .ok (.putfield 23, 3) := by decide +kernel
theorem dX4_init_46 : decode cX4_init 46 = .ok (.aload_n 0, 1) := by decide +kernel
theorem dX4_init_47 : decode cX4_init 47 = .ok (.bipush 50, 2) := by decide +kernel
theorem dX4_init_49 : decode cX4_init 49 = .ok (.newarray .int, 2) := by decide +kernel
theorem dX4_init_51 : decode cX4_init 51 = .ok (.putfield 26, 3) := by decide +kernel
theorem dX4_init_54 : decode cX4_init 54 = .ok (.aload_n 0, 1) := by decide +kernel
theorem dX4_init_55 : decode cX4_init 55 = .ok (.iconst 5, 1) := by decide +kernel
theorem dX4_init_56 : decode cX4_init 56 = .ok (.newarray .int, 2) := by decide +kernel
theorem dX4_init_58 : decode cX4_init 58 = .ok (.putfield 29, 3) := by decide +kernel
theorem dX4_init_61 : decode cX4_init 61 = .ok (.return_, 1) := by decide +kernel
theorem dX4_thrown_0 : decode cX4_thrown 0 = .ok (.aload_n 0, 1) := by decide +kernel
theorem dX4_thrown_1 : decode cX4_thrown 1 = .ok (.getfield 32, 3) := by decide +kernel
theorem dX4_thrown_4 : decode cX4_thrown 4 = .ok (.ireturn, 1) := by decide +kernel
theorem dX4_goesWell_0 : decode cX4_goesWell 0 = .ok (.aload_n 0, 1) := by decide +kernel
theorem dX4_goesWell_1 : decode cX4_goesWell 1 = .ok (.iload_n 1, 1) := by decide +kernel
theorem dX4_goesWell_2 : decode cX4_goesWell 2 = .ok (.putfield 32, 3) := by decide +kernel
theorem dX4_goesWell_5 : decode cX4_goesWell 5 = .ok (.iload_n 1, 1) := by decide +kernel
theorem dX4_goesWell_6 : decode cX4_goesWell 6 = .ok (.ifCond .ne 7, 3) := by decide +kernel
theorem dX4_goesWell_9 : decode cX4_goesWell 9 = .ok (.iconst 1, 1) := by decide +kernel
theorem dX4_goesWell_10 : decode cX4_goesWell 10 = .ok (.goto 4, 3) := by decide +kernel
theorem dX4_goesWell_13 : decode cX4_goesWell 13 = .ok (.iconst 0, 1) := by decide +kernel
theorem dX4_goesWell_14 : decode cX4_goesWell 14 = .ok (.ireturn, 1) := by decide +kernel
theorem dX4_in_0 : decode cX4_in 0 = .ok (.iload_n 0, 1) := by decide +kernel
theorem dX4_in_1 : decode cX4_in 1 = .ok (.iload_n 1, 1) := by decide +kernel
theorem dX4_in_2 : decode cX4_in 2 = .ok (.if_icmp .lt 12, 3) := by decide +kernel
theorem dX4_in_5 : decode cX4_in 5 = .ok (.iload_n 0, 1) := by decide +kernel
theorem dX4_in_6 : decode cX4_in 6 = .ok (.iload_n 2, 1) := by decide +kernel
theorem dX4_in_7 : decode cX4_in 7 = .ok (.if_icmp .gt 7, 3) := by decide +kernel
theorem dX4_in_10 : decode cX4_in 10 = .ok (.iconst 1, 1) := by decide +kernel
theorem dX4_in_11 : decode cX4_in 11 = .ok (.goto 4, 3) := by decide +kernel
theorem dX4_in_14 : decode cX4_in 14 = .ok (.iconst 0, 1) := by decide +kernel
theorem dX4_in_15 : decode cX4_in 15 = .ok (.ireturn, 1) := by decide +kernel
set_option maxRecDepth 20000 in
theorem ggX4_isTest_X4_in : GoodIn wsX4_isTest wsX4_in := goodIn_r _ [4] (by decide +kernel) (by decide +kernel)
set_option maxRecDepth 20000 in
theorem gX4_isTest_X4_in : GoodIn wsX4_isTest (va_wsS RX4 36 yX4_in wsX4_in) := goodIn_app (goodIn_of _ (by decide +kernel)) ggX4_isTest_X4_in
theorem dX4_isTest_0 : decode cX4_isTest 0 = .ok (.iload_n 0, 1) := by decide +kernel
theorem dX4_isTest_1 : decode cX4_isTest 1 = .ok (.iconst 0, 1) := by decide +kernel
theorem dX4_isTest_2 : decode cX4_isTest 2 = .ok (.iconst 4, 1) := by decide +kernel
theorem dX4_isTest_3 : decode cX4_isTest 3 = .ok (.invokestatic 36, 3) := by decide +kernel
theorem dX4_isTest_6 : decode cX4_isTest 6 = .ok (.ireturn, 1) := by decide +kernel
set_option maxRecDepth 20000 in
theorem ggX4_isCell_X4_in : GoodIn wsX4_isCell wsX4_in := goodIn_r _ [4] (by decide +kernel) (by decide +kernel)
set_option maxRecDepth 20000 in
theorem gX4_isCell_X4_in : GoodIn wsX4_isCell (va_wsS RX4 36 yX4_in wsX4_in) := goodIn_app (goodIn_of _ (by decide +kernel)) ggX4_isCell_X4_in
theorem dX4_isCell_0 : decode cX4_isCell 0 = .ok (.iload_n 0, 1) := by decide +kernel
theorem dX4_isCell_1 : decode cX4_isCell 1 = .ok (.iconst 0, 1) := by decide +kernel
theorem dX4_isCell_2 : decode cX4_isCell 2 = .ok (.bipush 7, 2) := by decide +kernel
theorem dX4_isCell_4 : decode cX4_isCell 4 = .ok (.invokestatic 36, 3) := by decide +kernel
theorem dX4_isCell_7 : decode cX4_isCell 7 = .ok (.ifCond .eq 17, 3) := by decide +kernel
theorem dX4_isCell_10 : decode cX4_isCell 10 = .ok (.iload_n 1, 1) := by decide +kernel
theorem dX4_isCell_11 : decode cX4_isCell 11 = .ok (.iconst 0, 1) := by decide +kernel
theorem dX4_isCell_12 : decode cX4_isCell 12 = .ok (.bipush 7, 2) := by decide +kernel
theorem dX4_isCell_14 : decode cX4_isCell 14 = .ok (.invokestatic 36, 3) := by decide +kernel
theorem dX4_isCell_17 : decode cX4_isCell 17 = .ok (.ifCond .eq 7, 3) := by decide +kernel
theorem dX4_isCell_20 : decode cX4_isCell 20 = .ok (.iconst 1, 1) := by decide +kernel
theorem dX4_isCell_21 : decode cX4_isCell 21 = .ok (.goto 4, 3) := by decide +kernel
theorem dX4_isCell_24 : decode cX4_isCell 24 = .ok (.iconst 0, 1) := by decide +kernel
theorem dX4_isCell_25 : decode cX4_isCell 25 = .ok (.ireturn, 1) := by decide +kernel
set_option maxRecDepth 20000 in
theorem ggX4_isBox_X4_isCell : GoodIn wsX4_isBox wsX4_isCell := goodIn_r _ [4, 5, 6, 3, 7] (by decide +kernel) (by decide +kernel)
set_option maxRecDepth 20000 in
theorem gX4_isBox_X4_isCell : GoodIn wsX4_isBox (va_wsS RX4 40 yX4_isCell wsX4_isCell) := goodIn_app (goodIn_of _ (by decide +kernel)) ggX4_isBox_X4_isCell
set_option maxRecDepth 20000 in
theorem ggX4_isBox_X4_in : GoodIn wsX4_isBox wsX4_in := goodIn_r _ [7] (by decide +kernel) (by decide +kernel)
set_option maxRecDepth 20000 in
theorem gX4_isBox_X4_in : GoodIn wsX4_isBox (va_wsS RX4 36 yX4_in wsX4_in) := goodIn_app (goodIn_of _ (by decide +kernel)) ggX4_isBox_X4_in
theorem dX4_isBox_0 : decode cX4_isBox 0 = .ok (.iload_n 0, 1) := by decide +kernel
theorem dX4_isBox_1 : decode cX4_isBox 1 = .ok (.iload_n 1, 1) := by decide +kernel
theorem dX4_isBox_2 : decode cX4_isBox 2 = .ok (.invokestatic 40, 3) := by decide +kernel
theorem dX4_isBox_5 : decode cX4_isBox 5 = .ok (.ifCond .eq 31, 3) := by decide +kernel
theorem dX4_isBox_8 : decode cX4_isBox 8 = .ok (.iload_n 2, 1) := by decide +kernel
theorem dX4_isBox_9 : decode cX4_isBox 9 = .ok (.iconst 1, 1) := by decide +kernel
theorem dX4_isBox_10 : decode cX4_isBox 10 = .ok (.bipush 8, 2) := by decide +kernel
theorem dX4_isBox_12 : decode cX4_isBox 12 = .ok (.iload_n 0, 1) := by decide +kernel
theorem dX4_isBox_13 : decode cX4_isBox 13 = .ok (.isub, 1) := by decide +kernel
theorem dX4_isBox_14 : decode cX4_isBox 14 = .ok (.invokestatic 36, 3) := by decide +kernel
theorem dX4_isBox_17 : decode cX4_isBox 17 = .ok (.ifCond .eq 19, 3) := by decide +kernel
theorem dX4_isBox_20 : decode cX4_isBox 20 = .ok (.iload_n 3, 1) := by decide +kernel
theorem dX4_isBox_21 : decode cX4_isBox 21 = .ok (.iconst 1, 1) := by decide +kernel
theorem dX4_isBox_22 : decode cX4_isBox 22 = .ok (.bipush 8, 2) := by decide +kernel
theorem dX4_isBox_24 : decode cX4_isBox 24 = .ok (.iload_n 1, 1) := by decide +kernel
theorem dX4_isBox_25 : decode cX4_isBox 25 = .ok (.isub, 1) := by decide +kernel
theorem dX4_isBox_26 : decode cX4_isBox 26 = .ok (.invokestatic 36, 3) := by decide +kernel
theorem dX4_isBox_29 : decode cX4_isBox 29 = .ok (.ifCond .eq 7, 3) := by decide +kernel
theorem dX4_isBox_32 : decode cX4_isBox 32 = .ok (.iconst 1, 1) := by decide +kernel
theorem dX4_isBox_33 : decode cX4_isBox 33 = .ok (.goto 4, 3) := by decide +kernel
theorem dX4_isBox_36 : decode cX4_isBox 36 = .ok (.iconst 0, 1) := by decide +kernel
theorem dX4_isBox_37 : decode cX4_isBox 37 = .ok (.ireturn, 1) := by decide +kernel
set_option maxRecDepth 20000 in
theorem ggX4_paint_X4_isTest : GoodIn wsX4_paint wsX4_isTest := goodIn_r _ [5, 6, 7, 4, 8] (by decide +kernel) (by decide +kernel)
set_option maxRecDepth 20000 in
theorem gX4_paint_X4_isTest : GoodIn wsX4_paint (va_wsS RX4 44 yX4_isTest wsX4_isTest) := goodIn_app (goodIn_of _ (by decide +kernel)) ggX4_paint_X4_isTest
set_option maxRecDepth 20000 in
theorem ggX4_paint_X4_isBox : GoodIn wsX4_paint wsX4_isBox := goodIn_r _ [11, 12, 13, 4, 14, 6, 7, 8] (by decide +kernel) (by decide +kernel)
set_option maxRecDepth 20000 in
theorem gX4_paint_X4_isBox : GoodIn wsX4_paint (va_wsS RX4 48 yX4_isBox wsX4_isBox) := goodIn_app (goodIn_of _ (by decide +kernel)) ggX4_paint_X4_isBox
set_option maxRecDepth 20000 in
theorem ggX4_paint_X4_in : GoodIn wsX4_paint wsX4_in := goodIn_r _ [8] (by decide +kernel) (by decide +kernel)
set_option maxRecDepth 20000 in
theorem gX4_paint_X4_in : GoodIn wsX4_paint (va_wsS RX4 36 yX4_in wsX4_in) := goodIn_app (goodIn_of _ (by decide +kernel)) ggX4_paint_X4_in
set_option maxRecDepth 20000 in
theorem ggX4_paint_X4_goesWell : GoodIn wsX4_paint wsX4_goesWell := goodIn_r _ [18, 19, 20, 21, 22, 23, 24, 25, 26, 27, 28, 29] (by decide +kernel) (by decide +kernel)
set_option maxRecDepth 20000 in
theorem gX4_paint_X4_goesWell : GoodIn wsX4_paint (wsV RX4 52 RX4 yX4_goesWell wsX4_goesWell) := goodIn_app (goodIn_of _ (by decide +kernel)) ggX4_paint_X4_goesWell
theorem dX4_paint_0 : decode cX4_paint 0 = .ok (.aload_n 0, 1) := by decide +kernel
theorem dX4_paint_1 : decode cX4_paint 1 = .ok (.iload_n 1, 1) := by decide +kernel
theorem dX4_paint_2 : decode cX4_paint 2 = .ok (.invokestatic 44, 3) := by decide +kernel
theorem dX4_paint_5 : decode cX4_paint 5 = .ok (.ifCond .eq 31, 3) := by decide +kernel
theorem dX4_paint_8 : decode cX4_paint 8 = .ok (.iload_n 2, 1) := by decide +kernel
theorem dX4_paint_9 : decode cX4_paint 9 = .ok (.iload_n 3, 1) := by decide +kernel
theorem dX4_paint_10 : decode cX4_paint 10 = .ok (.iload 4, 2) := by decide +kernel
theorem dX4_paint_12 : decode cX4_paint 12 = .ok (.iload 5, 2) := by decide +kernel
theorem dX4_paint_14 : decode cX4_paint 14 = .ok (.invokestatic 48, 3) := by decide +kernel
theorem dX4_paint_17 : decode cX4_paint 17 = .ok (.ifCond .eq 19, 3) := by decide +kernel
theorem dX4_paint_20 : decode cX4_paint 20 = .ok (.iload 6, 2) := by decide +kernel
theorem dX4_paint_22 : decode cX4_paint 22 = .ok (.iconst 0, 1) := by decide +kernel
theorem dX4_paint_23 : decode cX4_paint 23 = .ok (.sipush 255, 3) := by decide +kernel
theorem dX4_paint_26 : decode cX4_paint 26 = .ok (.invokestatic 36, 3) := by decide +kernel
theorem dX4_paint_29 : decode cX4_paint 29 = .ok (.ifCond .eq 7, 3) := by decide +kernel
theorem dX4_paint_32 : decode cX4_paint 32 = .ok (.iconst 0, 1) := by decide +kernel
theorem dX4_paint_33 : decode cX4_paint 33 = .ok (.goto 4, 3) := by decide +kernel
theorem dX4_paint_36 : decode cX4_paint 36 = .ok (.iconst 1, 1) := by decide +kernel
theorem dX4_paint_37 : decode cX4_paint 37 = .ok (.invokevirtual 52, 3) := by decide +kernel
theorem dX4_paint_40 : decode cX4_paint 40 = .ok (.ifCond .ne 5, 3) := by decide +kernel
theorem dX4_paint_43 : decode cX4_paint 43 = .ok (.iconst 0, 1) := by decide +kernel
theorem dX4_paint_44 : decode cX4_paint 44 = .ok (.ireturn, 1) := by decide +kernel
theorem dX4_paint_45 : decode cX4_paint 45 = .ok (.iconst 0, 1) := by decide +kernel
theorem dX4_paint_46 : decode cX4_paint 46 = .ok (.istore 7, 2) := by decide +kernel
theorem dX4_paint_48 : decode cX4_paint 48 = .ok (.iconst 0, 1) := by decide +kernel
theorem dX4_paint_49 : decode cX4_paint 49 = .ok (.istore 8, 2) := by decide +kernel
theorem dX4_paint_51 : decode cX4_paint 51 = .ok (.iload 8, 2) := by decide +kernel
theorem dX4_paint_53 : decode cX4_paint 53 = .ok (.iload 4, 2) := by decide +kernel
theorem dX4_paint_55 : decode cX4_paint 55 = .ok (.iload 5, 2) := by decide +kernel
theorem dX4_paint_57 : decode cX4_paint 57 = .ok (.imul, 1) := by decide +kernel
theorem dX4_paint_58 : decode cX4_paint 58 = .ok (.if_icmp .ge 65, 3) := by decide +kernel
theorem dX4_paint_61 : decode cX4_paint 61 = .ok (.bipush 64, 2) := by decide +kernel
theorem dX4_paint_63 : decode cX4_paint 63 = .ok (.iload_n 1, 1) := by decide +kernel
theorem dX4_paint_64 : decode cX4_paint 64 = .ok (.imul, 1) := by decide +kernel
theorem dX4_paint_65 : decode cX4_paint 65 = .ok (.bipush 8, 2) := by decide +kernel
theorem dX4_paint_67 : decode cX4_paint 67 = .ok (.iload_n 3, 1) := by decide +kernel
theorem dX4_paint_68 : decode cX4_paint 68 = .ok (.iload 8, 2) := by decide +kernel
theorem dX4_paint_70 : decode cX4_paint 70 = .ok (.iload 4, 2) := by decide +kernel
theorem dX4_paint_72 : decode cX4_paint 72 = .ok (.idiv, 1) := by decide +kernel
theorem dX4_paint_73 : decode cX4_paint 73 = .ok (.iadd, 1) := by decide +kernel
theorem dX4_paint_74 : decode cX4_paint 74 = .ok (.imul, 1) := by decide +kernel
theorem dX4_paint_75 : decode cX4_paint 75 = .ok (.iadd, 1) := by decide +kernel
theorem dX4_paint_76 : decode cX4_paint 76 = .ok (.iload_n 2, 1) := by decide +kernel
theorem dX4_paint_77 : decode cX4_paint 77 = .ok (.iadd, 1) := by decide +kernel
theorem dX4_paint_78 : decode cX4_paint 78 = .ok (.iload 8, 2) := by decide +kernel
theorem dX4_paint_80 : decode cX4_paint 80 = .ok (.iload 4, 2) := by decide +kernel
theorem dX4_paint_82 : decode cX4_paint 82 = .ok (.irem, 1) := by decide +kernel
theorem dX4_paint_83 : decode cX4_paint 83 = .ok (.iadd, 1) := by decide +kernel
theorem dX4_paint_84 : decode cX4_paint 84 = .ok (.istore 9, 2) := by decide +kernel
theorem dX4_paint_86 : decode cX4_paint 86 = .ok (.iload 7, 2) := by decide +kernel
theorem dX4_paint_88 : decode cX4_paint 88 = .ok (.aload_n 0, 1) := by decide +kernel
theorem dX4_paint_89 : decode cX4_paint 89 = .ok (.getfield 7, 3) := by decide +kernel
theorem dX4_paint_92 : decode cX4_paint 92 = .ok (.iload 9, 2) := by decide +kernel
theorem dX4_paint_94 : decode cX4_paint 94 = .ok (.iaload, 1) := by decide +kernel
theorem dX4_paint_95 : decode cX4_paint 95 = .ok (.iload 6, 2) := by decide +kernel
theorem dX4_paint_97 : decode cX4_paint 97 = .ok (.if_icmp .ne 7, 3) := by decide +kernel
theorem dX4_paint_100 : decode cX4_paint 100 = .ok (.iconst 0, 1) := by decide +kernel
theorem dX4_paint_101 : decode cX4_paint 101 = .ok (.goto 4, 3) := by decide +kernel
theorem dX4_paint_104 : decode cX4_paint 104 = .ok (.iconst 1, 1) := by decide +kernel
theorem dX4_paint_105 : decode cX4_paint 105 = .ok (.iadd, 1) := by decide +kernel
theorem dX4_paint_106 : decode cX4_paint 106 = .ok (.istore 7, 2) := by decide +kernel
theorem dX4_paint_108 : decode cX4_paint 108 = .ok (.aload_n 0, 1) := by decide +kernel
theorem dX4_paint_109 : decode cX4_paint 109 = .ok (.getfield 7, 3) := by decide +kernel
theorem dX4_paint_112 : decode cX4_paint 112 = .ok (.iload 9, 2) := by decide +kernel
theorem dX4_paint_114 : decode cX4_paint 114 = .ok (.iload 6, 2) := by decide +kernel
theorem dX4_paint_116 : decode cX4_paint 116 = .ok (.iastore, 1) := by decide +kernel
theorem dX4_paint_117 : decode cX4_paint 117 = .ok (.iinc 8 1, 3) := by decide +kernel
theorem dX4_paint_120 : decode cX4_paint 120 = .ok (.goto (-69), 3) := by decide +kernel
theorem dX4_paint_123 : decode cX4_paint 123 = .ok (.iload 7, 2) := by decide +kernel
theorem dX4_paint_125 : decode cX4_paint 125 = .ok (.ireturn, 1) := by decide +kernel
set_option maxRecDepth 20000 in
theorem ggX4_shade_X4_isTest : GoodIn wsX4_shade wsX4_isTest := goodIn_r _ [5, 6, 7, 4, 8] (by decide +kernel) (by decide +kernel)
set_option maxRecDepth 20000 in
theorem gX4_shade_X4_isTest : GoodIn wsX4_shade (va_wsS RX4 44 yX4_isTest wsX4_isTest) := goodIn_app (goodIn_of _ (by decide +kernel)) ggX4_shade_X4_isTest
set_option maxRecDepth 20000 in
theorem ggX4_shade_X4_isCell : GoodIn wsX4_shade wsX4_isCell := goodIn_r _ [11, 6, 7, 4, 8] (by decide +kernel) (by decide +kernel)
set_option maxRecDepth 20000 in
theorem gX4_shade_X4_isCell : GoodIn wsX4_shade (va_wsS RX4 40 yX4_isCell wsX4_isCell) := goodIn_app (goodIn_of _ (by decide +kernel)) ggX4_shade_X4_isCell
set_option maxRecDepth 20000 in
theorem ggX4_shade_X4_goesWell : GoodIn wsX4_shade wsX4_goesWell := goodIn_r _ [15, 16, 17, 18, 19, 20, 21, 22, 23, 24, 25, 26] (by decide +kernel) (by decide +kernel)
set_option maxRecDepth 20000 in
theorem gX4_shade_X4_goesWell : GoodIn wsX4_shade (wsV RX4 52 RX4 yX4_goesWell wsX4_goesWell) := goodIn_app (goodIn_of _ (by decide +kernel)) ggX4_shade_X4_goesWell
theorem dX4_shade_0 : decode cX4_shade 0 = .ok (.aload_n 0, 1) := by decide +kernel
theorem dX4_shade_1 : decode cX4_shade 1 = .ok (.iload_n 1, 1) := by decide +kernel
theorem dX4_shade_2 : decode cX4_shade 2 = .ok (.invokestatic 44, 3) := by decide +kernel
theorem dX4_shade_5 : decode cX4_shade 5 = .ok (.ifCond .eq 15, 3) := by decide +kernel
theorem dX4_shade_8 : decode cX4_shade 8 = .ok (.iload_n 2, 1) := by decide +kernel
theorem dX4_shade_9 : decode cX4_shade 9 = .ok (.iload_n 3, 1) := by decide +kernel
theorem dX4_shade_10 : decode cX4_shade 10 = .ok (.invokestatic 40, 3) := by decide +kernel
theorem dX4_shade_13 : decode cX4_shade 13 = .ok (.ifCond .eq 7, 3) := by decide +kernel
theorem dX4_shade_16 : decode cX4_shade 16 = .ok (.iconst 0, 1) := by decide +kernel
theorem dX4_shade_17 : decode cX4_shade 17 = .ok (.goto 4, 3) := by decide +kernel
theorem dX4_shade_20 : decode cX4_shade 20 = .ok (.iconst 1, 1) := by decide +kernel
theorem dX4_shade_21 : decode cX4_shade 21 = .ok (.invokevirtual 52, 3) := by decide +kernel
theorem dX4_shade_24 : decode cX4_shade 24 = .ok (.ifCond .eq 22, 3) := by decide +kernel
theorem dX4_shade_27 : decode cX4_shade 27 = .ok (.aload_n 0, 1) := by decide +kernel
theorem dX4_shade_28 : decode cX4_shade 28 = .ok (.getfield 7, 3) := by decide +kernel
theorem dX4_shade_31 : decode cX4_shade 31 = .ok (.bipush 64, 2) := by decide +kernel
theorem dX4_shade_33 : decode cX4_shade 33 = .ok (.iload_n 1, 1) := by decide +kernel
theorem dX4_shade_34 : decode cX4_shade 34 = .ok (.imul, 1) := by decide +kernel
theorem dX4_shade_35 : decode cX4_shade 35 = .ok (.bipush 8, 2) := by decide +kernel
theorem dX4_shade_37 : decode cX4_shade 37 = .ok (.iload_n 3, 1) := by decide +kernel
theorem dX4_shade_38 : decode cX4_shade 38 = .ok (.imul, 1) := by decide +kernel
end
section
theorem dX4_shade_39 : decode cX4_shade 39 = .ok (.iadd, 1) := by decide +kernel
theorem dX4_shade_40 : decode cX4_shade 40 = .ok (.iload_n 2, 1) := by decide +kernel
theorem dX4_shade_41 : decode cX4_shade 41 = .ok (.iadd, 1) := by decide +kernel
theorem dX4_shade_42 : decode cX4_shade 42 = .ok (.iaload, 1) := by decide +kernel
theorem dX4_shade_43 : decode cX4_shade 43 = .ok (.goto 4, 3) := by decide +kernel
theorem dX4_shade_46 : decode cX4_shade 46 = .ok (.iconst 0, 1) := by decide +kernel
theorem dX4_shade_47 : decode cX4_shade 47 = .ok (.ireturn, 1) := by decide +kernel
set_option maxRecDepth 20000 in
theorem ggX4_setPart_X4_isTest : GoodIn wsX4_setPart wsX4_isTest := goodIn_r _ [6, 7, 8, 5, 9] (by decide +kernel) (by decide +kernel)
set_option maxRecDepth 20000 in
theorem gX4_setPart_X4_isTest : GoodIn wsX4_setPart (va_wsS RX4 44 yX4_isTest wsX4_isTest) := goodIn_app (goodIn_of _ (by decide +kernel)) ggX4_setPart_X4_isTest
set_option maxRecDepth 20000 in
theorem ggX4_setPart_X4_isBox : GoodIn wsX4_setPart wsX4_isBox := goodIn_r _ [12, 13, 14, 5, 15, 7, 8, 9] (by decide +kernel) (by decide +kernel)
set_option maxRecDepth 20000 in
theorem gX4_setPart_X4_isBox : GoodIn wsX4_setPart (va_wsS RX4 48 yX4_isBox wsX4_isBox) := goodIn_app (goodIn_of _ (by decide +kernel)) ggX4_setPart_X4_isBox
set_option maxRecDepth 20000 in
theorem ggX4_setPart_X4_goesWell : GoodIn wsX4_setPart wsX4_goesWell := goodIn_r _ [19, 20, 21, 22, 23, 24, 25, 26, 27, 28, 29, 30] (by decide +kernel) (by decide +kernel)
set_option maxRecDepth 20000 in
theorem gX4_setPart_X4_goesWell : GoodIn wsX4_setPart (wsV RX4 52 RX4 yX4_goesWell wsX4_goesWell) := goodIn_app (goodIn_of _ (by decide +kernel)) ggX4_setPart_X4_goesWell
theorem dX4_setPart_0 : decode cX4_setPart 0 = .ok (.aload_n 0, 1) := by decide +kernel
theorem dX4_setPart_1 : decode cX4_setPart 1 = .ok (.iload_n 1, 1) := by decide +kernel
theorem dX4_setPart_2 : decode cX4_setPart 2 = .ok (.invokestatic 44, 3) := by decide +kernel
theorem dX4_setPart_5 : decode cX4_setPart 5 = .ok (.ifCond .eq 19, 3) := by decide +kernel
theorem dX4_setPart_8 : decode cX4_setPart 8 = .ok (.iload_n 2, 1) := by decide +kernel
theorem dX4_setPart_9 : decode cX4_setPart 9 = .ok (.iload_n 3, 1) := by decide +kernel
theorem dX4_setPart_10 : decode cX4_setPart 10 = .ok (.iload 4, 2) := by decide +kernel
theorem dX4_setPart_12 : decode cX4_setPart 12 = .ok (.iload 5, 2) := by decide +kernel
theorem dX4_setPart_14 : decode cX4_setPart 14 = .ok (.invokestatic 48, 3) := by decide +kernel
theorem dX4_setPart_17 : decode cX4_setPart 17 = .ok (.ifCond .eq 7, 3) := by decide +kernel
theorem dX4_setPart_20 : decode cX4_setPart 20 = .ok (.iconst 0, 1) := by decide +kernel
theorem dX4_setPart_21 : decode cX4_setPart 21 = .ok (.goto 4, 3) := by decide +kernel
theorem dX4_setPart_24 : decode cX4_setPart 24 = .ok (.iconst 1, 1) := by decide +kernel
theorem dX4_setPart_25 : decode cX4_setPart 25 = .ok (.invokevirtual 52, 3) := by decide +kernel
theorem dX4_setPart_28 : decode cX4_setPart 28 = .ok (.ifCond .eq 58, 3) := by decide +kernel
theorem dX4_setPart_31 : decode cX4_setPart 31 = .ok (.aload_n 0, 1) := by decide +kernel
theorem dX4_setPart_32 : decode cX4_setPart 32 = .ok (.getfield 20, 3) := by decide +kernel
theorem dX4_setPart_35 : decode cX4_setPart 35 = .ok (.iconst 4, 1) := by decide +kernel
theorem dX4_setPart_36 : decode cX4_setPart 36 = .ok (.iload_n 1, 1) := by decide +kernel
theorem dX4_setPart_37 : decode cX4_setPart 37 = .ok (.imul, 1) := by decide +kernel
theorem dX4_setPart_38 : decode cX4_setPart 38 = .ok (.iload_n 2, 1) := by decide +kernel
theorem dX4_setPart_39 : decode cX4_setPart 39 = .ok (.iastore, 1) := by decide +kernel
theorem dX4_setPart_40 : decode cX4_setPart 40 = .ok (.aload_n 0, 1) := by decide +kernel
theorem dX4_setPart_41 : decode cX4_setPart 41 = .ok (.getfield 20, 3) := by decide +kernel
theorem dX4_setPart_44 : decode cX4_setPart 44 = .ok (.iconst 4, 1) := by decide +kernel
theorem dX4_setPart_45 : decode cX4_setPart 45 = .ok (.iload_n 1, 1) := by decide +kernel
theorem dX4_setPart_46 : decode cX4_setPart 46 = .ok (.imul, 1) := by decide +kernel
theorem dX4_setPart_47 : decode cX4_setPart 47 = .ok (.iconst 1, 1) := by decide +kernel
theorem dX4_setPart_48 : decode cX4_setPart 48 = .ok (.iadd, 1) := by decide +kernel
theorem dX4_setPart_49 : decode cX4_setPart 49 = .ok (.iload_n 3, 1) := by decide +kernel
theorem dX4_setPart_50 : decode cX4_setPart 50 = .ok (.iastore, 1) := by decide +kernel
theorem dX4_setPart_51 : decode cX4_setPart 51 = .ok (.aload_n 0, 1) := by decide +kernel
theorem dX4_setPart_52 : decode cX4_setPart 52 = .ok (.getfield 20, 3) := by decide +kernel
theorem dX4_setPart_55 : decode cX4_setPart 55 = .ok (.iconst 4, 1) := by decide +kernel
theorem dX4_setPart_56 : decode cX4_setPart 56 = .ok (.iload_n 1, 1) := by decide +kernel
theorem dX4_setPart_57 : decode cX4_setPart 57 = .ok (.imul, 1) := by decide +kernel
theorem dX4_setPart_58 : decode cX4_setPart 58 = .ok (.iconst 2, 1) := by decide +kernel
theorem dX4_setPart_59 : decode cX4_setPart 59 = .ok (.iadd, 1) := by decide +kernel
theorem dX4_setPart_60 : decode cX4_setPart 60 = .ok (.iload 4, 2) := by decide +kernel
theorem dX4_setPart_62 : decode cX4_setPart 62 = .ok (.iastore, 1) := by decide +kernel
theorem dX4_setPart_63 : decode cX4_setPart 63 = .ok (.aload_n 0, 1) := by decide +kernel
theorem dX4_setPart_64 : decode cX4_setPart 64 = .ok (.getfield 20, 3) := by decide +kernel
theorem dX4_setPart_67 : decode cX4_setPart 67 = .ok (.iconst 4, 1) := by decide +kernel
theorem dX4_setPart_68 : decode cX4_setPart 68 = .ok (.iload_n 1, 1) := by decide +kernel
theorem dX4_setPart_69 : decode cX4_setPart 69 = .ok (.imul, 1) := by decide +kernel
theorem dX4_setPart_70 : decode cX4_setPart 70 = .ok (.iconst 3, 1) := by decide +kernel
theorem dX4_setPart_71 : decode cX4_setPart 71 = .ok (.iadd, 1) := by decide +kernel
theorem dX4_setPart_72 : decode cX4_setPart 72 = .ok (.iload 5, 2) := by decide +kernel
theorem dX4_setPart_74 : decode cX4_setPart 74 = .ok (.iastore, 1) := by decide +kernel
theorem dX4_setPart_75 : decode cX4_setPart 75 = .ok (.aload_n 0, 1) := by decide +kernel
theorem dX4_setPart_76 : decode cX4_setPart 76 = .ok (.getfield 23, 3) := by decide +kernel
theorem dX4_setPart_79 : decode cX4_setPart 79 = .ok (.iconst 4, 1) := by decide +kernel
theorem dX4_setPart_80 : decode cX4_setPart 80 = .ok (.iload_n 1, 1) := by decide +kernel
theorem dX4_setPart_81 : decode cX4_setPart 81 = .ok (.imul, 1) := by decide +kernel
theorem dX4_setPart_82 : decode cX4_setPart 82 = .ok (.iconst 2, 1) := by decide +kernel
theorem dX4_setPart_83 : decode cX4_setPart 83 = .ok (.iadd, 1) := by decide +kernel
theorem dX4_setPart_84 : decode cX4_setPart 84 = .ok (.iconst 0, 1) := by decide +kernel
theorem dX4_setPart_85 : decode cX4_setPart 85 = .ok (.iastore, 1) := by decide +kernel
theorem dX4_setPart_86 : decode cX4_setPart 86 = .ok (.return_, 1) := by decide +kernel
set_option maxRecDepth 20000 in
theorem ggX4_setMask_X4_isTest : GoodIn wsX4_setMask wsX4_isTest := goodIn_r _ [6, 7, 8, 5, 9] (by decide +kernel) (by decide +kernel)
set_option maxRecDepth 20000 in
theorem gX4_setMask_X4_isTest : GoodIn wsX4_setMask (va_wsS RX4 44 yX4_isTest wsX4_isTest) := goodIn_app (goodIn_of _ (by decide +kernel)) ggX4_setMask_X4_isTest
set_option maxRecDepth 20000 in
theorem ggX4_setMask_X4_in : GoodIn wsX4_setMask wsX4_in := goodIn_r _ [9] (by decide +kernel) (by decide +kernel)
set_option maxRecDepth 20000 in
theorem gX4_setMask_X4_in : GoodIn wsX4_setMask (va_wsS RX4 36 yX4_in wsX4_in) := goodIn_app (goodIn_of _ (by decide +kernel)) ggX4_setMask_X4_in
set_option maxRecDepth 20000 in
theorem ggX4_setMask_X4_goesWell : GoodIn wsX4_setMask wsX4_goesWell := goodIn_r _ [13, 14, 15, 16, 17, 18, 19, 20, 21, 22, 23, 24] (by decide +kernel) (by decide +kernel)
set_option maxRecDepth 20000 in
theorem gX4_setMask_X4_goesWell : GoodIn wsX4_setMask (wsV RX4 52 RX4 yX4_goesWell wsX4_goesWell) := goodIn_app (goodIn_of _ (by decide +kernel)) ggX4_setMask_X4_goesWell
theorem dX4_setMask_0 : decode cX4_setMask 0 = .ok (.iload_n 1, 1) := by decide +kernel
theorem dX4_setMask_1 : decode cX4_setMask 1 = .ok (.invokestatic 44, 3) := by decide +kernel
theorem dX4_setMask_4 : decode cX4_setMask 4 = .ok (.ifCond .eq 51, 3) := by decide +kernel
theorem dX4_setMask_7 : decode cX4_setMask 7 = .ok (.iload_n 2, 1) := by decide +kernel
theorem dX4_setMask_8 : decode cX4_setMask 8 = .ok (.bipush (-8), 2) := by decide +kernel
theorem dX4_setMask_10 : decode cX4_setMask 10 = .ok (.bipush 8, 2) := by decide +kernel
theorem dX4_setMask_12 : decode cX4_setMask 12 = .ok (.invokestatic 36, 3) := by decide +kernel
theorem dX4_setMask_15 : decode cX4_setMask 15 = .ok (.ifCond .eq 40, 3) := by decide +kernel
theorem dX4_setMask_18 : decode cX4_setMask 18 = .ok (.iload_n 3, 1) := by decide +kernel
theorem dX4_setMask_19 : decode cX4_setMask 19 = .ok (.bipush (-8), 2) := by decide +kernel
theorem dX4_setMask_21 : decode cX4_setMask 21 = .ok (.bipush 8, 2) := by decide +kernel
theorem dX4_setMask_23 : decode cX4_setMask 23 = .ok (.invokestatic 36, 3) := by decide +kernel
theorem dX4_setMask_26 : decode cX4_setMask 26 = .ok (.ifCond .eq 29, 3) := by decide +kernel
theorem dX4_setMask_29 : decode cX4_setMask 29 = .ok (.iload 4, 2) := by decide +kernel
theorem dX4_setMask_31 : decode cX4_setMask 31 = .ok (.iconst 1, 1) := by decide +kernel
theorem dX4_setMask_32 : decode cX4_setMask 32 = .ok (.bipush 8, 2) := by decide +kernel
theorem dX4_setMask_34 : decode cX4_setMask 34 = .ok (.invokestatic 36, 3) := by decide +kernel
theorem dX4_setMask_37 : decode cX4_setMask 37 = .ok (.ifCond .eq 18, 3) := by decide +kernel
theorem dX4_setMask_40 : decode cX4_setMask 40 = .ok (.iload 5, 2) := by decide +kernel
theorem dX4_setMask_42 : decode cX4_setMask 42 = .ok (.iconst 1, 1) := by decide +kernel
theorem dX4_setMask_43 : decode cX4_setMask 43 = .ok (.bipush 8, 2) := by decide +kernel
theorem dX4_setMask_45 : decode cX4_setMask 45 = .ok (.invokestatic 36, 3) := by decide +kernel
theorem dX4_setMask_48 : decode cX4_setMask 48 = .ok (.ifCond .eq 7, 3) := by decide +kernel
theorem dX4_setMask_51 : decode cX4_setMask 51 = .ok (.iconst 1, 1) := by decide +kernel
theorem dX4_setMask_52 : decode cX4_setMask 52 = .ok (.goto 4, 3) := by decide +kernel
theorem dX4_setMask_55 : decode cX4_setMask 55 = .ok (.iconst 0, 1) := by decide +kernel
theorem dX4_setMask_56 : decode cX4_setMask 56 = .ok (.istore 6, 2) := by decide +kernel
theorem dX4_setMask_58 : decode cX4_setMask 58 = .ok (.aload_n 0, 1) := by decide +kernel
theorem dX4_setMask_59 : decode cX4_setMask 59 = .ok (.iload 6, 2) := by decide +kernel
theorem dX4_setMask_61 : decode cX4_setMask 61 = .ok (.ifCond .ne 7, 3) := by decide +kernel
theorem dX4_setMask_64 : decode cX4_setMask 64 = .ok (.iconst 1, 1) := by decide +kernel
theorem dX4_setMask_65 : decode cX4_setMask 65 = .ok (.goto 21, 3) := by decide +kernel
theorem dX4_setMask_68 : decode cX4_setMask 68 = .ok (.aload_n 0, 1) := by decide +kernel
theorem dX4_setMask_69 : decode cX4_setMask 69 = .ok (.getfield 20, 3) := by decide +kernel
theorem dX4_setMask_72 : decode cX4_setMask 72 = .ok (.iconst 4, 1) := by decide +kernel
theorem dX4_setMask_73 : decode cX4_setMask 73 = .ok (.iload_n 1, 1) := by decide +kernel
theorem dX4_setMask_74 : decode cX4_setMask 74 = .ok (.imul, 1) := by decide +kernel
theorem dX4_setMask_75 : decode cX4_setMask 75 = .ok (.iconst 2, 1) := by decide +kernel
theorem dX4_setMask_76 : decode cX4_setMask 76 = .ok (.iadd, 1) := by decide +kernel
theorem dX4_setMask_77 : decode cX4_setMask 77 = .ok (.iaload, 1) := by decide +kernel
theorem dX4_setMask_78 : decode cX4_setMask 78 = .ok (.ifCond .ne 7, 3) := by decide +kernel
theorem dX4_setMask_81 : decode cX4_setMask 81 = .ok (.iconst 2, 1) := by decide +kernel
theorem dX4_setMask_82 : decode cX4_setMask 82 = .ok (.goto 4, 3) := by decide +kernel
theorem dX4_setMask_85 : decode cX4_setMask 85 = .ok (.iconst 0, 1) := by decide +kernel
theorem dX4_setMask_86 : decode cX4_setMask 86 = .ok (.invokevirtual 52, 3) := by decide +kernel
theorem dX4_setMask_89 : decode cX4_setMask 89 = .ok (.ifCond .eq 47, 3) := by decide +kernel
theorem dX4_setMask_92 : decode cX4_setMask 92 = .ok (.aload_n 0, 1) := by decide +kernel
theorem dX4_setMask_93 : decode cX4_setMask 93 = .ok (.getfield 23, 3) := by decide +kernel
theorem dX4_setMask_96 : decode cX4_setMask 96 = .ok (.iconst 4, 1) := by decide +kernel
theorem dX4_setMask_97 : decode cX4_setMask 97 = .ok (.iload_n 1, 1) := by decide +kernel
theorem dX4_setMask_98 : decode cX4_setMask 98 = .ok (.imul, 1) := by decide +kernel
theorem dX4_setMask_99 : decode cX4_setMask 99 = .ok (.iload_n 2, 1) := by decide +kernel
theorem dX4_setMask_100 : decode cX4_setMask 100 = .ok (.iastore, 1) := by decide +kernel
theorem dX4_setMask_101 : decode cX4_setMask 101 = .ok (.aload_n 0, 1) := by decide +kernel
theorem dX4_setMask_102 : decode cX4_setMask 102 = .ok (.getfield 23, 3) := by decide +kernel
theorem dX4_setMask_105 : decode cX4_setMask 105 = .ok (.iconst 4, 1) := by decide +kernel
theorem dX4_setMask_106 : decode cX4_setMask 106 = .ok (.iload_n 1, 1) := by decide +kernel
theorem dX4_setMask_107 : decode cX4_setMask 107 = .ok (.imul, 1) := by decide +kernel
theorem dX4_setMask_108 : decode cX4_setMask 108 = .ok (.iconst 1, 1) := by decide +kernel
theorem dX4_setMask_109 : decode cX4_setMask 109 = .ok (.iadd, 1) := by decide +kernel
theorem dX4_setMask_110 : decode cX4_setMask 110 = .ok (.iload_n 3, 1) := by decide +kernel
theorem dX4_setMask_111 : decode cX4_setMask 111 = .ok (.iastore, 1) := by decide +kernel
theorem dX4_setMask_112 : decode cX4_setMask 112 = .ok (.aload_n 0, 1) := by decide +kernel
theorem dX4_setMask_113 : decode cX4_setMask 113 = .ok (.getfield 23, 3) := by decide +kernel
theorem dX4_setMask_116 : decode cX4_setMask 116 = .ok (.iconst 4, 1) := by decide +kernel
theorem dX4_setMask_117 : decode cX4_setMask 117 = .ok (.iload_n 1, 1) := by decide +kernel
theorem dX4_setMask_118 : decode cX4_setMask 118 = .ok (.imul, 1) := by decide +kernel
theorem dX4_setMask_119 : decode cX4_setMask 119 = .ok (.iconst 2, 1) := by decide +kernel
theorem dX4_setMask_120 : decode cX4_setMask 120 = .ok (.iadd, 1) := by decide +kernel
theorem dX4_setMask_121 : decode cX4_setMask 121 = .ok (.iload 4, 2) := by decide +kernel
theorem dX4_setMask_123 : decode cX4_setMask 123 = .ok (.iastore, 1) := by decide +kernel
theorem dX4_setMask_124 : decode cX4_setMask 124 = .ok (.aload_n 0, 1) := by decide +kernel
theorem dX4_setMask_125 : decode cX4_setMask 125 = .ok (.getfield 23, 3) := by decide +kernel
theorem dX4_setMask_128 : decode cX4_setMask 128 = .ok (.iconst 4, 1) := by decide +kernel
theorem dX4_setMask_129 : decode cX4_setMask 129 = .ok (.iload_n 1, 1) := by decide +kernel
theorem dX4_setMask_130 : decode cX4_setMask 130 = .ok (.imul, 1) := by decide +kernel
theorem dX4_setMask_131 : decode cX4_setMask 131 = .ok (.iconst 3, 1) := by decide +kernel
theorem dX4_setMask_132 : decode cX4_setMask 132 = .ok (.iadd, 1) := by decide +kernel
theorem dX4_setMask_133 : decode cX4_setMask 133 = .ok (.iload 5, 2) := by decide +kernel
theorem dX4_setMask_135 : decode cX4_setMask 135 = .ok (.iastore, 1) := by decide +kernel
theorem dX4_setMask_136 : decode cX4_setMask 136 = .ok (.return_, 1) := by decide +kernel
theorem dX4_placeOf_0 : decode cX4_placeOf 0 = .ok (.iconst 5, 1) := by decide +kernel
theorem dX4_placeOf_1 : decode cX4_placeOf 1 = .ok (.iload_n 0, 1) := by decide +kernel
theorem dX4_placeOf_2 : decode cX4_placeOf 2 = .ok (.imul, 1) := by decide +kernel
theorem dX4_placeOf_3 : decode cX4_placeOf 3 = .ok (.iload_n 1, 1) := by decide +kernel
theorem dX4_placeOf_4 : decode cX4_placeOf 4 = .ok (.iadd, 1) := by decide +kernel
theorem dX4_placeOf_5 : decode cX4_placeOf 5 = .ok (.ireturn, 1) := by decide +kernel
theorem dX4_baseOf_0 : decode cX4_baseOf 0 = .ok (.iconst 5, 1) := by decide +kernel
theorem dX4_baseOf_1 : decode cX4_baseOf 1 = .ok (.iconst 4, 1) := by decide +kernel
theorem dX4_baseOf_2 : decode cX4_baseOf 2 = .ok (.iload_n 0, 1) := by decide +kernel
theorem dX4_baseOf_3 : decode cX4_baseOf 3 = .ok (.iadd, 1) := by decide +kernel
theorem dX4_baseOf_4 : decode cX4_baseOf 4 = .ok (.iconst 1, 1) := by decide +kernel
theorem dX4_baseOf_5 : decode cX4_baseOf 5 = .ok (.isub, 1) := by decide +kernel
theorem dX4_baseOf_6 : decode cX4_baseOf 6 = .ok (.imul, 1) := by decide +kernel
theorem dX4_baseOf_7 : decode cX4_baseOf 7 = .ok (.iload_n 1, 1) := by decide +kernel
theorem dX4_baseOf_8 : decode cX4_baseOf 8 = .ok (.iadd, 1) := by decide +kernel
theorem dX4_baseOf_9 : decode cX4_baseOf 9 = .ok (.ireturn, 1) := by decide +kernel
theorem dX4_copy_0 : decode cX4_copy 0 = .ok (.aload_n 0, 1) := by decide +kernel
theorem dX4_copy_1 : decode cX4_copy 1 = .ok (.getfield 16, 3) := by decide +kernel
theorem dX4_copy_4 : decode cX4_copy 4 = .ok (.iload_n 2, 1) := by decide +kernel
theorem dX4_copy_5 : decode cX4_copy 5 = .ok (.aload_n 0, 1) := by decide +kernel
theorem dX4_copy_6 : decode cX4_copy 6 = .ok (.getfield 16, 3) := by decide +kernel
theorem dX4_copy_9 : decode cX4_copy 9 = .ok (.iload_n 1, 1) := by decide +kernel
theorem dX4_copy_10 : decode cX4_copy 10 = .ok (.baload, 1) := by decide +kernel
theorem dX4_copy_11 : decode cX4_copy 11 = .ok (.bastore, 1) := by decide +kernel
theorem dX4_copy_12 : decode cX4_copy 12 = .ok (.iconst 0, 1) := by decide +kernel
theorem dX4_copy_13 : decode cX4_copy 13 = .ok (.istore_n 3, 1) := by decide +kernel
theorem dX4_copy_14 : decode cX4_copy 14 = .ok (.iload_n 3, 1) := by decide +kernel
theorem dX4_copy_15 : decode cX4_copy 15 = .ok (.bipush 64, 2) := by decide +kernel
theorem dX4_copy_17 : decode cX4_copy 17 = .ok (.if_icmp .ge 31, 3) := by decide +kernel
theorem dX4_copy_20 : decode cX4_copy 20 = .ok (.aload_n 0, 1) := by decide +kernel
theorem dX4_copy_21 : decode cX4_copy 21 = .ok (.getfield 13, 3) := by decide +kernel
theorem dX4_copy_24 : decode cX4_copy 24 = .ok (.bipush 64, 2) := by decide +kernel
theorem dX4_copy_26 : decode cX4_copy 26 = .ok (.iload_n 2, 1) := by decide +kernel
theorem dX4_copy_27 : decode cX4_copy 27 = .ok (.imul, 1) := by decide +kernel
theorem dX4_copy_28 : decode cX4_copy 28 = .ok (.iload_n 3, 1) := by decide +kernel
theorem dX4_copy_29 : decode cX4_copy 29 = .ok (.iadd, 1) := by decide +kernel
theorem dX4_copy_30 : decode cX4_copy 30 = .ok (.aload_n 0, 1) := by decide +kernel
theorem dX4_copy_31 : decode cX4_copy 31 = .ok (.getfield 13, 3) := by decide +kernel
theorem dX4_copy_34 : decode cX4_copy 34 = .ok (.bipush 64, 2) := by decide +kernel
theorem dX4_copy_36 : decode cX4_copy 36 = .ok (.iload_n 1, 1) := by decide +kernel
theorem dX4_copy_37 : decode cX4_copy 37 = .ok (.imul, 1) := by decide +kernel
theorem dX4_copy_38 : decode cX4_copy 38 = .ok (.iload_n 3, 1) := by decide +kernel
theorem dX4_copy_39 : decode cX4_copy 39 = .ok (.iadd, 1) := by decide +kernel
theorem dX4_copy_40 : decode cX4_copy 40 = .ok (.iaload, 1) := by decide +kernel
theorem dX4_copy_41 : decode cX4_copy 41 = .ok (.iastore, 1) := by decide +kernel
theorem dX4_copy_42 : decode cX4_copy 42 = .ok (.iinc 3 1, 3) := by decide +kernel
theorem dX4_copy_45 : decode cX4_copy 45 = .ok (.goto (-31), 3) := by decide +kernel
theorem dX4_copy_48 : decode cX4_copy 48 = .ok (.return_, 1) := by decide +kernel
theorem dX4_areSame_0 : decode cX4_areSame 0 = .ok (.aload_n 0, 1) := by decide +kernel
theorem dX4_areSame_1 : decode cX4_areSame 1 = .ok (.getfield 16, 3) := by decide +kernel
theorem dX4_areSame_4 : decode cX4_areSame 4 = .ok (.iload_n 1, 1) := by decide +kernel
theorem dX4_areSame_5 : decode cX4_areSame 5 = .ok (.baload, 1) := by decide +kernel
theorem dX4_areSame_6 : decode cX4_areSame 6 = .ok (.aload_n 0, 1) := by decide +kernel
theorem dX4_areSame_7 : decode cX4_areSame 7 = .ok (.getfield 16, 3) := by decide +kernel
theorem dX4_areSame_10 : decode cX4_areSame 10 = .ok (.iload_n 2, 1) := by decide +kernel
theorem dX4_areSame_11 : decode cX4_areSame 11 = .ok (.baload, 1) := by decide +kernel
theorem dX4_areSame_12 : decode cX4_areSame 12 = .ok (.if_icmp .ne 7, 3) := by decide +kernel
theorem dX4_areSame_15 : decode cX4_areSame 15 = .ok (.iconst 1, 1) := by decide +kernel
theorem dX4_areSame_16 : decode cX4_areSame 16 = .ok (.goto 4, 3) := by decide +kernel
theorem dX4_areSame_19 : decode cX4_areSame 19 = .ok (.iconst 0, 1) := by decide +kernel
theorem dX4_areSame_20 : decode cX4_areSame 20 = .ok (.istore_n 3, 1) := by decide +kernel
theorem dX4_areSame_21 : decode cX4_areSame 21 = .ok (.iconst 0, 1) := by decide +kernel
theorem dX4_areSame_22 : decode cX4_areSame 22 = .ok (.istore 4, 2) := by decide +kernel
theorem dX4_areSame_24 : decode cX4_areSame 24 = .ok (.iload 4, 2) := by decide +kernel
theorem dX4_areSame_26 : decode cX4_areSame 26 = .ok (.bipush 64, 2) := by decide +kernel
theorem dX4_areSame_28 : decode cX4_areSame 28 = .ok (.if_icmp .ge 55, 3) := by decide +kernel
theorem dX4_areSame_31 : decode cX4_areSame 31 = .ok (.aload_n 0, 1) := by decide +kernel
theorem dX4_areSame_32 : decode cX4_areSame 32 = .ok (.getfield 16, 3) := by decide +kernel
theorem dX4_areSame_35 : decode cX4_areSame 35 = .ok (.iload_n 1, 1) := by decide +kernel
theorem dX4_areSame_36 : decode cX4_areSame 36 = .ok (.baload, 1) := by decide +kernel
theorem dX4_areSame_37 : decode cX4_areSame 37 = .ok (.ifCond .eq 46, 3) := by decide +kernel
theorem dX4_areSame_40 : decode cX4_areSame 40 = .ok (.iload_n 3, 1) := by decide +kernel
theorem dX4_areSame_41 : decode cX4_areSame 41 = .ok (.ifCond .eq 34, 3) := by decide +kernel
theorem dX4_areSame_44 : decode cX4_areSame 44 = .ok (.aload_n 0, 1) := by decide +kernel
theorem dX4_areSame_45 : decode cX4_areSame 45 = .ok (.getfield 13, 3) := by decide +kernel
theorem dX4_areSame_48 : decode cX4_areSame 48 = .ok (.bipush 64, 2) := by decide +kernel
theorem dX4_areSame_50 : decode cX4_areSame 50 = .ok (.iload_n 1, 1) := by decide +kernel
theorem dX4_areSame_51 : decode cX4_areSame 51 = .ok (.imul, 1) := by decide +kernel
theorem dX4_areSame_52 : decode cX4_areSame 52 = .ok (.iload 4, 2) := by decide +kernel
theorem dX4_areSame_54 : decode cX4_areSame 54 = .ok (.iadd, 1) := by decide +kernel
theorem dX4_areSame_55 : decode cX4_areSame 55 = .ok (.iaload, 1) := by decide +kernel
theorem dX4_areSame_56 : decode cX4_areSame 56 = .ok (.aload_n 0, 1) := by decide +kernel
theorem dX4_areSame_57 : decode cX4_areSame 57 = .ok (.getfield 13, 3) := by decide +kernel
theorem dX4_areSame_60 : decode cX4_areSame 60 = .ok (.bipush 64, 2) := by decide +kernel
theorem dX4_areSame_62 : decode cX4_areSame 62 = .ok (.iload_n 2, 1) := by decide +kernel
theorem dX4_areSame_63 : decode cX4_areSame 63 = .ok (.imul, 1) := by decide +kernel
theorem dX4_areSame_64 : decode cX4_areSame 64 = .ok (.iload 4, 2) := by decide +kernel
theorem dX4_areSame_66 : decode cX4_areSame 66 = .ok (.iadd, 1) := by decide +kernel
theorem dX4_areSame_67 : decode cX4_areSame 67 = .ok (.iaload, 1) := by decide +kernel
theorem dX4_areSame_68 : decode cX4_areSame 68 = .ok (.if_icmp .ne 7, 3) := by decide +kernel
theorem dX4_areSame_71 : decode cX4_areSame 71 = .ok (.iconst 1, 1) := by decide +kernel
theorem dX4_areSame_72 : decode cX4_areSame 72 = .ok (.goto 4, 3) := by decide +kernel
theorem dX4_areSame_75 : decode cX4_areSame 75 = .ok (.iconst 0, 1) := by decide +kernel
theorem dX4_areSame_76 : decode cX4_areSame 76 = .ok (.istore_n 3, 1) := by decide +kernel
theorem dX4_areSame_77 : decode cX4_areSame 77 = .ok (.iinc 4 1, 3) := by decide +kernel
theorem dX4_areSame_80 : decode cX4_areSame 80 = .ok (.goto (-56), 3) := by decide +kernel
theorem dX4_areSame_83 : decode cX4_areSame 83 = .ok (.iload_n 3, 1) := by decide +kernel
theorem dX4_areSame_84 : decode cX4_areSame 84 = .ok (.ireturn, 1) := by decide +kernel
set_option maxRecDepth 20000 in
theorem ggX4_approve_X4_in : GoodIn wsX4_approve wsX4_in := goodIn_r _ [7] (by decide +kernel) (by decide +kernel)
set_option maxRecDepth 20000 in
theorem gX4_approve_X4_in : GoodIn wsX4_approve (va_wsS RX4 36 yX4_in wsX4_in) := goodIn_app (goodIn_of _ (by decide +kernel)) ggX4_approve_X4_in
set_option maxRecDepth 20000 in
theorem ggX4_approve_X4_isTest : GoodIn wsX4_approve wsX4_isTest := goodIn_r _ [10, 4, 5, 6, 7] (by decide +kernel) (by decide +kernel)
set_option maxRecDepth 20000 in
theorem gX4_approve_X4_isTest : GoodIn wsX4_approve (va_wsS RX4 44 yX4_isTest wsX4_isTest) := goodIn_app (goodIn_of _ (by decide +kernel)) ggX4_approve_X4_isTest
set_option maxRecDepth 20000 in
theorem ggX4_approve_X4_goesWell : GoodIn wsX4_approve wsX4_goesWell := goodIn_r _ [14, 15, 19, 20, 21, 22, 23, 24, 25, 26, 27, 28] (by decide +kernel) (by decide +kernel)
set_option maxRecDepth 20000 in
theorem gX4_approve_X4_goesWell : GoodIn wsX4_approve (wsV RX4 52 RX4 yX4_goesWell wsX4_goesWell) := goodIn_app (goodIn_of _ (by decide +kernel)) ggX4_approve_X4_goesWell
set_option maxRecDepth 20000 in
theorem ggX4_approve_X4_placeOf : GoodIn wsX4_approve wsX4_placeOf := goodIn_r _ [18] (by decide +kernel) (by decide +kernel)
set_option maxRecDepth 20000 in
theorem gX4_approve_X4_placeOf : GoodIn wsX4_approve (va_wsS RX4 55 yX4_placeOf wsX4_placeOf) := goodIn_app (goodIn_of _ (by decide +kernel)) ggX4_approve_X4_placeOf
theorem dX4_approve_0 : decode cX4_approve 0 = .ok (.aload_n 0, 1) := by decide +kernel
theorem dX4_approve_1 : decode cX4_approve 1 = .ok (.iload_n 1, 1) := by decide +kernel
theorem dX4_approve_2 : decode cX4_approve 2 = .ok (.iconst 0, 1) := by decide +kernel
theorem dX4_approve_3 : decode cX4_approve 3 = .ok (.iconst 3, 1) := by decide +kernel
theorem dX4_approve_4 : decode cX4_approve 4 = .ok (.invokestatic 36, 3) := by decide +kernel
theorem dX4_approve_7 : decode cX4_approve 7 = .ok (.ifCond .eq 14, 3) := by decide +kernel
theorem dX4_approve_10 : decode cX4_approve 10 = .ok (.iload_n 2, 1) := by decide +kernel
theorem dX4_approve_11 : decode cX4_approve 11 = .ok (.invokestatic 44, 3) := by decide +kernel
theorem dX4_approve_14 : decode cX4_approve 14 = .ok (.ifCond .eq 7, 3) := by decide +kernel
theorem dX4_approve_17 : decode cX4_approve 17 = .ok (.iconst 0, 1) := by decide +kernel
theorem dX4_approve_18 : decode cX4_approve 18 = .ok (.goto 4, 3) := by decide +kernel
theorem dX4_approve_21 : decode cX4_approve 21 = .ok (.iconst 1, 1) := by decide +kernel
theorem dX4_approve_22 : decode cX4_approve 22 = .ok (.invokevirtual 52, 3) := by decide +kernel
theorem dX4_approve_25 : decode cX4_approve 25 = .ok (.ifCond .ne 5, 3) := by decide +kernel
theorem dX4_approve_28 : decode cX4_approve 28 = .ok (.iconst 0, 1) := by decide +kernel
theorem dX4_approve_29 : decode cX4_approve 29 = .ok (.ireturn, 1) := by decide +kernel
theorem dX4_approve_30 : decode cX4_approve 30 = .ok (.iload_n 1, 1) := by decide +kernel
theorem dX4_approve_31 : decode cX4_approve 31 = .ok (.iload_n 2, 1) := by decide +kernel
theorem dX4_approve_32 : decode cX4_approve 32 = .ok (.invokestatic 55, 3) := by decide +kernel
theorem dX4_approve_35 : decode cX4_approve 35 = .ok (.istore_n 3, 1) := by decide +kernel
theorem dX4_approve_36 : decode cX4_approve 36 = .ok (.aload_n 0, 1) := by decide +kernel
theorem dX4_approve_37 : decode cX4_approve 37 = .ok (.getfield 16, 3) := by decide +kernel
theorem dX4_approve_40 : decode cX4_approve 40 = .ok (.iload_n 3, 1) := by decide +kernel
theorem dX4_approve_41 : decode cX4_approve 41 = .ok (.baload, 1) := by decide +kernel
theorem dX4_approve_42 : decode cX4_approve 42 = .ok (.istore 4, 2) := by decide +kernel
theorem dX4_approve_44 : decode cX4_approve 44 = .ok (.aload_n 0, 1) := by decide +kernel
theorem dX4_approve_45 : decode cX4_approve 45 = .ok (.getfield 16, 3) := by decide +kernel
theorem dX4_approve_48 : decode cX4_approve 48 = .ok (.iload_n 3, 1) := by decide +kernel
theorem dX4_approve_49 : decode cX4_approve 49 = .ok (.iconst 1, 1) := by decide +kernel
theorem dX4_approve_50 : decode cX4_approve 50 = .ok (.bastore, 1) := by decide +kernel
theorem dX4_approve_51 : decode cX4_approve 51 = .ok (.iconst 0, 1) := by decide +kernel
theorem dX4_approve_52 : decode cX4_approve 52 = .ok (.istore 5, 2) := by decide +kernel
theorem dX4_approve_54 : decode cX4_approve 54 = .ok (.iload 5, 2) := by decide +kernel
theorem dX4_approve_56 : decode cX4_approve 56 = .ok (.bipush 64, 2) := by decide +kernel
theorem dX4_approve_58 : decode cX4_approve 58 = .ok (.if_icmp .ge 33, 3) := by decide +kernel
theorem dX4_approve_61 : decode cX4_approve 61 = .ok (.aload_n 0, 1) := by decide +kernel
theorem dX4_approve_62 : decode cX4_approve 62 = .ok (.getfield 13, 3) := by decide +kernel
theorem dX4_approve_65 : decode cX4_approve 65 = .ok (.bipush 64, 2) := by decide +kernel
theorem dX4_approve_67 : decode cX4_approve 67 = .ok (.iload_n 3, 1) := by decide +kernel
theorem dX4_approve_68 : decode cX4_approve 68 = .ok (.imul, 1) := by decide +kernel
theorem dX4_approve_69 : decode cX4_approve 69 = .ok (.iload 5, 2) := by decide +kernel
theorem dX4_approve_71 : decode cX4_approve 71 = .ok (.iadd, 1) := by decide +kernel
theorem dX4_approve_72 : decode cX4_approve 72 = .ok (.aload_n 0, 1) := by decide +kernel
theorem dX4_approve_73 : decode cX4_approve 73 = .ok (.getfield 7, 3) := by decide +kernel
theorem dX4_approve_76 : decode cX4_approve 76 = .ok (.bipush 64, 2) := by decide +kernel
theorem dX4_approve_78 : decode cX4_approve 78 = .ok (.iload_n 2, 1) := by decide +kernel
theorem dX4_approve_79 : decode cX4_approve 79 = .ok (.imul, 1) := by decide +kernel
theorem dX4_approve_80 : decode cX4_approve 80 = .ok (.iload 5, 2) := by decide +kernel
theorem dX4_approve_82 : decode cX4_approve 82 = .ok (.iadd, 1) := by decide +kernel
theorem dX4_approve_83 : decode cX4_approve 83 = .ok (.iaload, 1) := by decide +kernel
theorem dX4_approve_84 : decode cX4_approve 84 = .ok (.iastore, 1) := by decide +kernel
theorem dX4_approve_85 : decode cX4_approve 85 = .ok (.iinc 5 1, 3) := by decide +kernel
theorem dX4_approve_88 : decode cX4_approve 88 = .ok (.goto (-34), 3) := by decide +kernel
theorem dX4_approve_91 : decode cX4_approve 91 = .ok (.iload 4, 2) := by decide +kernel
theorem dX4_approve_93 : decode cX4_approve 93 = .ok (.ireturn, 1) := by decide +kernel
set_option maxRecDepth 20000 in
theorem ggX4_begin_X4_in : GoodIn wsX4_begin wsX4_in := goodIn_r _ [5] (by decide +kernel) (by decide +kernel)
set_option maxRecDepth 20000 in
theorem gX4_begin_X4_in : GoodIn wsX4_begin (va_wsS RX4 36 yX4_in wsX4_in) := goodIn_app (goodIn_of _ (by decide +kernel)) ggX4_begin_X4_in
set_option maxRecDepth 20000 in
theorem ggX4_begin_X4_goesWell : GoodIn wsX4_begin wsX4_goesWell := goodIn_r _ [9, 10, 22, 23, 24, 25, 26, 27, 28, 29, 30, 31] (by decide +kernel) (by decide +kernel)
set_option maxRecDepth 20000 in
theorem gX4_begin_X4_goesWell : GoodIn wsX4_begin (wsV RX4 52 RX4 yX4_goesWell wsX4_goesWell) := goodIn_app (goodIn_of _ (by decide +kernel)) ggX4_begin_X4_goesWell
set_option maxRecDepth 20000 in
theorem ggX4_begin_X4_placeOf : GoodIn wsX4_begin wsX4_placeOf := goodIn_r _ [13] (by decide +kernel) (by decide +kernel)
set_option maxRecDepth 20000 in
theorem gX4_begin_X4_placeOf : GoodIn wsX4_begin (va_wsS RX4 55 yX4_placeOf wsX4_placeOf) := goodIn_app (goodIn_of _ (by decide +kernel)) ggX4_begin_X4_placeOf
set_option maxRecDepth 20000 in
theorem ggX4_begin_X4_copy : GoodIn wsX4_begin wsX4_copy := goodIn_r _ [17, 1, 18, 22, 23, 24, 25, 26, 27, 28, 29, 30, 31] (by decide +kernel) (by decide +kernel)
set_option maxRecDepth 20000 in
theorem gX4_begin_X4_copy : GoodIn wsX4_begin (wsV RX4 59 RX4 yX4_copy wsX4_copy) := goodIn_app (goodIn_of _ (by decide +kernel)) ggX4_begin_X4_copy
set_option maxRecDepth 20000 in
theorem ggX4_begin_X4_baseOf : GoodIn wsX4_begin wsX4_baseOf := goodIn_r _ [21] (by decide +kernel) (by decide +kernel)
set_option maxRecDepth 20000 in
theorem gX4_begin_X4_baseOf : GoodIn wsX4_begin (va_wsS RX4 63 yX4_baseOf wsX4_baseOf) := goodIn_app (goodIn_of _ (by decide +kernel)) ggX4_begin_X4_baseOf
theorem dX4_begin_0 : decode cX4_begin 0 = .ok (.aload_n 0, 1) := by decide +kernel
theorem dX4_begin_1 : decode cX4_begin 1 = .ok (.iload_n 1, 1) := by decide +kernel
theorem dX4_begin_2 : decode cX4_begin 2 = .ok (.iconst 1, 1) := by decide +kernel
theorem dX4_begin_3 : decode cX4_begin 3 = .ok (.iconst 3, 1) := by decide +kernel
theorem dX4_begin_4 : decode cX4_begin 4 = .ok (.invokestatic 36, 3) := by decide +kernel
theorem dX4_begin_7 : decode cX4_begin 7 = .ok (.ifCond .eq 7, 3) := by decide +kernel
theorem dX4_begin_10 : decode cX4_begin 10 = .ok (.iconst 0, 1) := by decide +kernel
theorem dX4_begin_11 : decode cX4_begin 11 = .ok (.goto 4, 3) := by decide +kernel
theorem dX4_begin_14 : decode cX4_begin 14 = .ok (.iconst 1, 1) := by decide +kernel
theorem dX4_begin_15 : decode cX4_begin 15 = .ok (.invokevirtual 52, 3) := by decide +kernel
theorem dX4_begin_18 : decode cX4_begin 18 = .ok (.ifCond .ne 5, 3) := by decide +kernel
theorem dX4_begin_21 : decode cX4_begin 21 = .ok (.iconst 0, 1) := by decide +kernel
theorem dX4_begin_22 : decode cX4_begin 22 = .ok (.ireturn, 1) := by decide +kernel
theorem dX4_begin_23 : decode cX4_begin 23 = .ok (.iconst 0, 1) := by decide +kernel
theorem dX4_begin_24 : decode cX4_begin 24 = .ok (.istore_n 2, 1) := by decide +kernel
theorem dX4_begin_25 : decode cX4_begin 25 = .ok (.iconst 0, 1) := by decide +kernel
theorem dX4_begin_26 : decode cX4_begin 26 = .ok (.istore_n 3, 1) := by decide +kernel
theorem dX4_begin_27 : decode cX4_begin 27 = .ok (.iload_n 3, 1) := by decide +kernel
theorem dX4_begin_28 : decode cX4_begin 28 = .ok (.iconst 5, 1) := by decide +kernel
theorem dX4_begin_29 : decode cX4_begin 29 = .ok (.if_icmp .ge 58, 3) := by decide +kernel
theorem dX4_begin_32 : decode cX4_begin 32 = .ok (.aload_n 0, 1) := by decide +kernel
theorem dX4_begin_33 : decode cX4_begin 33 = .ok (.iconst 0, 1) := by decide +kernel
theorem dX4_begin_34 : decode cX4_begin 34 = .ok (.iload_n 3, 1) := by decide +kernel
theorem dX4_begin_35 : decode cX4_begin 35 = .ok (.invokestatic 55, 3) := by decide +kernel
theorem dX4_begin_38 : decode cX4_begin 38 = .ok (.iload_n 1, 1) := by decide +kernel
theorem dX4_begin_39 : decode cX4_begin 39 = .ok (.iload_n 3, 1) := by decide +kernel
theorem dX4_begin_40 : decode cX4_begin 40 = .ok (.invokestatic 55, 3) := by decide +kernel
theorem dX4_begin_43 : decode cX4_begin 43 = .ok (.invokevirtual 59, 3) := by decide +kernel
theorem dX4_begin_46 : decode cX4_begin 46 = .ok (.aload_n 0, 1) := by decide +kernel
theorem dX4_begin_47 : decode cX4_begin 47 = .ok (.iconst 0, 1) := by decide +kernel
theorem dX4_begin_48 : decode cX4_begin 48 = .ok (.iload_n 3, 1) := by decide +kernel
theorem dX4_begin_49 : decode cX4_begin 49 = .ok (.invokestatic 55, 3) := by decide +kernel
theorem dX4_begin_52 : decode cX4_begin 52 = .ok (.iload_n 1, 1) := by decide +kernel
theorem dX4_begin_53 : decode cX4_begin 53 = .ok (.iload_n 3, 1) := by decide +kernel
theorem dX4_begin_54 : decode cX4_begin 54 = .ok (.invokestatic 63, 3) := by decide +kernel
theorem dX4_begin_57 : decode cX4_begin 57 = .ok (.invokevirtual 59, 3) := by decide +kernel
theorem dX4_begin_60 : decode cX4_begin 60 = .ok (.iload_n 2, 1) := by decide +kernel
theorem dX4_begin_61 : decode cX4_begin 61 = .ok (.aload_n 0, 1) := by decide +kernel
theorem dX4_begin_62 : decode cX4_begin 62 = .ok (.getfield 16, 3) := by decide +kernel
theorem dX4_begin_65 : decode cX4_begin 65 = .ok (.iconst 0, 1) := by decide +kernel
theorem dX4_begin_66 : decode cX4_begin 66 = .ok (.iload_n 3, 1) := by decide +kernel
theorem dX4_begin_67 : decode cX4_begin 67 = .ok (.invokestatic 55, 3) := by decide +kernel
theorem dX4_begin_70 : decode cX4_begin 70 = .ok (.baload, 1) := by decide +kernel
theorem dX4_begin_71 : decode cX4_begin 71 = .ok (.ifCond .eq 7, 3) := by decide +kernel
theorem dX4_begin_74 : decode cX4_begin 74 = .ok (.iconst 1, 1) := by decide +kernel
theorem dX4_begin_75 : decode cX4_begin 75 = .ok (.goto 4, 3) := by decide +kernel
theorem dX4_begin_78 : decode cX4_begin 78 = .ok (.iconst 0, 1) := by decide +kernel
theorem dX4_begin_79 : decode cX4_begin 79 = .ok (.iadd, 1) := by decide +kernel
theorem dX4_begin_80 : decode cX4_begin 80 = .ok (.istore_n 2, 1) := by decide +kernel
theorem dX4_begin_81 : decode cX4_begin 81 = .ok (.iinc 3 1, 3) := by decide +kernel
theorem dX4_begin_84 : decode cX4_begin 84 = .ok (.goto (-57), 3) := by decide +kernel
theorem dX4_begin_87 : decode cX4_begin 87 = .ok (.iload_n 2, 1) := by decide +kernel
theorem dX4_begin_88 : decode cX4_begin 88 = .ok (.ireturn, 1) := by decide +kernel
set_option maxRecDepth 20000 in
theorem ggX4_join_X4_in : GoodIn wsX4_join wsX4_in := goodIn_r _ [4] (by decide +kernel) (by decide +kernel)
set_option maxRecDepth 20000 in
theorem gX4_join_X4_in : GoodIn wsX4_join (va_wsS RX4 36 yX4_in wsX4_in) := goodIn_app (goodIn_of _ (by decide +kernel)) ggX4_join_X4_in
set_option maxRecDepth 20000 in
theorem ggX4_join_X4_goesWell : GoodIn wsX4_join wsX4_goesWell := goodIn_r _ [8, 9, 26, 27, 28, 29, 30, 31, 32, 33, 34, 35] (by decide +kernel) (by decide +kernel)
set_option maxRecDepth 20000 in
theorem gX4_join_X4_goesWell : GoodIn wsX4_join (wsV RX4 52 RX4 yX4_goesWell wsX4_goesWell) := goodIn_app (goodIn_of _ (by decide +kernel)) ggX4_join_X4_goesWell
set_option maxRecDepth 20000 in
theorem ggX4_join_X4_placeOf : GoodIn wsX4_join wsX4_placeOf := goodIn_r _ [12] (by decide +kernel) (by decide +kernel)
set_option maxRecDepth 20000 in
theorem gX4_join_X4_placeOf : GoodIn wsX4_join (va_wsS RX4 55 yX4_placeOf wsX4_placeOf) := goodIn_app (goodIn_of _ (by decide +kernel)) ggX4_join_X4_placeOf
set_option maxRecDepth 20000 in
theorem ggX4_join_X4_baseOf : GoodIn wsX4_join wsX4_baseOf := goodIn_r _ [15] (by decide +kernel) (by decide +kernel)
set_option maxRecDepth 20000 in
theorem gX4_join_X4_baseOf : GoodIn wsX4_join (va_wsS RX4 63 yX4_baseOf wsX4_baseOf) := goodIn_app (goodIn_of _ (by decide +kernel)) ggX4_join_X4_baseOf
set_option maxRecDepth 20000 in
theorem ggX4_join_X4_areSame : GoodIn wsX4_join wsX4_areSame := goodIn_r _ [19, 20, 21, 26, 27, 28, 29, 30, 31, 32, 33, 34, 35] (by decide +kernel) (by decide +kernel)
set_option maxRecDepth 20000 in
theorem gX4_join_X4_areSame : GoodIn wsX4_join (wsV RX4 66 RX4 yX4_areSame wsX4_areSame) := goodIn_app (goodIn_of _ (by decide +kernel)) ggX4_join_X4_areSame
set_option maxRecDepth 20000 in
theorem ggX4_join_X4_copy : GoodIn wsX4_join wsX4_copy := goodIn_r _ [25, 20, 21, 26, 27, 28, 29, 30, 31, 32, 33, 34, 35] (by decide +kernel) (by decide +kernel)
set_option maxRecDepth 20000 in
theorem gX4_join_X4_copy : GoodIn wsX4_join (wsV RX4 59 RX4 yX4_copy wsX4_copy) := goodIn_app (goodIn_of _ (by decide +kernel)) ggX4_join_X4_copy
theorem dX4_join_0 : decode cX4_join 0 = .ok (.aload_n 0, 1) := by decide +kernel
theorem dX4_join_1 : decode cX4_join 1 = .ok (.iload_n 1, 1) := by decide +kernel
theorem dX4_join_2 : decode cX4_join 2 = .ok (.iconst 1, 1) := by decide +kernel
theorem dX4_join_3 : decode cX4_join 3 = .ok (.iconst 3, 1) := by decide +kernel
theorem dX4_join_4 : decode cX4_join 4 = .ok (.invokestatic 36, 3) := by decide +kernel
theorem dX4_join_7 : decode cX4_join 7 = .ok (.ifCond .eq 7, 3) := by decide +kernel
theorem dX4_join_10 : decode cX4_join 10 = .ok (.iconst 0, 1) := by decide +kernel
theorem dX4_join_11 : decode cX4_join 11 = .ok (.goto 4, 3) := by decide +kernel
theorem dX4_join_14 : decode cX4_join 14 = .ok (.iconst 1, 1) := by decide +kernel
theorem dX4_join_15 : decode cX4_join 15 = .ok (.invokevirtual 52, 3) := by decide +kernel
theorem dX4_join_18 : decode cX4_join 18 = .ok (.ifCond .ne 5, 3) := by decide +kernel
theorem dX4_join_21 : decode cX4_join 21 = .ok (.iconst 0, 1) := by decide +kernel
theorem dX4_join_22 : decode cX4_join 22 = .ok (.ireturn, 1) := by decide +kernel
theorem dX4_join_23 : decode cX4_join 23 = .ok (.iconst 0, 1) := by decide +kernel
theorem dX4_join_24 : decode cX4_join 24 = .ok (.istore_n 2, 1) := by decide +kernel
theorem dX4_join_25 : decode cX4_join 25 = .ok (.iconst 0, 1) := by decide +kernel
theorem dX4_join_26 : decode cX4_join 26 = .ok (.istore_n 3, 1) := by decide +kernel
theorem dX4_join_27 : decode cX4_join 27 = .ok (.iload_n 3, 1) := by decide +kernel
theorem dX4_join_28 : decode cX4_join 28 = .ok (.iconst 5, 1) := by decide +kernel
theorem dX4_join_29 : decode cX4_join 29 = .ok (.if_icmp .ge 122, 3) := by decide +kernel
theorem dX4_join_32 : decode cX4_join 32 = .ok (.iconst 0, 1) := by decide +kernel
theorem dX4_join_33 : decode cX4_join 33 = .ok (.iload_n 3, 1) := by decide +kernel
theorem dX4_join_34 : decode cX4_join 34 = .ok (.invokestatic 55, 3) := by decide +kernel
theorem dX4_join_37 : decode cX4_join 37 = .ok (.istore 4, 2) := by decide +kernel
theorem dX4_join_39 : decode cX4_join 39 = .ok (.iload_n 1, 1) := by decide +kernel
theorem dX4_join_40 : decode cX4_join 40 = .ok (.iload_n 3, 1) := by decide +kernel
theorem dX4_join_41 : decode cX4_join 41 = .ok (.invokestatic 55, 3) := by decide +kernel
theorem dX4_join_44 : decode cX4_join 44 = .ok (.istore 5, 2) := by decide +kernel
theorem dX4_join_46 : decode cX4_join 46 = .ok (.iload_n 1, 1) := by decide +kernel
theorem dX4_join_47 : decode cX4_join 47 = .ok (.iload_n 3, 1) := by decide +kernel
theorem dX4_join_48 : decode cX4_join 48 = .ok (.invokestatic 63, 3) := by decide +kernel
theorem dX4_join_51 : decode cX4_join 51 = .ok (.istore 6, 2) := by decide +kernel
theorem dX4_join_53 : decode cX4_join 53 = .ok (.aload_n 0, 1) := by decide +kernel
theorem dX4_join_54 : decode cX4_join 54 = .ok (.iload 5, 2) := by decide +kernel
theorem dX4_join_56 : decode cX4_join 56 = .ok (.iload 6, 2) := by decide +kernel
theorem dX4_join_58 : decode cX4_join 58 = .ok (.invokevirtual 66, 3) := by decide +kernel
theorem dX4_join_61 : decode cX4_join 61 = .ok (.ifCond .ne 7, 3) := by decide +kernel
theorem dX4_join_64 : decode cX4_join 64 = .ok (.iconst 1, 1) := by decide +kernel
theorem dX4_join_65 : decode cX4_join 65 = .ok (.goto 4, 3) := by decide +kernel
theorem dX4_join_68 : decode cX4_join 68 = .ok (.iconst 0, 1) := by decide +kernel
theorem dX4_join_69 : decode cX4_join 69 = .ok (.istore 7, 2) := by decide +kernel
theorem dX4_join_71 : decode cX4_join 71 = .ok (.aload_n 0, 1) := by decide +kernel
theorem dX4_join_72 : decode cX4_join 72 = .ok (.iload 4, 2) := by decide +kernel
theorem dX4_join_74 : decode cX4_join 74 = .ok (.iload 6, 2) := by decide +kernel
theorem dX4_join_76 : decode cX4_join 76 = .ok (.invokevirtual 66, 3) := by decide +kernel
theorem dX4_join_79 : decode cX4_join 79 = .ok (.istore 8, 2) := by decide +kernel
theorem dX4_join_81 : decode cX4_join 81 = .ok (.iload 7, 2) := by decide +kernel
theorem dX4_join_83 : decode cX4_join 83 = .ok (.ifCond .eq 16, 3) := by decide +kernel
theorem dX4_join_86 : decode cX4_join 86 = .ok (.iload 8, 2) := by decide +kernel
theorem dX4_join_88 : decode cX4_join 88 = .ok (.ifCond .eq 11, 3) := by decide +kernel
theorem dX4_join_91 : decode cX4_join 91 = .ok (.aload_n 0, 1) := by decide +kernel
theorem dX4_join_92 : decode cX4_join 92 = .ok (.iload 5, 2) := by decide +kernel
theorem dX4_join_94 : decode cX4_join 94 = .ok (.iload 4, 2) := by decide +kernel
theorem dX4_join_96 : decode cX4_join 96 = .ok (.invokevirtual 59, 3) := by decide +kernel
theorem dX4_join_99 : decode cX4_join 99 = .ok (.iload 7, 2) := by decide +kernel
theorem dX4_join_101 : decode cX4_join 101 = .ok (.ifCond .eq 28, 3) := by decide +kernel
theorem dX4_join_104 : decode cX4_join 104 = .ok (.iload 8, 2) := by decide +kernel
theorem dX4_join_106 : decode cX4_join 106 = .ok (.ifCond .ne 23, 3) := by decide +kernel
theorem dX4_join_109 : decode cX4_join 109 = .ok (.aload_n 0, 1) := by decide +kernel
theorem dX4_join_110 : decode cX4_join 110 = .ok (.iload 4, 2) := by decide +kernel
theorem dX4_join_112 : decode cX4_join 112 = .ok (.iload 5, 2) := by decide +kernel
theorem dX4_join_114 : decode cX4_join 114 = .ok (.invokevirtual 66, 3) := by decide +kernel
theorem dX4_join_117 : decode cX4_join 117 = .ok (.ifCond .ne 12, 3) := by decide +kernel
theorem dX4_join_120 : decode cX4_join 120 = .ok (.iload_n 2, 1) := by decide +kernel
theorem dX4_join_121 : decode cX4_join 121 = .ok (.iconst 1, 1) := by decide +kernel
theorem dX4_join_122 : decode cX4_join 122 = .ok (.iload_n 3, 1) := by decide +kernel
theorem dX4_join_123 : decode cX4_join 123 = .ok (.ishl, 1) := by decide +kernel
theorem dX4_join_124 : decode cX4_join 124 = .ok (.ior, 1) := by decide +kernel
theorem dX4_join_125 : decode cX4_join 125 = .ok (.istore_n 2, 1) := by decide +kernel
theorem dX4_join_126 : decode cX4_join 126 = .ok (.goto 19, 3) := by decide +kernel
theorem dX4_join_129 : decode cX4_join 129 = .ok (.aload_n 0, 1) := by decide +kernel
theorem dX4_join_130 : decode cX4_join 130 = .ok (.iload 4, 2) := by decide +kernel
theorem dX4_join_132 : decode cX4_join 132 = .ok (.iload 6, 2) := by decide +kernel
theorem dX4_join_134 : decode cX4_join 134 = .ok (.invokevirtual 59, 3) := by decide +kernel
theorem dX4_join_137 : decode cX4_join 137 = .ok (.aload_n 0, 1) := by decide +kernel
theorem dX4_join_138 : decode cX4_join 138 = .ok (.iload 4, 2) := by decide +kernel
theorem dX4_join_140 : decode cX4_join 140 = .ok (.iload 5, 2) := by decide +kernel
theorem dX4_join_142 : decode cX4_join 142 = .ok (.invokevirtual 59, 3) := by decide +kernel
theorem dX4_join_145 : decode cX4_join 145 = .ok (.iinc 3 1, 3) := by decide +kernel
theorem dX4_join_148 : decode cX4_join 148 = .ok (.goto (-121), 3) := by decide +kernel
theorem dX4_join_151 : decode cX4_join 151 = .ok (.iload_n 2, 1) := by decide +kernel
theorem dX4_join_152 : decode cX4_join 152 = .ok (.ireturn, 1) := by decide +kernel
set_option maxRecDepth 20000 in
theorem ggX4_isApproved_X4_in : GoodIn wsX4_isApproved wsX4_in := goodIn_r _ [5] (by decide +kernel) (by decide +kernel)
set_option maxRecDepth 20000 in
theorem gX4_isApproved_X4_in : GoodIn wsX4_isApproved (va_wsS RX4 36 yX4_in wsX4_in) := goodIn_app (goodIn_of _ (by decide +kernel)) ggX4_isApproved_X4_in
set_option maxRecDepth 20000 in
theorem ggX4_isApproved_X4_isTest : GoodIn wsX4_isApproved wsX4_isTest := goodIn_r _ [8, 2, 3, 4, 5] (by decide +kernel) (by decide +kernel)
set_option maxRecDepth 20000 in
theorem gX4_isApproved_X4_isTest : GoodIn wsX4_isApproved (va_wsS RX4 44 yX4_isTest wsX4_isTest) := goodIn_app (goodIn_of _ (by decide +kernel)) ggX4_isApproved_X4_isTest
set_option maxRecDepth 20000 in
theorem ggX4_isApproved_X4_goesWell : GoodIn wsX4_isApproved wsX4_goesWell := goodIn_r _ [12, 13, 17, 18, 19, 20, 21, 22, 23, 24, 25, 26] (by decide +kernel) (by decide +kernel)
set_option maxRecDepth 20000 in
theorem gX4_isApproved_X4_goesWell : GoodIn wsX4_isApproved (wsV RX4 52 RX4 yX4_goesWell wsX4_goesWell) := goodIn_app (goodIn_of _ (by decide +kernel)) ggX4_isApproved_X4_goesWell
set_option maxRecDepth 20000 in
theorem ggX4_isApproved_X4_placeOf : GoodIn wsX4_isApproved wsX4_placeOf := goodIn_r _ [16] (by decide +kernel) (by decide +kernel)
set_option maxRecDepth 20000 in
theorem gX4_isApproved_X4_placeOf : GoodIn wsX4_isApproved (va_wsS RX4 55 yX4_placeOf wsX4_placeOf) := goodIn_app (goodIn_of _ (by decide +kernel)) ggX4_isApproved_X4_placeOf
theorem dX4_isApproved_0 : decode cX4_isApproved 0 = .ok (.aload_n 0, 1) := by decide +kernel
theorem dX4_isApproved_1 : decode cX4_isApproved 1 = .ok (.iload_n 1, 1) := by decide +kernel
theorem dX4_isApproved_2 : decode cX4_isApproved 2 = .ok (.iconst 0, 1) := by decide +kernel
theorem dX4_isApproved_3 : decode cX4_isApproved 3 = .ok (.iconst 3, 1) := by decide +kernel
theorem dX4_isApproved_4 : decode cX4_isApproved 4 = .ok (.invokestatic 36, 3) := by decide +kernel
theorem dX4_isApproved_7 : decode cX4_isApproved 7 = .ok (.ifCond .eq 14, 3) := by decide +kernel
theorem dX4_isApproved_10 : decode cX4_isApproved 10 = .ok (.iload_n 2, 1) := by decide +kernel
theorem dX4_isApproved_11 : decode cX4_isApproved 11 = .ok (.invokestatic 44, 3) := by decide +kernel
theorem dX4_isApproved_14 : decode cX4_isApproved 14 = .ok (.ifCond .eq 7, 3) := by decide +kernel
theorem dX4_isApproved_17 : decode cX4_isApproved 17 = .ok (.iconst 0, 1) := by decide +kernel
theorem dX4_isApproved_18 : decode cX4_isApproved 18 = .ok (.goto 4, 3) := by decide +kernel
theorem dX4_isApproved_21 : decode cX4_isApproved 21 = .ok (.iconst 1, 1) := by decide +kernel
theorem dX4_isApproved_22 : decode cX4_isApproved 22 = .ok (.invokevirtual 52, 3) := by decide +kernel
theorem dX4_isApproved_25 : decode cX4_isApproved 25 = .ok (.ifCond .eq 20, 3) := by decide +kernel
theorem dX4_isApproved_28 : decode cX4_isApproved 28 = .ok (.aload_n 0, 1) := by decide +kernel
theorem dX4_isApproved_29 : decode cX4_isApproved 29 = .ok (.getfield 16, 3) := by decide +kernel
theorem dX4_isApproved_32 : decode cX4_isApproved 32 = .ok (.iload_n 1, 1) := by decide +kernel
theorem dX4_isApproved_33 : decode cX4_isApproved 33 = .ok (.iload_n 2, 1) := by decide +kernel
theorem dX4_isApproved_34 : decode cX4_isApproved 34 = .ok (.invokestatic 55, 3) := by decide +kernel
theorem dX4_isApproved_37 : decode cX4_isApproved 37 = .ok (.baload, 1) := by decide +kernel
theorem dX4_isApproved_38 : decode cX4_isApproved 38 = .ok (.ifCond .eq 7, 3) := by decide +kernel
theorem dX4_isApproved_41 : decode cX4_isApproved 41 = .ok (.iconst 1, 1) := by decide +kernel
theorem dX4_isApproved_42 : decode cX4_isApproved 42 = .ok (.goto 4, 3) := by decide +kernel
theorem dX4_isApproved_45 : decode cX4_isApproved 45 = .ok (.iconst 0, 1) := by decide +kernel
theorem dX4_isApproved_46 : decode cX4_isApproved 46 = .ok (.ireturn, 1) := by decide +kernel
set_option maxRecDepth 20000 in
theorem ggX4_areAlike_X4_in : GoodIn wsX4_areAlike wsX4_in := goodIn_r _ [4] (by decide +kernel) (by decide +kernel)
set_option maxRecDepth 20000 in
theorem gX4_areAlike_X4_in : GoodIn wsX4_areAlike (va_wsS RX4 36 yX4_in wsX4_in) := goodIn_app (goodIn_of _ (by decide +kernel)) ggX4_areAlike_X4_in
theorem dX4_areAlike_0 : decode cX4_areAlike 0 = .ok (.iload_n 1, 1) := by decide +kernel
theorem dX4_areAlike_1 : decode cX4_areAlike 1 = .ok (.iload_n 2, 1) := by decide +kernel
theorem dX4_areAlike_2 : decode cX4_areAlike 2 = .ok (.isub, 1) := by decide +kernel
theorem dX4_areAlike_3 : decode cX4_areAlike 3 = .ok (.iload_n 3, 1) := by decide +kernel
theorem dX4_areAlike_4 : decode cX4_areAlike 4 = .ok (.ineg, 1) := by decide +kernel
theorem dX4_areAlike_5 : decode cX4_areAlike 5 = .ok (.iload_n 3, 1) := by decide +kernel
theorem dX4_areAlike_6 : decode cX4_areAlike 6 = .ok (.invokestatic 36, 3) := by decide +kernel
theorem dX4_areAlike_9 : decode cX4_areAlike 9 = .ok (.ireturn, 1) := by decide +kernel
set_option maxRecDepth 20000 in
theorem ggX4_fits_X4_placeOf : GoodIn wsX4_fits wsX4_placeOf := goodIn_r _ [7] (by decide +kernel) (by decide +kernel)
set_option maxRecDepth 20000 in
theorem gX4_fits_X4_placeOf : GoodIn wsX4_fits (va_wsS RX4 55 yX4_placeOf wsX4_placeOf) := goodIn_app (goodIn_of _ (by decide +kernel)) ggX4_fits_X4_placeOf
set_option maxRecDepth 20000 in
theorem ggX4_fits_X4_isCell : GoodIn wsX4_fits wsX4_isCell := goodIn_r _ [10, 11, 12, 6, 13] (by decide +kernel) (by decide +kernel)
set_option maxRecDepth 20000 in
theorem gX4_fits_X4_isCell : GoodIn wsX4_fits (va_wsS RX4 40 yX4_isCell wsX4_isCell) := goodIn_app (goodIn_of _ (by decide +kernel)) ggX4_fits_X4_isCell
set_option maxRecDepth 20000 in
theorem ggX4_fits_X4_areAlike : GoodIn wsX4_fits wsX4_areAlike := goodIn_r _ [17, 11, 12, 6, 13] (by decide +kernel) (by decide +kernel)
set_option maxRecDepth 20000 in
theorem gX4_fits_X4_areAlike : GoodIn wsX4_fits (wsV RX4 69 RX4 yX4_areAlike wsX4_areAlike) := goodIn_app (goodIn_of _ (by decide +kernel)) ggX4_fits_X4_areAlike
theorem dX4_fits_0 : decode cX4_fits 0 = .ok (.iconst 1, 1) := by decide +kernel
theorem dX4_fits_1 : decode cX4_fits 1 = .ok (.istore 6, 2) := by decide +kernel
theorem dX4_fits_3 : decode cX4_fits 3 = .ok (.aload_n 0, 1) := by decide +kernel
theorem dX4_fits_4 : decode cX4_fits 4 = .ok (.getfield 20, 3) := by decide +kernel
theorem dX4_fits_7 : decode cX4_fits 7 = .ok (.iconst 4, 1) := by decide +kernel
theorem dX4_fits_8 : decode cX4_fits 8 = .ok (.iload_n 2, 1) := by decide +kernel
theorem dX4_fits_9 : decode cX4_fits 9 = .ok (.imul, 1) := by decide +kernel
theorem dX4_fits_10 : decode cX4_fits 10 = .ok (.iconst 2, 1) := by decide +kernel
theorem dX4_fits_11 : decode cX4_fits 11 = .ok (.iadd, 1) := by decide +kernel
theorem dX4_fits_12 : decode cX4_fits 12 = .ok (.iaload, 1) := by decide +kernel
theorem dX4_fits_13 : decode cX4_fits 13 = .ok (.istore 7, 2) := by decide +kernel
theorem dX4_fits_15 : decode cX4_fits 15 = .ok (.iconst 0, 1) := by decide +kernel
theorem dX4_fits_16 : decode cX4_fits 16 = .ok (.istore 8, 2) := by decide +kernel
theorem dX4_fits_18 : decode cX4_fits 18 = .ok (.iload 8, 2) := by decide +kernel
theorem dX4_fits_20 : decode cX4_fits 20 = .ok (.iload 7, 2) := by decide +kernel
theorem dX4_fits_22 : decode cX4_fits 22 = .ok (.aload_n 0, 1) := by decide +kernel
theorem dX4_fits_23 : decode cX4_fits 23 = .ok (.getfield 20, 3) := by decide +kernel
theorem dX4_fits_26 : decode cX4_fits 26 = .ok (.iconst 4, 1) := by decide +kernel
theorem dX4_fits_27 : decode cX4_fits 27 = .ok (.iload_n 2, 1) := by decide +kernel
theorem dX4_fits_28 : decode cX4_fits 28 = .ok (.imul, 1) := by decide +kernel
theorem dX4_fits_29 : decode cX4_fits 29 = .ok (.iconst 3, 1) := by decide +kernel
theorem dX4_fits_30 : decode cX4_fits 30 = .ok (.iadd, 1) := by decide +kernel
theorem dX4_fits_31 : decode cX4_fits 31 = .ok (.iaload, 1) := by decide +kernel
theorem dX4_fits_32 : decode cX4_fits 32 = .ok (.imul, 1) := by decide +kernel
theorem dX4_fits_33 : decode cX4_fits 33 = .ok (.if_icmp .ge 142, 3) := by decide +kernel
theorem dX4_fits_36 : decode cX4_fits 36 = .ok (.iload 6, 2) := by decide +kernel
theorem dX4_fits_38 : decode cX4_fits 38 = .ok (.ifCond .eq 137, 3) := by decide +kernel
theorem dX4_fits_41 : decode cX4_fits 41 = .ok (.aload_n 0, 1) := by decide +kernel
theorem dX4_fits_42 : decode cX4_fits 42 = .ok (.getfield 20, 3) := by decide +kernel
theorem dX4_fits_45 : decode cX4_fits 45 = .ok (.iconst 4, 1) := by decide +kernel
theorem dX4_fits_46 : decode cX4_fits 46 = .ok (.iload_n 2, 1) := by decide +kernel
theorem dX4_fits_47 : decode cX4_fits 47 = .ok (.imul, 1) := by decide +kernel
theorem dX4_fits_48 : decode cX4_fits 48 = .ok (.iaload, 1) := by decide +kernel
theorem dX4_fits_49 : decode cX4_fits 49 = .ok (.iload 8, 2) := by decide +kernel
theorem dX4_fits_51 : decode cX4_fits 51 = .ok (.iload 7, 2) := by decide +kernel
theorem dX4_fits_53 : decode cX4_fits 53 = .ok (.irem, 1) := by decide +kernel
theorem dX4_fits_54 : decode cX4_fits 54 = .ok (.iadd, 1) := by decide +kernel
theorem dX4_fits_55 : decode cX4_fits 55 = .ok (.istore 9, 2) := by decide +kernel
theorem dX4_fits_57 : decode cX4_fits 57 = .ok (.aload_n 0, 1) := by decide +kernel
theorem dX4_fits_58 : decode cX4_fits 58 = .ok (.getfield 20, 3) := by decide +kernel
theorem dX4_fits_61 : decode cX4_fits 61 = .ok (.iconst 4, 1) := by decide +kernel
theorem dX4_fits_62 : decode cX4_fits 62 = .ok (.iload_n 2, 1) := by decide +kernel
theorem dX4_fits_63 : decode cX4_fits 63 = .ok (.imul, 1) := by decide +kernel
theorem dX4_fits_64 : decode cX4_fits 64 = .ok (.iconst 1, 1) := by decide +kernel
theorem dX4_fits_65 : decode cX4_fits 65 = .ok (.iadd, 1) := by decide +kernel
theorem dX4_fits_66 : decode cX4_fits 66 = .ok (.iaload, 1) := by decide +kernel
theorem dX4_fits_67 : decode cX4_fits 67 = .ok (.iload 8, 2) := by decide +kernel
theorem dX4_fits_69 : decode cX4_fits 69 = .ok (.iload 7, 2) := by decide +kernel
theorem dX4_fits_71 : decode cX4_fits 71 = .ok (.idiv, 1) := by decide +kernel
theorem dX4_fits_72 : decode cX4_fits 72 = .ok (.iadd, 1) := by decide +kernel
theorem dX4_fits_73 : decode cX4_fits 73 = .ok (.istore 10, 2) := by decide +kernel
theorem dX4_fits_75 : decode cX4_fits 75 = .ok (.aload_n 0, 1) := by decide +kernel
theorem dX4_fits_76 : decode cX4_fits 76 = .ok (.getfield 13, 3) := by decide +kernel
theorem dX4_fits_79 : decode cX4_fits 79 = .ok (.bipush 64, 2) := by decide +kernel
theorem dX4_fits_81 : decode cX4_fits 81 = .ok (.iload_n 1, 1) := by decide +kernel
theorem dX4_fits_82 : decode cX4_fits 82 = .ok (.iload_n 2, 1) := by decide +kernel
theorem dX4_fits_83 : decode cX4_fits 83 = .ok (.invokestatic 55, 3) := by decide +kernel
theorem dX4_fits_86 : decode cX4_fits 86 = .ok (.imul, 1) := by decide +kernel
theorem dX4_fits_87 : decode cX4_fits 87 = .ok (.bipush 8, 2) := by decide +kernel
theorem dX4_fits_89 : decode cX4_fits 89 = .ok (.iload 10, 2) := by decide +kernel
theorem dX4_fits_91 : decode cX4_fits 91 = .ok (.imul, 1) := by decide +kernel
theorem dX4_fits_92 : decode cX4_fits 92 = .ok (.iadd, 1) := by decide +kernel
theorem dX4_fits_93 : decode cX4_fits 93 = .ok (.iload 9, 2) := by decide +kernel
theorem dX4_fits_95 : decode cX4_fits 95 = .ok (.iadd, 1) := by decide +kernel
theorem dX4_fits_96 : decode cX4_fits 96 = .ok (.iaload, 1) := by decide +kernel
theorem dX4_fits_97 : decode cX4_fits 97 = .ok (.istore 11, 2) := by decide +kernel
theorem dX4_fits_99 : decode cX4_fits 99 = .ok (.iload 9, 2) := by decide +kernel
theorem dX4_fits_101 : decode cX4_fits 101 = .ok (.iload 4, 2) := by decide +kernel
theorem dX4_fits_103 : decode cX4_fits 103 = .ok (.iadd, 1) := by decide +kernel
theorem dX4_fits_104 : decode cX4_fits 104 = .ok (.iload 10, 2) := by decide +kernel
theorem dX4_fits_106 : decode cX4_fits 106 = .ok (.iload 5, 2) := by decide +kernel
theorem dX4_fits_108 : decode cX4_fits 108 = .ok (.iadd, 1) := by decide +kernel
theorem dX4_fits_109 : decode cX4_fits 109 = .ok (.invokestatic 40, 3) := by decide +kernel
theorem dX4_fits_112 : decode cX4_fits 112 = .ok (.istore 12, 2) := by decide +kernel
theorem dX4_fits_114 : decode cX4_fits 114 = .ok (.iload 12, 2) := by decide +kernel
theorem dX4_fits_116 : decode cX4_fits 116 = .ok (.ifCond .eq 50, 3) := by decide +kernel
theorem dX4_fits_119 : decode cX4_fits 119 = .ok (.aload_n 0, 1) := by decide +kernel
theorem dX4_fits_120 : decode cX4_fits 120 = .ok (.aload_n 0, 1) := by decide +kernel
theorem dX4_fits_121 : decode cX4_fits 121 = .ok (.getfield 7, 3) := by decide +kernel
theorem dX4_fits_124 : decode cX4_fits 124 = .ok (.bipush 64, 2) := by decide +kernel
theorem dX4_fits_126 : decode cX4_fits 126 = .ok (.iload_n 2, 1) := by decide +kernel
theorem dX4_fits_127 : decode cX4_fits 127 = .ok (.imul, 1) := by decide +kernel
theorem dX4_fits_128 : decode cX4_fits 128 = .ok (.iload 12, 2) := by decide +kernel
theorem dX4_fits_130 : decode cX4_fits 130 = .ok (.ifCond .eq 20, 3) := by decide +kernel
theorem dX4_fits_133 : decode cX4_fits 133 = .ok (.bipush 8, 2) := by decide +kernel
theorem dX4_fits_135 : decode cX4_fits 135 = .ok (.iload 10, 2) := by decide +kernel
theorem dX4_fits_137 : decode cX4_fits 137 = .ok (.iload 5, 2) := by decide +kernel
theorem dX4_fits_139 : decode cX4_fits 139 = .ok (.iadd, 1) := by decide +kernel
theorem dX4_fits_140 : decode cX4_fits 140 = .ok (.imul, 1) := by decide +kernel
theorem dX4_fits_141 : decode cX4_fits 141 = .ok (.iload 9, 2) := by decide +kernel
theorem dX4_fits_143 : decode cX4_fits 143 = .ok (.iadd, 1) := by decide +kernel
theorem dX4_fits_144 : decode cX4_fits 144 = .ok (.iload 4, 2) := by decide +kernel
theorem dX4_fits_146 : decode cX4_fits 146 = .ok (.iadd, 1) := by decide +kernel
theorem dX4_fits_147 : decode cX4_fits 147 = .ok (.goto 4, 3) := by decide +kernel
theorem dX4_fits_150 : decode cX4_fits 150 = .ok (.iconst 0, 1) := by decide +kernel
theorem dX4_fits_151 : decode cX4_fits 151 = .ok (.iadd, 1) := by decide +kernel
theorem dX4_fits_152 : decode cX4_fits 152 = .ok (.iaload, 1) := by decide +kernel
theorem dX4_fits_153 : decode cX4_fits 153 = .ok (.iload 11, 2) := by decide +kernel
theorem dX4_fits_155 : decode cX4_fits 155 = .ok (.iload_n 3, 1) := by decide +kernel
theorem dX4_fits_156 : decode cX4_fits 156 = .ok (.invokevirtual 69, 3) := by decide +kernel
theorem dX4_fits_159 : decode cX4_fits 159 = .ok (.ifCond .eq 7, 3) := by decide +kernel
theorem dX4_fits_162 : decode cX4_fits 162 = .ok (.iconst 1, 1) := by decide +kernel
theorem dX4_fits_163 : decode cX4_fits 163 = .ok (.goto 4, 3) := by decide +kernel
theorem dX4_fits_166 : decode cX4_fits 166 = .ok (.iconst 0, 1) := by decide +kernel
theorem dX4_fits_167 : decode cX4_fits 167 = .ok (.istore 6, 2) := by decide +kernel
theorem dX4_fits_169 : decode cX4_fits 169 = .ok (.iinc 8 1, 3) := by decide +kernel
theorem dX4_fits_172 : decode cX4_fits 172 = .ok (.goto (-154), 3) := by decide +kernel
theorem dX4_fits_175 : decode cX4_fits 175 = .ok (.iload 6, 2) := by decide +kernel
theorem dX4_fits_177 : decode cX4_fits 177 = .ok (.ireturn, 1) := by decide +kernel
theorem dX4_size_0 : decode cX4_size 0 = .ok (.iload_n 0, 1) := by decide +kernel
theorem dX4_size_1 : decode cX4_size 1 = .ok (.ifCond .ge 8, 3) := by decide +kernel
theorem dX4_size_4 : decode cX4_size 4 = .ok (.iload_n 0, 1) := by decide +kernel
theorem dX4_size_5 : decode cX4_size 5 = .ok (.ineg, 1) := by decide +kernel
theorem dX4_size_6 : decode cX4_size 6 = .ok (.goto 4, 3) := by decide +kernel
theorem dX4_size_9 : decode cX4_size 9 = .ok (.iload_n 0, 1) := by decide +kernel
theorem dX4_size_10 : decode cX4_size 10 = .ok (.ireturn, 1) := by decide +kernel
set_option maxRecDepth 20000 in
theorem ggX4_findMove_X4_fits : GoodIn wsX4_findMove wsX4_fits := goodIn_r _ [8, 3, 9, 10, 11, 12, 7, 13, 14, 15, 16, 17, 18, 19, 20, 21, 22, 23, 27, 28, 29, 30, 31, 32, 33, 34, 35, 36] (by decide +kernel) (by decide +kernel)
set_option maxRecDepth 20000 in
theorem gX4_findMove_X4_fits : GoodIn wsX4_findMove (wsV RX4 78 RX4 yX4_fits wsX4_fits) := goodIn_app (goodIn_of _ (by decide +kernel)) ggX4_findMove_X4_fits
set_option maxRecDepth 20000 in
theorem ggX4_findMove_X4_size : GoodIn wsX4_findMove wsX4_size := goodIn_r _ [26] (by decide +kernel) (by decide +kernel)
set_option maxRecDepth 20000 in
theorem gX4_findMove_X4_size : GoodIn wsX4_findMove (va_wsS RX4 82 yX4_size wsX4_size) := goodIn_app (goodIn_of _ (by decide +kernel)) ggX4_findMove_X4_size
theorem dX4_findMove_0 : decode cX4_findMove 0 = .ok (.aload_n 0, 1) := by decide +kernel
theorem dX4_findMove_1 : decode cX4_findMove 1 = .ok (.iconst 0, 1) := by decide +kernel
theorem dX4_findMove_2 : decode cX4_findMove 2 = .ok (.putfield 72, 3) := by decide +kernel
theorem dX4_findMove_5 : decode cX4_findMove 5 = .ok (.aload_n 0, 1) := by decide +kernel
theorem dX4_findMove_6 : decode cX4_findMove 6 = .ok (.iconst 0, 1) := by decide +kernel
theorem dX4_findMove_7 : decode cX4_findMove 7 = .ok (.putfield 75, 3) := by decide +kernel
theorem dX4_findMove_10 : decode cX4_findMove 10 = .ok (.aload_n 0, 1) := by decide +kernel
theorem dX4_findMove_11 : decode cX4_findMove 11 = .ok (.getfield 20, 3) := by decide +kernel
theorem dX4_findMove_14 : decode cX4_findMove 14 = .ok (.iconst 4, 1) := by decide +kernel
theorem dX4_findMove_15 : decode cX4_findMove 15 = .ok (.iload_n 2, 1) := by decide +kernel
theorem dX4_findMove_16 : decode cX4_findMove 16 = .ok (.imul, 1) := by decide +kernel
theorem dX4_findMove_17 : decode cX4_findMove 17 = .ok (.iconst 2, 1) := by decide +kernel
theorem dX4_findMove_18 : decode cX4_findMove 18 = .ok (.iadd, 1) := by decide +kernel
theorem dX4_findMove_19 : decode cX4_findMove 19 = .ok (.iaload, 1) := by decide +kernel
theorem dX4_findMove_20 : decode cX4_findMove 20 = .ok (.ifCond .eq 15, 3) := by decide +kernel
theorem dX4_findMove_23 : decode cX4_findMove 23 = .ok (.aload_n 0, 1) := by decide +kernel
theorem dX4_findMove_24 : decode cX4_findMove 24 = .ok (.iload_n 1, 1) := by decide +kernel
theorem dX4_findMove_25 : decode cX4_findMove 25 = .ok (.iload_n 2, 1) := by decide +kernel
theorem dX4_findMove_26 : decode cX4_findMove 26 = .ok (.iload_n 3, 1) := by decide +kernel
theorem dX4_findMove_27 : decode cX4_findMove 27 = .ok (.iconst 0, 1) := by decide +kernel
theorem dX4_findMove_28 : decode cX4_findMove 28 = .ok (.iconst 0, 1) := by decide +kernel
theorem dX4_findMove_29 : decode cX4_findMove 29 = .ok (.invokevirtual 78, 3) := by decide +kernel
theorem dX4_findMove_32 : decode cX4_findMove 32 = .ok (.ifCond .eq 4, 3) := by decide +kernel
theorem dX4_findMove_35 : decode cX4_findMove 35 = .ok (.return_, 1) := by decide +kernel
theorem dX4_findMove_36 : decode cX4_findMove 36 = .ok (.iconst 1, 1) := by decide +kernel
theorem dX4_findMove_37 : decode cX4_findMove 37 = .ok (.istore 4, 2) := by decide +kernel
theorem dX4_findMove_39 : decode cX4_findMove 39 = .ok (.iload 4, 2) := by decide +kernel
theorem dX4_findMove_41 : decode cX4_findMove 41 = .ok (.iconst 4, 1) := by decide +kernel
theorem dX4_findMove_42 : decode cX4_findMove 42 = .ok (.if_icmp .gt 84, 3) := by decide +kernel
theorem dX4_findMove_45 : decode cX4_findMove 45 = .ok (.iconst 0, 1) := by decide +kernel
theorem dX4_findMove_46 : decode cX4_findMove 46 = .ok (.istore 5, 2) := by decide +kernel
theorem dX4_findMove_48 : decode cX4_findMove 48 = .ok (.iload 5, 2) := by decide +kernel
theorem dX4_findMove_50 : decode cX4_findMove 50 = .ok (.bipush 25, 2) := by decide +kernel
theorem dX4_findMove_52 : decode cX4_findMove 52 = .ok (.if_icmp .ge 68, 3) := by decide +kernel
theorem dX4_findMove_55 : decode cX4_findMove 55 = .ok (.iload 5, 2) := by decide +kernel
theorem dX4_findMove_57 : decode cX4_findMove 57 = .ok (.iconst 5, 1) := by decide +kernel
theorem dX4_findMove_58 : decode cX4_findMove 58 = .ok (.idiv, 1) := by decide +kernel
theorem dX4_findMove_59 : decode cX4_findMove 59 = .ok (.iconst 2, 1) := by decide +kernel
theorem dX4_findMove_60 : decode cX4_findMove 60 = .ok (.isub, 1) := by decide +kernel
theorem dX4_findMove_61 : decode cX4_findMove 61 = .ok (.istore 6, 2) := by decide +kernel
theorem dX4_findMove_63 : decode cX4_findMove 63 = .ok (.iload 5, 2) := by decide +kernel
theorem dX4_findMove_65 : decode cX4_findMove 65 = .ok (.iconst 5, 1) := by decide +kernel
theorem dX4_findMove_66 : decode cX4_findMove 66 = .ok (.irem, 1) := by decide +kernel
theorem dX4_findMove_67 : decode cX4_findMove 67 = .ok (.iconst 2, 1) := by decide +kernel
theorem dX4_findMove_68 : decode cX4_findMove 68 = .ok (.isub, 1) := by decide +kernel
theorem dX4_findMove_69 : decode cX4_findMove 69 = .ok (.istore 7, 2) := by decide +kernel
theorem dX4_findMove_71 : decode cX4_findMove 71 = .ok (.iload 6, 2) := by decide +kernel
theorem dX4_findMove_73 : decode cX4_findMove 73 = .ok (.invokestatic 82, 3) := by decide +kernel
theorem dX4_findMove_76 : decode cX4_findMove 76 = .ok (.iload 7, 2) := by decide +kernel
theorem dX4_findMove_78 : decode cX4_findMove 78 = .ok (.invokestatic 82, 3) := by decide +kernel
theorem dX4_findMove_81 : decode cX4_findMove 81 = .ok (.iadd, 1) := by decide +kernel
theorem dX4_findMove_82 : decode cX4_findMove 82 = .ok (.iload 4, 2) := by decide +kernel
theorem dX4_findMove_84 : decode cX4_findMove 84 = .ok (.if_icmp .ne 30, 3) := by decide +kernel
theorem dX4_findMove_87 : decode cX4_findMove 87 = .ok (.aload_n 0, 1) := by decide +kernel
theorem dX4_findMove_88 : decode cX4_findMove 88 = .ok (.iload_n 1, 1) := by decide +kernel
theorem dX4_findMove_89 : decode cX4_findMove 89 = .ok (.iload_n 2, 1) := by decide +kernel
theorem dX4_findMove_90 : decode cX4_findMove 90 = .ok (.iload_n 3, 1) := by decide +kernel
theorem dX4_findMove_91 : decode cX4_findMove 91 = .ok (.iload 7, 2) := by decide +kernel
theorem dX4_findMove_93 : decode cX4_findMove 93 = .ok (.iload 6, 2) := by decide +kernel
theorem dX4_findMove_95 : decode cX4_findMove 95 = .ok (.invokevirtual 78, 3) := by decide +kernel
theorem dX4_findMove_98 : decode cX4_findMove 98 = .ok (.ifCond .eq 16, 3) := by decide +kernel
theorem dX4_findMove_101 : decode cX4_findMove 101 = .ok (.aload_n 0, 1) := by decide +kernel
theorem dX4_findMove_102 : decode cX4_findMove 102 = .ok (.iload 7, 2) := by decide +kernel
theorem dX4_findMove_104 : decode cX4_findMove 104 = .ok (.putfield 72, 3) := by decide +kernel
theorem dX4_findMove_107 : decode cX4_findMove 107 = .ok (.aload_n 0, 1) := by decide +kernel
theorem dX4_findMove_108 : decode cX4_findMove 108 = .ok (.iload 6, 2) := by decide +kernel
theorem dX4_findMove_110 : decode cX4_findMove 110 = .ok (.putfield 75, 3) := by decide +kernel
theorem dX4_findMove_113 : decode cX4_findMove 113 = .ok (.return_, 1) := by decide +kernel
theorem dX4_findMove_114 : decode cX4_findMove 114 = .ok (.iinc 5 1, 3) := by decide +kernel
theorem dX4_findMove_117 : decode cX4_findMove 117 = .ok (.goto (-69), 3) := by decide +kernel
theorem dX4_findMove_120 : decode cX4_findMove 120 = .ok (.iinc 4 1, 3) := by decide +kernel
theorem dX4_findMove_123 : decode cX4_findMove 123 = .ok (.goto (-84), 3) := by decide +kernel
theorem dX4_findMove_126 : decode cX4_findMove 126 = .ok (.return_, 1) := by decide +kernel
set_option maxRecDepth 20000 in
theorem ggX4_isWithin_X4_in : GoodIn wsX4_isWithin wsX4_in := goodIn_r _ [4] (by decide +kernel) (by decide +kernel)
set_option maxRecDepth 20000 in
theorem gX4_isWithin_X4_in : GoodIn wsX4_isWithin (va_wsS RX4 36 yX4_in wsX4_in) := goodIn_app (goodIn_of _ (by decide +kernel)) ggX4_isWithin_X4_in
theorem dX4_isWithin_0 : decode cX4_isWithin 0 = .ok (.iload_n 0, 1) := by decide +kernel
theorem dX4_isWithin_1 : decode cX4_isWithin 1 = .ok (.bipush 8, 2) := by decide +kernel
theorem dX4_isWithin_3 : decode cX4_isWithin 3 = .ok (.irem, 1) := by decide +kernel
theorem dX4_isWithin_4 : decode cX4_isWithin 4 = .ok (.iload_n 1, 1) := by decide +kernel
theorem dX4_isWithin_5 : decode cX4_isWithin 5 = .ok (.iload_n 1, 1) := by decide +kernel
theorem dX4_isWithin_6 : decode cX4_isWithin 6 = .ok (.iload_n 3, 1) := by decide +kernel
theorem dX4_isWithin_7 : decode cX4_isWithin 7 = .ok (.iadd, 1) := by decide +kernel
theorem dX4_isWithin_8 : decode cX4_isWithin 8 = .ok (.iconst 1, 1) := by decide +kernel
theorem dX4_isWithin_9 : decode cX4_isWithin 9 = .ok (.isub, 1) := by decide +kernel
theorem dX4_isWithin_10 : decode cX4_isWithin 10 = .ok (.invokestatic 36, 3) := by decide +kernel
theorem dX4_isWithin_13 : decode cX4_isWithin 13 = .ok (.ifCond .eq 24, 3) := by decide +kernel
theorem dX4_isWithin_16 : decode cX4_isWithin 16 = .ok (.iload_n 0, 1) := by decide +kernel
theorem dX4_isWithin_17 : decode cX4_isWithin 17 = .ok (.bipush 8, 2) := by decide +kernel
theorem dX4_isWithin_19 : decode cX4_isWithin 19 = .ok (.idiv, 1) := by decide +kernel
theorem dX4_isWithin_20 : decode cX4_isWithin 20 = .ok (.iload_n 2, 1) := by decide +kernel
theorem dX4_isWithin_21 : decode cX4_isWithin 21 = .ok (.iload_n 2, 1) := by decide +kernel
theorem dX4_isWithin_22 : decode cX4_isWithin 22 = .ok (.iload 4, 2) := by decide +kernel
theorem dX4_isWithin_24 : decode cX4_isWithin 24 = .ok (.iadd, 1) := by decide +kernel
theorem dX4_isWithin_25 : decode cX4_isWithin 25 = .ok (.iconst 1, 1) := by decide +kernel
theorem dX4_isWithin_26 : decode cX4_isWithin 26 = .ok (.isub, 1) := by decide +kernel
theorem dX4_isWithin_27 : decode cX4_isWithin 27 = .ok (.invokestatic 36, 3) := by decide +kernel
theorem dX4_isWithin_30 : decode cX4_isWithin 30 = .ok (.ifCond .eq 7, 3) := by decide +kernel
theorem dX4_isWithin_33 : decode cX4_isWithin 33 = .ok (.iconst 1, 1) := by decide +kernel
theorem dX4_isWithin_34 : decode cX4_isWithin 34 = .ok (.goto 4, 3) := by decide +kernel
theorem dX4_isWithin_37 : decode cX4_isWithin 37 = .ok (.iconst 0, 1) := by decide +kernel
theorem dX4_isWithin_38 : decode cX4_isWithin 38 = .ok (.ireturn, 1) := by decide +kernel
set_option maxRecDepth 20000 in
theorem ggX4_isLeftOut_X4_isWithin : GoodIn wsX4_isLeftOut wsX4_isWithin := goodIn_r _ [8, 9, 10, 7, 11] (by decide +kernel) (by decide +kernel)
set_option maxRecDepth 20000 in
theorem gX4_isLeftOut_X4_isWithin : GoodIn wsX4_isLeftOut (va_wsS RX4 86 yX4_isWithin wsX4_isWithin) := goodIn_app (goodIn_of _ (by decide +kernel)) ggX4_isLeftOut_X4_isWithin
theorem dX4_isLeftOut_0 : decode cX4_isLeftOut 0 = .ok (.aload_n 0, 1) := by decide +kernel
theorem dX4_isLeftOut_1 : decode cX4_isLeftOut 1 = .ok (.getfield 20, 3) := by decide +kernel
theorem dX4_isLeftOut_4 : decode cX4_isLeftOut 4 = .ok (.iconst 4, 1) := by decide +kernel
theorem dX4_isLeftOut_5 : decode cX4_isLeftOut 5 = .ok (.iload_n 1, 1) := by decide +kernel
theorem dX4_isLeftOut_6 : decode cX4_isLeftOut 6 = .ok (.imul, 1) := by decide +kernel
theorem dX4_isLeftOut_7 : decode cX4_isLeftOut 7 = .ok (.iaload, 1) := by decide +kernel
theorem dX4_isLeftOut_8 : decode cX4_isLeftOut 8 = .ok (.istore_n 3, 1) := by decide +kernel
theorem dX4_isLeftOut_9 : decode cX4_isLeftOut 9 = .ok (.aload_n 0, 1) := by decide +kernel
theorem dX4_isLeftOut_10 : decode cX4_isLeftOut 10 = .ok (.getfield 20, 3) := by decide +kernel
theorem dX4_isLeftOut_13 : decode cX4_isLeftOut 13 = .ok (.iconst 4, 1) := by decide +kernel
theorem dX4_isLeftOut_14 : decode cX4_isLeftOut 14 = .ok (.iload_n 1, 1) := by decide +kernel
theorem dX4_isLeftOut_15 : decode cX4_isLeftOut 15 = .ok (.imul, 1) := by decide +kernel
theorem dX4_isLeftOut_16 : decode cX4_isLeftOut 16 = .ok (.iconst 1, 1) := by decide +kernel
theorem dX4_isLeftOut_17 : decode cX4_isLeftOut 17 = .ok (.iadd, 1) := by decide +kernel
theorem dX4_isLeftOut_18 : decode cX4_isLeftOut 18 = .ok (.iaload, 1) := by decide +kernel
theorem dX4_isLeftOut_19 : decode cX4_isLeftOut 19 = .ok (.istore 4, 2) := by decide +kernel
theorem dX4_isLeftOut_21 : decode cX4_isLeftOut 21 = .ok (.aload_n 0, 1) := by decide +kernel
theorem dX4_isLeftOut_22 : decode cX4_isLeftOut 22 = .ok (.getfield 20, 3) := by decide +kernel
theorem dX4_isLeftOut_25 : decode cX4_isLeftOut 25 = .ok (.iconst 4, 1) := by decide +kernel
theorem dX4_isLeftOut_26 : decode cX4_isLeftOut 26 = .ok (.iload_n 1, 1) := by decide +kernel
theorem dX4_isLeftOut_27 : decode cX4_isLeftOut 27 = .ok (.imul, 1) := by decide +kernel
theorem dX4_isLeftOut_28 : decode cX4_isLeftOut 28 = .ok (.iconst 2, 1) := by decide +kernel
theorem dX4_isLeftOut_29 : decode cX4_isLeftOut 29 = .ok (.iadd, 1) := by decide +kernel
theorem dX4_isLeftOut_30 : decode cX4_isLeftOut 30 = .ok (.iaload, 1) := by decide +kernel
theorem dX4_isLeftOut_31 : decode cX4_isLeftOut 31 = .ok (.istore 5, 2) := by decide +kernel
theorem dX4_isLeftOut_33 : decode cX4_isLeftOut 33 = .ok (.aload_n 0, 1) := by decide +kernel
theorem dX4_isLeftOut_34 : decode cX4_isLeftOut 34 = .ok (.getfield 20, 3) := by decide +kernel
theorem dX4_isLeftOut_37 : decode cX4_isLeftOut 37 = .ok (.iconst 4, 1) := by decide +kernel
theorem dX4_isLeftOut_38 : decode cX4_isLeftOut 38 = .ok (.iload_n 1, 1) := by decide +kernel
theorem dX4_isLeftOut_39 : decode cX4_isLeftOut 39 = .ok (.imul, 1) := by decide +kernel
theorem dX4_isLeftOut_40 : decode cX4_isLeftOut 40 = .ok (.iconst 3, 1) := by decide +kernel
theorem dX4_isLeftOut_41 : decode cX4_isLeftOut 41 = .ok (.iadd, 1) := by decide +kernel
theorem dX4_isLeftOut_42 : decode cX4_isLeftOut 42 = .ok (.iaload, 1) := by decide +kernel
theorem dX4_isLeftOut_43 : decode cX4_isLeftOut 43 = .ok (.istore 6, 2) := by decide +kernel
theorem dX4_isLeftOut_45 : decode cX4_isLeftOut 45 = .ok (.aload_n 0, 1) := by decide +kernel
theorem dX4_isLeftOut_46 : decode cX4_isLeftOut 46 = .ok (.getfield 72, 3) := by decide +kernel
theorem dX4_isLeftOut_49 : decode cX4_isLeftOut 49 = .ok (.ifCond .ne 10, 3) := by decide +kernel
theorem dX4_isLeftOut_52 : decode cX4_isLeftOut 52 = .ok (.aload_n 0, 1) := by decide +kernel
theorem dX4_isLeftOut_53 : decode cX4_isLeftOut 53 = .ok (.getfield 75, 3) := by decide +kernel
theorem dX4_isLeftOut_56 : decode cX4_isLeftOut 56 = .ok (.ifCond .eq 7, 3) := by decide +kernel
theorem dX4_isLeftOut_59 : decode cX4_isLeftOut 59 = .ok (.iconst 1, 1) := by decide +kernel
theorem dX4_isLeftOut_60 : decode cX4_isLeftOut 60 = .ok (.goto 4, 3) := by decide +kernel
theorem dX4_isLeftOut_63 : decode cX4_isLeftOut 63 = .ok (.iconst 0, 1) := by decide +kernel
theorem dX4_isLeftOut_64 : decode cX4_isLeftOut 64 = .ok (.istore 7, 2) := by decide +kernel
theorem dX4_isLeftOut_66 : decode cX4_isLeftOut 66 = .ok (.iload_n 2, 1) := by decide +kernel
theorem dX4_isLeftOut_67 : decode cX4_isLeftOut 67 = .ok (.iload_n 3, 1) := by decide +kernel
theorem dX4_isLeftOut_68 : decode cX4_isLeftOut 68 = .ok (.iload 4, 2) := by decide +kernel
theorem dX4_isLeftOut_70 : decode cX4_isLeftOut 70 = .ok (.iload 5, 2) := by decide +kernel
theorem dX4_isLeftOut_72 : decode cX4_isLeftOut 72 = .ok (.iload 6, 2) := by decide +kernel
theorem dX4_isLeftOut_74 : decode cX4_isLeftOut 74 = .ok (.invokestatic 86, 3) := by decide +kernel
theorem dX4_isLeftOut_77 : decode cX4_isLeftOut 77 = .ok (.ifCond .ne 27, 3) := by decide +kernel
theorem dX4_isLeftOut_80 : decode cX4_isLeftOut 80 = .ok (.iload_n 2, 1) := by decide +kernel
theorem dX4_isLeftOut_81 : decode cX4_isLeftOut 81 = .ok (.iload_n 3, 1) := by decide +kernel
theorem dX4_isLeftOut_82 : decode cX4_isLeftOut 82 = .ok (.aload_n 0, 1) := by decide +kernel
theorem dX4_isLeftOut_83 : decode cX4_isLeftOut 83 = .ok (.getfield 72, 3) := by decide +kernel
theorem dX4_isLeftOut_86 : decode cX4_isLeftOut 86 = .ok (.iadd, 1) := by decide +kernel
theorem dX4_isLeftOut_87 : decode cX4_isLeftOut 87 = .ok (.iload 4, 2) := by decide +kernel
theorem dX4_isLeftOut_89 : decode cX4_isLeftOut 89 = .ok (.aload_n 0, 1) := by decide +kernel
theorem dX4_isLeftOut_90 : decode cX4_isLeftOut 90 = .ok (.getfield 75, 3) := by decide +kernel
theorem dX4_isLeftOut_93 : decode cX4_isLeftOut 93 = .ok (.iadd, 1) := by decide +kernel
theorem dX4_isLeftOut_94 : decode cX4_isLeftOut 94 = .ok (.iload 5, 2) := by decide +kernel
theorem dX4_isLeftOut_96 : decode cX4_isLeftOut 96 = .ok (.iload 6, 2) := by decide +kernel
theorem dX4_isLeftOut_98 : decode cX4_isLeftOut 98 = .ok (.invokestatic 86, 3) := by decide +kernel
theorem dX4_isLeftOut_101 : decode cX4_isLeftOut 101 = .ok (.ifCond .eq 7, 3) := by decide +kernel
theorem dX4_isLeftOut_104 : decode cX4_isLeftOut 104 = .ok (.iconst 1, 1) := by decide +kernel
theorem dX4_isLeftOut_105 : decode cX4_isLeftOut 105 = .ok (.goto 4, 3) := by decide +kernel
theorem dX4_isLeftOut_108 : decode cX4_isLeftOut 108 = .ok (.iconst 0, 1) := by decide +kernel
theorem dX4_isLeftOut_109 : decode cX4_isLeftOut 109 = .ok (.istore 8, 2) := by decide +kernel
theorem dX4_isLeftOut_111 : decode cX4_isLeftOut 111 = .ok (.iload_n 3, 1) := by decide +kernel
theorem dX4_isLeftOut_112 : decode cX4_isLeftOut 112 = .ok (.aload_n 0, 1) := by decide +kernel
theorem dX4_isLeftOut_113 : decode cX4_isLeftOut 113 = .ok (.getfield 72, 3) := by decide +kernel
theorem dX4_isLeftOut_116 : decode cX4_isLeftOut 116 = .ok (.iadd, 1) := by decide +kernel
theorem dX4_isLeftOut_117 : decode cX4_isLeftOut 117 = .ok (.aload_n 0, 1) := by decide +kernel
theorem dX4_isLeftOut_118 : decode cX4_isLeftOut 118 = .ok (.getfield 23, 3) := by decide +kernel
theorem dX4_isLeftOut_121 : decode cX4_isLeftOut 121 = .ok (.iconst 4, 1) := by decide +kernel
theorem dX4_isLeftOut_122 : decode cX4_isLeftOut 122 = .ok (.iload_n 1, 1) := by decide +kernel
theorem dX4_isLeftOut_123 : decode cX4_isLeftOut 123 = .ok (.imul, 1) := by decide +kernel
theorem dX4_isLeftOut_124 : decode cX4_isLeftOut 124 = .ok (.iaload, 1) := by decide +kernel
theorem dX4_isLeftOut_125 : decode cX4_isLeftOut 125 = .ok (.iadd, 1) := by decide +kernel
theorem dX4_isLeftOut_126 : decode cX4_isLeftOut 126 = .ok (.istore 9, 2) := by decide +kernel
theorem dX4_isLeftOut_128 : decode cX4_isLeftOut 128 = .ok (.iload 4, 2) := by decide +kernel
theorem dX4_isLeftOut_130 : decode cX4_isLeftOut 130 = .ok (.aload_n 0, 1) := by decide +kernel
theorem dX4_isLeftOut_131 : decode cX4_isLeftOut 131 = .ok (.getfield 75, 3) := by decide +kernel
theorem dX4_isLeftOut_134 : decode cX4_isLeftOut 134 = .ok (.iadd, 1) := by decide +kernel
theorem dX4_isLeftOut_135 : decode cX4_isLeftOut 135 = .ok (.aload_n 0, 1) := by decide +kernel
theorem dX4_isLeftOut_136 : decode cX4_isLeftOut 136 = .ok (.getfield 23, 3) := by decide +kernel
theorem dX4_isLeftOut_139 : decode cX4_isLeftOut 139 = .ok (.iconst 4, 1) := by decide +kernel
theorem dX4_isLeftOut_140 : decode cX4_isLeftOut 140 = .ok (.iload_n 1, 1) := by decide +kernel
theorem dX4_isLeftOut_141 : decode cX4_isLeftOut 141 = .ok (.imul, 1) := by decide +kernel
theorem dX4_isLeftOut_142 : decode cX4_isLeftOut 142 = .ok (.iconst 1, 1) := by decide +kernel
theorem dX4_isLeftOut_143 : decode cX4_isLeftOut 143 = .ok (.iadd, 1) := by decide +kernel
theorem dX4_isLeftOut_144 : decode cX4_isLeftOut 144 = .ok (.iaload, 1) := by decide +kernel
theorem dX4_isLeftOut_145 : decode cX4_isLeftOut 145 = .ok (.iadd, 1) := by decide +kernel
theorem dX4_isLeftOut_146 : decode cX4_isLeftOut 146 = .ok (.istore 10, 2) := by decide +kernel
theorem dX4_isLeftOut_148 : decode cX4_isLeftOut 148 = .ok (.iload 7, 2) := by decide +kernel
theorem dX4_isLeftOut_150 : decode cX4_isLeftOut 150 = .ok (.ifCond .eq 8, 3) := by decide +kernel
theorem dX4_isLeftOut_153 : decode cX4_isLeftOut 153 = .ok (.iload 8, 2) := by decide +kernel
theorem dX4_isLeftOut_155 : decode cX4_isLeftOut 155 = .ok (.ifCond .ne 39, 3) := by decide +kernel
theorem dX4_isLeftOut_158 : decode cX4_isLeftOut 158 = .ok (.iload 5, 2) := by decide +kernel
theorem dX4_isLeftOut_160 : decode cX4_isLeftOut 160 = .ok (.ifCond .le 38, 3) := by decide +kernel
theorem dX4_isLeftOut_163 : decode cX4_isLeftOut 163 = .ok (.iload_n 2, 1) := by decide +kernel
theorem dX4_isLeftOut_164 : decode cX4_isLeftOut 164 = .ok (.iload 9, 2) := by decide +kernel
theorem dX4_isLeftOut_166 : decode cX4_isLeftOut 166 = .ok (.iload 10, 2) := by decide +kernel
theorem dX4_isLeftOut_168 : decode cX4_isLeftOut 168 = .ok (.aload_n 0, 1) := by decide +kernel
theorem dX4_isLeftOut_169 : decode cX4_isLeftOut 169 = .ok (.getfield 23, 3) := by decide +kernel
theorem dX4_isLeftOut_172 : decode cX4_isLeftOut 172 = .ok (.iconst 4, 1) := by decide +kernel
theorem dX4_isLeftOut_173 : decode cX4_isLeftOut 173 = .ok (.iload_n 1, 1) := by decide +kernel
theorem dX4_isLeftOut_174 : decode cX4_isLeftOut 174 = .ok (.imul, 1) := by decide +kernel
theorem dX4_isLeftOut_175 : decode cX4_isLeftOut 175 = .ok (.iconst 2, 1) := by decide +kernel
theorem dX4_isLeftOut_176 : decode cX4_isLeftOut 176 = .ok (.iadd, 1) := by decide +kernel
theorem dX4_isLeftOut_177 : decode cX4_isLeftOut 177 = .ok (.iaload, 1) := by decide +kernel
theorem dX4_isLeftOut_178 : decode cX4_isLeftOut 178 = .ok (.aload_n 0, 1) := by decide +kernel
theorem dX4_isLeftOut_179 : decode cX4_isLeftOut 179 = .ok (.getfield 23, 3) := by decide +kernel
theorem dX4_isLeftOut_182 : decode cX4_isLeftOut 182 = .ok (.iconst 4, 1) := by decide +kernel
theorem dX4_isLeftOut_183 : decode cX4_isLeftOut 183 = .ok (.iload_n 1, 1) := by decide +kernel
theorem dX4_isLeftOut_184 : decode cX4_isLeftOut 184 = .ok (.imul, 1) := by decide +kernel
theorem dX4_isLeftOut_185 : decode cX4_isLeftOut 185 = .ok (.iconst 3, 1) := by decide +kernel
theorem dX4_isLeftOut_186 : decode cX4_isLeftOut 186 = .ok (.iadd, 1) := by decide +kernel
theorem dX4_isLeftOut_187 : decode cX4_isLeftOut 187 = .ok (.iaload, 1) := by decide +kernel
theorem dX4_isLeftOut_188 : decode cX4_isLeftOut 188 = .ok (.invokestatic 86, 3) := by decide +kernel
theorem dX4_isLeftOut_191 : decode cX4_isLeftOut 191 = .ok (.ifCond .eq 7, 3) := by decide +kernel
theorem dX4_isLeftOut_194 : decode cX4_isLeftOut 194 = .ok (.iconst 1, 1) := by decide +kernel
theorem dX4_isLeftOut_195 : decode cX4_isLeftOut 195 = .ok (.goto 4, 3) := by decide +kernel
theorem dX4_isLeftOut_198 : decode cX4_isLeftOut 198 = .ok (.iconst 0, 1) := by decide +kernel
theorem dX4_isLeftOut_199 : decode cX4_isLeftOut 199 = .ok (.ireturn, 1) := by decide +kernel
set_option maxRecDepth 20000 in
theorem ggX4_isSoft_X4_isCell : GoodIn wsX4_isSoft wsX4_isCell := goodIn_r _ [6, 7, 8, 5, 9] (by decide +kernel) (by decide +kernel)
set_option maxRecDepth 20000 in
theorem gX4_isSoft_X4_isCell : GoodIn wsX4_isSoft (va_wsS RX4 40 yX4_isCell wsX4_isCell) := goodIn_app (goodIn_of _ (by decide +kernel)) ggX4_isSoft_X4_isCell
set_option maxRecDepth 20000 in
theorem ggX4_isSoft_X4_placeOf : GoodIn wsX4_isSoft wsX4_placeOf := goodIn_r _ [12] (by decide +kernel) (by decide +kernel)
set_option maxRecDepth 20000 in
theorem gX4_isSoft_X4_placeOf : GoodIn wsX4_isSoft (va_wsS RX4 55 yX4_placeOf wsX4_placeOf) := goodIn_app (goodIn_of _ (by decide +kernel)) ggX4_isSoft_X4_placeOf
set_option maxRecDepth 20000 in
theorem ggX4_isSoft_X4_in : GoodIn wsX4_isSoft wsX4_in := goodIn_r _ [9] (by decide +kernel) (by decide +kernel)
set_option maxRecDepth 20000 in
theorem gX4_isSoft_X4_in : GoodIn wsX4_isSoft (va_wsS RX4 36 yX4_in wsX4_in) := goodIn_app (goodIn_of _ (by decide +kernel)) ggX4_isSoft_X4_in
theorem dX4_isSoft_0 : decode cX4_isSoft 0 = .ok (.sipush 255, 3) := by decide +kernel
theorem dX4_isSoft_3 : decode cX4_isSoft 3 = .ok (.istore 5, 2) := by decide +kernel
theorem dX4_isSoft_5 : decode cX4_isSoft 5 = .ok (.iconst 0, 1) := by decide +kernel
theorem dX4_isSoft_6 : decode cX4_isSoft 6 = .ok (.istore 6, 2) := by decide +kernel
theorem dX4_isSoft_8 : decode cX4_isSoft 8 = .ok (.iconst 0, 1) := by decide +kernel
theorem dX4_isSoft_9 : decode cX4_isSoft 9 = .ok (.istore 7, 2) := by decide +kernel
theorem dX4_isSoft_11 : decode cX4_isSoft 11 = .ok (.iload 7, 2) := by decide +kernel
theorem dX4_isSoft_13 : decode cX4_isSoft 13 = .ok (.bipush 9, 2) := by decide +kernel
theorem dX4_isSoft_15 : decode cX4_isSoft 15 = .ok (.if_icmp .ge 99, 3) := by decide +kernel
theorem dX4_isSoft_18 : decode cX4_isSoft 18 = .ok (.iload 4, 2) := by decide +kernel
theorem dX4_isSoft_20 : decode cX4_isSoft 20 = .ok (.bipush 8, 2) := by decide +kernel
theorem dX4_isSoft_22 : decode cX4_isSoft 22 = .ok (.irem, 1) := by decide +kernel
theorem dX4_isSoft_23 : decode cX4_isSoft 23 = .ok (.iload 7, 2) := by decide +kernel
theorem dX4_isSoft_25 : decode cX4_isSoft 25 = .ok (.iconst 3, 1) := by decide +kernel
theorem dX4_isSoft_26 : decode cX4_isSoft 26 = .ok (.irem, 1) := by decide +kernel
theorem dX4_isSoft_27 : decode cX4_isSoft 27 = .ok (.iadd, 1) := by decide +kernel
theorem dX4_isSoft_28 : decode cX4_isSoft 28 = .ok (.iconst 1, 1) := by decide +kernel
theorem dX4_isSoft_29 : decode cX4_isSoft 29 = .ok (.isub, 1) := by decide +kernel
theorem dX4_isSoft_30 : decode cX4_isSoft 30 = .ok (.istore 8, 2) := by decide +kernel
theorem dX4_isSoft_32 : decode cX4_isSoft 32 = .ok (.iload 4, 2) := by decide +kernel
theorem dX4_isSoft_34 : decode cX4_isSoft 34 = .ok (.bipush 8, 2) := by decide +kernel
theorem dX4_isSoft_36 : decode cX4_isSoft 36 = .ok (.idiv, 1) := by decide +kernel
theorem dX4_isSoft_37 : decode cX4_isSoft 37 = .ok (.iload 7, 2) := by decide +kernel
theorem dX4_isSoft_39 : decode cX4_isSoft 39 = .ok (.iconst 3, 1) := by decide +kernel
theorem dX4_isSoft_40 : decode cX4_isSoft 40 = .ok (.idiv, 1) := by decide +kernel
theorem dX4_isSoft_41 : decode cX4_isSoft 41 = .ok (.iadd, 1) := by decide +kernel
theorem dX4_isSoft_42 : decode cX4_isSoft 42 = .ok (.iconst 1, 1) := by decide +kernel
theorem dX4_isSoft_43 : decode cX4_isSoft 43 = .ok (.isub, 1) := by decide +kernel
theorem dX4_isSoft_44 : decode cX4_isSoft 44 = .ok (.istore 9, 2) := by decide +kernel
theorem dX4_isSoft_46 : decode cX4_isSoft 46 = .ok (.iload 8, 2) := by decide +kernel
theorem dX4_isSoft_48 : decode cX4_isSoft 48 = .ok (.iload 9, 2) := by decide +kernel
theorem dX4_isSoft_50 : decode cX4_isSoft 50 = .ok (.invokestatic 40, 3) := by decide +kernel
theorem dX4_isSoft_53 : decode cX4_isSoft 53 = .ok (.ifCond .eq 55, 3) := by decide +kernel
theorem dX4_isSoft_56 : decode cX4_isSoft 56 = .ok (.aload_n 0, 1) := by decide +kernel
theorem dX4_isSoft_57 : decode cX4_isSoft 57 = .ok (.getfield 7, 3) := by decide +kernel
theorem dX4_isSoft_60 : decode cX4_isSoft 60 = .ok (.bipush 64, 2) := by decide +kernel
theorem dX4_isSoft_62 : decode cX4_isSoft 62 = .ok (.iload_n 2, 1) := by decide +kernel
theorem dX4_isSoft_63 : decode cX4_isSoft 63 = .ok (.imul, 1) := by decide +kernel
theorem dX4_isSoft_64 : decode cX4_isSoft 64 = .ok (.bipush 8, 2) := by decide +kernel
theorem dX4_isSoft_66 : decode cX4_isSoft 66 = .ok (.iload 9, 2) := by decide +kernel
theorem dX4_isSoft_68 : decode cX4_isSoft 68 = .ok (.imul, 1) := by decide +kernel
theorem dX4_isSoft_69 : decode cX4_isSoft 69 = .ok (.iadd, 1) := by decide +kernel
theorem dX4_isSoft_70 : decode cX4_isSoft 70 = .ok (.iload 8, 2) := by decide +kernel
theorem dX4_isSoft_72 : decode cX4_isSoft 72 = .ok (.iadd, 1) := by decide +kernel
theorem dX4_isSoft_73 : decode cX4_isSoft 73 = .ok (.iaload, 1) := by decide +kernel
theorem dX4_isSoft_74 : decode cX4_isSoft 74 = .ok (.istore 10, 2) := by decide +kernel
theorem dX4_isSoft_76 : decode cX4_isSoft 76 = .ok (.iload 10, 2) := by decide +kernel
theorem dX4_isSoft_78 : decode cX4_isSoft 78 = .ok (.iload 5, 2) := by decide +kernel
theorem dX4_isSoft_80 : decode cX4_isSoft 80 = .ok (.if_icmp .ge 8, 3) := by decide +kernel
theorem dX4_isSoft_83 : decode cX4_isSoft 83 = .ok (.iload 10, 2) := by decide +kernel
theorem dX4_isSoft_85 : decode cX4_isSoft 85 = .ok (.goto 5, 3) := by decide +kernel
theorem dX4_isSoft_88 : decode cX4_isSoft 88 = .ok (.iload 5, 2) := by decide +kernel
theorem dX4_isSoft_90 : decode cX4_isSoft 90 = .ok (.istore 5, 2) := by decide +kernel
theorem dX4_isSoft_92 : decode cX4_isSoft 92 = .ok (.iload 10, 2) := by decide +kernel
theorem dX4_isSoft_94 : decode cX4_isSoft 94 = .ok (.iload 6, 2) := by decide +kernel
theorem dX4_isSoft_96 : decode cX4_isSoft 96 = .ok (.if_icmp .le 8, 3) := by decide +kernel
theorem dX4_isSoft_99 : decode cX4_isSoft 99 = .ok (.iload 10, 2) := by decide +kernel
theorem dX4_isSoft_101 : decode cX4_isSoft 101 = .ok (.goto 5, 3) := by decide +kernel
theorem dX4_isSoft_104 : decode cX4_isSoft 104 = .ok (.iload 6, 2) := by decide +kernel
theorem dX4_isSoft_106 : decode cX4_isSoft 106 = .ok (.istore 6, 2) := by decide +kernel
theorem dX4_isSoft_108 : decode cX4_isSoft 108 = .ok (.iinc 7 1, 3) := by decide +kernel
theorem dX4_isSoft_111 : decode cX4_isSoft 111 = .ok (.goto (-100), 3) := by decide +kernel
theorem dX4_isSoft_114 : decode cX4_isSoft 114 = .ok (.iload 6, 2) := by decide +kernel
theorem dX4_isSoft_116 : decode cX4_isSoft 116 = .ok (.iload 5, 2) := by decide +kernel
theorem dX4_isSoft_118 : decode cX4_isSoft 118 = .ok (.isub, 1) := by decide +kernel
theorem dX4_isSoft_119 : decode cX4_isSoft 119 = .ok (.iload_n 3, 1) := by decide +kernel
theorem dX4_isSoft_120 : decode cX4_isSoft 120 = .ok (.if_icmp .le 33, 3) := by decide +kernel
theorem dX4_isSoft_123 : decode cX4_isSoft 123 = .ok (.aload_n 0, 1) := by decide +kernel
theorem dX4_isSoft_124 : decode cX4_isSoft 124 = .ok (.getfield 13, 3) := by decide +kernel
theorem dX4_isSoft_127 : decode cX4_isSoft 127 = .ok (.bipush 64, 2) := by decide +kernel
theorem dX4_isSoft_129 : decode cX4_isSoft 129 = .ok (.iload_n 1, 1) := by decide +kernel
theorem dX4_isSoft_130 : decode cX4_isSoft 130 = .ok (.iload_n 2, 1) := by decide +kernel
theorem dX4_isSoft_131 : decode cX4_isSoft 131 = .ok (.invokestatic 55, 3) := by decide +kernel
theorem dX4_isSoft_134 : decode cX4_isSoft 134 = .ok (.imul, 1) := by decide +kernel
theorem dX4_isSoft_135 : decode cX4_isSoft 135 = .ok (.iload 4, 2) := by decide +kernel
theorem dX4_isSoft_137 : decode cX4_isSoft 137 = .ok (.iadd, 1) := by decide +kernel
theorem dX4_isSoft_138 : decode cX4_isSoft 138 = .ok (.iaload, 1) := by decide +kernel
theorem dX4_isSoft_139 : decode cX4_isSoft 139 = .ok (.iload 5, 2) := by decide +kernel
theorem dX4_isSoft_141 : decode cX4_isSoft 141 = .ok (.iload 6, 2) := by decide +kernel
theorem dX4_isSoft_143 : decode cX4_isSoft 143 = .ok (.invokestatic 36, 3) := by decide +kernel
theorem dX4_isSoft_146 : decode cX4_isSoft 146 = .ok (.ifCond .eq 7, 3) := by decide +kernel
theorem dX4_isSoft_149 : decode cX4_isSoft 149 = .ok (.iconst 1, 1) := by decide +kernel
theorem dX4_isSoft_150 : decode cX4_isSoft 150 = .ok (.goto 4, 3) := by decide +kernel
theorem dX4_isSoft_153 : decode cX4_isSoft 153 = .ok (.iconst 0, 1) := by decide +kernel
theorem dX4_isSoft_154 : decode cX4_isSoft 154 = .ok (.ireturn, 1) := by decide +kernel
set_option maxRecDepth 20000 in
theorem ggX4_differs_X4_placeOf : GoodIn wsX4_differs wsX4_placeOf := goodIn_r _ [6] (by decide +kernel) (by decide +kernel)
set_option maxRecDepth 20000 in
theorem gX4_differs_X4_placeOf : GoodIn wsX4_differs (va_wsS RX4 55 yX4_placeOf wsX4_placeOf) := goodIn_app (goodIn_of _ (by decide +kernel)) ggX4_differs_X4_placeOf
set_option maxRecDepth 20000 in
theorem ggX4_differs_X4_areAlike : GoodIn wsX4_differs wsX4_areAlike := goodIn_r _ [10, 11, 12, 5, 13] (by decide +kernel) (by decide +kernel)
set_option maxRecDepth 20000 in
theorem gX4_differs_X4_areAlike : GoodIn wsX4_differs (wsV RX4 69 RX4 yX4_areAlike wsX4_areAlike) := goodIn_app (goodIn_of _ (by decide +kernel)) ggX4_differs_X4_areAlike
set_option maxRecDepth 20000 in
theorem ggX4_differs_X4_isSoft : GoodIn wsX4_differs wsX4_isSoft := goodIn_r _ [17, 1, 2, 18, 19, 5, 20, 11, 12, 13, 3, 4, 6, 32, 33, 34, 35, 36, 37, 38, 39, 40, 41] (by decide +kernel) (by decide +kernel)
set_option maxRecDepth 20000 in
theorem gX4_differs_X4_isSoft : GoodIn wsX4_differs (wsV RX4 89 RX4 yX4_isSoft wsX4_isSoft) := goodIn_app (goodIn_of _ (by decide +kernel)) ggX4_differs_X4_isSoft
set_option maxRecDepth 20000 in
theorem ggX4_differs_X4_isLeftOut : GoodIn wsX4_differs wsX4_isLeftOut := goodIn_r _ [24, 25, 26, 27, 28, 29, 30, 5, 31, 11, 12, 13, 32, 33, 34, 35, 36, 37, 38, 39, 40, 41] (by decide +kernel) (by decide +kernel)
set_option maxRecDepth 20000 in
theorem gX4_differs_X4_isLeftOut : GoodIn wsX4_differs (wsV RX4 92 RX4 yX4_isLeftOut wsX4_isLeftOut) := goodIn_app (goodIn_of _ (by decide +kernel)) ggX4_differs_X4_isLeftOut
theorem dX4_differs_0 : decode cX4_differs 0 = .ok (.aload_n 0, 1) := by decide +kernel
theorem dX4_differs_1 : decode cX4_differs 1 = .ok (.aload_n 0, 1) := by decide +kernel
theorem dX4_differs_2 : decode cX4_differs 2 = .ok (.getfield 7, 3) := by decide +kernel
theorem dX4_differs_5 : decode cX4_differs 5 = .ok (.bipush 64, 2) := by decide +kernel
theorem dX4_differs_7 : decode cX4_differs 7 = .ok (.iload_n 2, 1) := by decide +kernel
theorem dX4_differs_8 : decode cX4_differs 8 = .ok (.imul, 1) := by decide +kernel
theorem dX4_differs_9 : decode cX4_differs 9 = .ok (.iload 4, 2) := by decide +kernel
theorem dX4_differs_11 : decode cX4_differs 11 = .ok (.iadd, 1) := by decide +kernel
theorem dX4_differs_12 : decode cX4_differs 12 = .ok (.iaload, 1) := by decide +kernel
theorem dX4_differs_13 : decode cX4_differs 13 = .ok (.aload_n 0, 1) := by decide +kernel
theorem dX4_differs_14 : decode cX4_differs 14 = .ok (.getfield 13, 3) := by decide +kernel
theorem dX4_differs_17 : decode cX4_differs 17 = .ok (.bipush 64, 2) := by decide +kernel
theorem dX4_differs_19 : decode cX4_differs 19 = .ok (.iload_n 1, 1) := by decide +kernel
theorem dX4_differs_20 : decode cX4_differs 20 = .ok (.iload_n 2, 1) := by decide +kernel
theorem dX4_differs_21 : decode cX4_differs 21 = .ok (.invokestatic 55, 3) := by decide +kernel
theorem dX4_differs_24 : decode cX4_differs 24 = .ok (.imul, 1) := by decide +kernel
theorem dX4_differs_25 : decode cX4_differs 25 = .ok (.iload 4, 2) := by decide +kernel
theorem dX4_differs_27 : decode cX4_differs 27 = .ok (.iadd, 1) := by decide +kernel
theorem dX4_differs_28 : decode cX4_differs 28 = .ok (.iaload, 1) := by decide +kernel
theorem dX4_differs_29 : decode cX4_differs 29 = .ok (.iload_n 3, 1) := by decide +kernel
theorem dX4_differs_30 : decode cX4_differs 30 = .ok (.invokevirtual 69, 3) := by decide +kernel
theorem dX4_differs_33 : decode cX4_differs 33 = .ok (.istore 5, 2) := by decide +kernel
theorem dX4_differs_35 : decode cX4_differs 35 = .ok (.iload 5, 2) := by decide +kernel
theorem dX4_differs_37 : decode cX4_differs 37 = .ok (.ifCond .ne 29, 3) := by decide +kernel
theorem dX4_differs_40 : decode cX4_differs 40 = .ok (.aload_n 0, 1) := by decide +kernel
theorem dX4_differs_41 : decode cX4_differs 41 = .ok (.iload_n 1, 1) := by decide +kernel
theorem dX4_differs_42 : decode cX4_differs 42 = .ok (.iload_n 2, 1) := by decide +kernel
theorem dX4_differs_43 : decode cX4_differs 43 = .ok (.iload_n 3, 1) := by decide +kernel
theorem dX4_differs_44 : decode cX4_differs 44 = .ok (.iload 4, 2) := by decide +kernel
theorem dX4_differs_46 : decode cX4_differs 46 = .ok (.invokevirtual 89, 3) := by decide +kernel
theorem dX4_differs_49 : decode cX4_differs 49 = .ok (.ifCond .ne 17, 3) := by decide +kernel
theorem dX4_differs_52 : decode cX4_differs 52 = .ok (.aload_n 0, 1) := by decide +kernel
theorem dX4_differs_53 : decode cX4_differs 53 = .ok (.iload_n 2, 1) := by decide +kernel
theorem dX4_differs_54 : decode cX4_differs 54 = .ok (.iload 4, 2) := by decide +kernel
theorem dX4_differs_56 : decode cX4_differs 56 = .ok (.invokevirtual 92, 3) := by decide +kernel
theorem dX4_differs_59 : decode cX4_differs 59 = .ok (.ifCond .ne 7, 3) := by decide +kernel
theorem dX4_differs_62 : decode cX4_differs 62 = .ok (.iconst 1, 1) := by decide +kernel
theorem dX4_differs_63 : decode cX4_differs 63 = .ok (.goto 4, 3) := by decide +kernel
theorem dX4_differs_66 : decode cX4_differs 66 = .ok (.iconst 0, 1) := by decide +kernel
theorem dX4_differs_67 : decode cX4_differs 67 = .ok (.ireturn, 1) := by decide +kernel
set_option maxRecDepth 20000 in
theorem ggX4_canCompare_X4_in : GoodIn wsX4_canCompare wsX4_in := goodIn_r _ [5] (by decide +kernel) (by decide +kernel)
set_option maxRecDepth 20000 in
theorem gX4_canCompare_X4_in : GoodIn wsX4_canCompare (va_wsS RX4 36 yX4_in wsX4_in) := goodIn_app (goodIn_of _ (by decide +kernel)) ggX4_canCompare_X4_in
set_option maxRecDepth 20000 in
theorem ggX4_canCompare_X4_isTest : GoodIn wsX4_canCompare wsX4_isTest := goodIn_r _ [8, 2, 3, 4, 5] (by decide +kernel) (by decide +kernel)
set_option maxRecDepth 20000 in
theorem gX4_canCompare_X4_isTest : GoodIn wsX4_canCompare (va_wsS RX4 44 yX4_isTest wsX4_isTest) := goodIn_app (goodIn_of _ (by decide +kernel)) ggX4_canCompare_X4_isTest
set_option maxRecDepth 20000 in
theorem ggX4_canCompare_X4_placeOf : GoodIn wsX4_canCompare wsX4_placeOf := goodIn_r _ [11] (by decide +kernel) (by decide +kernel)
set_option maxRecDepth 20000 in
theorem gX4_canCompare_X4_placeOf : GoodIn wsX4_canCompare (va_wsS RX4 55 yX4_placeOf wsX4_placeOf) := goodIn_app (goodIn_of _ (by decide +kernel)) ggX4_canCompare_X4_placeOf
set_option maxRecDepth 20000 in
theorem ggX4_canCompare_X4_goesWell : GoodIn wsX4_canCompare wsX4_goesWell := goodIn_r _ [15, 16, 40, 41, 42, 43, 44, 45, 46, 47, 48, 49] (by decide +kernel) (by decide +kernel)
set_option maxRecDepth 20000 in
theorem gX4_canCompare_X4_goesWell : GoodIn wsX4_canCompare (wsV RX4 52 RX4 yX4_goesWell wsX4_goesWell) := goodIn_app (goodIn_of _ (by decide +kernel)) ggX4_canCompare_X4_goesWell
set_option maxRecDepth 20000 in
theorem ggX4_canCompare_X4_findMove : GoodIn wsX4_canCompare wsX4_findMove := goodIn_r _ [20, 21, 22, 23, 24, 25, 26, 4, 27, 28, 29, 9, 10, 11, 30, 31, 32, 2, 3, 5, 33, 34, 35, 36, 37, 38, 39, 40, 41, 42, 43, 44, 45, 46, 47, 48, 49] (by decide +kernel) (by decide +kernel)
set_option maxRecDepth 20000 in
theorem gX4_canCompare_X4_findMove : GoodIn wsX4_canCompare (wsV RX4 95 RX4 yX4_findMove wsX4_findMove) := goodIn_app (goodIn_of _ (by decide +kernel)) ggX4_canCompare_X4_findMove
end
section
theorem dX4_canCompare_0 : decode cX4_canCompare 0 = .ok (.iload_n 1, 1) := by decide +kernel
theorem dX4_canCompare_1 : decode cX4_canCompare 1 = .ok (.iconst 0, 1) := by decide +kernel
theorem dX4_canCompare_2 : decode cX4_canCompare 2 = .ok (.iconst 3, 1) := by decide +kernel
theorem dX4_canCompare_3 : decode cX4_canCompare 3 = .ok (.invokestatic 36, 3) := by decide +kernel
theorem dX4_canCompare_6 : decode cX4_canCompare 6 = .ok (.ifCond .eq 25, 3) := by decide +kernel
theorem dX4_canCompare_9 : decode cX4_canCompare 9 = .ok (.iload_n 2, 1) := by decide +kernel
theorem dX4_canCompare_10 : decode cX4_canCompare 10 = .ok (.invokestatic 44, 3) := by decide +kernel
theorem dX4_canCompare_13 : decode cX4_canCompare 13 = .ok (.ifCond .eq 18, 3) := by decide +kernel
theorem dX4_canCompare_16 : decode cX4_canCompare 16 = .ok (.iload_n 3, 1) := by decide +kernel
theorem dX4_canCompare_17 : decode cX4_canCompare 17 = .ok (.iconst 0, 1) := by decide +kernel
theorem dX4_canCompare_18 : decode cX4_canCompare 18 = .ok (.sipush 255, 3) := by decide +kernel
theorem dX4_canCompare_21 : decode cX4_canCompare 21 = .ok (.invokestatic 36, 3) := by decide +kernel
theorem dX4_canCompare_24 : decode cX4_canCompare 24 = .ok (.ifCond .eq 7, 3) := by decide +kernel
theorem dX4_canCompare_27 : decode cX4_canCompare 27 = .ok (.iconst 1, 1) := by decide +kernel
theorem dX4_canCompare_28 : decode cX4_canCompare 28 = .ok (.goto 4, 3) := by decide +kernel
theorem dX4_canCompare_31 : decode cX4_canCompare 31 = .ok (.iconst 0, 1) := by decide +kernel
theorem dX4_canCompare_32 : decode cX4_canCompare 32 = .ok (.istore 4, 2) := by decide +kernel
theorem dX4_canCompare_34 : decode cX4_canCompare 34 = .ok (.aload_n 0, 1) := by decide +kernel
theorem dX4_canCompare_35 : decode cX4_canCompare 35 = .ok (.iload 4, 2) := by decide +kernel
theorem dX4_canCompare_37 : decode cX4_canCompare 37 = .ok (.ifCond .ne 7, 3) := by decide +kernel
theorem dX4_canCompare_40 : decode cX4_canCompare 40 = .ok (.iconst 1, 1) := by decide +kernel
theorem dX4_canCompare_41 : decode cX4_canCompare 41 = .ok (.goto 21, 3) := by decide +kernel
theorem dX4_canCompare_44 : decode cX4_canCompare 44 = .ok (.aload_n 0, 1) := by decide +kernel
theorem dX4_canCompare_45 : decode cX4_canCompare 45 = .ok (.getfield 16, 3) := by decide +kernel
theorem dX4_canCompare_48 : decode cX4_canCompare 48 = .ok (.iload_n 1, 1) := by decide +kernel
theorem dX4_canCompare_49 : decode cX4_canCompare 49 = .ok (.iload_n 2, 1) := by decide +kernel
theorem dX4_canCompare_50 : decode cX4_canCompare 50 = .ok (.invokestatic 55, 3) := by decide +kernel
theorem dX4_canCompare_53 : decode cX4_canCompare 53 = .ok (.baload, 1) := by decide +kernel
theorem dX4_canCompare_54 : decode cX4_canCompare 54 = .ok (.ifCond .eq 7, 3) := by decide +kernel
theorem dX4_canCompare_57 : decode cX4_canCompare 57 = .ok (.iconst 0, 1) := by decide +kernel
theorem dX4_canCompare_58 : decode cX4_canCompare 58 = .ok (.goto 4, 3) := by decide +kernel
theorem dX4_canCompare_61 : decode cX4_canCompare 61 = .ok (.iconst 2, 1) := by decide +kernel
theorem dX4_canCompare_62 : decode cX4_canCompare 62 = .ok (.invokevirtual 52, 3) := by decide +kernel
theorem dX4_canCompare_65 : decode cX4_canCompare 65 = .ok (.ifCond .ne 5, 3) := by decide +kernel
theorem dX4_canCompare_68 : decode cX4_canCompare 68 = .ok (.iconst 0, 1) := by decide +kernel
theorem dX4_canCompare_69 : decode cX4_canCompare 69 = .ok (.ireturn, 1) := by decide +kernel
theorem dX4_canCompare_70 : decode cX4_canCompare 70 = .ok (.aload_n 0, 1) := by decide +kernel
theorem dX4_canCompare_71 : decode cX4_canCompare 71 = .ok (.iload_n 1, 1) := by decide +kernel
theorem dX4_canCompare_72 : decode cX4_canCompare 72 = .ok (.iload_n 2, 1) := by decide +kernel
theorem dX4_canCompare_73 : decode cX4_canCompare 73 = .ok (.iload_n 3, 1) := by decide +kernel
theorem dX4_canCompare_74 : decode cX4_canCompare 74 = .ok (.invokevirtual 95, 3) := by decide +kernel
theorem dX4_canCompare_77 : decode cX4_canCompare 77 = .ok (.iconst 1, 1) := by decide +kernel
theorem dX4_canCompare_78 : decode cX4_canCompare 78 = .ok (.ireturn, 1) := by decide +kernel
set_option maxRecDepth 20000 in
theorem ggX4_first_X4_differs : GoodIn wsX4_first wsX4_differs := goodIn_r _ [5, 6, 7, 8, 9, 4, 10, 11, 12, 13, 14, 15, 16, 17, 18, 19, 20, 21, 22, 23, 24, 25, 26, 27, 28, 29, 30, 31, 32, 33, 34, 35, 36, 37, 38, 39, 40, 41, 42, 43, 44, 45] (by decide +kernel) (by decide +kernel)
set_option maxRecDepth 20000 in
theorem gX4_first_X4_differs : GoodIn wsX4_first (wsV RX4 99 RX4 yX4_differs wsX4_differs) := goodIn_app (goodIn_of _ (by decide +kernel)) ggX4_first_X4_differs
theorem dX4_first_0 : decode cX4_first 0 = .ok (.iconst 0, 1) := by decide +kernel
theorem dX4_first_1 : decode cX4_first 1 = .ok (.istore 4, 2) := by decide +kernel
theorem dX4_first_3 : decode cX4_first 3 = .ok (.iload 4, 2) := by decide +kernel
theorem dX4_first_5 : decode cX4_first 5 = .ok (.bipush 64, 2) := by decide +kernel
theorem dX4_first_7 : decode cX4_first 7 = .ok (.if_icmp .ge 24, 3) := by decide +kernel
theorem dX4_first_10 : decode cX4_first 10 = .ok (.aload_n 0, 1) := by decide +kernel
theorem dX4_first_11 : decode cX4_first 11 = .ok (.iload_n 1, 1) := by decide +kernel
theorem dX4_first_12 : decode cX4_first 12 = .ok (.iload_n 2, 1) := by decide +kernel
theorem dX4_first_13 : decode cX4_first 13 = .ok (.iload_n 3, 1) := by decide +kernel
theorem dX4_first_14 : decode cX4_first 14 = .ok (.iload 4, 2) := by decide +kernel
theorem dX4_first_16 : decode cX4_first 16 = .ok (.invokevirtual 99, 3) := by decide +kernel
theorem dX4_first_19 : decode cX4_first 19 = .ok (.ifCond .eq 6, 3) := by decide +kernel
theorem dX4_first_22 : decode cX4_first 22 = .ok (.iload 4, 2) := by decide +kernel
theorem dX4_first_24 : decode cX4_first 24 = .ok (.ireturn, 1) := by decide +kernel
theorem dX4_first_25 : decode cX4_first 25 = .ok (.iinc 4 1, 3) := by decide +kernel
theorem dX4_first_28 : decode cX4_first 28 = .ok (.goto (-25), 3) := by decide +kernel
theorem dX4_first_31 : decode cX4_first 31 = .ok (.iconst (-1), 1) := by decide +kernel
theorem dX4_first_32 : decode cX4_first 32 = .ok (.ireturn, 1) := by decide +kernel
set_option maxRecDepth 20000 in
theorem ggX4_differences_X4_canCompare : GoodIn wsX4_differences wsX4_canCompare := goodIn_r _ [5, 6, 7, 8, 4, 9, 10, 11, 12, 13, 14, 15, 16, 17, 18, 19, 20, 21, 22, 23, 24, 25, 26, 27, 28, 29, 30, 31, 32, 33, 34, 35, 36, 37, 38, 39, 40, 41, 42, 43, 60, 61, 62, 63, 64, 65, 66, 67, 68, 69] (by decide +kernel) (by decide +kernel)
set_option maxRecDepth 20000 in
theorem gX4_differences_X4_canCompare : GoodIn wsX4_differences (wsV RX4 102 RX4 yX4_canCompare wsX4_canCompare) := goodIn_app (goodIn_of _ (by decide +kernel)) ggX4_differences_X4_canCompare
set_option maxRecDepth 20000 in
theorem ggX4_differences_X4_differs : GoodIn wsX4_differences wsX4_differs := goodIn_r _ [47, 33, 32, 13, 14, 4, 15, 37, 38, 39, 40, 7, 8, 9, 48, 49, 50, 51, 34, 35, 36, 52, 53, 54, 55, 27, 25, 26, 56, 57, 58, 59, 60, 61, 62, 63, 64, 65, 66, 67, 68, 69] (by decide +kernel) (by decide +kernel)
set_option maxRecDepth 20000 in
theorem gX4_differences_X4_differs : GoodIn wsX4_differences (wsV RX4 99 RX4 yX4_differs wsX4_differs) := goodIn_app (goodIn_of _ (by decide +kernel)) ggX4_differences_X4_differs
theorem dX4_differences_0 : decode cX4_differences 0 = .ok (.iconst 0, 1) := by decide +kernel
theorem dX4_differences_1 : decode cX4_differences 1 = .ok (.istore 4, 2) := by decide +kernel
theorem dX4_differences_3 : decode cX4_differences 3 = .ok (.aload_n 0, 1) := by decide +kernel
theorem dX4_differences_4 : decode cX4_differences 4 = .ok (.iload_n 1, 1) := by decide +kernel
theorem dX4_differences_5 : decode cX4_differences 5 = .ok (.iload_n 2, 1) := by decide +kernel
theorem dX4_differences_6 : decode cX4_differences 6 = .ok (.iload_n 3, 1) := by decide +kernel
theorem dX4_differences_7 : decode cX4_differences 7 = .ok (.invokevirtual 102, 3) := by decide +kernel
theorem dX4_differences_10 : decode cX4_differences 10 = .ok (.istore 5, 2) := by decide +kernel
theorem dX4_differences_12 : decode cX4_differences 12 = .ok (.iconst 0, 1) := by decide +kernel
theorem dX4_differences_13 : decode cX4_differences 13 = .ok (.istore 6, 2) := by decide +kernel
theorem dX4_differences_15 : decode cX4_differences 15 = .ok (.iload 6, 2) := by decide +kernel
theorem dX4_differences_17 : decode cX4_differences 17 = .ok (.bipush 64, 2) := by decide +kernel
theorem dX4_differences_19 : decode cX4_differences 19 = .ok (.if_icmp .ge 36, 3) := by decide +kernel
theorem dX4_differences_22 : decode cX4_differences 22 = .ok (.iload 5, 2) := by decide +kernel
theorem dX4_differences_24 : decode cX4_differences 24 = .ok (.ifCond .eq 31, 3) := by decide +kernel
theorem dX4_differences_27 : decode cX4_differences 27 = .ok (.iload 4, 2) := by decide +kernel
theorem dX4_differences_29 : decode cX4_differences 29 = .ok (.aload_n 0, 1) := by decide +kernel
theorem dX4_differences_30 : decode cX4_differences 30 = .ok (.iload_n 1, 1) := by decide +kernel
theorem dX4_differences_31 : decode cX4_differences 31 = .ok (.iload_n 2, 1) := by decide +kernel
theorem dX4_differences_32 : decode cX4_differences 32 = .ok (.iload_n 3, 1) := by decide +kernel
theorem dX4_differences_33 : decode cX4_differences 33 = .ok (.iload 6, 2) := by decide +kernel
theorem dX4_differences_35 : decode cX4_differences 35 = .ok (.invokevirtual 99, 3) := by decide +kernel
theorem dX4_differences_38 : decode cX4_differences 38 = .ok (.ifCond .eq 7, 3) := by decide +kernel
theorem dX4_differences_41 : decode cX4_differences 41 = .ok (.iconst 1, 1) := by decide +kernel
theorem dX4_differences_42 : decode cX4_differences 42 = .ok (.goto 4, 3) := by decide +kernel
theorem dX4_differences_45 : decode cX4_differences 45 = .ok (.iconst 0, 1) := by decide +kernel
theorem dX4_differences_46 : decode cX4_differences 46 = .ok (.iadd, 1) := by decide +kernel
theorem dX4_differences_47 : decode cX4_differences 47 = .ok (.istore 4, 2) := by decide +kernel
theorem dX4_differences_49 : decode cX4_differences 49 = .ok (.iinc 6 1, 3) := by decide +kernel
theorem dX4_differences_52 : decode cX4_differences 52 = .ok (.goto (-37), 3) := by decide +kernel
theorem dX4_differences_55 : decode cX4_differences 55 = .ok (.iload 4, 2) := by decide +kernel
theorem dX4_differences_57 : decode cX4_differences 57 = .ok (.ireturn, 1) := by decide +kernel
set_option maxRecDepth 20000 in
theorem ggX4_firstDifference_X4_canCompare : GoodIn wsX4_firstDifference wsX4_canCompare := goodIn_r _ [5, 6, 7, 8, 4, 9, 10, 11, 12, 13, 14, 15, 16, 17, 18, 19, 20, 21, 22, 23, 24, 25, 26, 27, 28, 29, 30, 31, 32, 33, 34, 35, 36, 37, 38, 39, 40, 41, 42, 43, 64, 65, 66, 67, 68, 69, 70, 71, 72, 73] (by decide +kernel) (by decide +kernel)
set_option maxRecDepth 20000 in
theorem gX4_firstDifference_X4_canCompare : GoodIn wsX4_firstDifference (wsV RX4 102 RX4 yX4_canCompare wsX4_canCompare) := goodIn_app (goodIn_of _ (by decide +kernel)) ggX4_firstDifference_X4_canCompare
set_option maxRecDepth 20000 in
theorem ggX4_firstDifference_X4_first : GoodIn wsX4_firstDifference wsX4_first := goodIn_r _ [47, 48, 49, 50, 4, 51, 33, 32, 13, 14, 15, 37, 38, 39, 40, 7, 8, 9, 52, 53, 54, 55, 34, 35, 36, 56, 57, 58, 59, 27, 25, 26, 60, 61, 62, 63, 64, 65, 66, 67, 68, 69, 70, 71, 72, 73] (by decide +kernel) (by decide +kernel)
set_option maxRecDepth 20000 in
theorem gX4_firstDifference_X4_first : GoodIn wsX4_firstDifference (wsV RX4 105 RX4 yX4_first wsX4_first) := goodIn_app (goodIn_of _ (by decide +kernel)) ggX4_firstDifference_X4_first
theorem dX4_firstDifference_0 : decode cX4_firstDifference 0 = .ok (.aload_n 0, 1) := by decide +kernel
theorem dX4_firstDifference_1 : decode cX4_firstDifference 1 = .ok (.iload_n 1, 1) := by decide +kernel
theorem dX4_firstDifference_2 : decode cX4_firstDifference 2 = .ok (.iload_n 2, 1) := by decide +kernel
theorem dX4_firstDifference_3 : decode cX4_firstDifference 3 = .ok (.iload_n 3, 1) := by decide +kernel
theorem dX4_firstDifference_4 : decode cX4_firstDifference 4 = .ok (.invokevirtual 102, 3) := by decide +kernel
theorem dX4_firstDifference_7 : decode cX4_firstDifference 7 = .ok (.ifCond .eq 13, 3) := by decide +kernel
theorem dX4_firstDifference_10 : decode cX4_firstDifference 10 = .ok (.aload_n 0, 1) := by decide +kernel
theorem dX4_firstDifference_11 : decode cX4_firstDifference 11 = .ok (.iload_n 1, 1) := by decide +kernel
theorem dX4_firstDifference_12 : decode cX4_firstDifference 12 = .ok (.iload_n 2, 1) := by decide +kernel
theorem dX4_firstDifference_13 : decode cX4_firstDifference 13 = .ok (.iload_n 3, 1) := by decide +kernel
theorem dX4_firstDifference_14 : decode cX4_firstDifference 14 = .ok (.invokevirtual 105, 3) := by decide +kernel
theorem dX4_firstDifference_17 : decode cX4_firstDifference 17 = .ok (.goto 4, 3) := by decide +kernel
theorem dX4_firstDifference_20 : decode cX4_firstDifference 20 = .ok (.iconst 0, 1) := by decide +kernel
theorem dX4_firstDifference_21 : decode cX4_firstDifference 21 = .ok (.ireturn, 1) := by decide +kernel
set_option maxRecDepth 20000 in
theorem ggX4_move_X4_canCompare : GoodIn wsX4_move wsX4_canCompare := goodIn_r _ [7, 8, 9, 10, 6, 11, 12, 13, 14, 15, 16, 17, 18, 19, 20, 21, 22, 23, 24, 25, 26, 2, 1, 27, 28, 29, 30, 31, 32, 33, 34, 35, 36, 37, 38, 39, 40, 41, 42, 43, 44, 45, 46, 47, 48, 49, 50, 51, 52, 53] (by decide +kernel) (by decide +kernel)
set_option maxRecDepth 20000 in
theorem gX4_move_X4_canCompare : GoodIn wsX4_move (wsV RX4 102 RX4 yX4_canCompare wsX4_canCompare) := goodIn_app (goodIn_of _ (by decide +kernel)) ggX4_move_X4_canCompare
theorem dX4_move_0 : decode cX4_move 0 = .ok (.aload_n 0, 1) := by decide +kernel
theorem dX4_move_1 : decode cX4_move 1 = .ok (.iload_n 1, 1) := by decide +kernel
theorem dX4_move_2 : decode cX4_move 2 = .ok (.iload_n 2, 1) := by decide +kernel
theorem dX4_move_3 : decode cX4_move 3 = .ok (.iload_n 3, 1) := by decide +kernel
theorem dX4_move_4 : decode cX4_move 4 = .ok (.invokevirtual 102, 3) := by decide +kernel
theorem dX4_move_7 : decode cX4_move 7 = .ok (.ifCond .eq 24, 3) := by decide +kernel
theorem dX4_move_10 : decode cX4_move 10 = .ok (.bipush 100, 2) := by decide +kernel
theorem dX4_move_12 : decode cX4_move 12 = .ok (.aload_n 0, 1) := by decide +kernel
theorem dX4_move_13 : decode cX4_move 13 = .ok (.getfield 75, 3) := by decide +kernel
theorem dX4_move_16 : decode cX4_move 16 = .ok (.bipush 50, 2) := by decide +kernel
theorem dX4_move_18 : decode cX4_move 18 = .ok (.iadd, 1) := by decide +kernel
theorem dX4_move_19 : decode cX4_move 19 = .ok (.imul, 1) := by decide +kernel
theorem dX4_move_20 : decode cX4_move 20 = .ok (.aload_n 0, 1) := by decide +kernel
theorem dX4_move_21 : decode cX4_move 21 = .ok (.getfield 72, 3) := by decide +kernel
theorem dX4_move_24 : decode cX4_move 24 = .ok (.iadd, 1) := by decide +kernel
theorem dX4_move_25 : decode cX4_move 25 = .ok (.bipush 50, 2) := by decide +kernel
theorem dX4_move_27 : decode cX4_move 27 = .ok (.iadd, 1) := by decide +kernel
theorem dX4_move_28 : decode cX4_move 28 = .ok (.goto 4, 3) := by decide +kernel
theorem dX4_move_31 : decode cX4_move 31 = .ok (.iconst 0, 1) := by decide +kernel
theorem dX4_move_32 : decode cX4_move 32 = .ok (.ireturn, 1) := by decide +kernel
set_option maxRecDepth 20000 in
theorem ggX4_soft_X4_canCompare : GoodIn wsX4_soft wsX4_canCompare := goodIn_r _ [5, 6, 7, 8, 4, 9, 10, 11, 12, 13, 14, 15, 16, 17, 18, 19, 20, 21, 22, 23, 24, 25, 26, 27, 28, 29, 30, 31, 32, 33, 34, 35, 36, 37, 38, 39, 40, 41, 42, 43, 48, 49, 50, 51, 52, 53, 54, 55, 56, 57] (by decide +kernel) (by decide +kernel)
set_option maxRecDepth 20000 in
theorem gX4_soft_X4_canCompare : GoodIn wsX4_soft (wsV RX4 102 RX4 yX4_canCompare wsX4_canCompare) := goodIn_app (goodIn_of _ (by decide +kernel)) ggX4_soft_X4_canCompare
set_option maxRecDepth 20000 in
theorem ggX4_soft_X4_isSoft : GoodIn wsX4_soft wsX4_isSoft := goodIn_r _ [47, 33, 32, 34, 35, 4, 36, 7, 8, 9, 13, 14, 15, 48, 49, 50, 51, 52, 53, 54, 55, 56, 57] (by decide +kernel) (by decide +kernel)
set_option maxRecDepth 20000 in
theorem gX4_soft_X4_isSoft : GoodIn wsX4_soft (wsV RX4 89 RX4 yX4_isSoft wsX4_isSoft) := goodIn_app (goodIn_of _ (by decide +kernel)) ggX4_soft_X4_isSoft
theorem dX4_soft_0 : decode cX4_soft 0 = .ok (.iconst 0, 1) := by decide +kernel
theorem dX4_soft_1 : decode cX4_soft 1 = .ok (.istore 4, 2) := by decide +kernel
theorem dX4_soft_3 : decode cX4_soft 3 = .ok (.aload_n 0, 1) := by decide +kernel
theorem dX4_soft_4 : decode cX4_soft 4 = .ok (.iload_n 1, 1) := by decide +kernel
theorem dX4_soft_5 : decode cX4_soft 5 = .ok (.iload_n 2, 1) := by decide +kernel
theorem dX4_soft_6 : decode cX4_soft 6 = .ok (.iload_n 3, 1) := by decide +kernel
theorem dX4_soft_7 : decode cX4_soft 7 = .ok (.invokevirtual 102, 3) := by decide +kernel
theorem dX4_soft_10 : decode cX4_soft 10 = .ok (.istore 5, 2) := by decide +kernel
theorem dX4_soft_12 : decode cX4_soft 12 = .ok (.iconst 0, 1) := by decide +kernel
theorem dX4_soft_13 : decode cX4_soft 13 = .ok (.istore 6, 2) := by decide +kernel
theorem dX4_soft_15 : decode cX4_soft 15 = .ok (.iload 6, 2) := by decide +kernel
theorem dX4_soft_17 : decode cX4_soft 17 = .ok (.bipush 64, 2) := by decide +kernel
theorem dX4_soft_19 : decode cX4_soft 19 = .ok (.if_icmp .ge 36, 3) := by decide +kernel
theorem dX4_soft_22 : decode cX4_soft 22 = .ok (.iload 5, 2) := by decide +kernel
theorem dX4_soft_24 : decode cX4_soft 24 = .ok (.ifCond .eq 31, 3) := by decide +kernel
theorem dX4_soft_27 : decode cX4_soft 27 = .ok (.iload 4, 2) := by decide +kernel
theorem dX4_soft_29 : decode cX4_soft 29 = .ok (.aload_n 0, 1) := by decide +kernel
theorem dX4_soft_30 : decode cX4_soft 30 = .ok (.iload_n 1, 1) := by decide +kernel
theorem dX4_soft_31 : decode cX4_soft 31 = .ok (.iload_n 2, 1) := by decide +kernel
theorem dX4_soft_32 : decode cX4_soft 32 = .ok (.iload_n 3, 1) := by decide +kernel
theorem dX4_soft_33 : decode cX4_soft 33 = .ok (.iload 6, 2) := by decide +kernel
theorem dX4_soft_35 : decode cX4_soft 35 = .ok (.invokevirtual 89, 3) := by decide +kernel
theorem dX4_soft_38 : decode cX4_soft 38 = .ok (.ifCond .eq 7, 3) := by decide +kernel
theorem dX4_soft_41 : decode cX4_soft 41 = .ok (.iconst 1, 1) := by decide +kernel
theorem dX4_soft_42 : decode cX4_soft 42 = .ok (.goto 4, 3) := by decide +kernel
theorem dX4_soft_45 : decode cX4_soft 45 = .ok (.iconst 0, 1) := by decide +kernel
theorem dX4_soft_46 : decode cX4_soft 46 = .ok (.iadd, 1) := by decide +kernel
theorem dX4_soft_47 : decode cX4_soft 47 = .ok (.istore 4, 2) := by decide +kernel
theorem dX4_soft_49 : decode cX4_soft 49 = .ok (.iinc 6 1, 3) := by decide +kernel
theorem dX4_soft_52 : decode cX4_soft 52 = .ok (.goto (-37), 3) := by decide +kernel
theorem dX4_soft_55 : decode cX4_soft 55 = .ok (.iload 4, 2) := by decide +kernel
theorem dX4_soft_57 : decode cX4_soft 57 = .ok (.ireturn, 1) := by decide +kernel
set_option maxRecDepth 20000 in
theorem ggX4_run_X4_canCompare : GoodIn wsX4_run wsX4_canCompare := goodIn_r _ [7, 8, 9, 10, 6, 11, 12, 13, 14, 15, 16, 17, 18, 19, 20, 21, 22, 23, 24, 25, 26, 27, 28, 29, 30, 31, 32, 33, 34, 35, 36, 37, 38, 39, 40, 41, 42, 43, 44, 45, 66, 67, 68, 69, 70, 71, 72, 73, 74, 75] (by decide +kernel) (by decide +kernel)
set_option maxRecDepth 20000 in
theorem gX4_run_X4_canCompare : GoodIn wsX4_run (wsV RX4 102 RX4 yX4_canCompare wsX4_canCompare) := goodIn_app (goodIn_of _ (by decide +kernel)) ggX4_run_X4_canCompare
set_option maxRecDepth 20000 in
theorem ggX4_run_X4_first : GoodIn wsX4_run wsX4_first := goodIn_r _ [49, 50, 51, 52, 6, 53, 35, 34, 15, 16, 17, 39, 40, 41, 42, 9, 10, 11, 54, 55, 56, 57, 36, 37, 38, 58, 59, 60, 61, 29, 27, 28, 62, 63, 64, 65, 66, 67, 68, 69, 70, 71, 72, 73, 74, 75] (by decide +kernel) (by decide +kernel)
set_option maxRecDepth 20000 in
theorem gX4_run_X4_first : GoodIn wsX4_run (wsV RX4 105 RX4 yX4_first wsX4_first) := goodIn_app (goodIn_of _ (by decide +kernel)) ggX4_run_X4_first
theorem dX4_run_0 : decode cX4_run 0 = .ok (.aload_n 0, 1) := by decide +kernel
theorem dX4_run_1 : decode cX4_run 1 = .ok (.iload_n 1, 1) := by decide +kernel
theorem dX4_run_2 : decode cX4_run 2 = .ok (.iload_n 2, 1) := by decide +kernel
theorem dX4_run_3 : decode cX4_run 3 = .ok (.iload_n 3, 1) := by decide +kernel
theorem dX4_run_4 : decode cX4_run 4 = .ok (.invokevirtual 102, 3) := by decide +kernel
theorem dX4_run_7 : decode cX4_run 7 = .ok (.ifCond .ne 5, 3) := by decide +kernel
theorem dX4_run_10 : decode cX4_run 10 = .ok (.iconst 0, 1) := by decide +kernel
theorem dX4_run_11 : decode cX4_run 11 = .ok (.ireturn, 1) := by decide +kernel
theorem dX4_run_12 : decode cX4_run 12 = .ok (.aload_n 0, 1) := by decide +kernel
theorem dX4_run_13 : decode cX4_run 13 = .ok (.iload_n 1, 1) := by decide +kernel
theorem dX4_run_14 : decode cX4_run 14 = .ok (.iload_n 2, 1) := by decide +kernel
theorem dX4_run_15 : decode cX4_run 15 = .ok (.iload_n 3, 1) := by decide +kernel
theorem dX4_run_16 : decode cX4_run 16 = .ok (.invokevirtual 105, 3) := by decide +kernel
theorem dX4_run_19 : decode cX4_run 19 = .ok (.iconst (-1), 1) := by decide +kernel
theorem dX4_run_20 : decode cX4_run 20 = .ok (.if_icmp .ne 7, 3) := by decide +kernel
theorem dX4_run_23 : decode cX4_run 23 = .ok (.iconst 1, 1) := by decide +kernel
theorem dX4_run_24 : decode cX4_run 24 = .ok (.goto 4, 3) := by decide +kernel
theorem dX4_run_27 : decode cX4_run 27 = .ok (.iconst 0, 1) := by decide +kernel
theorem dX4_run_28 : decode cX4_run 28 = .ok (.istore 4, 2) := by decide +kernel
theorem dX4_run_30 : decode cX4_run 30 = .ok (.aload_n 0, 1) := by decide +kernel
theorem dX4_run_31 : decode cX4_run 31 = .ok (.getfield 29, 3) := by decide +kernel
theorem dX4_run_34 : decode cX4_run 34 = .ok (.iload_n 2, 1) := by decide +kernel
theorem dX4_run_35 : decode cX4_run 35 = .ok (.iaload, 1) := by decide +kernel
theorem dX4_run_36 : decode cX4_run 36 = .ok (.bipush 10, 2) := by decide +kernel
theorem dX4_run_38 : decode cX4_run 38 = .ok (.if_icmp .ne 55, 3) := by decide +kernel
theorem dX4_run_41 : decode cX4_run 41 = .ok (.iconst 1, 1) := by decide +kernel
theorem dX4_run_42 : decode cX4_run 42 = .ok (.istore 5, 2) := by decide +kernel
theorem dX4_run_44 : decode cX4_run 44 = .ok (.iload 5, 2) := by decide +kernel
theorem dX4_run_46 : decode cX4_run 46 = .ok (.bipush 10, 2) := by decide +kernel
theorem dX4_run_48 : decode cX4_run 48 = .ok (.if_icmp .ge 35, 3) := by decide +kernel
theorem dX4_run_51 : decode cX4_run 51 = .ok (.aload_n 0, 1) := by decide +kernel
theorem dX4_run_52 : decode cX4_run 52 = .ok (.getfield 26, 3) := by decide +kernel
theorem dX4_run_55 : decode cX4_run 55 = .ok (.bipush 10, 2) := by decide +kernel
theorem dX4_run_57 : decode cX4_run 57 = .ok (.iload_n 2, 1) := by decide +kernel
theorem dX4_run_58 : decode cX4_run 58 = .ok (.imul, 1) := by decide +kernel
theorem dX4_run_59 : decode cX4_run 59 = .ok (.iload 5, 2) := by decide +kernel
theorem dX4_run_61 : decode cX4_run 61 = .ok (.iadd, 1) := by decide +kernel
theorem dX4_run_62 : decode cX4_run 62 = .ok (.iconst 1, 1) := by decide +kernel
theorem dX4_run_63 : decode cX4_run 63 = .ok (.isub, 1) := by decide +kernel
theorem dX4_run_64 : decode cX4_run 64 = .ok (.aload_n 0, 1) := by decide +kernel
theorem dX4_run_65 : decode cX4_run 65 = .ok (.getfield 26, 3) := by decide +kernel
theorem dX4_run_68 : decode cX4_run 68 = .ok (.bipush 10, 2) := by decide +kernel
theorem dX4_run_70 : decode cX4_run 70 = .ok (.iload_n 2, 1) := by decide +kernel
theorem dX4_run_71 : decode cX4_run 71 = .ok (.imul, 1) := by decide +kernel
theorem dX4_run_72 : decode cX4_run 72 = .ok (.iload 5, 2) := by decide +kernel
theorem dX4_run_74 : decode cX4_run 74 = .ok (.iadd, 1) := by decide +kernel
theorem dX4_run_75 : decode cX4_run 75 = .ok (.iaload, 1) := by decide +kernel
theorem dX4_run_76 : decode cX4_run 76 = .ok (.iastore, 1) := by decide +kernel
theorem dX4_run_77 : decode cX4_run 77 = .ok (.iinc 5 1, 3) := by decide +kernel
theorem dX4_run_80 : decode cX4_run 80 = .ok (.goto (-36), 3) := by decide +kernel
theorem dX4_run_83 : decode cX4_run 83 = .ok (.aload_n 0, 1) := by decide +kernel
theorem dX4_run_84 : decode cX4_run 84 = .ok (.getfield 29, 3) := by decide +kernel
theorem dX4_run_87 : decode cX4_run 87 = .ok (.iload_n 2, 1) := by decide +kernel
theorem dX4_run_88 : decode cX4_run 88 = .ok (.dup2, 1) := by decide +kernel
theorem dX4_run_89 : decode cX4_run 89 = .ok (.iaload, 1) := by decide +kernel
theorem dX4_run_90 : decode cX4_run 90 = .ok (.iconst 1, 1) := by decide +kernel
theorem dX4_run_91 : decode cX4_run 91 = .ok (.isub, 1) := by decide +kernel
theorem dX4_run_92 : decode cX4_run 92 = .ok (.iastore, 1) := by decide +kernel
theorem dX4_run_93 : decode cX4_run 93 = .ok (.aload_n 0, 1) := by decide +kernel
theorem dX4_run_94 : decode cX4_run 94 = .ok (.getfield 26, 3) := by decide +kernel
theorem dX4_run_97 : decode cX4_run 97 = .ok (.bipush 10, 2) := by decide +kernel
theorem dX4_run_99 : decode cX4_run 99 = .ok (.iload_n 2, 1) := by decide +kernel
theorem dX4_run_100 : decode cX4_run 100 = .ok (.imul, 1) := by decide +kernel
theorem dX4_run_101 : decode cX4_run 101 = .ok (.aload_n 0, 1) := by decide +kernel
theorem dX4_run_102 : decode cX4_run 102 = .ok (.getfield 29, 3) := by decide +kernel
theorem dX4_run_105 : decode cX4_run 105 = .ok (.iload_n 2, 1) := by decide +kernel
theorem dX4_run_106 : decode cX4_run 106 = .ok (.iaload, 1) := by decide +kernel
theorem dX4_run_107 : decode cX4_run 107 = .ok (.iadd, 1) := by decide +kernel
theorem dX4_run_108 : decode cX4_run 108 = .ok (.iload 4, 2) := by decide +kernel
theorem dX4_run_110 : decode cX4_run 110 = .ok (.ifCond .eq 7, 3) := by decide +kernel
theorem dX4_run_113 : decode cX4_run 113 = .ok (.iconst 1, 1) := by decide +kernel
theorem dX4_run_114 : decode cX4_run 114 = .ok (.goto 4, 3) := by decide +kernel
theorem dX4_run_117 : decode cX4_run 117 = .ok (.iconst 0, 1) := by decide +kernel
theorem dX4_run_118 : decode cX4_run 118 = .ok (.iastore, 1) := by decide +kernel
theorem dX4_run_119 : decode cX4_run 119 = .ok (.aload_n 0, 1) := by decide +kernel
theorem dX4_run_120 : decode cX4_run 120 = .ok (.getfield 29, 3) := by decide +kernel
theorem dX4_run_123 : decode cX4_run 123 = .ok (.iload_n 2, 1) := by decide +kernel
theorem dX4_run_124 : decode cX4_run 124 = .ok (.dup2, 1) := by decide +kernel
theorem dX4_run_125 : decode cX4_run 125 = .ok (.iaload, 1) := by decide +kernel
theorem dX4_run_126 : decode cX4_run 126 = .ok (.iconst 1, 1) := by decide +kernel
theorem dX4_run_127 : decode cX4_run 127 = .ok (.iadd, 1) := by decide +kernel
theorem dX4_run_128 : decode cX4_run 128 = .ok (.iastore, 1) := by decide +kernel
theorem dX4_run_129 : decode cX4_run 129 = .ok (.iload 4, 2) := by decide +kernel
theorem dX4_run_131 : decode cX4_run 131 = .ok (.ireturn, 1) := by decide +kernel
set_option maxRecDepth 20000 in
theorem ggX4_runs_X4_isTest : GoodIn wsX4_runs wsX4_isTest := goodIn_r _ [5, 6, 7, 4, 8] (by decide +kernel) (by decide +kernel)
set_option maxRecDepth 20000 in
theorem gX4_runs_X4_isTest : GoodIn wsX4_runs (va_wsS RX4 44 yX4_isTest wsX4_isTest) := goodIn_app (goodIn_of _ (by decide +kernel)) ggX4_runs_X4_isTest
set_option maxRecDepth 20000 in
theorem ggX4_runs_X4_goesWell : GoodIn wsX4_runs wsX4_goesWell := goodIn_r _ [12, 13, 14, 15, 16, 17, 18, 19, 20, 21, 22, 23] (by decide +kernel) (by decide +kernel)
set_option maxRecDepth 20000 in
theorem gX4_runs_X4_goesWell : GoodIn wsX4_runs (wsV RX4 52 RX4 yX4_goesWell wsX4_goesWell) := goodIn_app (goodIn_of _ (by decide +kernel)) ggX4_runs_X4_goesWell
theorem dX4_runs_0 : decode cX4_runs 0 = .ok (.aload_n 0, 1) := by decide +kernel
theorem dX4_runs_1 : decode cX4_runs 1 = .ok (.iload_n 1, 1) := by decide +kernel
theorem dX4_runs_2 : decode cX4_runs 2 = .ok (.invokestatic 44, 3) := by decide +kernel
theorem dX4_runs_5 : decode cX4_runs 5 = .ok (.ifCond .eq 7, 3) := by decide +kernel
theorem dX4_runs_8 : decode cX4_runs 8 = .ok (.iconst 0, 1) := by decide +kernel
theorem dX4_runs_9 : decode cX4_runs 9 = .ok (.goto 4, 3) := by decide +kernel
theorem dX4_runs_12 : decode cX4_runs 12 = .ok (.iconst 1, 1) := by decide +kernel
theorem dX4_runs_13 : decode cX4_runs 13 = .ok (.invokevirtual 52, 3) := by decide +kernel
theorem dX4_runs_16 : decode cX4_runs 16 = .ok (.ifCond .eq 12, 3) := by decide +kernel
theorem dX4_runs_19 : decode cX4_runs 19 = .ok (.aload_n 0, 1) := by decide +kernel
theorem dX4_runs_20 : decode cX4_runs 20 = .ok (.getfield 29, 3) := by decide +kernel
theorem dX4_runs_23 : decode cX4_runs 23 = .ok (.iload_n 1, 1) := by decide +kernel
theorem dX4_runs_24 : decode cX4_runs 24 = .ok (.iaload, 1) := by decide +kernel
theorem dX4_runs_25 : decode cX4_runs 25 = .ok (.goto 4, 3) := by decide +kernel
theorem dX4_runs_28 : decode cX4_runs 28 = .ok (.iconst 0, 1) := by decide +kernel
theorem dX4_runs_29 : decode cX4_runs 29 = .ok (.ireturn, 1) := by decide +kernel
set_option maxRecDepth 20000 in
theorem ggX4_doubt_X4_isTest : GoodIn wsX4_doubt wsX4_isTest := goodIn_r _ [6, 7, 8, 5, 9] (by decide +kernel) (by decide +kernel)
set_option maxRecDepth 20000 in
theorem gX4_doubt_X4_isTest : GoodIn wsX4_doubt (va_wsS RX4 44 yX4_isTest wsX4_isTest) := goodIn_app (goodIn_of _ (by decide +kernel)) ggX4_doubt_X4_isTest
set_option maxRecDepth 20000 in
theorem ggX4_doubt_X4_goesWell : GoodIn wsX4_doubt wsX4_goesWell := goodIn_r _ [13, 14, 15, 16, 17, 18, 19, 20, 21, 22, 23, 24] (by decide +kernel) (by decide +kernel)
set_option maxRecDepth 20000 in
theorem gX4_doubt_X4_goesWell : GoodIn wsX4_doubt (wsV RX4 52 RX4 yX4_goesWell wsX4_goesWell) := goodIn_app (goodIn_of _ (by decide +kernel)) ggX4_doubt_X4_goesWell
theorem dX4_doubt_0 : decode cX4_doubt 0 = .ok (.aload_n 0, 1) := by decide +kernel
theorem dX4_doubt_1 : decode cX4_doubt 1 = .ok (.iload_n 1, 1) := by decide +kernel
theorem dX4_doubt_2 : decode cX4_doubt 2 = .ok (.invokestatic 44, 3) := by decide +kernel
theorem dX4_doubt_5 : decode cX4_doubt 5 = .ok (.ifCond .eq 7, 3) := by decide +kernel
theorem dX4_doubt_8 : decode cX4_doubt 8 = .ok (.iconst 0, 1) := by decide +kernel
theorem dX4_doubt_9 : decode cX4_doubt 9 = .ok (.goto 4, 3) := by decide +kernel
theorem dX4_doubt_12 : decode cX4_doubt 12 = .ok (.iconst 1, 1) := by decide +kernel
theorem dX4_doubt_13 : decode cX4_doubt 13 = .ok (.invokevirtual 52, 3) := by decide +kernel
theorem dX4_doubt_16 : decode cX4_doubt 16 = .ok (.ifCond .ne 5, 3) := by decide +kernel
theorem dX4_doubt_19 : decode cX4_doubt 19 = .ok (.iconst 0, 1) := by decide +kernel
theorem dX4_doubt_20 : decode cX4_doubt 20 = .ok (.ireturn, 1) := by decide +kernel
theorem dX4_doubt_21 : decode cX4_doubt 21 = .ok (.iconst 0, 1) := by decide +kernel
theorem dX4_doubt_22 : decode cX4_doubt 22 = .ok (.istore_n 2, 1) := by decide +kernel
theorem dX4_doubt_23 : decode cX4_doubt 23 = .ok (.iconst 1, 1) := by decide +kernel
theorem dX4_doubt_24 : decode cX4_doubt 24 = .ok (.istore_n 3, 1) := by decide +kernel
theorem dX4_doubt_25 : decode cX4_doubt 25 = .ok (.iload_n 3, 1) := by decide +kernel
theorem dX4_doubt_26 : decode cX4_doubt 26 = .ok (.aload_n 0, 1) := by decide +kernel
theorem dX4_doubt_27 : decode cX4_doubt 27 = .ok (.getfield 29, 3) := by decide +kernel
theorem dX4_doubt_30 : decode cX4_doubt 30 = .ok (.iload_n 1, 1) := by decide +kernel
theorem dX4_doubt_31 : decode cX4_doubt 31 = .ok (.iaload, 1) := by decide +kernel
theorem dX4_doubt_32 : decode cX4_doubt 32 = .ok (.if_icmp .ge 44, 3) := by decide +kernel
theorem dX4_doubt_35 : decode cX4_doubt 35 = .ok (.iload_n 2, 1) := by decide +kernel
theorem dX4_doubt_36 : decode cX4_doubt 36 = .ok (.aload_n 0, 1) := by decide +kernel
theorem dX4_doubt_37 : decode cX4_doubt 37 = .ok (.getfield 26, 3) := by decide +kernel
theorem dX4_doubt_40 : decode cX4_doubt 40 = .ok (.bipush 10, 2) := by decide +kernel
theorem dX4_doubt_42 : decode cX4_doubt 42 = .ok (.iload_n 1, 1) := by decide +kernel
theorem dX4_doubt_43 : decode cX4_doubt 43 = .ok (.imul, 1) := by decide +kernel
theorem dX4_doubt_44 : decode cX4_doubt 44 = .ok (.iload_n 3, 1) := by decide +kernel
theorem dX4_doubt_45 : decode cX4_doubt 45 = .ok (.iadd, 1) := by decide +kernel
theorem dX4_doubt_46 : decode cX4_doubt 46 = .ok (.iaload, 1) := by decide +kernel
theorem dX4_doubt_47 : decode cX4_doubt 47 = .ok (.aload_n 0, 1) := by decide +kernel
theorem dX4_doubt_48 : decode cX4_doubt 48 = .ok (.getfield 26, 3) := by decide +kernel
theorem dX4_doubt_51 : decode cX4_doubt 51 = .ok (.bipush 10, 2) := by decide +kernel
theorem dX4_doubt_53 : decode cX4_doubt 53 = .ok (.iload_n 1, 1) := by decide +kernel
theorem dX4_doubt_54 : decode cX4_doubt 54 = .ok (.imul, 1) := by decide +kernel
theorem dX4_doubt_55 : decode cX4_doubt 55 = .ok (.iload_n 3, 1) := by decide +kernel
theorem dX4_doubt_56 : decode cX4_doubt 56 = .ok (.iadd, 1) := by decide +kernel
theorem dX4_doubt_57 : decode cX4_doubt 57 = .ok (.iconst 1, 1) := by decide +kernel
theorem dX4_doubt_58 : decode cX4_doubt 58 = .ok (.isub, 1) := by decide +kernel
theorem dX4_doubt_59 : decode cX4_doubt 59 = .ok (.iaload, 1) := by decide +kernel
theorem dX4_doubt_60 : decode cX4_doubt 60 = .ok (.if_icmp .ne 7, 3) := by decide +kernel
theorem dX4_doubt_63 : decode cX4_doubt 63 = .ok (.iconst 0, 1) := by decide +kernel
theorem dX4_doubt_64 : decode cX4_doubt 64 = .ok (.goto 4, 3) := by decide +kernel
theorem dX4_doubt_67 : decode cX4_doubt 67 = .ok (.iconst 1, 1) := by decide +kernel
theorem dX4_doubt_68 : decode cX4_doubt 68 = .ok (.iadd, 1) := by decide +kernel
theorem dX4_doubt_69 : decode cX4_doubt 69 = .ok (.istore_n 2, 1) := by decide +kernel
theorem dX4_doubt_70 : decode cX4_doubt 70 = .ok (.iinc 3 1, 3) := by decide +kernel
theorem dX4_doubt_73 : decode cX4_doubt 73 = .ok (.goto (-48), 3) := by decide +kernel
theorem dX4_doubt_76 : decode cX4_doubt 76 = .ok (.aload_n 0, 1) := by decide +kernel
theorem dX4_doubt_77 : decode cX4_doubt 77 = .ok (.getfield 29, 3) := by decide +kernel
theorem dX4_doubt_80 : decode cX4_doubt 80 = .ok (.iload_n 1, 1) := by decide +kernel
theorem dX4_doubt_81 : decode cX4_doubt 81 = .ok (.iaload, 1) := by decide +kernel
theorem dX4_doubt_82 : decode cX4_doubt 82 = .ok (.iconst 2, 1) := by decide +kernel
theorem dX4_doubt_83 : decode cX4_doubt 83 = .ok (.if_icmp .ge 7, 3) := by decide +kernel
theorem dX4_doubt_86 : decode cX4_doubt 86 = .ok (.iconst 0, 1) := by decide +kernel
theorem dX4_doubt_87 : decode cX4_doubt 87 = .ok (.goto 16, 3) := by decide +kernel
theorem dX4_doubt_90 : decode cX4_doubt 90 = .ok (.bipush 100, 2) := by decide +kernel
theorem dX4_doubt_92 : decode cX4_doubt 92 = .ok (.iload_n 2, 1) := by decide +kernel
theorem dX4_doubt_93 : decode cX4_doubt 93 = .ok (.imul, 1) := by decide +kernel
theorem dX4_doubt_94 : decode cX4_doubt 94 = .ok (.aload_n 0, 1) := by decide +kernel
theorem dX4_doubt_95 : decode cX4_doubt 95 = .ok (.getfield 29, 3) := by decide +kernel
theorem dX4_doubt_98 : decode cX4_doubt 98 = .ok (.iload_n 1, 1) := by decide +kernel
theorem dX4_doubt_99 : decode cX4_doubt 99 = .ok (.iaload, 1) := by decide +kernel
theorem dX4_doubt_100 : decode cX4_doubt 100 = .ok (.iconst 1, 1) := by decide +kernel
theorem dX4_doubt_101 : decode cX4_doubt 101 = .ok (.isub, 1) := by decide +kernel
theorem dX4_doubt_102 : decode cX4_doubt 102 = .ok (.idiv, 1) := by decide +kernel
theorem dX4_doubt_103 : decode cX4_doubt 103 = .ok (.ireturn, 1) := by decide +kernel
theorem dJ6_bitCount_0f7a4_0 : decode cJ6_bitCount_0f7a4 0 = .ok (.iload_n 0, 1) := by decide +kernel
theorem dJ6_bitCount_0f7a4_1 : decode cJ6_bitCount_0f7a4 1 = .ok (.iload_n 0, 1) := by decide +kernel
theorem dJ6_bitCount_0f7a4_2 : decode cJ6_bitCount_0f7a4 2 = .ok (.iconst 1, 1) := by decide +kernel
theorem dJ6_bitCount_0f7a4_3 : decode cJ6_bitCount_0f7a4 3 = .ok (.iushr, 1) := by decide +kernel
theorem dJ6_bitCount_0f7a4_4 : decode cJ6_bitCount_0f7a4 4 = .ok (.ldc_w 265, 3) := by decide +kernel
theorem dJ6_bitCount_0f7a4_7 : decode cJ6_bitCount_0f7a4 7 = .ok (.iand, 1) := by decide +kernel
theorem dJ6_bitCount_0f7a4_8 : decode cJ6_bitCount_0f7a4 8 = .ok (.isub, 1) := by decide +kernel
theorem dJ6_bitCount_0f7a4_9 : decode cJ6_bitCount_0f7a4 9 = .ok (.istore_n 0, 1) := by decide +kernel
theorem dJ6_bitCount_0f7a4_10 : decode cJ6_bitCount_0f7a4 10 = .ok (.iload_n 0, 1) := by decide +kernel
theorem dJ6_bitCount_0f7a4_11 : decode cJ6_bitCount_0f7a4 11 = .ok (.ldc_w 266, 3) := by decide +kernel
theorem dJ6_bitCount_0f7a4_14 : decode cJ6_bitCount_0f7a4 14 = .ok (.iand, 1) := by decide +kernel
theorem dJ6_bitCount_0f7a4_15 : decode cJ6_bitCount_0f7a4 15 = .ok (.iload_n 0, 1) := by decide +kernel
theorem dJ6_bitCount_0f7a4_16 : decode cJ6_bitCount_0f7a4 16 = .ok (.iconst 2, 1) := by decide +kernel
theorem dJ6_bitCount_0f7a4_17 : decode cJ6_bitCount_0f7a4 17 = .ok (.iushr, 1) := by decide +kernel
theorem dJ6_bitCount_0f7a4_18 : decode cJ6_bitCount_0f7a4 18 = .ok (.ldc_w 266, 3) := by decide +kernel
theorem dJ6_bitCount_0f7a4_21 : decode cJ6_bitCount_0f7a4 21 = .ok (.iand, 1) := by decide +kernel
theorem dJ6_bitCount_0f7a4_22 : decode cJ6_bitCount_0f7a4 22 = .ok (.iadd, 1) := by decide +kernel
theorem dJ6_bitCount_0f7a4_23 : decode cJ6_bitCount_0f7a4 23 = .ok (.istore_n 0, 1) := by decide +kernel
theorem dJ6_bitCount_0f7a4_24 : decode cJ6_bitCount_0f7a4 24 = .ok (.iload_n 0, 1) := by decide +kernel
theorem dJ6_bitCount_0f7a4_25 : decode cJ6_bitCount_0f7a4 25 = .ok (.iload_n 0, 1) := by decide +kernel
theorem dJ6_bitCount_0f7a4_26 : decode cJ6_bitCount_0f7a4 26 = .ok (.iconst 4, 1) := by decide +kernel
theorem dJ6_bitCount_0f7a4_27 : decode cJ6_bitCount_0f7a4 27 = .ok (.iushr, 1) := by decide +kernel
theorem dJ6_bitCount_0f7a4_28 : decode cJ6_bitCount_0f7a4 28 = .ok (.iadd, 1) := by decide +kernel
theorem dJ6_bitCount_0f7a4_29 : decode cJ6_bitCount_0f7a4 29 = .ok (.ldc_w 267, 3) := by decide +kernel
theorem dJ6_bitCount_0f7a4_32 : decode cJ6_bitCount_0f7a4 32 = .ok (.iand, 1) := by decide +kernel
theorem dJ6_bitCount_0f7a4_33 : decode cJ6_bitCount_0f7a4 33 = .ok (.istore_n 0, 1) := by decide +kernel
theorem dJ6_bitCount_0f7a4_34 : decode cJ6_bitCount_0f7a4 34 = .ok (.iload_n 0, 1) := by decide +kernel
theorem dJ6_bitCount_0f7a4_35 : decode cJ6_bitCount_0f7a4 35 = .ok (.iload_n 0, 1) := by decide +kernel
theorem dJ6_bitCount_0f7a4_36 : decode cJ6_bitCount_0f7a4 36 = .ok (.bipush 8, 2) := by decide +kernel
theorem dJ6_bitCount_0f7a4_38 : decode cJ6_bitCount_0f7a4 38 = .ok (.iushr, 1) := by decide +kernel
theorem dJ6_bitCount_0f7a4_39 : decode cJ6_bitCount_0f7a4 39 = .ok (.iadd, 1) := by decide +kernel
theorem dJ6_bitCount_0f7a4_40 : decode cJ6_bitCount_0f7a4 40 = .ok (.istore_n 0, 1) := by decide +kernel
theorem dJ6_bitCount_0f7a4_41 : decode cJ6_bitCount_0f7a4 41 = .ok (.iload_n 0, 1) := by decide +kernel
theorem dJ6_bitCount_0f7a4_42 : decode cJ6_bitCount_0f7a4 42 = .ok (.iload_n 0, 1) := by decide +kernel
theorem dJ6_bitCount_0f7a4_43 : decode cJ6_bitCount_0f7a4 43 = .ok (.bipush 16, 2) := by decide +kernel
theorem dJ6_bitCount_0f7a4_45 : decode cJ6_bitCount_0f7a4 45 = .ok (.iushr, 1) := by decide +kernel
theorem dJ6_bitCount_0f7a4_46 : decode cJ6_bitCount_0f7a4 46 = .ok (.iadd, 1) := by decide +kernel
theorem dJ6_bitCount_0f7a4_47 : decode cJ6_bitCount_0f7a4 47 = .ok (.istore_n 0, 1) := by decide +kernel
theorem dJ6_bitCount_0f7a4_48 : decode cJ6_bitCount_0f7a4 48 = .ok (.iload_n 0, 1) := by decide +kernel
theorem dJ6_bitCount_0f7a4_49 : decode cJ6_bitCount_0f7a4 49 = .ok (.bipush 63, 2) := by decide +kernel
theorem dJ6_bitCount_0f7a4_51 : decode cJ6_bitCount_0f7a4 51 = .ok (.iand, 1) := by decide +kernel
theorem dJ6_bitCount_0f7a4_52 : decode cJ6_bitCount_0f7a4 52 = .ok (.ireturn, 1) := by decide +kernel
theorem dJ9_abs_0f7a4_0 : decode cJ9_abs_0f7a4 0 = .ok (.iload_n 0, 1) := by decide +kernel
theorem dJ9_abs_0f7a4_1 : decode cJ9_abs_0f7a4 1 = .ok (.ifCond .ge 8, 3) := by decide +kernel
theorem dJ9_abs_0f7a4_4 : decode cJ9_abs_0f7a4 4 = .ok (.iload_n 0, 1) := by decide +kernel
theorem dJ9_abs_0f7a4_5 : decode cJ9_abs_0f7a4 5 = .ok (.ineg, 1) := by decide +kernel
theorem dJ9_abs_0f7a4_6 : decode cJ9_abs_0f7a4 6 = .ok (.goto 4, 3) := by decide +kernel
theorem dJ9_abs_0f7a4_9 : decode cJ9_abs_0f7a4 9 = .ok (.iload_n 0, 1) := by decide +kernel
theorem dJ9_abs_0f7a4_10 : decode cJ9_abs_0f7a4 10 = .ok (.ireturn, 1) := by decide +kernel
theorem dJ9_max_7cf53_0 : decode cJ9_max_7cf53 0 = .ok (.iload_n 0, 1) := by decide +kernel
theorem dJ9_max_7cf53_1 : decode cJ9_max_7cf53 1 = .ok (.iload_n 1, 1) := by decide +kernel
theorem dJ9_max_7cf53_2 : decode cJ9_max_7cf53 2 = .ok (.if_icmp .lt 7, 3) := by decide +kernel
theorem dJ9_max_7cf53_5 : decode cJ9_max_7cf53 5 = .ok (.iload_n 0, 1) := by decide +kernel
theorem dJ9_max_7cf53_6 : decode cJ9_max_7cf53 6 = .ok (.goto 4, 3) := by decide +kernel
theorem dJ9_max_7cf53_9 : decode cJ9_max_7cf53 9 = .ok (.iload_n 1, 1) := by decide +kernel
theorem dJ9_max_7cf53_10 : decode cJ9_max_7cf53 10 = .ok (.ireturn, 1) := by decide +kernel
theorem dJ9_min_7cf53_0 : decode cJ9_min_7cf53 0 = .ok (.iload_n 0, 1) := by decide +kernel
theorem dJ9_min_7cf53_1 : decode cJ9_min_7cf53 1 = .ok (.iload_n 1, 1) := by decide +kernel
theorem dJ9_min_7cf53_2 : decode cJ9_min_7cf53 2 = .ok (.if_icmp .gt 7, 3) := by decide +kernel
theorem dJ9_min_7cf53_5 : decode cJ9_min_7cf53 5 = .ok (.iload_n 0, 1) := by decide +kernel
theorem dJ9_min_7cf53_6 : decode cJ9_min_7cf53 6 = .ok (.goto 4, 3) := by decide +kernel
theorem dJ9_min_7cf53_9 : decode cJ9_min_7cf53 9 = .ok (.iload_n 1, 1) := by decide +kernel
theorem dJ9_min_7cf53_10 : decode cJ9_min_7cf53 10 = .ok (.ireturn, 1) := by decide +kernel
set_option maxRecDepth 20000 in
theorem ggL_paint_X3_paint : GoodIn wsL_paint wsX3_paint := goodIn_ca (goodIn_r _ [6, 7, 8, 9, 5, 10, 11, 12, 13, 14, 15, 16, 17, 18, 19, 20, 21, 22, 23, 24, 25, 26, 27, 28, 29, 30, 31, 32, 33, 34, 35, 36, 37, 38, 39, 40, 41, 42, 43, 44, 45, 46, 47, 48] (by decide +kernel) (by decide +kernel)) (goodIn_sub (fun _ h => List.mem_cons_of_mem _ (List.mem_append_right _ h)) (by decide +kernel))
set_option maxRecDepth 20000 in
theorem gL_paint_X3_paint : GoodIn wsL_paint (wsV RL 7 RX3 yX3_paint wsX3_paint) := goodIn_app (goodIn_of _ (by decide +kernel)) ggL_paint_X3_paint
theorem dL_paint_0 : decode cL_paint 0 = .ok (.aload 7, 2) := by decide +kernel
theorem dL_paint_2 : decode cL_paint 2 = .ok (.iconst 0, 1) := by decide +kernel
theorem dL_paint_3 : decode cL_paint 3 = .ok (.aload_n 0, 1) := by decide +kernel
theorem dL_paint_4 : decode cL_paint 4 = .ok (.iload_n 1, 1) := by decide +kernel
theorem dL_paint_5 : decode cL_paint 5 = .ok (.iload_n 2, 1) := by decide +kernel
theorem dL_paint_6 : decode cL_paint 6 = .ok (.iload_n 3, 1) := by decide +kernel
theorem dL_paint_7 : decode cL_paint 7 = .ok (.iload 4, 2) := by decide +kernel
theorem dL_paint_9 : decode cL_paint 9 = .ok (.iload 5, 2) := by decide +kernel
theorem dL_paint_11 : decode cL_paint 11 = .ok (.iload 6, 2) := by decide +kernel
theorem dL_paint_13 : decode cL_paint 13 = .ok (.invokevirtual 7, 3) := by decide +kernel
theorem dL_paint_16 : decode cL_paint 16 = .ok (.i2l, 1) := by decide +kernel
theorem dL_paint_17 : decode cL_paint 17 = .ok (.lastore, 1) := by decide +kernel
theorem dL_paint_18 : decode cL_paint 18 = .ok (.goto 7, 3) := by decide +kernel
theorem dL_paint_21 : decode cL_paint 21 = .ok (.astore 8, 2) := by decide +kernel
theorem dL_paint_23 : decode cL_paint 23 = .ok (.iconst 1, 1) := by decide +kernel
theorem dL_paint_24 : decode cL_paint 24 = .ok (.ireturn, 1) := by decide +kernel
theorem dL_paint_25 : decode cL_paint 25 = .ok (.iconst 0, 1) := by decide +kernel
theorem dL_paint_26 : decode cL_paint 26 = .ok (.ireturn, 1) := by decide +kernel
set_option maxRecDepth 20000 in
theorem ggL_shade_X3_shade : GoodIn wsL_shade wsX3_shade := goodIn_ca (goodIn_r _ [6, 7, 8, 9, 5, 10, 11, 12, 13, 14, 15, 16, 17, 18, 19, 20, 21, 22, 23, 24, 25, 26, 27, 28, 29, 30, 31, 32, 33, 34, 35, 36, 37, 38, 39, 40, 41, 42] (by decide +kernel) (by decide +kernel)) (goodIn_sub (fun _ h => List.mem_cons_of_mem _ (List.mem_append_right _ h)) (by decide +kernel))
set_option maxRecDepth 20000 in
theorem gL_shade_X3_shade : GoodIn wsL_shade (wsV RL 15 RX3 yX3_shade wsX3_shade) := goodIn_app (goodIn_of _ (by decide +kernel)) ggL_shade_X3_shade
theorem dL_shade_0 : decode cL_shade 0 = .ok (.aload 4, 2) := by decide +kernel
theorem dL_shade_2 : decode cL_shade 2 = .ok (.iconst 0, 1) := by decide +kernel
theorem dL_shade_3 : decode cL_shade 3 = .ok (.aload_n 0, 1) := by decide +kernel
theorem dL_shade_4 : decode cL_shade 4 = .ok (.iload_n 1, 1) := by decide +kernel
theorem dL_shade_5 : decode cL_shade 5 = .ok (.iload_n 2, 1) := by decide +kernel
theorem dL_shade_6 : decode cL_shade 6 = .ok (.iload_n 3, 1) := by decide +kernel
theorem dL_shade_7 : decode cL_shade 7 = .ok (.invokevirtual 15, 3) := by decide +kernel
theorem dL_shade_10 : decode cL_shade 10 = .ok (.i2l, 1) := by decide +kernel
theorem dL_shade_11 : decode cL_shade 11 = .ok (.lastore, 1) := by decide +kernel
theorem dL_shade_12 : decode cL_shade 12 = .ok (.goto 7, 3) := by decide +kernel
theorem dL_shade_15 : decode cL_shade 15 = .ok (.astore 5, 2) := by decide +kernel
theorem dL_shade_17 : decode cL_shade 17 = .ok (.iconst 1, 1) := by decide +kernel
theorem dL_shade_18 : decode cL_shade 18 = .ok (.ireturn, 1) := by decide +kernel
theorem dL_shade_19 : decode cL_shade 19 = .ok (.iconst 0, 1) := by decide +kernel
theorem dL_shade_20 : decode cL_shade 20 = .ok (.ireturn, 1) := by decide +kernel
set_option maxRecDepth 20000 in
theorem ggL_setPart_X3_setPart : GoodIn wsL_setPart wsX3_setPart := goodIn_ca (goodIn_r _ [6, 7, 8, 9, 10, 5, 11, 12, 13, 14, 15, 16, 17, 18, 19, 20, 21, 22, 23, 24, 25, 26, 27, 28, 29, 30, 31, 32, 33, 34, 35, 36, 37, 38, 39, 40, 41, 42, 43, 44, 45, 46, 47] (by decide +kernel) (by decide +kernel)) (goodIn_sub (fun _ h => List.mem_cons_of_mem _ (List.mem_append_right _ h)) (by decide +kernel))
set_option maxRecDepth 20000 in
theorem gL_setPart_X3_setPart : GoodIn wsL_setPart (wsV RL 19 RX3 yX3_setPart wsX3_setPart) := goodIn_app (goodIn_of _ (by decide +kernel)) ggL_setPart_X3_setPart
theorem dL_setPart_0 : decode cL_setPart 0 = .ok (.aload_n 0, 1) := by decide +kernel
theorem dL_setPart_1 : decode cL_setPart 1 = .ok (.iload_n 1, 1) := by decide +kernel
theorem dL_setPart_2 : decode cL_setPart 2 = .ok (.iload_n 2, 1) := by decide +kernel
theorem dL_setPart_3 : decode cL_setPart 3 = .ok (.iload_n 3, 1) := by decide +kernel
theorem dL_setPart_4 : decode cL_setPart 4 = .ok (.iload 4, 2) := by decide +kernel
theorem dL_setPart_6 : decode cL_setPart 6 = .ok (.iload 5, 2) := by decide +kernel
theorem dL_setPart_8 : decode cL_setPart 8 = .ok (.invokevirtual 19, 3) := by decide +kernel
theorem dL_setPart_11 : decode cL_setPart 11 = .ok (.goto 7, 3) := by decide +kernel
theorem dL_setPart_14 : decode cL_setPart 14 = .ok (.astore 6, 2) := by decide +kernel
theorem dL_setPart_16 : decode cL_setPart 16 = .ok (.iconst 1, 1) := by decide +kernel
theorem dL_setPart_17 : decode cL_setPart 17 = .ok (.ireturn, 1) := by decide +kernel
theorem dL_setPart_18 : decode cL_setPart 18 = .ok (.iconst 0, 1) := by decide +kernel
theorem dL_setPart_19 : decode cL_setPart 19 = .ok (.ireturn, 1) := by decide +kernel
set_option maxRecDepth 20000 in
theorem ggL_setMask_X3_setMask : GoodIn wsL_setMask wsX3_setMask := goodIn_ca (goodIn_ca (goodIn_r _ [7, 8, 9, 10, 11, 12, 13, 6, 14, 15, 16, 17, 18, 19, 20, 21, 22, 23, 24, 25, 26, 27, 28, 29, 30, 31, 32, 33, 34, 35, 36, 37, 38, 39, 40, 41, 42, 43] (by decide +kernel) (by decide +kernel)) (goodIn_sub (fun _ h => List.mem_cons_of_mem _ (List.mem_append_left _ (List.mem_append_right _ h))) (by decide +kernel))) (goodIn_sub (fun _ h => List.mem_cons_of_mem _ (List.mem_append_right _ h)) (by decide +kernel))
set_option maxRecDepth 20000 in
theorem gL_setMask_X3_setMask : GoodIn wsL_setMask (wsV RL 23 RX3 yX3_setMask wsX3_setMask) := goodIn_app (goodIn_of _ (by decide +kernel)) ggL_setMask_X3_setMask
theorem dL_setMask_0 : decode cL_setMask 0 = .ok (.aload_n 0, 1) := by decide +kernel
theorem dL_setMask_1 : decode cL_setMask 1 = .ok (.iload_n 1, 1) := by decide +kernel
theorem dL_setMask_2 : decode cL_setMask 2 = .ok (.iload_n 2, 1) := by decide +kernel
theorem dL_setMask_3 : decode cL_setMask 3 = .ok (.iload_n 3, 1) := by decide +kernel
theorem dL_setMask_4 : decode cL_setMask 4 = .ok (.iload 4, 2) := by decide +kernel
theorem dL_setMask_6 : decode cL_setMask 6 = .ok (.iload 5, 2) := by decide +kernel
theorem dL_setMask_8 : decode cL_setMask 8 = .ok (.invokevirtual 23, 3) := by decide +kernel
theorem dL_setMask_11 : decode cL_setMask 11 = .ok (.goto 11, 3) := by decide +kernel
theorem dL_setMask_14 : decode cL_setMask 14 = .ok (.astore 6, 2) := by decide +kernel
theorem dL_setMask_16 : decode cL_setMask 16 = .ok (.iconst 1, 1) := by decide +kernel
theorem dL_setMask_17 : decode cL_setMask 17 = .ok (.ireturn, 1) := by decide +kernel
theorem dL_setMask_18 : decode cL_setMask 18 = .ok (.astore 6, 2) := by decide +kernel
theorem dL_setMask_20 : decode cL_setMask 20 = .ok (.iconst 2, 1) := by decide +kernel
theorem dL_setMask_21 : decode cL_setMask 21 = .ok (.ireturn, 1) := by decide +kernel
theorem dL_setMask_22 : decode cL_setMask 22 = .ok (.iconst 0, 1) := by decide +kernel
theorem dL_setMask_23 : decode cL_setMask 23 = .ok (.ireturn, 1) := by decide +kernel
set_option maxRecDepth 20000 in
theorem ggL_approve_X3_approve : GoodIn wsL_approve wsX3_approve := goodIn_ca (goodIn_r _ [6, 7, 8, 9, 5, 10, 11, 12, 13, 14, 15, 16, 17, 18, 19, 20, 21, 22, 23, 24, 25, 26, 27, 28, 29, 30, 31, 32, 33, 34, 35, 36, 37, 38, 39, 40, 41, 42, 43, 44, 45, 46, 47, 48, 49, 50, 51] (by decide +kernel) (by decide +kernel)) (goodIn_sub (fun _ h => List.mem_cons_of_mem _ (List.mem_append_right _ h)) (by decide +kernel))
set_option maxRecDepth 20000 in
theorem gL_approve_X3_approve : GoodIn wsL_approve (wsV RL 28 RX3 yX3_approve wsX3_approve) := goodIn_app (goodIn_of _ (by decide +kernel)) ggL_approve_X3_approve
theorem dL_approve_0 : decode cL_approve 0 = .ok (.aload_n 3, 1) := by decide +kernel
theorem dL_approve_1 : decode cL_approve 1 = .ok (.iconst 0, 1) := by decide +kernel
theorem dL_approve_2 : decode cL_approve 2 = .ok (.aload_n 0, 1) := by decide +kernel
theorem dL_approve_3 : decode cL_approve 3 = .ok (.iload_n 1, 1) := by decide +kernel
theorem dL_approve_4 : decode cL_approve 4 = .ok (.iload_n 2, 1) := by decide +kernel
theorem dL_approve_5 : decode cL_approve 5 = .ok (.invokevirtual 28, 3) := by decide +kernel
theorem dL_approve_8 : decode cL_approve 8 = .ok (.ifCond .eq 7, 3) := by decide +kernel
theorem dL_approve_11 : decode cL_approve 11 = .ok (.lconst 1, 1) := by decide +kernel
theorem dL_approve_12 : decode cL_approve 12 = .ok (.goto 4, 3) := by decide +kernel
theorem dL_approve_15 : decode cL_approve 15 = .ok (.lconst 0, 1) := by decide +kernel
theorem dL_approve_16 : decode cL_approve 16 = .ok (.lastore, 1) := by decide +kernel
theorem dL_approve_17 : decode cL_approve 17 = .ok (.goto 7, 3) := by decide +kernel
theorem dL_approve_20 : decode cL_approve 20 = .ok (.astore 4, 2) := by decide +kernel
theorem dL_approve_22 : decode cL_approve 22 = .ok (.iconst 1, 1) := by decide +kernel
theorem dL_approve_23 : decode cL_approve 23 = .ok (.ireturn, 1) := by decide +kernel
theorem dL_approve_24 : decode cL_approve 24 = .ok (.iconst 0, 1) := by decide +kernel
theorem dL_approve_25 : decode cL_approve 25 = .ok (.ireturn, 1) := by decide +kernel
set_option maxRecDepth 20000 in
theorem ggL_begin_X3_begin : GoodIn wsL_begin wsX3_begin := goodIn_ca (goodIn_r _ [6, 7, 8, 9, 5, 10, 11, 12, 13, 14, 15, 16, 17, 18, 19, 20, 21, 22, 23, 24, 25, 26, 27, 28, 29, 30, 31, 32, 33, 34, 35, 36, 37, 38, 39, 40, 41, 42, 43, 44, 45, 46, 47, 48, 49, 50, 51, 52] (by decide +kernel) (by decide +kernel)) (goodIn_sub (fun _ h => List.mem_cons_of_mem _ (List.mem_append_right _ h)) (by decide +kernel))
set_option maxRecDepth 20000 in
theorem gL_begin_X3_begin : GoodIn wsL_begin (wsV RL 32 RX3 yX3_begin wsX3_begin) := goodIn_app (goodIn_of _ (by decide +kernel)) ggL_begin_X3_begin
theorem dL_begin_0 : decode cL_begin 0 = .ok (.aload_n 2, 1) := by decide +kernel
theorem dL_begin_1 : decode cL_begin 1 = .ok (.iconst 0, 1) := by decide +kernel
theorem dL_begin_2 : decode cL_begin 2 = .ok (.aload_n 0, 1) := by decide +kernel
theorem dL_begin_3 : decode cL_begin 3 = .ok (.iload_n 1, 1) := by decide +kernel
theorem dL_begin_4 : decode cL_begin 4 = .ok (.invokevirtual 32, 3) := by decide +kernel
theorem dL_begin_7 : decode cL_begin 7 = .ok (.i2l, 1) := by decide +kernel
theorem dL_begin_8 : decode cL_begin 8 = .ok (.lastore, 1) := by decide +kernel
theorem dL_begin_9 : decode cL_begin 9 = .ok (.goto 6, 3) := by decide +kernel
theorem dL_begin_12 : decode cL_begin 12 = .ok (.astore_n 3, 1) := by decide +kernel
theorem dL_begin_13 : decode cL_begin 13 = .ok (.iconst 1, 1) := by decide +kernel
theorem dL_begin_14 : decode cL_begin 14 = .ok (.ireturn, 1) := by decide +kernel
theorem dL_begin_15 : decode cL_begin 15 = .ok (.iconst 0, 1) := by decide +kernel
theorem dL_begin_16 : decode cL_begin 16 = .ok (.ireturn, 1) := by decide +kernel
set_option maxRecDepth 20000 in
theorem ggL_join_X3_join : GoodIn wsL_join wsX3_join := goodIn_ca (goodIn_r _ [6, 7, 8, 5, 9, 10, 11, 12, 13, 14, 15, 16, 17, 18, 19, 20, 21, 22, 23, 24, 25, 26, 27, 28, 29, 30, 31, 32, 33, 34, 35, 36, 37, 38, 39, 40, 41, 42, 43, 44, 45, 46, 47, 48, 49, 50, 51, 52, 53, 54, 55, 56, 57, 58, 59, 60, 61, 62, 63, 64] (by decide +kernel) (by decide +kernel)) (goodIn_sub (fun _ h => List.mem_cons_of_mem _ (List.mem_append_right _ h)) (by decide +kernel))
set_option maxRecDepth 20000 in
theorem gL_join_X3_join : GoodIn wsL_join (wsV RL 36 RX3 yX3_join wsX3_join) := goodIn_app (goodIn_of _ (by decide +kernel)) ggL_join_X3_join
theorem dL_join_0 : decode cL_join 0 = .ok (.aload_n 2, 1) := by decide +kernel
theorem dL_join_1 : decode cL_join 1 = .ok (.iconst 0, 1) := by decide +kernel
theorem dL_join_2 : decode cL_join 2 = .ok (.aload_n 0, 1) := by decide +kernel
theorem dL_join_3 : decode cL_join 3 = .ok (.iload_n 1, 1) := by decide +kernel
theorem dL_join_4 : decode cL_join 4 = .ok (.invokevirtual 36, 3) := by decide +kernel
theorem dL_join_7 : decode cL_join 7 = .ok (.i2l, 1) := by decide +kernel
theorem dL_join_8 : decode cL_join 8 = .ok (.lastore, 1) := by decide +kernel
theorem dL_join_9 : decode cL_join 9 = .ok (.goto 6, 3) := by decide +kernel
theorem dL_join_12 : decode cL_join 12 = .ok (.astore_n 3, 1) := by decide +kernel
theorem dL_join_13 : decode cL_join 13 = .ok (.iconst 1, 1) := by decide +kernel
theorem dL_join_14 : decode cL_join 14 = .ok (.ireturn, 1) := by decide +kernel
theorem dL_join_15 : decode cL_join 15 = .ok (.iconst 0, 1) := by decide +kernel
theorem dL_join_16 : decode cL_join 16 = .ok (.ireturn, 1) := by decide +kernel
set_option maxRecDepth 20000 in
theorem ggL_isApproved_X3_isApproved : GoodIn wsL_isApproved wsX3_isApproved := goodIn_ca (goodIn_r _ [6, 7, 8, 9, 5, 10, 11, 12, 13, 14, 15, 16, 17, 18, 19, 20, 21, 22, 23, 24, 25, 26, 27, 28, 29, 30, 31, 32, 33, 34, 35, 36, 37, 38, 39] (by decide +kernel) (by decide +kernel)) (goodIn_sub (fun _ h => List.mem_cons_of_mem _ (List.mem_append_right _ h)) (by decide +kernel))
set_option maxRecDepth 20000 in
theorem gL_isApproved_X3_isApproved : GoodIn wsL_isApproved (wsV RL 39 RX3 yX3_isApproved wsX3_isApproved) := goodIn_app (goodIn_of _ (by decide +kernel)) ggL_isApproved_X3_isApproved
theorem dL_isApproved_0 : decode cL_isApproved 0 = .ok (.aload_n 3, 1) := by decide +kernel
theorem dL_isApproved_1 : decode cL_isApproved 1 = .ok (.iconst 0, 1) := by decide +kernel
theorem dL_isApproved_2 : decode cL_isApproved 2 = .ok (.aload_n 0, 1) := by decide +kernel
theorem dL_isApproved_3 : decode cL_isApproved 3 = .ok (.iload_n 1, 1) := by decide +kernel
theorem dL_isApproved_4 : decode cL_isApproved 4 = .ok (.iload_n 2, 1) := by decide +kernel
theorem dL_isApproved_5 : decode cL_isApproved 5 = .ok (.invokevirtual 39, 3) := by decide +kernel
theorem dL_isApproved_8 : decode cL_isApproved 8 = .ok (.ifCond .eq 7, 3) := by decide +kernel
theorem dL_isApproved_11 : decode cL_isApproved 11 = .ok (.lconst 1, 1) := by decide +kernel
theorem dL_isApproved_12 : decode cL_isApproved 12 = .ok (.goto 4, 3) := by decide +kernel
theorem dL_isApproved_15 : decode cL_isApproved 15 = .ok (.lconst 0, 1) := by decide +kernel
theorem dL_isApproved_16 : decode cL_isApproved 16 = .ok (.lastore, 1) := by decide +kernel
theorem dL_isApproved_17 : decode cL_isApproved 17 = .ok (.goto 7, 3) := by decide +kernel
theorem dL_isApproved_20 : decode cL_isApproved 20 = .ok (.astore 4, 2) := by decide +kernel
theorem dL_isApproved_22 : decode cL_isApproved 22 = .ok (.iconst 1, 1) := by decide +kernel
theorem dL_isApproved_23 : decode cL_isApproved 23 = .ok (.ireturn, 1) := by decide +kernel
theorem dL_isApproved_24 : decode cL_isApproved 24 = .ok (.iconst 0, 1) := by decide +kernel
theorem dL_isApproved_25 : decode cL_isApproved 25 = .ok (.ireturn, 1) := by decide +kernel
set_option maxRecDepth 20000 in
theorem ggL_differences_X3_differences : GoodIn wsL_differences wsX3_differences := goodIn_ca (goodIn_ca (goodIn_r _ [7, 8, 9, 10, 6, 11, 12, 13, 14, 15, 16, 17, 18, 19, 20, 21, 22, 23, 24, 25, 26, 27, 28, 29, 30, 31, 32, 33, 34, 35, 36, 37, 38, 39, 40, 41, 42, 43, 44, 45, 46, 47, 48, 49, 50, 51, 52, 53, 54, 55, 56, 57, 58, 59, 60, 61, 62, 63, 64, 65, 66, 67, 68, 69, 70, 71, 72, 73, 74, 75, 76, 77, 78, 79, 80, 81, 82, 83, 84, 85, 86, 87, 88, 89, 90, 91, 92, 93, 94, 95, 96, 97, 98, 99, 100, 101, 102, 103, 104, 105, 106, 107, 108, 109, 110, 111, 112, 113, 114, 115, 116, 117, 118, 119, 120, 121, 122, 123, 124, 125, 126, 127, 128, 129, 130, 131, 132, 133, 134, 135, 136, 137, 138, 139, 140, 141, 142, 143, 144, 145, 146, 147, 148, 149, 150] (by decide +kernel) (by decide +kernel)) (goodIn_sub (fun _ h => List.mem_cons_of_mem _ (List.mem_append_left _ (List.mem_append_right _ h))) (by decide +kernel))) (goodIn_sub (fun _ h => List.mem_cons_of_mem _ (List.mem_append_right _ h)) (by decide +kernel))
set_option maxRecDepth 20000 in
theorem gL_differences_X3_differences : GoodIn wsL_differences (wsV RL 42 RX3 yX3_differences wsX3_differences) := goodIn_app (goodIn_of _ (by decide +kernel)) ggL_differences_X3_differences
theorem dL_differences_0 : decode cL_differences 0 = .ok (.aload 4, 2) := by decide +kernel
theorem dL_differences_2 : decode cL_differences 2 = .ok (.iconst 0, 1) := by decide +kernel
theorem dL_differences_3 : decode cL_differences 3 = .ok (.aload_n 0, 1) := by decide +kernel
theorem dL_differences_4 : decode cL_differences 4 = .ok (.iload_n 1, 1) := by decide +kernel
theorem dL_differences_5 : decode cL_differences 5 = .ok (.iload_n 2, 1) := by decide +kernel
theorem dL_differences_6 : decode cL_differences 6 = .ok (.iload_n 3, 1) := by decide +kernel
theorem dL_differences_7 : decode cL_differences 7 = .ok (.invokevirtual 42, 3) := by decide +kernel
theorem dL_differences_10 : decode cL_differences 10 = .ok (.i2l, 1) := by decide +kernel
theorem dL_differences_11 : decode cL_differences 11 = .ok (.lastore, 1) := by decide +kernel
theorem dL_differences_12 : decode cL_differences 12 = .ok (.goto 11, 3) := by decide +kernel
theorem dL_differences_15 : decode cL_differences 15 = .ok (.astore 5, 2) := by decide +kernel
theorem dL_differences_17 : decode cL_differences 17 = .ok (.iconst 1, 1) := by decide +kernel
theorem dL_differences_18 : decode cL_differences 18 = .ok (.ireturn, 1) := by decide +kernel
theorem dL_differences_19 : decode cL_differences 19 = .ok (.astore 5, 2) := by decide +kernel
theorem dL_differences_21 : decode cL_differences 21 = .ok (.iconst 2, 1) := by decide +kernel
theorem dL_differences_22 : decode cL_differences 22 = .ok (.ireturn, 1) := by decide +kernel
theorem dL_differences_23 : decode cL_differences 23 = .ok (.iconst 0, 1) := by decide +kernel
theorem dL_differences_24 : decode cL_differences 24 = .ok (.ireturn, 1) := by decide +kernel
set_option maxRecDepth 20000 in
theorem ggL_firstDifference_X3_firstDifference : GoodIn wsL_firstDifference wsX3_firstDifference := goodIn_ca (goodIn_ca (goodIn_r _ [7, 8, 9, 10, 6, 11, 12, 13, 14, 15, 16, 17, 18, 19, 20, 21, 22, 23, 24, 25, 26, 27, 28, 29, 30, 31, 32, 33, 34, 35, 36, 37, 38, 39, 40, 41, 42, 43, 44, 45, 46, 47, 48, 49, 50, 51, 52, 53, 54, 55, 56, 57, 58, 59, 60, 61, 62, 63, 64, 65, 66, 67, 68, 69, 70, 71, 72, 73, 74, 75, 76, 77, 78, 79, 80, 81, 82, 83, 84, 85, 86, 87, 88, 89, 90, 91, 92, 93, 94, 95, 96, 97, 98, 99, 100, 101, 102, 103, 104, 105, 106, 107, 108, 109, 110, 111, 112, 113, 114, 115, 116, 117, 118, 119, 120, 121, 122, 123, 124, 125, 126, 127, 128, 129, 130, 131, 132, 133, 134, 135, 136, 137, 138, 139, 140, 141, 142, 143, 144, 145, 146, 147, 148, 149, 150, 151, 152, 153, 154] (by decide +kernel) (by decide +kernel)) (goodIn_sub (fun _ h => List.mem_cons_of_mem _ (List.mem_append_left _ (List.mem_append_right _ h))) (by decide +kernel))) (goodIn_sub (fun _ h => List.mem_cons_of_mem _ (List.mem_append_right _ h)) (by decide +kernel))
set_option maxRecDepth 20000 in
theorem gL_firstDifference_X3_firstDifference : GoodIn wsL_firstDifference (wsV RL 45 RX3 yX3_firstDifference wsX3_firstDifference) := goodIn_app (goodIn_of _ (by decide +kernel)) ggL_firstDifference_X3_firstDifference
theorem dL_firstDifference_0 : decode cL_firstDifference 0 = .ok (.aload 4, 2) := by decide +kernel
theorem dL_firstDifference_2 : decode cL_firstDifference 2 = .ok (.iconst 0, 1) := by decide +kernel
theorem dL_firstDifference_3 : decode cL_firstDifference 3 = .ok (.aload_n 0, 1) := by decide +kernel
theorem dL_firstDifference_4 : decode cL_firstDifference 4 = .ok (.iload_n 1, 1) := by decide +kernel
theorem dL_firstDifference_5 : decode cL_firstDifference 5 = .ok (.iload_n 2, 1) := by decide +kernel
theorem dL_firstDifference_6 : decode cL_firstDifference 6 = .ok (.iload_n 3, 1) := by decide +kernel
theorem dL_firstDifference_7 : decode cL_firstDifference 7 = .ok (.invokevirtual 45, 3) := by decide +kernel
theorem dL_firstDifference_10 : decode cL_firstDifference 10 = .ok (.i2l, 1) := by decide +kernel
theorem dL_firstDifference_11 : decode cL_firstDifference 11 = .ok (.lastore, 1) := by decide +kernel
theorem dL_firstDifference_12 : decode cL_firstDifference 12 = .ok (.goto 11, 3) := by decide +kernel
theorem dL_firstDifference_15 : decode cL_firstDifference 15 = .ok (.astore 5, 2) := by decide +kernel
theorem dL_firstDifference_17 : decode cL_firstDifference 17 = .ok (.iconst 1, 1) := by decide +kernel
theorem dL_firstDifference_18 : decode cL_firstDifference 18 = .ok (.ireturn, 1) := by decide +kernel
theorem dL_firstDifference_19 : decode cL_firstDifference 19 = .ok (.astore 5, 2) := by decide +kernel
theorem dL_firstDifference_21 : decode cL_firstDifference 21 = .ok (.iconst 2, 1) := by decide +kernel
theorem dL_firstDifference_22 : decode cL_firstDifference 22 = .ok (.ireturn, 1) := by decide +kernel
theorem dL_firstDifference_23 : decode cL_firstDifference 23 = .ok (.iconst 0, 1) := by decide +kernel
theorem dL_firstDifference_24 : decode cL_firstDifference 24 = .ok (.ireturn, 1) := by decide +kernel
set_option maxRecDepth 20000 in
theorem ggL_move_X3_move : GoodIn wsL_move wsX3_move := goodIn_ca (goodIn_ca (goodIn_r _ [7, 8, 9, 10, 6, 11, 12, 13, 14, 15, 16, 17, 18, 19, 20, 21, 22, 23, 24, 25, 26, 27, 28, 29, 30, 31, 32, 33, 34, 35, 36, 37, 38, 39, 40, 41, 42, 43, 44, 45, 46, 47, 48, 49, 50, 51, 52, 53, 54, 55, 56, 57, 58, 59, 60, 61, 62, 63, 64, 65, 66, 67, 68, 69, 70, 71, 72, 73, 74, 75, 76, 77, 78, 79, 80, 81, 82, 83, 84, 85, 86, 87, 88, 89, 90, 91, 92, 93, 94, 95, 96, 97, 98, 99, 100, 101, 102, 103, 104, 105, 106, 107, 108, 109, 110, 111] (by decide +kernel) (by decide +kernel)) (goodIn_sub (fun _ h => List.mem_cons_of_mem _ (List.mem_append_left _ (List.mem_append_right _ h))) (by decide +kernel))) (goodIn_sub (fun _ h => List.mem_cons_of_mem _ (List.mem_append_right _ h)) (by decide +kernel))
set_option maxRecDepth 20000 in
theorem gL_move_X3_move : GoodIn wsL_move (wsV RL 48 RX3 yX3_move wsX3_move) := goodIn_app (goodIn_of _ (by decide +kernel)) ggL_move_X3_move
theorem dL_move_0 : decode cL_move 0 = .ok (.aload 4, 2) := by decide +kernel
theorem dL_move_2 : decode cL_move 2 = .ok (.iconst 0, 1) := by decide +kernel
theorem dL_move_3 : decode cL_move 3 = .ok (.aload_n 0, 1) := by decide +kernel
theorem dL_move_4 : decode cL_move 4 = .ok (.iload_n 1, 1) := by decide +kernel
theorem dL_move_5 : decode cL_move 5 = .ok (.iload_n 2, 1) := by decide +kernel
theorem dL_move_6 : decode cL_move 6 = .ok (.iload_n 3, 1) := by decide +kernel
theorem dL_move_7 : decode cL_move 7 = .ok (.invokevirtual 48, 3) := by decide +kernel
theorem dL_move_10 : decode cL_move 10 = .ok (.i2l, 1) := by decide +kernel
theorem dL_move_11 : decode cL_move 11 = .ok (.lastore, 1) := by decide +kernel
theorem dL_move_12 : decode cL_move 12 = .ok (.goto 11, 3) := by decide +kernel
theorem dL_move_15 : decode cL_move 15 = .ok (.astore 5, 2) := by decide +kernel
theorem dL_move_17 : decode cL_move 17 = .ok (.iconst 1, 1) := by decide +kernel
theorem dL_move_18 : decode cL_move 18 = .ok (.ireturn, 1) := by decide +kernel
theorem dL_move_19 : decode cL_move 19 = .ok (.astore 5, 2) := by decide +kernel
theorem dL_move_21 : decode cL_move 21 = .ok (.iconst 2, 1) := by decide +kernel
theorem dL_move_22 : decode cL_move 22 = .ok (.ireturn, 1) := by decide +kernel
theorem dL_move_23 : decode cL_move 23 = .ok (.iconst 0, 1) := by decide +kernel
theorem dL_move_24 : decode cL_move 24 = .ok (.ireturn, 1) := by decide +kernel
set_option maxRecDepth 20000 in
theorem ggL_soft_X3_soft : GoodIn wsL_soft wsX3_soft := goodIn_ca (goodIn_ca (goodIn_r _ [7, 8, 9, 10, 6, 11, 12, 13, 14, 15, 16, 17, 18, 19, 20, 21, 22, 23, 24, 25, 26, 27, 28, 29, 30, 31, 32, 33, 34, 35, 36, 37, 38, 39, 40, 41, 42, 43, 44, 45, 46, 47, 48, 49, 50, 51, 52, 53, 54, 55, 56, 57, 58, 59, 60, 61, 62, 63, 64, 65, 66, 67, 68, 69, 70, 71, 72, 73, 74, 75, 76, 77, 78, 79, 80, 81, 82, 83, 84, 85] (by decide +kernel) (by decide +kernel)) (goodIn_sub (fun _ h => List.mem_cons_of_mem _ (List.mem_append_left _ (List.mem_append_right _ h))) (by decide +kernel))) (goodIn_sub (fun _ h => List.mem_cons_of_mem _ (List.mem_append_right _ h)) (by decide +kernel))
set_option maxRecDepth 20000 in
theorem gL_soft_X3_soft : GoodIn wsL_soft (wsV RL 51 RX3 yX3_soft wsX3_soft) := goodIn_app (goodIn_of _ (by decide +kernel)) ggL_soft_X3_soft
theorem dL_soft_0 : decode cL_soft 0 = .ok (.aload 4, 2) := by decide +kernel
theorem dL_soft_2 : decode cL_soft 2 = .ok (.iconst 0, 1) := by decide +kernel
theorem dL_soft_3 : decode cL_soft 3 = .ok (.aload_n 0, 1) := by decide +kernel
theorem dL_soft_4 : decode cL_soft 4 = .ok (.iload_n 1, 1) := by decide +kernel
theorem dL_soft_5 : decode cL_soft 5 = .ok (.iload_n 2, 1) := by decide +kernel
theorem dL_soft_6 : decode cL_soft 6 = .ok (.iload_n 3, 1) := by decide +kernel
theorem dL_soft_7 : decode cL_soft 7 = .ok (.invokevirtual 51, 3) := by decide +kernel
theorem dL_soft_10 : decode cL_soft 10 = .ok (.i2l, 1) := by decide +kernel
theorem dL_soft_11 : decode cL_soft 11 = .ok (.lastore, 1) := by decide +kernel
theorem dL_soft_12 : decode cL_soft 12 = .ok (.goto 11, 3) := by decide +kernel
theorem dL_soft_15 : decode cL_soft 15 = .ok (.astore 5, 2) := by decide +kernel
theorem dL_soft_17 : decode cL_soft 17 = .ok (.iconst 1, 1) := by decide +kernel
theorem dL_soft_18 : decode cL_soft 18 = .ok (.ireturn, 1) := by decide +kernel
theorem dL_soft_19 : decode cL_soft 19 = .ok (.astore 5, 2) := by decide +kernel
theorem dL_soft_21 : decode cL_soft 21 = .ok (.iconst 2, 1) := by decide +kernel
theorem dL_soft_22 : decode cL_soft 22 = .ok (.ireturn, 1) := by decide +kernel
theorem dL_soft_23 : decode cL_soft 23 = .ok (.iconst 0, 1) := by decide +kernel
theorem dL_soft_24 : decode cL_soft 24 = .ok (.ireturn, 1) := by decide +kernel
set_option maxRecDepth 20000 in
theorem ggL_run_X3_run : GoodIn wsL_run wsX3_run := goodIn_ca (goodIn_ca (goodIn_r _ [7, 8, 9, 10, 11, 6, 12, 13, 14, 15, 16, 17, 18, 19, 20, 21, 22, 23, 24, 25, 26, 27, 28, 29, 30, 31, 32, 33, 34, 35, 36, 37, 38, 39, 40, 41, 42, 43, 44, 45, 46, 47, 48, 49, 50, 51, 52, 53, 54, 55, 56, 57, 58, 59, 60, 61, 62, 63, 64, 65, 66, 67, 68, 69, 70, 71, 72, 73, 74, 75, 76, 77, 78, 79, 80, 81, 82, 83, 84, 85, 86, 87, 88, 89, 90, 91, 92, 93, 94, 95, 96, 97, 98, 99, 100, 101, 102, 103, 104, 105, 106, 107, 108, 109, 110, 111, 112, 113, 114, 115, 116, 117, 118, 119, 120, 121, 122, 123, 124, 125, 126, 127, 128, 129, 130, 131, 132, 133, 134, 135, 136, 137, 138, 139, 140, 141, 142, 143, 144, 145, 146, 147, 148, 149, 150, 151, 152, 153, 154, 155, 156, 157, 158, 159, 160, 161, 162, 163, 164, 165] (by decide +kernel) (by decide +kernel)) (goodIn_sub (fun _ h => List.mem_cons_of_mem _ (List.mem_append_left _ (List.mem_append_right _ h))) (by decide +kernel))) (goodIn_sub (fun _ h => List.mem_cons_of_mem _ (List.mem_append_right _ h)) (by decide +kernel))
set_option maxRecDepth 20000 in
theorem gL_run_X3_run : GoodIn wsL_run (wsV RL 54 RX3 yX3_run wsX3_run) := goodIn_app (goodIn_of _ (by decide +kernel)) ggL_run_X3_run
theorem dL_run_0 : decode cL_run 0 = .ok (.aload 4, 2) := by decide +kernel
theorem dL_run_2 : decode cL_run 2 = .ok (.iconst 0, 1) := by decide +kernel
theorem dL_run_3 : decode cL_run 3 = .ok (.aload_n 0, 1) := by decide +kernel
theorem dL_run_4 : decode cL_run 4 = .ok (.iload_n 1, 1) := by decide +kernel
theorem dL_run_5 : decode cL_run 5 = .ok (.iload_n 2, 1) := by decide +kernel
theorem dL_run_6 : decode cL_run 6 = .ok (.iload_n 3, 1) := by decide +kernel
theorem dL_run_7 : decode cL_run 7 = .ok (.invokevirtual 54, 3) := by decide +kernel
theorem dL_run_10 : decode cL_run 10 = .ok (.ifCond .eq 7, 3) := by decide +kernel
theorem dL_run_13 : decode cL_run 13 = .ok (.lconst 1, 1) := by decide +kernel
theorem dL_run_14 : decode cL_run 14 = .ok (.goto 4, 3) := by decide +kernel
theorem dL_run_17 : decode cL_run 17 = .ok (.lconst 0, 1) := by decide +kernel
theorem dL_run_18 : decode cL_run 18 = .ok (.lastore, 1) := by decide +kernel
theorem dL_run_19 : decode cL_run 19 = .ok (.goto 11, 3) := by decide +kernel
theorem dL_run_22 : decode cL_run 22 = .ok (.astore 5, 2) := by decide +kernel
theorem dL_run_24 : decode cL_run 24 = .ok (.iconst 1, 1) := by decide +kernel
theorem dL_run_25 : decode cL_run 25 = .ok (.ireturn, 1) := by decide +kernel
theorem dL_run_26 : decode cL_run 26 = .ok (.astore 5, 2) := by decide +kernel
theorem dL_run_28 : decode cL_run 28 = .ok (.iconst 2, 1) := by decide +kernel
theorem dL_run_29 : decode cL_run 29 = .ok (.ireturn, 1) := by decide +kernel
theorem dL_run_30 : decode cL_run 30 = .ok (.iconst 0, 1) := by decide +kernel
theorem dL_run_31 : decode cL_run 31 = .ok (.ireturn, 1) := by decide +kernel
set_option maxRecDepth 20000 in
theorem ggL_runs_X3_runs : GoodIn wsL_runs wsX3_runs := goodIn_ca (goodIn_r _ [6, 7, 8, 9, 5, 10, 11, 12, 13, 14, 15, 16, 17, 18, 19, 20, 21, 22, 23, 24, 25, 26, 27, 28, 29, 30] (by decide +kernel) (by decide +kernel)) (goodIn_sub (fun _ h => List.mem_cons_of_mem _ (List.mem_append_right _ h)) (by decide +kernel))
set_option maxRecDepth 20000 in
theorem gL_runs_X3_runs : GoodIn wsL_runs (wsV RL 58 RX3 yX3_runs wsX3_runs) := goodIn_app (goodIn_of _ (by decide +kernel)) ggL_runs_X3_runs
theorem dL_runs_0 : decode cL_runs 0 = .ok (.aload_n 2, 1) := by decide +kernel
theorem dL_runs_1 : decode cL_runs 1 = .ok (.iconst 0, 1) := by decide +kernel
theorem dL_runs_2 : decode cL_runs 2 = .ok (.aload_n 0, 1) := by decide +kernel
theorem dL_runs_3 : decode cL_runs 3 = .ok (.iload_n 1, 1) := by decide +kernel
theorem dL_runs_4 : decode cL_runs 4 = .ok (.invokevirtual 58, 3) := by decide +kernel
theorem dL_runs_7 : decode cL_runs 7 = .ok (.i2l, 1) := by decide +kernel
theorem dL_runs_8 : decode cL_runs 8 = .ok (.lastore, 1) := by decide +kernel
theorem dL_runs_9 : decode cL_runs 9 = .ok (.goto 6, 3) := by decide +kernel
theorem dL_runs_12 : decode cL_runs 12 = .ok (.astore_n 3, 1) := by decide +kernel
theorem dL_runs_13 : decode cL_runs 13 = .ok (.iconst 1, 1) := by decide +kernel
theorem dL_runs_14 : decode cL_runs 14 = .ok (.ireturn, 1) := by decide +kernel
theorem dL_runs_15 : decode cL_runs 15 = .ok (.iconst 0, 1) := by decide +kernel
theorem dL_runs_16 : decode cL_runs 16 = .ok (.ireturn, 1) := by decide +kernel
set_option maxRecDepth 20000 in
theorem ggL_doubt_X3_doubt : GoodIn wsL_doubt wsX3_doubt := goodIn_ca (goodIn_r _ [6, 7, 8, 9, 5, 10, 11, 12, 13, 14, 15, 16, 17, 18, 19, 20, 21, 22, 23, 24, 25, 26, 27, 28, 29, 30, 31, 32, 33, 34, 35, 36, 37, 38, 39, 40, 41, 42] (by decide +kernel) (by decide +kernel)) (goodIn_sub (fun _ h => List.mem_cons_of_mem _ (List.mem_append_right _ h)) (by decide +kernel))
set_option maxRecDepth 20000 in
theorem gL_doubt_X3_doubt : GoodIn wsL_doubt (wsV RL 61 RX3 yX3_doubt wsX3_doubt) := goodIn_app (goodIn_of _ (by decide +kernel)) ggL_doubt_X3_doubt
theorem dL_doubt_0 : decode cL_doubt 0 = .ok (.aload_n 2, 1) := by decide +kernel
theorem dL_doubt_1 : decode cL_doubt 1 = .ok (.iconst 0, 1) := by decide +kernel
theorem dL_doubt_2 : decode cL_doubt 2 = .ok (.aload_n 0, 1) := by decide +kernel
theorem dL_doubt_3 : decode cL_doubt 3 = .ok (.iload_n 1, 1) := by decide +kernel
theorem dL_doubt_4 : decode cL_doubt 4 = .ok (.invokevirtual 61, 3) := by decide +kernel
theorem dL_doubt_7 : decode cL_doubt 7 = .ok (.i2l, 1) := by decide +kernel
theorem dL_doubt_8 : decode cL_doubt 8 = .ok (.lastore, 1) := by decide +kernel
theorem dL_doubt_9 : decode cL_doubt 9 = .ok (.goto 6, 3) := by decide +kernel
theorem dL_doubt_12 : decode cL_doubt 12 = .ok (.astore_n 3, 1) := by decide +kernel
theorem dL_doubt_13 : decode cL_doubt 13 = .ok (.iconst 1, 1) := by decide +kernel
theorem dL_doubt_14 : decode cL_doubt 14 = .ok (.ireturn, 1) := by decide +kernel
theorem dL_doubt_15 : decode cL_doubt 15 = .ok (.iconst 0, 1) := by decide +kernel
theorem dL_doubt_16 : decode cL_doubt 16 = .ok (.ireturn, 1) := by decide +kernel
set_option maxRecDepth 20000 in
theorem ggL_law_X3_init : GoodIn wsL_law wsX3_init := goodIn_r _ [9, 10, 11, 12, 13, 14, 15, 16, 17, 18, 19, 20, 21, 22, 23, 24, 25, 26, 27, 28, 29, 30, 31, 32, 33, 34, 35, 36, 37, 38, 39, 40, 41, 42, 43, 44, 45, 507, 508, 493, 494, 495, 496, 509, 510, 511, 512, 513, 514] (by decide +kernel) (by decide +kernel)
set_option maxRecDepth 20000 in
theorem gL_law_X3_init : GoodIn wsL_law (wsX3_init) := ggL_law_X3_init
set_option maxRecDepth 20000 in
theorem ggL_law_X4_init : GoodIn wsL_law wsX4_init := goodIn_r _ [48, 49, 11, 12, 30, 50, 51, 32, 52, 53, 54, 55, 56, 497, 498, 499, 500, 501, 502, 503, 504, 505, 506] (by decide +kernel) (by decide +kernel)
set_option maxRecDepth 20000 in
theorem gL_law_X4_init : GoodIn wsL_law (wsX4_init) := ggL_law_X4_init
set_option maxRecDepth 20000 in
theorem ggL_law_L_paint : GoodIn wsL_law wsL_paint := goodIn_ca (goodIn_r _ [60, 61, 62, 63, 64, 2, 65, 16, 66, 67, 68, 69, 70, 71, 72, 73, 74, 75, 76, 77, 78, 79, 80, 81, 82, 83, 84, 85, 86, 87, 88, 89, 90, 91, 15, 92, 31, 93, 94, 95, 96, 97, 98, 493, 494, 495, 496, 507, 508] (by decide +kernel) (by decide +kernel)) (goodIn_sub (fun _ h => List.mem_append_left _ (List.mem_append_right _ h)) (by decide +kernel))
set_option maxRecDepth 20000 in
theorem gL_law_L_paint : GoodIn wsL_law (va_wsS RL 68 yL_paint wsL_paint) := goodIn_app (goodIn_of _ (by decide +kernel)) ggL_law_L_paint
set_option maxRecDepth 20000 in
theorem ggL_law_X4_paint : GoodIn wsL_law wsX4_paint := goodIn_r _ [102, 50, 103, 104, 5, 105, 106, 107, 108, 109, 110, 111, 112, 113, 114, 115, 116, 117, 118, 119, 497, 498, 499, 500, 501, 502, 503, 504, 505, 506] (by decide +kernel) (by decide +kernel)
set_option maxRecDepth 20000 in
theorem gL_law_X4_paint : GoodIn wsL_law (wsV RL 73 RX4 yX4_paint wsX4_paint) := goodIn_app (goodIn_of _ (by decide +kernel)) ggL_law_X4_paint
set_option maxRecDepth 20000 in
theorem ggL_law_X4_thrown : GoodIn wsL_law wsX4_thrown := goodIn_r _ [123, 119, 497, 498, 499, 500, 501, 502, 503, 504, 505, 506] (by decide +kernel) (by decide +kernel)
set_option maxRecDepth 20000 in
theorem gL_law_X4_thrown : GoodIn wsL_law (wsV RL 74 RX4 yX4_thrown wsX4_thrown) := goodIn_app (goodIn_of _ (by decide +kernel)) ggL_law_X4_thrown
set_option maxRecDepth 20000 in
theorem ggL_law_L_shade : GoodIn wsL_law wsL_shade := goodIn_ca (goodIn_r _ [126, 61, 127, 128, 129, 2, 130, 16, 66, 67, 68, 69, 70, 71, 75, 76, 77, 81, 82, 83, 84, 85, 86, 87, 88, 131, 132, 133, 15, 134, 31, 93, 94, 95, 96, 97, 98, 493, 494, 495, 496, 507, 508] (by decide +kernel) (by decide +kernel)) (goodIn_sub (fun _ h => List.mem_append_left _ (List.mem_append_right _ h)) (by decide +kernel))
set_option maxRecDepth 20000 in
theorem gL_law_L_shade : GoodIn wsL_law (va_wsS RL 78 yL_shade wsL_shade) := goodIn_app (goodIn_of _ (by decide +kernel)) ggL_law_L_shade
set_option maxRecDepth 20000 in
theorem ggL_law_X4_shade : GoodIn wsL_law wsX4_shade := goodIn_r _ [138, 50, 103, 104, 5, 105, 106, 107, 108, 112, 113, 114, 115, 116, 117, 118, 119, 497, 498, 499, 500, 501, 502, 503, 504, 505, 506] (by decide +kernel) (by decide +kernel)
set_option maxRecDepth 20000 in
theorem gL_law_X4_shade : GoodIn wsL_law (wsV RL 81 RX4 yX4_shade wsX4_shade) := goodIn_app (goodIn_of _ (by decide +kernel)) ggL_law_X4_shade
set_option maxRecDepth 20000 in
theorem ggL_law_L_setPart : GoodIn wsL_law wsL_setPart := goodIn_ca (goodIn_r _ [141, 61, 142, 143, 144, 2, 145, 20, 21, 66, 67, 68, 69, 70, 71, 72, 73, 74, 75, 76, 77, 81, 82, 83, 84, 85, 146, 147, 148, 19, 149, 37, 38, 39, 40, 150, 151, 152, 153, 154, 493, 494, 495, 496, 509, 510, 511, 512] (by decide +kernel) (by decide +kernel)) (goodIn_sub (fun _ h => List.mem_append_left _ (List.mem_append_right _ h)) (by decide +kernel))
set_option maxRecDepth 20000 in
theorem gL_law_L_setPart : GoodIn wsL_law (va_wsS RL 82 yL_setPart wsL_setPart) := goodIn_app (goodIn_of _ (by decide +kernel)) ggL_law_L_setPart
set_option maxRecDepth 20000 in
theorem ggL_law_X4_setPart : GoodIn wsL_law wsX4_setPart := goodIn_r _ [158, 53, 54, 103, 104, 5, 105, 106, 107, 108, 109, 110, 111, 112, 113, 114, 115, 116, 117, 118, 119, 497, 498, 499, 500, 501, 502, 503, 504, 505, 506] (by decide +kernel) (by decide +kernel)
set_option maxRecDepth 20000 in
theorem gL_law_X4_setPart : GoodIn wsL_law (wsV RL 85 RX4 yX4_setPart wsX4_setPart) := goodIn_app (goodIn_of _ (by decide +kernel)) ggL_law_X4_setPart
set_option maxRecDepth 20000 in
theorem ggL_law_L_setMask : GoodIn wsL_law wsL_setMask := goodIn_ca (goodIn_ca (goodIn_r _ [161, 61, 162, 163, 164, 165, 2, 166, 167, 168, 20, 21, 66, 67, 68, 69, 70, 71, 81, 82, 83, 84, 85, 169, 170, 171, 19, 172, 37, 39, 146, 147, 148, 149, 38, 40, 493, 494, 495, 496, 509, 510, 511, 512] (by decide +kernel) (by decide +kernel)) (goodIn_sub (fun _ h => List.mem_append_right _ h) (by decide +kernel))) (goodIn_sub (fun _ h => List.mem_append_left _ (List.mem_append_right _ h)) (by decide +kernel))
set_option maxRecDepth 20000 in
theorem gL_law_L_setMask : GoodIn wsL_law (va_wsS RL 86 yL_setMask wsL_setMask) := goodIn_app (goodIn_of _ (by decide +kernel)) ggL_law_L_setMask
set_option maxRecDepth 20000 in
theorem ggL_law_X4_setMask : GoodIn wsL_law wsX4_setMask := goodIn_r _ [176, 53, 54, 103, 104, 5, 105, 106, 107, 108, 115, 116, 117, 118, 119, 497, 498, 499, 500, 501, 502, 503, 504, 505, 506] (by decide +kernel) (by decide +kernel)
set_option maxRecDepth 20000 in
theorem gL_law_X4_setMask : GoodIn wsL_law (wsV RL 88 RX4 yX4_setMask wsX4_setMask) := goodIn_app (goodIn_of _ (by decide +kernel)) ggL_law_X4_setMask
set_option maxRecDepth 20000 in
theorem ggL_law_L_approve : GoodIn wsL_law wsL_approve := goodIn_ca (goodIn_r _ [179, 61, 180, 181, 182, 2, 183, 16, 184, 185, 186, 69, 70, 71, 66, 67, 68, 81, 82, 83, 84, 85, 187, 188, 189, 190, 191, 192, 15, 193, 33, 93, 94, 95, 86, 87, 88, 194, 195, 196, 197, 31, 198, 199, 200, 201, 493, 494, 495, 496, 507, 508] (by decide +kernel) (by decide +kernel)) (goodIn_sub (fun _ h => List.mem_append_left _ (List.mem_append_right _ h)) (by decide +kernel))
set_option maxRecDepth 20000 in
theorem gL_law_L_approve : GoodIn wsL_law (va_wsS RL 89 yL_approve wsL_approve) := goodIn_app (goodIn_of _ (by decide +kernel)) ggL_law_L_approve
set_option maxRecDepth 20000 in
theorem ggL_law_X4_approve : GoodIn wsL_law wsX4_approve := goodIn_r _ [205, 52, 51, 50, 106, 107, 5, 108, 103, 104, 105, 115, 116, 117, 118, 119, 206, 207, 208, 497, 498, 499, 500, 501, 502, 503, 504, 505, 506] (by decide +kernel) (by decide +kernel)
set_option maxRecDepth 20000 in
theorem gL_law_X4_approve : GoodIn wsL_law (wsV RL 92 RX4 yX4_approve wsX4_approve) := goodIn_app (goodIn_of _ (by decide +kernel)) ggL_law_X4_approve
set_option maxRecDepth 20000 in
theorem ggL_law_L_begin : GoodIn wsL_law wsL_begin := goodIn_ca (goodIn_r _ [211, 61, 212, 213, 214, 2, 215, 16, 216, 217, 218, 69, 70, 71, 81, 82, 83, 84, 85, 219, 220, 221, 222, 187, 188, 189, 223, 224, 225, 194, 195, 196, 15, 197, 31, 198, 199, 200, 201, 33, 93, 94, 95, 190, 191, 192, 193, 493, 494, 495, 496, 507, 508] (by decide +kernel) (by decide +kernel)) (goodIn_sub (fun _ h => List.mem_append_left _ (List.mem_append_right _ h)) (by decide +kernel))
set_option maxRecDepth 20000 in
theorem gL_law_L_begin : GoodIn wsL_law (va_wsS RL 93 yL_begin wsL_begin) := goodIn_app (goodIn_of _ (by decide +kernel)) ggL_law_L_begin
set_option maxRecDepth 20000 in
theorem ggL_law_X4_begin : GoodIn wsL_law wsX4_begin := goodIn_r _ [229, 52, 106, 107, 5, 108, 115, 116, 117, 118, 119, 206, 207, 208, 230, 231, 232, 233, 51, 234, 235, 236, 497, 498, 499, 500, 501, 502, 503, 504, 505, 506] (by decide +kernel) (by decide +kernel)
set_option maxRecDepth 20000 in
theorem gL_law_X4_begin : GoodIn wsL_law (wsV RL 96 RX4 yX4_begin wsX4_begin) := goodIn_app (goodIn_of _ (by decide +kernel)) ggL_law_X4_begin
set_option maxRecDepth 20000 in
theorem ggL_law_L_join : GoodIn wsL_law wsL_join := goodIn_ca (goodIn_r _ [239, 61, 240, 241, 242, 2, 243, 216, 217, 218, 69, 70, 71, 81, 82, 83, 84, 85, 244, 245, 246, 247, 16, 187, 188, 189, 223, 224, 225, 248, 249, 250, 15, 251, 31, 252, 191, 192, 193, 33, 93, 94, 95, 253, 254, 255, 256, 194, 195, 196, 197, 198, 199, 200, 201, 219, 220, 221, 222, 493, 494, 495, 496, 507, 508] (by decide +kernel) (by decide +kernel)) (goodIn_sub (fun _ h => List.mem_append_left _ (List.mem_append_right _ h)) (by decide +kernel))
set_option maxRecDepth 20000 in
theorem gL_law_L_join : GoodIn wsL_law (va_wsS RL 97 yL_join wsL_join) := goodIn_app (goodIn_of _ (by decide +kernel)) ggL_law_L_join
set_option maxRecDepth 20000 in
theorem ggL_law_X4_join : GoodIn wsL_law wsX4_join := goodIn_r _ [260, 106, 107, 5, 108, 115, 116, 117, 118, 119, 206, 207, 208, 234, 235, 236, 261, 262, 263, 264, 52, 51, 230, 231, 232, 233, 497, 498, 499, 500, 501, 502, 503, 504, 505, 506] (by decide +kernel) (by decide +kernel)
set_option maxRecDepth 20000 in
theorem gL_law_X4_join : GoodIn wsL_law (wsV RL 99 RX4 yX4_join wsX4_join) := goodIn_app (goodIn_of _ (by decide +kernel)) ggL_law_X4_join
set_option maxRecDepth 20000 in
theorem ggL_law_L_isApproved : GoodIn wsL_law wsL_isApproved := goodIn_ca (goodIn_r _ [267, 61, 268, 269, 270, 2, 271, 16, 184, 185, 186, 69, 70, 71, 66, 67, 68, 81, 82, 83, 84, 85, 187, 188, 189, 190, 191, 192, 15, 193, 33, 93, 94, 95, 493, 494, 495, 496, 507, 508] (by decide +kernel) (by decide +kernel)) (goodIn_sub (fun _ h => List.mem_append_left _ (List.mem_append_right _ h)) (by decide +kernel))
set_option maxRecDepth 20000 in
theorem gL_law_L_isApproved : GoodIn wsL_law (va_wsS RL 100 yL_isApproved wsL_isApproved) := goodIn_app (goodIn_of _ (by decide +kernel)) ggL_law_L_isApproved
set_option maxRecDepth 20000 in
theorem ggL_law_X4_isApproved : GoodIn wsL_law wsX4_isApproved := goodIn_r _ [275, 52, 106, 107, 5, 108, 103, 104, 105, 115, 116, 117, 118, 119, 206, 207, 208, 497, 498, 499, 500, 501, 502, 503, 504, 505, 506] (by decide +kernel) (by decide +kernel)
set_option maxRecDepth 20000 in
theorem gL_law_X4_isApproved : GoodIn wsL_law (wsV RL 102 RX4 yX4_isApproved wsX4_isApproved) := goodIn_app (goodIn_of _ (by decide +kernel)) ggL_law_X4_isApproved
set_option maxRecDepth 20000 in
theorem ggL_law_L_differences : GoodIn wsL_law wsL_differences := goodIn_ca (goodIn_ca (goodIn_r _ [278, 61, 162, 279, 280, 281, 2, 282, 283, 284, 285, 286, 167, 168, 16, 184, 185, 186, 69, 70, 71, 66, 67, 68, 78, 79, 80, 81, 82, 83, 84, 85, 187, 188, 189, 190, 191, 192, 15, 193, 33, 93, 94, 95, 287, 288, 289, 290, 20, 291, 292, 293, 294, 169, 170, 171, 19, 172, 37, 39, 295, 296, 297, 298, 299, 300, 301, 302, 40, 303, 304, 305, 306, 307, 308, 309, 310, 38, 311, 312, 313, 314, 75, 76, 77, 86, 87, 88, 131, 132, 133, 134, 31, 96, 97, 98, 315, 316, 317, 318, 319, 320, 321, 322, 323, 324, 325, 326, 327, 328, 329, 330, 331, 332, 333, 334, 335, 336, 337, 338, 339, 340, 341, 342, 343, 344, 345, 346, 347, 348, 21, 349, 350, 351, 352, 353, 354, 355, 356, 357, 358, 493, 494, 495, 496, 507, 508, 509, 510, 511, 512] (by decide +kernel) (by decide +kernel)) (goodIn_sub (fun _ h => List.mem_append_right _ h) (by decide +kernel))) (goodIn_sub (fun _ h => List.mem_append_left _ (List.mem_append_right _ h)) (by decide +kernel))
set_option maxRecDepth 20000 in
theorem gL_law_L_differences : GoodIn wsL_law (va_wsS RL 103 yL_differences wsL_differences) := goodIn_app (goodIn_of _ (by decide +kernel)) ggL_law_L_differences
set_option maxRecDepth 20000 in
theorem ggL_law_X4_differences : GoodIn wsL_law wsX4_differences := goodIn_r _ [362, 363, 364, 365, 5, 366, 52, 106, 107, 108, 103, 104, 105, 206, 207, 208, 115, 116, 117, 118, 119, 367, 368, 369, 370, 371, 372, 53, 373, 374, 375, 376, 51, 50, 112, 113, 114, 377, 378, 379, 380, 381, 382, 383, 384, 385, 386, 387, 388, 389, 390, 391, 392, 393, 394, 395, 54, 396, 397, 398, 497, 498, 499, 500, 501, 502, 503, 504, 505, 506] (by decide +kernel) (by decide +kernel)
set_option maxRecDepth 20000 in
theorem gL_law_X4_differences : GoodIn wsL_law (wsV RL 105 RX4 yX4_differences wsX4_differences) := goodIn_app (goodIn_of _ (by decide +kernel)) ggL_law_X4_differences
set_option maxRecDepth 20000 in
theorem ggL_law_L_firstDifference : GoodIn wsL_law wsL_firstDifference := goodIn_ca (goodIn_ca (goodIn_r _ [401, 61, 162, 402, 403, 404, 2, 405, 283, 284, 285, 286, 167, 168, 16, 184, 185, 186, 69, 70, 71, 66, 67, 68, 78, 79, 80, 81, 82, 83, 84, 85, 187, 188, 189, 190, 191, 192, 15, 193, 33, 93, 94, 95, 406, 407, 408, 409, 287, 288, 289, 290, 20, 291, 292, 293, 294, 169, 170, 171, 19, 172, 37, 39, 295, 296, 297, 298, 299, 300, 301, 302, 40, 303, 304, 305, 306, 307, 308, 309, 310, 38, 311, 312, 313, 314, 75, 76, 77, 86, 87, 88, 131, 132, 133, 134, 31, 96, 97, 98, 315, 316, 317, 318, 319, 320, 321, 322, 323, 324, 325, 326, 327, 328, 329, 330, 331, 332, 333, 334, 335, 336, 337, 338, 339, 340, 341, 342, 343, 344, 345, 346, 347, 348, 21, 349, 350, 351, 352, 353, 354, 355, 356, 357, 358, 493, 494, 495, 496, 507, 508, 509, 510, 511, 512] (by decide +kernel) (by decide +kernel)) (goodIn_sub (fun _ h => List.mem_append_right _ h) (by decide +kernel))) (goodIn_sub (fun _ h => List.mem_append_left _ (List.mem_append_right _ h)) (by decide +kernel))
set_option maxRecDepth 20000 in
theorem gL_law_L_firstDifference : GoodIn wsL_law (va_wsS RL 106 yL_firstDifference wsL_firstDifference) := goodIn_app (goodIn_of _ (by decide +kernel)) ggL_law_L_firstDifference
set_option maxRecDepth 20000 in
theorem ggL_law_X4_firstDifference : GoodIn wsL_law wsX4_firstDifference := goodIn_r _ [413, 363, 364, 365, 5, 366, 52, 106, 107, 108, 103, 104, 105, 206, 207, 208, 115, 116, 117, 118, 119, 367, 368, 369, 370, 371, 372, 53, 373, 374, 375, 376, 51, 50, 112, 113, 114, 377, 378, 379, 380, 381, 382, 383, 414, 415, 416, 417, 384, 385, 386, 387, 388, 389, 390, 391, 392, 393, 394, 395, 54, 396, 397, 398, 497, 498, 499, 500, 501, 502, 503, 504, 505, 506] (by decide +kernel) (by decide +kernel)
set_option maxRecDepth 20000 in
theorem gL_law_X4_firstDifference : GoodIn wsL_law (wsV RL 108 RX4 yX4_firstDifference wsX4_firstDifference) := goodIn_app (goodIn_of _ (by decide +kernel)) ggL_law_X4_firstDifference
set_option maxRecDepth 20000 in
theorem ggL_law_L_move : GoodIn wsL_law wsL_move := goodIn_ca (goodIn_ca (goodIn_r _ [420, 61, 162, 421, 422, 423, 2, 424, 283, 284, 285, 286, 167, 168, 16, 184, 185, 186, 69, 70, 71, 66, 67, 68, 78, 79, 80, 81, 82, 83, 84, 85, 187, 188, 189, 190, 191, 192, 15, 193, 33, 93, 94, 95, 287, 288, 289, 290, 20, 291, 292, 293, 294, 169, 170, 171, 19, 172, 37, 39, 295, 296, 297, 298, 299, 300, 301, 302, 40, 303, 304, 305, 306, 307, 308, 309, 310, 38, 311, 312, 313, 314, 75, 76, 77, 86, 87, 88, 131, 132, 133, 134, 31, 96, 97, 98, 315, 316, 317, 318, 319, 320, 493, 494, 495, 496, 507, 508, 509, 510, 511, 512] (by decide +kernel) (by decide +kernel)) (goodIn_sub (fun _ h => List.mem_append_right _ h) (by decide +kernel))) (goodIn_sub (fun _ h => List.mem_append_left _ (List.mem_append_right _ h)) (by decide +kernel))
set_option maxRecDepth 20000 in
theorem gL_law_L_move : GoodIn wsL_law (va_wsS RL 109 yL_move wsL_move) := goodIn_app (goodIn_of _ (by decide +kernel)) ggL_law_L_move
set_option maxRecDepth 20000 in
theorem ggL_law_X4_move : GoodIn wsL_law wsX4_move := goodIn_r _ [428, 372, 371, 363, 364, 365, 5, 366, 52, 106, 107, 108, 103, 104, 105, 206, 207, 208, 115, 116, 117, 118, 119, 367, 368, 369, 370, 53, 373, 374, 375, 376, 51, 50, 112, 113, 114, 377, 378, 379, 380, 381, 382, 383, 497, 498, 499, 500, 501, 502, 503, 504, 505, 506] (by decide +kernel) (by decide +kernel)
set_option maxRecDepth 20000 in
theorem gL_law_X4_move : GoodIn wsL_law (wsV RL 111 RX4 yX4_move wsX4_move) := goodIn_app (goodIn_of _ (by decide +kernel)) ggL_law_X4_move
set_option maxRecDepth 20000 in
theorem ggL_law_L_soft : GoodIn wsL_law wsL_soft := goodIn_ca (goodIn_ca (goodIn_r _ [431, 61, 162, 432, 433, 434, 2, 435, 283, 284, 285, 286, 167, 168, 16, 184, 185, 186, 69, 70, 71, 66, 67, 68, 78, 79, 80, 81, 82, 83, 84, 85, 187, 188, 189, 190, 191, 192, 15, 193, 33, 93, 94, 95, 325, 326, 327, 328, 329, 330, 349, 350, 351, 352, 353, 354, 293, 355, 356, 357, 358, 86, 87, 88, 131, 132, 133, 134, 31, 76, 77, 96, 97, 98, 315, 316, 317, 291, 292, 294, 493, 494, 495, 496, 507, 508] (by decide +kernel) (by decide +kernel)) (goodIn_sub (fun _ h => List.mem_append_right _ h) (by decide +kernel))) (goodIn_sub (fun _ h => List.mem_append_left _ (List.mem_append_right _ h)) (by decide +kernel))
set_option maxRecDepth 20000 in
theorem gL_law_L_soft : GoodIn wsL_law (va_wsS RL 112 yL_soft wsL_soft) := goodIn_app (goodIn_of _ (by decide +kernel)) ggL_law_L_soft
set_option maxRecDepth 20000 in
theorem ggL_law_X4_soft : GoodIn wsL_law wsX4_soft := goodIn_r _ [439, 363, 364, 365, 5, 366, 52, 106, 107, 108, 103, 104, 105, 206, 207, 208, 115, 116, 117, 118, 119, 367, 368, 369, 370, 371, 372, 53, 373, 374, 375, 376, 51, 50, 112, 113, 114, 377, 378, 379, 380, 381, 382, 383, 388, 389, 390, 391, 497, 498, 499, 500, 501, 502, 503, 504, 505, 506] (by decide +kernel) (by decide +kernel)
set_option maxRecDepth 20000 in
theorem gL_law_X4_soft : GoodIn wsL_law (wsV RL 114 RX4 yX4_soft wsX4_soft) := goodIn_app (goodIn_of _ (by decide +kernel)) ggL_law_X4_soft
set_option maxRecDepth 20000 in
theorem ggL_law_L_run : GoodIn wsL_law wsL_run := goodIn_ca (goodIn_ca (goodIn_r _ [442, 61, 162, 443, 444, 445, 2, 446, 25, 283, 284, 285, 286, 167, 168, 16, 184, 185, 186, 69, 70, 71, 66, 67, 68, 78, 79, 80, 81, 82, 83, 84, 85, 187, 188, 189, 190, 191, 192, 15, 193, 33, 93, 94, 95, 406, 407, 408, 409, 287, 288, 289, 290, 20, 291, 292, 293, 294, 169, 170, 171, 19, 172, 37, 39, 295, 296, 297, 298, 299, 300, 301, 302, 40, 303, 304, 305, 306, 307, 308, 309, 310, 38, 311, 312, 313, 314, 75, 76, 77, 86, 87, 88, 131, 132, 133, 134, 31, 96, 97, 98, 315, 316, 317, 318, 319, 320, 321, 322, 323, 324, 325, 326, 327, 328, 329, 330, 331, 332, 333, 334, 335, 336, 337, 338, 339, 340, 341, 342, 343, 344, 345, 346, 347, 348, 21, 349, 350, 351, 352, 353, 354, 355, 356, 357, 358, 447, 448, 449, 24, 450, 44, 45, 451, 493, 494, 495, 496, 507, 508, 509, 510, 511, 512, 513, 514] (by decide +kernel) (by decide +kernel)) (goodIn_sub (fun _ h => List.mem_append_right _ h) (by decide +kernel))) (goodIn_sub (fun _ h => List.mem_append_left _ (List.mem_append_right _ h)) (by decide +kernel))
set_option maxRecDepth 20000 in
theorem gL_law_L_run : GoodIn wsL_law (va_wsS RL 115 yL_run wsL_run) := goodIn_app (goodIn_of _ (by decide +kernel)) ggL_law_L_run
set_option maxRecDepth 20000 in
theorem ggL_law_X4_run : GoodIn wsL_law wsX4_run := goodIn_r _ [455, 56, 55, 363, 364, 365, 5, 366, 52, 106, 107, 108, 103, 104, 105, 206, 207, 208, 115, 116, 117, 118, 119, 367, 368, 369, 370, 371, 372, 53, 373, 374, 375, 376, 51, 50, 112, 113, 114, 377, 378, 379, 380, 381, 382, 383, 414, 415, 416, 417, 384, 385, 386, 387, 388, 389, 390, 391, 392, 393, 394, 395, 54, 396, 397, 398, 497, 498, 499, 500, 501, 502, 503, 504, 505, 506] (by decide +kernel) (by decide +kernel)
set_option maxRecDepth 20000 in
theorem gL_law_X4_run : GoodIn wsL_law (wsV RL 117 RX4 yX4_run wsX4_run) := goodIn_app (goodIn_of _ (by decide +kernel)) ggL_law_X4_run
set_option maxRecDepth 20000 in
theorem ggL_law_L_runs : GoodIn wsL_law wsL_runs := goodIn_ca (goodIn_r _ [458, 61, 459, 460, 461, 2, 462, 25, 66, 67, 68, 69, 70, 71, 81, 82, 83, 84, 85, 463, 464, 465, 24, 466, 45, 493, 494, 495, 496, 513, 514] (by decide +kernel) (by decide +kernel)) (goodIn_sub (fun _ h => List.mem_append_left _ (List.mem_append_right _ h)) (by decide +kernel))
set_option maxRecDepth 20000 in
theorem gL_law_L_runs : GoodIn wsL_law (va_wsS RL 118 yL_runs wsL_runs) := goodIn_app (goodIn_of _ (by decide +kernel)) ggL_law_L_runs
set_option maxRecDepth 20000 in
theorem ggL_law_X4_runs : GoodIn wsL_law wsX4_runs := goodIn_r _ [470, 56, 103, 104, 5, 105, 106, 107, 108, 115, 116, 117, 118, 119, 497, 498, 499, 500, 501, 502, 503, 504, 505, 506] (by decide +kernel) (by decide +kernel)
set_option maxRecDepth 20000 in
theorem gL_law_X4_runs : GoodIn wsL_law (wsV RL 120 RX4 yX4_runs wsX4_runs) := goodIn_app (goodIn_of _ (by decide +kernel)) ggL_law_X4_runs
set_option maxRecDepth 20000 in
theorem ggL_law_L_doubt : GoodIn wsL_law wsL_doubt := goodIn_ca (goodIn_r _ [473, 61, 474, 475, 476, 2, 477, 25, 66, 67, 68, 69, 70, 71, 81, 82, 83, 84, 85, 463, 464, 465, 24, 466, 45, 478, 479, 480, 481, 44, 482, 483, 484, 485, 486, 487, 488, 493, 494, 495, 496, 513, 514] (by decide +kernel) (by decide +kernel)) (goodIn_sub (fun _ h => List.mem_append_left _ (List.mem_append_right _ h)) (by decide +kernel))
set_option maxRecDepth 20000 in
theorem gL_law_L_doubt : GoodIn wsL_law (va_wsS RL 121 yL_doubt wsL_doubt) := goodIn_app (goodIn_of _ (by decide +kernel)) ggL_law_L_doubt
set_option maxRecDepth 20000 in
theorem ggL_law_X4_doubt : GoodIn wsL_law wsX4_doubt := goodIn_r _ [492, 56, 55, 103, 104, 5, 105, 106, 107, 108, 115, 116, 117, 118, 119, 497, 498, 499, 500, 501, 502, 503, 504, 505, 506] (by decide +kernel) (by decide +kernel)
set_option maxRecDepth 20000 in
theorem gL_law_X4_doubt : GoodIn wsL_law (wsV RL 123 RX4 yX4_doubt wsX4_doubt) := goodIn_app (goodIn_of _ (by decide +kernel)) ggL_law_X4_doubt
end
section
theorem dL_law_0 : decode cL_law 0 = .ok (.new 8, 3) := by decide +kernel
theorem dL_law_3 : decode cL_law 3 = .ok (.dup, 1) := by decide +kernel
theorem dL_law_4 : decode cL_law 4 = .ok (.invokespecial 64, 3) := by decide +kernel
theorem dL_law_7 : decode cL_law 7 = .ok (.astore_n 1, 1) := by decide +kernel
theorem dL_law_8 : decode cL_law 8 = .ok (.new 65, 3) := by decide +kernel
theorem dL_law_11 : decode cL_law 11 = .ok (.dup, 1) := by decide +kernel
theorem dL_law_12 : decode cL_law 12 = .ok (.invokespecial 67, 3) := by decide +kernel
theorem dL_law_15 : decode cL_law 15 = .ok (.astore_n 2, 1) := by decide +kernel
theorem dL_law_16 : decode cL_law 16 = .ok (.iconst 1, 1) := by decide +kernel
theorem dL_law_17 : decode cL_law 17 = .ok (.newarray .long, 2) := by decide +kernel
theorem dL_law_19 : decode cL_law 19 = .ok (.astore_n 3, 1) := by decide +kernel
theorem dL_law_20 : decode cL_law 20 = .ok (.iconst 0, 1) := by decide +kernel
theorem dL_law_21 : decode cL_law 21 = .ok (.istore 4, 2) := by decide +kernel
theorem dL_law_23 : decode cL_law 23 = .ok (.iload 4, 2) := by decide +kernel
theorem dL_law_25 : decode cL_law 25 = .ok (.aload_n 0, 1) := by decide +kernel
theorem dL_law_26 : decode cL_law 26 = .ok (.arraylength, 1) := by decide +kernel
theorem dL_law_27 : decode cL_law 27 = .ok (.bipush 7, 2) := by decide +kernel
theorem dL_law_29 : decode cL_law 29 = .ok (.isub, 1) := by decide +kernel
theorem dL_law_30 : decode cL_law 30 = .ok (.if_icmp .gt 1239, 3) := by decide +kernel
theorem dL_law_33 : decode cL_law 33 = .ok (.aload_n 0, 1) := by decide +kernel
theorem dL_law_34 : decode cL_law 34 = .ok (.iload 4, 2) := by decide +kernel
theorem dL_law_36 : decode cL_law 36 = .ok (.iaload, 1) := by decide +kernel
theorem dL_law_37 : decode cL_law 37 = .ok (.bipush 15, 2) := by decide +kernel
theorem dL_law_39 : decode cL_law 39 = .ok (.iand, 1) := by decide +kernel
theorem dL_law_40 : decode cL_law 40 = .ok (.tableswitch 1223 0 14 #[76, 194, 274, 358, 442, 517, 573, 629, 704, 784, 864, 944, 1024, 1111, 1167], 76) := by decide +kernel
theorem dL_law_116 : decode cL_law 116 = .ok (.aload_n 1, 1) := by decide +kernel
theorem dL_law_117 : decode cL_law 117 = .ok (.aload_n 0, 1) := by decide +kernel
theorem dL_law_118 : decode cL_law 118 = .ok (.iload 4, 2) := by decide +kernel
theorem dL_law_120 : decode cL_law 120 = .ok (.iconst 1, 1) := by decide +kernel
theorem dL_law_121 : decode cL_law 121 = .ok (.iadd, 1) := by decide +kernel
theorem dL_law_122 : decode cL_law 122 = .ok (.iaload, 1) := by decide +kernel
theorem dL_law_123 : decode cL_law 123 = .ok (.aload_n 0, 1) := by decide +kernel
theorem dL_law_124 : decode cL_law 124 = .ok (.iload 4, 2) := by decide +kernel
theorem dL_law_126 : decode cL_law 126 = .ok (.iconst 2, 1) := by decide +kernel
theorem dL_law_127 : decode cL_law 127 = .ok (.iadd, 1) := by decide +kernel
theorem dL_law_128 : decode cL_law 128 = .ok (.iaload, 1) := by decide +kernel
theorem dL_law_129 : decode cL_law 129 = .ok (.aload_n 0, 1) := by decide +kernel
theorem dL_law_130 : decode cL_law 130 = .ok (.iload 4, 2) := by decide +kernel
theorem dL_law_132 : decode cL_law 132 = .ok (.iconst 3, 1) := by decide +kernel
theorem dL_law_133 : decode cL_law 133 = .ok (.iadd, 1) := by decide +kernel
theorem dL_law_134 : decode cL_law 134 = .ok (.iaload, 1) := by decide +kernel
theorem dL_law_135 : decode cL_law 135 = .ok (.aload_n 0, 1) := by decide +kernel
theorem dL_law_136 : decode cL_law 136 = .ok (.iload 4, 2) := by decide +kernel
theorem dL_law_138 : decode cL_law 138 = .ok (.iconst 4, 1) := by decide +kernel
theorem dL_law_139 : decode cL_law 139 = .ok (.iadd, 1) := by decide +kernel
theorem dL_law_140 : decode cL_law 140 = .ok (.iaload, 1) := by decide +kernel
theorem dL_law_141 : decode cL_law 141 = .ok (.aload_n 0, 1) := by decide +kernel
theorem dL_law_142 : decode cL_law 142 = .ok (.iload 4, 2) := by decide +kernel
theorem dL_law_144 : decode cL_law 144 = .ok (.iconst 5, 1) := by decide +kernel
theorem dL_law_145 : decode cL_law 145 = .ok (.iadd, 1) := by decide +kernel
theorem dL_law_146 : decode cL_law 146 = .ok (.iaload, 1) := by decide +kernel
theorem dL_law_147 : decode cL_law 147 = .ok (.aload_n 0, 1) := by decide +kernel
theorem dL_law_148 : decode cL_law 148 = .ok (.iload 4, 2) := by decide +kernel
theorem dL_law_150 : decode cL_law 150 = .ok (.bipush 6, 2) := by decide +kernel
theorem dL_law_152 : decode cL_law 152 = .ok (.iadd, 1) := by decide +kernel
theorem dL_law_153 : decode cL_law 153 = .ok (.iaload, 1) := by decide +kernel
theorem dL_law_154 : decode cL_law 154 = .ok (.aload_n 3, 1) := by decide +kernel
theorem dL_law_155 : decode cL_law 155 = .ok (.invokestatic 68, 3) := by decide +kernel
theorem dL_law_158 : decode cL_law 158 = .ok (.istore 5, 2) := by decide +kernel
theorem dL_law_160 : decode cL_law 160 = .ok (.aload_n 2, 1) := by decide +kernel
theorem dL_law_161 : decode cL_law 161 = .ok (.aload_n 0, 1) := by decide +kernel
theorem dL_law_162 : decode cL_law 162 = .ok (.iload 4, 2) := by decide +kernel
theorem dL_law_164 : decode cL_law 164 = .ok (.iconst 1, 1) := by decide +kernel
theorem dL_law_165 : decode cL_law 165 = .ok (.iadd, 1) := by decide +kernel
theorem dL_law_166 : decode cL_law 166 = .ok (.iaload, 1) := by decide +kernel
theorem dL_law_167 : decode cL_law 167 = .ok (.aload_n 0, 1) := by decide +kernel
theorem dL_law_168 : decode cL_law 168 = .ok (.iload 4, 2) := by decide +kernel
theorem dL_law_170 : decode cL_law 170 = .ok (.iconst 2, 1) := by decide +kernel
theorem dL_law_171 : decode cL_law 171 = .ok (.iadd, 1) := by decide +kernel
theorem dL_law_172 : decode cL_law 172 = .ok (.iaload, 1) := by decide +kernel
theorem dL_law_173 : decode cL_law 173 = .ok (.aload_n 0, 1) := by decide +kernel
theorem dL_law_174 : decode cL_law 174 = .ok (.iload 4, 2) := by decide +kernel
theorem dL_law_176 : decode cL_law 176 = .ok (.iconst 3, 1) := by decide +kernel
theorem dL_law_177 : decode cL_law 177 = .ok (.iadd, 1) := by decide +kernel
theorem dL_law_178 : decode cL_law 178 = .ok (.iaload, 1) := by decide +kernel
theorem dL_law_179 : decode cL_law 179 = .ok (.aload_n 0, 1) := by decide +kernel
theorem dL_law_180 : decode cL_law 180 = .ok (.iload 4, 2) := by decide +kernel
theorem dL_law_182 : decode cL_law 182 = .ok (.iconst 4, 1) := by decide +kernel
theorem dL_law_183 : decode cL_law 183 = .ok (.iadd, 1) := by decide +kernel
theorem dL_law_184 : decode cL_law 184 = .ok (.iaload, 1) := by decide +kernel
theorem dL_law_185 : decode cL_law 185 = .ok (.aload_n 0, 1) := by decide +kernel
theorem dL_law_186 : decode cL_law 186 = .ok (.iload 4, 2) := by decide +kernel
theorem dL_law_188 : decode cL_law 188 = .ok (.iconst 5, 1) := by decide +kernel
theorem dL_law_189 : decode cL_law 189 = .ok (.iadd, 1) := by decide +kernel
theorem dL_law_190 : decode cL_law 190 = .ok (.iaload, 1) := by decide +kernel
theorem dL_law_191 : decode cL_law 191 = .ok (.aload_n 0, 1) := by decide +kernel
theorem dL_law_192 : decode cL_law 192 = .ok (.iload 4, 2) := by decide +kernel
theorem dL_law_194 : decode cL_law 194 = .ok (.bipush 6, 2) := by decide +kernel
theorem dL_law_196 : decode cL_law 196 = .ok (.iadd, 1) := by decide +kernel
theorem dL_law_197 : decode cL_law 197 = .ok (.iaload, 1) := by decide +kernel
theorem dL_law_198 : decode cL_law 198 = .ok (.invokevirtual 73, 3) := by decide +kernel
theorem dL_law_201 : decode cL_law 201 = .ok (.istore 6, 2) := by decide +kernel
theorem dL_law_203 : decode cL_law 203 = .ok (.aload_n 2, 1) := by decide +kernel
theorem dL_law_204 : decode cL_law 204 = .ok (.invokevirtual 74, 3) := by decide +kernel
theorem dL_law_207 : decode cL_law 207 = .ok (.iload 5, 2) := by decide +kernel
theorem dL_law_209 : decode cL_law 209 = .ok (.if_icmp .eq 5, 3) := by decide +kernel
theorem dL_law_212 : decode cL_law 212 = .ok (.iconst 0, 1) := by decide +kernel
theorem dL_law_213 : decode cL_law 213 = .ok (.ireturn, 1) := by decide +kernel
theorem dL_law_214 : decode cL_law 214 = .ok (.iload 5, 2) := by decide +kernel
theorem dL_law_216 : decode cL_law 216 = .ok (.ifCond .ne 15, 3) := by decide +kernel
theorem dL_law_219 : decode cL_law 219 = .ok (.aload_n 3, 1) := by decide +kernel
theorem dL_law_220 : decode cL_law 220 = .ok (.iconst 0, 1) := by decide +kernel
theorem dL_law_221 : decode cL_law 221 = .ok (.laload, 1) := by decide +kernel
theorem dL_law_222 : decode cL_law 222 = .ok (.iload 6, 2) := by decide +kernel
theorem dL_law_224 : decode cL_law 224 = .ok (.i2l, 1) := by decide +kernel
theorem dL_law_225 : decode cL_law 225 = .ok (.lcmp, 1) := by decide +kernel
theorem dL_law_226 : decode cL_law 226 = .ok (.ifCond .eq 5, 3) := by decide +kernel
theorem dL_law_229 : decode cL_law 229 = .ok (.iconst 0, 1) := by decide +kernel
theorem dL_law_230 : decode cL_law 230 = .ok (.ireturn, 1) := by decide +kernel
theorem dL_law_231 : decode cL_law 231 = .ok (.goto 1032, 3) := by decide +kernel
theorem dL_law_234 : decode cL_law 234 = .ok (.aload_n 1, 1) := by decide +kernel
theorem dL_law_235 : decode cL_law 235 = .ok (.aload_n 0, 1) := by decide +kernel
theorem dL_law_236 : decode cL_law 236 = .ok (.iload 4, 2) := by decide +kernel
theorem dL_law_238 : decode cL_law 238 = .ok (.iconst 1, 1) := by decide +kernel
theorem dL_law_239 : decode cL_law 239 = .ok (.iadd, 1) := by decide +kernel
theorem dL_law_240 : decode cL_law 240 = .ok (.iaload, 1) := by decide +kernel
theorem dL_law_241 : decode cL_law 241 = .ok (.aload_n 0, 1) := by decide +kernel
theorem dL_law_242 : decode cL_law 242 = .ok (.iload 4, 2) := by decide +kernel
theorem dL_law_244 : decode cL_law 244 = .ok (.iconst 2, 1) := by decide +kernel
theorem dL_law_245 : decode cL_law 245 = .ok (.iadd, 1) := by decide +kernel
theorem dL_law_246 : decode cL_law 246 = .ok (.iaload, 1) := by decide +kernel
theorem dL_law_247 : decode cL_law 247 = .ok (.aload_n 0, 1) := by decide +kernel
theorem dL_law_248 : decode cL_law 248 = .ok (.iload 4, 2) := by decide +kernel
theorem dL_law_250 : decode cL_law 250 = .ok (.iconst 3, 1) := by decide +kernel
theorem dL_law_251 : decode cL_law 251 = .ok (.iadd, 1) := by decide +kernel
theorem dL_law_252 : decode cL_law 252 = .ok (.iaload, 1) := by decide +kernel
theorem dL_law_253 : decode cL_law 253 = .ok (.aload_n 3, 1) := by decide +kernel
theorem dL_law_254 : decode cL_law 254 = .ok (.invokestatic 78, 3) := by decide +kernel
theorem dL_law_257 : decode cL_law 257 = .ok (.istore 5, 2) := by decide +kernel
theorem dL_law_259 : decode cL_law 259 = .ok (.aload_n 2, 1) := by decide +kernel
theorem dL_law_260 : decode cL_law 260 = .ok (.aload_n 0, 1) := by decide +kernel
theorem dL_law_261 : decode cL_law 261 = .ok (.iload 4, 2) := by decide +kernel
theorem dL_law_263 : decode cL_law 263 = .ok (.iconst 1, 1) := by decide +kernel
theorem dL_law_264 : decode cL_law 264 = .ok (.iadd, 1) := by decide +kernel
theorem dL_law_265 : decode cL_law 265 = .ok (.iaload, 1) := by decide +kernel
theorem dL_law_266 : decode cL_law 266 = .ok (.aload_n 0, 1) := by decide +kernel
theorem dL_law_267 : decode cL_law 267 = .ok (.iload 4, 2) := by decide +kernel
theorem dL_law_269 : decode cL_law 269 = .ok (.iconst 2, 1) := by decide +kernel
theorem dL_law_270 : decode cL_law 270 = .ok (.iadd, 1) := by decide +kernel
theorem dL_law_271 : decode cL_law 271 = .ok (.iaload, 1) := by decide +kernel
theorem dL_law_272 : decode cL_law 272 = .ok (.aload_n 0, 1) := by decide +kernel
theorem dL_law_273 : decode cL_law 273 = .ok (.iload 4, 2) := by decide +kernel
theorem dL_law_275 : decode cL_law 275 = .ok (.iconst 3, 1) := by decide +kernel
theorem dL_law_276 : decode cL_law 276 = .ok (.iadd, 1) := by decide +kernel
theorem dL_law_277 : decode cL_law 277 = .ok (.iaload, 1) := by decide +kernel
theorem dL_law_278 : decode cL_law 278 = .ok (.invokevirtual 81, 3) := by decide +kernel
theorem dL_law_281 : decode cL_law 281 = .ok (.istore 6, 2) := by decide +kernel
theorem dL_law_283 : decode cL_law 283 = .ok (.aload_n 2, 1) := by decide +kernel
theorem dL_law_284 : decode cL_law 284 = .ok (.invokevirtual 74, 3) := by decide +kernel
theorem dL_law_287 : decode cL_law 287 = .ok (.iload 5, 2) := by decide +kernel
theorem dL_law_289 : decode cL_law 289 = .ok (.if_icmp .eq 5, 3) := by decide +kernel
theorem dL_law_292 : decode cL_law 292 = .ok (.iconst 0, 1) := by decide +kernel
theorem dL_law_293 : decode cL_law 293 = .ok (.ireturn, 1) := by decide +kernel
theorem dL_law_294 : decode cL_law 294 = .ok (.iload 5, 2) := by decide +kernel
theorem dL_law_296 : decode cL_law 296 = .ok (.ifCond .ne 15, 3) := by decide +kernel
theorem dL_law_299 : decode cL_law 299 = .ok (.aload_n 3, 1) := by decide +kernel
theorem dL_law_300 : decode cL_law 300 = .ok (.iconst 0, 1) := by decide +kernel
theorem dL_law_301 : decode cL_law 301 = .ok (.laload, 1) := by decide +kernel
theorem dL_law_302 : decode cL_law 302 = .ok (.iload 6, 2) := by decide +kernel
theorem dL_law_304 : decode cL_law 304 = .ok (.i2l, 1) := by decide +kernel
theorem dL_law_305 : decode cL_law 305 = .ok (.lcmp, 1) := by decide +kernel
theorem dL_law_306 : decode cL_law 306 = .ok (.ifCond .eq 5, 3) := by decide +kernel
theorem dL_law_309 : decode cL_law 309 = .ok (.iconst 0, 1) := by decide +kernel
theorem dL_law_310 : decode cL_law 310 = .ok (.ireturn, 1) := by decide +kernel
theorem dL_law_311 : decode cL_law 311 = .ok (.goto 952, 3) := by decide +kernel
theorem dL_law_314 : decode cL_law 314 = .ok (.aload_n 1, 1) := by decide +kernel
theorem dL_law_315 : decode cL_law 315 = .ok (.aload_n 0, 1) := by decide +kernel
theorem dL_law_316 : decode cL_law 316 = .ok (.iload 4, 2) := by decide +kernel
theorem dL_law_318 : decode cL_law 318 = .ok (.iconst 1, 1) := by decide +kernel
theorem dL_law_319 : decode cL_law 319 = .ok (.iadd, 1) := by decide +kernel
theorem dL_law_320 : decode cL_law 320 = .ok (.iaload, 1) := by decide +kernel
theorem dL_law_321 : decode cL_law 321 = .ok (.aload_n 0, 1) := by decide +kernel
theorem dL_law_322 : decode cL_law 322 = .ok (.iload 4, 2) := by decide +kernel
theorem dL_law_324 : decode cL_law 324 = .ok (.iconst 2, 1) := by decide +kernel
theorem dL_law_325 : decode cL_law 325 = .ok (.iadd, 1) := by decide +kernel
theorem dL_law_326 : decode cL_law 326 = .ok (.iaload, 1) := by decide +kernel
theorem dL_law_327 : decode cL_law 327 = .ok (.aload_n 0, 1) := by decide +kernel
theorem dL_law_328 : decode cL_law 328 = .ok (.iload 4, 2) := by decide +kernel
theorem dL_law_330 : decode cL_law 330 = .ok (.iconst 3, 1) := by decide +kernel
theorem dL_law_331 : decode cL_law 331 = .ok (.iadd, 1) := by decide +kernel
theorem dL_law_332 : decode cL_law 332 = .ok (.iaload, 1) := by decide +kernel
theorem dL_law_333 : decode cL_law 333 = .ok (.aload_n 0, 1) := by decide +kernel
theorem dL_law_334 : decode cL_law 334 = .ok (.iload 4, 2) := by decide +kernel
theorem dL_law_336 : decode cL_law 336 = .ok (.iconst 4, 1) := by decide +kernel
theorem dL_law_337 : decode cL_law 337 = .ok (.iadd, 1) := by decide +kernel
theorem dL_law_338 : decode cL_law 338 = .ok (.iaload, 1) := by decide +kernel
theorem dL_law_339 : decode cL_law 339 = .ok (.aload_n 0, 1) := by decide +kernel
theorem dL_law_340 : decode cL_law 340 = .ok (.iload 4, 2) := by decide +kernel
theorem dL_law_342 : decode cL_law 342 = .ok (.iconst 5, 1) := by decide +kernel
theorem dL_law_343 : decode cL_law 343 = .ok (.iadd, 1) := by decide +kernel
theorem dL_law_344 : decode cL_law 344 = .ok (.iaload, 1) := by decide +kernel
theorem dL_law_345 : decode cL_law 345 = .ok (.invokestatic 82, 3) := by decide +kernel
theorem dL_law_348 : decode cL_law 348 = .ok (.istore 5, 2) := by decide +kernel
theorem dL_law_350 : decode cL_law 350 = .ok (.aload_n 2, 1) := by decide +kernel
theorem dL_law_351 : decode cL_law 351 = .ok (.aload_n 0, 1) := by decide +kernel
theorem dL_law_352 : decode cL_law 352 = .ok (.iload 4, 2) := by decide +kernel
theorem dL_law_354 : decode cL_law 354 = .ok (.iconst 1, 1) := by decide +kernel
theorem dL_law_355 : decode cL_law 355 = .ok (.iadd, 1) := by decide +kernel
theorem dL_law_356 : decode cL_law 356 = .ok (.iaload, 1) := by decide +kernel
theorem dL_law_357 : decode cL_law 357 = .ok (.aload_n 0, 1) := by decide +kernel
theorem dL_law_358 : decode cL_law 358 = .ok (.iload 4, 2) := by decide +kernel
theorem dL_law_360 : decode cL_law 360 = .ok (.iconst 2, 1) := by decide +kernel
theorem dL_law_361 : decode cL_law 361 = .ok (.iadd, 1) := by decide +kernel
theorem dL_law_362 : decode cL_law 362 = .ok (.iaload, 1) := by decide +kernel
theorem dL_law_363 : decode cL_law 363 = .ok (.aload_n 0, 1) := by decide +kernel
theorem dL_law_364 : decode cL_law 364 = .ok (.iload 4, 2) := by decide +kernel
theorem dL_law_366 : decode cL_law 366 = .ok (.iconst 3, 1) := by decide +kernel
theorem dL_law_367 : decode cL_law 367 = .ok (.iadd, 1) := by decide +kernel
theorem dL_law_368 : decode cL_law 368 = .ok (.iaload, 1) := by decide +kernel
theorem dL_law_369 : decode cL_law 369 = .ok (.aload_n 0, 1) := by decide +kernel
theorem dL_law_370 : decode cL_law 370 = .ok (.iload 4, 2) := by decide +kernel
theorem dL_law_372 : decode cL_law 372 = .ok (.iconst 4, 1) := by decide +kernel
theorem dL_law_373 : decode cL_law 373 = .ok (.iadd, 1) := by decide +kernel
theorem dL_law_374 : decode cL_law 374 = .ok (.iaload, 1) := by decide +kernel
theorem dL_law_375 : decode cL_law 375 = .ok (.aload_n 0, 1) := by decide +kernel
theorem dL_law_376 : decode cL_law 376 = .ok (.iload 4, 2) := by decide +kernel
theorem dL_law_378 : decode cL_law 378 = .ok (.iconst 5, 1) := by decide +kernel
theorem dL_law_379 : decode cL_law 379 = .ok (.iadd, 1) := by decide +kernel
theorem dL_law_380 : decode cL_law 380 = .ok (.iaload, 1) := by decide +kernel
theorem dL_law_381 : decode cL_law 381 = .ok (.invokevirtual 85, 3) := by decide +kernel
theorem dL_law_384 : decode cL_law 384 = .ok (.aload_n 2, 1) := by decide +kernel
theorem dL_law_385 : decode cL_law 385 = .ok (.invokevirtual 74, 3) := by decide +kernel
theorem dL_law_388 : decode cL_law 388 = .ok (.iload 5, 2) := by decide +kernel
theorem dL_law_390 : decode cL_law 390 = .ok (.if_icmp .eq 5, 3) := by decide +kernel
theorem dL_law_393 : decode cL_law 393 = .ok (.iconst 0, 1) := by decide +kernel
theorem dL_law_394 : decode cL_law 394 = .ok (.ireturn, 1) := by decide +kernel
theorem dL_law_395 : decode cL_law 395 = .ok (.goto 868, 3) := by decide +kernel
theorem dL_law_398 : decode cL_law 398 = .ok (.aload_n 1, 1) := by decide +kernel
theorem dL_law_399 : decode cL_law 399 = .ok (.aload_n 0, 1) := by decide +kernel
theorem dL_law_400 : decode cL_law 400 = .ok (.iload 4, 2) := by decide +kernel
theorem dL_law_402 : decode cL_law 402 = .ok (.iconst 1, 1) := by decide +kernel
theorem dL_law_403 : decode cL_law 403 = .ok (.iadd, 1) := by decide +kernel
theorem dL_law_404 : decode cL_law 404 = .ok (.iaload, 1) := by decide +kernel
theorem dL_law_405 : decode cL_law 405 = .ok (.aload_n 0, 1) := by decide +kernel
theorem dL_law_406 : decode cL_law 406 = .ok (.iload 4, 2) := by decide +kernel
theorem dL_law_408 : decode cL_law 408 = .ok (.iconst 2, 1) := by decide +kernel
theorem dL_law_409 : decode cL_law 409 = .ok (.iadd, 1) := by decide +kernel
theorem dL_law_410 : decode cL_law 410 = .ok (.iaload, 1) := by decide +kernel
theorem dL_law_411 : decode cL_law 411 = .ok (.aload_n 0, 1) := by decide +kernel
theorem dL_law_412 : decode cL_law 412 = .ok (.iload 4, 2) := by decide +kernel
theorem dL_law_414 : decode cL_law 414 = .ok (.iconst 3, 1) := by decide +kernel
theorem dL_law_415 : decode cL_law 415 = .ok (.iadd, 1) := by decide +kernel
theorem dL_law_416 : decode cL_law 416 = .ok (.iaload, 1) := by decide +kernel
theorem dL_law_417 : decode cL_law 417 = .ok (.aload_n 0, 1) := by decide +kernel
theorem dL_law_418 : decode cL_law 418 = .ok (.iload 4, 2) := by decide +kernel
theorem dL_law_420 : decode cL_law 420 = .ok (.iconst 4, 1) := by decide +kernel
theorem dL_law_421 : decode cL_law 421 = .ok (.iadd, 1) := by decide +kernel
theorem dL_law_422 : decode cL_law 422 = .ok (.iaload, 1) := by decide +kernel
theorem dL_law_423 : decode cL_law 423 = .ok (.aload_n 0, 1) := by decide +kernel
theorem dL_law_424 : decode cL_law 424 = .ok (.iload 4, 2) := by decide +kernel
theorem dL_law_426 : decode cL_law 426 = .ok (.iconst 5, 1) := by decide +kernel
theorem dL_law_427 : decode cL_law 427 = .ok (.iadd, 1) := by decide +kernel
theorem dL_law_428 : decode cL_law 428 = .ok (.iaload, 1) := by decide +kernel
theorem dL_law_429 : decode cL_law 429 = .ok (.invokestatic 86, 3) := by decide +kernel
theorem dL_law_432 : decode cL_law 432 = .ok (.istore 5, 2) := by decide +kernel
theorem dL_law_434 : decode cL_law 434 = .ok (.aload_n 2, 1) := by decide +kernel
theorem dL_law_435 : decode cL_law 435 = .ok (.aload_n 0, 1) := by decide +kernel
theorem dL_law_436 : decode cL_law 436 = .ok (.iload 4, 2) := by decide +kernel
theorem dL_law_438 : decode cL_law 438 = .ok (.iconst 1, 1) := by decide +kernel
theorem dL_law_439 : decode cL_law 439 = .ok (.iadd, 1) := by decide +kernel
theorem dL_law_440 : decode cL_law 440 = .ok (.iaload, 1) := by decide +kernel
theorem dL_law_441 : decode cL_law 441 = .ok (.aload_n 0, 1) := by decide +kernel
theorem dL_law_442 : decode cL_law 442 = .ok (.iload 4, 2) := by decide +kernel
theorem dL_law_444 : decode cL_law 444 = .ok (.iconst 2, 1) := by decide +kernel
theorem dL_law_445 : decode cL_law 445 = .ok (.iadd, 1) := by decide +kernel
theorem dL_law_446 : decode cL_law 446 = .ok (.iaload, 1) := by decide +kernel
theorem dL_law_447 : decode cL_law 447 = .ok (.aload_n 0, 1) := by decide +kernel
theorem dL_law_448 : decode cL_law 448 = .ok (.iload 4, 2) := by decide +kernel
theorem dL_law_450 : decode cL_law 450 = .ok (.iconst 3, 1) := by decide +kernel
theorem dL_law_451 : decode cL_law 451 = .ok (.iadd, 1) := by decide +kernel
end
section
theorem dL_law_452 : decode cL_law 452 = .ok (.iaload, 1) := by decide +kernel
theorem dL_law_453 : decode cL_law 453 = .ok (.aload_n 0, 1) := by decide +kernel
theorem dL_law_454 : decode cL_law 454 = .ok (.iload 4, 2) := by decide +kernel
theorem dL_law_456 : decode cL_law 456 = .ok (.iconst 4, 1) := by decide +kernel
theorem dL_law_457 : decode cL_law 457 = .ok (.iadd, 1) := by decide +kernel
theorem dL_law_458 : decode cL_law 458 = .ok (.iaload, 1) := by decide +kernel
theorem dL_law_459 : decode cL_law 459 = .ok (.aload_n 0, 1) := by decide +kernel
theorem dL_law_460 : decode cL_law 460 = .ok (.iload 4, 2) := by decide +kernel
theorem dL_law_462 : decode cL_law 462 = .ok (.iconst 5, 1) := by decide +kernel
theorem dL_law_463 : decode cL_law 463 = .ok (.iadd, 1) := by decide +kernel
theorem dL_law_464 : decode cL_law 464 = .ok (.iaload, 1) := by decide +kernel
theorem dL_law_465 : decode cL_law 465 = .ok (.invokevirtual 88, 3) := by decide +kernel
theorem dL_law_468 : decode cL_law 468 = .ok (.aload_n 2, 1) := by decide +kernel
theorem dL_law_469 : decode cL_law 469 = .ok (.invokevirtual 74, 3) := by decide +kernel
theorem dL_law_472 : decode cL_law 472 = .ok (.iload 5, 2) := by decide +kernel
theorem dL_law_474 : decode cL_law 474 = .ok (.if_icmp .eq 5, 3) := by decide +kernel
theorem dL_law_477 : decode cL_law 477 = .ok (.iconst 0, 1) := by decide +kernel
theorem dL_law_478 : decode cL_law 478 = .ok (.ireturn, 1) := by decide +kernel
theorem dL_law_479 : decode cL_law 479 = .ok (.goto 784, 3) := by decide +kernel
theorem dL_law_482 : decode cL_law 482 = .ok (.aload_n 1, 1) := by decide +kernel
theorem dL_law_483 : decode cL_law 483 = .ok (.aload_n 0, 1) := by decide +kernel
theorem dL_law_484 : decode cL_law 484 = .ok (.iload 4, 2) := by decide +kernel
theorem dL_law_486 : decode cL_law 486 = .ok (.iconst 1, 1) := by decide +kernel
theorem dL_law_487 : decode cL_law 487 = .ok (.iadd, 1) := by decide +kernel
theorem dL_law_488 : decode cL_law 488 = .ok (.iaload, 1) := by decide +kernel
theorem dL_law_489 : decode cL_law 489 = .ok (.aload_n 0, 1) := by decide +kernel
theorem dL_law_490 : decode cL_law 490 = .ok (.iload 4, 2) := by decide +kernel
theorem dL_law_492 : decode cL_law 492 = .ok (.iconst 2, 1) := by decide +kernel
theorem dL_law_493 : decode cL_law 493 = .ok (.iadd, 1) := by decide +kernel
theorem dL_law_494 : decode cL_law 494 = .ok (.iaload, 1) := by decide +kernel
theorem dL_law_495 : decode cL_law 495 = .ok (.aload_n 3, 1) := by decide +kernel
theorem dL_law_496 : decode cL_law 496 = .ok (.invokestatic 89, 3) := by decide +kernel
theorem dL_law_499 : decode cL_law 499 = .ok (.istore 5, 2) := by decide +kernel
theorem dL_law_501 : decode cL_law 501 = .ok (.aload_n 2, 1) := by decide +kernel
theorem dL_law_502 : decode cL_law 502 = .ok (.aload_n 0, 1) := by decide +kernel
theorem dL_law_503 : decode cL_law 503 = .ok (.iload 4, 2) := by decide +kernel
theorem dL_law_505 : decode cL_law 505 = .ok (.iconst 1, 1) := by decide +kernel
theorem dL_law_506 : decode cL_law 506 = .ok (.iadd, 1) := by decide +kernel
theorem dL_law_507 : decode cL_law 507 = .ok (.iaload, 1) := by decide +kernel
theorem dL_law_508 : decode cL_law 508 = .ok (.aload_n 0, 1) := by decide +kernel
theorem dL_law_509 : decode cL_law 509 = .ok (.iload 4, 2) := by decide +kernel
theorem dL_law_511 : decode cL_law 511 = .ok (.iconst 2, 1) := by decide +kernel
theorem dL_law_512 : decode cL_law 512 = .ok (.iadd, 1) := by decide +kernel
theorem dL_law_513 : decode cL_law 513 = .ok (.iaload, 1) := by decide +kernel
theorem dL_law_514 : decode cL_law 514 = .ok (.invokevirtual 92, 3) := by decide +kernel
theorem dL_law_517 : decode cL_law 517 = .ok (.istore 6, 2) := by decide +kernel
theorem dL_law_519 : decode cL_law 519 = .ok (.aload_n 2, 1) := by decide +kernel
theorem dL_law_520 : decode cL_law 520 = .ok (.invokevirtual 74, 3) := by decide +kernel
theorem dL_law_523 : decode cL_law 523 = .ok (.iload 5, 2) := by decide +kernel
theorem dL_law_525 : decode cL_law 525 = .ok (.if_icmp .eq 5, 3) := by decide +kernel
theorem dL_law_528 : decode cL_law 528 = .ok (.iconst 0, 1) := by decide +kernel
theorem dL_law_529 : decode cL_law 529 = .ok (.ireturn, 1) := by decide +kernel
theorem dL_law_530 : decode cL_law 530 = .ok (.iload 5, 2) := by decide +kernel
theorem dL_law_532 : decode cL_law 532 = .ok (.ifCond .ne 22, 3) := by decide +kernel
theorem dL_law_535 : decode cL_law 535 = .ok (.aload_n 3, 1) := by decide +kernel
theorem dL_law_536 : decode cL_law 536 = .ok (.iconst 0, 1) := by decide +kernel
theorem dL_law_537 : decode cL_law 537 = .ok (.laload, 1) := by decide +kernel
theorem dL_law_538 : decode cL_law 538 = .ok (.iload 6, 2) := by decide +kernel
theorem dL_law_540 : decode cL_law 540 = .ok (.ifCond .eq 7, 3) := by decide +kernel
theorem dL_law_543 : decode cL_law 543 = .ok (.lconst 1, 1) := by decide +kernel
theorem dL_law_544 : decode cL_law 544 = .ok (.goto 4, 3) := by decide +kernel
theorem dL_law_547 : decode cL_law 547 = .ok (.lconst 0, 1) := by decide +kernel
theorem dL_law_548 : decode cL_law 548 = .ok (.lcmp, 1) := by decide +kernel
theorem dL_law_549 : decode cL_law 549 = .ok (.ifCond .eq 5, 3) := by decide +kernel
theorem dL_law_552 : decode cL_law 552 = .ok (.iconst 0, 1) := by decide +kernel
theorem dL_law_553 : decode cL_law 553 = .ok (.ireturn, 1) := by decide +kernel
theorem dL_law_554 : decode cL_law 554 = .ok (.goto 709, 3) := by decide +kernel
theorem dL_law_557 : decode cL_law 557 = .ok (.aload_n 1, 1) := by decide +kernel
theorem dL_law_558 : decode cL_law 558 = .ok (.aload_n 0, 1) := by decide +kernel
theorem dL_law_559 : decode cL_law 559 = .ok (.iload 4, 2) := by decide +kernel
theorem dL_law_561 : decode cL_law 561 = .ok (.iconst 1, 1) := by decide +kernel
theorem dL_law_562 : decode cL_law 562 = .ok (.iadd, 1) := by decide +kernel
theorem dL_law_563 : decode cL_law 563 = .ok (.iaload, 1) := by decide +kernel
theorem dL_law_564 : decode cL_law 564 = .ok (.aload_n 3, 1) := by decide +kernel
theorem dL_law_565 : decode cL_law 565 = .ok (.invokestatic 93, 3) := by decide +kernel
theorem dL_law_568 : decode cL_law 568 = .ok (.istore 5, 2) := by decide +kernel
theorem dL_law_570 : decode cL_law 570 = .ok (.aload_n 2, 1) := by decide +kernel
theorem dL_law_571 : decode cL_law 571 = .ok (.aload_n 0, 1) := by decide +kernel
theorem dL_law_572 : decode cL_law 572 = .ok (.iload 4, 2) := by decide +kernel
theorem dL_law_574 : decode cL_law 574 = .ok (.iconst 1, 1) := by decide +kernel
theorem dL_law_575 : decode cL_law 575 = .ok (.iadd, 1) := by decide +kernel
theorem dL_law_576 : decode cL_law 576 = .ok (.iaload, 1) := by decide +kernel
theorem dL_law_577 : decode cL_law 577 = .ok (.invokevirtual 96, 3) := by decide +kernel
theorem dL_law_580 : decode cL_law 580 = .ok (.istore 6, 2) := by decide +kernel
theorem dL_law_582 : decode cL_law 582 = .ok (.aload_n 2, 1) := by decide +kernel
theorem dL_law_583 : decode cL_law 583 = .ok (.invokevirtual 74, 3) := by decide +kernel
theorem dL_law_586 : decode cL_law 586 = .ok (.iload 5, 2) := by decide +kernel
theorem dL_law_588 : decode cL_law 588 = .ok (.if_icmp .eq 5, 3) := by decide +kernel
theorem dL_law_591 : decode cL_law 591 = .ok (.iconst 0, 1) := by decide +kernel
theorem dL_law_592 : decode cL_law 592 = .ok (.ireturn, 1) := by decide +kernel
theorem dL_law_593 : decode cL_law 593 = .ok (.iload 5, 2) := by decide +kernel
theorem dL_law_595 : decode cL_law 595 = .ok (.ifCond .ne 15, 3) := by decide +kernel
theorem dL_law_598 : decode cL_law 598 = .ok (.aload_n 3, 1) := by decide +kernel
theorem dL_law_599 : decode cL_law 599 = .ok (.iconst 0, 1) := by decide +kernel
theorem dL_law_600 : decode cL_law 600 = .ok (.laload, 1) := by decide +kernel
theorem dL_law_601 : decode cL_law 601 = .ok (.iload 6, 2) := by decide +kernel
theorem dL_law_603 : decode cL_law 603 = .ok (.i2l, 1) := by decide +kernel
theorem dL_law_604 : decode cL_law 604 = .ok (.lcmp, 1) := by decide +kernel
theorem dL_law_605 : decode cL_law 605 = .ok (.ifCond .eq 5, 3) := by decide +kernel
theorem dL_law_608 : decode cL_law 608 = .ok (.iconst 0, 1) := by decide +kernel
theorem dL_law_609 : decode cL_law 609 = .ok (.ireturn, 1) := by decide +kernel
theorem dL_law_610 : decode cL_law 610 = .ok (.goto 653, 3) := by decide +kernel
theorem dL_law_613 : decode cL_law 613 = .ok (.aload_n 1, 1) := by decide +kernel
theorem dL_law_614 : decode cL_law 614 = .ok (.aload_n 0, 1) := by decide +kernel
theorem dL_law_615 : decode cL_law 615 = .ok (.iload 4, 2) := by decide +kernel
theorem dL_law_617 : decode cL_law 617 = .ok (.iconst 1, 1) := by decide +kernel
theorem dL_law_618 : decode cL_law 618 = .ok (.iadd, 1) := by decide +kernel
theorem dL_law_619 : decode cL_law 619 = .ok (.iaload, 1) := by decide +kernel
theorem dL_law_620 : decode cL_law 620 = .ok (.aload_n 3, 1) := by decide +kernel
theorem dL_law_621 : decode cL_law 621 = .ok (.invokestatic 97, 3) := by decide +kernel
theorem dL_law_624 : decode cL_law 624 = .ok (.istore 5, 2) := by decide +kernel
theorem dL_law_626 : decode cL_law 626 = .ok (.aload_n 2, 1) := by decide +kernel
theorem dL_law_627 : decode cL_law 627 = .ok (.aload_n 0, 1) := by decide +kernel
theorem dL_law_628 : decode cL_law 628 = .ok (.iload 4, 2) := by decide +kernel
theorem dL_law_630 : decode cL_law 630 = .ok (.iconst 1, 1) := by decide +kernel
theorem dL_law_631 : decode cL_law 631 = .ok (.iadd, 1) := by decide +kernel
theorem dL_law_632 : decode cL_law 632 = .ok (.iaload, 1) := by decide +kernel
theorem dL_law_633 : decode cL_law 633 = .ok (.invokevirtual 99, 3) := by decide +kernel
theorem dL_law_636 : decode cL_law 636 = .ok (.istore 6, 2) := by decide +kernel
theorem dL_law_638 : decode cL_law 638 = .ok (.aload_n 2, 1) := by decide +kernel
theorem dL_law_639 : decode cL_law 639 = .ok (.invokevirtual 74, 3) := by decide +kernel
theorem dL_law_642 : decode cL_law 642 = .ok (.iload 5, 2) := by decide +kernel
theorem dL_law_644 : decode cL_law 644 = .ok (.if_icmp .eq 5, 3) := by decide +kernel
theorem dL_law_647 : decode cL_law 647 = .ok (.iconst 0, 1) := by decide +kernel
theorem dL_law_648 : decode cL_law 648 = .ok (.ireturn, 1) := by decide +kernel
theorem dL_law_649 : decode cL_law 649 = .ok (.iload 5, 2) := by decide +kernel
theorem dL_law_651 : decode cL_law 651 = .ok (.ifCond .ne 15, 3) := by decide +kernel
theorem dL_law_654 : decode cL_law 654 = .ok (.aload_n 3, 1) := by decide +kernel
theorem dL_law_655 : decode cL_law 655 = .ok (.iconst 0, 1) := by decide +kernel
theorem dL_law_656 : decode cL_law 656 = .ok (.laload, 1) := by decide +kernel
theorem dL_law_657 : decode cL_law 657 = .ok (.iload 6, 2) := by decide +kernel
theorem dL_law_659 : decode cL_law 659 = .ok (.i2l, 1) := by decide +kernel
theorem dL_law_660 : decode cL_law 660 = .ok (.lcmp, 1) := by decide +kernel
theorem dL_law_661 : decode cL_law 661 = .ok (.ifCond .eq 5, 3) := by decide +kernel
theorem dL_law_664 : decode cL_law 664 = .ok (.iconst 0, 1) := by decide +kernel
theorem dL_law_665 : decode cL_law 665 = .ok (.ireturn, 1) := by decide +kernel
theorem dL_law_666 : decode cL_law 666 = .ok (.goto 597, 3) := by decide +kernel
theorem dL_law_669 : decode cL_law 669 = .ok (.aload_n 1, 1) := by decide +kernel
theorem dL_law_670 : decode cL_law 670 = .ok (.aload_n 0, 1) := by decide +kernel
theorem dL_law_671 : decode cL_law 671 = .ok (.iload 4, 2) := by decide +kernel
theorem dL_law_673 : decode cL_law 673 = .ok (.iconst 1, 1) := by decide +kernel
theorem dL_law_674 : decode cL_law 674 = .ok (.iadd, 1) := by decide +kernel
theorem dL_law_675 : decode cL_law 675 = .ok (.iaload, 1) := by decide +kernel
theorem dL_law_676 : decode cL_law 676 = .ok (.aload_n 0, 1) := by decide +kernel
theorem dL_law_677 : decode cL_law 677 = .ok (.iload 4, 2) := by decide +kernel
theorem dL_law_679 : decode cL_law 679 = .ok (.iconst 2, 1) := by decide +kernel
theorem dL_law_680 : decode cL_law 680 = .ok (.iadd, 1) := by decide +kernel
theorem dL_law_681 : decode cL_law 681 = .ok (.iaload, 1) := by decide +kernel
theorem dL_law_682 : decode cL_law 682 = .ok (.aload_n 3, 1) := by decide +kernel
theorem dL_law_683 : decode cL_law 683 = .ok (.invokestatic 100, 3) := by decide +kernel
theorem dL_law_686 : decode cL_law 686 = .ok (.istore 5, 2) := by decide +kernel
theorem dL_law_688 : decode cL_law 688 = .ok (.aload_n 2, 1) := by decide +kernel
theorem dL_law_689 : decode cL_law 689 = .ok (.aload_n 0, 1) := by decide +kernel
theorem dL_law_690 : decode cL_law 690 = .ok (.iload 4, 2) := by decide +kernel
theorem dL_law_692 : decode cL_law 692 = .ok (.iconst 1, 1) := by decide +kernel
theorem dL_law_693 : decode cL_law 693 = .ok (.iadd, 1) := by decide +kernel
theorem dL_law_694 : decode cL_law 694 = .ok (.iaload, 1) := by decide +kernel
theorem dL_law_695 : decode cL_law 695 = .ok (.aload_n 0, 1) := by decide +kernel
theorem dL_law_696 : decode cL_law 696 = .ok (.iload 4, 2) := by decide +kernel
theorem dL_law_698 : decode cL_law 698 = .ok (.iconst 2, 1) := by decide +kernel
theorem dL_law_699 : decode cL_law 699 = .ok (.iadd, 1) := by decide +kernel
theorem dL_law_700 : decode cL_law 700 = .ok (.iaload, 1) := by decide +kernel
theorem dL_law_701 : decode cL_law 701 = .ok (.invokevirtual 102, 3) := by decide +kernel
theorem dL_law_704 : decode cL_law 704 = .ok (.istore 6, 2) := by decide +kernel
theorem dL_law_706 : decode cL_law 706 = .ok (.aload_n 2, 1) := by decide +kernel
theorem dL_law_707 : decode cL_law 707 = .ok (.invokevirtual 74, 3) := by decide +kernel
theorem dL_law_710 : decode cL_law 710 = .ok (.iload 5, 2) := by decide +kernel
theorem dL_law_712 : decode cL_law 712 = .ok (.if_icmp .eq 5, 3) := by decide +kernel
theorem dL_law_715 : decode cL_law 715 = .ok (.iconst 0, 1) := by decide +kernel
theorem dL_law_716 : decode cL_law 716 = .ok (.ireturn, 1) := by decide +kernel
theorem dL_law_717 : decode cL_law 717 = .ok (.iload 5, 2) := by decide +kernel
theorem dL_law_719 : decode cL_law 719 = .ok (.ifCond .ne 22, 3) := by decide +kernel
theorem dL_law_722 : decode cL_law 722 = .ok (.aload_n 3, 1) := by decide +kernel
theorem dL_law_723 : decode cL_law 723 = .ok (.iconst 0, 1) := by decide +kernel
theorem dL_law_724 : decode cL_law 724 = .ok (.laload, 1) := by decide +kernel
theorem dL_law_725 : decode cL_law 725 = .ok (.iload 6, 2) := by decide +kernel
theorem dL_law_727 : decode cL_law 727 = .ok (.ifCond .eq 7, 3) := by decide +kernel
theorem dL_law_730 : decode cL_law 730 = .ok (.lconst 1, 1) := by decide +kernel
theorem dL_law_731 : decode cL_law 731 = .ok (.goto 4, 3) := by decide +kernel
theorem dL_law_734 : decode cL_law 734 = .ok (.lconst 0, 1) := by decide +kernel
theorem dL_law_735 : decode cL_law 735 = .ok (.lcmp, 1) := by decide +kernel
theorem dL_law_736 : decode cL_law 736 = .ok (.ifCond .eq 5, 3) := by decide +kernel
theorem dL_law_739 : decode cL_law 739 = .ok (.iconst 0, 1) := by decide +kernel
theorem dL_law_740 : decode cL_law 740 = .ok (.ireturn, 1) := by decide +kernel
theorem dL_law_741 : decode cL_law 741 = .ok (.goto 522, 3) := by decide +kernel
theorem dL_law_744 : decode cL_law 744 = .ok (.aload_n 1, 1) := by decide +kernel
theorem dL_law_745 : decode cL_law 745 = .ok (.aload_n 0, 1) := by decide +kernel
theorem dL_law_746 : decode cL_law 746 = .ok (.iload 4, 2) := by decide +kernel
theorem dL_law_748 : decode cL_law 748 = .ok (.iconst 1, 1) := by decide +kernel
theorem dL_law_749 : decode cL_law 749 = .ok (.iadd, 1) := by decide +kernel
theorem dL_law_750 : decode cL_law 750 = .ok (.iaload, 1) := by decide +kernel
theorem dL_law_751 : decode cL_law 751 = .ok (.aload_n 0, 1) := by decide +kernel
theorem dL_law_752 : decode cL_law 752 = .ok (.iload 4, 2) := by decide +kernel
theorem dL_law_754 : decode cL_law 754 = .ok (.iconst 2, 1) := by decide +kernel
theorem dL_law_755 : decode cL_law 755 = .ok (.iadd, 1) := by decide +kernel
theorem dL_law_756 : decode cL_law 756 = .ok (.iaload, 1) := by decide +kernel
theorem dL_law_757 : decode cL_law 757 = .ok (.aload_n 0, 1) := by decide +kernel
theorem dL_law_758 : decode cL_law 758 = .ok (.iload 4, 2) := by decide +kernel
theorem dL_law_760 : decode cL_law 760 = .ok (.iconst 3, 1) := by decide +kernel
theorem dL_law_761 : decode cL_law 761 = .ok (.iadd, 1) := by decide +kernel
theorem dL_law_762 : decode cL_law 762 = .ok (.iaload, 1) := by decide +kernel
theorem dL_law_763 : decode cL_law 763 = .ok (.aload_n 3, 1) := by decide +kernel
theorem dL_law_764 : decode cL_law 764 = .ok (.invokestatic 103, 3) := by decide +kernel
theorem dL_law_767 : decode cL_law 767 = .ok (.istore 5, 2) := by decide +kernel
theorem dL_law_769 : decode cL_law 769 = .ok (.aload_n 2, 1) := by decide +kernel
theorem dL_law_770 : decode cL_law 770 = .ok (.aload_n 0, 1) := by decide +kernel
theorem dL_law_771 : decode cL_law 771 = .ok (.iload 4, 2) := by decide +kernel
theorem dL_law_773 : decode cL_law 773 = .ok (.iconst 1, 1) := by decide +kernel
theorem dL_law_774 : decode cL_law 774 = .ok (.iadd, 1) := by decide +kernel
theorem dL_law_775 : decode cL_law 775 = .ok (.iaload, 1) := by decide +kernel
theorem dL_law_776 : decode cL_law 776 = .ok (.aload_n 0, 1) := by decide +kernel
theorem dL_law_777 : decode cL_law 777 = .ok (.iload 4, 2) := by decide +kernel
theorem dL_law_779 : decode cL_law 779 = .ok (.iconst 2, 1) := by decide +kernel
theorem dL_law_780 : decode cL_law 780 = .ok (.iadd, 1) := by decide +kernel
theorem dL_law_781 : decode cL_law 781 = .ok (.iaload, 1) := by decide +kernel
theorem dL_law_782 : decode cL_law 782 = .ok (.aload_n 0, 1) := by decide +kernel
theorem dL_law_783 : decode cL_law 783 = .ok (.iload 4, 2) := by decide +kernel
theorem dL_law_785 : decode cL_law 785 = .ok (.iconst 3, 1) := by decide +kernel
theorem dL_law_786 : decode cL_law 786 = .ok (.iadd, 1) := by decide +kernel
theorem dL_law_787 : decode cL_law 787 = .ok (.iaload, 1) := by decide +kernel
theorem dL_law_788 : decode cL_law 788 = .ok (.invokevirtual 105, 3) := by decide +kernel
theorem dL_law_791 : decode cL_law 791 = .ok (.istore 6, 2) := by decide +kernel
theorem dL_law_793 : decode cL_law 793 = .ok (.aload_n 2, 1) := by decide +kernel
theorem dL_law_794 : decode cL_law 794 = .ok (.invokevirtual 74, 3) := by decide +kernel
theorem dL_law_797 : decode cL_law 797 = .ok (.iload 5, 2) := by decide +kernel
theorem dL_law_799 : decode cL_law 799 = .ok (.if_icmp .eq 5, 3) := by decide +kernel
theorem dL_law_802 : decode cL_law 802 = .ok (.iconst 0, 1) := by decide +kernel
theorem dL_law_803 : decode cL_law 803 = .ok (.ireturn, 1) := by decide +kernel
theorem dL_law_804 : decode cL_law 804 = .ok (.iload 5, 2) := by decide +kernel
theorem dL_law_806 : decode cL_law 806 = .ok (.ifCond .ne 15, 3) := by decide +kernel
theorem dL_law_809 : decode cL_law 809 = .ok (.aload_n 3, 1) := by decide +kernel
theorem dL_law_810 : decode cL_law 810 = .ok (.iconst 0, 1) := by decide +kernel
theorem dL_law_811 : decode cL_law 811 = .ok (.laload, 1) := by decide +kernel
theorem dL_law_812 : decode cL_law 812 = .ok (.iload 6, 2) := by decide +kernel
theorem dL_law_814 : decode cL_law 814 = .ok (.i2l, 1) := by decide +kernel
theorem dL_law_815 : decode cL_law 815 = .ok (.lcmp, 1) := by decide +kernel
theorem dL_law_816 : decode cL_law 816 = .ok (.ifCond .eq 5, 3) := by decide +kernel
theorem dL_law_819 : decode cL_law 819 = .ok (.iconst 0, 1) := by decide +kernel
theorem dL_law_820 : decode cL_law 820 = .ok (.ireturn, 1) := by decide +kernel
theorem dL_law_821 : decode cL_law 821 = .ok (.goto 442, 3) := by decide +kernel
theorem dL_law_824 : decode cL_law 824 = .ok (.aload_n 1, 1) := by decide +kernel
theorem dL_law_825 : decode cL_law 825 = .ok (.aload_n 0, 1) := by decide +kernel
theorem dL_law_826 : decode cL_law 826 = .ok (.iload 4, 2) := by decide +kernel
theorem dL_law_828 : decode cL_law 828 = .ok (.iconst 1, 1) := by decide +kernel
theorem dL_law_829 : decode cL_law 829 = .ok (.iadd, 1) := by decide +kernel
theorem dL_law_830 : decode cL_law 830 = .ok (.iaload, 1) := by decide +kernel
theorem dL_law_831 : decode cL_law 831 = .ok (.aload_n 0, 1) := by decide +kernel
theorem dL_law_832 : decode cL_law 832 = .ok (.iload 4, 2) := by decide +kernel
theorem dL_law_834 : decode cL_law 834 = .ok (.iconst 2, 1) := by decide +kernel
theorem dL_law_835 : decode cL_law 835 = .ok (.iadd, 1) := by decide +kernel
theorem dL_law_836 : decode cL_law 836 = .ok (.iaload, 1) := by decide +kernel
theorem dL_law_837 : decode cL_law 837 = .ok (.aload_n 0, 1) := by decide +kernel
theorem dL_law_838 : decode cL_law 838 = .ok (.iload 4, 2) := by decide +kernel
theorem dL_law_840 : decode cL_law 840 = .ok (.iconst 3, 1) := by decide +kernel
theorem dL_law_841 : decode cL_law 841 = .ok (.iadd, 1) := by decide +kernel
theorem dL_law_842 : decode cL_law 842 = .ok (.iaload, 1) := by decide +kernel
theorem dL_law_843 : decode cL_law 843 = .ok (.aload_n 3, 1) := by decide +kernel
theorem dL_law_844 : decode cL_law 844 = .ok (.invokestatic 106, 3) := by decide +kernel
theorem dL_law_847 : decode cL_law 847 = .ok (.istore 5, 2) := by decide +kernel
theorem dL_law_849 : decode cL_law 849 = .ok (.aload_n 2, 1) := by decide +kernel
theorem dL_law_850 : decode cL_law 850 = .ok (.aload_n 0, 1) := by decide +kernel
theorem dL_law_851 : decode cL_law 851 = .ok (.iload 4, 2) := by decide +kernel
theorem dL_law_853 : decode cL_law 853 = .ok (.iconst 1, 1) := by decide +kernel
theorem dL_law_854 : decode cL_law 854 = .ok (.iadd, 1) := by decide +kernel
theorem dL_law_855 : decode cL_law 855 = .ok (.iaload, 1) := by decide +kernel
theorem dL_law_856 : decode cL_law 856 = .ok (.aload_n 0, 1) := by decide +kernel
theorem dL_law_857 : decode cL_law 857 = .ok (.iload 4, 2) := by decide +kernel
theorem dL_law_859 : decode cL_law 859 = .ok (.iconst 2, 1) := by decide +kernel
theorem dL_law_860 : decode cL_law 860 = .ok (.iadd, 1) := by decide +kernel
theorem dL_law_861 : decode cL_law 861 = .ok (.iaload, 1) := by decide +kernel
end
section
theorem dL_law_862 : decode cL_law 862 = .ok (.aload_n 0, 1) := by decide +kernel
theorem dL_law_863 : decode cL_law 863 = .ok (.iload 4, 2) := by decide +kernel
theorem dL_law_865 : decode cL_law 865 = .ok (.iconst 3, 1) := by decide +kernel
theorem dL_law_866 : decode cL_law 866 = .ok (.iadd, 1) := by decide +kernel
theorem dL_law_867 : decode cL_law 867 = .ok (.iaload, 1) := by decide +kernel
theorem dL_law_868 : decode cL_law 868 = .ok (.invokevirtual 108, 3) := by decide +kernel
theorem dL_law_871 : decode cL_law 871 = .ok (.istore 6, 2) := by decide +kernel
theorem dL_law_873 : decode cL_law 873 = .ok (.aload_n 2, 1) := by decide +kernel
theorem dL_law_874 : decode cL_law 874 = .ok (.invokevirtual 74, 3) := by decide +kernel
theorem dL_law_877 : decode cL_law 877 = .ok (.iload 5, 2) := by decide +kernel
theorem dL_law_879 : decode cL_law 879 = .ok (.if_icmp .eq 5, 3) := by decide +kernel
theorem dL_law_882 : decode cL_law 882 = .ok (.iconst 0, 1) := by decide +kernel
theorem dL_law_883 : decode cL_law 883 = .ok (.ireturn, 1) := by decide +kernel
theorem dL_law_884 : decode cL_law 884 = .ok (.iload 5, 2) := by decide +kernel
theorem dL_law_886 : decode cL_law 886 = .ok (.ifCond .ne 15, 3) := by decide +kernel
theorem dL_law_889 : decode cL_law 889 = .ok (.aload_n 3, 1) := by decide +kernel
theorem dL_law_890 : decode cL_law 890 = .ok (.iconst 0, 1) := by decide +kernel
theorem dL_law_891 : decode cL_law 891 = .ok (.laload, 1) := by decide +kernel
theorem dL_law_892 : decode cL_law 892 = .ok (.iload 6, 2) := by decide +kernel
theorem dL_law_894 : decode cL_law 894 = .ok (.i2l, 1) := by decide +kernel
theorem dL_law_895 : decode cL_law 895 = .ok (.lcmp, 1) := by decide +kernel
theorem dL_law_896 : decode cL_law 896 = .ok (.ifCond .eq 5, 3) := by decide +kernel
theorem dL_law_899 : decode cL_law 899 = .ok (.iconst 0, 1) := by decide +kernel
theorem dL_law_900 : decode cL_law 900 = .ok (.ireturn, 1) := by decide +kernel
theorem dL_law_901 : decode cL_law 901 = .ok (.goto 362, 3) := by decide +kernel
theorem dL_law_904 : decode cL_law 904 = .ok (.aload_n 1, 1) := by decide +kernel
theorem dL_law_905 : decode cL_law 905 = .ok (.aload_n 0, 1) := by decide +kernel
theorem dL_law_906 : decode cL_law 906 = .ok (.iload 4, 2) := by decide +kernel
theorem dL_law_908 : decode cL_law 908 = .ok (.iconst 1, 1) := by decide +kernel
theorem dL_law_909 : decode cL_law 909 = .ok (.iadd, 1) := by decide +kernel
theorem dL_law_910 : decode cL_law 910 = .ok (.iaload, 1) := by decide +kernel
theorem dL_law_911 : decode cL_law 911 = .ok (.aload_n 0, 1) := by decide +kernel
theorem dL_law_912 : decode cL_law 912 = .ok (.iload 4, 2) := by decide +kernel
theorem dL_law_914 : decode cL_law 914 = .ok (.iconst 2, 1) := by decide +kernel
theorem dL_law_915 : decode cL_law 915 = .ok (.iadd, 1) := by decide +kernel
theorem dL_law_916 : decode cL_law 916 = .ok (.iaload, 1) := by decide +kernel
theorem dL_law_917 : decode cL_law 917 = .ok (.aload_n 0, 1) := by decide +kernel
theorem dL_law_918 : decode cL_law 918 = .ok (.iload 4, 2) := by decide +kernel
theorem dL_law_920 : decode cL_law 920 = .ok (.iconst 3, 1) := by decide +kernel
theorem dL_law_921 : decode cL_law 921 = .ok (.iadd, 1) := by decide +kernel
theorem dL_law_922 : decode cL_law 922 = .ok (.iaload, 1) := by decide +kernel
theorem dL_law_923 : decode cL_law 923 = .ok (.aload_n 3, 1) := by decide +kernel
theorem dL_law_924 : decode cL_law 924 = .ok (.invokestatic 109, 3) := by decide +kernel
theorem dL_law_927 : decode cL_law 927 = .ok (.istore 5, 2) := by decide +kernel
theorem dL_law_929 : decode cL_law 929 = .ok (.aload_n 2, 1) := by decide +kernel
theorem dL_law_930 : decode cL_law 930 = .ok (.aload_n 0, 1) := by decide +kernel
theorem dL_law_931 : decode cL_law 931 = .ok (.iload 4, 2) := by decide +kernel
theorem dL_law_933 : decode cL_law 933 = .ok (.iconst 1, 1) := by decide +kernel
theorem dL_law_934 : decode cL_law 934 = .ok (.iadd, 1) := by decide +kernel
theorem dL_law_935 : decode cL_law 935 = .ok (.iaload, 1) := by decide +kernel
theorem dL_law_936 : decode cL_law 936 = .ok (.aload_n 0, 1) := by decide +kernel
theorem dL_law_937 : decode cL_law 937 = .ok (.iload 4, 2) := by decide +kernel
theorem dL_law_939 : decode cL_law 939 = .ok (.iconst 2, 1) := by decide +kernel
theorem dL_law_940 : decode cL_law 940 = .ok (.iadd, 1) := by decide +kernel
theorem dL_law_941 : decode cL_law 941 = .ok (.iaload, 1) := by decide +kernel
theorem dL_law_942 : decode cL_law 942 = .ok (.aload_n 0, 1) := by decide +kernel
theorem dL_law_943 : decode cL_law 943 = .ok (.iload 4, 2) := by decide +kernel
theorem dL_law_945 : decode cL_law 945 = .ok (.iconst 3, 1) := by decide +kernel
theorem dL_law_946 : decode cL_law 946 = .ok (.iadd, 1) := by decide +kernel
theorem dL_law_947 : decode cL_law 947 = .ok (.iaload, 1) := by decide +kernel
theorem dL_law_948 : decode cL_law 948 = .ok (.invokevirtual 111, 3) := by decide +kernel
theorem dL_law_951 : decode cL_law 951 = .ok (.istore 6, 2) := by decide +kernel
theorem dL_law_953 : decode cL_law 953 = .ok (.aload_n 2, 1) := by decide +kernel
theorem dL_law_954 : decode cL_law 954 = .ok (.invokevirtual 74, 3) := by decide +kernel
theorem dL_law_957 : decode cL_law 957 = .ok (.iload 5, 2) := by decide +kernel
theorem dL_law_959 : decode cL_law 959 = .ok (.if_icmp .eq 5, 3) := by decide +kernel
theorem dL_law_962 : decode cL_law 962 = .ok (.iconst 0, 1) := by decide +kernel
theorem dL_law_963 : decode cL_law 963 = .ok (.ireturn, 1) := by decide +kernel
theorem dL_law_964 : decode cL_law 964 = .ok (.iload 5, 2) := by decide +kernel
theorem dL_law_966 : decode cL_law 966 = .ok (.ifCond .ne 15, 3) := by decide +kernel
theorem dL_law_969 : decode cL_law 969 = .ok (.aload_n 3, 1) := by decide +kernel
theorem dL_law_970 : decode cL_law 970 = .ok (.iconst 0, 1) := by decide +kernel
theorem dL_law_971 : decode cL_law 971 = .ok (.laload, 1) := by decide +kernel
theorem dL_law_972 : decode cL_law 972 = .ok (.iload 6, 2) := by decide +kernel
theorem dL_law_974 : decode cL_law 974 = .ok (.i2l, 1) := by decide +kernel
theorem dL_law_975 : decode cL_law 975 = .ok (.lcmp, 1) := by decide +kernel
theorem dL_law_976 : decode cL_law 976 = .ok (.ifCond .eq 5, 3) := by decide +kernel
theorem dL_law_979 : decode cL_law 979 = .ok (.iconst 0, 1) := by decide +kernel
theorem dL_law_980 : decode cL_law 980 = .ok (.ireturn, 1) := by decide +kernel
theorem dL_law_981 : decode cL_law 981 = .ok (.goto 282, 3) := by decide +kernel
theorem dL_law_984 : decode cL_law 984 = .ok (.aload_n 1, 1) := by decide +kernel
theorem dL_law_985 : decode cL_law 985 = .ok (.aload_n 0, 1) := by decide +kernel
theorem dL_law_986 : decode cL_law 986 = .ok (.iload 4, 2) := by decide +kernel
theorem dL_law_988 : decode cL_law 988 = .ok (.iconst 1, 1) := by decide +kernel
theorem dL_law_989 : decode cL_law 989 = .ok (.iadd, 1) := by decide +kernel
theorem dL_law_990 : decode cL_law 990 = .ok (.iaload, 1) := by decide +kernel
theorem dL_law_991 : decode cL_law 991 = .ok (.aload_n 0, 1) := by decide +kernel
theorem dL_law_992 : decode cL_law 992 = .ok (.iload 4, 2) := by decide +kernel
theorem dL_law_994 : decode cL_law 994 = .ok (.iconst 2, 1) := by decide +kernel
theorem dL_law_995 : decode cL_law 995 = .ok (.iadd, 1) := by decide +kernel
theorem dL_law_996 : decode cL_law 996 = .ok (.iaload, 1) := by decide +kernel
theorem dL_law_997 : decode cL_law 997 = .ok (.aload_n 0, 1) := by decide +kernel
theorem dL_law_998 : decode cL_law 998 = .ok (.iload 4, 2) := by decide +kernel
theorem dL_law_1000 : decode cL_law 1000 = .ok (.iconst 3, 1) := by decide +kernel
theorem dL_law_1001 : decode cL_law 1001 = .ok (.iadd, 1) := by decide +kernel
theorem dL_law_1002 : decode cL_law 1002 = .ok (.iaload, 1) := by decide +kernel
theorem dL_law_1003 : decode cL_law 1003 = .ok (.aload_n 3, 1) := by decide +kernel
theorem dL_law_1004 : decode cL_law 1004 = .ok (.invokestatic 112, 3) := by decide +kernel
theorem dL_law_1007 : decode cL_law 1007 = .ok (.istore 5, 2) := by decide +kernel
theorem dL_law_1009 : decode cL_law 1009 = .ok (.aload_n 2, 1) := by decide +kernel
theorem dL_law_1010 : decode cL_law 1010 = .ok (.aload_n 0, 1) := by decide +kernel
theorem dL_law_1011 : decode cL_law 1011 = .ok (.iload 4, 2) := by decide +kernel
theorem dL_law_1013 : decode cL_law 1013 = .ok (.iconst 1, 1) := by decide +kernel
theorem dL_law_1014 : decode cL_law 1014 = .ok (.iadd, 1) := by decide +kernel
theorem dL_law_1015 : decode cL_law 1015 = .ok (.iaload, 1) := by decide +kernel
theorem dL_law_1016 : decode cL_law 1016 = .ok (.aload_n 0, 1) := by decide +kernel
theorem dL_law_1017 : decode cL_law 1017 = .ok (.iload 4, 2) := by decide +kernel
theorem dL_law_1019 : decode cL_law 1019 = .ok (.iconst 2, 1) := by decide +kernel
theorem dL_law_1020 : decode cL_law 1020 = .ok (.iadd, 1) := by decide +kernel
theorem dL_law_1021 : decode cL_law 1021 = .ok (.iaload, 1) := by decide +kernel
theorem dL_law_1022 : decode cL_law 1022 = .ok (.aload_n 0, 1) := by decide +kernel
theorem dL_law_1023 : decode cL_law 1023 = .ok (.iload 4, 2) := by decide +kernel
theorem dL_law_1025 : decode cL_law 1025 = .ok (.iconst 3, 1) := by decide +kernel
theorem dL_law_1026 : decode cL_law 1026 = .ok (.iadd, 1) := by decide +kernel
theorem dL_law_1027 : decode cL_law 1027 = .ok (.iaload, 1) := by decide +kernel
theorem dL_law_1028 : decode cL_law 1028 = .ok (.invokevirtual 114, 3) := by decide +kernel
theorem dL_law_1031 : decode cL_law 1031 = .ok (.istore 6, 2) := by decide +kernel
theorem dL_law_1033 : decode cL_law 1033 = .ok (.aload_n 2, 1) := by decide +kernel
theorem dL_law_1034 : decode cL_law 1034 = .ok (.invokevirtual 74, 3) := by decide +kernel
theorem dL_law_1037 : decode cL_law 1037 = .ok (.iload 5, 2) := by decide +kernel
theorem dL_law_1039 : decode cL_law 1039 = .ok (.if_icmp .eq 5, 3) := by decide +kernel
theorem dL_law_1042 : decode cL_law 1042 = .ok (.iconst 0, 1) := by decide +kernel
theorem dL_law_1043 : decode cL_law 1043 = .ok (.ireturn, 1) := by decide +kernel
theorem dL_law_1044 : decode cL_law 1044 = .ok (.iload 5, 2) := by decide +kernel
theorem dL_law_1046 : decode cL_law 1046 = .ok (.ifCond .ne 15, 3) := by decide +kernel
theorem dL_law_1049 : decode cL_law 1049 = .ok (.aload_n 3, 1) := by decide +kernel
theorem dL_law_1050 : decode cL_law 1050 = .ok (.iconst 0, 1) := by decide +kernel
theorem dL_law_1051 : decode cL_law 1051 = .ok (.laload, 1) := by decide +kernel
theorem dL_law_1052 : decode cL_law 1052 = .ok (.iload 6, 2) := by decide +kernel
theorem dL_law_1054 : decode cL_law 1054 = .ok (.i2l, 1) := by decide +kernel
theorem dL_law_1055 : decode cL_law 1055 = .ok (.lcmp, 1) := by decide +kernel
theorem dL_law_1056 : decode cL_law 1056 = .ok (.ifCond .eq 5, 3) := by decide +kernel
theorem dL_law_1059 : decode cL_law 1059 = .ok (.iconst 0, 1) := by decide +kernel
theorem dL_law_1060 : decode cL_law 1060 = .ok (.ireturn, 1) := by decide +kernel
theorem dL_law_1061 : decode cL_law 1061 = .ok (.goto 202, 3) := by decide +kernel
theorem dL_law_1064 : decode cL_law 1064 = .ok (.aload_n 1, 1) := by decide +kernel
theorem dL_law_1065 : decode cL_law 1065 = .ok (.aload_n 0, 1) := by decide +kernel
theorem dL_law_1066 : decode cL_law 1066 = .ok (.iload 4, 2) := by decide +kernel
theorem dL_law_1068 : decode cL_law 1068 = .ok (.iconst 1, 1) := by decide +kernel
theorem dL_law_1069 : decode cL_law 1069 = .ok (.iadd, 1) := by decide +kernel
theorem dL_law_1070 : decode cL_law 1070 = .ok (.iaload, 1) := by decide +kernel
theorem dL_law_1071 : decode cL_law 1071 = .ok (.aload_n 0, 1) := by decide +kernel
theorem dL_law_1072 : decode cL_law 1072 = .ok (.iload 4, 2) := by decide +kernel
theorem dL_law_1074 : decode cL_law 1074 = .ok (.iconst 2, 1) := by decide +kernel
theorem dL_law_1075 : decode cL_law 1075 = .ok (.iadd, 1) := by decide +kernel
theorem dL_law_1076 : decode cL_law 1076 = .ok (.iaload, 1) := by decide +kernel
theorem dL_law_1077 : decode cL_law 1077 = .ok (.aload_n 0, 1) := by decide +kernel
theorem dL_law_1078 : decode cL_law 1078 = .ok (.iload 4, 2) := by decide +kernel
theorem dL_law_1080 : decode cL_law 1080 = .ok (.iconst 3, 1) := by decide +kernel
theorem dL_law_1081 : decode cL_law 1081 = .ok (.iadd, 1) := by decide +kernel
theorem dL_law_1082 : decode cL_law 1082 = .ok (.iaload, 1) := by decide +kernel
theorem dL_law_1083 : decode cL_law 1083 = .ok (.aload_n 3, 1) := by decide +kernel
theorem dL_law_1084 : decode cL_law 1084 = .ok (.invokestatic 115, 3) := by decide +kernel
theorem dL_law_1087 : decode cL_law 1087 = .ok (.istore 5, 2) := by decide +kernel
theorem dL_law_1089 : decode cL_law 1089 = .ok (.aload_n 2, 1) := by decide +kernel
theorem dL_law_1090 : decode cL_law 1090 = .ok (.aload_n 0, 1) := by decide +kernel
theorem dL_law_1091 : decode cL_law 1091 = .ok (.iload 4, 2) := by decide +kernel
theorem dL_law_1093 : decode cL_law 1093 = .ok (.iconst 1, 1) := by decide +kernel
theorem dL_law_1094 : decode cL_law 1094 = .ok (.iadd, 1) := by decide +kernel
theorem dL_law_1095 : decode cL_law 1095 = .ok (.iaload, 1) := by decide +kernel
theorem dL_law_1096 : decode cL_law 1096 = .ok (.aload_n 0, 1) := by decide +kernel
theorem dL_law_1097 : decode cL_law 1097 = .ok (.iload 4, 2) := by decide +kernel
theorem dL_law_1099 : decode cL_law 1099 = .ok (.iconst 2, 1) := by decide +kernel
theorem dL_law_1100 : decode cL_law 1100 = .ok (.iadd, 1) := by decide +kernel
theorem dL_law_1101 : decode cL_law 1101 = .ok (.iaload, 1) := by decide +kernel
theorem dL_law_1102 : decode cL_law 1102 = .ok (.aload_n 0, 1) := by decide +kernel
theorem dL_law_1103 : decode cL_law 1103 = .ok (.iload 4, 2) := by decide +kernel
theorem dL_law_1105 : decode cL_law 1105 = .ok (.iconst 3, 1) := by decide +kernel
theorem dL_law_1106 : decode cL_law 1106 = .ok (.iadd, 1) := by decide +kernel
theorem dL_law_1107 : decode cL_law 1107 = .ok (.iaload, 1) := by decide +kernel
theorem dL_law_1108 : decode cL_law 1108 = .ok (.invokevirtual 117, 3) := by decide +kernel
theorem dL_law_1111 : decode cL_law 1111 = .ok (.istore 6, 2) := by decide +kernel
theorem dL_law_1113 : decode cL_law 1113 = .ok (.aload_n 2, 1) := by decide +kernel
theorem dL_law_1114 : decode cL_law 1114 = .ok (.invokevirtual 74, 3) := by decide +kernel
theorem dL_law_1117 : decode cL_law 1117 = .ok (.iload 5, 2) := by decide +kernel
theorem dL_law_1119 : decode cL_law 1119 = .ok (.if_icmp .eq 5, 3) := by decide +kernel
theorem dL_law_1122 : decode cL_law 1122 = .ok (.iconst 0, 1) := by decide +kernel
theorem dL_law_1123 : decode cL_law 1123 = .ok (.ireturn, 1) := by decide +kernel
theorem dL_law_1124 : decode cL_law 1124 = .ok (.iload 5, 2) := by decide +kernel
theorem dL_law_1126 : decode cL_law 1126 = .ok (.ifCond .ne 22, 3) := by decide +kernel
theorem dL_law_1129 : decode cL_law 1129 = .ok (.aload_n 3, 1) := by decide +kernel
theorem dL_law_1130 : decode cL_law 1130 = .ok (.iconst 0, 1) := by decide +kernel
theorem dL_law_1131 : decode cL_law 1131 = .ok (.laload, 1) := by decide +kernel
theorem dL_law_1132 : decode cL_law 1132 = .ok (.iload 6, 2) := by decide +kernel
theorem dL_law_1134 : decode cL_law 1134 = .ok (.ifCond .eq 7, 3) := by decide +kernel
theorem dL_law_1137 : decode cL_law 1137 = .ok (.lconst 1, 1) := by decide +kernel
theorem dL_law_1138 : decode cL_law 1138 = .ok (.goto 4, 3) := by decide +kernel
theorem dL_law_1141 : decode cL_law 1141 = .ok (.lconst 0, 1) := by decide +kernel
theorem dL_law_1142 : decode cL_law 1142 = .ok (.lcmp, 1) := by decide +kernel
theorem dL_law_1143 : decode cL_law 1143 = .ok (.ifCond .eq 5, 3) := by decide +kernel
theorem dL_law_1146 : decode cL_law 1146 = .ok (.iconst 0, 1) := by decide +kernel
theorem dL_law_1147 : decode cL_law 1147 = .ok (.ireturn, 1) := by decide +kernel
theorem dL_law_1148 : decode cL_law 1148 = .ok (.goto 115, 3) := by decide +kernel
theorem dL_law_1151 : decode cL_law 1151 = .ok (.aload_n 1, 1) := by decide +kernel
theorem dL_law_1152 : decode cL_law 1152 = .ok (.aload_n 0, 1) := by decide +kernel
theorem dL_law_1153 : decode cL_law 1153 = .ok (.iload 4, 2) := by decide +kernel
theorem dL_law_1155 : decode cL_law 1155 = .ok (.iconst 1, 1) := by decide +kernel
theorem dL_law_1156 : decode cL_law 1156 = .ok (.iadd, 1) := by decide +kernel
theorem dL_law_1157 : decode cL_law 1157 = .ok (.iaload, 1) := by decide +kernel
theorem dL_law_1158 : decode cL_law 1158 = .ok (.aload_n 3, 1) := by decide +kernel
theorem dL_law_1159 : decode cL_law 1159 = .ok (.invokestatic 118, 3) := by decide +kernel
theorem dL_law_1162 : decode cL_law 1162 = .ok (.istore 5, 2) := by decide +kernel
theorem dL_law_1164 : decode cL_law 1164 = .ok (.aload_n 2, 1) := by decide +kernel
theorem dL_law_1165 : decode cL_law 1165 = .ok (.aload_n 0, 1) := by decide +kernel
theorem dL_law_1166 : decode cL_law 1166 = .ok (.iload 4, 2) := by decide +kernel
theorem dL_law_1168 : decode cL_law 1168 = .ok (.iconst 1, 1) := by decide +kernel
theorem dL_law_1169 : decode cL_law 1169 = .ok (.iadd, 1) := by decide +kernel
theorem dL_law_1170 : decode cL_law 1170 = .ok (.iaload, 1) := by decide +kernel
theorem dL_law_1171 : decode cL_law 1171 = .ok (.invokevirtual 120, 3) := by decide +kernel
theorem dL_law_1174 : decode cL_law 1174 = .ok (.istore 6, 2) := by decide +kernel
theorem dL_law_1176 : decode cL_law 1176 = .ok (.aload_n 2, 1) := by decide +kernel
theorem dL_law_1177 : decode cL_law 1177 = .ok (.invokevirtual 74, 3) := by decide +kernel
theorem dL_law_1180 : decode cL_law 1180 = .ok (.iload 5, 2) := by decide +kernel
theorem dL_law_1182 : decode cL_law 1182 = .ok (.if_icmp .eq 5, 3) := by decide +kernel
theorem dL_law_1185 : decode cL_law 1185 = .ok (.iconst 0, 1) := by decide +kernel
theorem dL_law_1186 : decode cL_law 1186 = .ok (.ireturn, 1) := by decide +kernel
theorem dL_law_1187 : decode cL_law 1187 = .ok (.iload 5, 2) := by decide +kernel
theorem dL_law_1189 : decode cL_law 1189 = .ok (.ifCond .ne 15, 3) := by decide +kernel
theorem dL_law_1192 : decode cL_law 1192 = .ok (.aload_n 3, 1) := by decide +kernel
theorem dL_law_1193 : decode cL_law 1193 = .ok (.iconst 0, 1) := by decide +kernel
theorem dL_law_1194 : decode cL_law 1194 = .ok (.laload, 1) := by decide +kernel
theorem dL_law_1195 : decode cL_law 1195 = .ok (.iload 6, 2) := by decide +kernel
theorem dL_law_1197 : decode cL_law 1197 = .ok (.i2l, 1) := by decide +kernel
theorem dL_law_1198 : decode cL_law 1198 = .ok (.lcmp, 1) := by decide +kernel
theorem dL_law_1199 : decode cL_law 1199 = .ok (.ifCond .eq 5, 3) := by decide +kernel
theorem dL_law_1202 : decode cL_law 1202 = .ok (.iconst 0, 1) := by decide +kernel
theorem dL_law_1203 : decode cL_law 1203 = .ok (.ireturn, 1) := by decide +kernel
theorem dL_law_1204 : decode cL_law 1204 = .ok (.goto 59, 3) := by decide +kernel
theorem dL_law_1207 : decode cL_law 1207 = .ok (.aload_n 1, 1) := by decide +kernel
theorem dL_law_1208 : decode cL_law 1208 = .ok (.aload_n 0, 1) := by decide +kernel
theorem dL_law_1209 : decode cL_law 1209 = .ok (.iload 4, 2) := by decide +kernel
theorem dL_law_1211 : decode cL_law 1211 = .ok (.iconst 1, 1) := by decide +kernel
theorem dL_law_1212 : decode cL_law 1212 = .ok (.iadd, 1) := by decide +kernel
theorem dL_law_1213 : decode cL_law 1213 = .ok (.iaload, 1) := by decide +kernel
theorem dL_law_1214 : decode cL_law 1214 = .ok (.aload_n 3, 1) := by decide +kernel
theorem dL_law_1215 : decode cL_law 1215 = .ok (.invokestatic 121, 3) := by decide +kernel
theorem dL_law_1218 : decode cL_law 1218 = .ok (.istore 5, 2) := by decide +kernel
theorem dL_law_1220 : decode cL_law 1220 = .ok (.aload_n 2, 1) := by decide +kernel
theorem dL_law_1221 : decode cL_law 1221 = .ok (.aload_n 0, 1) := by decide +kernel
theorem dL_law_1222 : decode cL_law 1222 = .ok (.iload 4, 2) := by decide +kernel
theorem dL_law_1224 : decode cL_law 1224 = .ok (.iconst 1, 1) := by decide +kernel
theorem dL_law_1225 : decode cL_law 1225 = .ok (.iadd, 1) := by decide +kernel
theorem dL_law_1226 : decode cL_law 1226 = .ok (.iaload, 1) := by decide +kernel
theorem dL_law_1227 : decode cL_law 1227 = .ok (.invokevirtual 123, 3) := by decide +kernel
theorem dL_law_1230 : decode cL_law 1230 = .ok (.istore 6, 2) := by decide +kernel
theorem dL_law_1232 : decode cL_law 1232 = .ok (.aload_n 2, 1) := by decide +kernel
theorem dL_law_1233 : decode cL_law 1233 = .ok (.invokevirtual 74, 3) := by decide +kernel
theorem dL_law_1236 : decode cL_law 1236 = .ok (.iload 5, 2) := by decide +kernel
theorem dL_law_1238 : decode cL_law 1238 = .ok (.if_icmp .eq 5, 3) := by decide +kernel
theorem dL_law_1241 : decode cL_law 1241 = .ok (.iconst 0, 1) := by decide +kernel
theorem dL_law_1242 : decode cL_law 1242 = .ok (.ireturn, 1) := by decide +kernel
theorem dL_law_1243 : decode cL_law 1243 = .ok (.iload 5, 2) := by decide +kernel
theorem dL_law_1245 : decode cL_law 1245 = .ok (.ifCond .ne 15, 3) := by decide +kernel
theorem dL_law_1248 : decode cL_law 1248 = .ok (.aload_n 3, 1) := by decide +kernel
theorem dL_law_1249 : decode cL_law 1249 = .ok (.iconst 0, 1) := by decide +kernel
theorem dL_law_1250 : decode cL_law 1250 = .ok (.laload, 1) := by decide +kernel
theorem dL_law_1251 : decode cL_law 1251 = .ok (.iload 6, 2) := by decide +kernel
theorem dL_law_1253 : decode cL_law 1253 = .ok (.i2l, 1) := by decide +kernel
theorem dL_law_1254 : decode cL_law 1254 = .ok (.lcmp, 1) := by decide +kernel
theorem dL_law_1255 : decode cL_law 1255 = .ok (.ifCond .eq 5, 3) := by decide +kernel
theorem dL_law_1258 : decode cL_law 1258 = .ok (.iconst 0, 1) := by decide +kernel
theorem dL_law_1259 : decode cL_law 1259 = .ok (.ireturn, 1) := by decide +kernel
theorem dL_law_1260 : decode cL_law 1260 = .ok (.goto 3, 3) := by decide +kernel
theorem dL_law_1263 : decode cL_law 1263 = .ok (.iinc 4 7, 3) := by decide +kernel
theorem dL_law_1266 : decode cL_law 1266 = .ok (.goto (-1243), 3) := by decide +kernel
theorem dL_law_1269 : decode cL_law 1269 = .ok (.iconst 1, 1) := by decide +kernel
theorem dL_law_1270 : decode cL_law 1270 = .ok (.ireturn, 1) := by decide +kernel
end
section
/-! ===== whole numbers for ints: every int that a walk meets is iI z ===== -/
def iI (z : Int) : Int32 := Int32.ofInt z
theorem iI_add (a b : Int) : iI a + iI b = iI (a + b) := (Int32.ofInt_add a b).symm
theorem iI_sub (a b : Int) : iI a - iI b = iI (a - b) := (Int32.ofInt_sub a b).symm
theorem iI_mul (a b : Int) : iI a * iI b = iI (a * b) := (Int32.ofInt_mul a b).symm
theorem iI_neg (a : Int) : - iI a = iI (-a) := (Int32.ofInt_neg a).symm
theorem iI_of (x : Int32) : iI x.toInt = x := Int32.ofInt_toInt x
theorem iI_toInt {z : Int} (h : -2147483648 ≤ z ∧ z < 2147483648) : (iI z).toInt = z := Int32.toInt_ofInt_of_le (by have := h.1; omega) (by have := h.2; omega)
theorem iI_le {a b : Int} (ha : -2147483648 ≤ a ∧ a < 2147483648) (hb : -2147483648 ≤ b ∧ b < 2147483648) : iI a ≤ iI b ↔ a ≤ b := by
  rw [Int32.le_iff_toInt_le, iI_toInt ha, iI_toInt hb]
theorem iI_lt {a b : Int} (ha : -2147483648 ≤ a ∧ a < 2147483648) (hb : -2147483648 ≤ b ∧ b < 2147483648) : iI a < iI b ↔ a < b := by
  rw [Int32.lt_iff_toInt_lt, iI_toInt ha, iI_toInt hb]
theorem iI_eq {a b : Int} (ha : -2147483648 ≤ a ∧ a < 2147483648) (hb : -2147483648 ≤ b ∧ b < 2147483648) : iI a = iI b ↔ a = b := by
  refine ⟨fun h => ?_, fun h => by rw [h]⟩
  have h1 := congrArg Int32.toInt h
  rwa [iI_toInt ha, iI_toInt hb] at h1
theorem iI_nI (n : Nat) : nI n = iI (n : Int) := Int32.ofInt_eq_ofNat.symm
theorem iI_nat {z : Int} (h : 0 ≤ z) : iI z = nI z.toNat := by
  rw [iI_nI]
  congr 1
  omega
theorem iI_cl {z : Int} (h : 0 ≤ z ∧ z < 2147483648) : (iI z).toNatClampNeg = z.toNat := by
  rw [iI_nat h.1]
  exact nI_clamp (by omega)
theorem iI_in {z : Int} {n : Nat} (h : 0 ≤ z ∧ z < (n : Int)) (hn : n < 2147483648) : vp_in (iI z) n := by
  rw [iI_nat h.1]
  exact vp_in_nI (by omega) (by omega)
theorem iI_div {a d : Int} (ha : 0 ≤ a ∧ a < 2147483648) (hd : 0 < d ∧ d < 2147483648) : iI a / iI d = iI (a / d) := by
  rw [iI_nat ha.1, iI_nat (show 0 ≤ d by omega), pk_div (by omega) (by omega) (by omega), iI_nI]
  congr 1
  rw [Int.natCast_ediv]
  congr 1 <;> omega
theorem iI_rem {a d : Int} (ha : 0 ≤ a ∧ a < 2147483648) (hd : 0 < d ∧ d < 2147483648) : iI a - iI a / iI d * iI d = iI (a % d) := by
  rw [iI_nat ha.1, iI_nat (show 0 ≤ d by omega), pk_rem (by omega) (by omega) (by omega), iI_nI]
  congr 1
  rw [Int.natCast_emod]
  congr 1 <;> omega
noncomputable def bp (P : Prop) : Int := @ite Int P (Classical.propDecidable P) 1 0
theorem bp_t {P : Prop} (h : P) : bp P = 1 := by unfold bp; exact if_pos h
theorem bp_f {P : Prop} (h : ¬ P) : bp P = 0 := by unfold bp; exact if_neg h
theorem bp_c {P P2 : Prop} (h : P ↔ P2) : bp P = bp P2 := by rw [propext h]
theorem bp_01 (P : Prop) : bp P = 0 ∨ bp P = 1 := by
  by_cases h : P
  · exact Or.inr (bp_t h)
  · exact Or.inl (bp_f h)
theorem bp_r (P : Prop) : 0 ≤ bp P ∧ bp P ≤ 1 := by rcases bp_01 P with h | h <;> omega
theorem bp_1 {P : Prop} : bp P = 1 ↔ P := ⟨fun h => by
  by_cases q : P
  · exact q
  · rw [bp_f q] at h; omega, bp_t⟩
theorem bp_0 {P : Prop} : bp P = 0 ↔ ¬ P := ⟨fun h q => by rw [bp_t q] at h; omega, bp_f⟩
def updI (f : Nat → Int) (k : Nat) (v : Int) : Nat → Int := fun j => if j = k then v else f j
theorem updI_s (f : Nat → Int) (k : Nat) (v : Int) : updI f k v k = v := if_pos rfl
theorem updI_n (f : Nat → Int) {k j : Nat} (v : Int) (h : j ≠ k) : updI f k v j = f j := if_neg h
theorem updI_iI (f : Nat → Int) (k : Nat) (v : Int) : upd (fun j => iI (f j)) k (iI v) = fun j => iI (updI f k v j) := by
  funext j
  unfold upd updI
  by_cases h : j = k
  · rw [if_pos h, if_pos h]
  · rw [if_neg h, if_neg h]
def updG (g : Nat → Nat → Int) (n : Nat) (f : Nat → Int) : Nat → Nat → Int := fun i => if i = n then f else g i
theorem nar_b {v : Int} (h : v = 0 ∨ v = 1) : narrow .boolean (.int (iI v)) = .int (iI v) := by
  rcases h with rfl | rfl <;> rfl
theorem nar_vb {v : Int} (h : v = 0 ∨ v = 1) : vp_nar .boolean (iI v) = iI v := by
  rcases h with rfl | rfl <;> rfl
/-! ===== rows of a walk over iI ===== -/
section RIW
variable {p : Program} {l : Launch} {e : Env} {R : Room} {s : State} {m : MethodId} {args : Array Value} {below : List Frame} {meth : Method} {c : Code} {H : Heap} {locs : List Loc} {cells slots : Nat} {Q : State → Prop}
variable {cc : ByteArray} {pc : Nat} {ls : Array Slot} {rest : List Value}
theorem ri_iconst (hexec : p.tables.exec = Jvm.exec) (hb : c.code = cc) {n : Int} (hdg : decode cc pc = .ok (.iconst n, 1)) (k : W p l e R s m args below meth c H locs cells slots Q (F0 m (pc + 1) ls (.int (iI n) :: rest))) : W p l e R s m args below meth c H locs cells slots Q (F0 m pc ls rest) := lv_iconst hexec hb hdg rfl k
theorem ri_bipush (hexec : p.tables.exec = Jvm.exec) (hb : c.code = cc) {n : Int} (hdg : decode cc pc = .ok (.bipush n, 2)) (hn : (Int8.ofInt n).toInt32 = iI n) (k : W p l e R s m args below meth c H locs cells slots Q (F0 m (pc + 2) ls (.int (iI n) :: rest))) : W p l e R s m args below meth c H locs cells slots Q (F0 m pc ls rest) := lv_bipush hexec hb hdg hn k
theorem ri_sipush (hexec : p.tables.exec = Jvm.exec) (hb : c.code = cc) {n : Int} (hdg : decode cc pc = .ok (.sipush n, 3)) (hn : (Int16.ofInt n).toInt32 = iI n) (k : W p l e R s m args below meth c H locs cells slots Q (F0 m (pc + 3) ls (.int (iI n) :: rest))) : W p l e R s m args below meth c H locs cells slots Q (F0 m pc ls rest) := lv_sipush hexec hb hdg hn k
theorem ri_iadd (hexec : p.tables.exec = Jvm.exec) (hb : c.code = cc) {x y : Int} (hdg : decode cc pc = .ok (.iadd, 1)) (k : W p l e R s m args below meth c H locs cells slots Q (F0 m (pc + 1) ls (.int (iI (x + y)) :: rest))) : W p l e R s m args below meth c H locs cells slots Q (F0 m pc ls (.int (iI y) :: .int (iI x) :: rest)) := lv_iadd hexec hb hdg (by rw [iI_add]; exact k)
theorem ri_isub (hexec : p.tables.exec = Jvm.exec) (hb : c.code = cc) {x y : Int} (hdg : decode cc pc = .ok (.isub, 1)) (k : W p l e R s m args below meth c H locs cells slots Q (F0 m (pc + 1) ls (.int (iI (x - y)) :: rest))) : W p l e R s m args below meth c H locs cells slots Q (F0 m pc ls (.int (iI y) :: .int (iI x) :: rest)) := lv_isub hexec hb hdg (by rw [iI_sub]; exact k)
theorem ri_imul (hexec : p.tables.exec = Jvm.exec) (hb : c.code = cc) {x y : Int} (hdg : decode cc pc = .ok (.imul, 1)) (k : W p l e R s m args below meth c H locs cells slots Q (F0 m (pc + 1) ls (.int (iI (x * y)) :: rest))) : W p l e R s m args below meth c H locs cells slots Q (F0 m pc ls (.int (iI y) :: .int (iI x) :: rest)) := lv_imul hexec hb hdg (by rw [iI_mul]; exact k)
theorem ri_ineg (hexec : p.tables.exec = Jvm.exec) (hb : c.code = cc) {x : Int} (hdg : decode cc pc = .ok (.ineg, 1)) (k : W p l e R s m args below meth c H locs cells slots Q (F0 m (pc + 1) ls (.int (iI (-x)) :: rest))) : W p l e R s m args below meth c H locs cells slots Q (F0 m pc ls (.int (iI x) :: rest)) := lv_ineg hexec hb hdg (by rw [iI_neg]; exact k)
theorem ri_idiv (hexec : p.tables.exec = Jvm.exec) (hb : c.code = cc) {x y : Int} (hr : 0 ≤ x ∧ x < 2147483648 ∧ 0 < y ∧ y < 2147483648) (hdg : decode cc pc = .ok (.idiv, 1)) (k : W p l e R s m args below meth c H locs cells slots Q (F0 m (pc + 1) ls (.int (iI (x / y)) :: rest))) : W p l e R s m args below meth c H locs cells slots Q (F0 m pc ls (.int (iI y) :: .int (iI x) :: rest)) :=
  lv_idiv hexec hb hdg (fun h => by
    have h0 : iI y = iI 0 := h
    rw [iI_eq (by omega) (by omega)] at h0
    omega) (by rw [iI_div ⟨hr.1, hr.2.1⟩ hr.2.2]; exact k)
theorem ri_irem (hexec : p.tables.exec = Jvm.exec) (hb : c.code = cc) {x y : Int} (hr : 0 ≤ x ∧ x < 2147483648 ∧ 0 < y ∧ y < 2147483648) (hdg : decode cc pc = .ok (.irem, 1)) (k : W p l e R s m args below meth c H locs cells slots Q (F0 m (pc + 1) ls (.int (iI (x % y)) :: rest))) : W p l e R s m args below meth c H locs cells slots Q (F0 m pc ls (.int (iI y) :: .int (iI x) :: rest)) :=
  lv_irem hexec hb hdg (fun h => by
    have h0 : iI y = iI 0 := h
    rw [iI_eq (by omega) (by omega)] at h0
    omega) (by rw [iI_rem ⟨hr.1, hr.2.1⟩ hr.2.2]; exact k)
/-- another name for the number on top -/
theorem ri_eq {x y : Int} (h : x = y) (k : W p l e R s m args below meth c H locs cells slots Q (F0 m pc ls (.int (iI y) :: rest))) : W p l e R s m args below meth c H locs cells slots Q (F0 m pc ls (.int (iI x) :: rest)) := by rw [h]; exact k
theorem ri_top {x : Int} (k : ∀ y : Int, y = x → W p l e R s m args below meth c H locs cells slots Q (F0 m pc ls (.int (iI y) :: rest))) : W p l e R s m args below meth c H locs cells slots Q (F0 m pc ls (.int (iI x) :: rest)) := k x rfl
theorem ri_if_eq (hexec : p.tables.exec = Jvm.exec) (hb : c.code = cc) {x : Int} {off : Int} {tgt : Nat} (hr : -2147483648 ≤ x ∧ x < 2147483648) (hdg : decode cc pc = .ok (.ifCond .eq off, 3)) (ht : (pc : Int) + off = (tgt : Int)) (kt : x = 0 → W p l e R s m args below meth c H locs cells slots Q (F0 m tgt ls rest)) (kf : x ≠ 0 → W p l e R s m args below meth c H locs cells slots Q (F0 m (pc + 3) ls rest)) : W p l e R s m args below meth c H locs cells slots Q (F0 m pc ls (.int (iI x) :: rest)) :=
  lv_if_eq hexec hb hdg ht (fun h => kt ((iI_eq hr (by omega)).mp h)) (fun h => kf (fun q => h ((iI_eq hr (by omega)).mpr q)))
theorem ri_if_ne (hexec : p.tables.exec = Jvm.exec) (hb : c.code = cc) {x : Int} {off : Int} {tgt : Nat} (hr : -2147483648 ≤ x ∧ x < 2147483648) (hdg : decode cc pc = .ok (.ifCond .ne off, 3)) (ht : (pc : Int) + off = (tgt : Int)) (kt : x ≠ 0 → W p l e R s m args below meth c H locs cells slots Q (F0 m tgt ls rest)) (kf : x = 0 → W p l e R s m args below meth c H locs cells slots Q (F0 m (pc + 3) ls rest)) : W p l e R s m args below meth c H locs cells slots Q (F0 m pc ls (.int (iI x) :: rest)) :=
  lv_if_ne hexec hb hdg ht (fun h => kt (fun q => h ((iI_eq hr (by omega)).mpr q))) (fun h => kf ((iI_eq hr (by omega)).mp h))
theorem ri_if_lt (hexec : p.tables.exec = Jvm.exec) (hb : c.code = cc) {x : Int} {off : Int} {tgt : Nat} (hr : -2147483648 ≤ x ∧ x < 2147483648) (hdg : decode cc pc = .ok (.ifCond .lt off, 3)) (ht : (pc : Int) + off = (tgt : Int)) (kt : x < 0 → W p l e R s m args below meth c H locs cells slots Q (F0 m tgt ls rest)) (kf : 0 ≤ x → W p l e R s m args below meth c H locs cells slots Q (F0 m (pc + 3) ls rest)) : W p l e R s m args below meth c H locs cells slots Q (F0 m pc ls (.int (iI x) :: rest)) :=
  lv_if_lt hexec hb hdg ht (fun h => kt ((iI_lt hr (by omega)).mp h)) (fun h => kf (Int.not_lt.mp fun q => h ((iI_lt hr (by omega)).mpr q)))
theorem ri_if_ge (hexec : p.tables.exec = Jvm.exec) (hb : c.code = cc) {x : Int} {off : Int} {tgt : Nat} (hr : -2147483648 ≤ x ∧ x < 2147483648) (hdg : decode cc pc = .ok (.ifCond .ge off, 3)) (ht : (pc : Int) + off = (tgt : Int)) (kt : 0 ≤ x → W p l e R s m args below meth c H locs cells slots Q (F0 m tgt ls rest)) (kf : x < 0 → W p l e R s m args below meth c H locs cells slots Q (F0 m (pc + 3) ls rest)) : W p l e R s m args below meth c H locs cells slots Q (F0 m pc ls (.int (iI x) :: rest)) :=
  lv_if_ge hexec hb hdg ht (fun h => kt ((iI_le (by omega) hr).mp h)) (fun h => kf (Int.not_le.mp fun q => h ((iI_le (by omega) hr).mpr q)))
theorem ri_if_le (hexec : p.tables.exec = Jvm.exec) (hb : c.code = cc) {x : Int} {off : Int} {tgt : Nat} (hr : -2147483648 ≤ x ∧ x < 2147483648) (hdg : decode cc pc = .ok (.ifCond .le off, 3)) (ht : (pc : Int) + off = (tgt : Int)) (kt : x ≤ 0 → W p l e R s m args below meth c H locs cells slots Q (F0 m tgt ls rest)) (kf : 0 < x → W p l e R s m args below meth c H locs cells slots Q (F0 m (pc + 3) ls rest)) : W p l e R s m args below meth c H locs cells slots Q (F0 m pc ls (.int (iI x) :: rest)) :=
  lv_if_le hexec hb hdg ht (fun h => kt ((iI_le hr (by omega)).mp h)) (fun h => kf (Int.not_le.mp fun q => h ((iI_le hr (by omega)).mpr q)))
theorem ri_if_gt (hexec : p.tables.exec = Jvm.exec) (hb : c.code = cc) {x : Int} {off : Int} {tgt : Nat} (hr : -2147483648 ≤ x ∧ x < 2147483648) (hdg : decode cc pc = .ok (.ifCond .gt off, 3)) (ht : (pc : Int) + off = (tgt : Int)) (kt : 0 < x → W p l e R s m args below meth c H locs cells slots Q (F0 m tgt ls rest)) (kf : x ≤ 0 → W p l e R s m args below meth c H locs cells slots Q (F0 m (pc + 3) ls rest)) : W p l e R s m args below meth c H locs cells slots Q (F0 m pc ls (.int (iI x) :: rest)) :=
  lv_if_gt hexec hb hdg ht (fun h => kt ((iI_lt (by omega) hr).mp h)) (fun h => kf (Int.not_lt.mp fun q => h ((iI_lt (by omega) hr).mpr q)))
theorem ri_ifeq_b (hexec : p.tables.exec = Jvm.exec) (hb : c.code = cc) {P : Prop} {off : Int} {tgt : Nat} (hdg : decode cc pc = .ok (.ifCond .eq off, 3)) (ht : (pc : Int) + off = (tgt : Int)) (kt : ¬ P → W p l e R s m args below meth c H locs cells slots Q (F0 m tgt ls rest)) (kf : P → W p l e R s m args below meth c H locs cells slots Q (F0 m (pc + 3) ls rest)) : W p l e R s m args below meth c H locs cells slots Q (F0 m pc ls (.int (iI (bp P)) :: rest)) :=
  ri_if_eq hexec hb (by have := bp_r P; omega) hdg ht (fun h => kt (bp_0.mp h)) (fun h => kf (bp_1.mp ((bp_01 P).resolve_left h)))
theorem ri_ifne_b (hexec : p.tables.exec = Jvm.exec) (hb : c.code = cc) {P : Prop} {off : Int} {tgt : Nat} (hdg : decode cc pc = .ok (.ifCond .ne off, 3)) (ht : (pc : Int) + off = (tgt : Int)) (kt : P → W p l e R s m args below meth c H locs cells slots Q (F0 m tgt ls rest)) (kf : ¬ P → W p l e R s m args below meth c H locs cells slots Q (F0 m (pc + 3) ls rest)) : W p l e R s m args below meth c H locs cells slots Q (F0 m pc ls (.int (iI (bp P)) :: rest)) :=
  ri_if_ne hexec hb (by have := bp_r P; omega) hdg ht (fun h => kt (bp_1.mp ((bp_01 P).resolve_left h))) (fun h => kf (bp_0.mp h))
theorem ri_icmp_eq (hexec : p.tables.exec = Jvm.exec) (hb : c.code = cc) {x y : Int} {off : Int} {tgt : Nat} (hr : -2147483648 ≤ x ∧ x < 2147483648 ∧ -2147483648 ≤ y ∧ y < 2147483648) (hdg : decode cc pc = .ok (.if_icmp .eq off, 3)) (ht : (pc : Int) + off = (tgt : Int)) (kt : x = y → W p l e R s m args below meth c H locs cells slots Q (F0 m tgt ls rest)) (kf : x ≠ y → W p l e R s m args below meth c H locs cells slots Q (F0 m (pc + 3) ls rest)) : W p l e R s m args below meth c H locs cells slots Q (F0 m pc ls (.int (iI y) :: .int (iI x) :: rest)) :=
  lv_icmp_eq hexec hb hdg ht (fun h => kt ((iI_eq ⟨hr.1, hr.2.1⟩ hr.2.2).mp h)) (fun h => kf (fun q => h ((iI_eq ⟨hr.1, hr.2.1⟩ hr.2.2).mpr q)))
theorem ri_icmp_ne (hexec : p.tables.exec = Jvm.exec) (hb : c.code = cc) {x y : Int} {off : Int} {tgt : Nat} (hr : -2147483648 ≤ x ∧ x < 2147483648 ∧ -2147483648 ≤ y ∧ y < 2147483648) (hdg : decode cc pc = .ok (.if_icmp .ne off, 3)) (ht : (pc : Int) + off = (tgt : Int)) (kt : x ≠ y → W p l e R s m args below meth c H locs cells slots Q (F0 m tgt ls rest)) (kf : x = y → W p l e R s m args below meth c H locs cells slots Q (F0 m (pc + 3) ls rest)) : W p l e R s m args below meth c H locs cells slots Q (F0 m pc ls (.int (iI y) :: .int (iI x) :: rest)) :=
  lv_icmp_ne hexec hb hdg ht (fun h => kt (fun q => h ((iI_eq ⟨hr.1, hr.2.1⟩ hr.2.2).mpr q))) (fun h => kf ((iI_eq ⟨hr.1, hr.2.1⟩ hr.2.2).mp h))
theorem ri_icmp_lt (hexec : p.tables.exec = Jvm.exec) (hb : c.code = cc) {x y : Int} {off : Int} {tgt : Nat} (hr : -2147483648 ≤ x ∧ x < 2147483648 ∧ -2147483648 ≤ y ∧ y < 2147483648) (hdg : decode cc pc = .ok (.if_icmp .lt off, 3)) (ht : (pc : Int) + off = (tgt : Int)) (kt : x < y → W p l e R s m args below meth c H locs cells slots Q (F0 m tgt ls rest)) (kf : y ≤ x → W p l e R s m args below meth c H locs cells slots Q (F0 m (pc + 3) ls rest)) : W p l e R s m args below meth c H locs cells slots Q (F0 m pc ls (.int (iI y) :: .int (iI x) :: rest)) :=
  lv_icmp_lt hexec hb hdg ht (fun h => kt ((iI_lt ⟨hr.1, hr.2.1⟩ hr.2.2).mp h)) (fun h => kf (Int.not_lt.mp fun q => h ((iI_lt ⟨hr.1, hr.2.1⟩ hr.2.2).mpr q)))
theorem ri_icmp_ge (hexec : p.tables.exec = Jvm.exec) (hb : c.code = cc) {x y : Int} {off : Int} {tgt : Nat} (hr : -2147483648 ≤ x ∧ x < 2147483648 ∧ -2147483648 ≤ y ∧ y < 2147483648) (hdg : decode cc pc = .ok (.if_icmp .ge off, 3)) (ht : (pc : Int) + off = (tgt : Int)) (kt : y ≤ x → W p l e R s m args below meth c H locs cells slots Q (F0 m tgt ls rest)) (kf : x < y → W p l e R s m args below meth c H locs cells slots Q (F0 m (pc + 3) ls rest)) : W p l e R s m args below meth c H locs cells slots Q (F0 m pc ls (.int (iI y) :: .int (iI x) :: rest)) :=
  lv_icmp_ge hexec hb hdg ht (fun h => kt ((iI_le hr.2.2 ⟨hr.1, hr.2.1⟩).mp h)) (fun h => kf (Int.not_le.mp fun q => h ((iI_le hr.2.2 ⟨hr.1, hr.2.1⟩).mpr q)))
theorem ri_icmp_gt (hexec : p.tables.exec = Jvm.exec) (hb : c.code = cc) {x y : Int} {off : Int} {tgt : Nat} (hr : -2147483648 ≤ x ∧ x < 2147483648 ∧ -2147483648 ≤ y ∧ y < 2147483648) (hdg : decode cc pc = .ok (.if_icmp .gt off, 3)) (ht : (pc : Int) + off = (tgt : Int)) (kt : y < x → W p l e R s m args below meth c H locs cells slots Q (F0 m tgt ls rest)) (kf : x ≤ y → W p l e R s m args below meth c H locs cells slots Q (F0 m (pc + 3) ls rest)) : W p l e R s m args below meth c H locs cells slots Q (F0 m pc ls (.int (iI y) :: .int (iI x) :: rest)) :=
  lv_icmp_gt hexec hb hdg ht (fun h => kt ((iI_lt hr.2.2 ⟨hr.1, hr.2.1⟩).mp h)) (fun h => kf (Int.not_lt.mp fun q => h ((iI_lt hr.2.2 ⟨hr.1, hr.2.1⟩).mpr q)))
theorem ri_icmp_le (hexec : p.tables.exec = Jvm.exec) (hb : c.code = cc) {x y : Int} {off : Int} {tgt : Nat} (hr : -2147483648 ≤ x ∧ x < 2147483648 ∧ -2147483648 ≤ y ∧ y < 2147483648) (hdg : decode cc pc = .ok (.if_icmp .le off, 3)) (ht : (pc : Int) + off = (tgt : Int)) (kt : x ≤ y → W p l e R s m args below meth c H locs cells slots Q (F0 m tgt ls rest)) (kf : y < x → W p l e R s m args below meth c H locs cells slots Q (F0 m (pc + 3) ls rest)) : W p l e R s m args below meth c H locs cells slots Q (F0 m pc ls (.int (iI y) :: .int (iI x) :: rest)) :=
  lv_icmp_le hexec hb hdg ht (fun h => kt ((iI_le ⟨hr.1, hr.2.1⟩ hr.2.2).mp h)) (fun h => kf (Int.not_le.mp fun q => h ((iI_le ⟨hr.1, hr.2.1⟩ hr.2.2).mpr q)))
theorem ri_iinc (hexec : p.tables.exec = Jvm.exec) (hb : c.code = cc) {i nL k : Nat} {n : Int} {x : Int} {lv lv' : List (Nat × Value)} (hdg : decode cc pc = .ok (.iinc i n, 3)) (h : lv_has ls nL lv) (hk : lv[k]? = some (i, .int (iI x))) (hn : i < nL) (hl : (i, Value.int (iI (x + n))) :: lv.filter (fun q => !(q.1 == i) && !(q.1 + 1 == i && q.2.category == 2)) = lv') (kk : ∀ ls' : Array Slot, lv_has ls' nL lv' → W p l e R s m args below meth c H locs cells slots Q (F0 m (pc + 3) ls' rest)) : W p l e R s m args below meth c H locs cells slots Q (F0 m pc ls rest) :=
  lv_iinc (v := iI (x + n)) hexec hb hdg h hk (iI_add x n) hn hl kk
section RIA
variable {D : va_G} {cl : List vw_C} {tys : List (ClassId × FieldType)} {ws : va_W} {a : Nat} {A : Nat → Prop} {H0 : Heap}
theorem ri_iald (hexec : p.tables.exec = Jvm.exec) (hb : c.code = cc) (hK : va_K D cl tys s) (hP : va_P D cl ws H) (q0 t0 : Nat) {cA : ClassId} {n : Nat} {f : Nat → Int} (ha : ws[q0]? = some (a, .inl (cA, n, .inl (fun j => iI (f j))))) (ht : tys[t0]? = some (cA, .int)) {i : Int} (hin : 0 ≤ i ∧ i < (n : Int)) (hn : n < 2147483648) (hdg : decode cc pc = .ok (.iaload, 1)) (kk : W p l e R s m args below meth c H locs cells slots Q (F0 m (pc + 1) ls (.int (iI (f i.toNat)) :: rest))) : W p l e R s m args below meth c H locs cells slots Q (F0 m pc ls (.int (iI i) :: .ref a :: rest)) :=
  va_iald hexec hb hK hP q0 t0 ha ht (iI_in hin hn) hdg (by
    show W p l e R s m args below meth c H locs cells slots Q (F0 m (pc + 1) ls (.int (iI (f (iI i).toNatClampNeg)) :: rest))
    rw [iI_cl ⟨hin.1, by omega⟩]; exact kk)
theorem ri_zald (hexec : p.tables.exec = Jvm.exec) (hb : c.code = cc) (hK : va_K D cl tys s) (hP : va_P D cl ws H) (q0 t0 : Nat) {cA : ClassId} {n : Nat} {f : Nat → Int} (ha : ws[q0]? = some (a, .inl (cA, n, .inl (fun j => iI (f j))))) (ht : tys[t0]? = some (cA, .boolean)) {i : Int} (hin : 0 ≤ i ∧ i < (n : Int)) (hn : n < 2147483648) (hdg : decode cc pc = .ok (.baload, 1)) (kk : W p l e R s m args below meth c H locs cells slots Q (F0 m (pc + 1) ls (.int (iI (f i.toNat)) :: rest))) : W p l e R s m args below meth c H locs cells slots Q (F0 m pc ls (.int (iI i) :: .ref a :: rest)) :=
  va_zald hexec hb hK hP q0 t0 ha ht (iI_in hin hn) hdg (by
    show W p l e R s m args below meth c H locs cells slots Q (F0 m (pc + 1) ls (.int (iI (f (iI i).toNatClampNeg)) :: rest))
    rw [iI_cl ⟨hin.1, by omega⟩]; exact kk)
theorem ri_iast (hexec : p.tables.exec = Jvm.exec) (hb : c.code = cc) (hK : va_K D cl tys s) (hP : va_P D cl ws H) (hD : va_D A ws) (hS : va_S A H0 H locs) (q0 t0 : Nat) {cA : ClassId} {n : Nat} {f : Nat → Int} (ha : ws[q0]? = some (a, .inl (cA, n, .inl (fun j => iI (f j))))) (ht : tys[t0]? = some (cA, .int)) {i v : Int} (hin : 0 ≤ i ∧ i < (n : Int)) (hn : n < 2147483648) (hdg : decode cc pc = .ok (.iastore, 1)) (kk : ∀ (H1 : Heap) (locs1 : List Loc), va_P D cl (ws.set q0 (a, .inl (cA, n, .inl (fun j => iI (updI f i.toNat v j))))) H1 → va_S A H0 H1 locs1 → W p l e R s m args below meth c H1 locs1 cells slots Q (F0 m (pc + 1) ls rest)) : W p l e R s m args below meth c H locs cells slots Q (F0 m pc ls (.int (iI v) :: .int (iI i) :: .ref a :: rest)) :=
  va_iast hexec hb hK hP hD hS q0 t0 ha ht (iI_in hin hn) hdg (fun H1 locs1 h1 _ h3 => kk H1 locs1 (by rw [iI_cl ⟨hin.1, by omega⟩, updI_iI] at h1; exact h1) h3)
theorem ri_zast (hexec : p.tables.exec = Jvm.exec) (hb : c.code = cc) (hK : va_K D cl tys s) (hP : va_P D cl ws H) (hD : va_D A ws) (hS : va_S A H0 H locs) (q0 t0 : Nat) {cA : ClassId} {n : Nat} {f : Nat → Int} (ha : ws[q0]? = some (a, .inl (cA, n, .inl (fun j => iI (f j))))) (ht : tys[t0]? = some (cA, .boolean)) {i v : Int} (hin : 0 ≤ i ∧ i < (n : Int)) (hn : n < 2147483648) (hv : v = 0 ∨ v = 1) (hdg : decode cc pc = .ok (.bastore, 1)) (kk : ∀ (H1 : Heap) (locs1 : List Loc), va_P D cl (ws.set q0 (a, .inl (cA, n, .inl (fun j => iI (updI f i.toNat v j))))) H1 → va_S A H0 H1 locs1 → W p l e R s m args below meth c H1 locs1 cells slots Q (F0 m (pc + 1) ls rest)) : W p l e R s m args below meth c H locs cells slots Q (F0 m pc ls (.int (iI v) :: .int (iI i) :: .ref a :: rest)) :=
  va_zast hexec hb hK hP hD hS q0 t0 ha ht (iI_in hin hn) hdg (fun H1 locs1 h1 _ h3 => kk H1 locs1 (by rw [iI_cl ⟨hin.1, by omega⟩, nar_vb hv, updI_iI] at h1; exact h1) h3)
end RIA
end RIW
end
section
/-! ===== contracts, entries, ends, calls ===== -/
/-- a method that only reads: it answers v, the heap stays -/
def RD (l : Launch) (y : MethodName) (ws : List Cond) (rm : Room) (As : List Value) (B : State → Prop) (v : Int) : Prop := Met l y ws rm (va_Pc As B) (vp_Si (fun r => r = iI v)) 0 0 (fun _ => False)
/-- what stands of a method in the tables' words -/
def MF (y : MethodName) (ws : List Cond) (bytes : ByteArray) (maxL : Nat) (ret : Option FieldType) (n : Nat) : Prop := (∃ ws', ws = Cond.code y bytes maxL ret :: ws') ∧ y.cls ≠ "java/lang/invoke/MethodHandle" ∧ y.cls ≠ "java/lang/invoke/VarHandle" ∧ (parseMethodDescriptor y.desc).map (fun d => d.parameters.length) = some n
def Bl (B : State → Prop) : Prop := ∀ (U : State) (g : JFrame) (mk : MethodId) (a : Array Value), B U → B (U.calling g mk a)
theorem Bl_pc {As : List Value} {B : State → Prop} (h : Bl B) : FrameBlind (va_Pc As B) := fun a U g mk q => ⟨q.1, h U g mk a q.2⟩
/-- a method that changes cells of A (and makes at most mc cells of ms slots): void, or with the answer v; behind it PP holds of the heap -/
def WV (l : Launch) (y : MethodName) (ws : List Cond) (rm : Room) (As : List Value) (B : State → Prop) (PP : Heap → Prop) (A : Nat → Prop) (mc ms : Nat) : Prop := Met l y ws rm (va_Pc As B) (va_Qv (fun _ : Unit => True) (fun _ t => PP t.heap) A) mc ms A
def WI (l : Launch) (y : MethodName) (ws : List Cond) (rm : Room) (As : List Value) (B : State → Prop) (v : Int) (PP : Heap → Prop) (A : Nat → Prop) (mc ms : Nat) : Prop := Met l y ws rm (va_Pc As B) (va_Qi (fun (r : Int32) (_ : Unit) => r = iI v) (fun _ t => PP t.heap) A) mc ms A
/-- .. that returns where ok, and else throws E, what was there before unchanged -/
def XV (l : Launch) (y : MethodName) (ws : List Cond) (rm : Room) (As : List Value) (B : State → Prop) (ok : Prop) (E : String → Prop) (PP : Heap → Prop) (A : Nat → Prop) (mc ms : Nat) : Prop := vx_Met l y ws rm (va_Pc As B) (va_Qv (fun _ : Unit => ok) (fun _ t => PP t.heap) A) (vx_X (fun _ : Unit => True) (fun X _ _ => E X) (fun _ => False)) mc ms A
def XI (l : Launch) (y : MethodName) (ws : List Cond) (rm : Room) (As : List Value) (B : State → Prop) (ok : Prop) (E : String → Prop) (v : Int) (PP : Heap → Prop) (A : Nat → Prop) (mc ms : Nat) : Prop := vx_Met l y ws rm (va_Pc As B) (va_Qi (fun (r : Int32) (_ : Unit) => ok ∧ r = iI v) (fun _ t => PP t.heap) A) (vx_X (fun _ : Unit => True) (fun X _ _ => E X) (fun _ => False)) mc ms A
/-- the entry of a body -/
theorem ri_ent {l : Launch} {y : MethodName} {ws ws' : List Cond} {rm : Room} {av : List Value} {B : State → Prop} {Qc : Array Value → State → Outcome → State → Prop} {mc ms : Nat} {free : Addr → Prop} {cc : ByteArray} {maxL : Nat} {ret : Option FieldType} (hy : plainName y.cls = true) (hw : ws = Cond.code y cc maxL ret :: ws') (hn : (lg_sl av).length ≤ maxL)
    (body : ∀ p e s m below meth c, p.tables.exec = Jvm.exec → c.code = cc → meth.sig.returnType = ret → (∀ w ∈ ws, w.before av.toArray s = true) → s.vm.findClass y.cls = some m.cls → meth.locks = false → c.maxLocals = maxL → meth.name = y.name → B s → ∀ ls, lv_has ls maxL (lv_args 0 av) → W p l e rm s m av.toArray below meth c s.heap [] 0 0 (MQ below Qc av.toArray s mc ms free) (F0 m 0 ls [])) : Met l y ws rm (va_Pc av B) Qc mc ms free := by
  refine Met.ofW (cc := cc) (maxL := maxL) (ret := ret) hy hw ?_
  intro p e s m args below meth c s₁ B9 hml hv
  obtain ⟨rfl, hB⟩ := hv
  have hl := lv_entry av hn
  rw [lg_entry_eq]
  exact body p e s m below meth c B9.exec B9.bytes B9.returns (atoms_spec (ws := ws) B9.pre) (findClass_of_methodNamed B9.named) B9.notSynchronized hml (name_of_methodNamed B9.named B9.method).1 hB _ hl
theorem ri_entX {l : Launch} {y : MethodName} {ws ws' : List Cond} {rm : Room} {av : List Value} {B : State → Prop} {Qc : Array Value → State → Outcome → State → Prop} {XC : String → State → State → Prop} {mc ms : Nat} {free : Addr → Prop} {cc : ByteArray} {maxL : Nat} {ret : Option FieldType} (hy : plainName y.cls = true) (hw : ws = Cond.code y cc maxL ret :: ws') (hn : (lg_sl av).length ≤ maxL)
    (body : ∀ p e s m below meth c, p.tables.exec = Jvm.exec → c.code = cc → meth.sig.returnType = ret → (∀ w ∈ ws, w.before av.toArray s = true) → s.vm.findClass y.cls = some m.cls → meth.locks = false → c.maxLocals = maxL → (∀ x ∈ c.exceptionTable.toList, False) → B s → ∀ ls, lv_has ls maxL (lv_args 0 av) → W p l e rm s m av.toArray below meth c s.heap [] 0 0 (vx_MQ below Qc XC av.toArray s mc ms free) (F0 m 0 ls [])) : vx_Met l y ws rm (va_Pc av B) Qc XC mc ms free := by
  refine vx_ofW (cc := cc) (maxL := maxL) (ret := ret) hy hw ?_
  intro p e s m args below meth c s₁ B9 hml hxt hv
  obtain ⟨rfl, hB⟩ := hv
  have hl := lv_entry av hn
  rw [lg_entry_eq]
  exact body p e s m below meth c B9.exec B9.bytes B9.returns (atoms_spec (ws := ws) B9.pre) (findClass_of_methodNamed B9.named) B9.notSynchronized hml hxt hB _ hl
section RIC
variable {p : Program} {l : Launch} {e : Env} {R : Room} {s : State} {m : MethodId} {args : Array Value} {below : List Frame} {meth : Method} {c : Code} {H : Heap} {locs : List Loc} {cells slots : Nat} {Q : State → Prop}
variable {cc : ByteArray} {pc : Nat} {ls : Array Slot} {rest : List Value}
theorem ri_iret {v w : Int} (hexec : p.tables.exec = Jvm.exec) (hb : c.code = cc) (hr : meth.sig.returnType = some .int) (hlocks : meth.locks = false) (hdg : decode cc pc = .ok (.ireturn, 1)) (hv : v = w) : W p l e R s m args below meth c s.heap [] 0 0 (MQ below (vp_Si (fun r => r = iI w)) args s 0 0 (fun _ => False)) (F0 m pc ls [.int (iI v)]) :=
  W.iret hexec hb hr (fun t ht _ => ⟨_, rfl, by rw [hv], ht⟩) (fun q h => nomatch h) hdg hlocks
theorem ri_zret {v w : Int} (hexec : p.tables.exec = Jvm.exec) (hb : c.code = cc) (hr : meth.sig.returnType = some .boolean) (hlocks : meth.locks = false) (h01 : w = 0 ∨ w = 1) (hdg : decode cc pc = .ok (.ireturn, 1)) (hv : v = w) : W p l e R s m args below meth c s.heap [] 0 0 (MQ below (vp_Si (fun r => r = iI w)) args s 0 0 (fun _ => False)) (F0 m pc ls [.int (iI v)]) :=
  W.zret hexec hb hr (by rw [hv]; exact nar_b h01) (fun t ht _ => ⟨_, rfl, by rw [hv], ht⟩) (fun q h => nomatch h) hdg hlocks
theorem ri_vretW {PP : Heap → Prop} {A : Nat → Prop} (hexec : p.tables.exec = Jvm.exec) (hb : c.code = cc) (hr : meth.sig.returnType = none) (hlocks : meth.locks = false) (hS : va_S A s.heap H locs) (hP : PP H) (hdg : decode cc pc = .ok (.return_, 1)) : W p l e R s m args below meth c H locs cells slots (MQ below (va_Qv (fun _ : Unit => True) (fun _ t => PP t.heap) A) args s cells slots A) (F0 m pc ls []) :=
  W.vret hexec hb hr (fun t ht _ => ⟨⟨(), rfl, trivial, by show PP t.heap; rw [ht]; exact hP⟩, hS.F ht⟩) hS.2.2 hdg hlocks
theorem ri_iretW {PP : Heap → Prop} {A : Nat → Prop} {v w : Int} (hexec : p.tables.exec = Jvm.exec) (hb : c.code = cc) (hr : meth.sig.returnType = some .int) (hlocks : meth.locks = false) (hS : va_S A s.heap H locs) (hP : PP H) (hdg : decode cc pc = .ok (.ireturn, 1)) (hv : v = w) : W p l e R s m args below meth c H locs cells slots (MQ below (va_Qi (fun (r : Int32) (_ : Unit) => r = iI w) (fun _ t => PP t.heap) A) args s cells slots A) (F0 m pc ls [.int (iI v)]) :=
  W.iret hexec hb hr (fun t ht _ => ⟨⟨_, (), rfl, by rw [hv], by show PP t.heap; rw [ht]; exact hP⟩, hS.F ht⟩) hS.2.2 hdg hlocks
theorem ri_zretW {PP : Heap → Prop} {A : Nat → Prop} {v w : Int} (hexec : p.tables.exec = Jvm.exec) (hb : c.code = cc) (hr : meth.sig.returnType = some .boolean) (hlocks : meth.locks = false) (hS : va_S A s.heap H locs) (hP : PP H) (h01 : w = 0 ∨ w = 1) (hdg : decode cc pc = .ok (.ireturn, 1)) (hv : v = w) : W p l e R s m args below meth c H locs cells slots (MQ below (va_Qi (fun (r : Int32) (_ : Unit) => r = iI w) (fun _ t => PP t.heap) A) args s cells slots A) (F0 m pc ls [.int (iI v)]) :=
  W.zret hexec hb hr (by rw [hv]; exact nar_b h01) (fun t ht _ => ⟨⟨_, (), rfl, by rw [hv], by show PP t.heap; rw [ht]; exact hP⟩, hS.F ht⟩) hS.2.2 hdg hlocks
theorem ri_vretX {PP : Heap → Prop} {A : Nat → Prop} {ok : Prop} {XC : String → State → State → Prop} (hexec : p.tables.exec = Jvm.exec) (hb : c.code = cc) (hr : meth.sig.returnType = none) (hlocks : meth.locks = false) (hS : va_S A s.heap H locs) (hP : PP H) (hok : ok) (hdg : decode cc pc = .ok (.return_, 1)) : W p l e R s m args below meth c H locs cells slots (vx_MQ below (va_Qv (fun _ : Unit => ok) (fun _ t => PP t.heap) A) XC args s cells slots A) (F0 m pc ls []) :=
  vx_ret (W.vret hexec hb hr (fun t ht _ => ⟨⟨(), rfl, hok, by show PP t.heap; rw [ht]; exact hP⟩, hS.F ht⟩) hS.2.2 hdg hlocks)
theorem ri_iretX {PP : Heap → Prop} {A : Nat → Prop} {ok : Prop} {XC : String → State → State → Prop} {v w : Int} (hexec : p.tables.exec = Jvm.exec) (hb : c.code = cc) (hr : meth.sig.returnType = some .int) (hlocks : meth.locks = false) (hS : va_S A s.heap H locs) (hP : PP H) (hok : ok) (hdg : decode cc pc = .ok (.ireturn, 1)) (hv : v = w) : W p l e R s m args below meth c H locs cells slots (vx_MQ below (va_Qi (fun (r : Int32) (_ : Unit) => ok ∧ r = iI w) (fun _ t => PP t.heap) A) XC args s cells slots A) (F0 m pc ls [.int (iI v)]) :=
  vx_ret (W.iret hexec hb hr (fun t ht _ => ⟨⟨_, (), rfl, ⟨hok, by rw [hv]⟩, by show PP t.heap; rw [ht]; exact hP⟩, hS.F ht⟩) hS.2.2 hdg hlocks)
theorem ri_zretX {PP : Heap → Prop} {A : Nat → Prop} {ok : Prop} {XC : String → State → State → Prop} {v w : Int} (hexec : p.tables.exec = Jvm.exec) (hb : c.code = cc) (hr : meth.sig.returnType = some .boolean) (hlocks : meth.locks = false) (hS : va_S A s.heap H locs) (hP : PP H) (hok : ok) (h01 : w = 0 ∨ w = 1) (hdg : decode cc pc = .ok (.ireturn, 1)) (hv : v = w) : W p l e R s m args below meth c H locs cells slots (vx_MQ below (va_Qi (fun (r : Int32) (_ : Unit) => ok ∧ r = iI w) (fun _ t => PP t.heap) A) XC args s cells slots A) (F0 m pc ls [.int (iI v)]) :=
  vx_ret (W.zret hexec hb hr (by rw [hv]; exact nar_b h01) (fun t ht _ => ⟨⟨_, (), rfl, ⟨hok, by rw [hv]⟩, by show PP t.heap; rw [ht]; exact hP⟩, hS.F ht⟩) hS.2.2 hdg hlocks)
/-! calls -/
variable {Ts ws : List Cond} {bytes : ByteArray} {nL maxL index n mc ms : Nat} {own C : String} {y : MethodName} {ret : Option FieldType} {rm : Room} {B : State → Prop} {b : Addr} {As stk : List Value} {v : Int}
abbrev RmOk (rm R : Room) (maxL mc ms cells slots : Nat) : Prop := rm.cells = mc ∧ rm.slots = ms ∧ rm.frames + 1 ≤ R.frames ∧ 8 + (maxL + 11) + rm.locals ≤ R.locals ∧ cells + mc ≤ R.cells ∧ slots + ms ≤ R.slots
/-- a call of a static method of the tables -/
theorem ri_runS {Qc : Array Value → State → Outcome → State → Prop} {free : Addr → Prop} (CF : CallFix p m c cc nL s args Ts own) (hM : Met l y ws rm (va_Pc As B) Qc mc ms free) (hG : GoodIn Ts (va_wsS own index y ws)) (hF : MF y ws bytes maxL ret n) (hrm : RmOk rm R maxL mc ms cells slots) (hbl : Bl B) (hB : ∀ U : State, U.heap = H → s.WarmedH U.vm → B U) (hn : As.length = n) (hsz : ls.size = nL) (hst : stk = As.reverse ++ rest) (hr : (rest.map fun v => v.category).sum ≤ 8) (hdg : decode cc pc = .ok (.invokestatic index, 3)) :
    va_Run p l e R s m args below meth c H locs cells slots mc ms (F0 m pc ls stk) rest (Qc As.toArray) free := by
  obtain ⟨⟨ws', hw⟩, h1, h2, h3⟩ := hF
  exact va_runS CF hM (va_cwS n CF.2.2.2.2 hG hw hrm.1 hrm.2.1 ⟨h1, h2, h3⟩ ⟨hrm.2.2.1, hrm.2.2.2.1⟩) ⟨Bl_pc hbl, fun U hU hW => ⟨rfl, hB U hU hW⟩⟩ rfl hn hsz hst (lv_room hr) hdg hrm.2.2.2.2
theorem ri_runV {Qc : Array Value → State → Outcome → State → Prop} {free : Addr → Prop} (CF : CallFix p m c cc nL s args Ts own) (hM : Met l y ws rm (va_Pc (.ref b :: As) B) Qc mc ms free) (hG : GoodIn Ts (wsV own index C y ws)) (hF : MF y ws bytes maxL ret n) (hC : y.cls = C) (hrec : ∃ cellB : Cell, H[b]? = some cellB ∧ cellB.vm.isStatics = false ∧ s.vm.findClass C = some cellB.cls) (hrm : RmOk rm R maxL mc ms cells slots) (hbl : Bl B) (hB : ∀ U : State, U.heap = H → s.WarmedH U.vm → B U) (hn : As.length = n) (hsz : ls.size = nL) (hst : stk = As.reverse ++ .ref b :: rest) (hr : (rest.map fun v => v.category).sum ≤ 8) (hdg : decode cc pc = .ok (.invokevirtual index, 3)) :
    va_Run p l e R s m args below meth c H locs cells slots mc ms (F0 m pc ls stk) rest (Qc (Value.ref b :: As).toArray) free := by
  obtain ⟨⟨ws', hw⟩, h1, h2, h3⟩ := hF
  exact va_runV CF hM (cwV n CF.2.2.2.2 hG hw hrm.1 hrm.2.1 ⟨hC, h1, h2, h3⟩ ⟨hrm.2.2.1, hrm.2.2.2.1⟩) ⟨Bl_pc hbl, hrec, fun U hU hW => ⟨rfl, hB U hU hW⟩⟩ rfl hn hsz hst (lv_room hr) hdg hrm.2.2.2.2
theorem ri_runN {Qc : Array Value → State → Outcome → State → Prop} {free : Addr → Prop} {host : String} (CF : CallFix p m c cc nL s args Ts own) (hM : Met l y ws rm (va_Pc As B) Qc mc ms free) (hG : GoodIn Ts ws) (hF : MF y ws bytes maxL ret n) (hN : va_Nw (.methodLinkNest own index y host) s) (hini : (Cond.initialized y.cls) ∈ Ts) (hstat : (Cond.static y) ∈ Ts) (hrm : RmOk rm R maxL mc ms cells slots) (hbl : Bl B) (hB : ∀ U : State, U.heap = H → s.WarmedH U.vm → B U) (hn : As.length = n) (hsz : ls.size = nL) (hst : stk = As.reverse ++ rest) (hr : (rest.map fun v => v.category).sum ≤ 8) (hdg : decode cc pc = .ok (.invokestatic index, 3)) :
    va_Run p l e R s m args below meth c H locs cells slots mc ms (F0 m pc ls stk) rest (Qc As.toArray) free := by
  obtain ⟨⟨ws', hw⟩, h1, h2, h3⟩ := hF
  exact va_runSN CF hM ⟨va_cnB n CF.2.2.2.2 hG hw hrm.1 hrm.2.1 hN (CF.2.2.2.2 _ hini) ⟨h1, h2, h3⟩ ⟨hrm.2.2.1, hrm.2.2.2.1⟩, CF.2.2.2.2 _ hstat, trivial⟩ ⟨Bl_pc hbl, fun U hU hW => ⟨rfl, hB U hU hW⟩⟩ rfl hn hsz hst (lv_room hr) hdg hrm.2.2.2.2
/-- behind a call of a reader -/
theorem ri_rd {st0 : List Value} {a : Array Value} (hr : va_Run p l e R s m args below meth c H locs cells slots 0 0 (F0 m pc ls st0) rest (vp_Si (fun r => r = iI v) a) (fun _ => False)) (kk : W p l e R s m args below meth c H locs cells slots Q (F0 m (pc + 3) ls (.int (iI v) :: rest))) : W p l e R s m args below meth c H locs cells slots Q (F0 m pc ls st0) :=
  vp_callSi hr.run (fun r h => by rw [h]; exact kk)
variable {PP : Heap → Prop} {A A0 : Nat → Prop} {H0 : Heap} {a : Array Value} {st0 : List Value}
theorem ri_wv (hr : va_Run p l e R s m args below meth c H locs cells slots mc ms (F0 m pc ls st0) rest (va_Qv (fun _ : Unit => True) (fun _ t => PP t.heap) A a) A) (hS : va_S A0 H0 H locs) (hA : ∀ q, A q → A0 q) (kk : ∀ (H1 : Heap) (locs1 : List Loc), PP H1 → (∀ q : Nat, q < H.size → ¬ A q → H1[q]? = H[q]?) → va_S A0 H0 H1 locs1 → W p l e R s m args below meth c H1 locs1 (cells + mc) (slots + ms) Q (F0 m (pc + 3) ls rest)) : W p l e R s m args below meth c H locs cells slots Q (F0 m pc ls st0) :=
  va_callv hr hS (fun q _ h => hA q h) hA (fun _ t H1 locs1 ht _ _ hB _ hk hS1 => kk H1 locs1 (by rw [← ht]; exact hB) hk hS1)
theorem ri_wi (hr : va_Run p l e R s m args below meth c H locs cells slots mc ms (F0 m pc ls st0) rest (va_Qi (fun (r : Int32) (_ : Unit) => r = iI v) (fun _ t => PP t.heap) A a) A) (hS : va_S A0 H0 H locs) (hA : ∀ q, A q → A0 q) (kk : ∀ (H1 : Heap) (locs1 : List Loc), PP H1 → (∀ q : Nat, q < H.size → ¬ A q → H1[q]? = H[q]?) → va_S A0 H0 H1 locs1 → W p l e R s m args below meth c H1 locs1 (cells + mc) (slots + ms) Q (F0 m (pc + 3) ls (.int (iI v) :: rest))) : W p l e R s m args below meth c H locs cells slots Q (F0 m pc ls st0) :=
  va_calli hr hS (fun q _ h => hA q h) hA (fun r _ t H1 locs1 ht _ hp hB _ hk hS1 => by rw [hp]; exact kk H1 locs1 (by rw [← ht]; exact hB) hk hS1)
end RIC
end
section
/-! ===== the worlds: the class's seventeen cells, the reference's eight ===== -/
/-- the arrays' classes: int, boolean, long -/
def TY (kk : Nat → ClassId) : List (ClassId × FieldType) := [(kk 0, .int), (kk 1, .boolean), (kk 2, .long)]
/-- the class: 0 itself, 1 pictures (2 shades, 3 held), 4 parts (5 lefts .. 8 bottoms), 9 masks (10 .. 13), 14 histories (15 results, 16 lengths); g n: what the array n holds -/
def xW (a : Nat → Nat) (kk : Nat → ClassId) (g : Nat → Nat → Int) : va_W := [(a 0, .inr (3, [.ref (a 1), .ref (a 4), .ref (a 9), .ref (a 14)])), (a 1, .inr (1, [.ref (a 2), .ref (a 3)])), (a 2, .inl (kk 0, 2880, .inl (fun j => iI (g 2 j)))), (a 3, .inl (kk 1, 45, .inl (fun j => iI (g 3 j)))),
  (a 4, .inr (2, [.ref (a 5), .ref (a 6), .ref (a 7), .ref (a 8)])), (a 5, .inl (kk 0, 5, .inl (fun j => iI (g 5 j)))), (a 6, .inl (kk 0, 5, .inl (fun j => iI (g 6 j)))), (a 7, .inl (kk 0, 5, .inl (fun j => iI (g 7 j)))), (a 8, .inl (kk 0, 5, .inl (fun j => iI (g 8 j)))),
  (a 9, .inr (2, [.ref (a 10), .ref (a 11), .ref (a 12), .ref (a 13)])), (a 10, .inl (kk 0, 5, .inl (fun j => iI (g 10 j)))), (a 11, .inl (kk 0, 5, .inl (fun j => iI (g 11 j)))), (a 12, .inl (kk 0, 5, .inl (fun j => iI (g 12 j)))), (a 13, .inl (kk 0, 5, .inl (fun j => iI (g 13 j)))),
  (a 14, .inr (0, [.ref (a 15), .ref (a 16)])), (a 15, .inl (kk 0, 5, .inl (fun j => iI (g 15 j)))), (a 16, .inl (kk 0, 5, .inl (fun j => iI (g 16 j))))]
/-- a Rectangles alone: 0 itself, 1 lefts, 2 tops, 3 rights, 4 bottoms -/
def rW (a : Nat → Nat) (kk : Nat → ClassId) (g : Nat → Nat → Int) : va_W := [(a 0, .inr (2, [.ref (a 1), .ref (a 2), .ref (a 3), .ref (a 4)])), (a 1, .inl (kk 0, 5, .inl (fun j => iI (g 1 j)))), (a 2, .inl (kk 0, 5, .inl (fun j => iI (g 2 j)))), (a 3, .inl (kk 0, 5, .inl (fun j => iI (g 3 j)))), (a 4, .inl (kk 0, 5, .inl (fun j => iI (g 4 j))))]
/-- the reference: 0 itself (g 0: its numbers, by the fields' places), 1 pictures, 2 kept, 3 isKept, 4 parts, 5 masks, 6 results, 7 many -/
def mW (a : Nat → Nat) (kk : Nat → ClassId) (g : Nat → Nat → Int) : va_W := [(a 0, .inr (4, [.int (iI (g 0 0)), .ref (a 1), .ref (a 2), .ref (a 3), .ref (a 4), .ref (a 5), .ref (a 6), .ref (a 7), .int (iI (g 0 8)), .int (iI (g 0 9))])), (a 1, .inl (kk 0, 320, .inl (fun j => iI (g 1 j)))), (a 2, .inl (kk 0, 2240, .inl (fun j => iI (g 2 j)))), (a 3, .inl (kk 1, 35, .inl (fun j => iI (g 3 j)))),
  (a 4, .inl (kk 0, 20, .inl (fun j => iI (g 4 j)))), (a 5, .inl (kk 0, 20, .inl (fun j => iI (g 5 j)))), (a 6, .inl (kk 0, 50, .inl (fun j => iI (g 6 j)))), (a 7, .inl (kk 0, 5, .inl (fun j => iI (g 7 j))))]
def aA (n : Nat) (a : Nat → Nat) : Nat → Prop := fun q => ∃ k, k < n ∧ q = a k
def aDs (n : Nat) (a : Nat → Nat) : Prop := ∀ i j, i < n → j < n → a i = a j → i = j
theorem aD_of {n : Nat} {a : Nat → Nat} {ws : va_W} (hw : ws.map Prod.fst = (List.range n).map a) (h : aDs n a) : va_D (aA n a) ws := by
  have key : ∀ (k : Nat) (q : Nat × va_E), ws[k]? = some q → k < n ∧ q.1 = a k := by
    intro k q hq
    have h1 : (ws.map Prod.fst)[k]? = some q.1 := by rw [List.getElem?_map, hq]; rfl
    rw [hw, List.getElem?_map] at h1
    rcases Nat.lt_or_ge k n with hk | hk
    · rw [List.getElem?_range hk] at h1
      exact ⟨hk, (Option.some.inj h1).symm⟩
    · rw [List.getElem?_eq_none (by rw [List.length_range]; exact hk)] at h1
      cases h1
  refine ⟨fun i j p q hi hj hpq => ?_, fun k q hq => ⟨k, (key k q hq).1, (key k q hq).2⟩⟩
  obtain ⟨h1, h2⟩ := key i p hi
  obtain ⟨h3, h4⟩ := key j q hj
  exact h i j h1 h3 (by rw [← h2, ← h4]; exact hpq)
theorem xD {a : Nat → Nat} {kk : Nat → ClassId} {g : Nat → Nat → Int} (h : aDs 17 a) : va_D (aA 17 a) (xW a kk g) := aD_of rfl h
theorem mD {a : Nat → Nat} {kk : Nat → ClassId} {g : Nat → Nat → Int} (h : aDs 8 a) : va_D (aA 8 a) (mW a kk g) := aD_of rfl h
theorem rD {a : Nat → Nat} {kk : Nat → ClassId} {g : Nat → Nat → Int} (h : aDs 5 a) : va_D (aA 5 a) (rW a kk g) := aD_of rfl h
/-- the words of the class's private members that another of its classes calls -/
def xN (U : State) : Prop := va_Nw (.methodLinkNest RX0 18 yX3_isTest RX3) U ∧ va_Nw (.methodLinkNest RX1 19 yX3_isWithin RX3) U ∧ va_Nw (.methodLinkNest RX1 27 yX3_isCell RX3) U ∧ va_Nw (.methodLinkNest RX2 24 yX3_isTest RX3) U ∧ va_Nw (.methodLinkNest RX3 18 yX2_init RX3) U ∧ va_Nw (.methodLinkNest RX3 28 yX0_init RX3) U
theorem xN_bl : Bl xN := fun U g mk a h => ⟨va_Nw.same rfl rfl h.1, va_Nw.same rfl rfl h.2.1, va_Nw.same rfl rfl h.2.2.1, va_Nw.same rfl rfl h.2.2.2.1, va_Nw.same rfl rfl h.2.2.2.2.1, va_Nw.same rfl rfl h.2.2.2.2.2⟩
theorem xN_warm {s U : State} (hW : s.WarmedH U.vm) (h : xN s) : xN U := ⟨va_Nw.warmM hW h.1, va_Nw.warmM hW h.2.1, va_Nw.warmM hW h.2.2.1, va_Nw.warmM hW h.2.2.2.1, va_Nw.warmM hW h.2.2.2.2.1, va_Nw.warmM hW h.2.2.2.2.2⟩
def tB (_ : State) : Prop := True
theorem tB_bl : Bl tB := fun _ _ _ _ h => h
theorem tB_in {s : State} {H : Heap} : ∀ U : State, U.heap = H → s.WarmedH U.vm → tB U := fun _ _ _ => trivial
theorem nB_in {s : State} {H : Heap} (h : xN s) : ∀ U : State, U.heap = H → s.WarmedH U.vm → xN U := fun _ _ hW => xN_warm hW h
/-- what a method finds: its world ws, the classes, the words between nest mates -/
def wB (D : va_G) (kk : Nat → ClassId) (ws : va_W) (U : State) : Prop := va_P D vwCl ws U.heap ∧ va_K D vwCl (TY kk) U ∧ xN U
theorem wB_bl {D : va_G} {kk : Nat → ClassId} {ws : va_W} : Bl (wB D kk ws) := fun U g mk a h => ⟨h.1, va_K.moved (u := U) (U := U.calling g mk a) (Vm.Alike.refl U.vm) h.2.1, xN_bl U g mk a h.2.2⟩
theorem wB_in {D : va_G} {kk : Nat → ClassId} {ws : va_W} {s : State} {H : Heap} (hP : va_P D vwCl ws H) (hK : va_K D vwCl (TY kk) s) (hN : xN s) : ∀ U : State, U.heap = H → s.WarmedH U.vm → wB D kk ws U := fun U hU hW => ⟨by rw [hU]; exact hP, va_K.moved hW.alike hK, xN_warm hW hN⟩
theorem x_parts {D : va_G} {a : Nat → Nat} {kk : Nat → ClassId} {g : Nat → Nat → Int} {H : Heap} (h : va_P D vwCl (xW a kk g) H) : va_P D vwCl (rW (fun i => a (4 + i)) kk (fun i => g (4 + i))) H := h.sub [4, 5, 6, 7, 8] rfl
theorem x_masks {D : va_G} {a : Nat → Nat} {kk : Nat → ClassId} {g : Nat → Nat → Int} {H : Heap} (h : va_P D vwCl (xW a kk g) H) : va_P D vwCl (rW (fun i => a (9 + i)) kk (fun i => g (9 + i))) H := h.sub [9, 10, 11, 12, 13] rfl
/-! writing a cell of an array -/
theorem xS {D : va_G} {a : Nat → Nat} {kk : Nat → ClassId} {g : Nat → Nat → Int} {H : Heap} {f : Nat → Int} :
    (va_P D vwCl ((xW a kk g).set 2 (a 2, .inl (kk 0, 2880, .inl (fun j => iI (f j))))) H → va_P D vwCl (xW a kk (updG g 2 f)) H) ∧
    (va_P D vwCl ((xW a kk g).set 3 (a 3, .inl (kk 1, 45, .inl (fun j => iI (f j))))) H → va_P D vwCl (xW a kk (updG g 3 f)) H) ∧
    (va_P D vwCl ((xW a kk g).set 15 (a 15, .inl (kk 0, 5, .inl (fun j => iI (f j))))) H → va_P D vwCl (xW a kk (updG g 15 f)) H) ∧
    (va_P D vwCl ((xW a kk g).set 16 (a 16, .inl (kk 0, 5, .inl (fun j => iI (f j))))) H → va_P D vwCl (xW a kk (updG g 16 f)) H) := ⟨fun h => h, fun h => h, fun h => h, fun h => h⟩
theorem rS {D : va_G} {a : Nat → Nat} {kk : Nat → ClassId} {g : Nat → Nat → Int} {H : Heap} {f : Nat → Int} :
    (va_P D vwCl ((rW a kk g).set 1 (a 1, .inl (kk 0, 5, .inl (fun j => iI (f j))))) H → va_P D vwCl (rW a kk (updG g 1 f)) H) ∧
    (va_P D vwCl ((rW a kk g).set 2 (a 2, .inl (kk 0, 5, .inl (fun j => iI (f j))))) H → va_P D vwCl (rW a kk (updG g 2 f)) H) ∧
    (va_P D vwCl ((rW a kk g).set 3 (a 3, .inl (kk 0, 5, .inl (fun j => iI (f j))))) H → va_P D vwCl (rW a kk (updG g 3 f)) H) ∧
    (va_P D vwCl ((rW a kk g).set 4 (a 4, .inl (kk 0, 5, .inl (fun j => iI (f j))))) H → va_P D vwCl (rW a kk (updG g 4 f)) H) := ⟨fun h => h, fun h => h, fun h => h, fun h => h⟩
theorem mS {D : va_G} {a : Nat → Nat} {kk : Nat → ClassId} {g : Nat → Nat → Int} {H : Heap} {f : Nat → Int} :
    (va_P D vwCl ((mW a kk g).set 1 (a 1, .inl (kk 0, 320, .inl (fun j => iI (f j))))) H → va_P D vwCl (mW a kk (updG g 1 f)) H) ∧
    (va_P D vwCl ((mW a kk g).set 2 (a 2, .inl (kk 0, 2240, .inl (fun j => iI (f j))))) H → va_P D vwCl (mW a kk (updG g 2 f)) H) ∧
    (va_P D vwCl ((mW a kk g).set 3 (a 3, .inl (kk 1, 35, .inl (fun j => iI (f j))))) H → va_P D vwCl (mW a kk (updG g 3 f)) H) ∧
    (va_P D vwCl ((mW a kk g).set 4 (a 4, .inl (kk 0, 20, .inl (fun j => iI (f j))))) H → va_P D vwCl (mW a kk (updG g 4 f)) H) ∧
    (va_P D vwCl ((mW a kk g).set 5 (a 5, .inl (kk 0, 20, .inl (fun j => iI (f j))))) H → va_P D vwCl (mW a kk (updG g 5 f)) H) ∧
    (va_P D vwCl ((mW a kk g).set 6 (a 6, .inl (kk 0, 50, .inl (fun j => iI (f j))))) H → va_P D vwCl (mW a kk (updG g 6 f)) H) ∧
    (va_P D vwCl ((mW a kk g).set 7 (a 7, .inl (kk 0, 5, .inl (fun j => iI (f j))))) H → va_P D vwCl (mW a kk (updG g 7 f)) H) := ⟨fun h => h, fun h => h, fun h => h, fun h => h, fun h => h, fun h => h, fun h => h⟩
theorem mF0 {D : va_G} {a : Nat → Nat} {kk : Nat → ClassId} {g : Nat → Nat → Int} {H : Heap} {v : Int} (h : va_P D vwCl ((mW a kk g).set 0 (a 0, .inr (4, [.int (iI v), .ref (a 1), .ref (a 2), .ref (a 3), .ref (a 4), .ref (a 5), .ref (a 6), .ref (a 7), .int (iI (g 0 8)), .int (iI (g 0 9))]))) H) : va_P D vwCl (mW a kk (updG g 0 (updI (g 0) 0 v))) H := h
theorem mF8 {D : va_G} {a : Nat → Nat} {kk : Nat → ClassId} {g : Nat → Nat → Int} {H : Heap} {v : Int} (h : va_P D vwCl ((mW a kk g).set 0 (a 0, .inr (4, [.int (iI (g 0 0)), .ref (a 1), .ref (a 2), .ref (a 3), .ref (a 4), .ref (a 5), .ref (a 6), .ref (a 7), .int (iI v), .int (iI (g 0 9))]))) H) : va_P D vwCl (mW a kk (updG g 0 (updI (g 0) 8 v))) H := h
theorem mF9 {D : va_G} {a : Nat → Nat} {kk : Nat → ClassId} {g : Nat → Nat → Int} {H : Heap} {v : Int} (h : va_P D vwCl ((mW a kk g).set 0 (a 0, .inr (4, [.int (iI (g 0 0)), .ref (a 1), .ref (a 2), .ref (a 3), .ref (a 4), .ref (a 5), .ref (a 6), .ref (a 7), .int (iI (g 0 8)), .int (iI v)]))) H) : va_P D vwCl (mW a kk (updG g 0 (updI (g 0) 9 v))) H := h
end
section
/-! ===== the words of the document ===== -/
section RIM
variable {p : Program} {l : Launch} {e : Env} {R : Room} {s : State} {m : MethodId} {args : Array Value} {below : List Frame} {meth : Method} {c : Code} {H : Heap} {locs : List Loc} {cells slots : Nat} {Q : State → Prop}
variable {pc : Nat} {ls : Array Slot} {rest : List Value}
theorem ri_min {x y : Int} (hr : -2147483648 ≤ x ∧ x < 2147483648 ∧ -2147483648 ≤ y ∧ y < 2147483648) (k : ∀ q : Int, (q ≤ x ∧ q ≤ y ∧ (q = x ∨ q = y)) → W p l e R s m args below meth c H locs cells slots Q (F0 m pc ls (.int (iI q) :: rest))) : W p l e R s m args below meth c H locs cells slots Q (F0 m pc ls (.int (if iI y < iI x then iI y else iI x) :: rest)) := by
  have h := iI_lt hr.2.2 ⟨hr.1, hr.2.1⟩
  by_cases hc : iI y < iI x
  · rw [if_pos hc]
    exact k y (by have := h.mp hc; omega)
  · rw [if_neg hc]
    exact k x (by have : ¬ y < x := fun q => hc (h.mpr q); omega)
theorem ri_max {x y : Int} (hr : -2147483648 ≤ x ∧ x < 2147483648 ∧ -2147483648 ≤ y ∧ y < 2147483648) (k : ∀ q : Int, (x ≤ q ∧ y ≤ q ∧ (q = x ∨ q = y)) → W p l e R s m args below meth c H locs cells slots Q (F0 m pc ls (.int (iI q) :: rest))) : W p l e R s m args below meth c H locs cells slots Q (F0 m pc ls (.int (if iI x < iI y then iI y else iI x) :: rest)) := by
  have h := iI_lt ⟨hr.1, hr.2.1⟩ hr.2.2
  by_cases hc : iI x < iI y
  · rw [if_pos hc]
    exact k y (by have := h.mp hc; omega)
  · rw [if_neg hc]
    exact k x (by have : ¬ x < y := fun q => hc (h.mpr q); omega)
theorem ri_abs {x : Int} (hr : -2147483648 < x ∧ x < 2147483648) (k : ∀ q : Int, (0 ≤ q ∧ (q = x ∨ q = -x)) → W p l e R s m args below meth c H locs cells slots Q (F0 m pc ls (.int (iI q) :: rest))) : W p l e R s m args below meth c H locs cells slots Q (F0 m pc ls (.int (if 0 ≤ iI x then iI x else 0 - iI x) :: rest)) := by
  have h : (0 : Int32) ≤ iI x ↔ 0 ≤ x := iI_le (a := 0) (by omega) (by omega)
  by_cases hc : (0 : Int32) ≤ iI x
  · rw [if_pos hc]
    exact k x (by have := h.mp hc; omega)
  · rw [if_neg hc]
    have h1 : ¬ 0 ≤ x := fun q => hc (h.mpr q)
    have h2 : (0 : Int32) - iI x = iI (-x) := by
      have h3 : iI 0 - iI x = iI (0 - x) := iI_sub 0 x
      rw [show (0 : Int) - x = -x by omega] at h3
      exact h3
    rw [h2]
    exact k (-x) (by omega)
end RIM
theorem bp_iff {P P2 : Prop} : bp P = bp P2 ↔ (P ↔ P2) := ⟨fun h => ⟨fun q => bp_1.mp (by rw [← h]; exact bp_t q), fun q => bp_1.mp (by rw [h]; exact bp_t q)⟩, bp_c⟩
/-- what holds of the class's cells at all times -/
def XInv (g : Nat → Nat → Int) : Prop :=
  (∀ j, j < 2880 → 0 ≤ g 2 j ∧ g 2 j ≤ 255) ∧ (∀ j, j < 45 → g 3 j = 0 ∨ g 3 j = 1) ∧ (∀ j, j < 5 → g 3 j = 1) ∧
  (∀ j, j < 5 → 0 ≤ g 5 j ∧ g 5 j ≤ g 7 j ∧ g 7 j ≤ 8 ∧ 0 ≤ g 6 j ∧ g 6 j ≤ g 8 j ∧ g 8 j ≤ 8) ∧
  (∀ j, j < 5 → -8 ≤ g 10 j ∧ g 10 j ≤ 8 ∧ -8 ≤ g 11 j ∧ g 11 j ≤ 8 ∧ -8 ≤ g 12 j ∧ g 12 j ≤ 16 ∧ -8 ≤ g 13 j ∧ g 13 j ≤ 16) ∧
  (∀ j, j < 5 → 0 ≤ g 16 j ∧ g 16 j ≤ 10)
def RInv (g : Nat → Nat → Int) : Prop := ∀ j, j < 5 → (-100 ≤ g 1 j ∧ g 1 j ≤ 100) ∧ (-100 ≤ g 2 j ∧ g 2 j ≤ 100) ∧ (-100 ≤ g 3 j ∧ g 3 j ≤ 100) ∧ (-100 ≤ g 4 j ∧ g 4 j ≤ 100)
theorem xr_parts {g : Nat → Nat → Int} (h : XInv g) : RInv (fun i => g (4 + i)) := fun j hj => by
  have := h.2.2.2.1 j hj
  show (-100 ≤ g 5 j ∧ g 5 j ≤ 100) ∧ (-100 ≤ g 6 j ∧ g 6 j ≤ 100) ∧ (-100 ≤ g 7 j ∧ g 7 j ≤ 100) ∧ (-100 ≤ g 8 j ∧ g 8 j ≤ 100)
  omega
theorem xr_masks {g : Nat → Nat → Int} (h : XInv g) : RInv (fun i => g (9 + i)) := fun j hj => by
  have := h.2.2.2.2.1 j hj
  show (-100 ≤ g 10 j ∧ g 10 j ≤ 100) ∧ (-100 ≤ g 11 j ∧ g 11 j ≤ 100) ∧ (-100 ≤ g 12 j ∧ g 12 j ≤ 100) ∧ (-100 ≤ g 13 j ∧ g 13 j ≤ 100)
  omega
/-- two slots hold the same: both nothing, or the same cells -/
def sameP (f h : Nat → Int) (one other : Int) : Prop := (h one.toNat = 1 ↔ h other.toNat = 1) ∧ (h one.toNat = 1 → ∀ k : Int, 0 ≤ k → k < 64 → f (one * 64 + k).toNat = f (other * 64 + k).toNat)
end
section
theorem f_X3_isWithin : MF yX3_isWithin wsX3_isWithin cX3_isWithin 3 (some .boolean) 3 := ⟨⟨_, rfl⟩, by decide +kernel, by decide +kernel, by decide +kernel⟩
set_option maxHeartbeats 4000000 in
set_option maxRecDepth 100000 in
theorem k_X3_isWithin (l : Launch) (v : Int) (lo : Int) (hi : Int) (hv : -2147483648 ≤ v ∧ v < 2147483648) (hlo : -2147483648 ≤ lo ∧ lo < 2147483648) (hhi : -2147483648 ≤ hi ∧ hi < 2147483648) : RD l yX3_isWithin wsX3_isWithin ({ frames := 0, cells := 0, slots := 0, locals := 0 }) [.int (iI v), .int (iI lo), .int (iI hi)] tB (bp (lo ≤ v ∧ v ≤ hi)) := by
  refine ri_ent (cc := cX3_isWithin) (maxL := 3) (ret := some .boolean) (by decide) rfl (Nat.le_of_ble_eq_true rfl) ?_
  intro zp ze s zm zb zt zc hx hb hr hts hown hlocks hml hin hB ls hl
  have hown : s.vm.findClass RX3 = some zm.cls := hown
  have CF : CallFix zp zm zc cX3_isWithin 3 s ([.int (iI v), .int (iI lo), .int (iI hi)] : List Value).toArray wsX3_isWithin RX3 := ⟨hx, hb, hml, hown, hts⟩
  have hl : lv_has ls 3 [(0, .int (iI v)), (1, .int (iI lo)), (2, .int (iI hi))] := hl
  refine lv_iload_n hx hb dX3_isWithin_0 rfl (lv_at hl 0 rfl) ?_
  refine lv_iload_n hx hb dX3_isWithin_1 rfl (lv_at hl 1 rfl) ?_
  refine ri_icmp_lt (tgt := 14) hx hb (by omega) dX3_isWithin_2 (by decide) (fun c_1 => ?_) (fun c_1 => ?_)
  · skip
    refine ri_iconst hx hb dX3_isWithin_14 ?_
    exact ri_zret hx hb hr hlocks (bp_01 _) dX3_isWithin_15 ((bp_f (by omega)).symm)
  · skip
    refine lv_iload_n hx hb dX3_isWithin_5 rfl (lv_at hl 0 rfl) ?_
    refine lv_iload_n hx hb dX3_isWithin_6 rfl (lv_at hl 2 rfl) ?_
    refine ri_icmp_gt (tgt := 14) hx hb (by omega) dX3_isWithin_7 (by decide) (fun c_2 => ?_) (fun c_2 => ?_)
    · skip
      refine ri_iconst hx hb dX3_isWithin_14 ?_
      exact ri_zret hx hb hr hlocks (bp_01 _) dX3_isWithin_15 ((bp_f (by omega)).symm)
    · skip
      refine ri_iconst hx hb dX3_isWithin_10 ?_
      refine lv_goto (tgt := 15) hx hb dX3_isWithin_11 (by decide) ?_
      exact ri_zret hx hb hr hlocks (bp_01 _) dX3_isWithin_15 ((bp_t (by omega)).symm)

theorem f_X3_isTest : MF yX3_isTest wsX3_isTest cX3_isTest 1 (some .boolean) 1 := ⟨⟨_, rfl⟩, by decide +kernel, by decide +kernel, by decide +kernel⟩
set_option maxHeartbeats 4000000 in
set_option maxRecDepth 100000 in
theorem k_X3_isTest (l : Launch) (v : Int) (hv : -2147483648 ≤ v ∧ v < 2147483648) : RD l yX3_isTest wsX3_isTest ({ frames := 1, cells := 0, slots := 0, locals := 22 }) [.int (iI v)] tB (bp (0 ≤ v ∧ v ≤ 4)) := by
  refine ri_ent (cc := cX3_isTest) (maxL := 1) (ret := some .boolean) (by decide) rfl (Nat.le_of_ble_eq_true rfl) ?_
  intro zp ze s zm zb zt zc hx hb hr hts hown hlocks hml hin hB ls hl
  have hown : s.vm.findClass RX3 = some zm.cls := hown
  have CF : CallFix zp zm zc cX3_isTest 1 s ([.int (iI v)] : List Value).toArray wsX3_isTest RX3 := ⟨hx, hb, hml, hown, hts⟩
  have hl : lv_has ls 1 [(0, .int (iI v))] := hl
  refine lv_iload_n hx hb dX3_isTest_0 rfl (lv_at hl 0 rfl) ?_
  refine ri_iconst hx hb dX3_isTest_1 ?_
  refine ri_iconst hx hb dX3_isTest_2 ?_
  refine ri_rd (ri_runS (As := [.int (iI v), .int (iI 0), .int (iI 4)]) (rest := []) CF (k_X3_isWithin l v 0 4 (by omega) (by omega) (by omega)) gX3_isTest_X3_isWithin f_X3_isWithin ⟨rfl, rfl, Nat.le_of_ble_eq_true rfl, Nat.le_of_ble_eq_true rfl, Nat.le_of_ble_eq_true rfl, Nat.le_of_ble_eq_true rfl⟩ tB_bl tB_in rfl hl.1 rfl (Nat.le_of_ble_eq_true rfl) dX3_isTest_3) ?_
  exact ri_zret hx hb hr hlocks (bp_01 _) dX3_isTest_6 (rfl)

theorem f_X3_isBranch : MF yX3_isBranch wsX3_isBranch cX3_isBranch 1 (some .boolean) 1 := ⟨⟨_, rfl⟩, by decide +kernel, by decide +kernel, by decide +kernel⟩
set_option maxHeartbeats 4000000 in
set_option maxRecDepth 100000 in
theorem k_X3_isBranch (l : Launch) (v : Int) (hv : -2147483648 ≤ v ∧ v < 2147483648) : RD l yX3_isBranch wsX3_isBranch ({ frames := 1, cells := 0, slots := 0, locals := 22 }) [.int (iI v)] tB (bp (0 ≤ v ∧ v ≤ 3)) := by
  refine ri_ent (cc := cX3_isBranch) (maxL := 1) (ret := some .boolean) (by decide) rfl (Nat.le_of_ble_eq_true rfl) ?_
  intro zp ze s zm zb zt zc hx hb hr hts hown hlocks hml hin hB ls hl
  have hown : s.vm.findClass RX3 = some zm.cls := hown
  have CF : CallFix zp zm zc cX3_isBranch 1 s ([.int (iI v)] : List Value).toArray wsX3_isBranch RX3 := ⟨hx, hb, hml, hown, hts⟩
  have hl : lv_has ls 1 [(0, .int (iI v))] := hl
  refine lv_iload_n hx hb dX3_isBranch_0 rfl (lv_at hl 0 rfl) ?_
  refine ri_iconst hx hb dX3_isBranch_1 ?_
  refine ri_iconst hx hb dX3_isBranch_2 ?_
  refine ri_rd (ri_runS (As := [.int (iI v), .int (iI 0), .int (iI 3)]) (rest := []) CF (k_X3_isWithin l v 0 3 (by omega) (by omega) (by omega)) gX3_isBranch_X3_isWithin f_X3_isWithin ⟨rfl, rfl, Nat.le_of_ble_eq_true rfl, Nat.le_of_ble_eq_true rfl, Nat.le_of_ble_eq_true rfl, Nat.le_of_ble_eq_true rfl⟩ tB_bl tB_in rfl hl.1 rfl (Nat.le_of_ble_eq_true rfl) dX3_isBranch_3) ?_
  exact ri_zret hx hb hr hlocks (bp_01 _) dX3_isBranch_6 (rfl)

theorem f_X3_isSideBranch : MF yX3_isSideBranch wsX3_isSideBranch cX3_isSideBranch 1 (some .boolean) 1 := ⟨⟨_, rfl⟩, by decide +kernel, by decide +kernel, by decide +kernel⟩
set_option maxHeartbeats 4000000 in
set_option maxRecDepth 100000 in
theorem k_X3_isSideBranch (l : Launch) (v : Int) (hv : -2147483648 ≤ v ∧ v < 2147483648) : RD l yX3_isSideBranch wsX3_isSideBranch ({ frames := 1, cells := 0, slots := 0, locals := 22 }) [.int (iI v)] tB (bp (1 ≤ v ∧ v ≤ 3)) := by
  refine ri_ent (cc := cX3_isSideBranch) (maxL := 1) (ret := some .boolean) (by decide) rfl (Nat.le_of_ble_eq_true rfl) ?_
  intro zp ze s zm zb zt zc hx hb hr hts hown hlocks hml hin hB ls hl
  have hown : s.vm.findClass RX3 = some zm.cls := hown
  have CF : CallFix zp zm zc cX3_isSideBranch 1 s ([.int (iI v)] : List Value).toArray wsX3_isSideBranch RX3 := ⟨hx, hb, hml, hown, hts⟩
  have hl : lv_has ls 1 [(0, .int (iI v))] := hl
  refine lv_iload_n hx hb dX3_isSideBranch_0 rfl (lv_at hl 0 rfl) ?_
  refine ri_iconst hx hb dX3_isSideBranch_1 ?_
  refine ri_iconst hx hb dX3_isSideBranch_2 ?_
  refine ri_rd (ri_runS (As := [.int (iI v), .int (iI 1), .int (iI 3)]) (rest := []) CF (k_X3_isWithin l v 1 3 (by omega) (by omega) (by omega)) gX3_isSideBranch_X3_isWithin f_X3_isWithin ⟨rfl, rfl, Nat.le_of_ble_eq_true rfl, Nat.le_of_ble_eq_true rfl, Nat.le_of_ble_eq_true rfl, Nat.le_of_ble_eq_true rfl⟩ tB_bl tB_in rfl hl.1 rfl (Nat.le_of_ble_eq_true rfl) dX3_isSideBranch_3) ?_
  exact ri_zret hx hb hr hlocks (bp_01 _) dX3_isSideBranch_6 (rfl)

theorem f_X3_isShade : MF yX3_isShade wsX3_isShade cX3_isShade 1 (some .boolean) 1 := ⟨⟨_, rfl⟩, by decide +kernel, by decide +kernel, by decide +kernel⟩
set_option maxHeartbeats 4000000 in
set_option maxRecDepth 100000 in
theorem k_X3_isShade (l : Launch) (v : Int) (hv : -2147483648 ≤ v ∧ v < 2147483648) : RD l yX3_isShade wsX3_isShade ({ frames := 1, cells := 0, slots := 0, locals := 22 }) [.int (iI v)] tB (bp (0 ≤ v ∧ v ≤ 255)) := by
  refine ri_ent (cc := cX3_isShade) (maxL := 1) (ret := some .boolean) (by decide) rfl (Nat.le_of_ble_eq_true rfl) ?_
  intro zp ze s zm zb zt zc hx hb hr hts hown hlocks hml hin hB ls hl
  have hown : s.vm.findClass RX3 = some zm.cls := hown
  have CF : CallFix zp zm zc cX3_isShade 1 s ([.int (iI v)] : List Value).toArray wsX3_isShade RX3 := ⟨hx, hb, hml, hown, hts⟩
  have hl : lv_has ls 1 [(0, .int (iI v))] := hl
  refine lv_iload_n hx hb dX3_isShade_0 rfl (lv_at hl 0 rfl) ?_
  refine ri_iconst hx hb dX3_isShade_1 ?_
  refine ri_sipush hx hb dX3_isShade_2 (by decide) ?_
  refine ri_rd (ri_runS (As := [.int (iI v), .int (iI 0), .int (iI 255)]) (rest := []) CF (k_X3_isWithin l v 0 255 (by omega) (by omega) (by omega)) gX3_isShade_X3_isWithin f_X3_isWithin ⟨rfl, rfl, Nat.le_of_ble_eq_true rfl, Nat.le_of_ble_eq_true rfl, Nat.le_of_ble_eq_true rfl, Nat.le_of_ble_eq_true rfl⟩ tB_bl tB_in rfl hl.1 rfl (Nat.le_of_ble_eq_true rfl) dX3_isShade_5) ?_
  exact ri_zret hx hb hr hlocks (bp_01 _) dX3_isShade_8 (rfl)

theorem f_X3_isCell : MF yX3_isCell wsX3_isCell cX3_isCell 2 (some .boolean) 2 := ⟨⟨_, rfl⟩, by decide +kernel, by decide +kernel, by decide +kernel⟩
set_option maxHeartbeats 4000000 in
set_option maxRecDepth 100000 in
theorem k_X3_isCell (l : Launch) (c : Int) (r : Int) (hc : -2147483648 ≤ c ∧ c < 2147483648) (hr : -2147483648 ≤ r ∧ r < 2147483648) : RD l yX3_isCell wsX3_isCell ({ frames := 1, cells := 0, slots := 0, locals := 22 }) [.int (iI c), .int (iI r)] tB (bp ((0 ≤ c ∧ c ≤ 7) ∧ (0 ≤ r ∧ r ≤ 7))) := by
  refine ri_ent (cc := cX3_isCell) (maxL := 2) (ret := some .boolean) (by decide) rfl (Nat.le_of_ble_eq_true rfl) ?_
  intro zp ze s zm zb zt zc hx hb hr hts hown hlocks hml hin hB ls hl
  have hown : s.vm.findClass RX3 = some zm.cls := hown
  have CF : CallFix zp zm zc cX3_isCell 2 s ([.int (iI c), .int (iI r)] : List Value).toArray wsX3_isCell RX3 := ⟨hx, hb, hml, hown, hts⟩
  have hl : lv_has ls 2 [(0, .int (iI c)), (1, .int (iI r))] := hl
  refine lv_iload_n hx hb dX3_isCell_0 rfl (lv_at hl 0 rfl) ?_
  refine ri_iconst hx hb dX3_isCell_1 ?_
  refine ri_bipush hx hb dX3_isCell_2 (by decide) ?_
  refine ri_rd (ri_runS (As := [.int (iI c), .int (iI 0), .int (iI 7)]) (rest := []) CF (k_X3_isWithin l c 0 7 (by omega) (by omega) (by omega)) gX3_isCell_X3_isWithin f_X3_isWithin ⟨rfl, rfl, Nat.le_of_ble_eq_true rfl, Nat.le_of_ble_eq_true rfl, Nat.le_of_ble_eq_true rfl, Nat.le_of_ble_eq_true rfl⟩ tB_bl tB_in rfl hl.1 rfl (Nat.le_of_ble_eq_true rfl) dX3_isCell_4) ?_
  refine ri_ifeq_b (tgt := 24) hx hb dX3_isCell_7 (by decide) (fun c_1 => ?_) (fun c_1 => ?_)
  · skip
    refine ri_iconst hx hb dX3_isCell_24 ?_
    exact ri_zret hx hb hr hlocks (bp_01 _) dX3_isCell_25 ((bp_f (by omega)).symm)
  · skip
    refine lv_iload_n hx hb dX3_isCell_10 rfl (lv_at hl 1 rfl) ?_
    refine ri_iconst hx hb dX3_isCell_11 ?_
    refine ri_bipush hx hb dX3_isCell_12 (by decide) ?_
    refine ri_rd (ri_runS (As := [.int (iI r), .int (iI 0), .int (iI 7)]) (rest := []) CF (k_X3_isWithin l r 0 7 (by omega) (by omega) (by omega)) gX3_isCell_X3_isWithin f_X3_isWithin ⟨rfl, rfl, Nat.le_of_ble_eq_true rfl, Nat.le_of_ble_eq_true rfl, Nat.le_of_ble_eq_true rfl, Nat.le_of_ble_eq_true rfl⟩ tB_bl tB_in rfl hl.1 rfl (Nat.le_of_ble_eq_true rfl) dX3_isCell_14) ?_
    refine ri_ifeq_b (tgt := 24) hx hb dX3_isCell_17 (by decide) (fun c_2 => ?_) (fun c_2 => ?_)
    · skip
      refine ri_iconst hx hb dX3_isCell_24 ?_
      exact ri_zret hx hb hr hlocks (bp_01 _) dX3_isCell_25 ((bp_f (by omega)).symm)
    · skip
      refine ri_iconst hx hb dX3_isCell_20 ?_
      refine lv_goto (tgt := 25) hx hb dX3_isCell_21 (by decide) ?_
      exact ri_zret hx hb hr hlocks (bp_01 _) dX3_isCell_25 ((bp_t (by omega)).symm)

theorem f_X3_isRectangle : MF yX3_isRectangle wsX3_isRectangle cX3_isRectangle 4 (some .boolean) 4 := ⟨⟨_, rfl⟩, by decide +kernel, by decide +kernel, by decide +kernel⟩
set_option maxHeartbeats 4000000 in
set_option maxRecDepth 100000 in
theorem k_X3_isRectangle (l : Launch) (c : Int) (r : Int) (w : Int) (h : Int) (hc : -2147483648 ≤ c ∧ c < 2147483648) (hr : -2147483648 ≤ r ∧ r < 2147483648) (hw : -2147483648 ≤ w ∧ w < 2147483648) (hh : -2147483648 ≤ h ∧ h < 2147483648) : RD l yX3_isRectangle wsX3_isRectangle ({ frames := 2, cells := 0, slots := 0, locals := 43 }) [.int (iI c), .int (iI r), .int (iI w), .int (iI h)] tB (bp (((0 ≤ c ∧ c ≤ 7) ∧ (0 ≤ r ∧ r ≤ 7)) ∧ (1 ≤ w ∧ w ≤ 8 - c) ∧ (1 ≤ h ∧ h ≤ 8 - r))) := by
  refine ri_ent (cc := cX3_isRectangle) (maxL := 4) (ret := some .boolean) (by decide) rfl (Nat.le_of_ble_eq_true rfl) ?_
  intro zp ze s zm zb zt zc hx hb hr hts hown hlocks hml hin hB ls hl
  have hown : s.vm.findClass RX3 = some zm.cls := hown
  have CF : CallFix zp zm zc cX3_isRectangle 4 s ([.int (iI c), .int (iI r), .int (iI w), .int (iI h)] : List Value).toArray wsX3_isRectangle RX3 := ⟨hx, hb, hml, hown, hts⟩
  have hl : lv_has ls 4 [(0, .int (iI c)), (1, .int (iI r)), (2, .int (iI w)), (3, .int (iI h))] := hl
  refine lv_iload_n hx hb dX3_isRectangle_0 rfl (lv_at hl 0 rfl) ?_
  refine lv_iload_n hx hb dX3_isRectangle_1 rfl (lv_at hl 1 rfl) ?_
  refine ri_rd (ri_runS (As := [.int (iI c), .int (iI r)]) (rest := []) CF (k_X3_isCell l c r (by omega) (by omega)) gX3_isRectangle_X3_isCell f_X3_isCell ⟨rfl, rfl, Nat.le_of_ble_eq_true rfl, Nat.le_of_ble_eq_true rfl, Nat.le_of_ble_eq_true rfl, Nat.le_of_ble_eq_true rfl⟩ tB_bl tB_in rfl hl.1 rfl (Nat.le_of_ble_eq_true rfl) dX3_isRectangle_2) ?_
  refine ri_ifeq_b (tgt := 36) hx hb dX3_isRectangle_5 (by decide) (fun c_1 => ?_) (fun c_1 => ?_)
  · skip
    refine ri_iconst hx hb dX3_isRectangle_36 ?_
    exact ri_zret hx hb hr hlocks (bp_01 _) dX3_isRectangle_37 ((bp_f (by omega)).symm)
  · skip
    refine lv_iload_n hx hb dX3_isRectangle_8 rfl (lv_at hl 2 rfl) ?_
    refine ri_iconst hx hb dX3_isRectangle_9 ?_
    refine ri_bipush hx hb dX3_isRectangle_10 (by decide) ?_
    refine lv_iload_n hx hb dX3_isRectangle_12 rfl (lv_at hl 0 rfl) ?_
    refine ri_isub hx hb dX3_isRectangle_13 ?_
    refine ri_rd (ri_runS (As := [.int (iI w), .int (iI 1), .int (iI (8 - c))]) (rest := []) CF (k_X3_isWithin l w 1 (8 - c) (by omega) (by omega) (by omega)) gX3_isRectangle_X3_isWithin f_X3_isWithin ⟨rfl, rfl, Nat.le_of_ble_eq_true rfl, Nat.le_of_ble_eq_true rfl, Nat.le_of_ble_eq_true rfl, Nat.le_of_ble_eq_true rfl⟩ tB_bl tB_in rfl hl.1 rfl (Nat.le_of_ble_eq_true rfl) dX3_isRectangle_14) ?_
    refine ri_ifeq_b (tgt := 36) hx hb dX3_isRectangle_17 (by decide) (fun c_2 => ?_) (fun c_2 => ?_)
    · skip
      refine ri_iconst hx hb dX3_isRectangle_36 ?_
      exact ri_zret hx hb hr hlocks (bp_01 _) dX3_isRectangle_37 ((bp_f (by omega)).symm)
    · skip
      refine lv_iload_n hx hb dX3_isRectangle_20 rfl (lv_at hl 3 rfl) ?_
      refine ri_iconst hx hb dX3_isRectangle_21 ?_
      refine ri_bipush hx hb dX3_isRectangle_22 (by decide) ?_
      refine lv_iload_n hx hb dX3_isRectangle_24 rfl (lv_at hl 1 rfl) ?_
      refine ri_isub hx hb dX3_isRectangle_25 ?_
      refine ri_rd (ri_runS (As := [.int (iI h), .int (iI 1), .int (iI (8 - r))]) (rest := []) CF (k_X3_isWithin l h 1 (8 - r) (by omega) (by omega) (by omega)) gX3_isRectangle_X3_isWithin f_X3_isWithin ⟨rfl, rfl, Nat.le_of_ble_eq_true rfl, Nat.le_of_ble_eq_true rfl, Nat.le_of_ble_eq_true rfl, Nat.le_of_ble_eq_true rfl⟩ tB_bl tB_in rfl hl.1 rfl (Nat.le_of_ble_eq_true rfl) dX3_isRectangle_26) ?_
      refine ri_ifeq_b (tgt := 36) hx hb dX3_isRectangle_29 (by decide) (fun c_3 => ?_) (fun c_3 => ?_)
      · skip
        refine ri_iconst hx hb dX3_isRectangle_36 ?_
        exact ri_zret hx hb hr hlocks (bp_01 _) dX3_isRectangle_37 ((bp_f (by omega)).symm)
      · skip
        refine ri_iconst hx hb dX3_isRectangle_32 ?_
        refine lv_goto (tgt := 37) hx hb dX3_isRectangle_33 (by decide) ?_
        exact ri_zret hx hb hr hlocks (bp_01 _) dX3_isRectangle_37 ((bp_t (by omega)).symm)

theorem f_X3_pictureSlot : MF yX3_pictureSlot wsX3_pictureSlot cX3_pictureSlot 1 (some .int) 1 := ⟨⟨_, rfl⟩, by decide +kernel, by decide +kernel, by decide +kernel⟩
set_option maxHeartbeats 4000000 in
set_option maxRecDepth 100000 in
theorem k_X3_pictureSlot (l : Launch) (t : Int) : RD l yX3_pictureSlot wsX3_pictureSlot ({ frames := 0, cells := 0, slots := 0, locals := 0 }) [.int (iI t)] tB (t) := by
  refine ri_ent (cc := cX3_pictureSlot) (maxL := 1) (ret := some .int) (by decide) rfl (Nat.le_of_ble_eq_true rfl) ?_
  intro zp ze s zm zb zt zc hx hb hr hts hown hlocks hml hin hB ls hl
  have hown : s.vm.findClass RX3 = some zm.cls := hown
  have CF : CallFix zp zm zc cX3_pictureSlot 1 s ([.int (iI t)] : List Value).toArray wsX3_pictureSlot RX3 := ⟨hx, hb, hml, hown, hts⟩
  have hl : lv_has ls 1 [(0, .int (iI t))] := hl
  refine lv_iload_n hx hb dX3_pictureSlot_0 rfl (lv_at hl 0 rfl) ?_
  exact ri_iret hx hb hr hlocks dX3_pictureSlot_1 (by first | rfl | omega | (simp; done))

theorem f_X3_approvedSlot : MF yX3_approvedSlot wsX3_approvedSlot cX3_approvedSlot 2 (some .int) 2 := ⟨⟨_, rfl⟩, by decide +kernel, by decide +kernel, by decide +kernel⟩
set_option maxHeartbeats 4000000 in
set_option maxRecDepth 100000 in
theorem k_X3_approvedSlot (l : Launch) (b : Int) (t : Int) : RD l yX3_approvedSlot wsX3_approvedSlot ({ frames := 0, cells := 0, slots := 0, locals := 0 }) [.int (iI b), .int (iI t)] tB (5 + b * 5 + t) := by
  refine ri_ent (cc := cX3_approvedSlot) (maxL := 2) (ret := some .int) (by decide) rfl (Nat.le_of_ble_eq_true rfl) ?_
  intro zp ze s zm zb zt zc hx hb hr hts hown hlocks hml hin hB ls hl
  have hown : s.vm.findClass RX3 = some zm.cls := hown
  have CF : CallFix zp zm zc cX3_approvedSlot 2 s ([.int (iI b), .int (iI t)] : List Value).toArray wsX3_approvedSlot RX3 := ⟨hx, hb, hml, hown, hts⟩
  have hl : lv_has ls 2 [(0, .int (iI b)), (1, .int (iI t))] := hl
  refine ri_iconst hx hb dX3_approvedSlot_0 ?_
  refine lv_iload_n hx hb dX3_approvedSlot_1 rfl (lv_at hl 0 rfl) ?_
  refine ri_iconst hx hb dX3_approvedSlot_2 ?_
  refine ri_imul hx hb dX3_approvedSlot_3 ?_
  refine ri_iadd hx hb dX3_approvedSlot_4 ?_
  refine lv_iload_n hx hb dX3_approvedSlot_5 rfl (lv_at hl 1 rfl) ?_
  refine ri_iadd hx hb dX3_approvedSlot_6 ?_
  exact ri_iret hx hb hr hlocks dX3_approvedSlot_7 (by first | rfl | omega | (simp; done))

theorem f_X3_baseSlot : MF yX3_baseSlot wsX3_baseSlot cX3_baseSlot 2 (some .int) 2 := ⟨⟨_, rfl⟩, by decide +kernel, by decide +kernel, by decide +kernel⟩
set_option maxHeartbeats 4000000 in
set_option maxRecDepth 100000 in
theorem k_X3_baseSlot (l : Launch) (b : Int) (t : Int) : RD l yX3_baseSlot wsX3_baseSlot ({ frames := 0, cells := 0, slots := 0, locals := 0 }) [.int (iI b), .int (iI t)] tB (25 + b * 5 + t) := by
  refine ri_ent (cc := cX3_baseSlot) (maxL := 2) (ret := some .int) (by decide) rfl (Nat.le_of_ble_eq_true rfl) ?_
  intro zp ze s zm zb zt zc hx hb hr hts hown hlocks hml hin hB ls hl
  have hown : s.vm.findClass RX3 = some zm.cls := hown
  have CF : CallFix zp zm zc cX3_baseSlot 2 s ([.int (iI b), .int (iI t)] : List Value).toArray wsX3_baseSlot RX3 := ⟨hx, hb, hml, hown, hts⟩
  have hl : lv_has ls 2 [(0, .int (iI b)), (1, .int (iI t))] := hl
  refine ri_bipush hx hb dX3_baseSlot_0 (by decide) ?_
  refine lv_iload_n hx hb dX3_baseSlot_2 rfl (lv_at hl 0 rfl) ?_
  refine ri_iconst hx hb dX3_baseSlot_3 ?_
  refine ri_imul hx hb dX3_baseSlot_4 ?_
  refine ri_iadd hx hb dX3_baseSlot_5 ?_
  refine lv_iload_n hx hb dX3_baseSlot_6 rfl (lv_at hl 1 rfl) ?_
  refine ri_iadd hx hb dX3_baseSlot_7 ?_
  exact ri_iret hx hb hr hlocks dX3_baseSlot_8 (by first | rfl | omega | (simp; done))

theorem f_X3_columnOf : MF yX3_columnOf wsX3_columnOf cX3_columnOf 1 (some .int) 1 := ⟨⟨_, rfl⟩, by decide +kernel, by decide +kernel, by decide +kernel⟩
set_option maxHeartbeats 4000000 in
set_option maxRecDepth 100000 in
theorem k_X3_columnOf (l : Launch) (z : Int) (hz : 0 ≤ z ∧ z ≤ 63) : RD l yX3_columnOf wsX3_columnOf ({ frames := 0, cells := 0, slots := 0, locals := 0 }) [.int (iI z)] tB (z % 8) := by
  refine ri_ent (cc := cX3_columnOf) (maxL := 1) (ret := some .int) (by decide) rfl (Nat.le_of_ble_eq_true rfl) ?_
  intro zp ze s zm zb zt zc hx hb hr hts hown hlocks hml hin hB ls hl
  have hown : s.vm.findClass RX3 = some zm.cls := hown
  have CF : CallFix zp zm zc cX3_columnOf 1 s ([.int (iI z)] : List Value).toArray wsX3_columnOf RX3 := ⟨hx, hb, hml, hown, hts⟩
  have hl : lv_has ls 1 [(0, .int (iI z))] := hl
  refine lv_iload_n hx hb dX3_columnOf_0 rfl (lv_at hl 0 rfl) ?_
  refine ri_bipush hx hb dX3_columnOf_1 (by decide) ?_
  refine ri_irem hx hb (by omega) dX3_columnOf_3 ?_
  exact ri_iret hx hb hr hlocks dX3_columnOf_4 (by first | rfl | omega | (simp; done))

theorem f_X3_rowOf : MF yX3_rowOf wsX3_rowOf cX3_rowOf 1 (some .int) 1 := ⟨⟨_, rfl⟩, by decide +kernel, by decide +kernel, by decide +kernel⟩
set_option maxHeartbeats 4000000 in
set_option maxRecDepth 100000 in
theorem k_X3_rowOf (l : Launch) (z : Int) (hz : 0 ≤ z ∧ z ≤ 63) : RD l yX3_rowOf wsX3_rowOf ({ frames := 0, cells := 0, slots := 0, locals := 0 }) [.int (iI z)] tB (z / 8) := by
  refine ri_ent (cc := cX3_rowOf) (maxL := 1) (ret := some .int) (by decide) rfl (Nat.le_of_ble_eq_true rfl) ?_
  intro zp ze s zm zb zt zc hx hb hr hts hown hlocks hml hin hB ls hl
  have hown : s.vm.findClass RX3 = some zm.cls := hown
  have CF : CallFix zp zm zc cX3_rowOf 1 s ([.int (iI z)] : List Value).toArray wsX3_rowOf RX3 := ⟨hx, hb, hml, hown, hts⟩
  have hl : lv_has ls 1 [(0, .int (iI z))] := hl
  refine lv_iload_n hx hb dX3_rowOf_0 rfl (lv_at hl 0 rfl) ?_
  refine ri_bipush hx hb dX3_rowOf_1 (by decide) ?_
  refine ri_idiv hx hb (by omega) dX3_rowOf_3 ?_
  exact ri_iret hx hb hr hlocks dX3_rowOf_4 (by first | rfl | omega | (simp; done))

theorem f_X3_columnsOf : MF yX3_columnsOf wsX3_columnsOf cX3_columnsOf 1 (some .int) 1 := ⟨⟨_, rfl⟩, by decide +kernel, by decide +kernel, by decide +kernel⟩
set_option maxHeartbeats 4000000 in
set_option maxRecDepth 100000 in
theorem k_X3_columnsOf (l : Launch) (z : Int) (hz : 0 ≤ z ∧ z ≤ 100000) : RD l yX3_columnsOf wsX3_columnsOf ({ frames := 0, cells := 0, slots := 0, locals := 0 }) [.int (iI z)] tB (z % 100 - 50) := by
  refine ri_ent (cc := cX3_columnsOf) (maxL := 1) (ret := some .int) (by decide) rfl (Nat.le_of_ble_eq_true rfl) ?_
  intro zp ze s zm zb zt zc hx hb hr hts hown hlocks hml hin hB ls hl
  have hown : s.vm.findClass RX3 = some zm.cls := hown
  have CF : CallFix zp zm zc cX3_columnsOf 1 s ([.int (iI z)] : List Value).toArray wsX3_columnsOf RX3 := ⟨hx, hb, hml, hown, hts⟩
  have hl : lv_has ls 1 [(0, .int (iI z))] := hl
  refine lv_iload_n hx hb dX3_columnsOf_0 rfl (lv_at hl 0 rfl) ?_
  refine ri_bipush hx hb dX3_columnsOf_1 (by decide) ?_
  refine ri_irem hx hb (by omega) dX3_columnsOf_3 ?_
  refine ri_bipush hx hb dX3_columnsOf_4 (by decide) ?_
  refine ri_isub hx hb dX3_columnsOf_6 ?_
  exact ri_iret hx hb hr hlocks dX3_columnsOf_7 (by first | rfl | omega | (simp; done))

theorem f_X3_rowsOf : MF yX3_rowsOf wsX3_rowsOf cX3_rowsOf 1 (some .int) 1 := ⟨⟨_, rfl⟩, by decide +kernel, by decide +kernel, by decide +kernel⟩
set_option maxHeartbeats 4000000 in
set_option maxRecDepth 100000 in
theorem k_X3_rowsOf (l : Launch) (z : Int) (hz : 0 ≤ z ∧ z ≤ 100000) : RD l yX3_rowsOf wsX3_rowsOf ({ frames := 0, cells := 0, slots := 0, locals := 0 }) [.int (iI z)] tB (z / 100 - 50) := by
  refine ri_ent (cc := cX3_rowsOf) (maxL := 1) (ret := some .int) (by decide) rfl (Nat.le_of_ble_eq_true rfl) ?_
  intro zp ze s zm zb zt zc hx hb hr hts hown hlocks hml hin hB ls hl
  have hown : s.vm.findClass RX3 = some zm.cls := hown
  have CF : CallFix zp zm zc cX3_rowsOf 1 s ([.int (iI z)] : List Value).toArray wsX3_rowsOf RX3 := ⟨hx, hb, hml, hown, hts⟩
  have hl : lv_has ls 1 [(0, .int (iI z))] := hl
  refine lv_iload_n hx hb dX3_rowsOf_0 rfl (lv_at hl 0 rfl) ?_
  refine ri_bipush hx hb dX3_rowsOf_1 (by decide) ?_
  refine ri_idiv hx hb (by omega) dX3_rowsOf_3 ?_
  refine ri_bipush hx hb dX3_rowsOf_4 (by decide) ?_
  refine ri_isub hx hb dX3_rowsOf_6 ?_
  exact ri_iret hx hb hr hlocks dX3_rowsOf_7 (by first | rfl | omega | (simp; done))

theorem f_X3_moveBy : MF yX3_moveBy wsX3_moveBy cX3_moveBy 2 (some .int) 2 := ⟨⟨_, rfl⟩, by decide +kernel, by decide +kernel, by decide +kernel⟩
set_option maxHeartbeats 4000000 in
set_option maxRecDepth 100000 in
theorem k_X3_moveBy (l : Launch) (c : Int) (r : Int) : RD l yX3_moveBy wsX3_moveBy ({ frames := 0, cells := 0, slots := 0, locals := 0 }) [.int (iI c), .int (iI r)] tB (5050 + 100 * r + c) := by
  refine ri_ent (cc := cX3_moveBy) (maxL := 2) (ret := some .int) (by decide) rfl (Nat.le_of_ble_eq_true rfl) ?_
  intro zp ze s zm zb zt zc hx hb hr hts hown hlocks hml hin hB ls hl
  have hown : s.vm.findClass RX3 = some zm.cls := hown
  have CF : CallFix zp zm zc cX3_moveBy 2 s ([.int (iI c), .int (iI r)] : List Value).toArray wsX3_moveBy RX3 := ⟨hx, hb, hml, hown, hts⟩
  have hl : lv_has ls 2 [(0, .int (iI c)), (1, .int (iI r))] := hl
  refine ri_sipush hx hb dX3_moveBy_0 (by decide) ?_
  refine ri_bipush hx hb dX3_moveBy_3 (by decide) ?_
  refine lv_iload_n hx hb dX3_moveBy_5 rfl (lv_at hl 1 rfl) ?_
  refine ri_imul hx hb dX3_moveBy_6 ?_
  refine ri_iadd hx hb dX3_moveBy_7 ?_
  refine lv_iload_n hx hb dX3_moveBy_8 rfl (lv_at hl 0 rfl) ?_
  refine ri_iadd hx hb dX3_moveBy_9 ?_
  exact ri_iret hx hb hr hlocks dX3_moveBy_10 (by first | rfl | omega | (simp; done))

theorem f_X3_isAlike : MF yX3_isAlike wsX3_isAlike cX3_isAlike 3 (some .boolean) 3 := ⟨⟨_, rfl⟩, by decide +kernel, by decide +kernel, by decide +kernel⟩
set_option maxHeartbeats 4000000 in
set_option maxRecDepth 100000 in
theorem k_X3_isAlike (l : Launch) (x : Int) (y : Int) (b : Int) (hx : -1000 ≤ x ∧ x ≤ 1000) (hy : -1000 ≤ y ∧ y ≤ 1000) (hb : -1000 ≤ b ∧ b ≤ 1000) : RD l yX3_isAlike wsX3_isAlike ({ frames := 1, cells := 0, slots := 0, locals := 29 }) [.int (iI x), .int (iI y), .int (iI b)] tB (bp (x - y ≤ b ∧ y - x ≤ b)) := by
  refine ri_ent (cc := cX3_isAlike) (maxL := 3) (ret := some .boolean) (by decide) rfl (Nat.le_of_ble_eq_true rfl) ?_
  intro zp ze s zm zb zt zc hx hb hr hts hown hlocks hml hin hB ls hl
  have hown : s.vm.findClass RX3 = some zm.cls := hown
  have CF : CallFix zp zm zc cX3_isAlike 3 s ([.int (iI x), .int (iI y), .int (iI b)] : List Value).toArray wsX3_isAlike RX3 := ⟨hx, hb, hml, hown, hts⟩
  have hl : lv_has ls 3 [(0, .int (iI x)), (1, .int (iI y)), (2, .int (iI b))] := hl
  refine lv_iload_n hx hb dX3_isAlike_0 rfl (lv_at hl 0 rfl) ?_
  refine lv_iload_n hx hb dX3_isAlike_1 rfl (lv_at hl 1 rfl) ?_
  refine ri_isub hx hb dX3_isAlike_2 ?_
  refine va_mabs hx hb (hml.trans hl.1.symm) hown (hts _ (List.mem_of_getElem? (i := 1) rfl)) (hts _ (List.mem_of_getElem? (i := 2) rfl)) (hts _ (List.mem_of_getElem? (i := 3) rfl)) (hts _ (List.mem_of_getElem? (i := 4) rfl)) (Nat.le_of_ble_eq_true rfl) (Nat.le_of_ble_eq_true rfl) (Nat.le_of_ble_eq_true rfl) (Nat.le_of_ble_eq_true rfl) dX3_isAlike_3 ?_
  refine ri_abs (by omega) (fun q_1 eq_1 => ?_)
  refine lv_iload_n hx hb dX3_isAlike_6 rfl (lv_at hl 2 rfl) ?_
  refine ri_icmp_gt (tgt := 14) hx hb (by omega) dX3_isAlike_7 (by decide) (fun c_2 => ?_) (fun c_2 => ?_)
  · skip
    refine ri_iconst hx hb dX3_isAlike_14 ?_
    exact ri_zret hx hb hr hlocks (bp_01 _) dX3_isAlike_15 ((bp_f (by omega)).symm)
  · skip
    refine ri_iconst hx hb dX3_isAlike_10 ?_
    refine lv_goto (tgt := 15) hx hb dX3_isAlike_11 (by decide) ?_
    exact ri_zret hx hb hr hlocks (bp_01 _) dX3_isAlike_15 ((bp_t (by omega)).symm)

theorem f_X1_isSlot : MF yX1_isSlot wsX1_isSlot cX1_isSlot 1 (some .boolean) 1 := ⟨⟨_, rfl⟩, by decide +kernel, by decide +kernel, by decide +kernel⟩
set_option maxHeartbeats 4000000 in
set_option maxRecDepth 100000 in
theorem k_X1_isSlot (l : Launch) (z : Int) (hz : -2147483648 ≤ z ∧ z < 2147483648) : RD l yX1_isSlot wsX1_isSlot ({ frames := 1, cells := 0, slots := 0, locals := 22 }) [.int (iI z)] xN (bp (0 ≤ z ∧ z ≤ 44)) := by
  refine ri_ent (cc := cX1_isSlot) (maxL := 1) (ret := some .boolean) (by decide) rfl (Nat.le_of_ble_eq_true rfl) ?_
  intro zp ze s zm zb zt zc hx hb hr hts hown hlocks hml hin hB ls hl
  have hown : s.vm.findClass RX1 = some zm.cls := hown
  have CF : CallFix zp zm zc cX1_isSlot 1 s ([.int (iI z)] : List Value).toArray wsX1_isSlot RX1 := ⟨hx, hb, hml, hown, hts⟩
  have hN := hB
  have hl : lv_has ls 1 [(0, .int (iI z))] := hl
  refine lv_iload_n hx hb dX1_isSlot_0 rfl (lv_at hl 0 rfl) ?_
  refine ri_iconst hx hb dX1_isSlot_1 ?_
  refine ri_bipush hx hb dX1_isSlot_2 (by decide) ?_
  refine ri_rd (ri_runN (As := [.int (iI z), .int (iI 0), .int (iI 44)]) (rest := []) CF (k_X3_isWithin l z 0 44 (by omega) (by omega) (by omega)) gX1_isSlot_X3_isWithin_n19 f_X3_isWithin hN.2.1 (List.mem_of_getElem? (i := 2) rfl) (List.mem_of_getElem? (i := 1) rfl) ⟨rfl, rfl, Nat.le_of_ble_eq_true rfl, Nat.le_of_ble_eq_true rfl, Nat.le_of_ble_eq_true rfl, Nat.le_of_ble_eq_true rfl⟩ tB_bl tB_in rfl hl.1 rfl (Nat.le_of_ble_eq_true rfl) dX1_isSlot_4) ?_
  exact ri_zret hx hb hr hlocks (bp_01 _) dX1_isSlot_7 (rfl)

theorem f_X1_place : MF yX1_place wsX1_place cX1_place 3 (some .int) 3 := ⟨⟨_, rfl⟩, by decide +kernel, by decide +kernel, by decide +kernel⟩
set_option maxHeartbeats 4000000 in
set_option maxRecDepth 100000 in
theorem k_X1_place (l : Launch) (z : Int) (c : Int) (r : Int) : RD l yX1_place wsX1_place ({ frames := 0, cells := 0, slots := 0, locals := 0 }) [.int (iI z), .int (iI c), .int (iI r)] tB (z * 64 + r * 8 + c) := by
  refine ri_ent (cc := cX1_place) (maxL := 3) (ret := some .int) (by decide) rfl (Nat.le_of_ble_eq_true rfl) ?_
  intro zp ze s zm zb zt zc hx hb hr hts hown hlocks hml hin hB ls hl
  have hown : s.vm.findClass RX1 = some zm.cls := hown
  have CF : CallFix zp zm zc cX1_place 3 s ([.int (iI z), .int (iI c), .int (iI r)] : List Value).toArray wsX1_place RX1 := ⟨hx, hb, hml, hown, hts⟩
  have hl : lv_has ls 3 [(0, .int (iI z)), (1, .int (iI c)), (2, .int (iI r))] := hl
  refine lv_iload_n hx hb dX1_place_0 rfl (lv_at hl 0 rfl) ?_
  refine ri_bipush hx hb dX1_place_1 (by decide) ?_
  refine ri_imul hx hb dX1_place_3 ?_
  refine lv_iload_n hx hb dX1_place_4 rfl (lv_at hl 2 rfl) ?_
  refine ri_bipush hx hb dX1_place_5 (by decide) ?_
  refine ri_imul hx hb dX1_place_7 ?_
  refine ri_iadd hx hb dX1_place_8 ?_
  refine lv_iload_n hx hb dX1_place_9 rfl (lv_at hl 1 rfl) ?_
  refine ri_iadd hx hb dX1_place_10 ?_
  exact ri_iret hx hb hr hlocks dX1_place_11 (by first | rfl | omega | (simp; done))

theorem f_X1_has : MF yX1_has wsX1_has cX1_has 2 (some .boolean) 1 := ⟨⟨_, rfl⟩, by decide +kernel, by decide +kernel, by decide +kernel⟩
set_option maxHeartbeats 4000000 in
set_option maxRecDepth 100000 in
theorem k_X1_has (l : Launch) (D : va_G) (a : Nat → Nat) (kk : Nat → ClassId) (g : Nat → Nat → Int) (z : Int) (hI : XInv g) (hz : 0 ≤ z ∧ z ≤ 44) : RD l yX1_has wsX1_has ({ frames := 2, cells := 0, slots := 0, locals := 42 }) [.ref (a 1), .int (iI z)] (wB D kk (xW a kk g)) (bp (g 3 z.toNat = 1)) := by
  refine ri_ent (cc := cX1_has) (maxL := 2) (ret := some .boolean) (by decide) rfl (Nat.le_of_ble_eq_true rfl) ?_
  intro zp ze s zm zb zt zc hx hb hr hts hown hlocks hml hin hB ls hl
  have hown : s.vm.findClass RX1 = some zm.cls := hown
  have CF : CallFix zp zm zc cX1_has 2 s ([.ref (a 1), .int (iI z)] : List Value).toArray wsX1_has RX1 := ⟨hx, hb, hml, hown, hts⟩
  obtain ⟨hP, hK, hN⟩ := hB
  have hinX1 : ∀ w ∈ wsX10, w ∈ wsX1_has := (fun _ h => List.mem_cons_of_mem _ (List.mem_append_right _ h))
  have hl : lv_has ls 2 [(0, .ref (a 1)), (1, .int (iI z))] := hl
  refine lv_iload_n hx hb dX1_has_0 rfl (lv_at hl 1 rfl) ?_
  refine ri_rd (ri_runS (As := [.int (iI z)]) (rest := []) CF (k_X1_isSlot l z (by omega)) gX1_has_X1_isSlot f_X1_isSlot ⟨rfl, rfl, Nat.le_of_ble_eq_true rfl, Nat.le_of_ble_eq_true rfl, Nat.le_of_ble_eq_true rfl, Nat.le_of_ble_eq_true rfl⟩ xN_bl (nB_in hN) rfl hl.1 rfl (Nat.le_of_ble_eq_true rfl) dX1_has_1) ?_
  refine ri_ifeq_b (tgt := 20) hx hb dX1_has_4 (by decide) (fun c_1 => ?_) (fun c_1 => ?_)
  · skip
    exfalso; omega
  · skip
    refine lv_aload_n hx hb dX1_has_7 rfl (lv_at hl 0 rfl) ?_
    refine va_get (D := D) (ci := 1) (v := .ref (a 3)) (C := RX1) (T := TX1) (N := 2) hx hb hts hinX1 hown hK hP 1 rfl rfl 1 (by decide) (hts _ (List.mem_of_getElem? (i := 1) rfl)) (fun _ h9 => h9) rfl dX1_has_8 ?_
    refine lv_iload_n hx hb dX1_has_11 rfl (lv_at hl 1 rfl) ?_
    refine ri_zald hx hb hK hP 3 1 rfl rfl (by omega) (by decide) dX1_has_12 ?_
    have f_2 := hI.2.1 z.toNat (by omega)
    refine ri_if_eq (tgt := 20) hx hb (by omega) dX1_has_13 (by decide) (fun c_3 => ?_) (fun c_3 => ?_)
    · skip
      refine ri_iconst hx hb dX1_has_20 ?_
      exact ri_zret hx hb hr hlocks (bp_01 _) dX1_has_21 ((bp_f (by omega)).symm)
    · skip
      refine ri_iconst hx hb dX1_has_16 ?_
      refine lv_goto (tgt := 21) hx hb dX1_has_17 (by decide) ?_
      exact ri_zret hx hb hr hlocks (bp_01 _) dX1_has_21 ((bp_t (by omega)).symm)

theorem f_X1_at : MF yX1_at wsX1_at cX1_at 4 (some .int) 3 := ⟨⟨_, rfl⟩, by decide +kernel, by decide +kernel, by decide +kernel⟩
set_option maxHeartbeats 4000000 in
set_option maxRecDepth 100000 in
theorem k_X1_at (l : Launch) (D : va_G) (a : Nat → Nat) (kk : Nat → ClassId) (g : Nat → Nat → Int) (z : Int) (c : Int) (r : Int) (hI : XInv g) (hz : 0 ≤ z ∧ z ≤ 44) (hc : 0 ≤ c ∧ c ≤ 7) (hr : 0 ≤ r ∧ r ≤ 7) : RD l yX1_at wsX1_at ({ frames := 2, cells := 0, slots := 0, locals := 43 }) [.ref (a 1), .int (iI z), .int (iI c), .int (iI r)] (wB D kk (xW a kk g)) (g 2 (z * 64 + r * 8 + c).toNat) := by
  refine ri_ent (cc := cX1_at) (maxL := 4) (ret := some .int) (by decide) rfl (Nat.le_of_ble_eq_true rfl) ?_
  intro zp ze s zm zb zt zc hx hb hr hts hown hlocks hml hin hB ls hl
  have hown : s.vm.findClass RX1 = some zm.cls := hown
  have CF : CallFix zp zm zc cX1_at 4 s ([.ref (a 1), .int (iI z), .int (iI c), .int (iI r)] : List Value).toArray wsX1_at RX1 := ⟨hx, hb, hml, hown, hts⟩
  obtain ⟨hP, hK, hN⟩ := hB
  have hinX1 : ∀ w ∈ wsX10, w ∈ wsX1_at := (fun _ h => List.mem_cons_of_mem _ (List.mem_append_right _ h))
  have hl : lv_has ls 4 [(0, .ref (a 1)), (1, .int (iI z)), (2, .int (iI c)), (3, .int (iI r))] := hl
  refine lv_iload_n hx hb dX1_at_0 rfl (lv_at hl 1 rfl) ?_
  refine ri_rd (ri_runS (As := [.int (iI z)]) (rest := []) CF (k_X1_isSlot l z (by omega)) gX1_at_X1_isSlot f_X1_isSlot ⟨rfl, rfl, Nat.le_of_ble_eq_true rfl, Nat.le_of_ble_eq_true rfl, Nat.le_of_ble_eq_true rfl, Nat.le_of_ble_eq_true rfl⟩ xN_bl (nB_in hN) rfl hl.1 rfl (Nat.le_of_ble_eq_true rfl) dX1_at_1) ?_
  refine ri_ifeq_b (tgt := 15) hx hb dX1_at_4 (by decide) (fun c_1 => ?_) (fun c_1 => ?_)
  · skip
    exfalso; omega
  · skip
    refine lv_iload_n hx hb dX1_at_7 rfl (lv_at hl 2 rfl) ?_
    refine lv_iload_n hx hb dX1_at_8 rfl (lv_at hl 3 rfl) ?_
    refine ri_rd (ri_runN (As := [.int (iI c), .int (iI r)]) (rest := []) CF (k_X3_isCell l c r (by omega) (by omega)) gX1_at_X3_isCell_n27 f_X3_isCell hN.2.2.1 (List.mem_of_getElem? (i := 7) rfl) (List.mem_of_getElem? (i := 9) rfl) ⟨rfl, rfl, Nat.le_of_ble_eq_true rfl, Nat.le_of_ble_eq_true rfl, Nat.le_of_ble_eq_true rfl, Nat.le_of_ble_eq_true rfl⟩ tB_bl tB_in rfl hl.1 rfl (Nat.le_of_ble_eq_true rfl) dX1_at_9) ?_
    refine ri_ifne_b (tgt := 17) hx hb dX1_at_12 (by decide) (fun c_2 => ?_) (fun c_2 => ?_)
    · skip
      refine lv_aload_n hx hb dX1_at_17 rfl (lv_at hl 0 rfl) ?_
      refine va_get (D := D) (ci := 1) (v := .ref (a 2)) (C := RX1) (T := TX1) (N := 2) hx hb hts hinX1 hown hK hP 1 rfl rfl 0 (by decide) (hts _ (List.mem_of_getElem? (i := 1) rfl)) (fun _ h9 => h9) rfl dX1_at_18 ?_
      refine lv_iload_n hx hb dX1_at_21 rfl (lv_at hl 1 rfl) ?_
      refine lv_iload_n hx hb dX1_at_22 rfl (lv_at hl 2 rfl) ?_
      refine lv_iload_n hx hb dX1_at_23 rfl (lv_at hl 3 rfl) ?_
      refine ri_rd (ri_runS (As := [.int (iI z), .int (iI c), .int (iI r)]) (rest := [.ref (a 2)]) CF (k_X1_place l z c r) gX1_at_X1_place f_X1_place ⟨rfl, rfl, Nat.le_of_ble_eq_true rfl, Nat.le_of_ble_eq_true rfl, Nat.le_of_ble_eq_true rfl, Nat.le_of_ble_eq_true rfl⟩ tB_bl tB_in rfl hl.1 rfl (Nat.le_of_ble_eq_true rfl) dX1_at_24) ?_
      refine ri_iald hx hb hK hP 2 0 rfl rfl (by omega) (by decide) dX1_at_27 ?_
      have f_3 := hI.1 (z * 64 + r * 8 + c).toNat (by omega)
      exact ri_iret hx hb hr hlocks dX1_at_28 (rfl)
    · skip
      exfalso; omega

theorem f_X1_same : MF yX1_same wsX1_same cX1_same 4 (some .boolean) 2 := ⟨⟨_, rfl⟩, by decide +kernel, by decide +kernel, by decide +kernel⟩
set_option maxHeartbeats 4000000 in
set_option maxRecDepth 100000 in
theorem k_X1_same (l : Launch) (D : va_G) (a : Nat → Nat) (kk : Nat → ClassId) (g : Nat → Nat → Int) (y : Int) (z : Int) (hI : XInv g) (hy : 0 ≤ y ∧ y ≤ 44) (hz : 0 ≤ z ∧ z ≤ 44) : RD l yX1_same wsX1_same ({ frames := 3, cells := 0, slots := 0, locals := 63 }) [.ref (a 1), .int (iI y), .int (iI z)] (wB D kk (xW a kk g)) (bp (sameP (g 2) (g 3) y z)) := by
  refine ri_ent (cc := cX1_same) (maxL := 4) (ret := some .boolean) (by decide) rfl (Nat.le_of_ble_eq_true rfl) ?_
  intro zp ze s zm zb zt zc hx hb hr hts hown hlocks hml hin hB ls hl
  have hown : s.vm.findClass RX1 = some zm.cls := hown
  have CF : CallFix zp zm zc cX1_same 4 s ([.ref (a 1), .int (iI y), .int (iI z)] : List Value).toArray wsX1_same RX1 := ⟨hx, hb, hml, hown, hts⟩
  obtain ⟨hP, hK, hN⟩ := hB
  have hinX1 : ∀ w ∈ wsX10, w ∈ wsX1_same := (fun _ h => List.mem_cons_of_mem _ (List.mem_append_right _ h))
  have hl : lv_has ls 4 [(0, .ref (a 1)), (1, .int (iI y)), (2, .int (iI z))] := hl
  have f3y := hI.2.1 y.toNat (by omega)
  have f3z := hI.2.1 z.toNat (by omega)
  refine lv_aload_n hx hb dX1_same_0 rfl (lv_at hl 0 rfl) ?_
  refine lv_iload_n hx hb dX1_same_1 rfl (lv_at hl 1 rfl) ?_
  refine ri_rd (ri_runV (b := a 1) (As := [.int (iI y)]) (rest := []) CF (k_X1_has l D a kk g y hI (by omega)) gX1_same_X1_has f_X1_has rfl (va_recv hK hP (ci := 1) (q0 := 1) rfl rfl) ⟨rfl, rfl, Nat.le_of_ble_eq_true rfl, Nat.le_of_ble_eq_true rfl, Nat.le_of_ble_eq_true rfl, Nat.le_of_ble_eq_true rfl⟩ wB_bl (wB_in hP hK hN) rfl hl.1 rfl (Nat.le_of_ble_eq_true rfl) dX1_same_2) ?_
  refine ri_ifeq_b (tgt := 16) hx hb dX1_same_5 (by decide) (fun c_1 => ?_) (fun c_1 => ?_)
  · skip
    refine lv_aload_n hx hb dX1_same_16 rfl (lv_at hl 0 rfl) ?_
    refine lv_iload_n hx hb dX1_same_17 rfl (lv_at hl 1 rfl) ?_
    refine ri_rd (ri_runV (b := a 1) (As := [.int (iI y)]) (rest := []) CF (k_X1_has l D a kk g y hI (by omega)) gX1_same_X1_has f_X1_has rfl (va_recv hK hP (ci := 1) (q0 := 1) rfl rfl) ⟨rfl, rfl, Nat.le_of_ble_eq_true rfl, Nat.le_of_ble_eq_true rfl, Nat.le_of_ble_eq_true rfl, Nat.le_of_ble_eq_true rfl⟩ wB_bl (wB_in hP hK hN) rfl hl.1 rfl (Nat.le_of_ble_eq_true rfl) dX1_same_18) ?_
    refine lv_aload_n hx hb dX1_same_21 rfl (lv_at hl 0 rfl) ?_
    refine lv_iload_n hx hb dX1_same_22 rfl (lv_at hl 2 rfl) ?_
    refine ri_rd (ri_runV (b := a 1) (As := [.int (iI z)]) (rest := [.int (iI (bp (g 3 y.toNat = 1)))]) CF (k_X1_has l D a kk g z hI (by omega)) gX1_same_X1_has f_X1_has rfl (va_recv hK hP (ci := 1) (q0 := 1) rfl rfl) ⟨rfl, rfl, Nat.le_of_ble_eq_true rfl, Nat.le_of_ble_eq_true rfl, Nat.le_of_ble_eq_true rfl, Nat.le_of_ble_eq_true rfl⟩ wB_bl (wB_in hP hK hN) rfl hl.1 rfl (Nat.le_of_ble_eq_true rfl) dX1_same_23) ?_
    refine ri_icmp_ne (tgt := 33) hx hb (by have := bp_r (g 3 y.toNat = 1); have := bp_r (g 3 z.toNat = 1); omega) dX1_same_26 (by decide) (fun c_2 => ?_) (fun c_2 => ?_)
    · skip
      have h26 := fun q => c_2 (bp_iff.mpr q)
      refine ri_iconst hx hb dX1_same_33 ?_
      exact ri_zret hx hb hr hlocks (bp_01 _) dX1_same_34 ((bp_f (fun q => h26 q.1)).symm)
    · skip
      have h26 := bp_iff.mp c_2
      refine ri_iconst hx hb dX1_same_29 ?_
      refine lv_goto (tgt := 34) hx hb dX1_same_30 (by decide) ?_
      exact ri_zret hx hb hr hlocks (bp_01 _) dX1_same_34 ((bp_t ⟨h26, fun h3 => by omega⟩).symm)
  · skip
    refine lv_aload_n hx hb dX1_same_8 rfl (lv_at hl 0 rfl) ?_
    refine lv_iload_n hx hb dX1_same_9 rfl (lv_at hl 2 rfl) ?_
    refine ri_rd (ri_runV (b := a 1) (As := [.int (iI z)]) (rest := []) CF (k_X1_has l D a kk g z hI (by omega)) gX1_same_X1_has f_X1_has rfl (va_recv hK hP (ci := 1) (q0 := 1) rfl rfl) ⟨rfl, rfl, Nat.le_of_ble_eq_true rfl, Nat.le_of_ble_eq_true rfl, Nat.le_of_ble_eq_true rfl, Nat.le_of_ble_eq_true rfl⟩ wB_bl (wB_in hP hK hN) rfl hl.1 rfl (Nat.le_of_ble_eq_true rfl) dX1_same_10) ?_
    refine ri_ifne_b (tgt := 35) hx hb dX1_same_13 (by decide) (fun c_3 => ?_) (fun c_3 => ?_)
    · skip
      refine ri_iconst hx hb dX1_same_35 ?_
      refine lv_istore_n (lv' := [(3, .int (iI 0)), (0, .ref (a 1)), (1, .int (iI y)), (2, .int (iI z))]) hx hb dX1_same_36 rfl hl (by decide) rfl (fun ls hl => ?_)
      have L37 : ∀ (n37 : Nat) (i : Int), (0 ≤ i ∧ i ≤ 64) → (∀ k : Int, 0 ≤ k → k < i → g 2 (y * 64 + k).toNat = g 2 (z * 64 + k).toNat) → ((64 - i).toNat < n37) → ∀ (ls : Array Slot), lv_has ls 4 [(0, .ref (a 1)), (1, .int (iI y)), (2, .int (iI z)), (3, .int (iI i))] → W zp l ze ({ frames := 3, cells := 0, slots := 0, locals := 63 }) s zm ([.ref (a 1), .int (iI y), .int (iI z)] : List Value).toArray zb zt zc s.heap [] 0 0 (MQ zb (vp_Si (fun r => r = iI (bp (sameP (g 2) (g 3) y z)))) ([.ref (a 1), .int (iI y), .int (iI z)] : List Value).toArray s 0 0 (fun _ => False)) (F0 zm 37 ls []) := by
        intro n37
        induction n37 with
        | zero => intro i hi hall hm; exact absurd hm (Nat.not_lt_zero _)
        | succ n37 ih37 =>
          intro i hi hall hm37 ls hl
          refine lv_iload_n hx hb dX1_same_37 rfl (lv_at hl 3 rfl) ?_
          refine ri_bipush hx hb dX1_same_38 (by decide) ?_
          refine ri_icmp_ge (tgt := 76) hx hb (by omega) dX1_same_40 (by decide) (fun c_4 => ?_) (fun c_4 => ?_)
          · skip
            refine ri_iconst hx hb dX1_same_76 ?_
            exact ri_zret hx hb hr hlocks (bp_01 _) dX1_same_77 ((bp_t ⟨by omega, fun _ k h1 h2 => hall k h1 (by omega)⟩).symm)
          · skip
            refine lv_aload_n hx hb dX1_same_43 rfl (lv_at hl 0 rfl) ?_
            refine va_get (D := D) (ci := 1) (v := .ref (a 2)) (C := RX1) (T := TX1) (N := 2) hx hb hts hinX1 hown hK hP 1 rfl rfl 0 (by decide) (hts _ (List.mem_of_getElem? (i := 1) rfl)) (fun _ h9 => h9) rfl dX1_same_44 ?_
            refine lv_iload_n hx hb dX1_same_47 rfl (lv_at hl 1 rfl) ?_
            refine ri_bipush hx hb dX1_same_48 (by decide) ?_
            refine ri_imul hx hb dX1_same_50 ?_
            refine lv_iload_n hx hb dX1_same_51 rfl (lv_at hl 3 rfl) ?_
            refine ri_iadd hx hb dX1_same_52 ?_
            refine ri_iald hx hb hK hP 2 0 rfl rfl (by omega) (by decide) dX1_same_53 ?_
            have f_5 := hI.1 ((y * 64) + i).toNat (by omega)
            refine lv_aload_n hx hb dX1_same_54 rfl (lv_at hl 0 rfl) ?_
            refine va_get (D := D) (ci := 1) (v := .ref (a 2)) (C := RX1) (T := TX1) (N := 2) hx hb hts hinX1 hown hK hP 1 rfl rfl 0 (by decide) (hts _ (List.mem_of_getElem? (i := 1) rfl)) (fun _ h9 => h9) rfl dX1_same_55 ?_
            refine lv_iload_n hx hb dX1_same_58 rfl (lv_at hl 2 rfl) ?_
            refine ri_bipush hx hb dX1_same_59 (by decide) ?_
            refine ri_imul hx hb dX1_same_61 ?_
            refine lv_iload_n hx hb dX1_same_62 rfl (lv_at hl 3 rfl) ?_
            refine ri_iadd hx hb dX1_same_63 ?_
            refine ri_iald hx hb hK hP 2 0 rfl rfl (by omega) (by decide) dX1_same_64 ?_
            have f_6 := hI.1 ((z * 64) + i).toNat (by omega)
            refine ri_icmp_eq (tgt := 70) hx hb (by omega) dX1_same_65 (by decide) (fun c_7 => ?_) (fun c_7 => ?_)
            · skip
              refine ri_iinc (lv' := [(3, .int (iI (i + 1))), (0, .ref (a 1)), (1, .int (iI y)), (2, .int (iI z))]) hx hb dX1_same_70 hl (k := 3) rfl (by decide) rfl (fun ls hl => ?_)
              refine lv_goto (tgt := 37) hx hb dX1_same_73 (by decide) ?_
              exact ih37 (i + 1) (by omega) (fun k h1 h2 => (Int.lt_or_eq_of_le (show k ≤ i by omega)).elim (fun q => hall k h1 q) (fun q => by rw [q]; omega)) (by omega) ls (lv_sub hl [1, 2, 3, 0] rfl)
            · skip
              refine ri_iconst hx hb dX1_same_68 ?_
              exact ri_zret hx hb hr hlocks (bp_01 _) dX1_same_69 ((bp_f (fun q => by have h1 := q.2 (by omega) i (by omega) (by omega); omega)).symm)
      exact L37 65 (0) (by omega) (fun k h1 h2 => absurd h2 (by omega)) (by decide) ls (lv_sub hl [1, 2, 3, 0] rfl)
    · skip
      refine lv_aload_n hx hb dX1_same_16 rfl (lv_at hl 0 rfl) ?_
      refine lv_iload_n hx hb dX1_same_17 rfl (lv_at hl 1 rfl) ?_
      refine ri_rd (ri_runV (b := a 1) (As := [.int (iI y)]) (rest := []) CF (k_X1_has l D a kk g y hI (by omega)) gX1_same_X1_has f_X1_has rfl (va_recv hK hP (ci := 1) (q0 := 1) rfl rfl) ⟨rfl, rfl, Nat.le_of_ble_eq_true rfl, Nat.le_of_ble_eq_true rfl, Nat.le_of_ble_eq_true rfl, Nat.le_of_ble_eq_true rfl⟩ wB_bl (wB_in hP hK hN) rfl hl.1 rfl (Nat.le_of_ble_eq_true rfl) dX1_same_18) ?_
      refine lv_aload_n hx hb dX1_same_21 rfl (lv_at hl 0 rfl) ?_
      refine lv_iload_n hx hb dX1_same_22 rfl (lv_at hl 2 rfl) ?_
      refine ri_rd (ri_runV (b := a 1) (As := [.int (iI z)]) (rest := [.int (iI (bp (g 3 y.toNat = 1)))]) CF (k_X1_has l D a kk g z hI (by omega)) gX1_same_X1_has f_X1_has rfl (va_recv hK hP (ci := 1) (q0 := 1) rfl rfl) ⟨rfl, rfl, Nat.le_of_ble_eq_true rfl, Nat.le_of_ble_eq_true rfl, Nat.le_of_ble_eq_true rfl, Nat.le_of_ble_eq_true rfl⟩ wB_bl (wB_in hP hK hN) rfl hl.1 rfl (Nat.le_of_ble_eq_true rfl) dX1_same_23) ?_
      refine ri_icmp_ne (tgt := 33) hx hb (by have := bp_r (g 3 y.toNat = 1); have := bp_r (g 3 z.toNat = 1); omega) dX1_same_26 (by decide) (fun c_8 => ?_) (fun c_8 => ?_)
      · skip
        have h26 := fun q => c_8 (bp_iff.mpr q)
        refine ri_iconst hx hb dX1_same_33 ?_
        exact ri_zret hx hb hr hlocks (bp_01 _) dX1_same_34 ((bp_f (fun q => h26 q.1)).symm)
      · skip
        have h26 := bp_iff.mp c_8
        refine ri_iconst hx hb dX1_same_29 ?_
        refine lv_goto (tgt := 34) hx hb dX1_same_30 (by decide) ?_
        exact ri_zret hx hb hr hlocks (bp_01 _) dX1_same_34 ((bp_t ⟨h26, fun h3 => by omega⟩).symm)

theorem f_X2_has : MF yX2_has wsX2_has cX2_has 2 (some .boolean) 1 := ⟨⟨_, rfl⟩, by decide +kernel, by decide +kernel, by decide +kernel⟩
set_option maxHeartbeats 4000000 in
set_option maxRecDepth 100000 in
theorem k_X2_has (l : Launch) (D : va_G) (a : Nat → Nat) (kk : Nat → ClassId) (g : Nat → Nat → Int) (t : Int) (hR : RInv g) (ht : 0 ≤ t ∧ t ≤ 4) : RD l yX2_has wsX2_has ({ frames := 2, cells := 0, slots := 0, locals := 42 }) [.ref (a 0), .int (iI t)] (wB D kk (rW a kk g)) (bp (g 1 t.toNat < g 3 t.toNat)) := by
  refine ri_ent (cc := cX2_has) (maxL := 2) (ret := some .boolean) (by decide) rfl (Nat.le_of_ble_eq_true rfl) ?_
  intro zp ze s zm zb zt zc hx hb hr hts hown hlocks hml hin hB ls hl
  have hown : s.vm.findClass RX2 = some zm.cls := hown
  have CF : CallFix zp zm zc cX2_has 2 s ([.ref (a 0), .int (iI t)] : List Value).toArray wsX2_has RX2 := ⟨hx, hb, hml, hown, hts⟩
  obtain ⟨hP, hK, hN⟩ := hB
  have hinX2 : ∀ w ∈ wsX20, w ∈ wsX2_has := (fun _ h => List.mem_cons_of_mem _ (List.mem_append_right _ h))
  have hl : lv_has ls 2 [(0, .ref (a 0)), (1, .int (iI t))] := hl
  refine lv_iload_n hx hb dX2_has_0 rfl (lv_at hl 1 rfl) ?_
  refine ri_rd (ri_runN (As := [.int (iI t)]) (rest := []) CF (k_X3_isTest l t (by omega)) gX2_has_X3_isTest_n24 f_X3_isTest hN.2.2.2.1 (List.mem_of_getElem? (i := 4) rfl) (List.mem_of_getElem? (i := 3) rfl) ⟨rfl, rfl, Nat.le_of_ble_eq_true rfl, Nat.le_of_ble_eq_true rfl, Nat.le_of_ble_eq_true rfl, Nat.le_of_ble_eq_true rfl⟩ tB_bl tB_in rfl hl.1 rfl (Nat.le_of_ble_eq_true rfl) dX2_has_1) ?_
  refine ri_ifeq_b (tgt := 26) hx hb dX2_has_4 (by decide) (fun c_1 => ?_) (fun c_1 => ?_)
  · skip
    exfalso; omega
  · skip
    refine lv_aload_n hx hb dX2_has_7 rfl (lv_at hl 0 rfl) ?_
    refine va_get (D := D) (ci := 2) (v := .ref (a 1)) (C := RX2) (T := TX2) (N := 4) hx hb hts hinX2 hown hK hP 0 rfl rfl 0 (by decide) (hts _ (List.mem_of_getElem? (i := 1) rfl)) (fun _ h9 => h9) rfl dX2_has_8 ?_
    refine lv_iload_n hx hb dX2_has_11 rfl (lv_at hl 1 rfl) ?_
    refine ri_iald hx hb hK hP 1 0 rfl rfl (by omega) (by decide) dX2_has_12 ?_
    have f_2 := hR t.toNat (by omega)
    refine lv_aload_n hx hb dX2_has_13 rfl (lv_at hl 0 rfl) ?_
    refine va_get (D := D) (ci := 2) (v := .ref (a 3)) (C := RX2) (T := TX2) (N := 4) hx hb hts hinX2 hown hK hP 0 rfl rfl 2 (by decide) (hts _ (List.mem_of_getElem? (i := 2) rfl)) (fun _ h9 => h9) rfl dX2_has_14 ?_
    refine lv_iload_n hx hb dX2_has_17 rfl (lv_at hl 1 rfl) ?_
    refine ri_iald hx hb hK hP 3 0 rfl rfl (by omega) (by decide) dX2_has_18 ?_
    have f_3 := hR t.toNat (by omega)
    refine ri_icmp_ge (tgt := 26) hx hb (by omega) dX2_has_19 (by decide) (fun c_4 => ?_) (fun c_4 => ?_)
    · skip
      refine ri_iconst hx hb dX2_has_26 ?_
      exact ri_zret hx hb hr hlocks (bp_01 _) dX2_has_27 ((bp_f (by omega)).symm)
    · skip
      refine ri_iconst hx hb dX2_has_22 ?_
      refine lv_goto (tgt := 27) hx hb dX2_has_23 (by decide) ?_
      exact ri_zret hx hb hr hlocks (bp_01 _) dX2_has_27 ((bp_t (by omega)).symm)

theorem f_X2_holds : MF yX2_holds wsX2_holds cX2_holds 4 (some .boolean) 3 := ⟨⟨_, rfl⟩, by decide +kernel, by decide +kernel, by decide +kernel⟩
set_option maxHeartbeats 4000000 in
set_option maxRecDepth 100000 in
theorem k_X2_holds (l : Launch) (D : va_G) (a : Nat → Nat) (kk : Nat → ClassId) (g : Nat → Nat → Int) (t : Int) (c : Int) (r : Int) (hR : RInv g) (ht : 0 ≤ t ∧ t ≤ 4) (hc : -2147483648 ≤ c ∧ c < 2147483648) (hr : -2147483648 ≤ r ∧ r < 2147483648) : RD l yX2_holds wsX2_holds ({ frames := 2, cells := 0, slots := 0, locals := 42 }) [.ref (a 0), .int (iI t), .int (iI c), .int (iI r)] (wB D kk (rW a kk g)) (bp ((g 1 t.toNat ≤ c ∧ c < g 3 t.toNat) ∧ (g 2 t.toNat ≤ r ∧ r < g 4 t.toNat))) := by
  refine ri_ent (cc := cX2_holds) (maxL := 4) (ret := some .boolean) (by decide) rfl (Nat.le_of_ble_eq_true rfl) ?_
  intro zp ze s zm zb zt zc hx hb hr hts hown hlocks hml hin hB ls hl
  have hown : s.vm.findClass RX2 = some zm.cls := hown
  have CF : CallFix zp zm zc cX2_holds 4 s ([.ref (a 0), .int (iI t), .int (iI c), .int (iI r)] : List Value).toArray wsX2_holds RX2 := ⟨hx, hb, hml, hown, hts⟩
  obtain ⟨hP, hK, hN⟩ := hB
  have hinX2 : ∀ w ∈ wsX20, w ∈ wsX2_holds := (fun _ h => List.mem_cons_of_mem _ (List.mem_append_right _ h))
  have hl : lv_has ls 4 [(0, .ref (a 0)), (1, .int (iI t)), (2, .int (iI c)), (3, .int (iI r))] := hl
  refine lv_iload_n hx hb dX2_holds_0 rfl (lv_at hl 1 rfl) ?_
  refine ri_rd (ri_runN (As := [.int (iI t)]) (rest := []) CF (k_X3_isTest l t (by omega)) gX2_holds_X3_isTest_n24 f_X3_isTest hN.2.2.2.1 (List.mem_of_getElem? (i := 6) rfl) (List.mem_of_getElem? (i := 5) rfl) ⟨rfl, rfl, Nat.le_of_ble_eq_true rfl, Nat.le_of_ble_eq_true rfl, Nat.le_of_ble_eq_true rfl, Nat.le_of_ble_eq_true rfl⟩ tB_bl tB_in rfl hl.1 rfl (Nat.le_of_ble_eq_true rfl) dX2_holds_1) ?_
  refine ri_ifeq_b (tgt := 51) hx hb dX2_holds_4 (by decide) (fun c_1 => ?_) (fun c_1 => ?_)
  · skip
    exfalso; omega
  · skip
    refine lv_iload_n hx hb dX2_holds_7 rfl (lv_at hl 2 rfl) ?_
    refine lv_aload_n hx hb dX2_holds_8 rfl (lv_at hl 0 rfl) ?_
    refine va_get (D := D) (ci := 2) (v := .ref (a 1)) (C := RX2) (T := TX2) (N := 4) hx hb hts hinX2 hown hK hP 0 rfl rfl 0 (by decide) (hts _ (List.mem_of_getElem? (i := 1) rfl)) (fun _ h9 => h9) rfl dX2_holds_9 ?_
    refine lv_iload_n hx hb dX2_holds_12 rfl (lv_at hl 1 rfl) ?_
    refine ri_iald hx hb hK hP 1 0 rfl rfl (by omega) (by decide) dX2_holds_13 ?_
    have f_2 := hR t.toNat (by omega)
    refine ri_icmp_lt (tgt := 51) hx hb (by omega) dX2_holds_14 (by decide) (fun c_3 => ?_) (fun c_3 => ?_)
    · skip
      refine ri_iconst hx hb dX2_holds_51 ?_
      exact ri_zret hx hb hr hlocks (bp_01 _) dX2_holds_52 ((bp_f (by omega)).symm)
    · skip
      refine lv_iload_n hx hb dX2_holds_17 rfl (lv_at hl 2 rfl) ?_
      refine lv_aload_n hx hb dX2_holds_18 rfl (lv_at hl 0 rfl) ?_
      refine va_get (D := D) (ci := 2) (v := .ref (a 3)) (C := RX2) (T := TX2) (N := 4) hx hb hts hinX2 hown hK hP 0 rfl rfl 2 (by decide) (hts _ (List.mem_of_getElem? (i := 2) rfl)) (fun _ h9 => h9) rfl dX2_holds_19 ?_
      refine lv_iload_n hx hb dX2_holds_22 rfl (lv_at hl 1 rfl) ?_
      refine ri_iald hx hb hK hP 3 0 rfl rfl (by omega) (by decide) dX2_holds_23 ?_
      have f_4 := hR t.toNat (by omega)
      refine ri_icmp_ge (tgt := 51) hx hb (by omega) dX2_holds_24 (by decide) (fun c_5 => ?_) (fun c_5 => ?_)
      · skip
        refine ri_iconst hx hb dX2_holds_51 ?_
        exact ri_zret hx hb hr hlocks (bp_01 _) dX2_holds_52 ((bp_f (by omega)).symm)
      · skip
        refine lv_iload_n hx hb dX2_holds_27 rfl (lv_at hl 3 rfl) ?_
        refine lv_aload_n hx hb dX2_holds_28 rfl (lv_at hl 0 rfl) ?_
        refine va_get (D := D) (ci := 2) (v := .ref (a 2)) (C := RX2) (T := TX2) (N := 4) hx hb hts hinX2 hown hK hP 0 rfl rfl 1 (by decide) (hts _ (List.mem_of_getElem? (i := 3) rfl)) (fun _ h9 => h9) rfl dX2_holds_29 ?_
        refine lv_iload_n hx hb dX2_holds_32 rfl (lv_at hl 1 rfl) ?_
        refine ri_iald hx hb hK hP 2 0 rfl rfl (by omega) (by decide) dX2_holds_33 ?_
        have f_6 := hR t.toNat (by omega)
        refine ri_icmp_lt (tgt := 51) hx hb (by omega) dX2_holds_34 (by decide) (fun c_7 => ?_) (fun c_7 => ?_)
        · skip
          refine ri_iconst hx hb dX2_holds_51 ?_
          exact ri_zret hx hb hr hlocks (bp_01 _) dX2_holds_52 ((bp_f (by omega)).symm)
        · skip
          refine lv_iload_n hx hb dX2_holds_37 rfl (lv_at hl 3 rfl) ?_
          refine lv_aload_n hx hb dX2_holds_38 rfl (lv_at hl 0 rfl) ?_
          refine va_get (D := D) (ci := 2) (v := .ref (a 4)) (C := RX2) (T := TX2) (N := 4) hx hb hts hinX2 hown hK hP 0 rfl rfl 3 (by decide) (hts _ (List.mem_of_getElem? (i := 4) rfl)) (fun _ h9 => h9) rfl dX2_holds_39 ?_
          refine lv_iload_n hx hb dX2_holds_42 rfl (lv_at hl 1 rfl) ?_
          refine ri_iald hx hb hK hP 4 0 rfl rfl (by omega) (by decide) dX2_holds_43 ?_
          have f_8 := hR t.toNat (by omega)
          refine ri_icmp_ge (tgt := 51) hx hb (by omega) dX2_holds_44 (by decide) (fun c_9 => ?_) (fun c_9 => ?_)
          · skip
            refine ri_iconst hx hb dX2_holds_51 ?_
            exact ri_zret hx hb hr hlocks (bp_01 _) dX2_holds_52 ((bp_f (by omega)).symm)
          · skip
            refine ri_iconst hx hb dX2_holds_47 ?_
            refine lv_goto (tgt := 52) hx hb dX2_holds_48 (by decide) ?_
            exact ri_zret hx hb hr hlocks (bp_01 _) dX2_holds_52 ((bp_t (by omega)).symm)

theorem f_X2_left : MF yX2_left wsX2_left cX2_left 2 (some .int) 1 := ⟨⟨_, rfl⟩, by decide +kernel, by decide +kernel, by decide +kernel⟩
set_option maxHeartbeats 4000000 in
set_option maxRecDepth 100000 in
theorem k_X2_left (l : Launch) (D : va_G) (a : Nat → Nat) (kk : Nat → ClassId) (g : Nat → Nat → Int) (t : Int) (ht : 0 ≤ t ∧ t ≤ 4) : RD l yX2_left wsX2_left ({ frames := 2, cells := 0, slots := 0, locals := 42 }) [.ref (a 0), .int (iI t)] (wB D kk (rW a kk g)) (g 1 t.toNat) := by
  refine ri_ent (cc := cX2_left) (maxL := 2) (ret := some .int) (by decide) rfl (Nat.le_of_ble_eq_true rfl) ?_
  intro zp ze s zm zb zt zc hx hb hr hts hown hlocks hml hin hB ls hl
  have hown : s.vm.findClass RX2 = some zm.cls := hown
  have CF : CallFix zp zm zc cX2_left 2 s ([.ref (a 0), .int (iI t)] : List Value).toArray wsX2_left RX2 := ⟨hx, hb, hml, hown, hts⟩
  obtain ⟨hP, hK, hN⟩ := hB
  have hinX2 : ∀ w ∈ wsX20, w ∈ wsX2_left := (fun _ h => List.mem_cons_of_mem _ (List.mem_append_right _ h))
  have hl : lv_has ls 2 [(0, .ref (a 0)), (1, .int (iI t))] := hl
  refine lv_iload_n hx hb dX2_left_0 rfl (lv_at hl 1 rfl) ?_
  refine ri_rd (ri_runN (As := [.int (iI t)]) (rest := []) CF (k_X3_isTest l t (by omega)) gX2_left_X3_isTest_n24 f_X3_isTest hN.2.2.2.1 (List.mem_of_getElem? (i := 3) rfl) (List.mem_of_getElem? (i := 2) rfl) ⟨rfl, rfl, Nat.le_of_ble_eq_true rfl, Nat.le_of_ble_eq_true rfl, Nat.le_of_ble_eq_true rfl, Nat.le_of_ble_eq_true rfl⟩ tB_bl tB_in rfl hl.1 rfl (Nat.le_of_ble_eq_true rfl) dX2_left_1) ?_
  refine ri_ifeq_b (tgt := 16) hx hb dX2_left_4 (by decide) (fun c_1 => ?_) (fun c_1 => ?_)
  · skip
    exfalso; omega
  · skip
    refine lv_aload_n hx hb dX2_left_7 rfl (lv_at hl 0 rfl) ?_
    refine va_get (D := D) (ci := 2) (v := .ref (a 1)) (C := RX2) (T := TX2) (N := 4) hx hb hts hinX2 hown hK hP 0 rfl rfl 0 (by decide) (hts _ (List.mem_of_getElem? (i := 1) rfl)) (fun _ h9 => h9) rfl dX2_left_8 ?_
    refine lv_iload_n hx hb dX2_left_11 rfl (lv_at hl 1 rfl) ?_
    refine ri_iald hx hb hK hP 1 0 rfl rfl (by omega) (by decide) dX2_left_12 ?_
    refine lv_goto (tgt := 17) hx hb dX2_left_13 (by decide) ?_
    exact ri_iret hx hb hr hlocks dX2_left_17 (rfl)

theorem f_X2_top : MF yX2_top wsX2_top cX2_top 2 (some .int) 1 := ⟨⟨_, rfl⟩, by decide +kernel, by decide +kernel, by decide +kernel⟩
set_option maxHeartbeats 4000000 in
set_option maxRecDepth 100000 in
theorem k_X2_top (l : Launch) (D : va_G) (a : Nat → Nat) (kk : Nat → ClassId) (g : Nat → Nat → Int) (t : Int) (ht : 0 ≤ t ∧ t ≤ 4) : RD l yX2_top wsX2_top ({ frames := 2, cells := 0, slots := 0, locals := 42 }) [.ref (a 0), .int (iI t)] (wB D kk (rW a kk g)) (g 2 t.toNat) := by
  refine ri_ent (cc := cX2_top) (maxL := 2) (ret := some .int) (by decide) rfl (Nat.le_of_ble_eq_true rfl) ?_
  intro zp ze s zm zb zt zc hx hb hr hts hown hlocks hml hin hB ls hl
  have hown : s.vm.findClass RX2 = some zm.cls := hown
  have CF : CallFix zp zm zc cX2_top 2 s ([.ref (a 0), .int (iI t)] : List Value).toArray wsX2_top RX2 := ⟨hx, hb, hml, hown, hts⟩
  obtain ⟨hP, hK, hN⟩ := hB
  have hinX2 : ∀ w ∈ wsX20, w ∈ wsX2_top := (fun _ h => List.mem_cons_of_mem _ (List.mem_append_right _ h))
  have hl : lv_has ls 2 [(0, .ref (a 0)), (1, .int (iI t))] := hl
  refine lv_iload_n hx hb dX2_top_0 rfl (lv_at hl 1 rfl) ?_
  refine ri_rd (ri_runN (As := [.int (iI t)]) (rest := []) CF (k_X3_isTest l t (by omega)) gX2_top_X3_isTest_n24 f_X3_isTest hN.2.2.2.1 (List.mem_of_getElem? (i := 3) rfl) (List.mem_of_getElem? (i := 2) rfl) ⟨rfl, rfl, Nat.le_of_ble_eq_true rfl, Nat.le_of_ble_eq_true rfl, Nat.le_of_ble_eq_true rfl, Nat.le_of_ble_eq_true rfl⟩ tB_bl tB_in rfl hl.1 rfl (Nat.le_of_ble_eq_true rfl) dX2_top_1) ?_
  refine ri_ifeq_b (tgt := 16) hx hb dX2_top_4 (by decide) (fun c_1 => ?_) (fun c_1 => ?_)
  · skip
    exfalso; omega
  · skip
    refine lv_aload_n hx hb dX2_top_7 rfl (lv_at hl 0 rfl) ?_
    refine va_get (D := D) (ci := 2) (v := .ref (a 2)) (C := RX2) (T := TX2) (N := 4) hx hb hts hinX2 hown hK hP 0 rfl rfl 1 (by decide) (hts _ (List.mem_of_getElem? (i := 1) rfl)) (fun _ h9 => h9) rfl dX2_top_8 ?_
    refine lv_iload_n hx hb dX2_top_11 rfl (lv_at hl 1 rfl) ?_
    refine ri_iald hx hb hK hP 2 0 rfl rfl (by omega) (by decide) dX2_top_12 ?_
    refine lv_goto (tgt := 17) hx hb dX2_top_13 (by decide) ?_
    exact ri_iret hx hb hr hlocks dX2_top_17 (rfl)

theorem f_X2_right : MF yX2_right wsX2_right cX2_right 2 (some .int) 1 := ⟨⟨_, rfl⟩, by decide +kernel, by decide +kernel, by decide +kernel⟩
set_option maxHeartbeats 4000000 in
set_option maxRecDepth 100000 in
theorem k_X2_right (l : Launch) (D : va_G) (a : Nat → Nat) (kk : Nat → ClassId) (g : Nat → Nat → Int) (t : Int) (ht : 0 ≤ t ∧ t ≤ 4) : RD l yX2_right wsX2_right ({ frames := 2, cells := 0, slots := 0, locals := 42 }) [.ref (a 0), .int (iI t)] (wB D kk (rW a kk g)) (g 3 t.toNat) := by
  refine ri_ent (cc := cX2_right) (maxL := 2) (ret := some .int) (by decide) rfl (Nat.le_of_ble_eq_true rfl) ?_
  intro zp ze s zm zb zt zc hx hb hr hts hown hlocks hml hin hB ls hl
  have hown : s.vm.findClass RX2 = some zm.cls := hown
  have CF : CallFix zp zm zc cX2_right 2 s ([.ref (a 0), .int (iI t)] : List Value).toArray wsX2_right RX2 := ⟨hx, hb, hml, hown, hts⟩
  obtain ⟨hP, hK, hN⟩ := hB
  have hinX2 : ∀ w ∈ wsX20, w ∈ wsX2_right := (fun _ h => List.mem_cons_of_mem _ (List.mem_append_right _ h))
  have hl : lv_has ls 2 [(0, .ref (a 0)), (1, .int (iI t))] := hl
  refine lv_iload_n hx hb dX2_right_0 rfl (lv_at hl 1 rfl) ?_
  refine ri_rd (ri_runN (As := [.int (iI t)]) (rest := []) CF (k_X3_isTest l t (by omega)) gX2_right_X3_isTest_n24 f_X3_isTest hN.2.2.2.1 (List.mem_of_getElem? (i := 3) rfl) (List.mem_of_getElem? (i := 2) rfl) ⟨rfl, rfl, Nat.le_of_ble_eq_true rfl, Nat.le_of_ble_eq_true rfl, Nat.le_of_ble_eq_true rfl, Nat.le_of_ble_eq_true rfl⟩ tB_bl tB_in rfl hl.1 rfl (Nat.le_of_ble_eq_true rfl) dX2_right_1) ?_
  refine ri_ifeq_b (tgt := 16) hx hb dX2_right_4 (by decide) (fun c_1 => ?_) (fun c_1 => ?_)
  · skip
    exfalso; omega
  · skip
    refine lv_aload_n hx hb dX2_right_7 rfl (lv_at hl 0 rfl) ?_
    refine va_get (D := D) (ci := 2) (v := .ref (a 3)) (C := RX2) (T := TX2) (N := 4) hx hb hts hinX2 hown hK hP 0 rfl rfl 2 (by decide) (hts _ (List.mem_of_getElem? (i := 1) rfl)) (fun _ h9 => h9) rfl dX2_right_8 ?_
    refine lv_iload_n hx hb dX2_right_11 rfl (lv_at hl 1 rfl) ?_
    refine ri_iald hx hb hK hP 3 0 rfl rfl (by omega) (by decide) dX2_right_12 ?_
    refine lv_goto (tgt := 17) hx hb dX2_right_13 (by decide) ?_
    exact ri_iret hx hb hr hlocks dX2_right_17 (rfl)

theorem f_X2_bottom : MF yX2_bottom wsX2_bottom cX2_bottom 2 (some .int) 1 := ⟨⟨_, rfl⟩, by decide +kernel, by decide +kernel, by decide +kernel⟩
set_option maxHeartbeats 4000000 in
set_option maxRecDepth 100000 in
theorem k_X2_bottom (l : Launch) (D : va_G) (a : Nat → Nat) (kk : Nat → ClassId) (g : Nat → Nat → Int) (t : Int) (ht : 0 ≤ t ∧ t ≤ 4) : RD l yX2_bottom wsX2_bottom ({ frames := 2, cells := 0, slots := 0, locals := 42 }) [.ref (a 0), .int (iI t)] (wB D kk (rW a kk g)) (g 4 t.toNat) := by
  refine ri_ent (cc := cX2_bottom) (maxL := 2) (ret := some .int) (by decide) rfl (Nat.le_of_ble_eq_true rfl) ?_
  intro zp ze s zm zb zt zc hx hb hr hts hown hlocks hml hin hB ls hl
  have hown : s.vm.findClass RX2 = some zm.cls := hown
  have CF : CallFix zp zm zc cX2_bottom 2 s ([.ref (a 0), .int (iI t)] : List Value).toArray wsX2_bottom RX2 := ⟨hx, hb, hml, hown, hts⟩
  obtain ⟨hP, hK, hN⟩ := hB
  have hinX2 : ∀ w ∈ wsX20, w ∈ wsX2_bottom := (fun _ h => List.mem_cons_of_mem _ (List.mem_append_right _ h))
  have hl : lv_has ls 2 [(0, .ref (a 0)), (1, .int (iI t))] := hl
  refine lv_iload_n hx hb dX2_bottom_0 rfl (lv_at hl 1 rfl) ?_
  refine ri_rd (ri_runN (As := [.int (iI t)]) (rest := []) CF (k_X3_isTest l t (by omega)) gX2_bottom_X3_isTest_n24 f_X3_isTest hN.2.2.2.1 (List.mem_of_getElem? (i := 3) rfl) (List.mem_of_getElem? (i := 2) rfl) ⟨rfl, rfl, Nat.le_of_ble_eq_true rfl, Nat.le_of_ble_eq_true rfl, Nat.le_of_ble_eq_true rfl, Nat.le_of_ble_eq_true rfl⟩ tB_bl tB_in rfl hl.1 rfl (Nat.le_of_ble_eq_true rfl) dX2_bottom_1) ?_
  refine ri_ifeq_b (tgt := 16) hx hb dX2_bottom_4 (by decide) (fun c_1 => ?_) (fun c_1 => ?_)
  · skip
    exfalso; omega
  · skip
    refine lv_aload_n hx hb dX2_bottom_7 rfl (lv_at hl 0 rfl) ?_
    refine va_get (D := D) (ci := 2) (v := .ref (a 4)) (C := RX2) (T := TX2) (N := 4) hx hb hts hinX2 hown hK hP 0 rfl rfl 3 (by decide) (hts _ (List.mem_of_getElem? (i := 1) rfl)) (fun _ h9 => h9) rfl dX2_bottom_8 ?_
    refine lv_iload_n hx hb dX2_bottom_11 rfl (lv_at hl 1 rfl) ?_
    refine ri_iald hx hb hK hP 4 0 rfl rfl (by omega) (by decide) dX2_bottom_12 ?_
    refine lv_goto (tgt := 17) hx hb dX2_bottom_13 (by decide) ?_
    exact ri_iret hx hb hr hlocks dX2_bottom_17 (rfl)

theorem f_X0_length : MF yX0_length wsX0_length cX0_length 2 (some .int) 1 := ⟨⟨_, rfl⟩, by decide +kernel, by decide +kernel, by decide +kernel⟩
set_option maxHeartbeats 4000000 in
set_option maxRecDepth 100000 in
theorem k_X0_length (l : Launch) (D : va_G) (a : Nat → Nat) (kk : Nat → ClassId) (g : Nat → Nat → Int) (t : Int) (ht : 0 ≤ t ∧ t ≤ 4) : RD l yX0_length wsX0_length ({ frames := 2, cells := 0, slots := 0, locals := 42 }) [.ref (a 14), .int (iI t)] (wB D kk (xW a kk g)) (g 16 t.toNat) := by
  refine ri_ent (cc := cX0_length) (maxL := 2) (ret := some .int) (by decide) rfl (Nat.le_of_ble_eq_true rfl) ?_
  intro zp ze s zm zb zt zc hx hb hr hts hown hlocks hml hin hB ls hl
  have hown : s.vm.findClass RX0 = some zm.cls := hown
  have CF : CallFix zp zm zc cX0_length 2 s ([.ref (a 14), .int (iI t)] : List Value).toArray wsX0_length RX0 := ⟨hx, hb, hml, hown, hts⟩
  obtain ⟨hP, hK, hN⟩ := hB
  have hinX0 : ∀ w ∈ wsX00, w ∈ wsX0_length := (fun _ h => List.mem_cons_of_mem _ (List.mem_append_right _ h))
  have hl : lv_has ls 2 [(0, .ref (a 14)), (1, .int (iI t))] := hl
  refine lv_iload_n hx hb dX0_length_0 rfl (lv_at hl 1 rfl) ?_
  refine ri_rd (ri_runN (As := [.int (iI t)]) (rest := []) CF (k_X3_isTest l t (by omega)) gX0_length_X3_isTest_n18 f_X3_isTest hN.1 (List.mem_of_getElem? (i := 3) rfl) (List.mem_of_getElem? (i := 2) rfl) ⟨rfl, rfl, Nat.le_of_ble_eq_true rfl, Nat.le_of_ble_eq_true rfl, Nat.le_of_ble_eq_true rfl, Nat.le_of_ble_eq_true rfl⟩ tB_bl tB_in rfl hl.1 rfl (Nat.le_of_ble_eq_true rfl) dX0_length_1) ?_
  refine ri_ifeq_b (tgt := 16) hx hb dX0_length_4 (by decide) (fun c_1 => ?_) (fun c_1 => ?_)
  · skip
    exfalso; omega
  · skip
    refine lv_aload_n hx hb dX0_length_7 rfl (lv_at hl 0 rfl) ?_
    refine va_get (D := D) (ci := 0) (v := .ref (a 16)) (C := RX0) (T := TX0) (N := 2) hx hb hts hinX0 hown hK hP 14 rfl rfl 1 (by decide) (hts _ (List.mem_of_getElem? (i := 1) rfl)) (fun _ h9 => h9) rfl dX0_length_8 ?_
    refine lv_iload_n hx hb dX0_length_11 rfl (lv_at hl 1 rfl) ?_
    refine ri_iald hx hb hK hP 16 0 rfl rfl (by omega) (by decide) dX0_length_12 ?_
    refine lv_goto (tgt := 17) hx hb dX0_length_13 (by decide) ?_
    exact ri_iret hx hb hr hlocks dX0_length_17 (rfl)
end
section
/-! ===== comparing, in the document's words; pure rows ===== -/
/-- the picture of a slot, by column and row -/
def px (f : Nat → Int) (s : Int) : Int → Int → Int := fun c r => f (s * 64 + r * 8 + c).toNat
def isNb (c r c1 r1 : Int) : Prop := (c - 1 ≤ c1 ∧ c1 ≤ c + 1) ∧ (r - 1 ≤ r1 ∧ r1 ≤ r + 1) ∧ (0 ≤ c1 ∧ c1 ≤ 7) ∧ (0 ≤ r1 ∧ r1 ≤ 7)
def nbP (P : Int → Int → Int) (c r v : Int) : Prop := ∃ c1 r1, isNb c r c1 r1 ∧ v = P c1 r1
/-- a cell is soft -/
def softP (P Q : Int → Int → Int) (b c r : Int) : Prop := ∃ lo hi, nbP P c r lo ∧ nbP P c r hi ∧ (∀ v, nbP P c r v → lo ≤ v ∧ v ≤ hi) ∧ b < hi - lo ∧ lo ≤ Q c r ∧ Q c r ≤ hi
/-- the least and the greatest of the neighbours that have been seen -/
def accP (P : Int → Int → Int) (c r lo gr : Int) (V : Int → Int → Prop) : Prop := (0 ≤ lo ∧ lo ≤ 255) ∧ (0 ≤ gr ∧ gr ≤ 255) ∧ (lo = 255 ∨ nbP P c r lo) ∧ (gr = 0 ∨ nbP P c r gr) ∧ ∀ c1 r1, isNb c r c1 r1 → V c1 r1 → lo ≤ P c1 r1 ∧ P c1 r1 ≤ gr
theorem acc_0 (P : Int → Int → Int) (c r : Int) {V : Int → Int → Prop} (hV : ∀ c1 r1, isNb c r c1 r1 → ¬ V c1 r1) : accP P c r 255 0 V := ⟨by omega, by omega, Or.inl rfl, Or.inl rfl, fun c1 r1 h1 h2 => absurd h2 (hV c1 r1 h1)⟩
theorem acc_w {P : Int → Int → Int} {c r lo gr : Int} {V V2 : Int → Int → Prop} (h : accP P c r lo gr V) (hV : ∀ c1 r1, isNb c r c1 r1 → V2 c1 r1 → V c1 r1) : accP P c r lo gr V2 := ⟨h.1, h.2.1, h.2.2.1, h.2.2.2.1, fun c1 r1 h1 h2 => h.2.2.2.2 c1 r1 h1 (hV c1 r1 h1 h2)⟩
theorem acc_s {P : Int → Int → Int} {c r lo gr lo2 gr2 c0 r0 : Int} {V V2 : Int → Int → Prop} (h : accP P c r lo gr V) (hn : isNb c r c0 r0) (hb : 0 ≤ P c0 r0 ∧ P c0 r0 ≤ 255) (h1 : lo2 ≤ lo ∧ lo2 ≤ P c0 r0 ∧ (lo2 = lo ∨ lo2 = P c0 r0)) (h2 : gr ≤ gr2 ∧ P c0 r0 ≤ gr2 ∧ (gr2 = gr ∨ gr2 = P c0 r0)) (hV : ∀ c1 r1, isNb c r c1 r1 → V2 c1 r1 → V c1 r1 ∨ (c1 = c0 ∧ r1 = r0)) : accP P c r lo2 gr2 V2 := by
  obtain ⟨a1, a2, a3, a4, a5⟩ := h
  refine ⟨by omega, by omega, ?_, ?_, fun c1 r1 q1 q2 => ?_⟩
  · rcases h1.2.2 with e | e
    · rw [e]; exact a3
    · exact Or.inr ⟨c0, r0, hn, e⟩
  · rcases h2.2.2 with e | e
    · rw [e]; exact a4
    · exact Or.inr ⟨c0, r0, hn, e⟩
  · rcases hV c1 r1 q1 q2 with h | ⟨rfl, rfl⟩
    · have := a5 c1 r1 q1 h
      omega
    · omega
theorem acc_e {P Q : Int → Int → Int} {b c r lo gr : Int} {V : Int → Int → Prop} (h : accP P c r lo gr V) (hV : ∀ c1 r1, isNb c r c1 r1 → V c1 r1) (hc : (0 ≤ c ∧ c ≤ 7) ∧ (0 ≤ r ∧ r ≤ 7)) (hb : 0 ≤ P c r ∧ P c r ≤ 255) (h0 : 0 ≤ b) : softP P Q b c r ↔ (¬ (lo - gr ≤ b ∧ gr - lo ≤ b) ∧ lo ≤ Q c r ∧ Q c r ≤ gr) := by
  obtain ⟨a1, a2, a3, a4, a5⟩ := h
  have hn : isNb c r c r := ⟨by omega, by omega, hc.1, hc.2⟩
  have hcc := a5 c r hn (hV c r hn)
  have n1 : nbP P c r lo := a3.elim (fun e => ⟨c, r, hn, by omega⟩) id
  have n2 : nbP P c r gr := a4.elim (fun e => ⟨c, r, hn, by omega⟩) id
  constructor
  · rintro ⟨l1, g1, q1, q2, q3, q4, q5, q6⟩
    have e1 := q3 _ n1
    have e2 := q3 _ n2
    obtain ⟨c1, r1, w1, w2⟩ := q1
    obtain ⟨c2, r2, w3, w4⟩ := q2
    have e3 := a5 c1 r1 w1 (hV _ _ w1)
    have e4 := a5 c2 r2 w3 (hV _ _ w3)
    omega
  · rintro ⟨q1, q2, q3⟩
    exact ⟨lo, gr, n1, n2, fun v ⟨c1, r1, w1, w2⟩ => by rw [w2]; exact a5 c1 r1 w1 (hV _ _ w1), by omega, q2, q3⟩
/-- the part's cell (c, r), moved, is alike to the approved one -/
def fitC (P Q : Int → Int → Int) (b dc dr c r : Int) : Prop := ((0 ≤ c + dc ∧ c + dc ≤ 7) ∧ (0 ≤ r + dr ∧ r + dr ≤ 7)) ∧ (P (c + dc) (r + dr) - Q c r ≤ b ∧ Q c r - P (c + dc) (r + dr) ≤ b)
def fitP (P Q : Int → Int → Int) (b lf tp ri bo dc dr : Int) : Prop := ∀ c r : Int, lf ≤ c → c < ri → tp ≤ r → r < bo → fitC P Q b dc dr c r
def in5 (dc dr : Int) : Prop := (-2 ≤ dc ∧ dc ≤ 2) ∧ (-2 ≤ dr ∧ dr ≤ 2)
/-- of two moves the one that counts -/
def keyP (dc dr c1 r1 : Int) : Prop := (dc.natAbs : Int) + dr.natAbs < (c1.natAbs : Int) + r1.natAbs ∨ ((dc.natAbs : Int) + dr.natAbs = (c1.natAbs : Int) + r1.natAbs ∧ (dr < r1 ∨ (dr = r1 ∧ dc ≤ c1)))
def bestP (F : Int → Int → Prop) (dc dr : Int) : Prop := (in5 dc dr ∧ F dc dr ∧ ∀ c1 r1, in5 c1 r1 → F c1 r1 → keyP dc dr c1 r1) ∨ (dc = 0 ∧ dr = 0 ∧ ∀ c1 r1, in5 c1 r1 → ¬ F c1 r1)
noncomputable def mvE (F : Int → Int → Prop) : Int × Int := @Classical.epsilon (Int × Int) ⟨(0, 0)⟩ (fun q => bestP F q.1 q.2)
theorem best_u {F : Int → Int → Prop} {a b c d : Int} (h1 : bestP F a b) (h2 : bestP F c d) : a = c ∧ b = d := by
  rcases h1 with ⟨i1, f1, m1⟩ | ⟨rfl, rfl, n1⟩
  · rcases h2 with ⟨i2, f2, m2⟩ | ⟨rfl, rfl, n2⟩
    · have k1 := m1 c d i2 f2
      have k2 := m2 a b i1 f1
      unfold keyP at k1 k2
      omega
    · exact absurd f1 (n2 a b i1)
  · rcases h2 with ⟨i2, f2, m2⟩ | ⟨rfl, rfl, n2⟩
    · exact absurd f2 (n1 c d i2)
    · exact ⟨rfl, rfl⟩
theorem mvE_eq {F : Int → Int → Prop} {dc dr : Int} (h : bestP F dc dr) : mvE F = (dc, dr) := by
  have h1 : bestP F (mvE F).1 (mvE F).2 := @Classical.epsilon_spec (Int × Int) (fun q => bestP F q.1 q.2) ⟨(dc, dr), h⟩
  obtain ⟨e1, e2⟩ := best_u h1 h
  exact Prod.ext e1 e2
theorem best_ex (F : Int → Int → Prop) : ∃ dc dr, bestP F dc dr := by
  by_cases h : ∃ dc dr, in5 dc dr ∧ F dc dr
  · obtain ⟨a, b, hi, hf⟩ := h
    obtain ⟨k, ⟨dc, dr, i1, f1, e1⟩, hmin⟩ := pk_least (fun k => ∃ dc dr, in5 dc dr ∧ F dc dr ∧ ((dc.natAbs : Int) + dr.natAbs) * 25 + (dr + 2) * 5 + (dc + 2) = (k : Int)) ⟨(((a.natAbs : Int) + b.natAbs) * 25 + (b + 2) * 5 + (a + 2)).toNat, a, b, hi, hf, by unfold in5 at hi; omega⟩
    refine ⟨dc, dr, Or.inl ⟨i1, f1, fun c1 r1 i2 f2 => ?_⟩⟩
    unfold keyP
    unfold in5 at i1 i2
    by_cases hk : (((c1.natAbs : Int) + r1.natAbs) * 25 + (r1 + 2) * 5 + (c1 + 2)).toNat < k
    · exact absurd ⟨c1, r1, i2, f2, by omega⟩ (hmin _ hk)
    · omega
  · exact ⟨0, 0, Or.inr ⟨rfl, rfl, fun c1 r1 i f => h ⟨c1, r1, i, f⟩⟩⟩
theorem mvE_in (F : Int → Int → Prop) : bestP F (mvE F).1 (mvE F).2 ∧ in5 (mvE F).1 (mvE F).2 := by
  obtain ⟨dc, dr, h⟩ := best_ex F
  rw [mvE_eq h]
  refine ⟨h, ?_⟩
  rcases h with ⟨i, -, -⟩ | ⟨rfl, rfl, -⟩
  · exact i
  · unfold in5; omega
/-- how the part has moved, as the method move answers it -/
noncomputable def mvN (F : Int → Int → Prop) : Int := 5050 + 100 * (mvE F).2 + (mvE F).1
theorem mvN_in (F : Int → Int → Prop) : 4848 ≤ mvN F ∧ mvN F ≤ 5252 := by
  have h := (mvE_in F).2
  unfold mvN
  unfold in5 at h
  omega
theorem mvN_c (F : Int → Int → Prop) : mvN F % 100 - 50 = (mvE F).1 ∧ mvN F / 100 - 50 = (mvE F).2 := by
  have h := (mvE_in F).2
  unfold mvN
  unfold in5 at h
  omega
theorem mvN_of {F : Int → Int → Prop} {dc dr : Int} (h : bestP F dc dr) : mvN F = 5050 + 100 * dr + dc := by
  unfold mvN
  rw [mvE_eq h]
theorem best_00 {F : Int → Int → Prop} (h : F 0 0) : bestP F 0 0 := Or.inl ⟨by unfold in5; omega, h, fun c1 r1 _ _ => by unfold keyP; omega⟩
/-- the best of the moves that have been seen -/
def fstP (F : Int → Int → Prop) (found least : Int) (V : Int → Int → Prop) : Prop := (found = 5050 ∧ least = 5 ∧ ∀ c1 r1, in5 c1 r1 → V c1 r1 → ¬ F c1 r1) ∨ (∃ dc dr : Int, in5 dc dr ∧ V dc dr ∧ F dc dr ∧ found = 5050 + 100 * dr + dc ∧ least = (dc.natAbs : Int) + dr.natAbs ∧ ∀ c1 r1, in5 c1 r1 → V c1 r1 → F c1 r1 → keyP dc dr c1 r1)
theorem fst_r {F : Int → Int → Prop} {found least : Int} {V : Int → Int → Prop} (h : fstP F found least V) : 0 ≤ least ∧ least ≤ 5 ∧ 4848 ≤ found ∧ found ≤ 5252 := by
  rcases h with ⟨h1, h2, -⟩ | ⟨dc, dr, i, -, -, h1, h2, -⟩
  · omega
  · unfold in5 at i; omega
theorem fst_w {F : Int → Int → Prop} {found least : Int} {V V2 : Int → Int → Prop} (h : fstP F found least V) (h12 : ∀ c1 r1, in5 c1 r1 → (V c1 r1 ↔ V2 c1 r1)) : fstP F found least V2 := by
  rcases h with ⟨h1, h2, h3⟩ | ⟨dc, dr, i, v, f, h1, h2, h3⟩
  · exact Or.inl ⟨h1, h2, fun c1 r1 a b => h3 c1 r1 a ((h12 c1 r1 a).mpr b)⟩
  · exact Or.inr ⟨dc, dr, i, (h12 _ _ i).mp v, f, h1, h2, fun c1 r1 a b => h3 c1 r1 a ((h12 c1 r1 a).mpr b)⟩
theorem fst_take {F : Int → Int → Prop} {found least c0 r0 : Int} {V V2 : Int → Int → Prop} (h : fstP F found least V) (h0 : in5 c0 r0) (hl : (c0.natAbs : Int) + r0.natAbs < least) (hf : F c0 r0) (h12 : ∀ c1 r1, in5 c1 r1 → (V2 c1 r1 ↔ V c1 r1 ∨ (c1 = c0 ∧ r1 = r0))) : fstP F (5050 + 100 * r0 + c0) ((c0.natAbs : Int) + r0.natAbs) V2 := by
  refine Or.inr ⟨c0, r0, h0, (h12 _ _ h0).mpr (Or.inr ⟨rfl, rfl⟩), hf, rfl, rfl, fun c1 r1 i v f => ?_⟩
  rcases (h12 _ _ i).mp v with q | ⟨rfl, rfl⟩
  · rcases h with ⟨-, -, h3⟩ | ⟨dc, dr, i2, v2, f2, -, h2, h3⟩
    · exact absurd f (h3 c1 r1 i q)
    · have k := h3 c1 r1 i q f
      unfold keyP at k ⊢
      omega
  · unfold keyP; omega
theorem fst_skip {F : Int → Int → Prop} {found least c0 r0 : Int} {V V2 : Int → Int → Prop} (h : fstP F found least V) (h0 : in5 c0 r0) (hl : least ≤ (c0.natAbs : Int) + r0.natAbs ∨ ¬ F c0 r0) (hlex : ∀ c1 r1, V c1 r1 → r1 < r0 ∨ (r1 = r0 ∧ c1 < c0)) (h12 : ∀ c1 r1, in5 c1 r1 → (V2 c1 r1 ↔ V c1 r1 ∨ (c1 = c0 ∧ r1 = r0))) : fstP F found least V2 := by
  rcases h with ⟨h1, h2, h3⟩ | ⟨dc, dr, i, v, f, h1, h2, h3⟩
  · refine Or.inl ⟨h1, h2, fun c1 r1 a b => ?_⟩
    rcases (h12 _ _ a).mp b with q | ⟨rfl, rfl⟩
    · exact h3 c1 r1 a q
    · rcases hl with q | q
      · unfold in5 at h0; omega
      · exact q
  · refine Or.inr ⟨dc, dr, i, (h12 _ _ i).mpr (Or.inl v), f, h1, h2, fun c1 r1 a b q => ?_⟩
    rcases (h12 _ _ a).mp b with w | ⟨rfl, rfl⟩
    · exact h3 c1 r1 a w q
    · rcases hl with z | z
      · have := hlex dc dr v
        unfold keyP
        omega
      · exact absurd q z
theorem fst_e {F : Int → Int → Prop} {found least : Int} {V : Int → Int → Prop} (h : fstP F found least V) (hV : ∀ c1 r1, in5 c1 r1 → V c1 r1) : found = mvN F := by
  rcases h with ⟨h1, h2, h3⟩ | ⟨dc, dr, i, v, f, h1, h2, h3⟩
  · rw [mvN_of (Or.inr ⟨rfl, rfl, fun c1 r1 a => h3 c1 r1 a (hV c1 r1 a)⟩)]
    omega
  · rw [mvN_of (Or.inl ⟨i, f, fun c1 r1 a => h3 c1 r1 a (hV c1 r1 a)⟩)]
    exact h1
/-- a cell of a rectangle -/
def inR (lf tp ri bo c r : Int) : Prop := (lf ≤ c ∧ c < ri) ∧ (tp ≤ r ∧ r < bo)
/-- a cell differs; dc, dr: how the part has moved; lf .. bo: the part; ml .. mb: the mask, from the part's upper left cell -/
def difP (P Q : Int → Int → Int) (b lf tp ri bo ml mt mr mb dc dr c r : Int) : Prop :=
  ¬ (P c r - Q c r ≤ b ∧ Q c r - P c r ≤ b) ∧ ¬ (¬ (dc = 0 ∧ dr = 0) ∧ (inR lf tp ri bo c r ∨ inR lf tp ri bo (c - dc) (r - dr))) ∧ ¬ inR ml mt mr mb (c - dc - lf) (r - dr - tp) ∧ ¬ softP P Q b c r
/-- the first place where D holds, or -1 -/
def fstD (D : Int → Prop) (v : Int) : Prop := (v = -1 ∧ ∀ k : Int, 0 ≤ k → k < 64 → ¬ D k) ∨ ((0 ≤ v ∧ v < 64) ∧ D v ∧ ∀ k : Int, 0 ≤ k → k < v → ¬ D k)
noncomputable def fdE (D : Int → Prop) : Int := @Classical.epsilon Int ⟨0⟩ (fstD D)
theorem fdE_eq {D : Int → Prop} {v : Int} (h : fstD D v) : v = fdE D := by
  have h1 : fstD D (fdE D) := @Classical.epsilon_spec Int (fstD D) ⟨v, h⟩
  generalize fdE D = w at h1
  rcases h with ⟨e1, n1⟩ | ⟨i1, d1, n1⟩ <;> rcases h1 with ⟨e2, n2⟩ | ⟨i2, d2, n2⟩
  · omega
  · exact absurd d2 (n1 w (by omega) (by omega))
  · exact absurd d1 (n2 v (by omega) (by omega))
  · rcases Int.lt_trichotomy v w with q | q | q
    · exact absurd d1 (n2 v (by omega) q)
    · exact q
    · exact absurd d2 (n1 w (by omega) q)
theorem fdE_r (D : Int → Prop) (h : ∃ v, fstD D v) : -1 ≤ fdE D ∧ fdE D < 64 := by
  obtain ⟨v, hv⟩ := h
  rw [← fdE_eq hv]
  rcases hv with ⟨e1, -⟩ | ⟨i1, -, -⟩ <;> omega
/-- at how many of the first n places D holds -/
noncomputable def cntE (D : Int → Prop) : Nat → Int
  | 0 => 0
  | n + 1 => cntE D n + bp (D (n : Int))
theorem cntE_r (D : Int → Prop) (n : Nat) : 0 ≤ cntE D n ∧ cntE D n ≤ (n : Int) := by
  induction n with
  | zero => exact ⟨Int.le_refl _, Int.le_refl _⟩
  | succ n ih =>
    have h := bp_r (D (n : Int))
    show 0 ≤ cntE D n + bp (D (n : Int)) ∧ cntE D n + bp (D (n : Int)) ≤ ((n + 1 : Nat) : Int)
    omega
theorem cntE_t {D : Int → Prop} {i : Int} (h0 : 0 ≤ i) (h : D i) : cntE D i.toNat + 1 = cntE D (i + 1).toNat := by
  have e : (i + 1).toNat = i.toNat + 1 := by omega
  rw [e]
  show _ = cntE D i.toNat + bp (D (i.toNat : Int))
  rw [show ((i.toNat : Nat) : Int) = i by omega, bp_t h]
theorem cntE_f {D : Int → Prop} {i : Int} (h0 : 0 ≤ i) (h : ¬ D i) : cntE D i.toNat = cntE D (i + 1).toNat := by
  have e : (i + 1).toNat = i.toNat + 1 := by omega
  rw [e]
  show _ = cntE D i.toNat + bp (D (i.toNat : Int))
  rw [show ((i.toNat : Nat) : Int) = i by omega, bp_f h]
  omega
end
