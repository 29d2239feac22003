/-! ===== the law in a room that is large enough; and in the Statement's own =====
The Statement's room for this law is 111 cells. In a room of 17000 the law comes to its end on every script of at most 260 ints, and answers true (pz_comes):
the property holds of the class. But on a script that begins with seven times 6 that end has at least 112 new cells (pz_Q); so a start at such a script refutes
both parts of the Statement (p18_falls), and neither holds (p18_false). -/

set_option maxHeartbeats 4000000 in
theorem pz_walk (l : Launch) (hflags : l.flags = flags0) (b : Addr) (xs : List Int32) : MetFree l x (headSpec (Jvm.Cond.code x code maxLocals ret :: tables_1) bigR) (lw_P b xs) (fun _ _ _ _ _ => True) (fun _ s o t => pz_Q (Z7 xs.length (fun j => xs.getD j 0)) s o t) := by
  refine MetFree.of_bodyS (code := code) (maxLocals := maxLocals) (ret := ret) (by decide) ?_ ?_
  · intro args s m h hn
    obtain ⟨meth, c, h1, h2, h3, h4, h5, h6, -, -⟩ := Cond.code_spec hn (atoms_spec (ws := Jvm.Cond.code x code maxLocals ret :: tables_1) h _ List.mem_cons_self)
    exact ⟨meth, c, h1, h2, h3, h4, h5, h6⟩
  · intro p e s m args below meth c s₁ B hml0 hP _
    obtain ⟨rfl, hx, hbd, hgv⟩ := hP
    obtain ⟨scr, harrAt, hlist, hof, hsmall⟩ := hx
    obtain ⟨hcb, hkn, -, -⟩ := State.arrayAt?_spec harrAt
    have hown : s.vm.findClass R_law = some m.cls := findClass_of_methodNamed B.named
    have hts0 : ∀ c ∈ (Jvm.Cond.code x code maxLocals ret :: tables_1), c.before #[Value.ref b] s = true := atoms_spec (ws := Jvm.Cond.code x code maxLocals ret :: tables_1) B.pre
    have hts : ∀ w ∈ lw_tbl, w.before #[Value.ref b] s = true := k2_hts_sels lw_privs (fun w hw => hts0 w (List.mem_cons_of_mem _ hw)) lw_privs_ok
    have hml : c.maxLocals = 6 := B.maxLocals_eq (hts0 _ List.mem_cons_self)
    have X₀ : Stand p l e bigR s m #[Value.ref b] below meth c s₁ [] 0 0 := Stand.of_body B
    have hh0 : s₁.heap = s.heap := by rw [B.state]; rfl
    have hsz : scr.slots.size = xs.length := by rw [← Array.length_toList, hlist, List.length_map]
    have hval : ∀ j : Nat, j < xs.length → scr.slots[j]? = some (.int (xs.getD j 0)) := fun j hj => by
      rw [← Array.getElem?_toList, hlist]
      simp [hj]
    have hbl : b < s.heap.size := (Array.getElem?_eq_some_iff.mp hcb).1
    have hX : va_X b xs.length (fun j => xs.getD j 0) s s.heap := ⟨scr, hcb, hof, hkn, hsz, hval⟩
    have K : W p l e bigR s m #[Value.ref b] below meth c s₁.heap [] 0 0 (pz_Z below (Z7 xs.length (fun j => xs.getD j 0)) s) (entryFrame m ([Value.ref b] : List Value).toArray 6) := by
      rw [hh0]
      exact pz_start l hflags hbd ⟨B.exec, B.bytes, B.returns, hml, hown, hts, hX, hbl, B.notSynchronized, hgv⟩
    obtain ⟨t, a1, o, b1, b2, b3⟩ := K s₁ rfl X₀
    exact ⟨t, o, a1, b1, b2, b3⟩

theorem lw_pre_spec {args : Array Value} {s : State} (h : (Jvm.Cond.and given_1 narrow_1).before args s = true) (hr : rest_1_c.before args s = true) : ∃ (b : Addr) (xs : List Int32), lw_P b xs args s := by
  have hs := flat_of_before _ h
  have hq := flat_of_before _ hr
  have hc : (Cond.count 1).before args s = true := hs _ (by decide +kernel)
  have harr : (Cond.arrayOf (.arg 0) .int).before args s = true := hs _ (by decide +kernel)
  have hle : (Cond.le (.length (.arg 0)) (.int 260)).before args s = true := hs _ (by decide +kernel)
  have hlen : (Cond.isInt (.length (.arg 0))).before args s = true := hq _ (by decide +kernel)
  have hall : (Cond.all (.arg 0) (.isInt (.elem (.arg 0) (.index 0)))).before args s = true := hq _ (by decide +kernel)
  obtain ⟨b, xs, hb, hx⟩ := State.ints_of_pre rfl harr hlen hall
  have hsm : xs.length < 2 ^ 31 := hx.choose_spec.2.2.2
  have hev : (Term.length (.arg 0)).eval args s none [] s = some (.int xs.length.toInt32) := hx.length_eval hb
  have hv := Cond.le_ints hev (show (Term.int 260).eval args s none [] s = some (.int 260) from rfl)
  have hd : xs.length.toInt32 ≤ 260 := by
    simpa [Cond.before, Cond.holds, hv] using hle
  have hN : xs.length ≤ 260 := (Int32.ofNat_le_ofNat hsm (by decide)).mp (show Int32.ofNat xs.length ≤ Int32.ofNat 260 from hd)
  exact ⟨b, xs, Cond.one_arg hc (show args[0]? = some (.ref b) from hb), hx, hN, h⟩

theorem pz_comes (l : Launch) (hflags : l.flags = flags0) : Comes l x (Jvm.Cond.code x code maxLocals ret :: tables_1) bigR (fun tb e args s => Calls_1 tb e args s ∧ rest_1 tb e args s ∧ Pre_1 tb e args s)
    (fun _ _ _ s o t => o = .returned (some (.int 1)) ∧ Framed s o t [] 17000 110000) := by
  intro p e ha hc hk s m args below hf hfit hheap happ hpre
  obtain ⟨b, xs, hP⟩ := lw_pre_spec hpre.2.2 hpre.2.1
  obtain ⟨k, o, h1, h2, h3, hQ⟩ := pz_walk l hflags b xs p e ha hc hk s m args below hf ((Spec.applies_iff_loose hf).mp happ).1 hP trivial
  exact ⟨k, o, h1, h2, h3, hQ.1, hQ.2.1⟩
/-- a start at a script that begins with seven times 6, with room enough -/
def pz_At (l : Launch) (p : Program) (e : Env) (s : State) (m : MethodId) (args : Array Value) (below : List Frame) (b : Addr) (xs : List Int32) : Prop :=
  l.flags = flags0 ∧ AtStart classFile x code maxLocals ret World_1 tables_1 room_1 Calls_1 rest_1 Pre_1 l p e s m args below ∧ (headSpec (Jvm.Cond.code x code maxLocals ret :: tables_1) bigR).applies x e.platform s = true ∧ lw_P b xs args s ∧ Z7 xs.length (fun j => xs.getD j 0)
theorem pz_end {l : Launch} {p : Program} {e : Env} {s : State} {m : MethodId} {args : Array Value} {below : List Frame} {b : Addr} {xs : List Int32} (h : pz_At l p e s m args below b xs) : ∃ (n : Nat) (o : Outcome), (∀ k, k < n → Within (stepsAlone p.tables e k s) below) ∧ (stepsAlone p.tables e n s).status = Status.running ∧ Ended (stepsAlone p.tables e n s) below o ∧ s.heap.size + 112 ≤ (stepsAlone p.tables e n s).heap.size := by
  obtain ⟨hfl, hat, happ, hP, hZ⟩ := h
  obtain ⟨-, -, ha, -, hc, hk, hf, -, -, -, -, -, -⟩ := hat
  obtain ⟨n, o, h1, h2, h3, hQ⟩ := pz_walk l hfl b xs p e ha hc hk s m args below hf ((Spec.applies_iff_loose hf).mp happ).1 hP trivial
  exact ⟨n, o, h1, h2, h3, hQ.2.2 hZ⟩
/-- the Statement's own bound of new cells -/
theorem pz_bound {s t : State} {o : Outcome} {L : List Loc} {n : Nat} (h : Framed s o t L 111 n) : t.heap.size ≤ s.heap.size + 111 := h.2.2.2.2.1
theorem p18_falls {l : Launch} {p : Program} {e : Env} {s : State} {m : MethodId} {args : Array Value} {below : List Frame} {b : Addr} {xs : List Int32} (h : pz_At l p e s m args below b xs) : RefutedClaimed_1_1 ∧ RefutedClaimed_1_2 := by
  obtain ⟨n, o, h1, h2, h3, h4⟩ := pz_end h
  exact ⟨⟨l, p, e, s, m, args, below, h.1, h.2.1, n, o, h1, h2, h3, fun q => by have := pz_bound q.2; omega⟩, ⟨l, p, e, s, m, args, below, h.1, h.2.1, n, o, h1, h2, h3, fun q => by have := pz_bound q.2; omega⟩⟩
theorem pz_not {l : Launch} {p : Program} {e : Env} {s : State} {m : MethodId} {args : Array Value} {below : List Frame} {b : Addr} {xs : List Int32} (h : pz_At l p e s m args below b xs) {Post : Tables → Env → Array Value → State → Outcome → State → Prop} (hp : ∀ tb e a s o t, Post tb e a s o t → t.heap.size ≤ s.heap.size + 111) : ¬ ArmFor flags0 classFile x code maxLocals ret World_1 tables_1 room_1 Calls_1 rest_1 Pre_1 Post := by
  intro hA
  obtain ⟨n, o, h1, h2, h3, h4⟩ := pz_end h
  obtain ⟨hfl, ⟨hL, hW, ha, -, hc, hk, hf, hfit, hheap, happ, hcalls, hrest, hpre⟩, -⟩ := h
  obtain ⟨k, q, i1, i2, i3, i4⟩ := hA l hfl hL hW p e ha hc hk s m args below hf hfit hheap happ ⟨hcalls, hrest, hpre⟩
  have hnk : n = k := by
    rcases Nat.lt_trichotomy n k with z | z | z
    · exact absurd (i1 n z) h3.not_within
    · exact z
    · exact absurd (h1 k z) i3.not_within
  subst hnk
  have := hp _ _ _ _ _ _ i4
  omega
theorem p18_false {l : Launch} {p : Program} {e : Env} {s : State} {m : MethodId} {args : Array Value} {below : List Frame} {b : Addr} {xs : List Int32} (h : pz_At l p e s m args below b xs) : ¬ Claimed_1_1 ∧ ¬ Claimed_1_2 :=
  ⟨pz_not h (fun _ _ _ _ _ _ q => pz_bound q.2), pz_not h (fun _ _ _ _ _ _ q => pz_bound q.2)⟩
