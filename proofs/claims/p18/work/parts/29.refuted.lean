/-! ===== the Statement is false as it is printed: at the script 6, 6, 6, 6, 6, 6, 6 =====
The start is the printed witness's own (start1), with this script in the place of its script. -/
def st6 : State := start1.aboutOf #[.int 6, .int 6, .int 6, .int 6, .int 6, .int 6, .int 6]
set_option maxRecDepth 16384 in
theorem st6_w1 : (tables_1_1.all fun c => goodWord c || c.before start1.args0 st6) = true := by decide +kernel
set_option maxRecDepth 16384 in
theorem st6_w2 : (tables_1_2.all fun c => goodWord c || c.before start1.args0 st6) = true := by decide +kernel
theorem st6_vm : start1.about.WarmedH st6.vm := State.WarmedH.refl start1.about
theorem st6_word {ts : List Cond} (hs : ∀ c ∈ ts, c.before start1.args0 start1.about = true) (hw : (ts.all fun c => goodWord c || c.before start1.args0 st6) = true) : ∀ c ∈ ts, c.before start1.args0 st6 = true := by
  intro c hc
  have h := List.all_eq_true.mp hw c hc
  cases hq : goodWord c with
  | false => simpa [hq] using h
  | true => exact word_at st6_vm (good_of_word hq) (hs c hc)
set_option maxRecDepth 16384 in
theorem st6_code : (Cond.code x code maxLocals ret).before start1.args0 st6 = true := word_at st6_vm (good_of_word rfl) start1.word_code
theorem st6_words : ∀ c ∈ (Cond.code x code maxLocals ret :: tables_1), c.before start1.args0 st6 = true := by
  intro c hc
  rcases List.mem_cons.mp hc with h | h
  · rw [h]; exact st6_code
  · have h1 : c ∈ tables_1_1 ++ tables_1_2 := h
    rcases List.mem_append.mp h1 with h2 | h2
    · exact st6_word start1.words_1 st6_w1 c h2
    · exact st6_word start1.words_2 st6_w2 c h2
set_option maxRecDepth 16384 in
theorem st6_start : AtStart classFile x code maxLocals ret World_1 tables_1 room_1 Calls_1 rest_1 Pre_1 launch0 start1.p0 start1.e0 st6 ⟨0, 0⟩ start1.args0 Lib.HandBits.below0 :=
  ⟨lists_1, trivial, launch0.admits_env _ _ _, launch0.least_env, fairChoices_fair.cas, fairChoices_fair.clock, rfl, by decide +kernel, by decide +kernel,
    (Spec.applies_iff rfl).mpr ⟨rfl, rfl, rfl, by decide +kernel, by decide +kernel, by decide +kernel, launch0.hasRoom_least _ room_1 (by decide +kernel) (by decide +kernel) (by decide +kernel) (by decide +kernel) (by decide +kernel) (by decide +kernel), atoms_intro st6_words⟩,
    trivial, (show rest_1_c.before start1.args0 st6 = true by decide +kernel), (show (Cond.and given_1 narrow_1).before start1.args0 st6 = true by decide +kernel)⟩
set_option maxRecDepth 16384 in
theorem st6_big : (headSpec (Cond.code x code maxLocals ret :: tables_1) bigR).applies x start1.e0.platform st6 = true :=
  (Spec.applies_iff rfl).mpr ⟨rfl, rfl, rfl, by decide +kernel, by decide +kernel, by decide +kernel, launch0.hasRoom_least _ bigR (by decide +kernel) (by decide +kernel) (by decide +kernel) (by decide +kernel) (by decide +kernel) (by decide +kernel), atoms_intro st6_words⟩
theorem ints_inj : ∀ (a b : List Int32), a.map Value.int = b.map Value.int → a = b := by
  intro a
  induction a with
  | nil => intro b h; cases b with
    | nil => rfl
    | cons y ys => cases h
  | cons x xs ih => intro b h; cases b with
    | nil => cases h
    | cons y ys =>
      simp only [List.map_cons, List.cons.injEq, Value.int.injEq] at h
      rw [h.1, ih ys h.2]
set_option maxRecDepth 16384 in
theorem st6_at : ∃ (b : Addr) (xs : List Int32), pz_At launch0 start1.p0 start1.e0 st6 ⟨0, 0⟩ start1.args0 Lib.HandBits.below0 b xs := by
  have hA := st6_start
  obtain ⟨b, xs, hP⟩ := lw_pre_spec hA.2.2.2.2.2.2.2.2.2.2.2.2 hA.2.2.2.2.2.2.2.2.2.2.2.1
  have hP0 := hP
  obtain ⟨e1, ⟨cell, h1, h2, -, -⟩, -, -⟩ := hP
  have eb : b = 0 := by
    have h9 : (#[Value.ref 0] : Array Value)[0]? = (#[Value.ref b] : Array Value)[0]? := congrArg (fun z : Array Value => z[0]?) (show (#[Value.ref 0] : Array Value) = #[Value.ref b] from e1)
    injection h9 with h9
    injection h9 with h9
    exact h9.symm
  subst eb
  obtain ⟨h3, -, -, -⟩ := State.arrayAt?_spec h1
  have h4 : st6.heap[0]? = some { cls := 16, slots := #[.int 6, .int 6, .int 6, .int 6, .int 6, .int 6, .int 6], vm := .none } := rfl
  have h5 : cell.slots = #[.int 6, .int 6, .int 6, .int 6, .int 6, .int 6, .int 6] := by
    rw [h4] at h3
    injection h3 with h3
    rw [← h3]
  have h6 : xs.map Value.int = ([6, 6, 6, 6, 6, 6, 6] : List Int32).map Value.int := by
    rw [← h2, h5]
    rfl
  have h7 : xs = [6, 6, 6, 6, 6, 6, 6] := ints_inj _ _ h6
  refine ⟨0, xs, rfl, hA, st6_big, hP0, ?_⟩
  rw [h7]
  exact ⟨by decide, fun j hj => by
    match j, hj with
    | 0, _ => rfl
    | 1, _ => rfl
    | 2, _ => rfl
    | 3, _ => rfl
    | 4, _ => rfl
    | 5, _ => rfl
    | 6, _ => rfl⟩
/-- the claim is false as it is printed: at 6, 6, 6, 6, 6, 6, 6 the law's end has more than 111 new cells -/
theorem p18_refuted : (RefutedClaimed_1_1 ∧ RefutedClaimed_1_2) ∧ ¬ Claimed_1_1 ∧ ¬ Claimed_1_2 := by
  obtain ⟨b, xs, h⟩ := st6_at
  exact ⟨p18_falls h, p18_false h⟩
