/-! ===== the law's loop ===== -/
set_option maxHeartbeats 4000000 in
set_option maxRecDepth 100000 in
theorem law_loop {p : Program} {l : Launch} {e : Env} {s : State} {m : MethodId} {below : List Frame} {meth : Method} {c : Code} {b L : Nat} {xs : Nat → Int32} {D : va_G} {kk : Nat → ClassId} {a a2 : Nat → Nat} {o : Nat} {sa : Nat → Nat} {Q : State → Prop} (C0 : LCx p l s m meth c b L xs D kk a a2 o sa)
    (E : ∀ (H : Heap) (ls : Array Slot), W p l e room_1 s m (#[Value.ref b] : Array Value) below meth c H [] 1053 13902 Q (F0 m 1270 ls [.int 1])) :
    ∀ (n k : Nat), 7 * k ≤ L → L + 1 ≤ k + n → ∀ (g mm : Nat → Nat → Int) (f : Nat → Int64) (H : Heap) (locs : List Loc) (ls : Array Slot), LSt s D kk a a2 o g mm f H locs → lv_has ls 7 [(0, .ref b), (1, .ref (a 0)), (2, .ref (a2 0)), (3, .ref o), (4, .int (iI (7 * (k : Int))))] → W p l e room_1 s m (#[Value.ref b] : Array Value) below meth c H locs (26 + 2 * k) (5692 + 12 * k) Q (F0 m 23 ls []) := by
  obtain ⟨⟨hx, hb, hml, hown, hts, hX, hbl, hL⟩, -, -⟩ := id C0
  have hbA : ¬ (fun q : Nat => s.heap.size ≤ q) b := Nat.not_le.mpr hbl
  intro n
  induction n with
  | zero =>
    intro k h1 h2
    exact absurd h2 (by omega)
  | succ n ih =>
    intro k hk hkn g mm f H locs ls S0 hl
    have hS := S0.2.2.2.1
    refine lv_iload hx hb dL_law_23 (lv_at hl 4 rfl) ?_
    refine lv_aload_n hx hb dL_law_25 rfl (lv_at hl 0 rfl) ?_
    refine va_slen hx hb hX hbl hbA hS dL_law_26 ?_
    refine ri_rw (y := (L : Int)) (iI_nI L) ?_
    refine ri_bipush hx hb dL_law_27 (by decide) ?_
    refine ri_isub hx hb dL_law_29 ?_
    refine ri_icmp_gt (tgt := 1269) hx hb (by omega) dL_law_30 (by decide) (fun h30 => ?_) (fun h30 => ?_)
    · refine lv_iconst (v := 1) hx hb dL_law_1269 (by decide) ?_
      refine va_forget (fun q hq => hS.2.2 q hq) ?_
      refine W.widen (k := 1053) (n := 13902) (by omega) (by omega) ?_
      exact E _ _
    · have K : ∀ (g mm : Nat → Nat → Int) (f : Nat → Int64) (H : Heap) (locs : List Loc) (ls : Array Slot), LSt s D kk a a2 o g mm f H locs → lv_has ls 7 [(0, .ref b), (1, .ref (a 0)), (2, .ref (a2 0)), (3, .ref o), (4, .int (iI (7 * (k : Int))))] → W p l e room_1 s m (#[Value.ref b] : Array Value) below meth c H locs (26 + 2 * k + 2) (5692 + 12 * k + 12) Q (F0 m 1263 ls []) := by
        intro g mm f H locs ls S1 hl
        refine ri_iinc (lv' := [(4, .int (iI (7 * (k : Int) + 7))), (0, .ref b), (1, .ref (a 0)), (2, .ref (a2 0)), (3, .ref o)]) hx hb dL_law_1263 hl (k := 4) rfl (by decide) rfl (fun ls hl => ?_)
        refine lv_goto (tgt := 23) hx hb dL_law_1266 (by decide) ?_
        rw [show 7 * (k : Int) + 7 = 7 * ((k + 1 : Nat) : Int) by omega] at hl
        have h9 := ih (k + 1) (by omega) (by omega) g mm f H locs ls S1 (lv_sub hl [1, 2, 3, 4, 0] rfl)
        rw [show 26 + 2 * (k + 1) = 26 + 2 * k + 2 by omega, show 5692 + 12 * (k + 1) = 5692 + 12 * k + 12 by omega] at h9
        exact h9
      refine lv_aload_n hx hb dL_law_33 rfl (lv_at hl 0 rfl) ?_
      refine lv_iload hx hb dL_law_34 (lv_at hl 4 rfl) ?_
      refine ri_sld hx hb hX hbl hbA hS (by omega) (by omega) dL_law_36 ?_
      refine ri_bipush hx hb dL_law_37 (by decide) ?_
      refine lv_iand hx hb dL_law_39 ?_
      obtain ⟨j, hj, ej⟩ := pk_andE (iI (xs (7 * (k : Int)).toNat).toInt) (m := iI 15) 4 (by decide)
      refine ri_rw (y := (j : Int)) (ej.trans (iI_nI j)) ?_
      have hj16 : j = 0 ∨ j = 1 ∨ j = 2 ∨ j = 3 ∨ j = 4 ∨ j = 5 ∨ j = 6 ∨ j = 7 ∨ j = 8 ∨ j = 9 ∨ j = 10 ∨ j = 11 ∨ j = 12 ∨ j = 13 ∨ j = 14 ∨ j = 15 := by omega
      rcases hj16 with rfl | rfl | rfl | rfl | rfl | rfl | rfl | rfl | rfl | rfl | rfl | rfl | rfl | rfl | rfl | rfl
      · refine lv_tableIn (off := 76) (tgt := 116) hx hb dL_law_40 (by decide) (by decide) (by decide) (by decide) ?_
        exact lc_paint C0 S0 (by omega) (by omega) hl K
      · refine lv_tableIn (off := 194) (tgt := 234) hx hb dL_law_40 (by decide) (by decide) (by decide) (by decide) ?_
        exact lc_shade C0 S0 (by omega) (by omega) hl K
      · refine lv_tableIn (off := 274) (tgt := 314) hx hb dL_law_40 (by decide) (by decide) (by decide) (by decide) ?_
        exact lc_setPart C0 S0 (by omega) (by omega) hl K
      · refine lv_tableIn (off := 358) (tgt := 398) hx hb dL_law_40 (by decide) (by decide) (by decide) (by decide) ?_
        exact lc_setMask C0 S0 (by omega) (by omega) hl K
      · refine lv_tableIn (off := 442) (tgt := 482) hx hb dL_law_40 (by decide) (by decide) (by decide) (by decide) ?_
        exact lc_approve C0 S0 (by omega) (by omega) hl K
      · refine lv_tableIn (off := 517) (tgt := 557) hx hb dL_law_40 (by decide) (by decide) (by decide) (by decide) ?_
        exact lc_begin C0 S0 (by omega) (by omega) hl K
      · refine lv_tableIn (off := 573) (tgt := 613) hx hb dL_law_40 (by decide) (by decide) (by decide) (by decide) ?_
        exact lc_join C0 S0 (by omega) (by omega) hl K
      · refine lv_tableIn (off := 629) (tgt := 669) hx hb dL_law_40 (by decide) (by decide) (by decide) (by decide) ?_
        exact lc_isApproved C0 S0 (by omega) (by omega) hl K
      · refine lv_tableIn (off := 704) (tgt := 744) hx hb dL_law_40 (by decide) (by decide) (by decide) (by decide) ?_
        exact lc_differences C0 S0 (by omega) (by omega) hl K
      · refine lv_tableIn (off := 784) (tgt := 824) hx hb dL_law_40 (by decide) (by decide) (by decide) (by decide) ?_
        exact lc_firstDifference C0 S0 (by omega) (by omega) hl K
      · refine lv_tableIn (off := 864) (tgt := 904) hx hb dL_law_40 (by decide) (by decide) (by decide) (by decide) ?_
        exact lc_move C0 S0 (by omega) (by omega) hl K
      · refine lv_tableIn (off := 944) (tgt := 984) hx hb dL_law_40 (by decide) (by decide) (by decide) (by decide) ?_
        exact lc_soft C0 S0 (by omega) (by omega) hl K
      · refine lv_tableIn (off := 1024) (tgt := 1064) hx hb dL_law_40 (by decide) (by decide) (by decide) (by decide) ?_
        exact lc_run C0 S0 (by omega) (by omega) hl K
      · refine lv_tableIn (off := 1111) (tgt := 1151) hx hb dL_law_40 (by decide) (by decide) (by decide) (by decide) ?_
        exact lc_runs C0 S0 (by omega) (by omega) hl K
      · refine lv_tableIn (off := 1167) (tgt := 1207) hx hb dL_law_40 (by decide) (by decide) (by decide) (by decide) ?_
        exact lc_doubt C0 S0 (by omega) (by omega) hl K
      · refine lv_tableOut (tgt := 1263) hx hb dL_law_40 (Or.inr (by decide)) (by decide) ?_
        refine W.widen (k := 26 + 2 * k + 2) (n := 5692 + 12 * k + 12) (by omega) (by omega) ?_
        exact K g mm f H locs ls S0 hl
