theorem f_X4_goesWell : MF yX4_goesWell wsX4_goesWell cX4_goesWell 2 (some .boolean) 1 := ⟨⟨_, rfl⟩, by decide +kernel, by decide +kernel, by decide +kernel⟩
set_option maxHeartbeats 4000000 in
set_option maxRecDepth 100000 in
theorem k_X4_goesWell (l : Launch) (D : va_G) (a : Nat → Nat) (kk : Nat → ClassId) (g : Nat → Nat → Int) (pl : Int) (hA : aDs 8 a) (ypl : -2147483648 ≤ pl ∧ pl < 2147483648) : WI l yX4_goesWell wsX4_goesWell ({ frames := 0, cells := 0, slots := 0, locals := 0 }) [.ref (a 0), .int (iI pl)] (wB D kk (mW a kk g)) (bp (pl = 0)) (fun H => va_P D vwCl (mW a kk (thG g pl)) H) (aA 8 a) 0 0 := by
  refine ri_ent (cc := cX4_goesWell) (maxL := 2) (ret := some .boolean) (by decide) rfl (Nat.le_of_ble_eq_true rfl) ?_
  intro zp ze s zm zb zt zc hx hb hr hts hown hlocks hml hin hB ls hl
  have hown : s.vm.findClass RX4 = some zm.cls := hown
  have CF : CallFix zp zm zc cX4_goesWell 2 s ([.ref (a 0), .int (iI pl)] : List Value).toArray wsX4_goesWell RX4 := ⟨hx, hb, hml, hown, hts⟩
  obtain ⟨hP, hK, hN⟩ := hB
  have hinX4 : ∀ w ∈ wsX40, w ∈ wsX4_goesWell := (fun _ h => List.mem_cons_of_mem _ (List.mem_append_right _ h))
  have hS : va_S (aA 8 a) s.heap s.heap [] := va_S.rf
  have hl : lv_has ls 2 [(0, .ref (a 0)), (1, .int (iI pl))] := hl
  refine lv_aload_n hx hb dX4_goesWell_0 rfl (lv_at hl 0 rfl) ?_
  refine lv_iload_n hx hb dX4_goesWell_1 rfl (lv_at hl 1 rfl) ?_
  refine va_put (D := D) (ci := 4) (v := .int (iI pl)) (ty := .int) (C := RX4) (T := TX4) (N := 10) hx hb hts hinX4 tyX4 tyX4_ok nmX4 hown hK hP (mD hA) hS 0 rfl rfl 0 (by decide) (hts _ (List.mem_of_getElem? (i := 1) rfl)) (fun _ h9 => h9) rfl (by decide +kernel) rfl rfl (Nat.le_of_ble_eq_true rfl) dX4_goesWell_2 (fun H locs hP _ hS => ?_)
  replace hP := mF0 hP
  refine lv_iload_n hx hb dX4_goesWell_5 rfl (lv_at hl 1 rfl) ?_
  refine ri_if_ne (tgt := 13) hx hb (by omega) dX4_goesWell_6 (by decide) (fun c_1 => ?_) (fun c_1 => ?_)
  · skip
    refine ri_iconst hx hb dX4_goesWell_13 ?_
    exact ri_zretW (A := (aA 8 a)) (PP := (fun H => va_P D vwCl (mW a kk (thG g pl)) H)) hx hb hr hlocks hS (hP) (bp_01 _) dX4_goesWell_14 ((bp_f (by omega)).symm)
  · skip
    refine ri_iconst hx hb dX4_goesWell_9 ?_
    refine lv_goto (tgt := 14) hx hb dX4_goesWell_10 (by decide) ?_
    exact ri_zretW (A := (aA 8 a)) (PP := (fun H => va_P D vwCl (mW a kk (thG g pl)) H)) hx hb hr hlocks hS (hP) (bp_01 _) dX4_goesWell_14 ((bp_t (by omega)).symm)

theorem f_X4_copy : MF yX4_copy wsX4_copy cX4_copy 4 (none) 2 := ⟨⟨_, rfl⟩, by decide +kernel, by decide +kernel, by decide +kernel⟩
set_option maxHeartbeats 4000000 in
set_option maxRecDepth 100000 in
theorem k_X4_copy (l : Launch) (D : va_G) (a : Nat → Nat) (kk : Nat → ClassId) (g : Nat → Nat → Int) (y : Int) (z : Int) (hA : aDs 8 a) (hM : MInv g) (yy : 0 ≤ y ∧ y ≤ 34) (yz : 0 ≤ z ∧ z ≤ 34) : WV l yX4_copy wsX4_copy ({ frames := 0, cells := 0, slots := 0, locals := 0 }) [.ref (a 0), .int (iI y), .int (iI z)] (wB D kk (mW a kk g)) (fun H => va_P D vwCl (mW a kk (cpM g y z)) H) (aA 8 a) 0 0 := by
  refine ri_ent (cc := cX4_copy) (maxL := 4) (ret := none) (by decide) rfl (Nat.le_of_ble_eq_true rfl) ?_
  intro zp ze s zm zb zt zc hx hb hr hts hown hlocks hml hin hB ls hl
  have hown : s.vm.findClass RX4 = some zm.cls := hown
  have CF : CallFix zp zm zc cX4_copy 4 s ([.ref (a 0), .int (iI y), .int (iI z)] : List Value).toArray wsX4_copy RX4 := ⟨hx, hb, hml, hown, hts⟩
  obtain ⟨hP, hK, hN⟩ := hB
  have hinX4 : ∀ w ∈ wsX40, w ∈ wsX4_copy := (fun _ h => List.mem_cons_of_mem _ (List.mem_append_right _ h))
  have hS : va_S (aA 8 a) s.heap s.heap [] := va_S.rf
  have hl : lv_has ls 4 [(0, .ref (a 0)), (1, .int (iI y)), (2, .int (iI z))] := hl
  refine lv_aload_n hx hb dX4_copy_0 rfl (lv_at hl 0 rfl) ?_
  refine va_get (D := D) (ci := 4) (v := .ref (a 3)) (C := RX4) (T := TX4) (N := 10) hx hb hts hinX4 hown hK hP 0 rfl rfl 3 (by decide) (hts _ (List.mem_of_getElem? (i := 1) rfl)) (fun _ h9 => h9) rfl dX4_copy_1 ?_
  refine lv_iload_n hx hb dX4_copy_4 rfl (lv_at hl 2 rfl) ?_
  refine lv_aload_n hx hb dX4_copy_5 rfl (lv_at hl 0 rfl) ?_
  refine va_get (D := D) (ci := 4) (v := .ref (a 3)) (C := RX4) (T := TX4) (N := 10) hx hb hts hinX4 hown hK hP 0 rfl rfl 3 (by decide) (hts _ (List.mem_of_getElem? (i := 1) rfl)) (fun _ h9 => h9) rfl dX4_copy_6 ?_
  refine lv_iload_n hx hb dX4_copy_9 rfl (lv_at hl 1 rfl) ?_
  refine ri_zald hx hb hK hP 3 1 rfl rfl (by omega) (by decide) dX4_copy_10 ?_
  have f_1 := hM.2.2.1 y.toNat (by omega)
  refine ri_zast hx hb hK hP (mD hA) hS 3 1 rfl rfl (by omega) (by decide) (by omega) dX4_copy_11 (fun H locs hP hS => ?_)
  replace hP := mS.2.2.1 hP
  refine ri_iconst hx hb dX4_copy_12 ?_
  refine lv_istore_n (lv' := [(3, .int (iI 0)), (0, .ref (a 0)), (1, .int (iI y)), (2, .int (iI z))]) hx hb dX4_copy_13 rfl hl (by decide) rfl (fun ls hl => ?_)
  have L14 : ∀ (n14 : Nat) (k : Nat), (k ≤ 64) → (64 - k < n14) → ∀ (H : Heap) (locs : List Loc), va_P D vwCl (mW a kk (updG (updG g 3 (updI (g 3) z.toNat (g 3 y.toNat))) 2 (cpK (g 2) (y * 64).toNat (z * 64).toNat k (g 2)))) H → va_S (aA 8 a) s.heap H locs → ∀ (ls : Array Slot), lv_has ls 4 [(0, .ref (a 0)), (1, .int (iI y)), (2, .int (iI z)), (3, .int (iI (k : Int)))] → W zp l ze ({ frames := 0, cells := 0, slots := 0, locals := 0 }) s zm ([.ref (a 0), .int (iI y), .int (iI z)] : List Value).toArray zb zt zc H locs 0 0 (MQ zb (va_Qv (fun _ : Unit => True) (fun _ t9 => (fun H => va_P D vwCl (mW a kk (cpM g y z)) H) t9.heap) (aA 8 a)) ([.ref (a 0), .int (iI y), .int (iI z)] : List Value).toArray s 0 0 (aA 8 a)) (F0 zm 14 ls []) := by
    intro n14
    induction n14 with
    | zero => intro k hk hm; exact absurd hm (Nat.not_lt_zero _)
    | succ n14 ih14 =>
      intro k hk hm14 H locs hP hS ls hl
      refine lv_iload_n hx hb dX4_copy_14 rfl (lv_at hl 3 rfl) ?_
      refine ri_bipush hx hb dX4_copy_15 (by decide) ?_
      refine ri_icmp_ge (tgt := 48) hx hb (by omega) dX4_copy_17 (by decide) (fun h17 => ?_) (fun h17 => ?_)
      · skip
        exact ri_vretW (A := (aA 8 a)) (PP := (fun H => va_P D vwCl (mW a kk (cpM g y z)) H)) hx hb hr hlocks hS (by show va_P D vwCl (mW a kk (cpM g y z)) _; rw [show k = 64 by omega] at hP; exact hP) dX4_copy_48
      · skip
        refine lv_aload_n hx hb dX4_copy_20 rfl (lv_at hl 0 rfl) ?_
        refine va_get (D := D) (ci := 4) (v := .ref (a 2)) (C := RX4) (T := TX4) (N := 10) hx hb hts hinX4 hown hK hP 0 rfl rfl 2 (by decide) (hts _ (List.mem_of_getElem? (i := 2) rfl)) (fun _ h9 => h9) rfl dX4_copy_21 ?_
        refine ri_bipush hx hb dX4_copy_24 (by decide) ?_
        refine lv_iload_n hx hb dX4_copy_26 rfl (lv_at hl 2 rfl) ?_
        refine ri_imul hx hb dX4_copy_27 ?_
        refine lv_iload_n hx hb dX4_copy_28 rfl (lv_at hl 3 rfl) ?_
        refine ri_iadd hx hb dX4_copy_29 ?_
        refine lv_aload_n hx hb dX4_copy_30 rfl (lv_at hl 0 rfl) ?_
        refine va_get (D := D) (ci := 4) (v := .ref (a 2)) (C := RX4) (T := TX4) (N := 10) hx hb hts hinX4 hown hK hP 0 rfl rfl 2 (by decide) (hts _ (List.mem_of_getElem? (i := 2) rfl)) (fun _ h9 => h9) rfl dX4_copy_31 ?_
        refine ri_bipush hx hb dX4_copy_34 (by decide) ?_
        refine lv_iload_n hx hb dX4_copy_36 rfl (lv_at hl 1 rfl) ?_
        refine ri_imul hx hb dX4_copy_37 ?_
        refine lv_iload_n hx hb dX4_copy_38 rfl (lv_at hl 3 rfl) ?_
        refine ri_iadd hx hb dX4_copy_39 ?_
        refine ri_iald hx hb hK hP 2 0 rfl rfl (by omega) (by decide) dX4_copy_40 ?_
        refine ri_eq (y := g 2 ((y * 64).toNat + k)) (by show cpK (g 2) (y * 64).toNat (z * 64).toNat k (g 2) (64 * y + (k : Int)).toNat = _; rw [show (64 * y + (k : Int)).toNat = (y * 64).toNat + k by omega]; exact cpK_at (g 2) (by omega) (by omega) (by omega)) ?_
        refine ri_iast hx hb hK hP (mD hA) hS 2 0 rfl rfl (by omega) (by decide) dX4_copy_41 (fun H locs hP hS => ?_)
        replace hP := mS.2.1 hP
        refine ri_iinc (lv' := [(3, .int (iI ((k : Int) + 1))), (0, .ref (a 0)), (1, .int (iI y)), (2, .int (iI z))]) hx hb dX4_copy_42 hl (k := 3) rfl (by decide) rfl (fun ls hl => ?_)
        refine lv_goto (tgt := 14) hx hb dX4_copy_45 (by decide) ?_
        exact ih14 (k + 1) (by omega) (by omega) _ _ (by have e := cpK_s (g 2) (g 2) (y * 64).toNat (z * 64).toNat k; rw [updG_uu, show (64 * z + (k : Int)).toNat = (z * 64).toNat + k by omega] at hP; rw [← e]; exact hP) hS ls (lv_sub hl [1, 2, 3, 0] rfl)
  exact L14 65 (0) (by omega) (by decide) _ _ (by rw [cpK_0]; exact hP) hS ls (lv_sub hl [1, 2, 3, 0] rfl)

theorem f_X4_findMove : MF yX4_findMove wsX4_findMove cX4_findMove 8 (none) 3 := ⟨⟨_, rfl⟩, by decide +kernel, by decide +kernel, by decide +kernel⟩
set_option maxHeartbeats 4000000 in
set_option maxRecDepth 100000 in
theorem k_X4_findMove (l : Launch) (D : va_G) (a : Nat → Nat) (kk : Nat → ClassId) (g : Nat → Nat → Int) (b : Int) (t : Int) (n : Int) (hA : aDs 8 a) (hM : MInv g) (yb : 0 ≤ b ∧ b ≤ 3) (yt : 0 ≤ t ∧ t ≤ 4) (yn : 0 ≤ n ∧ n ≤ 255) : WV l yX4_findMove wsX4_findMove ({ frames := 3, cells := 0, slots := 0, locals := 77 }) [.ref (a 0), .int (iI b), .int (iI t), .int (iI n)] (wB D kk (mW a kk g)) (fun H => va_P D vwCl (mW a kk (mvG g (fitP (px (g 1) t) (px (g 2) (5 * b + t)) n (g 4 (4 * t).toNat) (g 4 (4 * t + 1).toNat) (g 4 (4 * t).toNat + g 4 (4 * t + 2).toNat) (g 4 (4 * t + 1).toNat + g 4 (4 * t + 3).toNat)))) H) (aA 8 a) 0 0 := by
  refine ri_ent (cc := cX4_findMove) (maxL := 8) (ret := none) (by decide) rfl (Nat.le_of_ble_eq_true rfl) ?_
  intro zp ze s zm zb zt zc hx hb hr hts hown hlocks hml hin hB ls hl
  have hown : s.vm.findClass RX4 = some zm.cls := hown
  have CF : CallFix zp zm zc cX4_findMove 8 s ([.ref (a 0), .int (iI b), .int (iI t), .int (iI n)] : List Value).toArray wsX4_findMove RX4 := ⟨hx, hb, hml, hown, hts⟩
  obtain ⟨hP, hK, hN⟩ := hB
  have hinX4 : ∀ w ∈ wsX40, w ∈ wsX4_findMove := (fun _ h => List.mem_cons_of_mem _ (List.mem_append_right _ h))
  have hS : va_S (aA 8 a) s.heap s.heap [] := va_S.rf
  have hl : lv_has ls 8 [(0, .ref (a 0)), (1, .int (iI b)), (2, .int (iI t)), (3, .int (iI n))] := hl
  have hpm := hM.2.2.2.1 t (by omega)
  refine lv_aload_n hx hb dX4_findMove_0 rfl (lv_at hl 0 rfl) ?_
  refine ri_iconst hx hb dX4_findMove_1 ?_
  refine va_put (D := D) (ci := 4) (v := .int (iI 0)) (ty := .int) (C := RX4) (T := TX4) (N := 10) hx hb hts hinX4 tyX4 tyX4_ok nmX4 hown hK hP (mD hA) hS 0 rfl rfl 8 (by decide) (hts _ (List.mem_of_getElem? (i := 1) rfl)) (fun _ h9 => h9) rfl (by decide +kernel) rfl rfl (Nat.le_of_ble_eq_true rfl) dX4_findMove_2 (fun H locs hP _ hS => ?_)
  replace hP := mF8 hP
  refine lv_aload_n hx hb dX4_findMove_5 rfl (lv_at hl 0 rfl) ?_
  refine ri_iconst hx hb dX4_findMove_6 ?_
  refine va_put (D := D) (ci := 4) (v := .int (iI 0)) (ty := .int) (C := RX4) (T := TX4) (N := 10) hx hb hts hinX4 tyX4 tyX4_ok nmX4 hown hK hP (mD hA) hS 0 rfl rfl 9 (by decide) (hts _ (List.mem_of_getElem? (i := 2) rfl)) (fun _ h9 => h9) rfl (by decide +kernel) rfl rfl (Nat.le_of_ble_eq_true rfl) dX4_findMove_7 (fun H locs hP _ hS => ?_)
  replace hP := mF9 hP
  replace hP : va_P D vwCl (mW a kk (zrG g)) H := hP
  have hM1 := MInv_zr hM
  refine lv_aload_n hx hb dX4_findMove_10 rfl (lv_at hl 0 rfl) ?_
  refine va_get (D := D) (ci := 4) (v := .ref (a 4)) (C := RX4) (T := TX4) (N := 10) hx hb hts hinX4 hown hK hP 0 rfl rfl 4 (by decide) (hts _ (List.mem_of_getElem? (i := 3) rfl)) (fun _ h9 => h9) rfl dX4_findMove_11 ?_
  refine ri_iconst hx hb dX4_findMove_14 ?_
  refine lv_iload_n hx hb dX4_findMove_15 rfl (lv_at hl 2 rfl) ?_
  refine ri_imul hx hb dX4_findMove_16 ?_
  refine ri_iconst hx hb dX4_findMove_17 ?_
  refine ri_iadd hx hb dX4_findMove_18 ?_
  refine ri_iald hx hb hK hP 4 0 rfl rfl (by omega) (by decide) dX4_findMove_19 ?_
  refine ri_eq (y := g 4 (4 * t + 2).toNat) (rfl) ?_
  refine ri_if_eq (tgt := 35) hx hb (by omega) dX4_findMove_20 (by decide) (fun h20 => ?_) (fun h20 => ?_)
  · skip
    exact ri_vretW (A := (aA 8 a)) (PP := (fun H => va_P D vwCl (mW a kk (mvG g (fitP (px (g 1) t) (px (g 2) (5 * b + t)) n (g 4 (4 * t).toNat) (g 4 (4 * t + 1).toNat) (g 4 (4 * t).toNat + g 4 (4 * t + 2).toNat) (g 4 (4 * t + 1).toNat + g 4 (4 * t + 3).toNat)))) H)) hx hb hr hlocks hS (by show va_P D vwCl (mW a kk (mvG g (fitP (px (g 1) t) (px (g 2) (5 * b + t)) n (g 4 (4 * t).toNat) (g 4 (4 * t + 1).toNat) (g 4 (4 * t).toNat + g 4 (4 * t + 2).toNat) (g 4 (4 * t + 1).toNat + g 4 (4 * t + 3).toNat)))) _; rw [mvG_of (best_00 (fun c1 r1 a1 a2 _ _ => absurd a2 (by omega)))]; exact hP) dX4_findMove_35
  · skip
    refine lv_aload_n hx hb dX4_findMove_23 rfl (lv_at hl 0 rfl) ?_
    refine lv_iload_n hx hb dX4_findMove_24 rfl (lv_at hl 1 rfl) ?_
    refine lv_iload_n hx hb dX4_findMove_25 rfl (lv_at hl 2 rfl) ?_
    refine lv_iload_n hx hb dX4_findMove_26 rfl (lv_at hl 3 rfl) ?_
    refine ri_iconst hx hb dX4_findMove_27 ?_
    refine ri_iconst hx hb dX4_findMove_28 ?_
    refine ri_rd (ri_runV (b := a 0) (As := [.int (iI b), .int (iI t), .int (iI n), .int (iI 0), .int (iI 0)]) (rest := []) CF (k_X4_fits l D a kk (zrG g) b t n 0 0 hM1 (by omega) (by omega) (by omega) (by omega) (by omega)) gX4_findMove_X4_fits f_X4_fits rfl (va_recv hK hP (ci := 4) (q0 := 0) rfl rfl) ⟨rfl, rfl, Nat.le_of_ble_eq_true rfl, Nat.le_of_ble_eq_true rfl, Nat.le_of_ble_eq_true rfl, Nat.le_of_ble_eq_true rfl⟩ wB_bl (wB_in hP hK hN) rfl hl.1 rfl (Nat.le_of_ble_eq_true rfl) dX4_findMove_29) ?_
    refine ri_eq (y := bp ((fitP (px (g 1) t) (px (g 2) (5 * b + t)) n (g 4 (4 * t).toNat) (g 4 (4 * t + 1).toNat) (g 4 (4 * t).toNat + g 4 (4 * t + 2).toNat) (g 4 (4 * t + 1).toNat + g 4 (4 * t + 3).toNat)) 0 0)) (rfl) ?_
    refine ri_ifeq_b (tgt := 36) hx hb dX4_findMove_32 (by decide) (fun h32 => ?_) (fun h32 => ?_)
    · skip
      refine ri_iconst hx hb dX4_findMove_36 ?_
      refine lv_istore (lv' := [(4, .int (iI 1)), (0, .ref (a 0)), (1, .int (iI b)), (2, .int (iI t)), (3, .int (iI n))]) hx hb dX4_findMove_37 hl (by decide) rfl (fun ls hl => ?_)
      have L39 : ∀ (n39 : Nat) (far : Int), (1 ≤ far ∧ far ≤ 5) → (∀ c1 r1 : Int, in5 c1 r1 → (r1.natAbs : Int) + (c1.natAbs : Int) < far → ¬ (fitP (px (g 1) t) (px (g 2) (5 * b + t)) n (g 4 (4 * t).toNat) (g 4 (4 * t + 1).toNat) (g 4 (4 * t).toNat + g 4 (4 * t + 2).toNat) (g 4 (4 * t + 1).toNat + g 4 (4 * t + 3).toNat)) c1 r1) → ((6 - far).toNat < n39) → ∀ (ls : Array Slot), lv_has ls 8 [(0, .ref (a 0)), (1, .int (iI b)), (2, .int (iI t)), (3, .int (iI n)), (4, .int (iI far))] → W zp l ze ({ frames := 3, cells := 0, slots := 0, locals := 77 }) s zm ([.ref (a 0), .int (iI b), .int (iI t), .int (iI n)] : List Value).toArray zb zt zc H locs 0 0 (MQ zb (va_Qv (fun _ : Unit => True) (fun _ t9 => (fun H => va_P D vwCl (mW a kk (mvG g (fitP (px (g 1) t) (px (g 2) (5 * b + t)) n (g 4 (4 * t).toNat) (g 4 (4 * t + 1).toNat) (g 4 (4 * t).toNat + g 4 (4 * t + 2).toNat) (g 4 (4 * t + 1).toNat + g 4 (4 * t + 3).toNat)))) H) t9.heap) (aA 8 a)) ([.ref (a 0), .int (iI b), .int (iI t), .int (iI n)] : List Value).toArray s 0 0 (aA 8 a)) (F0 zm 39 ls []) := by
        intro n39
        induction n39 with
        | zero => intro far hfar hall hm; exact absurd hm (Nat.not_lt_zero _)
        | succ n39 ih39 =>
          intro far hfar hall hm39 ls hl
          refine lv_iload hx hb dX4_findMove_39 (lv_at hl 4 rfl) ?_
          refine ri_iconst hx hb dX4_findMove_41 ?_
          refine ri_icmp_gt (tgt := 126) hx hb (by omega) dX4_findMove_42 (by decide) (fun h42 => ?_) (fun h42 => ?_)
          · skip
            exact ri_vretW (A := (aA 8 a)) (PP := (fun H => va_P D vwCl (mW a kk (mvG g (fitP (px (g 1) t) (px (g 2) (5 * b + t)) n (g 4 (4 * t).toNat) (g 4 (4 * t + 1).toNat) (g 4 (4 * t).toNat + g 4 (4 * t + 2).toNat) (g 4 (4 * t + 1).toNat + g 4 (4 * t + 3).toNat)))) H)) hx hb hr hlocks hS (by show va_P D vwCl (mW a kk (mvG g (fitP (px (g 1) t) (px (g 2) (5 * b + t)) n (g 4 (4 * t).toNat) (g 4 (4 * t + 1).toNat) (g 4 (4 * t).toNat + g 4 (4 * t + 2).toNat) (g 4 (4 * t + 1).toNat + g 4 (4 * t + 3).toNat)))) _; rw [mvG_of (scan_end (fun c1 r1 i q => hall c1 r1 i (by omega)))]; exact hP) dX4_findMove_126
          · skip
            refine ri_iconst hx hb dX4_findMove_45 ?_
            refine lv_istore (lv' := [(5, .int (iI 0)), (0, .ref (a 0)), (1, .int (iI b)), (2, .int (iI t)), (3, .int (iI n)), (4, .int (iI far))]) hx hb dX4_findMove_46 hl (by decide) rfl (fun ls hl => ?_)
            have L48 : ∀ (n48 : Nat) (k : Int), (0 ≤ k ∧ k ≤ 25) → (∀ c1 r1 : Int, in5 c1 r1 → (r1.natAbs : Int) + (c1.natAbs : Int) = far → 5 * (r1 + 2) + (c1 + 2) < k → ¬ (fitP (px (g 1) t) (px (g 2) (5 * b + t)) n (g 4 (4 * t).toNat) (g 4 (4 * t + 1).toNat) (g 4 (4 * t).toNat + g 4 (4 * t + 2).toNat) (g 4 (4 * t + 1).toNat + g 4 (4 * t + 3).toNat)) c1 r1) → ((26 - k).toNat < n48) → ∀ (ls : Array Slot), lv_has ls 8 [(0, .ref (a 0)), (1, .int (iI b)), (2, .int (iI t)), (3, .int (iI n)), (4, .int (iI far)), (5, .int (iI k))] → W zp l ze ({ frames := 3, cells := 0, slots := 0, locals := 77 }) s zm ([.ref (a 0), .int (iI b), .int (iI t), .int (iI n)] : List Value).toArray zb zt zc H locs 0 0 (MQ zb (va_Qv (fun _ : Unit => True) (fun _ t9 => (fun H => va_P D vwCl (mW a kk (mvG g (fitP (px (g 1) t) (px (g 2) (5 * b + t)) n (g 4 (4 * t).toNat) (g 4 (4 * t + 1).toNat) (g 4 (4 * t).toNat + g 4 (4 * t + 2).toNat) (g 4 (4 * t + 1).toNat + g 4 (4 * t + 3).toNat)))) H) t9.heap) (aA 8 a)) ([.ref (a 0), .int (iI b), .int (iI t), .int (iI n)] : List Value).toArray s 0 0 (aA 8 a)) (F0 zm 48 ls []) := by
              intro n48
              induction n48 with
              | zero => intro k hk0 hal2 hm; exact absurd hm (Nat.not_lt_zero _)
              | succ n48 ih48 =>
                intro k hk0 hal2 hm48 ls hl
                refine lv_iload hx hb dX4_findMove_48 (lv_at hl 5 rfl) ?_
                refine ri_bipush hx hb dX4_findMove_50 (by decide) ?_
                refine ri_icmp_ge (tgt := 120) hx hb (by omega) dX4_findMove_52 (by decide) (fun h52 => ?_) (fun h52 => ?_)
                · skip
                  refine ri_iinc (lv' := [(4, .int (iI (far + 1))), (0, .ref (a 0)), (1, .int (iI b)), (2, .int (iI t)), (3, .int (iI n)), (5, .int (iI k))]) hx hb dX4_findMove_120 hl (k := 4) rfl (by decide) rfl (fun ls hl => ?_)
                  refine lv_goto (tgt := 39) hx hb dX4_findMove_123 (by decide) ?_
                  exact ih39 (far + 1) (by omega) (scan_far hall (fun c1 r1 i q z => hal2 c1 r1 i q (by omega))) (by omega) ls (lv_sub hl [1, 2, 3, 4, 0] rfl)
                · skip
                  have hk : 0 ≤ k ∧ k < 25 := by omega
                  refine lv_iload hx hb dX4_findMove_55 (lv_at hl 5 rfl) ?_
                  refine ri_iconst hx hb dX4_findMove_57 ?_
                  refine ri_idiv hx hb (by omega) dX4_findMove_58 ?_
                  refine ri_iconst hx hb dX4_findMove_59 ?_
                  refine ri_isub hx hb dX4_findMove_60 ?_
                  refine lv_istore (lv' := [(6, .int (iI ((k / 5) - 2))), (0, .ref (a 0)), (1, .int (iI b)), (2, .int (iI t)), (3, .int (iI n)), (4, .int (iI far)), (5, .int (iI k))]) hx hb dX4_findMove_61 hl (by decide) rfl (fun ls hl => ?_)
                  refine lv_iload hx hb dX4_findMove_63 (lv_at hl 6 rfl) ?_
                  refine ri_iconst hx hb dX4_findMove_65 ?_
                  refine ri_irem hx hb (by omega) dX4_findMove_66 ?_
                  refine ri_iconst hx hb dX4_findMove_67 ?_
                  refine ri_isub hx hb dX4_findMove_68 ?_
                  refine lv_istore (lv' := [(7, .int (iI ((k % 5) - 2))), (6, .int (iI ((k / 5) - 2))), (0, .ref (a 0)), (1, .int (iI b)), (2, .int (iI t)), (3, .int (iI n)), (4, .int (iI far)), (5, .int (iI k))]) hx hb dX4_findMove_69 hl (by decide) rfl (fun ls hl => ?_)
                  refine lv_iload hx hb dX4_findMove_71 (lv_at hl 1 rfl) ?_
                  refine ri_rd (ri_runS (As := [.int (iI ((k / 5) - 2))]) (rest := []) CF (k_X4_size l ((k / 5) - 2) (by omega)) gX4_findMove_X4_size f_X4_size ⟨rfl, rfl, Nat.le_of_ble_eq_true rfl, Nat.le_of_ble_eq_true rfl, Nat.le_of_ble_eq_true rfl, Nat.le_of_ble_eq_true rfl⟩ tB_bl tB_in rfl hl.1 rfl (Nat.le_of_ble_eq_true rfl) dX4_findMove_73) ?_
                  refine lv_iload hx hb dX4_findMove_76 (lv_at hl 0 rfl) ?_
                  refine ri_rd (ri_runS (As := [.int (iI ((k % 5) - 2))]) (rest := [.int (iI (((k / 5) - 2).natAbs : Int))]) CF (k_X4_size l ((k % 5) - 2) (by omega)) gX4_findMove_X4_size f_X4_size ⟨rfl, rfl, Nat.le_of_ble_eq_true rfl, Nat.le_of_ble_eq_true rfl, Nat.le_of_ble_eq_true rfl, Nat.le_of_ble_eq_true rfl⟩ tB_bl tB_in rfl hl.1 rfl (Nat.le_of_ble_eq_true rfl) dX4_findMove_78) ?_
                  refine ri_iadd hx hb dX4_findMove_81 ?_
                  refine lv_iload hx hb dX4_findMove_82 (lv_at hl 6 rfl) ?_
                  refine ri_icmp_ne (tgt := 114) hx hb (by omega) dX4_findMove_84 (by decide) (fun h84 => ?_) (fun h84 => ?_)
                  · skip
                    refine ri_iinc (lv' := [(5, .int (iI (k + 1))), (7, .int (iI ((k % 5) - 2))), (6, .int (iI ((k / 5) - 2))), (0, .ref (a 0)), (1, .int (iI b)), (2, .int (iI t)), (3, .int (iI n)), (4, .int (iI far))]) hx hb dX4_findMove_114 hl (k := 7) rfl (by decide) rfl (fun ls hl => ?_)
                    refine lv_goto (tgt := 48) hx hb dX4_findMove_117 (by decide) ?_
                    exact ih48 (k + 1) (by omega) (scan_k hal2 (by omega) (Or.inl h84)) (by omega) ls (lv_sub hl [3, 4, 5, 6, 7, 0] rfl)
                  · skip
                    refine lv_aload_n hx hb dX4_findMove_87 rfl (lv_at hl 2 rfl) ?_
                    refine lv_iload_n hx hb dX4_findMove_88 rfl (lv_at hl 3 rfl) ?_
                    refine lv_iload_n hx hb dX4_findMove_89 rfl (lv_at hl 4 rfl) ?_
                    refine lv_iload_n hx hb dX4_findMove_90 rfl (lv_at hl 5 rfl) ?_
                    refine lv_iload hx hb dX4_findMove_91 (lv_at hl 0 rfl) ?_
                    refine lv_iload hx hb dX4_findMove_93 (lv_at hl 1 rfl) ?_
                    refine ri_rd (ri_runV (b := a 0) (As := [.int (iI b), .int (iI t), .int (iI n), .int (iI ((k % 5) - 2)), .int (iI ((k / 5) - 2))]) (rest := []) CF (k_X4_fits l D a kk (zrG g) b t n ((k % 5) - 2) ((k / 5) - 2) hM1 (by omega) (by omega) (by omega) (by omega) (by omega)) gX4_findMove_X4_fits f_X4_fits rfl (va_recv hK hP (ci := 4) (q0 := 0) rfl rfl) ⟨rfl, rfl, Nat.le_of_ble_eq_true rfl, Nat.le_of_ble_eq_true rfl, Nat.le_of_ble_eq_true rfl, Nat.le_of_ble_eq_true rfl⟩ wB_bl (wB_in hP hK hN) rfl hl.1 rfl (Nat.le_of_ble_eq_true rfl) dX4_findMove_95) ?_
                    refine ri_eq (y := bp ((fitP (px (g 1) t) (px (g 2) (5 * b + t)) n (g 4 (4 * t).toNat) (g 4 (4 * t + 1).toNat) (g 4 (4 * t).toNat + g 4 (4 * t + 2).toNat) (g 4 (4 * t + 1).toNat + g 4 (4 * t + 3).toNat)) (k % 5 - 2) (k / 5 - 2))) (rfl) ?_
                    refine ri_ifeq_b (tgt := 114) hx hb dX4_findMove_98 (by decide) (fun h98 => ?_) (fun h98 => ?_)
                    · skip
                      refine ri_iinc (lv' := [(5, .int (iI (k + 1))), (7, .int (iI ((k % 5) - 2))), (6, .int (iI ((k / 5) - 2))), (0, .ref (a 0)), (1, .int (iI b)), (2, .int (iI t)), (3, .int (iI n)), (4, .int (iI far))]) hx hb dX4_findMove_114 hl (k := 7) rfl (by decide) rfl (fun ls hl => ?_)
                      refine lv_goto (tgt := 48) hx hb dX4_findMove_117 (by decide) ?_
                      exact ih48 (k + 1) (by omega) (scan_k hal2 (by omega) (Or.inr h98)) (by omega) ls (lv_sub hl [3, 4, 5, 6, 7, 0] rfl)
                    · skip
                      refine lv_aload_n hx hb dX4_findMove_101 rfl (lv_at hl 2 rfl) ?_
                      refine lv_iload hx hb dX4_findMove_102 (lv_at hl 0 rfl) ?_
                      refine va_put (D := D) (ci := 4) (v := .int (iI ((k % 5) - 2))) (ty := .int) (C := RX4) (T := TX4) (N := 10) hx hb hts hinX4 tyX4 tyX4_ok nmX4 hown hK hP (mD hA) hS 0 rfl rfl 8 (by decide) (hts _ (List.mem_of_getElem? (i := 1) rfl)) (fun _ h9 => h9) rfl (by decide +kernel) rfl rfl (Nat.le_of_ble_eq_true rfl) dX4_findMove_104 (fun H locs hP _ hS => ?_)
                      replace hP := mF8 hP
                      refine lv_aload_n hx hb dX4_findMove_107 rfl (lv_at hl 2 rfl) ?_
                      refine lv_iload hx hb dX4_findMove_108 (lv_at hl 1 rfl) ?_
                      refine va_put (D := D) (ci := 4) (v := .int (iI ((k / 5) - 2))) (ty := .int) (C := RX4) (T := TX4) (N := 10) hx hb hts hinX4 tyX4 tyX4_ok nmX4 hown hK hP (mD hA) hS 0 rfl rfl 9 (by decide) (hts _ (List.mem_of_getElem? (i := 2) rfl)) (fun _ h9 => h9) rfl (by decide +kernel) rfl rfl (Nat.le_of_ble_eq_true rfl) dX4_findMove_110 (fun H locs hP _ hS => ?_)
                      replace hP := mF9 hP
                      exact ri_vretW (A := (aA 8 a)) (PP := (fun H => va_P D vwCl (mW a kk (mvG g (fitP (px (g 1) t) (px (g 2) (5 * b + t)) n (g 4 (4 * t).toNat) (g 4 (4 * t + 1).toNat) (g 4 (4 * t).toNat + g 4 (4 * t + 2).toNat) (g 4 (4 * t + 1).toNat + g 4 (4 * t + 3).toNat)))) H)) hx hb hr hlocks hS (by have e := zr_set g (k % 5 - 2) (k / 5 - 2); rw [e] at hP; show va_P D vwCl (mW a kk (mvG g (fitP (px (g 1) t) (px (g 2) (5 * b + t)) n (g 4 (4 * t).toNat) (g 4 (4 * t + 1).toNat) (g 4 (4 * t).toNat + g 4 (4 * t + 2).toNat) (g 4 (4 * t + 1).toNat + g 4 (4 * t + 3).toNat)))) _; rw [mvG_of (scan_hit hall hal2 hk (by omega) h98)]; exact hP) dX4_findMove_113
            exact L48 27 (0) (by omega) (fun c1 r1 i q z => by unfold in5 at i; omega) (by decide) ls (lv_sub hl [1, 2, 3, 4, 5, 0] rfl)
      exact L39 6 (1) (by omega) (scan_0 h32) (by decide) ls (lv_sub hl [1, 2, 3, 4, 0] rfl)
    · skip
      exact ri_vretW (A := (aA 8 a)) (PP := (fun H => va_P D vwCl (mW a kk (mvG g (fitP (px (g 1) t) (px (g 2) (5 * b + t)) n (g 4 (4 * t).toNat) (g 4 (4 * t + 1).toNat) (g 4 (4 * t).toNat + g 4 (4 * t + 2).toNat) (g 4 (4 * t + 1).toNat + g 4 (4 * t + 3).toNat)))) H)) hx hb hr hlocks hS (by show va_P D vwCl (mW a kk (mvG g (fitP (px (g 1) t) (px (g 2) (5 * b + t)) n (g 4 (4 * t).toNat) (g 4 (4 * t + 1).toNat) (g 4 (4 * t).toNat + g 4 (4 * t + 2).toNat) (g 4 (4 * t + 1).toNat + g 4 (4 * t + 3).toNat)))) _; rw [mvG_of (best_00 h32)]; exact hP) dX4_findMove_35

theorem f_X4_canCompare : MF yX4_canCompare wsX4_canCompare cX4_canCompare 5 (some .boolean) 3 := ⟨⟨_, rfl⟩, by decide +kernel, by decide +kernel, by decide +kernel⟩
set_option maxHeartbeats 4000000 in
set_option maxRecDepth 100000 in
theorem k_X4_canCompare_ok (l : Launch) (D : va_G) (a : Nat → Nat) (kk : Nat → ClassId) (g : Nat → Nat → Int) (b : Int) (t : Int) (n : Int) (hA : aDs 8 a) (hM : MInv g) (yb : -2147483648 ≤ b ∧ b < 2147483648) (yt : -2147483648 ≤ t ∧ t < 2147483648) (yn : -2147483648 ≤ n ∧ n < 2147483648) (hok : ((0 ≤ b ∧ b ≤ 3) ∧ (0 ≤ t ∧ t ≤ 4) ∧ (0 ≤ n ∧ n ≤ 255)) ∧ g 3 (5 * b + t).toNat = 1) : WI l yX4_canCompare wsX4_canCompare ({ frames := 4, cells := 0, slots := 0, locals := 104 }) [.ref (a 0), .int (iI b), .int (iI t), .int (iI n)] (wB D kk (mW a kk g)) (1) (fun H => va_P D vwCl (mW a kk (mvG (thG g 0) (fitP (px (g 1) t) (px (g 2) (5 * b + t)) n (g 4 (4 * t).toNat) (g 4 (4 * t + 1).toNat) (g 4 (4 * t).toNat + g 4 (4 * t + 2).toNat) (g 4 (4 * t + 1).toNat + g 4 (4 * t + 3).toNat)))) H) (aA 8 a) 0 0 := by
  refine ri_ent (cc := cX4_canCompare) (maxL := 5) (ret := some .boolean) (by decide) rfl (Nat.le_of_ble_eq_true rfl) ?_
  intro zp ze s zm zb zt zc hx hb hr hts hown hlocks hml hin hB ls hl
  have hown : s.vm.findClass RX4 = some zm.cls := hown
  have CF : CallFix zp zm zc cX4_canCompare 5 s ([.ref (a 0), .int (iI b), .int (iI t), .int (iI n)] : List Value).toArray wsX4_canCompare RX4 := ⟨hx, hb, hml, hown, hts⟩
  obtain ⟨hP, hK, hN⟩ := hB
  have hinX4 : ∀ w ∈ wsX40, w ∈ wsX4_canCompare := (fun _ h => List.mem_cons_of_mem _ (List.mem_append_right _ h))
  have hS : va_S (aA 8 a) s.heap s.heap [] := va_S.rf
  have hl : lv_has ls 5 [(0, .ref (a 0)), (1, .int (iI b)), (2, .int (iI t)), (3, .int (iI n))] := hl
  obtain ⟨⟨o1, o2, o3⟩, o4⟩ := id hok
  refine lv_iload_n hx hb dX4_canCompare_0 rfl (lv_at hl 1 rfl) ?_
  refine ri_iconst hx hb dX4_canCompare_1 ?_
  refine ri_iconst hx hb dX4_canCompare_2 ?_
  refine ri_rd (ri_runS (As := [.int (iI b), .int (iI 0), .int (iI 3)]) (rest := []) CF (k_X4_in l b 0 3 (by omega) (by omega) (by omega)) gX4_canCompare_X4_in f_X4_in ⟨rfl, rfl, Nat.le_of_ble_eq_true rfl, Nat.le_of_ble_eq_true rfl, Nat.le_of_ble_eq_true rfl, Nat.le_of_ble_eq_true rfl⟩ tB_bl tB_in rfl hl.1 rfl (Nat.le_of_ble_eq_true rfl) dX4_canCompare_3) ?_
  refine ri_ifeq_b (tgt := 31) hx hb dX4_canCompare_6 (by decide) (fun c_1 => ?_) (fun c_1 => ?_)
  · skip
    exfalso; omega
  · skip
    refine lv_iload_n hx hb dX4_canCompare_9 rfl (lv_at hl 2 rfl) ?_
    refine ri_rd (ri_runS (As := [.int (iI t)]) (rest := []) CF (k_X4_isTest l t (by omega)) gX4_canCompare_X4_isTest f_X4_isTest ⟨rfl, rfl, Nat.le_of_ble_eq_true rfl, Nat.le_of_ble_eq_true rfl, Nat.le_of_ble_eq_true rfl, Nat.le_of_ble_eq_true rfl⟩ tB_bl tB_in rfl hl.1 rfl (Nat.le_of_ble_eq_true rfl) dX4_canCompare_10) ?_
    refine ri_ifeq_b (tgt := 31) hx hb dX4_canCompare_13 (by decide) (fun c_2 => ?_) (fun c_2 => ?_)
    · skip
      exfalso; omega
    · skip
      refine lv_iload_n hx hb dX4_canCompare_16 rfl (lv_at hl 3 rfl) ?_
      refine ri_iconst hx hb dX4_canCompare_17 ?_
      refine ri_sipush hx hb dX4_canCompare_18 (by decide) ?_
      refine ri_rd (ri_runS (As := [.int (iI n), .int (iI 0), .int (iI 255)]) (rest := []) CF (k_X4_in l n 0 255 (by omega) (by omega) (by omega)) gX4_canCompare_X4_in f_X4_in ⟨rfl, rfl, Nat.le_of_ble_eq_true rfl, Nat.le_of_ble_eq_true rfl, Nat.le_of_ble_eq_true rfl, Nat.le_of_ble_eq_true rfl⟩ tB_bl tB_in rfl hl.1 rfl (Nat.le_of_ble_eq_true rfl) dX4_canCompare_21) ?_
      refine ri_ifeq_b (tgt := 31) hx hb dX4_canCompare_24 (by decide) (fun c_3 => ?_) (fun c_3 => ?_)
      · skip
        exfalso; omega
      · skip
        refine ri_iconst hx hb dX4_canCompare_27 ?_
        refine lv_goto (tgt := 32) hx hb dX4_canCompare_28 (by decide) ?_
        refine lv_istore (lv' := [(4, .int (iI 1)), (0, .ref (a 0)), (1, .int (iI b)), (2, .int (iI t)), (3, .int (iI n))]) hx hb dX4_canCompare_32 hl (by decide) rfl (fun ls hl => ?_)
        refine lv_aload_n hx hb dX4_canCompare_34 rfl (lv_at hl 1 rfl) ?_
        refine lv_iload hx hb dX4_canCompare_35 (lv_at hl 0 rfl) ?_
        refine ri_if_ne (tgt := 44) hx hb (by omega) dX4_canCompare_37 (by decide) (fun c_4 => ?_) (fun c_4 => ?_)
        · skip
          refine lv_aload_n hx hb dX4_canCompare_44 rfl (lv_at hl 1 rfl) ?_
          refine va_get (D := D) (ci := 4) (v := .ref (a 3)) (C := RX4) (T := TX4) (N := 10) hx hb hts hinX4 hown hK hP 0 rfl rfl 3 (by decide) (hts _ (List.mem_of_getElem? (i := 1) rfl)) (fun _ h9 => h9) rfl dX4_canCompare_45 ?_
          refine lv_iload_n hx hb dX4_canCompare_48 rfl (lv_at hl 2 rfl) ?_
          refine lv_iload_n hx hb dX4_canCompare_49 rfl (lv_at hl 3 rfl) ?_
          refine ri_rd (ri_runS (As := [.int (iI b), .int (iI t)]) (rest := [.ref (a 3), .ref (a 0)]) CF (k_X4_placeOf l b t) gX4_canCompare_X4_placeOf f_X4_placeOf ⟨rfl, rfl, Nat.le_of_ble_eq_true rfl, Nat.le_of_ble_eq_true rfl, Nat.le_of_ble_eq_true rfl, Nat.le_of_ble_eq_true rfl⟩ tB_bl tB_in rfl hl.1 rfl (Nat.le_of_ble_eq_true rfl) dX4_canCompare_50) ?_
          refine ri_zald hx hb hK hP 3 1 rfl rfl (by omega) (by decide) dX4_canCompare_53 ?_
          have f_5 := hM.2.2.1 (5 * b + t).toNat (by omega)
          refine ri_if_eq (tgt := 61) hx hb (by omega) dX4_canCompare_54 (by decide) (fun c_6 => ?_) (fun c_6 => ?_)
          · skip
            exfalso; omega
          · skip
            refine ri_iconst hx hb dX4_canCompare_57 ?_
            refine lv_goto (tgt := 62) hx hb dX4_canCompare_58 (by decide) ?_
            refine ri_wi (v := bp (0 = 0)) (PP := fun H => va_P D vwCl (mW a kk (thG g 0)) H) (ri_runV (b := a 0) (As := [.int (iI 0)]) (rest := []) CF (k_X4_goesWell l D a kk g 0 hA (by omega)) gX4_canCompare_X4_goesWell f_X4_goesWell rfl (va_recv hK hP (ci := 4) (q0 := 0) rfl rfl) ⟨rfl, rfl, Nat.le_of_ble_eq_true rfl, Nat.le_of_ble_eq_true rfl, Nat.le_of_ble_eq_true rfl, Nat.le_of_ble_eq_true rfl⟩ wB_bl (wB_in hP hK hN) rfl hl.1 rfl (Nat.le_of_ble_eq_true rfl) dX4_canCompare_62) hS (fun _ h => h) (fun H locs hP _ hS => ?_)
            replace hP : va_P D vwCl (mW a kk (thG g 0)) H := hP
            refine ri_ifne_b (tgt := 70) hx hb dX4_canCompare_65 (by decide) (fun c_7 => ?_) (fun c_7 => ?_)
            · skip
              refine lv_aload_n hx hb dX4_canCompare_70 rfl (lv_at hl 1 rfl) ?_
              refine lv_iload_n hx hb dX4_canCompare_71 rfl (lv_at hl 2 rfl) ?_
              refine lv_iload_n hx hb dX4_canCompare_72 rfl (lv_at hl 3 rfl) ?_
              refine lv_iload_n hx hb dX4_canCompare_73 rfl (lv_at hl 4 rfl) ?_
              refine ri_wv (PP := fun H => va_P D vwCl (mW a kk (mvG (thG g 0) (fitP (px (g 1) t) (px (g 2) (5 * b + t)) n (g 4 (4 * t).toNat) (g 4 (4 * t + 1).toNat) (g 4 (4 * t).toNat + g 4 (4 * t + 2).toNat) (g 4 (4 * t + 1).toNat + g 4 (4 * t + 3).toNat)))) H) (ri_runV (b := a 0) (As := [.int (iI b), .int (iI t), .int (iI n)]) (rest := []) CF (k_X4_findMove l D a kk (thG g 0) b t n hA hM (by omega) (by omega) (by omega)) gX4_canCompare_X4_findMove f_X4_findMove rfl (va_recv hK hP (ci := 4) (q0 := 0) rfl rfl) ⟨rfl, rfl, Nat.le_of_ble_eq_true rfl, Nat.le_of_ble_eq_true rfl, Nat.le_of_ble_eq_true rfl, Nat.le_of_ble_eq_true rfl⟩ wB_bl (wB_in hP hK hN) rfl hl.1 rfl (Nat.le_of_ble_eq_true rfl) dX4_canCompare_74) hS (fun _ h => h) (fun H locs hP _ hS => ?_)
              replace hP : va_P D vwCl (mW a kk (mvG (thG g 0) (fitP (px (g 1) t) (px (g 2) (5 * b + t)) n (g 4 (4 * t).toNat) (g 4 (4 * t + 1).toNat) (g 4 (4 * t).toNat + g 4 (4 * t + 2).toNat) (g 4 (4 * t + 1).toNat + g 4 (4 * t + 3).toNat)))) H := hP
              refine ri_iconst hx hb dX4_canCompare_77 ?_
              exact ri_zretW (A := (aA 8 a)) (PP := (fun H => va_P D vwCl (mW a kk (mvG (thG g 0) (fitP (px (g 1) t) (px (g 2) (5 * b + t)) n (g 4 (4 * t).toNat) (g 4 (4 * t + 1).toNat) (g 4 (4 * t).toNat + g 4 (4 * t + 2).toNat) (g 4 (4 * t + 1).toNat + g 4 (4 * t + 3).toNat)))) H)) hx hb hr hlocks hS (hP) (Or.inr rfl) dX4_canCompare_78 (rfl)
            · skip
              exfalso; omega
        · skip
          exfalso; omega

set_option maxHeartbeats 4000000 in
set_option maxRecDepth 100000 in
theorem k_X4_canCompare_no (l : Launch) (D : va_G) (a : Nat → Nat) (kk : Nat → ClassId) (g : Nat → Nat → Int) (pl : Int) (b : Int) (t : Int) (n : Int) (hA : aDs 8 a) (hM : MInv g) (yb : -2147483648 ≤ b ∧ b < 2147483648) (yt : -2147483648 ≤ t ∧ t < 2147483648) (yn : -2147483648 ≤ n ∧ n < 2147483648) (hno : (pl = 1 ∧ ¬ ((0 ≤ b ∧ b ≤ 3) ∧ (0 ≤ t ∧ t ≤ 4) ∧ (0 ≤ n ∧ n ≤ 255))) ∨ (pl = 2 ∧ ((0 ≤ b ∧ b ≤ 3) ∧ (0 ≤ t ∧ t ≤ 4) ∧ (0 ≤ n ∧ n ≤ 255)) ∧ ¬ g 3 (5 * b + t).toNat = 1)) : WI l yX4_canCompare wsX4_canCompare ({ frames := 2, cells := 0, slots := 0, locals := 42 }) [.ref (a 0), .int (iI b), .int (iI t), .int (iI n)] (wB D kk (mW a kk g)) (0) (fun H => va_P D vwCl (mW a kk (thG g pl)) H) (aA 8 a) 0 0 := by
  refine ri_ent (cc := cX4_canCompare) (maxL := 5) (ret := some .boolean) (by decide) rfl (Nat.le_of_ble_eq_true rfl) ?_
  intro zp ze s zm zb zt zc hx hb hr hts hown hlocks hml hin hB ls hl
  have hown : s.vm.findClass RX4 = some zm.cls := hown
  have CF : CallFix zp zm zc cX4_canCompare 5 s ([.ref (a 0), .int (iI b), .int (iI t), .int (iI n)] : List Value).toArray wsX4_canCompare RX4 := ⟨hx, hb, hml, hown, hts⟩
  obtain ⟨hP, hK, hN⟩ := hB
  have hinX4 : ∀ w ∈ wsX40, w ∈ wsX4_canCompare := (fun _ h => List.mem_cons_of_mem _ (List.mem_append_right _ h))
  have hS : va_S (aA 8 a) s.heap s.heap [] := va_S.rf
  have hl : lv_has ls 5 [(0, .ref (a 0)), (1, .int (iI b)), (2, .int (iI t)), (3, .int (iI n))] := hl
  refine lv_iload_n hx hb dX4_canCompare_0 rfl (lv_at hl 1 rfl) ?_
  refine ri_iconst hx hb dX4_canCompare_1 ?_
  refine ri_iconst hx hb dX4_canCompare_2 ?_
  refine ri_rd (ri_runS (As := [.int (iI b), .int (iI 0), .int (iI 3)]) (rest := []) CF (k_X4_in l b 0 3 (by omega) (by omega) (by omega)) gX4_canCompare_X4_in f_X4_in ⟨rfl, rfl, Nat.le_of_ble_eq_true rfl, Nat.le_of_ble_eq_true rfl, Nat.le_of_ble_eq_true rfl, Nat.le_of_ble_eq_true rfl⟩ tB_bl tB_in rfl hl.1 rfl (Nat.le_of_ble_eq_true rfl) dX4_canCompare_3) ?_
  refine ri_ifeq_b (tgt := 31) hx hb dX4_canCompare_6 (by decide) (fun c_1 => ?_) (fun c_1 => ?_)
  · skip
    refine ri_iconst hx hb dX4_canCompare_31 ?_
    refine lv_istore (lv' := [(4, .int (iI 0)), (0, .ref (a 0)), (1, .int (iI b)), (2, .int (iI t)), (3, .int (iI n))]) hx hb dX4_canCompare_32 hl (by decide) rfl (fun ls hl => ?_)
    refine lv_aload_n hx hb dX4_canCompare_34 rfl (lv_at hl 1 rfl) ?_
    refine lv_iload hx hb dX4_canCompare_35 (lv_at hl 0 rfl) ?_
    refine ri_if_ne (tgt := 44) hx hb (by omega) dX4_canCompare_37 (by decide) (fun c_2 => ?_) (fun c_2 => ?_)
    · skip
      exfalso; omega
    · skip
      refine ri_iconst hx hb dX4_canCompare_40 ?_
      refine lv_goto (tgt := 62) hx hb dX4_canCompare_41 (by decide) ?_
      refine ri_wi (v := bp (1 = 0)) (PP := fun H => va_P D vwCl (mW a kk (thG g 1)) H) (ri_runV (b := a 0) (As := [.int (iI 1)]) (rest := []) CF (k_X4_goesWell l D a kk g 1 hA (by omega)) gX4_canCompare_X4_goesWell f_X4_goesWell rfl (va_recv hK hP (ci := 4) (q0 := 0) rfl rfl) ⟨rfl, rfl, Nat.le_of_ble_eq_true rfl, Nat.le_of_ble_eq_true rfl, Nat.le_of_ble_eq_true rfl, Nat.le_of_ble_eq_true rfl⟩ wB_bl (wB_in hP hK hN) rfl hl.1 rfl (Nat.le_of_ble_eq_true rfl) dX4_canCompare_62) hS (fun _ h => h) (fun H locs hP _ hS => ?_)
      replace hP : va_P D vwCl (mW a kk (thG g 1)) H := hP
      refine ri_ifne_b (tgt := 70) hx hb dX4_canCompare_65 (by decide) (fun c_3 => ?_) (fun c_3 => ?_)
      · skip
        exfalso; omega
      · skip
        refine ri_iconst hx hb dX4_canCompare_68 ?_
        exact ri_zretW (A := (aA 8 a)) (PP := (fun H => va_P D vwCl (mW a kk (thG g pl)) H)) hx hb hr hlocks hS (by show va_P D vwCl (mW a kk (thG g pl)) _; have e9 : pl = 1 := (by omega); rw [e9]; exact hP) (Or.inl rfl) dX4_canCompare_69 (rfl)
  · skip
    refine lv_iload_n hx hb dX4_canCompare_9 rfl (lv_at hl 2 rfl) ?_
    refine ri_rd (ri_runS (As := [.int (iI t)]) (rest := []) CF (k_X4_isTest l t (by omega)) gX4_canCompare_X4_isTest f_X4_isTest ⟨rfl, rfl, Nat.le_of_ble_eq_true rfl, Nat.le_of_ble_eq_true rfl, Nat.le_of_ble_eq_true rfl, Nat.le_of_ble_eq_true rfl⟩ tB_bl tB_in rfl hl.1 rfl (Nat.le_of_ble_eq_true rfl) dX4_canCompare_10) ?_
    refine ri_ifeq_b (tgt := 31) hx hb dX4_canCompare_13 (by decide) (fun c_4 => ?_) (fun c_4 => ?_)
    · skip
      refine ri_iconst hx hb dX4_canCompare_31 ?_
      refine lv_istore (lv' := [(4, .int (iI 0)), (0, .ref (a 0)), (1, .int (iI b)), (2, .int (iI t)), (3, .int (iI n))]) hx hb dX4_canCompare_32 hl (by decide) rfl (fun ls hl => ?_)
      refine lv_aload_n hx hb dX4_canCompare_34 rfl (lv_at hl 1 rfl) ?_
      refine lv_iload hx hb dX4_canCompare_35 (lv_at hl 0 rfl) ?_
      refine ri_if_ne (tgt := 44) hx hb (by omega) dX4_canCompare_37 (by decide) (fun c_5 => ?_) (fun c_5 => ?_)
      · skip
        exfalso; omega
      · skip
        refine ri_iconst hx hb dX4_canCompare_40 ?_
        refine lv_goto (tgt := 62) hx hb dX4_canCompare_41 (by decide) ?_
        refine ri_wi (v := bp (1 = 0)) (PP := fun H => va_P D vwCl (mW a kk (thG g 1)) H) (ri_runV (b := a 0) (As := [.int (iI 1)]) (rest := []) CF (k_X4_goesWell l D a kk g 1 hA (by omega)) gX4_canCompare_X4_goesWell f_X4_goesWell rfl (va_recv hK hP (ci := 4) (q0 := 0) rfl rfl) ⟨rfl, rfl, Nat.le_of_ble_eq_true rfl, Nat.le_of_ble_eq_true rfl, Nat.le_of_ble_eq_true rfl, Nat.le_of_ble_eq_true rfl⟩ wB_bl (wB_in hP hK hN) rfl hl.1 rfl (Nat.le_of_ble_eq_true rfl) dX4_canCompare_62) hS (fun _ h => h) (fun H locs hP _ hS => ?_)
        replace hP : va_P D vwCl (mW a kk (thG g 1)) H := hP
        refine ri_ifne_b (tgt := 70) hx hb dX4_canCompare_65 (by decide) (fun c_6 => ?_) (fun c_6 => ?_)
        · skip
          exfalso; omega
        · skip
          refine ri_iconst hx hb dX4_canCompare_68 ?_
          exact ri_zretW (A := (aA 8 a)) (PP := (fun H => va_P D vwCl (mW a kk (thG g pl)) H)) hx hb hr hlocks hS (by show va_P D vwCl (mW a kk (thG g pl)) _; have e9 : pl = 1 := (by omega); rw [e9]; exact hP) (Or.inl rfl) dX4_canCompare_69 (rfl)
    · skip
      refine lv_iload_n hx hb dX4_canCompare_16 rfl (lv_at hl 3 rfl) ?_
      refine ri_iconst hx hb dX4_canCompare_17 ?_
      refine ri_sipush hx hb dX4_canCompare_18 (by decide) ?_
      refine ri_rd (ri_runS (As := [.int (iI n), .int (iI 0), .int (iI 255)]) (rest := []) CF (k_X4_in l n 0 255 (by omega) (by omega) (by omega)) gX4_canCompare_X4_in f_X4_in ⟨rfl, rfl, Nat.le_of_ble_eq_true rfl, Nat.le_of_ble_eq_true rfl, Nat.le_of_ble_eq_true rfl, Nat.le_of_ble_eq_true rfl⟩ tB_bl tB_in rfl hl.1 rfl (Nat.le_of_ble_eq_true rfl) dX4_canCompare_21) ?_
      refine ri_ifeq_b (tgt := 31) hx hb dX4_canCompare_24 (by decide) (fun c_7 => ?_) (fun c_7 => ?_)
      · skip
        refine ri_iconst hx hb dX4_canCompare_31 ?_
        refine lv_istore (lv' := [(4, .int (iI 0)), (0, .ref (a 0)), (1, .int (iI b)), (2, .int (iI t)), (3, .int (iI n))]) hx hb dX4_canCompare_32 hl (by decide) rfl (fun ls hl => ?_)
        refine lv_aload_n hx hb dX4_canCompare_34 rfl (lv_at hl 1 rfl) ?_
        refine lv_iload hx hb dX4_canCompare_35 (lv_at hl 0 rfl) ?_
        refine ri_if_ne (tgt := 44) hx hb (by omega) dX4_canCompare_37 (by decide) (fun c_8 => ?_) (fun c_8 => ?_)
        · skip
          exfalso; omega
        · skip
          refine ri_iconst hx hb dX4_canCompare_40 ?_
          refine lv_goto (tgt := 62) hx hb dX4_canCompare_41 (by decide) ?_
          refine ri_wi (v := bp (1 = 0)) (PP := fun H => va_P D vwCl (mW a kk (thG g 1)) H) (ri_runV (b := a 0) (As := [.int (iI 1)]) (rest := []) CF (k_X4_goesWell l D a kk g 1 hA (by omega)) gX4_canCompare_X4_goesWell f_X4_goesWell rfl (va_recv hK hP (ci := 4) (q0 := 0) rfl rfl) ⟨rfl, rfl, Nat.le_of_ble_eq_true rfl, Nat.le_of_ble_eq_true rfl, Nat.le_of_ble_eq_true rfl, Nat.le_of_ble_eq_true rfl⟩ wB_bl (wB_in hP hK hN) rfl hl.1 rfl (Nat.le_of_ble_eq_true rfl) dX4_canCompare_62) hS (fun _ h => h) (fun H locs hP _ hS => ?_)
          replace hP : va_P D vwCl (mW a kk (thG g 1)) H := hP
          refine ri_ifne_b (tgt := 70) hx hb dX4_canCompare_65 (by decide) (fun c_9 => ?_) (fun c_9 => ?_)
          · skip
            exfalso; omega
          · skip
            refine ri_iconst hx hb dX4_canCompare_68 ?_
            exact ri_zretW (A := (aA 8 a)) (PP := (fun H => va_P D vwCl (mW a kk (thG g pl)) H)) hx hb hr hlocks hS (by show va_P D vwCl (mW a kk (thG g pl)) _; have e9 : pl = 1 := (by omega); rw [e9]; exact hP) (Or.inl rfl) dX4_canCompare_69 (rfl)
      · skip
        refine ri_iconst hx hb dX4_canCompare_27 ?_
        refine lv_goto (tgt := 32) hx hb dX4_canCompare_28 (by decide) ?_
        refine lv_istore (lv' := [(4, .int (iI 1)), (0, .ref (a 0)), (1, .int (iI b)), (2, .int (iI t)), (3, .int (iI n))]) hx hb dX4_canCompare_32 hl (by decide) rfl (fun ls hl => ?_)
        refine lv_aload_n hx hb dX4_canCompare_34 rfl (lv_at hl 1 rfl) ?_
        refine lv_iload hx hb dX4_canCompare_35 (lv_at hl 0 rfl) ?_
        refine ri_if_ne (tgt := 44) hx hb (by omega) dX4_canCompare_37 (by decide) (fun c_10 => ?_) (fun c_10 => ?_)
        · skip
          refine lv_aload_n hx hb dX4_canCompare_44 rfl (lv_at hl 1 rfl) ?_
          refine va_get (D := D) (ci := 4) (v := .ref (a 3)) (C := RX4) (T := TX4) (N := 10) hx hb hts hinX4 hown hK hP 0 rfl rfl 3 (by decide) (hts _ (List.mem_of_getElem? (i := 1) rfl)) (fun _ h9 => h9) rfl dX4_canCompare_45 ?_
          refine lv_iload_n hx hb dX4_canCompare_48 rfl (lv_at hl 2 rfl) ?_
          refine lv_iload_n hx hb dX4_canCompare_49 rfl (lv_at hl 3 rfl) ?_
          refine ri_rd (ri_runS (As := [.int (iI b), .int (iI t)]) (rest := [.ref (a 3), .ref (a 0)]) CF (k_X4_placeOf l b t) gX4_canCompare_X4_placeOf f_X4_placeOf ⟨rfl, rfl, Nat.le_of_ble_eq_true rfl, Nat.le_of_ble_eq_true rfl, Nat.le_of_ble_eq_true rfl, Nat.le_of_ble_eq_true rfl⟩ tB_bl tB_in rfl hl.1 rfl (Nat.le_of_ble_eq_true rfl) dX4_canCompare_50) ?_
          refine ri_zald hx hb hK hP 3 1 rfl rfl (by omega) (by decide) dX4_canCompare_53 ?_
          have f_11 := hM.2.2.1 (5 * b + t).toNat (by omega)
          refine ri_if_eq (tgt := 61) hx hb (by omega) dX4_canCompare_54 (by decide) (fun c_12 => ?_) (fun c_12 => ?_)
          · skip
            refine ri_iconst hx hb dX4_canCompare_61 ?_
            refine ri_wi (v := bp (2 = 0)) (PP := fun H => va_P D vwCl (mW a kk (thG g 2)) H) (ri_runV (b := a 0) (As := [.int (iI 2)]) (rest := []) CF (k_X4_goesWell l D a kk g 2 hA (by omega)) gX4_canCompare_X4_goesWell f_X4_goesWell rfl (va_recv hK hP (ci := 4) (q0 := 0) rfl rfl) ⟨rfl, rfl, Nat.le_of_ble_eq_true rfl, Nat.le_of_ble_eq_true rfl, Nat.le_of_ble_eq_true rfl, Nat.le_of_ble_eq_true rfl⟩ wB_bl (wB_in hP hK hN) rfl hl.1 rfl (Nat.le_of_ble_eq_true rfl) dX4_canCompare_62) hS (fun _ h => h) (fun H locs hP _ hS => ?_)
            replace hP : va_P D vwCl (mW a kk (thG g 2)) H := hP
            refine ri_ifne_b (tgt := 70) hx hb dX4_canCompare_65 (by decide) (fun c_13 => ?_) (fun c_13 => ?_)
            · skip
              exfalso; omega
            · skip
              refine ri_iconst hx hb dX4_canCompare_68 ?_
              exact ri_zretW (A := (aA 8 a)) (PP := (fun H => va_P D vwCl (mW a kk (thG g pl)) H)) hx hb hr hlocks hS (by show va_P D vwCl (mW a kk (thG g pl)) _; have e9 : pl = 2 := (by omega); rw [e9]; exact hP) (Or.inl rfl) dX4_canCompare_69 (rfl)
          · skip
            exfalso; omega
        · skip
          exfalso; omega

theorem f_X4_runs : MF yX4_runs wsX4_runs cX4_runs 2 (some .int) 1 := ⟨⟨_, rfl⟩, by decide +kernel, by decide +kernel, by decide +kernel⟩
set_option maxHeartbeats 4000000 in
set_option maxRecDepth 100000 in
theorem k_X4_runs_ok (l : Launch) (D : va_G) (a : Nat → Nat) (kk : Nat → ClassId) (g : Nat → Nat → Int) (t : Int) (hA : aDs 8 a) (hM : MInv g) (yt : -2147483648 ≤ t ∧ t < 2147483648) (hok : 0 ≤ t ∧ t ≤ 4) : WI l yX4_runs wsX4_runs ({ frames := 2, cells := 0, slots := 0, locals := 42 }) [.ref (a 0), .int (iI t)] (wB D kk (mW a kk g)) (g 7 t.toNat) (fun H => va_P D vwCl (mW a kk (thG g 0)) H) (aA 8 a) 0 0 := by
  refine ri_ent (cc := cX4_runs) (maxL := 2) (ret := some .int) (by decide) rfl (Nat.le_of_ble_eq_true rfl) ?_
  intro zp ze s zm zb zt zc hx hb hr hts hown hlocks hml hin hB ls hl
  have hown : s.vm.findClass RX4 = some zm.cls := hown
  have CF : CallFix zp zm zc cX4_runs 2 s ([.ref (a 0), .int (iI t)] : List Value).toArray wsX4_runs RX4 := ⟨hx, hb, hml, hown, hts⟩
  obtain ⟨hP, hK, hN⟩ := hB
  have hinX4 : ∀ w ∈ wsX40, w ∈ wsX4_runs := (fun _ h => List.mem_cons_of_mem _ (List.mem_append_right _ h))
  have hS : va_S (aA 8 a) s.heap s.heap [] := va_S.rf
  have hl : lv_has ls 2 [(0, .ref (a 0)), (1, .int (iI t))] := hl
  refine lv_aload_n hx hb dX4_runs_0 rfl (lv_at hl 0 rfl) ?_
  refine lv_iload_n hx hb dX4_runs_1 rfl (lv_at hl 1 rfl) ?_
  refine ri_rd (ri_runS (As := [.int (iI t)]) (rest := [.ref (a 0)]) CF (k_X4_isTest l t (by omega)) gX4_runs_X4_isTest f_X4_isTest ⟨rfl, rfl, Nat.le_of_ble_eq_true rfl, Nat.le_of_ble_eq_true rfl, Nat.le_of_ble_eq_true rfl, Nat.le_of_ble_eq_true rfl⟩ tB_bl tB_in rfl hl.1 rfl (Nat.le_of_ble_eq_true rfl) dX4_runs_2) ?_
  refine ri_ifeq_b (tgt := 12) hx hb dX4_runs_5 (by decide) (fun c_1 => ?_) (fun c_1 => ?_)
  · skip
    exfalso; omega
  · skip
    refine ri_iconst hx hb dX4_runs_8 ?_
    refine lv_goto (tgt := 13) hx hb dX4_runs_9 (by decide) ?_
    refine ri_wi (v := bp (0 = 0)) (PP := fun H => va_P D vwCl (mW a kk (thG g 0)) H) (ri_runV (b := a 0) (As := [.int (iI 0)]) (rest := []) CF (k_X4_goesWell l D a kk g 0 hA (by omega)) gX4_runs_X4_goesWell f_X4_goesWell rfl (va_recv hK hP (ci := 4) (q0 := 0) rfl rfl) ⟨rfl, rfl, Nat.le_of_ble_eq_true rfl, Nat.le_of_ble_eq_true rfl, Nat.le_of_ble_eq_true rfl, Nat.le_of_ble_eq_true rfl⟩ wB_bl (wB_in hP hK hN) rfl hl.1 rfl (Nat.le_of_ble_eq_true rfl) dX4_runs_13) hS (fun _ h => h) (fun H locs hP _ hS => ?_)
    replace hP : va_P D vwCl (mW a kk (thG g 0)) H := hP
    refine ri_ifeq_b (tgt := 28) hx hb dX4_runs_16 (by decide) (fun c_2 => ?_) (fun c_2 => ?_)
    · skip
      exfalso; omega
    · skip
      refine lv_aload_n hx hb dX4_runs_19 rfl (lv_at hl 0 rfl) ?_
      refine va_get (D := D) (ci := 4) (v := .ref (a 7)) (C := RX4) (T := TX4) (N := 10) hx hb hts hinX4 hown hK hP 0 rfl rfl 7 (by decide) (hts _ (List.mem_of_getElem? (i := 1) rfl)) (fun _ h9 => h9) rfl dX4_runs_20 ?_
      refine lv_iload_n hx hb dX4_runs_23 rfl (lv_at hl 1 rfl) ?_
      refine ri_iald hx hb hK hP 7 0 rfl rfl (by omega) (by decide) dX4_runs_24 ?_
      refine lv_goto (tgt := 29) hx hb dX4_runs_25 (by decide) ?_
      exact ri_iretW (A := (aA 8 a)) (PP := (fun H => va_P D vwCl (mW a kk (thG g 0)) H)) hx hb hr hlocks hS (hP) dX4_runs_29 (rfl)

set_option maxHeartbeats 4000000 in
set_option maxRecDepth 100000 in
theorem k_X4_runs_no (l : Launch) (D : va_G) (a : Nat → Nat) (kk : Nat → ClassId) (g : Nat → Nat → Int) (t : Int) (hA : aDs 8 a) (hM : MInv g) (yt : -2147483648 ≤ t ∧ t < 2147483648) (hok : ¬ (0 ≤ t ∧ t ≤ 4)) : WI l yX4_runs wsX4_runs ({ frames := 2, cells := 0, slots := 0, locals := 42 }) [.ref (a 0), .int (iI t)] (wB D kk (mW a kk g)) (0) (fun H => va_P D vwCl (mW a kk (thG g 1)) H) (aA 8 a) 0 0 := by
  refine ri_ent (cc := cX4_runs) (maxL := 2) (ret := some .int) (by decide) rfl (Nat.le_of_ble_eq_true rfl) ?_
  intro zp ze s zm zb zt zc hx hb hr hts hown hlocks hml hin hB ls hl
  have hown : s.vm.findClass RX4 = some zm.cls := hown
  have CF : CallFix zp zm zc cX4_runs 2 s ([.ref (a 0), .int (iI t)] : List Value).toArray wsX4_runs RX4 := ⟨hx, hb, hml, hown, hts⟩
  obtain ⟨hP, hK, hN⟩ := hB
  have hS : va_S (aA 8 a) s.heap s.heap [] := va_S.rf
  have hl : lv_has ls 2 [(0, .ref (a 0)), (1, .int (iI t))] := hl
  refine lv_aload_n hx hb dX4_runs_0 rfl (lv_at hl 0 rfl) ?_
  refine lv_iload_n hx hb dX4_runs_1 rfl (lv_at hl 1 rfl) ?_
  refine ri_rd (ri_runS (As := [.int (iI t)]) (rest := [.ref (a 0)]) CF (k_X4_isTest l t (by omega)) gX4_runs_X4_isTest f_X4_isTest ⟨rfl, rfl, Nat.le_of_ble_eq_true rfl, Nat.le_of_ble_eq_true rfl, Nat.le_of_ble_eq_true rfl, Nat.le_of_ble_eq_true rfl⟩ tB_bl tB_in rfl hl.1 rfl (Nat.le_of_ble_eq_true rfl) dX4_runs_2) ?_
  refine ri_ifeq_b (tgt := 12) hx hb dX4_runs_5 (by decide) (fun c_1 => ?_) (fun c_1 => ?_)
  · skip
    refine ri_iconst hx hb dX4_runs_12 ?_
    refine ri_wi (v := bp (1 = 0)) (PP := fun H => va_P D vwCl (mW a kk (thG g 1)) H) (ri_runV (b := a 0) (As := [.int (iI 1)]) (rest := []) CF (k_X4_goesWell l D a kk g 1 hA (by omega)) gX4_runs_X4_goesWell f_X4_goesWell rfl (va_recv hK hP (ci := 4) (q0 := 0) rfl rfl) ⟨rfl, rfl, Nat.le_of_ble_eq_true rfl, Nat.le_of_ble_eq_true rfl, Nat.le_of_ble_eq_true rfl, Nat.le_of_ble_eq_true rfl⟩ wB_bl (wB_in hP hK hN) rfl hl.1 rfl (Nat.le_of_ble_eq_true rfl) dX4_runs_13) hS (fun _ h => h) (fun H locs hP _ hS => ?_)
    replace hP : va_P D vwCl (mW a kk (thG g 1)) H := hP
    refine ri_ifeq_b (tgt := 28) hx hb dX4_runs_16 (by decide) (fun c_2 => ?_) (fun c_2 => ?_)
    · skip
      refine ri_iconst hx hb dX4_runs_28 ?_
      exact ri_iretW (A := (aA 8 a)) (PP := (fun H => va_P D vwCl (mW a kk (thG g 1)) H)) hx hb hr hlocks hS (hP) dX4_runs_29 (rfl)
    · skip
      exfalso; omega
  · skip
    exfalso; omega

theorem f_X4_shade : MF yX4_shade wsX4_shade cX4_shade 4 (some .int) 3 := ⟨⟨_, rfl⟩, by decide +kernel, by decide +kernel, by decide +kernel⟩
set_option maxHeartbeats 4000000 in
set_option maxRecDepth 100000 in
theorem k_X4_shade_ok (l : Launch) (D : va_G) (a : Nat → Nat) (kk : Nat → ClassId) (g : Nat → Nat → Int) (t : Int) (c : Int) (r : Int) (hA : aDs 8 a) (hM : MInv g) (yt : -2147483648 ≤ t ∧ t < 2147483648) (yc : -2147483648 ≤ c ∧ c < 2147483648) (yr : -2147483648 ≤ r ∧ r < 2147483648) (hok : (0 ≤ t ∧ t ≤ 4) ∧ ((0 ≤ c ∧ c ≤ 7) ∧ (0 ≤ r ∧ r ≤ 7))) : WI l yX4_shade wsX4_shade ({ frames := 2, cells := 0, slots := 0, locals := 43 }) [.ref (a 0), .int (iI t), .int (iI c), .int (iI r)] (wB D kk (mW a kk g)) (g 1 (t * 64 + r * 8 + c).toNat) (fun H => va_P D vwCl (mW a kk (thG g 0)) H) (aA 8 a) 0 0 := by
  refine ri_ent (cc := cX4_shade) (maxL := 4) (ret := some .int) (by decide) rfl (Nat.le_of_ble_eq_true rfl) ?_
  intro zp ze s zm zb zt zc hx hb hr hts hown hlocks hml hin hB ls hl
  have hown : s.vm.findClass RX4 = some zm.cls := hown
  have CF : CallFix zp zm zc cX4_shade 4 s ([.ref (a 0), .int (iI t), .int (iI c), .int (iI r)] : List Value).toArray wsX4_shade RX4 := ⟨hx, hb, hml, hown, hts⟩
  obtain ⟨hP, hK, hN⟩ := hB
  have hinX4 : ∀ w ∈ wsX40, w ∈ wsX4_shade := (fun _ h => List.mem_cons_of_mem _ (List.mem_append_right _ h))
  have hS : va_S (aA 8 a) s.heap s.heap [] := va_S.rf
  have hl : lv_has ls 4 [(0, .ref (a 0)), (1, .int (iI t)), (2, .int (iI c)), (3, .int (iI r))] := hl
  obtain ⟨o1, o2, o3⟩ := id hok
  refine lv_aload_n hx hb dX4_shade_0 rfl (lv_at hl 0 rfl) ?_
  refine lv_iload_n hx hb dX4_shade_1 rfl (lv_at hl 1 rfl) ?_
  refine ri_rd (ri_runS (As := [.int (iI t)]) (rest := [.ref (a 0)]) CF (k_X4_isTest l t (by omega)) gX4_shade_X4_isTest f_X4_isTest ⟨rfl, rfl, Nat.le_of_ble_eq_true rfl, Nat.le_of_ble_eq_true rfl, Nat.le_of_ble_eq_true rfl, Nat.le_of_ble_eq_true rfl⟩ tB_bl tB_in rfl hl.1 rfl (Nat.le_of_ble_eq_true rfl) dX4_shade_2) ?_
  refine ri_ifeq_b (tgt := 20) hx hb dX4_shade_5 (by decide) (fun c_1 => ?_) (fun c_1 => ?_)
  · skip
    exfalso; omega
  · skip
    refine lv_iload_n hx hb dX4_shade_8 rfl (lv_at hl 2 rfl) ?_
    refine lv_iload_n hx hb dX4_shade_9 rfl (lv_at hl 3 rfl) ?_
    refine ri_rd (ri_runS (As := [.int (iI c), .int (iI r)]) (rest := [.ref (a 0)]) CF (k_X4_isCell l c r (by omega) (by omega)) gX4_shade_X4_isCell f_X4_isCell ⟨rfl, rfl, Nat.le_of_ble_eq_true rfl, Nat.le_of_ble_eq_true rfl, Nat.le_of_ble_eq_true rfl, Nat.le_of_ble_eq_true rfl⟩ tB_bl tB_in rfl hl.1 rfl (Nat.le_of_ble_eq_true rfl) dX4_shade_10) ?_
    refine ri_ifeq_b (tgt := 20) hx hb dX4_shade_13 (by decide) (fun c_2 => ?_) (fun c_2 => ?_)
    · skip
      exfalso; omega
    · skip
      refine ri_iconst hx hb dX4_shade_16 ?_
      refine lv_goto (tgt := 21) hx hb dX4_shade_17 (by decide) ?_
      refine ri_wi (v := bp (0 = 0)) (PP := fun H => va_P D vwCl (mW a kk (thG g 0)) H) (ri_runV (b := a 0) (As := [.int (iI 0)]) (rest := []) CF (k_X4_goesWell l D a kk g 0 hA (by omega)) gX4_shade_X4_goesWell f_X4_goesWell rfl (va_recv hK hP (ci := 4) (q0 := 0) rfl rfl) ⟨rfl, rfl, Nat.le_of_ble_eq_true rfl, Nat.le_of_ble_eq_true rfl, Nat.le_of_ble_eq_true rfl, Nat.le_of_ble_eq_true rfl⟩ wB_bl (wB_in hP hK hN) rfl hl.1 rfl (Nat.le_of_ble_eq_true rfl) dX4_shade_21) hS (fun _ h => h) (fun H locs hP _ hS => ?_)
      replace hP : va_P D vwCl (mW a kk (thG g 0)) H := hP
      refine ri_ifeq_b (tgt := 46) hx hb dX4_shade_24 (by decide) (fun c_3 => ?_) (fun c_3 => ?_)
      · skip
        exfalso; omega
      · skip
        refine lv_aload_n hx hb dX4_shade_27 rfl (lv_at hl 0 rfl) ?_
        refine va_get (D := D) (ci := 4) (v := .ref (a 1)) (C := RX4) (T := TX4) (N := 10) hx hb hts hinX4 hown hK hP 0 rfl rfl 1 (by decide) (hts _ (List.mem_of_getElem? (i := 1) rfl)) (fun _ h9 => h9) rfl dX4_shade_28 ?_
        refine ri_bipush hx hb dX4_shade_31 (by decide) ?_
        refine lv_iload_n hx hb dX4_shade_33 rfl (lv_at hl 1 rfl) ?_
        refine ri_imul hx hb dX4_shade_34 ?_
        refine ri_bipush hx hb dX4_shade_35 (by decide) ?_
        refine lv_iload_n hx hb dX4_shade_37 rfl (lv_at hl 3 rfl) ?_
        refine ri_imul hx hb dX4_shade_38 ?_
        refine ri_iadd hx hb dX4_shade_39 ?_
        refine lv_iload_n hx hb dX4_shade_40 rfl (lv_at hl 2 rfl) ?_
        refine ri_iadd hx hb dX4_shade_41 ?_
        refine ri_iald hx hb hK hP 1 0 rfl rfl (by omega) (by decide) dX4_shade_42 ?_
        refine ri_eq (y := g 1 (t * 64 + r * 8 + c).toNat) (by show g 1 _ = g 1 _; congr 1; omega) ?_
        refine lv_goto (tgt := 47) hx hb dX4_shade_43 (by decide) ?_
        exact ri_iretW (A := (aA 8 a)) (PP := (fun H => va_P D vwCl (mW a kk (thG g 0)) H)) hx hb hr hlocks hS (hP) dX4_shade_47 (rfl)

set_option maxHeartbeats 4000000 in
set_option maxRecDepth 100000 in
theorem k_X4_shade_no (l : Launch) (D : va_G) (a : Nat → Nat) (kk : Nat → ClassId) (g : Nat → Nat → Int) (t : Int) (c : Int) (r : Int) (hA : aDs 8 a) (hM : MInv g) (yt : -2147483648 ≤ t ∧ t < 2147483648) (yc : -2147483648 ≤ c ∧ c < 2147483648) (yr : -2147483648 ≤ r ∧ r < 2147483648) (hok : ¬ ((0 ≤ t ∧ t ≤ 4) ∧ ((0 ≤ c ∧ c ≤ 7) ∧ (0 ≤ r ∧ r ≤ 7)))) : WI l yX4_shade wsX4_shade ({ frames := 2, cells := 0, slots := 0, locals := 43 }) [.ref (a 0), .int (iI t), .int (iI c), .int (iI r)] (wB D kk (mW a kk g)) (0) (fun H => va_P D vwCl (mW a kk (thG g 1)) H) (aA 8 a) 0 0 := by
  refine ri_ent (cc := cX4_shade) (maxL := 4) (ret := some .int) (by decide) rfl (Nat.le_of_ble_eq_true rfl) ?_
  intro zp ze s zm zb zt zc hx hb hr hts hown hlocks hml hin hB ls hl
  have hown : s.vm.findClass RX4 = some zm.cls := hown
  have CF : CallFix zp zm zc cX4_shade 4 s ([.ref (a 0), .int (iI t), .int (iI c), .int (iI r)] : List Value).toArray wsX4_shade RX4 := ⟨hx, hb, hml, hown, hts⟩
  obtain ⟨hP, hK, hN⟩ := hB
  have hS : va_S (aA 8 a) s.heap s.heap [] := va_S.rf
  have hl : lv_has ls 4 [(0, .ref (a 0)), (1, .int (iI t)), (2, .int (iI c)), (3, .int (iI r))] := hl
  refine lv_aload_n hx hb dX4_shade_0 rfl (lv_at hl 0 rfl) ?_
  refine lv_iload_n hx hb dX4_shade_1 rfl (lv_at hl 1 rfl) ?_
  refine ri_rd (ri_runS (As := [.int (iI t)]) (rest := [.ref (a 0)]) CF (k_X4_isTest l t (by omega)) gX4_shade_X4_isTest f_X4_isTest ⟨rfl, rfl, Nat.le_of_ble_eq_true rfl, Nat.le_of_ble_eq_true rfl, Nat.le_of_ble_eq_true rfl, Nat.le_of_ble_eq_true rfl⟩ tB_bl tB_in rfl hl.1 rfl (Nat.le_of_ble_eq_true rfl) dX4_shade_2) ?_
  refine ri_ifeq_b (tgt := 20) hx hb dX4_shade_5 (by decide) (fun c_1 => ?_) (fun c_1 => ?_)
  · skip
    refine ri_iconst hx hb dX4_shade_20 ?_
    refine ri_wi (v := bp (1 = 0)) (PP := fun H => va_P D vwCl (mW a kk (thG g 1)) H) (ri_runV (b := a 0) (As := [.int (iI 1)]) (rest := []) CF (k_X4_goesWell l D a kk g 1 hA (by omega)) gX4_shade_X4_goesWell f_X4_goesWell rfl (va_recv hK hP (ci := 4) (q0 := 0) rfl rfl) ⟨rfl, rfl, Nat.le_of_ble_eq_true rfl, Nat.le_of_ble_eq_true rfl, Nat.le_of_ble_eq_true rfl, Nat.le_of_ble_eq_true rfl⟩ wB_bl (wB_in hP hK hN) rfl hl.1 rfl (Nat.le_of_ble_eq_true rfl) dX4_shade_21) hS (fun _ h => h) (fun H locs hP _ hS => ?_)
    replace hP : va_P D vwCl (mW a kk (thG g 1)) H := hP
    refine ri_ifeq_b (tgt := 46) hx hb dX4_shade_24 (by decide) (fun c_2 => ?_) (fun c_2 => ?_)
    · skip
      refine ri_iconst hx hb dX4_shade_46 ?_
      exact ri_iretW (A := (aA 8 a)) (PP := (fun H => va_P D vwCl (mW a kk (thG g 1)) H)) hx hb hr hlocks hS (hP) dX4_shade_47 (rfl)
    · skip
      exfalso; omega
  · skip
    refine lv_iload_n hx hb dX4_shade_8 rfl (lv_at hl 2 rfl) ?_
    refine lv_iload_n hx hb dX4_shade_9 rfl (lv_at hl 3 rfl) ?_
    refine ri_rd (ri_runS (As := [.int (iI c), .int (iI r)]) (rest := [.ref (a 0)]) CF (k_X4_isCell l c r (by omega) (by omega)) gX4_shade_X4_isCell f_X4_isCell ⟨rfl, rfl, Nat.le_of_ble_eq_true rfl, Nat.le_of_ble_eq_true rfl, Nat.le_of_ble_eq_true rfl, Nat.le_of_ble_eq_true rfl⟩ tB_bl tB_in rfl hl.1 rfl (Nat.le_of_ble_eq_true rfl) dX4_shade_10) ?_
    refine ri_ifeq_b (tgt := 20) hx hb dX4_shade_13 (by decide) (fun c_3 => ?_) (fun c_3 => ?_)
    · skip
      refine ri_iconst hx hb dX4_shade_20 ?_
      refine ri_wi (v := bp (1 = 0)) (PP := fun H => va_P D vwCl (mW a kk (thG g 1)) H) (ri_runV (b := a 0) (As := [.int (iI 1)]) (rest := []) CF (k_X4_goesWell l D a kk g 1 hA (by omega)) gX4_shade_X4_goesWell f_X4_goesWell rfl (va_recv hK hP (ci := 4) (q0 := 0) rfl rfl) ⟨rfl, rfl, Nat.le_of_ble_eq_true rfl, Nat.le_of_ble_eq_true rfl, Nat.le_of_ble_eq_true rfl, Nat.le_of_ble_eq_true rfl⟩ wB_bl (wB_in hP hK hN) rfl hl.1 rfl (Nat.le_of_ble_eq_true rfl) dX4_shade_21) hS (fun _ h => h) (fun H locs hP _ hS => ?_)
      replace hP : va_P D vwCl (mW a kk (thG g 1)) H := hP
      refine ri_ifeq_b (tgt := 46) hx hb dX4_shade_24 (by decide) (fun c_4 => ?_) (fun c_4 => ?_)
      · skip
        refine ri_iconst hx hb dX4_shade_46 ?_
        exact ri_iretW (A := (aA 8 a)) (PP := (fun H => va_P D vwCl (mW a kk (thG g 1)) H)) hx hb hr hlocks hS (hP) dX4_shade_47 (rfl)
      · skip
        exfalso; omega
    · skip
      exfalso; omega

theorem f_X4_isApproved : MF yX4_isApproved wsX4_isApproved cX4_isApproved 3 (some .boolean) 2 := ⟨⟨_, rfl⟩, by decide +kernel, by decide +kernel, by decide +kernel⟩
set_option maxHeartbeats 4000000 in
set_option maxRecDepth 100000 in
theorem k_X4_isApproved_ok (l : Launch) (D : va_G) (a : Nat → Nat) (kk : Nat → ClassId) (g : Nat → Nat → Int) (b : Int) (t : Int) (hA : aDs 8 a) (hM : MInv g) (yb : -2147483648 ≤ b ∧ b < 2147483648) (yt : -2147483648 ≤ t ∧ t < 2147483648) (hok : (0 ≤ b ∧ b ≤ 3) ∧ (0 ≤ t ∧ t ≤ 4)) : WI l yX4_isApproved wsX4_isApproved ({ frames := 2, cells := 0, slots := 0, locals := 42 }) [.ref (a 0), .int (iI b), .int (iI t)] (wB D kk (mW a kk g)) (bp (g 3 (5 * b + t).toNat = 1)) (fun H => va_P D vwCl (mW a kk (thG g 0)) H) (aA 8 a) 0 0 := by
  refine ri_ent (cc := cX4_isApproved) (maxL := 3) (ret := some .boolean) (by decide) rfl (Nat.le_of_ble_eq_true rfl) ?_
  intro zp ze s zm zb zt zc hx hb hr hts hown hlocks hml hin hB ls hl
  have hown : s.vm.findClass RX4 = some zm.cls := hown
  have CF : CallFix zp zm zc cX4_isApproved 3 s ([.ref (a 0), .int (iI b), .int (iI t)] : List Value).toArray wsX4_isApproved RX4 := ⟨hx, hb, hml, hown, hts⟩
  obtain ⟨hP, hK, hN⟩ := hB
  have hinX4 : ∀ w ∈ wsX40, w ∈ wsX4_isApproved := (fun _ h => List.mem_cons_of_mem _ (List.mem_append_right _ h))
  have hS : va_S (aA 8 a) s.heap s.heap [] := va_S.rf
  have hl : lv_has ls 3 [(0, .ref (a 0)), (1, .int (iI b)), (2, .int (iI t))] := hl
  obtain ⟨o1, o2⟩ := id hok
  refine lv_aload_n hx hb dX4_isApproved_0 rfl (lv_at hl 0 rfl) ?_
  refine lv_iload_n hx hb dX4_isApproved_1 rfl (lv_at hl 1 rfl) ?_
  refine ri_iconst hx hb dX4_isApproved_2 ?_
  refine ri_iconst hx hb dX4_isApproved_3 ?_
  refine ri_rd (ri_runS (As := [.int (iI b), .int (iI 0), .int (iI 3)]) (rest := [.ref (a 0)]) CF (k_X4_in l b 0 3 (by omega) (by omega) (by omega)) gX4_isApproved_X4_in f_X4_in ⟨rfl, rfl, Nat.le_of_ble_eq_true rfl, Nat.le_of_ble_eq_true rfl, Nat.le_of_ble_eq_true rfl, Nat.le_of_ble_eq_true rfl⟩ tB_bl tB_in rfl hl.1 rfl (Nat.le_of_ble_eq_true rfl) dX4_isApproved_4) ?_
  refine ri_ifeq_b (tgt := 21) hx hb dX4_isApproved_7 (by decide) (fun c_1 => ?_) (fun c_1 => ?_)
  · skip
    exfalso; omega
  · skip
    refine lv_iload_n hx hb dX4_isApproved_10 rfl (lv_at hl 2 rfl) ?_
    refine ri_rd (ri_runS (As := [.int (iI t)]) (rest := [.ref (a 0)]) CF (k_X4_isTest l t (by omega)) gX4_isApproved_X4_isTest f_X4_isTest ⟨rfl, rfl, Nat.le_of_ble_eq_true rfl, Nat.le_of_ble_eq_true rfl, Nat.le_of_ble_eq_true rfl, Nat.le_of_ble_eq_true rfl⟩ tB_bl tB_in rfl hl.1 rfl (Nat.le_of_ble_eq_true rfl) dX4_isApproved_11) ?_
    refine ri_ifeq_b (tgt := 21) hx hb dX4_isApproved_14 (by decide) (fun c_2 => ?_) (fun c_2 => ?_)
    · skip
      exfalso; omega
    · skip
      refine ri_iconst hx hb dX4_isApproved_17 ?_
      refine lv_goto (tgt := 22) hx hb dX4_isApproved_18 (by decide) ?_
      refine ri_wi (v := bp (0 = 0)) (PP := fun H => va_P D vwCl (mW a kk (thG g 0)) H) (ri_runV (b := a 0) (As := [.int (iI 0)]) (rest := []) CF (k_X4_goesWell l D a kk g 0 hA (by omega)) gX4_isApproved_X4_goesWell f_X4_goesWell rfl (va_recv hK hP (ci := 4) (q0 := 0) rfl rfl) ⟨rfl, rfl, Nat.le_of_ble_eq_true rfl, Nat.le_of_ble_eq_true rfl, Nat.le_of_ble_eq_true rfl, Nat.le_of_ble_eq_true rfl⟩ wB_bl (wB_in hP hK hN) rfl hl.1 rfl (Nat.le_of_ble_eq_true rfl) dX4_isApproved_22) hS (fun _ h => h) (fun H locs hP _ hS => ?_)
      replace hP : va_P D vwCl (mW a kk (thG g 0)) H := hP
      refine ri_ifeq_b (tgt := 45) hx hb dX4_isApproved_25 (by decide) (fun c_3 => ?_) (fun c_3 => ?_)
      · skip
        exfalso; omega
      · skip
        refine lv_aload_n hx hb dX4_isApproved_28 rfl (lv_at hl 0 rfl) ?_
        refine va_get (D := D) (ci := 4) (v := .ref (a 3)) (C := RX4) (T := TX4) (N := 10) hx hb hts hinX4 hown hK hP 0 rfl rfl 3 (by decide) (hts _ (List.mem_of_getElem? (i := 1) rfl)) (fun _ h9 => h9) rfl dX4_isApproved_29 ?_
        refine lv_iload_n hx hb dX4_isApproved_32 rfl (lv_at hl 1 rfl) ?_
        refine lv_iload_n hx hb dX4_isApproved_33 rfl (lv_at hl 2 rfl) ?_
        refine ri_rd (ri_runS (As := [.int (iI b), .int (iI t)]) (rest := [.ref (a 3)]) CF (k_X4_placeOf l b t) gX4_isApproved_X4_placeOf f_X4_placeOf ⟨rfl, rfl, Nat.le_of_ble_eq_true rfl, Nat.le_of_ble_eq_true rfl, Nat.le_of_ble_eq_true rfl, Nat.le_of_ble_eq_true rfl⟩ tB_bl tB_in rfl hl.1 rfl (Nat.le_of_ble_eq_true rfl) dX4_isApproved_34) ?_
        refine ri_zald hx hb hK hP 3 1 rfl rfl (by omega) (by decide) dX4_isApproved_37 ?_
        have f_4 := hM.2.2.1 (5 * b + t).toNat (by omega)
        refine ri_eq (y := g 3 (5 * b + t).toNat) (rfl) ?_
        refine ri_if_eq (tgt := 45) hx hb (by omega) dX4_isApproved_38 (by decide) (fun c_5 => ?_) (fun c_5 => ?_)
        · skip
          refine ri_iconst hx hb dX4_isApproved_45 ?_
          exact ri_zretW (A := (aA 8 a)) (PP := (fun H => va_P D vwCl (mW a kk (thG g 0)) H)) hx hb hr hlocks hS (hP) (bp_01 _) dX4_isApproved_46 ((bp_f (by omega)).symm)
        · skip
          refine ri_iconst hx hb dX4_isApproved_41 ?_
          refine lv_goto (tgt := 46) hx hb dX4_isApproved_42 (by decide) ?_
          exact ri_zretW (A := (aA 8 a)) (PP := (fun H => va_P D vwCl (mW a kk (thG g 0)) H)) hx hb hr hlocks hS (hP) (bp_01 _) dX4_isApproved_46 ((bp_t (by omega)).symm)

set_option maxHeartbeats 4000000 in
set_option maxRecDepth 100000 in
theorem k_X4_isApproved_no (l : Launch) (D : va_G) (a : Nat → Nat) (kk : Nat → ClassId) (g : Nat → Nat → Int) (b : Int) (t : Int) (hA : aDs 8 a) (hM : MInv g) (yb : -2147483648 ≤ b ∧ b < 2147483648) (yt : -2147483648 ≤ t ∧ t < 2147483648) (hok : ¬ ((0 ≤ b ∧ b ≤ 3) ∧ (0 ≤ t ∧ t ≤ 4))) : WI l yX4_isApproved wsX4_isApproved ({ frames := 2, cells := 0, slots := 0, locals := 42 }) [.ref (a 0), .int (iI b), .int (iI t)] (wB D kk (mW a kk g)) (0) (fun H => va_P D vwCl (mW a kk (thG g 1)) H) (aA 8 a) 0 0 := by
  refine ri_ent (cc := cX4_isApproved) (maxL := 3) (ret := some .boolean) (by decide) rfl (Nat.le_of_ble_eq_true rfl) ?_
  intro zp ze s zm zb zt zc hx hb hr hts hown hlocks hml hin hB ls hl
  have hown : s.vm.findClass RX4 = some zm.cls := hown
  have CF : CallFix zp zm zc cX4_isApproved 3 s ([.ref (a 0), .int (iI b), .int (iI t)] : List Value).toArray wsX4_isApproved RX4 := ⟨hx, hb, hml, hown, hts⟩
  obtain ⟨hP, hK, hN⟩ := hB
  have hS : va_S (aA 8 a) s.heap s.heap [] := va_S.rf
  have hl : lv_has ls 3 [(0, .ref (a 0)), (1, .int (iI b)), (2, .int (iI t))] := hl
  refine lv_aload_n hx hb dX4_isApproved_0 rfl (lv_at hl 0 rfl) ?_
  refine lv_iload_n hx hb dX4_isApproved_1 rfl (lv_at hl 1 rfl) ?_
  refine ri_iconst hx hb dX4_isApproved_2 ?_
  refine ri_iconst hx hb dX4_isApproved_3 ?_
  refine ri_rd (ri_runS (As := [.int (iI b), .int (iI 0), .int (iI 3)]) (rest := [.ref (a 0)]) CF (k_X4_in l b 0 3 (by omega) (by omega) (by omega)) gX4_isApproved_X4_in f_X4_in ⟨rfl, rfl, Nat.le_of_ble_eq_true rfl, Nat.le_of_ble_eq_true rfl, Nat.le_of_ble_eq_true rfl, Nat.le_of_ble_eq_true rfl⟩ tB_bl tB_in rfl hl.1 rfl (Nat.le_of_ble_eq_true rfl) dX4_isApproved_4) ?_
  refine ri_ifeq_b (tgt := 21) hx hb dX4_isApproved_7 (by decide) (fun c_1 => ?_) (fun c_1 => ?_)
  · skip
    refine ri_iconst hx hb dX4_isApproved_21 ?_
    refine ri_wi (v := bp (1 = 0)) (PP := fun H => va_P D vwCl (mW a kk (thG g 1)) H) (ri_runV (b := a 0) (As := [.int (iI 1)]) (rest := []) CF (k_X4_goesWell l D a kk g 1 hA (by omega)) gX4_isApproved_X4_goesWell f_X4_goesWell rfl (va_recv hK hP (ci := 4) (q0 := 0) rfl rfl) ⟨rfl, rfl, Nat.le_of_ble_eq_true rfl, Nat.le_of_ble_eq_true rfl, Nat.le_of_ble_eq_true rfl, Nat.le_of_ble_eq_true rfl⟩ wB_bl (wB_in hP hK hN) rfl hl.1 rfl (Nat.le_of_ble_eq_true rfl) dX4_isApproved_22) hS (fun _ h => h) (fun H locs hP _ hS => ?_)
    replace hP : va_P D vwCl (mW a kk (thG g 1)) H := hP
    refine ri_ifeq_b (tgt := 45) hx hb dX4_isApproved_25 (by decide) (fun c_2 => ?_) (fun c_2 => ?_)
    · skip
      refine ri_iconst hx hb dX4_isApproved_45 ?_
      exact ri_zretW (A := (aA 8 a)) (PP := (fun H => va_P D vwCl (mW a kk (thG g 1)) H)) hx hb hr hlocks hS (hP) (Or.inl rfl) dX4_isApproved_46 (rfl)
    · skip
      exfalso; omega
  · skip
    refine lv_iload_n hx hb dX4_isApproved_10 rfl (lv_at hl 2 rfl) ?_
    refine ri_rd (ri_runS (As := [.int (iI t)]) (rest := [.ref (a 0)]) CF (k_X4_isTest l t (by omega)) gX4_isApproved_X4_isTest f_X4_isTest ⟨rfl, rfl, Nat.le_of_ble_eq_true rfl, Nat.le_of_ble_eq_true rfl, Nat.le_of_ble_eq_true rfl, Nat.le_of_ble_eq_true rfl⟩ tB_bl tB_in rfl hl.1 rfl (Nat.le_of_ble_eq_true rfl) dX4_isApproved_11) ?_
    refine ri_ifeq_b (tgt := 21) hx hb dX4_isApproved_14 (by decide) (fun c_3 => ?_) (fun c_3 => ?_)
    · skip
      refine ri_iconst hx hb dX4_isApproved_21 ?_
      refine ri_wi (v := bp (1 = 0)) (PP := fun H => va_P D vwCl (mW a kk (thG g 1)) H) (ri_runV (b := a 0) (As := [.int (iI 1)]) (rest := []) CF (k_X4_goesWell l D a kk g 1 hA (by omega)) gX4_isApproved_X4_goesWell f_X4_goesWell rfl (va_recv hK hP (ci := 4) (q0 := 0) rfl rfl) ⟨rfl, rfl, Nat.le_of_ble_eq_true rfl, Nat.le_of_ble_eq_true rfl, Nat.le_of_ble_eq_true rfl, Nat.le_of_ble_eq_true rfl⟩ wB_bl (wB_in hP hK hN) rfl hl.1 rfl (Nat.le_of_ble_eq_true rfl) dX4_isApproved_22) hS (fun _ h => h) (fun H locs hP _ hS => ?_)
      replace hP : va_P D vwCl (mW a kk (thG g 1)) H := hP
      refine ri_ifeq_b (tgt := 45) hx hb dX4_isApproved_25 (by decide) (fun c_4 => ?_) (fun c_4 => ?_)
      · skip
        refine ri_iconst hx hb dX4_isApproved_45 ?_
        exact ri_zretW (A := (aA 8 a)) (PP := (fun H => va_P D vwCl (mW a kk (thG g 1)) H)) hx hb hr hlocks hS (hP) (Or.inl rfl) dX4_isApproved_46 (rfl)
      · skip
        exfalso; omega
    · skip
      exfalso; omega

theorem f_X4_setPart : MF yX4_setPart wsX4_setPart cX4_setPart 6 (none) 5 := ⟨⟨_, rfl⟩, by decide +kernel, by decide +kernel, by decide +kernel⟩
set_option maxHeartbeats 4000000 in
set_option maxRecDepth 100000 in
theorem k_X4_setPart_ok (l : Launch) (D : va_G) (a : Nat → Nat) (kk : Nat → ClassId) (g : Nat → Nat → Int) (t : Int) (c : Int) (r : Int) (w : Int) (h : Int) (hA : aDs 8 a) (hM : MInv g) (yt : -2147483648 ≤ t ∧ t < 2147483648) (yc : -2147483648 ≤ c ∧ c < 2147483648) (yr : -2147483648 ≤ r ∧ r < 2147483648) (yw : -2147483648 ≤ w ∧ w < 2147483648) (yh : -2147483648 ≤ h ∧ h < 2147483648) (hok : (0 ≤ t ∧ t ≤ 4) ∧ ((0 ≤ c ∧ c ≤ 7) ∧ (0 ≤ r ∧ r ≤ 7)) ∧ (1 ≤ w ∧ w ≤ 8 - c) ∧ (1 ≤ h ∧ h ≤ 8 - r)) : WV l yX4_setPart wsX4_setPart ({ frames := 3, cells := 0, slots := 0, locals := 66 }) [.ref (a 0), .int (iI t), .int (iI c), .int (iI r), .int (iI w), .int (iI h)] (wB D kk (mW a kk g)) (fun H => va_P D vwCl (mW a kk (spG (thG g 0) t c r w h)) H) (aA 8 a) 0 0 := by
  refine ri_ent (cc := cX4_setPart) (maxL := 6) (ret := none) (by decide) rfl (Nat.le_of_ble_eq_true rfl) ?_
  intro zp ze s zm zb zt zc hx hb hr hts hown hlocks hml hin hB ls hl
  have hown : s.vm.findClass RX4 = some zm.cls := hown
  have CF : CallFix zp zm zc cX4_setPart 6 s ([.ref (a 0), .int (iI t), .int (iI c), .int (iI r), .int (iI w), .int (iI h)] : List Value).toArray wsX4_setPart RX4 := ⟨hx, hb, hml, hown, hts⟩
  obtain ⟨hP, hK, hN⟩ := hB
  have hinX4 : ∀ w ∈ wsX40, w ∈ wsX4_setPart := (fun _ h => List.mem_cons_of_mem _ (List.mem_append_right _ h))
  have hS : va_S (aA 8 a) s.heap s.heap [] := va_S.rf
  have hl : lv_has ls 6 [(0, .ref (a 0)), (1, .int (iI t)), (2, .int (iI c)), (3, .int (iI r)), (4, .int (iI w)), (5, .int (iI h))] := hl
  obtain ⟨o1, o2⟩ := id hok
  refine lv_aload_n hx hb dX4_setPart_0 rfl (lv_at hl 0 rfl) ?_
  refine lv_iload_n hx hb dX4_setPart_1 rfl (lv_at hl 1 rfl) ?_
  refine ri_rd (ri_runS (As := [.int (iI t)]) (rest := [.ref (a 0)]) CF (k_X4_isTest l t (by omega)) gX4_setPart_X4_isTest f_X4_isTest ⟨rfl, rfl, Nat.le_of_ble_eq_true rfl, Nat.le_of_ble_eq_true rfl, Nat.le_of_ble_eq_true rfl, Nat.le_of_ble_eq_true rfl⟩ tB_bl tB_in rfl hl.1 rfl (Nat.le_of_ble_eq_true rfl) dX4_setPart_2) ?_
  refine ri_ifeq_b (tgt := 24) hx hb dX4_setPart_5 (by decide) (fun c_1 => ?_) (fun c_1 => ?_)
  · skip
    exfalso; omega
  · skip
    refine lv_iload_n hx hb dX4_setPart_8 rfl (lv_at hl 2 rfl) ?_
    refine lv_iload_n hx hb dX4_setPart_9 rfl (lv_at hl 3 rfl) ?_
    refine lv_iload hx hb dX4_setPart_10 (lv_at hl 4 rfl) ?_
    refine lv_iload hx hb dX4_setPart_12 (lv_at hl 5 rfl) ?_
    refine ri_rd (ri_runS (As := [.int (iI c), .int (iI r), .int (iI w), .int (iI h)]) (rest := [.ref (a 0)]) CF (k_X4_isBox l c r w h (by omega) (by omega) (by omega) (by omega)) gX4_setPart_X4_isBox f_X4_isBox ⟨rfl, rfl, Nat.le_of_ble_eq_true rfl, Nat.le_of_ble_eq_true rfl, Nat.le_of_ble_eq_true rfl, Nat.le_of_ble_eq_true rfl⟩ tB_bl tB_in rfl hl.1 rfl (Nat.le_of_ble_eq_true rfl) dX4_setPart_14) ?_
    refine ri_ifeq_b (tgt := 24) hx hb dX4_setPart_17 (by decide) (fun c_2 => ?_) (fun c_2 => ?_)
    · skip
      exfalso; omega
    · skip
      refine ri_iconst hx hb dX4_setPart_20 ?_
      refine lv_goto (tgt := 25) hx hb dX4_setPart_21 (by decide) ?_
      refine ri_wi (v := bp (0 = 0)) (PP := fun H => va_P D vwCl (mW a kk (thG g 0)) H) (ri_runV (b := a 0) (As := [.int (iI 0)]) (rest := []) CF (k_X4_goesWell l D a kk g 0 hA (by omega)) gX4_setPart_X4_goesWell f_X4_goesWell rfl (va_recv hK hP (ci := 4) (q0 := 0) rfl rfl) ⟨rfl, rfl, Nat.le_of_ble_eq_true rfl, Nat.le_of_ble_eq_true rfl, Nat.le_of_ble_eq_true rfl, Nat.le_of_ble_eq_true rfl⟩ wB_bl (wB_in hP hK hN) rfl hl.1 rfl (Nat.le_of_ble_eq_true rfl) dX4_setPart_25) hS (fun _ h => h) (fun H locs hP _ hS => ?_)
      replace hP : va_P D vwCl (mW a kk (thG g 0)) H := hP
      refine ri_ifeq_b (tgt := 86) hx hb dX4_setPart_28 (by decide) (fun c_3 => ?_) (fun c_3 => ?_)
      · skip
        exfalso; omega
      · skip
        refine lv_aload_n hx hb dX4_setPart_31 rfl (lv_at hl 0 rfl) ?_
        refine va_get (D := D) (ci := 4) (v := .ref (a 4)) (C := RX4) (T := TX4) (N := 10) hx hb hts hinX4 hown hK hP 0 rfl rfl 4 (by decide) (hts _ (List.mem_of_getElem? (i := 1) rfl)) (fun _ h9 => h9) rfl dX4_setPart_32 ?_
        refine ri_iconst hx hb dX4_setPart_35 ?_
        refine lv_iload_n hx hb dX4_setPart_36 rfl (lv_at hl 1 rfl) ?_
        refine ri_imul hx hb dX4_setPart_37 ?_
        refine lv_iload_n hx hb dX4_setPart_38 rfl (lv_at hl 2 rfl) ?_
        refine ri_iast hx hb hK hP (mD hA) hS 4 0 rfl rfl (by omega) (by decide) dX4_setPart_39 (fun H locs hP hS => ?_)
        replace hP := mS.2.2.2.1 hP
        refine lv_aload_n hx hb dX4_setPart_40 rfl (lv_at hl 0 rfl) ?_
        refine va_get (D := D) (ci := 4) (v := .ref (a 4)) (C := RX4) (T := TX4) (N := 10) hx hb hts hinX4 hown hK hP 0 rfl rfl 4 (by decide) (hts _ (List.mem_of_getElem? (i := 1) rfl)) (fun _ h9 => h9) rfl dX4_setPart_41 ?_
        refine ri_iconst hx hb dX4_setPart_44 ?_
        refine lv_iload_n hx hb dX4_setPart_45 rfl (lv_at hl 1 rfl) ?_
        refine ri_imul hx hb dX4_setPart_46 ?_
        refine ri_iconst hx hb dX4_setPart_47 ?_
        refine ri_iadd hx hb dX4_setPart_48 ?_
        refine lv_iload_n hx hb dX4_setPart_49 rfl (lv_at hl 3 rfl) ?_
        refine ri_iast hx hb hK hP (mD hA) hS 4 0 rfl rfl (by omega) (by decide) dX4_setPart_50 (fun H locs hP hS => ?_)
        replace hP := mS.2.2.2.1 hP
        refine lv_aload_n hx hb dX4_setPart_51 rfl (lv_at hl 0 rfl) ?_
        refine va_get (D := D) (ci := 4) (v := .ref (a 4)) (C := RX4) (T := TX4) (N := 10) hx hb hts hinX4 hown hK hP 0 rfl rfl 4 (by decide) (hts _ (List.mem_of_getElem? (i := 1) rfl)) (fun _ h9 => h9) rfl dX4_setPart_52 ?_
        refine ri_iconst hx hb dX4_setPart_55 ?_
        refine lv_iload_n hx hb dX4_setPart_56 rfl (lv_at hl 1 rfl) ?_
        refine ri_imul hx hb dX4_setPart_57 ?_
        refine ri_iconst hx hb dX4_setPart_58 ?_
        refine ri_iadd hx hb dX4_setPart_59 ?_
        refine lv_iload hx hb dX4_setPart_60 (lv_at hl 4 rfl) ?_
        refine ri_iast hx hb hK hP (mD hA) hS 4 0 rfl rfl (by omega) (by decide) dX4_setPart_62 (fun H locs hP hS => ?_)
        replace hP := mS.2.2.2.1 hP
        refine lv_aload_n hx hb dX4_setPart_63 rfl (lv_at hl 0 rfl) ?_
        refine va_get (D := D) (ci := 4) (v := .ref (a 4)) (C := RX4) (T := TX4) (N := 10) hx hb hts hinX4 hown hK hP 0 rfl rfl 4 (by decide) (hts _ (List.mem_of_getElem? (i := 1) rfl)) (fun _ h9 => h9) rfl dX4_setPart_64 ?_
        refine ri_iconst hx hb dX4_setPart_67 ?_
        refine lv_iload_n hx hb dX4_setPart_68 rfl (lv_at hl 1 rfl) ?_
        refine ri_imul hx hb dX4_setPart_69 ?_
        refine ri_iconst hx hb dX4_setPart_70 ?_
        refine ri_iadd hx hb dX4_setPart_71 ?_
        refine lv_iload hx hb dX4_setPart_72 (lv_at hl 5 rfl) ?_
        refine ri_iast hx hb hK hP (mD hA) hS 4 0 rfl rfl (by omega) (by decide) dX4_setPart_74 (fun H locs hP hS => ?_)
        replace hP := mS.2.2.2.1 hP
        refine lv_aload_n hx hb dX4_setPart_75 rfl (lv_at hl 0 rfl) ?_
        refine va_get (D := D) (ci := 4) (v := .ref (a 5)) (C := RX4) (T := TX4) (N := 10) hx hb hts hinX4 hown hK hP 0 rfl rfl 5 (by decide) (hts _ (List.mem_of_getElem? (i := 2) rfl)) (fun _ h9 => h9) rfl dX4_setPart_76 ?_
        refine ri_iconst hx hb dX4_setPart_79 ?_
        refine lv_iload_n hx hb dX4_setPart_80 rfl (lv_at hl 1 rfl) ?_
        refine ri_imul hx hb dX4_setPart_81 ?_
        refine ri_iconst hx hb dX4_setPart_82 ?_
        refine ri_iadd hx hb dX4_setPart_83 ?_
        refine ri_iconst hx hb dX4_setPart_84 ?_
        refine ri_iast hx hb hK hP (mD hA) hS 5 0 rfl rfl (by omega) (by decide) dX4_setPart_85 (fun H locs hP hS => ?_)
        replace hP := mS.2.2.2.2.1 hP
        exact ri_vretW (A := (aA 8 a)) (PP := (fun H => va_P D vwCl (mW a kk (spG (thG g 0) t c r w h)) H)) hx hb hr hlocks hS (hP) dX4_setPart_86

set_option maxHeartbeats 4000000 in
set_option maxRecDepth 100000 in
theorem k_X4_setPart_no (l : Launch) (D : va_G) (a : Nat → Nat) (kk : Nat → ClassId) (g : Nat → Nat → Int) (t : Int) (c : Int) (r : Int) (w : Int) (h : Int) (hA : aDs 8 a) (hM : MInv g) (yt : -2147483648 ≤ t ∧ t < 2147483648) (yc : -2147483648 ≤ c ∧ c < 2147483648) (yr : -2147483648 ≤ r ∧ r < 2147483648) (yw : -2147483648 ≤ w ∧ w < 2147483648) (yh : -2147483648 ≤ h ∧ h < 2147483648) (hok : ¬ ((0 ≤ t ∧ t ≤ 4) ∧ ((0 ≤ c ∧ c ≤ 7) ∧ (0 ≤ r ∧ r ≤ 7)) ∧ (1 ≤ w ∧ w ≤ 8 - c) ∧ (1 ≤ h ∧ h ≤ 8 - r))) : WV l yX4_setPart wsX4_setPart ({ frames := 3, cells := 0, slots := 0, locals := 66 }) [.ref (a 0), .int (iI t), .int (iI c), .int (iI r), .int (iI w), .int (iI h)] (wB D kk (mW a kk g)) (fun H => va_P D vwCl (mW a kk (thG g 1)) H) (aA 8 a) 0 0 := by
  refine ri_ent (cc := cX4_setPart) (maxL := 6) (ret := none) (by decide) rfl (Nat.le_of_ble_eq_true rfl) ?_
  intro zp ze s zm zb zt zc hx hb hr hts hown hlocks hml hin hB ls hl
  have hown : s.vm.findClass RX4 = some zm.cls := hown
  have CF : CallFix zp zm zc cX4_setPart 6 s ([.ref (a 0), .int (iI t), .int (iI c), .int (iI r), .int (iI w), .int (iI h)] : List Value).toArray wsX4_setPart RX4 := ⟨hx, hb, hml, hown, hts⟩
  obtain ⟨hP, hK, hN⟩ := hB
  have hS : va_S (aA 8 a) s.heap s.heap [] := va_S.rf
  have hl : lv_has ls 6 [(0, .ref (a 0)), (1, .int (iI t)), (2, .int (iI c)), (3, .int (iI r)), (4, .int (iI w)), (5, .int (iI h))] := hl
  refine lv_aload_n hx hb dX4_setPart_0 rfl (lv_at hl 0 rfl) ?_
  refine lv_iload_n hx hb dX4_setPart_1 rfl (lv_at hl 1 rfl) ?_
  refine ri_rd (ri_runS (As := [.int (iI t)]) (rest := [.ref (a 0)]) CF (k_X4_isTest l t (by omega)) gX4_setPart_X4_isTest f_X4_isTest ⟨rfl, rfl, Nat.le_of_ble_eq_true rfl, Nat.le_of_ble_eq_true rfl, Nat.le_of_ble_eq_true rfl, Nat.le_of_ble_eq_true rfl⟩ tB_bl tB_in rfl hl.1 rfl (Nat.le_of_ble_eq_true rfl) dX4_setPart_2) ?_
  refine ri_ifeq_b (tgt := 24) hx hb dX4_setPart_5 (by decide) (fun c_1 => ?_) (fun c_1 => ?_)
  · skip
    refine ri_iconst hx hb dX4_setPart_24 ?_
    refine ri_wi (v := bp (1 = 0)) (PP := fun H => va_P D vwCl (mW a kk (thG g 1)) H) (ri_runV (b := a 0) (As := [.int (iI 1)]) (rest := []) CF (k_X4_goesWell l D a kk g 1 hA (by omega)) gX4_setPart_X4_goesWell f_X4_goesWell rfl (va_recv hK hP (ci := 4) (q0 := 0) rfl rfl) ⟨rfl, rfl, Nat.le_of_ble_eq_true rfl, Nat.le_of_ble_eq_true rfl, Nat.le_of_ble_eq_true rfl, Nat.le_of_ble_eq_true rfl⟩ wB_bl (wB_in hP hK hN) rfl hl.1 rfl (Nat.le_of_ble_eq_true rfl) dX4_setPart_25) hS (fun _ h => h) (fun H locs hP _ hS => ?_)
    replace hP : va_P D vwCl (mW a kk (thG g 1)) H := hP
    refine ri_ifeq_b (tgt := 86) hx hb dX4_setPart_28 (by decide) (fun c_2 => ?_) (fun c_2 => ?_)
    · skip
      exact ri_vretW (A := (aA 8 a)) (PP := (fun H => va_P D vwCl (mW a kk (thG g 1)) H)) hx hb hr hlocks hS (hP) dX4_setPart_86
    · skip
      exfalso; omega
  · skip
    refine lv_iload_n hx hb dX4_setPart_8 rfl (lv_at hl 2 rfl) ?_
    refine lv_iload_n hx hb dX4_setPart_9 rfl (lv_at hl 3 rfl) ?_
    refine lv_iload hx hb dX4_setPart_10 (lv_at hl 4 rfl) ?_
    refine lv_iload hx hb dX4_setPart_12 (lv_at hl 5 rfl) ?_
    refine ri_rd (ri_runS (As := [.int (iI c), .int (iI r), .int (iI w), .int (iI h)]) (rest := [.ref (a 0)]) CF (k_X4_isBox l c r w h (by omega) (by omega) (by omega) (by omega)) gX4_setPart_X4_isBox f_X4_isBox ⟨rfl, rfl, Nat.le_of_ble_eq_true rfl, Nat.le_of_ble_eq_true rfl, Nat.le_of_ble_eq_true rfl, Nat.le_of_ble_eq_true rfl⟩ tB_bl tB_in rfl hl.1 rfl (Nat.le_of_ble_eq_true rfl) dX4_setPart_14) ?_
    refine ri_ifeq_b (tgt := 24) hx hb dX4_setPart_17 (by decide) (fun c_3 => ?_) (fun c_3 => ?_)
    · skip
      refine ri_iconst hx hb dX4_setPart_24 ?_
      refine ri_wi (v := bp (1 = 0)) (PP := fun H => va_P D vwCl (mW a kk (thG g 1)) H) (ri_runV (b := a 0) (As := [.int (iI 1)]) (rest := []) CF (k_X4_goesWell l D a kk g 1 hA (by omega)) gX4_setPart_X4_goesWell f_X4_goesWell rfl (va_recv hK hP (ci := 4) (q0 := 0) rfl rfl) ⟨rfl, rfl, Nat.le_of_ble_eq_true rfl, Nat.le_of_ble_eq_true rfl, Nat.le_of_ble_eq_true rfl, Nat.le_of_ble_eq_true rfl⟩ wB_bl (wB_in hP hK hN) rfl hl.1 rfl (Nat.le_of_ble_eq_true rfl) dX4_setPart_25) hS (fun _ h => h) (fun H locs hP _ hS => ?_)
      replace hP : va_P D vwCl (mW a kk (thG g 1)) H := hP
      refine ri_ifeq_b (tgt := 86) hx hb dX4_setPart_28 (by decide) (fun c_4 => ?_) (fun c_4 => ?_)
      · skip
        exact ri_vretW (A := (aA 8 a)) (PP := (fun H => va_P D vwCl (mW a kk (thG g 1)) H)) hx hb hr hlocks hS (hP) dX4_setPart_86
      · skip
        exfalso; omega
    · skip
      exfalso; omega

theorem f_X4_setMask : MF yX4_setMask wsX4_setMask cX4_setMask 7 (none) 5 := ⟨⟨_, rfl⟩, by decide +kernel, by decide +kernel, by decide +kernel⟩
set_option maxHeartbeats 4000000 in
set_option maxRecDepth 100000 in
theorem k_X4_setMask_ok (l : Launch) (D : va_G) (a : Nat → Nat) (kk : Nat → ClassId) (g : Nat → Nat → Int) (t : Int) (c : Int) (r : Int) (w : Int) (h : Int) (hA : aDs 8 a) (hM : MInv g) (yt : -2147483648 ≤ t ∧ t < 2147483648) (yc : -2147483648 ≤ c ∧ c < 2147483648) (yr : -2147483648 ≤ r ∧ r < 2147483648) (yw : -2147483648 ≤ w ∧ w < 2147483648) (yh : -2147483648 ≤ h ∧ h < 2147483648) (hok : ((0 ≤ t ∧ t ≤ 4) ∧ (-8 ≤ c ∧ c ≤ 8) ∧ (-8 ≤ r ∧ r ≤ 8) ∧ (1 ≤ w ∧ w ≤ 8) ∧ (1 ≤ h ∧ h ≤ 8)) ∧ ¬ g 4 (4 * t + 2).toNat = 0) : WV l yX4_setMask wsX4_setMask ({ frames := 2, cells := 0, slots := 0, locals := 42 }) [.ref (a 0), .int (iI t), .int (iI c), .int (iI r), .int (iI w), .int (iI h)] (wB D kk (mW a kk g)) (fun H => va_P D vwCl (mW a kk (smG (thG g 0) t c r w h)) H) (aA 8 a) 0 0 := by
  refine ri_ent (cc := cX4_setMask) (maxL := 7) (ret := none) (by decide) rfl (Nat.le_of_ble_eq_true rfl) ?_
  intro zp ze s zm zb zt zc hx hb hr hts hown hlocks hml hin hB ls hl
  have hown : s.vm.findClass RX4 = some zm.cls := hown
  have CF : CallFix zp zm zc cX4_setMask 7 s ([.ref (a 0), .int (iI t), .int (iI c), .int (iI r), .int (iI w), .int (iI h)] : List Value).toArray wsX4_setMask RX4 := ⟨hx, hb, hml, hown, hts⟩
  obtain ⟨hP, hK, hN⟩ := hB
  have hinX4 : ∀ w ∈ wsX40, w ∈ wsX4_setMask := (fun _ h => List.mem_cons_of_mem _ (List.mem_append_right _ h))
  have hS : va_S (aA 8 a) s.heap s.heap [] := va_S.rf
  have hl : lv_has ls 7 [(0, .ref (a 0)), (1, .int (iI t)), (2, .int (iI c)), (3, .int (iI r)), (4, .int (iI w)), (5, .int (iI h))] := hl
  obtain ⟨⟨o1, o2, o3, o4, o5⟩, o6⟩ := id hok
  refine lv_iload_n hx hb dX4_setMask_0 rfl (lv_at hl 1 rfl) ?_
  refine ri_rd (ri_runS (As := [.int (iI t)]) (rest := []) CF (k_X4_isTest l t (by omega)) gX4_setMask_X4_isTest f_X4_isTest ⟨rfl, rfl, Nat.le_of_ble_eq_true rfl, Nat.le_of_ble_eq_true rfl, Nat.le_of_ble_eq_true rfl, Nat.le_of_ble_eq_true rfl⟩ tB_bl tB_in rfl hl.1 rfl (Nat.le_of_ble_eq_true rfl) dX4_setMask_1) ?_
  refine ri_ifeq_b (tgt := 55) hx hb dX4_setMask_4 (by decide) (fun c_1 => ?_) (fun c_1 => ?_)
  · skip
    exfalso; omega
  · skip
    refine lv_iload_n hx hb dX4_setMask_7 rfl (lv_at hl 2 rfl) ?_
    refine ri_bipush hx hb dX4_setMask_8 (by decide) ?_
    refine ri_bipush hx hb dX4_setMask_10 (by decide) ?_
    refine ri_rd (ri_runS (As := [.int (iI c), .int (iI (-8)), .int (iI 8)]) (rest := []) CF (k_X4_in l c (-8) 8 (by omega) (by omega) (by omega)) gX4_setMask_X4_in f_X4_in ⟨rfl, rfl, Nat.le_of_ble_eq_true rfl, Nat.le_of_ble_eq_true rfl, Nat.le_of_ble_eq_true rfl, Nat.le_of_ble_eq_true rfl⟩ tB_bl tB_in rfl hl.1 rfl (Nat.le_of_ble_eq_true rfl) dX4_setMask_12) ?_
    refine ri_ifeq_b (tgt := 55) hx hb dX4_setMask_15 (by decide) (fun c_2 => ?_) (fun c_2 => ?_)
    · skip
      exfalso; omega
    · skip
      refine lv_iload_n hx hb dX4_setMask_18 rfl (lv_at hl 3 rfl) ?_
      refine ri_bipush hx hb dX4_setMask_19 (by decide) ?_
      refine ri_bipush hx hb dX4_setMask_21 (by decide) ?_
      refine ri_rd (ri_runS (As := [.int (iI r), .int (iI (-8)), .int (iI 8)]) (rest := []) CF (k_X4_in l r (-8) 8 (by omega) (by omega) (by omega)) gX4_setMask_X4_in f_X4_in ⟨rfl, rfl, Nat.le_of_ble_eq_true rfl, Nat.le_of_ble_eq_true rfl, Nat.le_of_ble_eq_true rfl, Nat.le_of_ble_eq_true rfl⟩ tB_bl tB_in rfl hl.1 rfl (Nat.le_of_ble_eq_true rfl) dX4_setMask_23) ?_
      refine ri_ifeq_b (tgt := 55) hx hb dX4_setMask_26 (by decide) (fun c_3 => ?_) (fun c_3 => ?_)
      · skip
        exfalso; omega
      · skip
        refine lv_iload hx hb dX4_setMask_29 (lv_at hl 4 rfl) ?_
        refine ri_iconst hx hb dX4_setMask_31 ?_
        refine ri_bipush hx hb dX4_setMask_32 (by decide) ?_
        refine ri_rd (ri_runS (As := [.int (iI w), .int (iI 1), .int (iI 8)]) (rest := []) CF (k_X4_in l w 1 8 (by omega) (by omega) (by omega)) gX4_setMask_X4_in f_X4_in ⟨rfl, rfl, Nat.le_of_ble_eq_true rfl, Nat.le_of_ble_eq_true rfl, Nat.le_of_ble_eq_true rfl, Nat.le_of_ble_eq_true rfl⟩ tB_bl tB_in rfl hl.1 rfl (Nat.le_of_ble_eq_true rfl) dX4_setMask_34) ?_
        refine ri_ifeq_b (tgt := 55) hx hb dX4_setMask_37 (by decide) (fun c_4 => ?_) (fun c_4 => ?_)
        · skip
          exfalso; omega
        · skip
          refine lv_iload hx hb dX4_setMask_40 (lv_at hl 5 rfl) ?_
          refine ri_iconst hx hb dX4_setMask_42 ?_
          refine ri_bipush hx hb dX4_setMask_43 (by decide) ?_
          refine ri_rd (ri_runS (As := [.int (iI h), .int (iI 1), .int (iI 8)]) (rest := []) CF (k_X4_in l h 1 8 (by omega) (by omega) (by omega)) gX4_setMask_X4_in f_X4_in ⟨rfl, rfl, Nat.le_of_ble_eq_true rfl, Nat.le_of_ble_eq_true rfl, Nat.le_of_ble_eq_true rfl, Nat.le_of_ble_eq_true rfl⟩ tB_bl tB_in rfl hl.1 rfl (Nat.le_of_ble_eq_true rfl) dX4_setMask_45) ?_
          refine ri_ifeq_b (tgt := 55) hx hb dX4_setMask_48 (by decide) (fun c_5 => ?_) (fun c_5 => ?_)
          · skip
            exfalso; omega
          · skip
            refine ri_iconst hx hb dX4_setMask_51 ?_
            refine lv_goto (tgt := 56) hx hb dX4_setMask_52 (by decide) ?_
            refine lv_istore (lv' := [(6, .int (iI 1)), (0, .ref (a 0)), (1, .int (iI t)), (2, .int (iI c)), (3, .int (iI r)), (4, .int (iI w)), (5, .int (iI h))]) hx hb dX4_setMask_56 hl (by decide) rfl (fun ls hl => ?_)
            refine lv_aload_n hx hb dX4_setMask_58 rfl (lv_at hl 1 rfl) ?_
            refine lv_iload hx hb dX4_setMask_59 (lv_at hl 0 rfl) ?_
            refine ri_if_ne (tgt := 68) hx hb (by omega) dX4_setMask_61 (by decide) (fun c_6 => ?_) (fun c_6 => ?_)
            · skip
              have hpm := hM.2.2.2.1 t (by omega)
              refine lv_aload_n hx hb dX4_setMask_68 rfl (lv_at hl 1 rfl) ?_
              refine va_get (D := D) (ci := 4) (v := .ref (a 4)) (C := RX4) (T := TX4) (N := 10) hx hb hts hinX4 hown hK hP 0 rfl rfl 4 (by decide) (hts _ (List.mem_of_getElem? (i := 1) rfl)) (fun _ h9 => h9) rfl dX4_setMask_69 ?_
              refine ri_iconst hx hb dX4_setMask_72 ?_
              refine lv_iload_n hx hb dX4_setMask_73 rfl (lv_at hl 2 rfl) ?_
              refine ri_imul hx hb dX4_setMask_74 ?_
              refine ri_iconst hx hb dX4_setMask_75 ?_
              refine ri_iadd hx hb dX4_setMask_76 ?_
              refine ri_iald hx hb hK hP 4 0 rfl rfl (by omega) (by decide) dX4_setMask_77 ?_
              refine ri_if_ne (tgt := 85) hx hb (by omega) dX4_setMask_78 (by decide) (fun c_7 => ?_) (fun c_7 => ?_)
              · skip
                refine ri_iconst hx hb dX4_setMask_85 ?_
                refine ri_wi (v := bp (0 = 0)) (PP := fun H => va_P D vwCl (mW a kk (thG g 0)) H) (ri_runV (b := a 0) (As := [.int (iI 0)]) (rest := []) CF (k_X4_goesWell l D a kk g 0 hA (by omega)) gX4_setMask_X4_goesWell f_X4_goesWell rfl (va_recv hK hP (ci := 4) (q0 := 0) rfl rfl) ⟨rfl, rfl, Nat.le_of_ble_eq_true rfl, Nat.le_of_ble_eq_true rfl, Nat.le_of_ble_eq_true rfl, Nat.le_of_ble_eq_true rfl⟩ wB_bl (wB_in hP hK hN) rfl hl.1 rfl (Nat.le_of_ble_eq_true rfl) dX4_setMask_86) hS (fun _ h => h) (fun H locs hP _ hS => ?_)
                replace hP : va_P D vwCl (mW a kk (thG g 0)) H := hP
                refine ri_ifeq_b (tgt := 136) hx hb dX4_setMask_89 (by decide) (fun c_8 => ?_) (fun c_8 => ?_)
                · skip
                  exfalso; omega
                · skip
                  refine lv_aload_n hx hb dX4_setMask_92 rfl (lv_at hl 1 rfl) ?_
                  refine va_get (D := D) (ci := 4) (v := .ref (a 5)) (C := RX4) (T := TX4) (N := 10) hx hb hts hinX4 hown hK hP 0 rfl rfl 5 (by decide) (hts _ (List.mem_of_getElem? (i := 2) rfl)) (fun _ h9 => h9) rfl dX4_setMask_93 ?_
                  refine ri_iconst hx hb dX4_setMask_96 ?_
                  refine lv_iload_n hx hb dX4_setMask_97 rfl (lv_at hl 2 rfl) ?_
                  refine ri_imul hx hb dX4_setMask_98 ?_
                  refine lv_iload_n hx hb dX4_setMask_99 rfl (lv_at hl 3 rfl) ?_
                  refine ri_iast hx hb hK hP (mD hA) hS 5 0 rfl rfl (by omega) (by decide) dX4_setMask_100 (fun H locs hP hS => ?_)
                  replace hP := mS.2.2.2.2.1 hP
                  refine lv_aload_n hx hb dX4_setMask_101 rfl (lv_at hl 1 rfl) ?_
                  refine va_get (D := D) (ci := 4) (v := .ref (a 5)) (C := RX4) (T := TX4) (N := 10) hx hb hts hinX4 hown hK hP 0 rfl rfl 5 (by decide) (hts _ (List.mem_of_getElem? (i := 2) rfl)) (fun _ h9 => h9) rfl dX4_setMask_102 ?_
                  refine ri_iconst hx hb dX4_setMask_105 ?_
                  refine lv_iload_n hx hb dX4_setMask_106 rfl (lv_at hl 2 rfl) ?_
                  refine ri_imul hx hb dX4_setMask_107 ?_
                  refine ri_iconst hx hb dX4_setMask_108 ?_
                  refine ri_iadd hx hb dX4_setMask_109 ?_
                  refine lv_iload_n hx hb dX4_setMask_110 rfl (lv_at hl 4 rfl) ?_
                  refine ri_iast hx hb hK hP (mD hA) hS 5 0 rfl rfl (by omega) (by decide) dX4_setMask_111 (fun H locs hP hS => ?_)
                  replace hP := mS.2.2.2.2.1 hP
                  refine lv_aload_n hx hb dX4_setMask_112 rfl (lv_at hl 1 rfl) ?_
                  refine va_get (D := D) (ci := 4) (v := .ref (a 5)) (C := RX4) (T := TX4) (N := 10) hx hb hts hinX4 hown hK hP 0 rfl rfl 5 (by decide) (hts _ (List.mem_of_getElem? (i := 2) rfl)) (fun _ h9 => h9) rfl dX4_setMask_113 ?_
                  refine ri_iconst hx hb dX4_setMask_116 ?_
                  refine lv_iload_n hx hb dX4_setMask_117 rfl (lv_at hl 2 rfl) ?_
                  refine ri_imul hx hb dX4_setMask_118 ?_
                  refine ri_iconst hx hb dX4_setMask_119 ?_
                  refine ri_iadd hx hb dX4_setMask_120 ?_
                  refine lv_iload hx hb dX4_setMask_121 (lv_at hl 5 rfl) ?_
                  refine ri_iast hx hb hK hP (mD hA) hS 5 0 rfl rfl (by omega) (by decide) dX4_setMask_123 (fun H locs hP hS => ?_)
                  replace hP := mS.2.2.2.2.1 hP
                  refine lv_aload_n hx hb dX4_setMask_124 rfl (lv_at hl 1 rfl) ?_
                  refine va_get (D := D) (ci := 4) (v := .ref (a 5)) (C := RX4) (T := TX4) (N := 10) hx hb hts hinX4 hown hK hP 0 rfl rfl 5 (by decide) (hts _ (List.mem_of_getElem? (i := 2) rfl)) (fun _ h9 => h9) rfl dX4_setMask_125 ?_
                  refine ri_iconst hx hb dX4_setMask_128 ?_
                  refine lv_iload_n hx hb dX4_setMask_129 rfl (lv_at hl 2 rfl) ?_
                  refine ri_imul hx hb dX4_setMask_130 ?_
                  refine ri_iconst hx hb dX4_setMask_131 ?_
                  refine ri_iadd hx hb dX4_setMask_132 ?_
                  refine lv_iload hx hb dX4_setMask_133 (lv_at hl 6 rfl) ?_
                  refine ri_iast hx hb hK hP (mD hA) hS 5 0 rfl rfl (by omega) (by decide) dX4_setMask_135 (fun H locs hP hS => ?_)
                  replace hP := mS.2.2.2.2.1 hP
                  exact ri_vretW (A := (aA 8 a)) (PP := (fun H => va_P D vwCl (mW a kk (smG (thG g 0) t c r w h)) H)) hx hb hr hlocks hS (hP) dX4_setMask_136
              · skip
                exfalso; omega
            · skip
              exfalso; omega

set_option maxHeartbeats 4000000 in
set_option maxRecDepth 100000 in
theorem k_X4_setMask_no (l : Launch) (D : va_G) (a : Nat → Nat) (kk : Nat → ClassId) (g : Nat → Nat → Int) (pl : Int) (t : Int) (c : Int) (r : Int) (w : Int) (h : Int) (hA : aDs 8 a) (hM : MInv g) (yt : -2147483648 ≤ t ∧ t < 2147483648) (yc : -2147483648 ≤ c ∧ c < 2147483648) (yr : -2147483648 ≤ r ∧ r < 2147483648) (yw : -2147483648 ≤ w ∧ w < 2147483648) (yh : -2147483648 ≤ h ∧ h < 2147483648) (hno : (pl = 1 ∧ ¬ ((0 ≤ t ∧ t ≤ 4) ∧ (-8 ≤ c ∧ c ≤ 8) ∧ (-8 ≤ r ∧ r ≤ 8) ∧ (1 ≤ w ∧ w ≤ 8) ∧ (1 ≤ h ∧ h ≤ 8))) ∨ (pl = 2 ∧ ((0 ≤ t ∧ t ≤ 4) ∧ (-8 ≤ c ∧ c ≤ 8) ∧ (-8 ≤ r ∧ r ≤ 8) ∧ (1 ≤ w ∧ w ≤ 8) ∧ (1 ≤ h ∧ h ≤ 8)) ∧ g 4 (4 * t + 2).toNat = 0)) : WV l yX4_setMask wsX4_setMask ({ frames := 2, cells := 0, slots := 0, locals := 42 }) [.ref (a 0), .int (iI t), .int (iI c), .int (iI r), .int (iI w), .int (iI h)] (wB D kk (mW a kk g)) (fun H => va_P D vwCl (mW a kk (thG g pl)) H) (aA 8 a) 0 0 := by
  refine ri_ent (cc := cX4_setMask) (maxL := 7) (ret := none) (by decide) rfl (Nat.le_of_ble_eq_true rfl) ?_
  intro zp ze s zm zb zt zc hx hb hr hts hown hlocks hml hin hB ls hl
  have hown : s.vm.findClass RX4 = some zm.cls := hown
  have CF : CallFix zp zm zc cX4_setMask 7 s ([.ref (a 0), .int (iI t), .int (iI c), .int (iI r), .int (iI w), .int (iI h)] : List Value).toArray wsX4_setMask RX4 := ⟨hx, hb, hml, hown, hts⟩
  obtain ⟨hP, hK, hN⟩ := hB
  have hinX4 : ∀ w ∈ wsX40, w ∈ wsX4_setMask := (fun _ h => List.mem_cons_of_mem _ (List.mem_append_right _ h))
  have hS : va_S (aA 8 a) s.heap s.heap [] := va_S.rf
  have hl : lv_has ls 7 [(0, .ref (a 0)), (1, .int (iI t)), (2, .int (iI c)), (3, .int (iI r)), (4, .int (iI w)), (5, .int (iI h))] := hl
  refine lv_iload_n hx hb dX4_setMask_0 rfl (lv_at hl 1 rfl) ?_
  refine ri_rd (ri_runS (As := [.int (iI t)]) (rest := []) CF (k_X4_isTest l t (by omega)) gX4_setMask_X4_isTest f_X4_isTest ⟨rfl, rfl, Nat.le_of_ble_eq_true rfl, Nat.le_of_ble_eq_true rfl, Nat.le_of_ble_eq_true rfl, Nat.le_of_ble_eq_true rfl⟩ tB_bl tB_in rfl hl.1 rfl (Nat.le_of_ble_eq_true rfl) dX4_setMask_1) ?_
  refine ri_ifeq_b (tgt := 55) hx hb dX4_setMask_4 (by decide) (fun c_1 => ?_) (fun c_1 => ?_)
  · skip
    refine ri_iconst hx hb dX4_setMask_55 ?_
    refine lv_istore (lv' := [(6, .int (iI 0)), (0, .ref (a 0)), (1, .int (iI t)), (2, .int (iI c)), (3, .int (iI r)), (4, .int (iI w)), (5, .int (iI h))]) hx hb dX4_setMask_56 hl (by decide) rfl (fun ls hl => ?_)
    refine lv_aload_n hx hb dX4_setMask_58 rfl (lv_at hl 1 rfl) ?_
    refine lv_iload hx hb dX4_setMask_59 (lv_at hl 0 rfl) ?_
    refine ri_if_ne (tgt := 68) hx hb (by omega) dX4_setMask_61 (by decide) (fun c_2 => ?_) (fun c_2 => ?_)
    · skip
      exfalso; omega
    · skip
      refine ri_iconst hx hb dX4_setMask_64 ?_
      refine lv_goto (tgt := 86) hx hb dX4_setMask_65 (by decide) ?_
      refine ri_wi (v := bp (1 = 0)) (PP := fun H => va_P D vwCl (mW a kk (thG g 1)) H) (ri_runV (b := a 0) (As := [.int (iI 1)]) (rest := []) CF (k_X4_goesWell l D a kk g 1 hA (by omega)) gX4_setMask_X4_goesWell f_X4_goesWell rfl (va_recv hK hP (ci := 4) (q0 := 0) rfl rfl) ⟨rfl, rfl, Nat.le_of_ble_eq_true rfl, Nat.le_of_ble_eq_true rfl, Nat.le_of_ble_eq_true rfl, Nat.le_of_ble_eq_true rfl⟩ wB_bl (wB_in hP hK hN) rfl hl.1 rfl (Nat.le_of_ble_eq_true rfl) dX4_setMask_86) hS (fun _ h => h) (fun H locs hP _ hS => ?_)
      replace hP : va_P D vwCl (mW a kk (thG g 1)) H := hP
      refine ri_ifeq_b (tgt := 136) hx hb dX4_setMask_89 (by decide) (fun c_3 => ?_) (fun c_3 => ?_)
      · skip
        exact ri_vretW (A := (aA 8 a)) (PP := (fun H => va_P D vwCl (mW a kk (thG g pl)) H)) hx hb hr hlocks hS (by show va_P D vwCl (mW a kk (thG g pl)) _; have e9 : pl = 1 := (by omega); rw [e9]; exact hP) dX4_setMask_136
      · skip
        exfalso; omega
  · skip
    refine lv_iload_n hx hb dX4_setMask_7 rfl (lv_at hl 2 rfl) ?_
    refine ri_bipush hx hb dX4_setMask_8 (by decide) ?_
    refine ri_bipush hx hb dX4_setMask_10 (by decide) ?_
    refine ri_rd (ri_runS (As := [.int (iI c), .int (iI (-8)), .int (iI 8)]) (rest := []) CF (k_X4_in l c (-8) 8 (by omega) (by omega) (by omega)) gX4_setMask_X4_in f_X4_in ⟨rfl, rfl, Nat.le_of_ble_eq_true rfl, Nat.le_of_ble_eq_true rfl, Nat.le_of_ble_eq_true rfl, Nat.le_of_ble_eq_true rfl⟩ tB_bl tB_in rfl hl.1 rfl (Nat.le_of_ble_eq_true rfl) dX4_setMask_12) ?_
    refine ri_ifeq_b (tgt := 55) hx hb dX4_setMask_15 (by decide) (fun c_4 => ?_) (fun c_4 => ?_)
    · skip
      refine ri_iconst hx hb dX4_setMask_55 ?_
      refine lv_istore (lv' := [(6, .int (iI 0)), (0, .ref (a 0)), (1, .int (iI t)), (2, .int (iI c)), (3, .int (iI r)), (4, .int (iI w)), (5, .int (iI h))]) hx hb dX4_setMask_56 hl (by decide) rfl (fun ls hl => ?_)
      refine lv_aload_n hx hb dX4_setMask_58 rfl (lv_at hl 1 rfl) ?_
      refine lv_iload hx hb dX4_setMask_59 (lv_at hl 0 rfl) ?_
      refine ri_if_ne (tgt := 68) hx hb (by omega) dX4_setMask_61 (by decide) (fun c_5 => ?_) (fun c_5 => ?_)
      · skip
        exfalso; omega
      · skip
        refine ri_iconst hx hb dX4_setMask_64 ?_
        refine lv_goto (tgt := 86) hx hb dX4_setMask_65 (by decide) ?_
        refine ri_wi (v := bp (1 = 0)) (PP := fun H => va_P D vwCl (mW a kk (thG g 1)) H) (ri_runV (b := a 0) (As := [.int (iI 1)]) (rest := []) CF (k_X4_goesWell l D a kk g 1 hA (by omega)) gX4_setMask_X4_goesWell f_X4_goesWell rfl (va_recv hK hP (ci := 4) (q0 := 0) rfl rfl) ⟨rfl, rfl, Nat.le_of_ble_eq_true rfl, Nat.le_of_ble_eq_true rfl, Nat.le_of_ble_eq_true rfl, Nat.le_of_ble_eq_true rfl⟩ wB_bl (wB_in hP hK hN) rfl hl.1 rfl (Nat.le_of_ble_eq_true rfl) dX4_setMask_86) hS (fun _ h => h) (fun H locs hP _ hS => ?_)
        replace hP : va_P D vwCl (mW a kk (thG g 1)) H := hP
        refine ri_ifeq_b (tgt := 136) hx hb dX4_setMask_89 (by decide) (fun c_6 => ?_) (fun c_6 => ?_)
        · skip
          exact ri_vretW (A := (aA 8 a)) (PP := (fun H => va_P D vwCl (mW a kk (thG g pl)) H)) hx hb hr hlocks hS (by show va_P D vwCl (mW a kk (thG g pl)) _; have e9 : pl = 1 := (by omega); rw [e9]; exact hP) dX4_setMask_136
        · skip
          exfalso; omega
    · skip
      refine lv_iload_n hx hb dX4_setMask_18 rfl (lv_at hl 3 rfl) ?_
      refine ri_bipush hx hb dX4_setMask_19 (by decide) ?_
      refine ri_bipush hx hb dX4_setMask_21 (by decide) ?_
      refine ri_rd (ri_runS (As := [.int (iI r), .int (iI (-8)), .int (iI 8)]) (rest := []) CF (k_X4_in l r (-8) 8 (by omega) (by omega) (by omega)) gX4_setMask_X4_in f_X4_in ⟨rfl, rfl, Nat.le_of_ble_eq_true rfl, Nat.le_of_ble_eq_true rfl, Nat.le_of_ble_eq_true rfl, Nat.le_of_ble_eq_true rfl⟩ tB_bl tB_in rfl hl.1 rfl (Nat.le_of_ble_eq_true rfl) dX4_setMask_23) ?_
      refine ri_ifeq_b (tgt := 55) hx hb dX4_setMask_26 (by decide) (fun c_7 => ?_) (fun c_7 => ?_)
      · skip
        refine ri_iconst hx hb dX4_setMask_55 ?_
        refine lv_istore (lv' := [(6, .int (iI 0)), (0, .ref (a 0)), (1, .int (iI t)), (2, .int (iI c)), (3, .int (iI r)), (4, .int (iI w)), (5, .int (iI h))]) hx hb dX4_setMask_56 hl (by decide) rfl (fun ls hl => ?_)
        refine lv_aload_n hx hb dX4_setMask_58 rfl (lv_at hl 1 rfl) ?_
        refine lv_iload hx hb dX4_setMask_59 (lv_at hl 0 rfl) ?_
        refine ri_if_ne (tgt := 68) hx hb (by omega) dX4_setMask_61 (by decide) (fun c_8 => ?_) (fun c_8 => ?_)
        · skip
          exfalso; omega
        · skip
          refine ri_iconst hx hb dX4_setMask_64 ?_
          refine lv_goto (tgt := 86) hx hb dX4_setMask_65 (by decide) ?_
          refine ri_wi (v := bp (1 = 0)) (PP := fun H => va_P D vwCl (mW a kk (thG g 1)) H) (ri_runV (b := a 0) (As := [.int (iI 1)]) (rest := []) CF (k_X4_goesWell l D a kk g 1 hA (by omega)) gX4_setMask_X4_goesWell f_X4_goesWell rfl (va_recv hK hP (ci := 4) (q0 := 0) rfl rfl) ⟨rfl, rfl, Nat.le_of_ble_eq_true rfl, Nat.le_of_ble_eq_true rfl, Nat.le_of_ble_eq_true rfl, Nat.le_of_ble_eq_true rfl⟩ wB_bl (wB_in hP hK hN) rfl hl.1 rfl (Nat.le_of_ble_eq_true rfl) dX4_setMask_86) hS (fun _ h => h) (fun H locs hP _ hS => ?_)
          replace hP : va_P D vwCl (mW a kk (thG g 1)) H := hP
          refine ri_ifeq_b (tgt := 136) hx hb dX4_setMask_89 (by decide) (fun c_9 => ?_) (fun c_9 => ?_)
          · skip
            exact ri_vretW (A := (aA 8 a)) (PP := (fun H => va_P D vwCl (mW a kk (thG g pl)) H)) hx hb hr hlocks hS (by show va_P D vwCl (mW a kk (thG g pl)) _; have e9 : pl = 1 := (by omega); rw [e9]; exact hP) dX4_setMask_136
          · skip
            exfalso; omega
      · skip
        refine lv_iload hx hb dX4_setMask_29 (lv_at hl 4 rfl) ?_
        refine ri_iconst hx hb dX4_setMask_31 ?_
        refine ri_bipush hx hb dX4_setMask_32 (by decide) ?_
        refine ri_rd (ri_runS (As := [.int (iI w), .int (iI 1), .int (iI 8)]) (rest := []) CF (k_X4_in l w 1 8 (by omega) (by omega) (by omega)) gX4_setMask_X4_in f_X4_in ⟨rfl, rfl, Nat.le_of_ble_eq_true rfl, Nat.le_of_ble_eq_true rfl, Nat.le_of_ble_eq_true rfl, Nat.le_of_ble_eq_true rfl⟩ tB_bl tB_in rfl hl.1 rfl (Nat.le_of_ble_eq_true rfl) dX4_setMask_34) ?_
        refine ri_ifeq_b (tgt := 55) hx hb dX4_setMask_37 (by decide) (fun c_10 => ?_) (fun c_10 => ?_)
        · skip
          refine ri_iconst hx hb dX4_setMask_55 ?_
          refine lv_istore (lv' := [(6, .int (iI 0)), (0, .ref (a 0)), (1, .int (iI t)), (2, .int (iI c)), (3, .int (iI r)), (4, .int (iI w)), (5, .int (iI h))]) hx hb dX4_setMask_56 hl (by decide) rfl (fun ls hl => ?_)
          refine lv_aload_n hx hb dX4_setMask_58 rfl (lv_at hl 1 rfl) ?_
          refine lv_iload hx hb dX4_setMask_59 (lv_at hl 0 rfl) ?_
          refine ri_if_ne (tgt := 68) hx hb (by omega) dX4_setMask_61 (by decide) (fun c_11 => ?_) (fun c_11 => ?_)
          · skip
            exfalso; omega
          · skip
            refine ri_iconst hx hb dX4_setMask_64 ?_
            refine lv_goto (tgt := 86) hx hb dX4_setMask_65 (by decide) ?_
            refine ri_wi (v := bp (1 = 0)) (PP := fun H => va_P D vwCl (mW a kk (thG g 1)) H) (ri_runV (b := a 0) (As := [.int (iI 1)]) (rest := []) CF (k_X4_goesWell l D a kk g 1 hA (by omega)) gX4_setMask_X4_goesWell f_X4_goesWell rfl (va_recv hK hP (ci := 4) (q0 := 0) rfl rfl) ⟨rfl, rfl, Nat.le_of_ble_eq_true rfl, Nat.le_of_ble_eq_true rfl, Nat.le_of_ble_eq_true rfl, Nat.le_of_ble_eq_true rfl⟩ wB_bl (wB_in hP hK hN) rfl hl.1 rfl (Nat.le_of_ble_eq_true rfl) dX4_setMask_86) hS (fun _ h => h) (fun H locs hP _ hS => ?_)
            replace hP : va_P D vwCl (mW a kk (thG g 1)) H := hP
            refine ri_ifeq_b (tgt := 136) hx hb dX4_setMask_89 (by decide) (fun c_12 => ?_) (fun c_12 => ?_)
            · skip
              exact ri_vretW (A := (aA 8 a)) (PP := (fun H => va_P D vwCl (mW a kk (thG g pl)) H)) hx hb hr hlocks hS (by show va_P D vwCl (mW a kk (thG g pl)) _; have e9 : pl = 1 := (by omega); rw [e9]; exact hP) dX4_setMask_136
            · skip
              exfalso; omega
        · skip
          refine lv_iload hx hb dX4_setMask_40 (lv_at hl 5 rfl) ?_
          refine ri_iconst hx hb dX4_setMask_42 ?_
          refine ri_bipush hx hb dX4_setMask_43 (by decide) ?_
          refine ri_rd (ri_runS (As := [.int (iI h), .int (iI 1), .int (iI 8)]) (rest := []) CF (k_X4_in l h 1 8 (by omega) (by omega) (by omega)) gX4_setMask_X4_in f_X4_in ⟨rfl, rfl, Nat.le_of_ble_eq_true rfl, Nat.le_of_ble_eq_true rfl, Nat.le_of_ble_eq_true rfl, Nat.le_of_ble_eq_true rfl⟩ tB_bl tB_in rfl hl.1 rfl (Nat.le_of_ble_eq_true rfl) dX4_setMask_45) ?_
          refine ri_ifeq_b (tgt := 55) hx hb dX4_setMask_48 (by decide) (fun c_13 => ?_) (fun c_13 => ?_)
          · skip
            refine ri_iconst hx hb dX4_setMask_55 ?_
            refine lv_istore (lv' := [(6, .int (iI 0)), (0, .ref (a 0)), (1, .int (iI t)), (2, .int (iI c)), (3, .int (iI r)), (4, .int (iI w)), (5, .int (iI h))]) hx hb dX4_setMask_56 hl (by decide) rfl (fun ls hl => ?_)
            refine lv_aload_n hx hb dX4_setMask_58 rfl (lv_at hl 1 rfl) ?_
            refine lv_iload hx hb dX4_setMask_59 (lv_at hl 0 rfl) ?_
            refine ri_if_ne (tgt := 68) hx hb (by omega) dX4_setMask_61 (by decide) (fun c_14 => ?_) (fun c_14 => ?_)
            · skip
              exfalso; omega
            · skip
              refine ri_iconst hx hb dX4_setMask_64 ?_
              refine lv_goto (tgt := 86) hx hb dX4_setMask_65 (by decide) ?_
              refine ri_wi (v := bp (1 = 0)) (PP := fun H => va_P D vwCl (mW a kk (thG g 1)) H) (ri_runV (b := a 0) (As := [.int (iI 1)]) (rest := []) CF (k_X4_goesWell l D a kk g 1 hA (by omega)) gX4_setMask_X4_goesWell f_X4_goesWell rfl (va_recv hK hP (ci := 4) (q0 := 0) rfl rfl) ⟨rfl, rfl, Nat.le_of_ble_eq_true rfl, Nat.le_of_ble_eq_true rfl, Nat.le_of_ble_eq_true rfl, Nat.le_of_ble_eq_true rfl⟩ wB_bl (wB_in hP hK hN) rfl hl.1 rfl (Nat.le_of_ble_eq_true rfl) dX4_setMask_86) hS (fun _ h => h) (fun H locs hP _ hS => ?_)
              replace hP : va_P D vwCl (mW a kk (thG g 1)) H := hP
              refine ri_ifeq_b (tgt := 136) hx hb dX4_setMask_89 (by decide) (fun c_15 => ?_) (fun c_15 => ?_)
              · skip
                exact ri_vretW (A := (aA 8 a)) (PP := (fun H => va_P D vwCl (mW a kk (thG g pl)) H)) hx hb hr hlocks hS (by show va_P D vwCl (mW a kk (thG g pl)) _; have e9 : pl = 1 := (by omega); rw [e9]; exact hP) dX4_setMask_136
              · skip
                exfalso; omega
          · skip
            refine ri_iconst hx hb dX4_setMask_51 ?_
            refine lv_goto (tgt := 56) hx hb dX4_setMask_52 (by decide) ?_
            refine lv_istore (lv' := [(6, .int (iI 1)), (0, .ref (a 0)), (1, .int (iI t)), (2, .int (iI c)), (3, .int (iI r)), (4, .int (iI w)), (5, .int (iI h))]) hx hb dX4_setMask_56 hl (by decide) rfl (fun ls hl => ?_)
            refine lv_aload_n hx hb dX4_setMask_58 rfl (lv_at hl 1 rfl) ?_
            refine lv_iload hx hb dX4_setMask_59 (lv_at hl 0 rfl) ?_
            refine ri_if_ne (tgt := 68) hx hb (by omega) dX4_setMask_61 (by decide) (fun c_16 => ?_) (fun c_16 => ?_)
            · skip
              have hpm := hM.2.2.2.1 t (by omega)
              refine lv_aload_n hx hb dX4_setMask_68 rfl (lv_at hl 1 rfl) ?_
              refine va_get (D := D) (ci := 4) (v := .ref (a 4)) (C := RX4) (T := TX4) (N := 10) hx hb hts hinX4 hown hK hP 0 rfl rfl 4 (by decide) (hts _ (List.mem_of_getElem? (i := 1) rfl)) (fun _ h9 => h9) rfl dX4_setMask_69 ?_
              refine ri_iconst hx hb dX4_setMask_72 ?_
              refine lv_iload_n hx hb dX4_setMask_73 rfl (lv_at hl 2 rfl) ?_
              refine ri_imul hx hb dX4_setMask_74 ?_
              refine ri_iconst hx hb dX4_setMask_75 ?_
              refine ri_iadd hx hb dX4_setMask_76 ?_
              refine ri_iald hx hb hK hP 4 0 rfl rfl (by omega) (by decide) dX4_setMask_77 ?_
              refine ri_if_ne (tgt := 85) hx hb (by omega) dX4_setMask_78 (by decide) (fun c_17 => ?_) (fun c_17 => ?_)
              · skip
                exfalso; omega
              · skip
                refine ri_iconst hx hb dX4_setMask_81 ?_
                refine lv_goto (tgt := 86) hx hb dX4_setMask_82 (by decide) ?_
                refine ri_wi (v := bp (2 = 0)) (PP := fun H => va_P D vwCl (mW a kk (thG g 2)) H) (ri_runV (b := a 0) (As := [.int (iI 2)]) (rest := []) CF (k_X4_goesWell l D a kk g 2 hA (by omega)) gX4_setMask_X4_goesWell f_X4_goesWell rfl (va_recv hK hP (ci := 4) (q0 := 0) rfl rfl) ⟨rfl, rfl, Nat.le_of_ble_eq_true rfl, Nat.le_of_ble_eq_true rfl, Nat.le_of_ble_eq_true rfl, Nat.le_of_ble_eq_true rfl⟩ wB_bl (wB_in hP hK hN) rfl hl.1 rfl (Nat.le_of_ble_eq_true rfl) dX4_setMask_86) hS (fun _ h => h) (fun H locs hP _ hS => ?_)
                replace hP : va_P D vwCl (mW a kk (thG g 2)) H := hP
                refine ri_ifeq_b (tgt := 136) hx hb dX4_setMask_89 (by decide) (fun c_18 => ?_) (fun c_18 => ?_)
                · skip
                  exact ri_vretW (A := (aA 8 a)) (PP := (fun H => va_P D vwCl (mW a kk (thG g pl)) H)) hx hb hr hlocks hS (by show va_P D vwCl (mW a kk (thG g pl)) _; have e9 : pl = 2 := (by omega); rw [e9]; exact hP) dX4_setMask_136
                · skip
                  exfalso; omega
            · skip
              exfalso; omega

theorem f_X4_approve : MF yX4_approve wsX4_approve cX4_approve 6 (some .boolean) 2 := ⟨⟨_, rfl⟩, by decide +kernel, by decide +kernel, by decide +kernel⟩
set_option maxHeartbeats 4000000 in
set_option maxRecDepth 100000 in
theorem k_X4_approve_ok (l : Launch) (D : va_G) (a : Nat → Nat) (kk : Nat → ClassId) (g : Nat → Nat → Int) (b : Int) (t : Int) (hA : aDs 8 a) (hM : MInv g) (yb : -2147483648 ≤ b ∧ b < 2147483648) (yt : -2147483648 ≤ t ∧ t < 2147483648) (hok : (0 ≤ b ∧ b ≤ 3) ∧ (0 ≤ t ∧ t ≤ 4)) : WI l yX4_approve wsX4_approve ({ frames := 2, cells := 0, slots := 0, locals := 42 }) [.ref (a 0), .int (iI b), .int (iI t)] (wB D kk (mW a kk g)) (bp (g 3 (5 * b + t).toNat = 1)) (fun H => va_P D vwCl (mW a kk (apG (thG g 0) b t)) H) (aA 8 a) 0 0 := by
  refine ri_ent (cc := cX4_approve) (maxL := 6) (ret := some .boolean) (by decide) rfl (Nat.le_of_ble_eq_true rfl) ?_
  intro zp ze s zm zb zt zc hx hb hr hts hown hlocks hml hin hB ls hl
  have hown : s.vm.findClass RX4 = some zm.cls := hown
  have CF : CallFix zp zm zc cX4_approve 6 s ([.ref (a 0), .int (iI b), .int (iI t)] : List Value).toArray wsX4_approve RX4 := ⟨hx, hb, hml, hown, hts⟩
  obtain ⟨hP, hK, hN⟩ := hB
  have hinX4 : ∀ w ∈ wsX40, w ∈ wsX4_approve := (fun _ h => List.mem_cons_of_mem _ (List.mem_append_right _ h))
  have hS : va_S (aA 8 a) s.heap s.heap [] := va_S.rf
  have hl : lv_has ls 6 [(0, .ref (a 0)), (1, .int (iI b)), (2, .int (iI t))] := hl
  obtain ⟨o1, o2⟩ := id hok
  refine lv_aload_n hx hb dX4_approve_0 rfl (lv_at hl 0 rfl) ?_
  refine lv_iload_n hx hb dX4_approve_1 rfl (lv_at hl 1 rfl) ?_
  refine ri_iconst hx hb dX4_approve_2 ?_
  refine ri_iconst hx hb dX4_approve_3 ?_
  refine ri_rd (ri_runS (As := [.int (iI b), .int (iI 0), .int (iI 3)]) (rest := [.ref (a 0)]) CF (k_X4_in l b 0 3 (by omega) (by omega) (by omega)) gX4_approve_X4_in f_X4_in ⟨rfl, rfl, Nat.le_of_ble_eq_true rfl, Nat.le_of_ble_eq_true rfl, Nat.le_of_ble_eq_true rfl, Nat.le_of_ble_eq_true rfl⟩ tB_bl tB_in rfl hl.1 rfl (Nat.le_of_ble_eq_true rfl) dX4_approve_4) ?_
  refine ri_ifeq_b (tgt := 21) hx hb dX4_approve_7 (by decide) (fun c_1 => ?_) (fun c_1 => ?_)
  · skip
    exfalso; omega
  · skip
    refine lv_iload_n hx hb dX4_approve_10 rfl (lv_at hl 2 rfl) ?_
    refine ri_rd (ri_runS (As := [.int (iI t)]) (rest := [.ref (a 0)]) CF (k_X4_isTest l t (by omega)) gX4_approve_X4_isTest f_X4_isTest ⟨rfl, rfl, Nat.le_of_ble_eq_true rfl, Nat.le_of_ble_eq_true rfl, Nat.le_of_ble_eq_true rfl, Nat.le_of_ble_eq_true rfl⟩ tB_bl tB_in rfl hl.1 rfl (Nat.le_of_ble_eq_true rfl) dX4_approve_11) ?_
    refine ri_ifeq_b (tgt := 21) hx hb dX4_approve_14 (by decide) (fun c_2 => ?_) (fun c_2 => ?_)
    · skip
      exfalso; omega
    · skip
      refine ri_iconst hx hb dX4_approve_17 ?_
      refine lv_goto (tgt := 22) hx hb dX4_approve_18 (by decide) ?_
      refine ri_wi (v := bp (0 = 0)) (PP := fun H => va_P D vwCl (mW a kk (thG g 0)) H) (ri_runV (b := a 0) (As := [.int (iI 0)]) (rest := []) CF (k_X4_goesWell l D a kk g 0 hA (by omega)) gX4_approve_X4_goesWell f_X4_goesWell rfl (va_recv hK hP (ci := 4) (q0 := 0) rfl rfl) ⟨rfl, rfl, Nat.le_of_ble_eq_true rfl, Nat.le_of_ble_eq_true rfl, Nat.le_of_ble_eq_true rfl, Nat.le_of_ble_eq_true rfl⟩ wB_bl (wB_in hP hK hN) rfl hl.1 rfl (Nat.le_of_ble_eq_true rfl) dX4_approve_22) hS (fun _ h => h) (fun H locs hP _ hS => ?_)
      replace hP : va_P D vwCl (mW a kk (thG g 0)) H := hP
      refine ri_ifne_b (tgt := 30) hx hb dX4_approve_25 (by decide) (fun c_3 => ?_) (fun c_3 => ?_)
      · skip
        refine lv_iload_n hx hb dX4_approve_30 rfl (lv_at hl 1 rfl) ?_
        refine lv_iload_n hx hb dX4_approve_31 rfl (lv_at hl 2 rfl) ?_
        refine ri_rd (ri_runS (As := [.int (iI b), .int (iI t)]) (rest := []) CF (k_X4_placeOf l b t) gX4_approve_X4_placeOf f_X4_placeOf ⟨rfl, rfl, Nat.le_of_ble_eq_true rfl, Nat.le_of_ble_eq_true rfl, Nat.le_of_ble_eq_true rfl, Nat.le_of_ble_eq_true rfl⟩ tB_bl tB_in rfl hl.1 rfl (Nat.le_of_ble_eq_true rfl) dX4_approve_32) ?_
        refine lv_istore_n (lv' := [(3, .int (iI (5 * b + t))), (0, .ref (a 0)), (1, .int (iI b)), (2, .int (iI t))]) hx hb dX4_approve_35 rfl hl (by decide) rfl (fun ls hl => ?_)
        refine lv_aload_n hx hb dX4_approve_36 rfl (lv_at hl 1 rfl) ?_
        refine va_get (D := D) (ci := 4) (v := .ref (a 3)) (C := RX4) (T := TX4) (N := 10) hx hb hts hinX4 hown hK hP 0 rfl rfl 3 (by decide) (hts _ (List.mem_of_getElem? (i := 1) rfl)) (fun _ h9 => h9) rfl dX4_approve_37 ?_
        refine lv_iload_n hx hb dX4_approve_40 rfl (lv_at hl 0 rfl) ?_
        refine ri_zald hx hb hK hP 3 1 rfl rfl (by omega) (by decide) dX4_approve_41 ?_
        refine ri_eq (y := g 3 (5 * b + t).toNat) (rfl) ?_
        refine lv_istore (lv' := [(4, .int (iI (g 3 (5 * b + t).toNat))), (3, .int (iI (5 * b + t))), (0, .ref (a 0)), (1, .int (iI b)), (2, .int (iI t))]) hx hb dX4_approve_42 hl (by decide) rfl (fun ls hl => ?_)
        refine lv_aload_n hx hb dX4_approve_44 rfl (lv_at hl 2 rfl) ?_
        refine va_get (D := D) (ci := 4) (v := .ref (a 3)) (C := RX4) (T := TX4) (N := 10) hx hb hts hinX4 hown hK hP 0 rfl rfl 3 (by decide) (hts _ (List.mem_of_getElem? (i := 1) rfl)) (fun _ h9 => h9) rfl dX4_approve_45 ?_
        refine lv_iload_n hx hb dX4_approve_48 rfl (lv_at hl 1 rfl) ?_
        refine ri_iconst hx hb dX4_approve_49 ?_
        refine ri_zast hx hb hK hP (mD hA) hS 3 1 rfl rfl (by omega) (by decide) (by omega) dX4_approve_50 (fun H locs hP hS => ?_)
        replace hP := mS.2.2.1 hP
        refine ri_iconst hx hb dX4_approve_51 ?_
        refine lv_istore (lv' := [(5, .int (iI 0)), (4, .int (iI (g 3 (5 * b + t).toNat))), (3, .int (iI (5 * b + t))), (0, .ref (a 0)), (1, .int (iI b)), (2, .int (iI t))]) hx hb dX4_approve_52 hl (by decide) rfl (fun ls hl => ?_)
        have L54 : ∀ (n54 : Nat) (k : Nat), (k ≤ 64) → (64 - k < n54) → ∀ (H : Heap) (locs : List Loc), va_P D vwCl (mW a kk (updG (updG (thG g 0) 3 (updI (g 3) (5 * b + t).toNat 1)) 2 (cpK (g 2) (t * 64).toNat ((5 * b + t) * 64).toNat k (g 1)))) H → va_S (aA 8 a) s.heap H locs → ∀ (ls : Array Slot), lv_has ls 6 [(0, .ref (a 0)), (1, .int (iI b)), (2, .int (iI t)), (3, .int (iI (5 * b + t))), (4, .int (iI (g 3 (5 * b + t).toNat))), (5, .int (iI (k : Int)))] → W zp l ze ({ frames := 2, cells := 0, slots := 0, locals := 42 }) s zm ([.ref (a 0), .int (iI b), .int (iI t)] : List Value).toArray zb zt zc H locs (0 + 0) (0 + 0) (MQ zb (va_Qi (fun (r9 : Int32) (_ : Unit) => r9 = iI (bp (g 3 (5 * b + t).toNat = 1))) (fun _ t9 => (fun H => va_P D vwCl (mW a kk (apG (thG g 0) b t)) H) t9.heap) (aA 8 a)) ([.ref (a 0), .int (iI b), .int (iI t)] : List Value).toArray s 0 0 (aA 8 a)) (F0 zm 54 ls []) := by
          intro n54
          induction n54 with
          | zero => intro k hk hm; exact absurd hm (Nat.not_lt_zero _)
          | succ n54 ih54 =>
            intro k hk hm54 H locs hP hS ls hl
            refine lv_iload hx hb dX4_approve_54 (lv_at hl 5 rfl) ?_
            refine ri_bipush hx hb dX4_approve_56 (by decide) ?_
            refine ri_icmp_ge (tgt := 91) hx hb (by omega) dX4_approve_58 (by decide) (fun h58 => ?_) (fun h58 => ?_)
            · skip
              refine lv_iload hx hb dX4_approve_91 (lv_at hl 4 rfl) ?_
              exact ri_zretW (A := (aA 8 a)) (PP := (fun H => va_P D vwCl (mW a kk (apG (thG g 0) b t)) H)) hx hb hr hlocks hS (by show va_P D vwCl (mW a kk (apG (thG g 0) b t)) _; rw [show k = 64 by omega] at hP; exact hP) (bp_01 _) dX4_approve_93 (b01 (hM.2.2.1 (5 * b + t).toNat (by omega)))
            · skip
              refine lv_aload_n hx hb dX4_approve_61 rfl (lv_at hl 0 rfl) ?_
              refine va_get (D := D) (ci := 4) (v := .ref (a 2)) (C := RX4) (T := TX4) (N := 10) hx hb hts hinX4 hown hK hP 0 rfl rfl 2 (by decide) (hts _ (List.mem_of_getElem? (i := 2) rfl)) (fun _ h9 => h9) rfl dX4_approve_62 ?_
              refine ri_bipush hx hb dX4_approve_65 (by decide) ?_
              refine lv_iload_n hx hb dX4_approve_67 rfl (lv_at hl 3 rfl) ?_
              refine ri_imul hx hb dX4_approve_68 ?_
              refine lv_iload hx hb dX4_approve_69 (lv_at hl 5 rfl) ?_
              refine ri_iadd hx hb dX4_approve_71 ?_
              refine lv_aload_n hx hb dX4_approve_72 rfl (lv_at hl 0 rfl) ?_
              refine va_get (D := D) (ci := 4) (v := .ref (a 1)) (C := RX4) (T := TX4) (N := 10) hx hb hts hinX4 hown hK hP 0 rfl rfl 1 (by decide) (hts _ (List.mem_of_getElem? (i := 3) rfl)) (fun _ h9 => h9) rfl dX4_approve_73 ?_
              refine ri_bipush hx hb dX4_approve_76 (by decide) ?_
              refine lv_iload_n hx hb dX4_approve_78 rfl (lv_at hl 2 rfl) ?_
              refine ri_imul hx hb dX4_approve_79 ?_
              refine lv_iload hx hb dX4_approve_80 (lv_at hl 5 rfl) ?_
              refine ri_iadd hx hb dX4_approve_82 ?_
              refine ri_iald hx hb hK hP 1 0 rfl rfl (by omega) (by decide) dX4_approve_83 ?_
              refine ri_eq (y := g 1 ((t * 64).toNat + k)) (by show g 1 _ = g 1 _; congr 1; omega) ?_
              refine ri_iast hx hb hK hP (mD hA) hS 2 0 rfl rfl (by omega) (by decide) dX4_approve_84 (fun H locs hP hS => ?_)
              replace hP := mS.2.1 hP
              refine ri_iinc (lv' := [(5, .int (iI ((k : Int) + 1))), (0, .ref (a 0)), (1, .int (iI b)), (2, .int (iI t)), (3, .int (iI (5 * b + t))), (4, .int (iI (g 3 (5 * b + t).toNat)))]) hx hb dX4_approve_85 hl (k := 5) rfl (by decide) rfl (fun ls hl => ?_)
              refine lv_goto (tgt := 54) hx hb dX4_approve_88 (by decide) ?_
              exact ih54 (k + 1) (by omega) (by omega) _ _ (by have e := cpK_s (g 2) (g 1) (t * 64).toNat ((5 * b + t) * 64).toNat k; rw [updG_uu, show (64 * (5 * b + t) + (k : Int)).toNat = ((5 * b + t) * 64).toNat + k by omega] at hP; rw [← e]; exact hP) hS ls (lv_sub hl [1, 2, 3, 4, 5, 0] rfl)
        exact L54 65 (0) (by omega) (by decide) _ _ (by rw [cpK_0]; exact hP) hS ls (lv_sub hl [3, 4, 5, 2, 1, 0] rfl)
      · skip
        exfalso; omega

set_option maxHeartbeats 4000000 in
set_option maxRecDepth 100000 in
theorem k_X4_approve_no (l : Launch) (D : va_G) (a : Nat → Nat) (kk : Nat → ClassId) (g : Nat → Nat → Int) (b : Int) (t : Int) (hA : aDs 8 a) (hM : MInv g) (yb : -2147483648 ≤ b ∧ b < 2147483648) (yt : -2147483648 ≤ t ∧ t < 2147483648) (hok : ¬ ((0 ≤ b ∧ b ≤ 3) ∧ (0 ≤ t ∧ t ≤ 4))) : WI l yX4_approve wsX4_approve ({ frames := 2, cells := 0, slots := 0, locals := 42 }) [.ref (a 0), .int (iI b), .int (iI t)] (wB D kk (mW a kk g)) (0) (fun H => va_P D vwCl (mW a kk (thG g 1)) H) (aA 8 a) 0 0 := by
  refine ri_ent (cc := cX4_approve) (maxL := 6) (ret := some .boolean) (by decide) rfl (Nat.le_of_ble_eq_true rfl) ?_
  intro zp ze s zm zb zt zc hx hb hr hts hown hlocks hml hin hB ls hl
  have hown : s.vm.findClass RX4 = some zm.cls := hown
  have CF : CallFix zp zm zc cX4_approve 6 s ([.ref (a 0), .int (iI b), .int (iI t)] : List Value).toArray wsX4_approve RX4 := ⟨hx, hb, hml, hown, hts⟩
  obtain ⟨hP, hK, hN⟩ := hB
  have hS : va_S (aA 8 a) s.heap s.heap [] := va_S.rf
  have hl : lv_has ls 6 [(0, .ref (a 0)), (1, .int (iI b)), (2, .int (iI t))] := hl
  refine lv_aload_n hx hb dX4_approve_0 rfl (lv_at hl 0 rfl) ?_
  refine lv_iload_n hx hb dX4_approve_1 rfl (lv_at hl 1 rfl) ?_
  refine ri_iconst hx hb dX4_approve_2 ?_
  refine ri_iconst hx hb dX4_approve_3 ?_
  refine ri_rd (ri_runS (As := [.int (iI b), .int (iI 0), .int (iI 3)]) (rest := [.ref (a 0)]) CF (k_X4_in l b 0 3 (by omega) (by omega) (by omega)) gX4_approve_X4_in f_X4_in ⟨rfl, rfl, Nat.le_of_ble_eq_true rfl, Nat.le_of_ble_eq_true rfl, Nat.le_of_ble_eq_true rfl, Nat.le_of_ble_eq_true rfl⟩ tB_bl tB_in rfl hl.1 rfl (Nat.le_of_ble_eq_true rfl) dX4_approve_4) ?_
  refine ri_ifeq_b (tgt := 21) hx hb dX4_approve_7 (by decide) (fun c_1 => ?_) (fun c_1 => ?_)
  · skip
    refine ri_iconst hx hb dX4_approve_21 ?_
    refine ri_wi (v := bp (1 = 0)) (PP := fun H => va_P D vwCl (mW a kk (thG g 1)) H) (ri_runV (b := a 0) (As := [.int (iI 1)]) (rest := []) CF (k_X4_goesWell l D a kk g 1 hA (by omega)) gX4_approve_X4_goesWell f_X4_goesWell rfl (va_recv hK hP (ci := 4) (q0 := 0) rfl rfl) ⟨rfl, rfl, Nat.le_of_ble_eq_true rfl, Nat.le_of_ble_eq_true rfl, Nat.le_of_ble_eq_true rfl, Nat.le_of_ble_eq_true rfl⟩ wB_bl (wB_in hP hK hN) rfl hl.1 rfl (Nat.le_of_ble_eq_true rfl) dX4_approve_22) hS (fun _ h => h) (fun H locs hP _ hS => ?_)
    replace hP : va_P D vwCl (mW a kk (thG g 1)) H := hP
    refine ri_ifne_b (tgt := 30) hx hb dX4_approve_25 (by decide) (fun c_2 => ?_) (fun c_2 => ?_)
    · skip
      exfalso; omega
    · skip
      refine ri_iconst hx hb dX4_approve_28 ?_
      exact ri_zretW (A := (aA 8 a)) (PP := (fun H => va_P D vwCl (mW a kk (thG g 1)) H)) hx hb hr hlocks hS (hP) (Or.inl rfl) dX4_approve_29 (rfl)
  · skip
    refine lv_iload_n hx hb dX4_approve_10 rfl (lv_at hl 2 rfl) ?_
    refine ri_rd (ri_runS (As := [.int (iI t)]) (rest := [.ref (a 0)]) CF (k_X4_isTest l t (by omega)) gX4_approve_X4_isTest f_X4_isTest ⟨rfl, rfl, Nat.le_of_ble_eq_true rfl, Nat.le_of_ble_eq_true rfl, Nat.le_of_ble_eq_true rfl, Nat.le_of_ble_eq_true rfl⟩ tB_bl tB_in rfl hl.1 rfl (Nat.le_of_ble_eq_true rfl) dX4_approve_11) ?_
    refine ri_ifeq_b (tgt := 21) hx hb dX4_approve_14 (by decide) (fun c_3 => ?_) (fun c_3 => ?_)
    · skip
      refine ri_iconst hx hb dX4_approve_21 ?_
      refine ri_wi (v := bp (1 = 0)) (PP := fun H => va_P D vwCl (mW a kk (thG g 1)) H) (ri_runV (b := a 0) (As := [.int (iI 1)]) (rest := []) CF (k_X4_goesWell l D a kk g 1 hA (by omega)) gX4_approve_X4_goesWell f_X4_goesWell rfl (va_recv hK hP (ci := 4) (q0 := 0) rfl rfl) ⟨rfl, rfl, Nat.le_of_ble_eq_true rfl, Nat.le_of_ble_eq_true rfl, Nat.le_of_ble_eq_true rfl, Nat.le_of_ble_eq_true rfl⟩ wB_bl (wB_in hP hK hN) rfl hl.1 rfl (Nat.le_of_ble_eq_true rfl) dX4_approve_22) hS (fun _ h => h) (fun H locs hP _ hS => ?_)
      replace hP : va_P D vwCl (mW a kk (thG g 1)) H := hP
      refine ri_ifne_b (tgt := 30) hx hb dX4_approve_25 (by decide) (fun c_4 => ?_) (fun c_4 => ?_)
      · skip
        exfalso; omega
      · skip
        refine ri_iconst hx hb dX4_approve_28 ?_
        exact ri_zretW (A := (aA 8 a)) (PP := (fun H => va_P D vwCl (mW a kk (thG g 1)) H)) hx hb hr hlocks hS (hP) (Or.inl rfl) dX4_approve_29 (rfl)
    · skip
      exfalso; omega

theorem f_X4_begin : MF yX4_begin wsX4_begin cX4_begin 4 (some .int) 1 := ⟨⟨_, rfl⟩, by decide +kernel, by decide +kernel, by decide +kernel⟩
set_option maxHeartbeats 4000000 in
set_option maxRecDepth 100000 in
theorem k_X4_begin_ok (l : Launch) (D : va_G) (a : Nat → Nat) (kk : Nat → ClassId) (g : Nat → Nat → Int) (b : Int) (hA : aDs 8 a) (hM : MInv g) (yb : -2147483648 ≤ b ∧ b < 2147483648) (hok : 1 ≤ b ∧ b ≤ 3) : WI l yX4_begin wsX4_begin ({ frames := 1, cells := 0, slots := 0, locals := 23 }) [.ref (a 0), .int (iI b)] (wB D kk (mW a kk g)) (mbC (thG g 0) b 5) (fun H => va_P D vwCl (mW a kk (mbG (thG g 0) b 5)) H) (aA 8 a) 0 0 := by
  refine ri_ent (cc := cX4_begin) (maxL := 4) (ret := some .int) (by decide) rfl (Nat.le_of_ble_eq_true rfl) ?_
  intro zp ze s zm zb zt zc hx hb hr hts hown hlocks hml hin hB ls hl
  have hown : s.vm.findClass RX4 = some zm.cls := hown
  have CF : CallFix zp zm zc cX4_begin 4 s ([.ref (a 0), .int (iI b)] : List Value).toArray wsX4_begin RX4 := ⟨hx, hb, hml, hown, hts⟩
  obtain ⟨hP, hK, hN⟩ := hB
  have hinX4 : ∀ w ∈ wsX40, w ∈ wsX4_begin := (fun _ h => List.mem_cons_of_mem _ (List.mem_append_right _ h))
  have hS : va_S (aA 8 a) s.heap s.heap [] := va_S.rf
  have hl : lv_has ls 4 [(0, .ref (a 0)), (1, .int (iI b))] := hl
  refine lv_aload_n hx hb dX4_begin_0 rfl (lv_at hl 0 rfl) ?_
  refine lv_iload_n hx hb dX4_begin_1 rfl (lv_at hl 1 rfl) ?_
  refine ri_iconst hx hb dX4_begin_2 ?_
  refine ri_iconst hx hb dX4_begin_3 ?_
  refine ri_rd (ri_runS (As := [.int (iI b), .int (iI 1), .int (iI 3)]) (rest := [.ref (a 0)]) CF (k_X4_in l b 1 3 (by omega) (by omega) (by omega)) gX4_begin_X4_in f_X4_in ⟨rfl, rfl, Nat.le_of_ble_eq_true rfl, Nat.le_of_ble_eq_true rfl, Nat.le_of_ble_eq_true rfl, Nat.le_of_ble_eq_true rfl⟩ tB_bl tB_in rfl hl.1 rfl (Nat.le_of_ble_eq_true rfl) dX4_begin_4) ?_
  refine ri_ifeq_b (tgt := 14) hx hb dX4_begin_7 (by decide) (fun c_1 => ?_) (fun c_1 => ?_)
  · skip
    exfalso; omega
  · skip
    refine ri_iconst hx hb dX4_begin_10 ?_
    refine lv_goto (tgt := 15) hx hb dX4_begin_11 (by decide) ?_
    refine ri_wi (v := bp (0 = 0)) (PP := fun H => va_P D vwCl (mW a kk (thG g 0)) H) (ri_runV (b := a 0) (As := [.int (iI 0)]) (rest := []) CF (k_X4_goesWell l D a kk g 0 hA (by omega)) gX4_begin_X4_goesWell f_X4_goesWell rfl (va_recv hK hP (ci := 4) (q0 := 0) rfl rfl) ⟨rfl, rfl, Nat.le_of_ble_eq_true rfl, Nat.le_of_ble_eq_true rfl, Nat.le_of_ble_eq_true rfl, Nat.le_of_ble_eq_true rfl⟩ wB_bl (wB_in hP hK hN) rfl hl.1 rfl (Nat.le_of_ble_eq_true rfl) dX4_begin_15) hS (fun _ h => h) (fun H locs hP _ hS => ?_)
    replace hP : va_P D vwCl (mW a kk (thG g 0)) H := hP
    refine ri_ifne_b (tgt := 23) hx hb dX4_begin_18 (by decide) (fun c_2 => ?_) (fun c_2 => ?_)
    · skip
      refine ri_iconst hx hb dX4_begin_23 ?_
      refine lv_istore_n (lv' := [(2, .int (iI 0)), (0, .ref (a 0)), (1, .int (iI b))]) hx hb dX4_begin_24 rfl hl (by decide) rfl (fun ls hl => ?_)
      refine ri_iconst hx hb dX4_begin_25 ?_
      refine lv_istore_n (lv' := [(3, .int (iI 0)), (2, .int (iI 0)), (0, .ref (a 0)), (1, .int (iI b))]) hx hb dX4_begin_26 rfl hl (by decide) rfl (fun ls hl => ?_)
      have L27 : ∀ (n27 : Nat) (n : Nat) (ac : Int), (n ≤ 5) → (ac = mbC (thG g 0) b n) → (5 - n < n27) → ∀ (H : Heap) (locs : List Loc), va_P D vwCl (mW a kk (mbG (thG g 0) b n)) H → va_S (aA 8 a) s.heap H locs → ∀ (ls : Array Slot), lv_has ls 4 [(0, .ref (a 0)), (1, .int (iI b)), (2, .int (iI ac)), (3, .int (iI (n : Int)))] → W zp l ze ({ frames := 1, cells := 0, slots := 0, locals := 23 }) s zm ([.ref (a 0), .int (iI b)] : List Value).toArray zb zt zc H locs (0 + 0) (0 + 0) (MQ zb (va_Qi (fun (r9 : Int32) (_ : Unit) => r9 = iI (mbC (thG g 0) b 5)) (fun _ t9 => (fun H => va_P D vwCl (mW a kk (mbG (thG g 0) b 5)) H) t9.heap) (aA 8 a)) ([.ref (a 0), .int (iI b)] : List Value).toArray s 0 0 (aA 8 a)) (F0 zm 27 ls []) := by
        intro n27
        induction n27 with
        | zero => intro n ac hn hac hm; exact absurd hm (Nat.not_lt_zero _)
        | succ n27 ih27 =>
          intro n ac hn hac hm27 H locs hP hS ls hl
          have hcr := mbC_r (thG g 0) b n
          have hM2 := MInv_mb (g := thG g 0) (b := b) hM (by omega) n hn
          refine lv_iload_n hx hb dX4_begin_27 rfl (lv_at hl 3 rfl) ?_
          refine ri_iconst hx hb dX4_begin_28 ?_
          refine ri_icmp_ge (tgt := 87) hx hb (by omega) dX4_begin_29 (by decide) (fun h29 => ?_) (fun h29 => ?_)
          · skip
            refine lv_iload_n hx hb dX4_begin_87 rfl (lv_at hl 2 rfl) ?_
            exact ri_iretW (A := (aA 8 a)) (PP := (fun H => va_P D vwCl (mW a kk (mbG (thG g 0) b 5)) H)) hx hb hr hlocks hS (by show va_P D vwCl (mW a kk (mbG (thG g 0) b 5)) _; rw [show n = 5 by omega] at hP; exact hP) dX4_begin_88 (by rw [hac]; congr 1; omega)
          · skip
            refine lv_aload_n hx hb dX4_begin_32 rfl (lv_at hl 0 rfl) ?_
            refine ri_iconst hx hb dX4_begin_33 ?_
            refine lv_iload_n hx hb dX4_begin_34 rfl (lv_at hl 3 rfl) ?_
            refine ri_rd (ri_runS (As := [.int (iI 0), .int (iI (n : Int))]) (rest := [.ref (a 0)]) CF (k_X4_placeOf l 0 (n : Int)) gX4_begin_X4_placeOf f_X4_placeOf ⟨rfl, rfl, Nat.le_of_ble_eq_true rfl, Nat.le_of_ble_eq_true rfl, Nat.le_of_ble_eq_true rfl, Nat.le_of_ble_eq_true rfl⟩ tB_bl tB_in rfl hl.1 rfl (Nat.le_of_ble_eq_true rfl) dX4_begin_35) ?_
            refine lv_iload_n hx hb dX4_begin_38 rfl (lv_at hl 1 rfl) ?_
            refine lv_iload_n hx hb dX4_begin_39 rfl (lv_at hl 3 rfl) ?_
            refine ri_rd (ri_runS (As := [.int (iI b), .int (iI (n : Int))]) (rest := [.int (iI (5 * 0 + (n : Int))), .ref (a 0)]) CF (k_X4_placeOf l b (n : Int)) gX4_begin_X4_placeOf f_X4_placeOf ⟨rfl, rfl, Nat.le_of_ble_eq_true rfl, Nat.le_of_ble_eq_true rfl, Nat.le_of_ble_eq_true rfl, Nat.le_of_ble_eq_true rfl⟩ tB_bl tB_in rfl hl.1 rfl (Nat.le_of_ble_eq_true rfl) dX4_begin_40) ?_
            refine ri_wv (PP := fun H => va_P D vwCl (mW a kk (cpM (mbG (thG g 0) b n) (5 * 0 + (n : Int)) (5 * b + (n : Int)))) H) (ri_runV (b := a 0) (As := [.int (iI (5 * 0 + (n : Int))), .int (iI (5 * b + (n : Int)))]) (rest := []) CF (k_X4_copy l D a kk (mbG (thG g 0) b n) (5 * 0 + (n : Int)) (5 * b + (n : Int)) hA hM2 (by omega) (by omega)) gX4_begin_X4_copy f_X4_copy rfl (va_recv hK hP (ci := 4) (q0 := 0) rfl rfl) ⟨rfl, rfl, Nat.le_of_ble_eq_true rfl, Nat.le_of_ble_eq_true rfl, Nat.le_of_ble_eq_true rfl, Nat.le_of_ble_eq_true rfl⟩ wB_bl (wB_in hP hK hN) rfl hl.1 rfl (Nat.le_of_ble_eq_true rfl) dX4_begin_43) hS (fun _ h => h) (fun H locs hP _ hS => ?_)
            replace hP : va_P D vwCl (mW a kk (cpM (mbG (thG g 0) b n) (5 * 0 + (n : Int)) (5 * b + (n : Int)))) H := hP
            have hM3 := MInv_cp (fr := 5 * 0 + (n : Int)) (to := 5 * b + (n : Int)) hM2 (by omega) (by omega)
            refine lv_aload_n hx hb dX4_begin_46 rfl (lv_at hl 0 rfl) ?_
            refine ri_iconst hx hb dX4_begin_47 ?_
            refine lv_iload_n hx hb dX4_begin_48 rfl (lv_at hl 3 rfl) ?_
            refine ri_rd (ri_runS (As := [.int (iI 0), .int (iI (n : Int))]) (rest := [.ref (a 0)]) CF (k_X4_placeOf l 0 (n : Int)) gX4_begin_X4_placeOf f_X4_placeOf ⟨rfl, rfl, Nat.le_of_ble_eq_true rfl, Nat.le_of_ble_eq_true rfl, Nat.le_of_ble_eq_true rfl, Nat.le_of_ble_eq_true rfl⟩ tB_bl tB_in rfl hl.1 rfl (Nat.le_of_ble_eq_true rfl) dX4_begin_49) ?_
            refine lv_iload_n hx hb dX4_begin_52 rfl (lv_at hl 1 rfl) ?_
            refine lv_iload_n hx hb dX4_begin_53 rfl (lv_at hl 3 rfl) ?_
            refine ri_rd (ri_runS (As := [.int (iI b), .int (iI (n : Int))]) (rest := [.int (iI (5 * 0 + (n : Int))), .ref (a 0)]) CF (k_X4_baseOf l b (n : Int)) gX4_begin_X4_baseOf f_X4_baseOf ⟨rfl, rfl, Nat.le_of_ble_eq_true rfl, Nat.le_of_ble_eq_true rfl, Nat.le_of_ble_eq_true rfl, Nat.le_of_ble_eq_true rfl⟩ tB_bl tB_in rfl hl.1 rfl (Nat.le_of_ble_eq_true rfl) dX4_begin_54) ?_
            refine ri_wv (PP := fun H => va_P D vwCl (mW a kk (cpM (cpM (mbG (thG g 0) b n) (5 * 0 + (n : Int)) (5 * b + (n : Int))) (5 * 0 + (n : Int)) (5 * (4 + b - 1) + (n : Int)))) H) (ri_runV (b := a 0) (As := [.int (iI (5 * 0 + (n : Int))), .int (iI (5 * (4 + b - 1) + (n : Int)))]) (rest := []) CF (k_X4_copy l D a kk (cpM (mbG (thG g 0) b n) (5 * 0 + (n : Int)) (5 * b + (n : Int))) (5 * 0 + (n : Int)) (5 * (4 + b - 1) + (n : Int)) hA hM3 (by omega) (by omega)) gX4_begin_X4_copy f_X4_copy rfl (va_recv hK hP (ci := 4) (q0 := 0) rfl rfl) ⟨rfl, rfl, Nat.le_of_ble_eq_true rfl, Nat.le_of_ble_eq_true rfl, Nat.le_of_ble_eq_true rfl, Nat.le_of_ble_eq_true rfl⟩ wB_bl (wB_in hP hK hN) rfl hl.1 rfl (Nat.le_of_ble_eq_true rfl) dX4_begin_57) hS (fun _ h => h) (fun H locs hP _ hS => ?_)
            replace hP : va_P D vwCl (mW a kk (cpM (cpM (mbG (thG g 0) b n) (5 * 0 + (n : Int)) (5 * b + (n : Int))) (5 * 0 + (n : Int)) (5 * (4 + b - 1) + (n : Int)))) H := hP
            replace hP : va_P D vwCl (mW a kk (mbG (thG g 0) b (n + 1))) H := hP
            have hM4 := MInv_mb (g := thG g 0) (b := b) hM (by omega) (n + 1) (by omega)
            refine lv_iload_n hx hb dX4_begin_60 rfl (lv_at hl 2 rfl) ?_
            refine lv_aload_n hx hb dX4_begin_61 rfl (lv_at hl 0 rfl) ?_
            refine va_get (D := D) (ci := 4) (v := .ref (a 3)) (C := RX4) (T := TX4) (N := 10) hx hb hts hinX4 hown hK hP 0 rfl rfl 3 (by decide) (hts _ (List.mem_of_getElem? (i := 1) rfl)) (fun _ h9 => h9) rfl dX4_begin_62 ?_
            refine ri_iconst hx hb dX4_begin_65 ?_
            refine lv_iload_n hx hb dX4_begin_66 rfl (lv_at hl 3 rfl) ?_
            refine ri_rd (ri_runS (As := [.int (iI 0), .int (iI (n : Int))]) (rest := [.ref (a 3), .int (iI ac)]) CF (k_X4_placeOf l 0 (n : Int)) gX4_begin_X4_placeOf f_X4_placeOf ⟨rfl, rfl, Nat.le_of_ble_eq_true rfl, Nat.le_of_ble_eq_true rfl, Nat.le_of_ble_eq_true rfl, Nat.le_of_ble_eq_true rfl⟩ tB_bl tB_in rfl hl.1 rfl (Nat.le_of_ble_eq_true rfl) dX4_begin_67) ?_
            refine ri_zald hx hb hK hP 3 1 rfl rfl (by omega) (by decide) dX4_begin_70 ?_
            have f_3 := hM4.2.2.1 (5 * 0 + (n : Int)).toNat (by omega)
            refine ri_if_eq (tgt := 78) hx hb (by omega) dX4_begin_71 (by decide) (fun h71 => ?_) (fun h71 => ?_)
            · skip
              refine ri_iconst hx hb dX4_begin_78 ?_
              refine ri_iadd hx hb dX4_begin_79 ?_
              refine lv_istore_n (lv' := [(2, .int (iI (ac + 0))), (0, .ref (a 0)), (1, .int (iI b)), (3, .int (iI (n : Int)))]) hx hb dX4_begin_80 rfl hl (by decide) rfl (fun ls hl => ?_)
              refine ri_iinc (lv' := [(3, .int (iI ((n : Int) + 1))), (2, .int (iI (ac + 0))), (0, .ref (a 0)), (1, .int (iI b))]) hx hb dX4_begin_81 hl (k := 3) rfl (by decide) rfl (fun ls hl => ?_)
              refine lv_goto (tgt := 27) hx hb dX4_begin_84 (by decide) ?_
              exact ih27 (n + 1) (ac + 0) (by omega) (by show ac + 0 = mbC (thG g 0) b n + bp (mbG (thG g 0) b (n + 1) 3 (5 * 0 + (n : Int)).toNat = 1); rw [bp_f (by omega), hac]) (by omega) _ _ (hP) hS ls (lv_sub hl [2, 3, 1, 0] rfl)
            · skip
              refine ri_iconst hx hb dX4_begin_74 ?_
              refine lv_goto (tgt := 79) hx hb dX4_begin_75 (by decide) ?_
              refine ri_iadd hx hb dX4_begin_79 ?_
              refine lv_istore_n (lv' := [(2, .int (iI (ac + 1))), (0, .ref (a 0)), (1, .int (iI b)), (3, .int (iI (n : Int)))]) hx hb dX4_begin_80 rfl hl (by decide) rfl (fun ls hl => ?_)
              refine ri_iinc (lv' := [(3, .int (iI ((n : Int) + 1))), (2, .int (iI (ac + 1))), (0, .ref (a 0)), (1, .int (iI b))]) hx hb dX4_begin_81 hl (k := 3) rfl (by decide) rfl (fun ls hl => ?_)
              refine lv_goto (tgt := 27) hx hb dX4_begin_84 (by decide) ?_
              exact ih27 (n + 1) (ac + 1) (by omega) (by show ac + 1 = mbC (thG g 0) b n + bp (mbG (thG g 0) b (n + 1) 3 (5 * 0 + (n : Int)).toNat = 1); rw [bp_t (by omega), hac]) (by omega) _ _ (hP) hS ls (lv_sub hl [2, 3, 1, 0] rfl)
      exact L27 6 (0) (0) (by omega) (rfl) (by decide) _ _ hP hS ls (lv_sub hl [2, 3, 1, 0] rfl)
    · skip
      exfalso; omega

set_option maxHeartbeats 4000000 in
set_option maxRecDepth 100000 in
theorem k_X4_begin_no (l : Launch) (D : va_G) (a : Nat → Nat) (kk : Nat → ClassId) (g : Nat → Nat → Int) (b : Int) (hA : aDs 8 a) (hM : MInv g) (yb : -2147483648 ≤ b ∧ b < 2147483648) (hok : ¬ (1 ≤ b ∧ b ≤ 3)) : WI l yX4_begin wsX4_begin ({ frames := 1, cells := 0, slots := 0, locals := 22 }) [.ref (a 0), .int (iI b)] (wB D kk (mW a kk g)) (0) (fun H => va_P D vwCl (mW a kk (thG g 1)) H) (aA 8 a) 0 0 := by
  refine ri_ent (cc := cX4_begin) (maxL := 4) (ret := some .int) (by decide) rfl (Nat.le_of_ble_eq_true rfl) ?_
  intro zp ze s zm zb zt zc hx hb hr hts hown hlocks hml hin hB ls hl
  have hown : s.vm.findClass RX4 = some zm.cls := hown
  have CF : CallFix zp zm zc cX4_begin 4 s ([.ref (a 0), .int (iI b)] : List Value).toArray wsX4_begin RX4 := ⟨hx, hb, hml, hown, hts⟩
  obtain ⟨hP, hK, hN⟩ := hB
  have hS : va_S (aA 8 a) s.heap s.heap [] := va_S.rf
  have hl : lv_has ls 4 [(0, .ref (a 0)), (1, .int (iI b))] := hl
  refine lv_aload_n hx hb dX4_begin_0 rfl (lv_at hl 0 rfl) ?_
  refine lv_iload_n hx hb dX4_begin_1 rfl (lv_at hl 1 rfl) ?_
  refine ri_iconst hx hb dX4_begin_2 ?_
  refine ri_iconst hx hb dX4_begin_3 ?_
  refine ri_rd (ri_runS (As := [.int (iI b), .int (iI 1), .int (iI 3)]) (rest := [.ref (a 0)]) CF (k_X4_in l b 1 3 (by omega) (by omega) (by omega)) gX4_begin_X4_in f_X4_in ⟨rfl, rfl, Nat.le_of_ble_eq_true rfl, Nat.le_of_ble_eq_true rfl, Nat.le_of_ble_eq_true rfl, Nat.le_of_ble_eq_true rfl⟩ tB_bl tB_in rfl hl.1 rfl (Nat.le_of_ble_eq_true rfl) dX4_begin_4) ?_
  refine ri_ifeq_b (tgt := 14) hx hb dX4_begin_7 (by decide) (fun c_1 => ?_) (fun c_1 => ?_)
  · skip
    refine ri_iconst hx hb dX4_begin_14 ?_
    refine ri_wi (v := bp (1 = 0)) (PP := fun H => va_P D vwCl (mW a kk (thG g 1)) H) (ri_runV (b := a 0) (As := [.int (iI 1)]) (rest := []) CF (k_X4_goesWell l D a kk g 1 hA (by omega)) gX4_begin_X4_goesWell f_X4_goesWell rfl (va_recv hK hP (ci := 4) (q0 := 0) rfl rfl) ⟨rfl, rfl, Nat.le_of_ble_eq_true rfl, Nat.le_of_ble_eq_true rfl, Nat.le_of_ble_eq_true rfl, Nat.le_of_ble_eq_true rfl⟩ wB_bl (wB_in hP hK hN) rfl hl.1 rfl (Nat.le_of_ble_eq_true rfl) dX4_begin_15) hS (fun _ h => h) (fun H locs hP _ hS => ?_)
    replace hP : va_P D vwCl (mW a kk (thG g 1)) H := hP
    refine ri_ifne_b (tgt := 23) hx hb dX4_begin_18 (by decide) (fun c_2 => ?_) (fun c_2 => ?_)
    · skip
      exfalso; omega
    · skip
      refine ri_iconst hx hb dX4_begin_21 ?_
      exact ri_iretW (A := (aA 8 a)) (PP := (fun H => va_P D vwCl (mW a kk (thG g 1)) H)) hx hb hr hlocks hS (hP) dX4_begin_22 (rfl)
  · skip
    exfalso; omega

theorem f_X4_join : MF yX4_join wsX4_join cX4_join 9 (some .int) 1 := ⟨⟨_, rfl⟩, by decide +kernel, by decide +kernel, by decide +kernel⟩
set_option maxHeartbeats 4000000 in
set_option maxRecDepth 100000 in
theorem k_X4_join_ok (l : Launch) (D : va_G) (a : Nat → Nat) (kk : Nat → ClassId) (g : Nat → Nat → Int) (b : Int) (hA : aDs 8 a) (hM : MInv g) (yb : -2147483648 ≤ b ∧ b < 2147483648) (hok : 1 ≤ b ∧ b ≤ 3) : WI l yX4_join wsX4_join ({ frames := 1, cells := 0, slots := 0, locals := 24 }) [.ref (a 0), .int (iI b)] (wB D kk (mW a kk g)) (mjC (thG g 0) b 5) (fun H => va_P D vwCl (mW a kk (mjG (thG g 0) b 5)) H) (aA 8 a) 0 0 := by
  refine ri_ent (cc := cX4_join) (maxL := 9) (ret := some .int) (by decide) rfl (Nat.le_of_ble_eq_true rfl) ?_
  intro zp ze s zm zb zt zc hx hb hr hts hown hlocks hml hin hB ls hl
  have hown : s.vm.findClass RX4 = some zm.cls := hown
  have CF : CallFix zp zm zc cX4_join 9 s ([.ref (a 0), .int (iI b)] : List Value).toArray wsX4_join RX4 := ⟨hx, hb, hml, hown, hts⟩
  obtain ⟨hP, hK, hN⟩ := hB
  have hS : va_S (aA 8 a) s.heap s.heap [] := va_S.rf
  have hl : lv_has ls 9 [(0, .ref (a 0)), (1, .int (iI b))] := hl
  refine lv_aload_n hx hb dX4_join_0 rfl (lv_at hl 0 rfl) ?_
  refine lv_iload_n hx hb dX4_join_1 rfl (lv_at hl 1 rfl) ?_
  refine ri_iconst hx hb dX4_join_2 ?_
  refine ri_iconst hx hb dX4_join_3 ?_
  refine ri_rd (ri_runS (As := [.int (iI b), .int (iI 1), .int (iI 3)]) (rest := [.ref (a 0)]) CF (k_X4_in l b 1 3 (by omega) (by omega) (by omega)) gX4_join_X4_in f_X4_in ⟨rfl, rfl, Nat.le_of_ble_eq_true rfl, Nat.le_of_ble_eq_true rfl, Nat.le_of_ble_eq_true rfl, Nat.le_of_ble_eq_true rfl⟩ tB_bl tB_in rfl hl.1 rfl (Nat.le_of_ble_eq_true rfl) dX4_join_4) ?_
  refine ri_ifeq_b (tgt := 14) hx hb dX4_join_7 (by decide) (fun c_1 => ?_) (fun c_1 => ?_)
  · skip
    exfalso; omega
  · skip
    refine ri_iconst hx hb dX4_join_10 ?_
    refine lv_goto (tgt := 15) hx hb dX4_join_11 (by decide) ?_
    refine ri_wi (v := bp (0 = 0)) (PP := fun H => va_P D vwCl (mW a kk (thG g 0)) H) (ri_runV (b := a 0) (As := [.int (iI 0)]) (rest := []) CF (k_X4_goesWell l D a kk g 0 hA (by omega)) gX4_join_X4_goesWell f_X4_goesWell rfl (va_recv hK hP (ci := 4) (q0 := 0) rfl rfl) ⟨rfl, rfl, Nat.le_of_ble_eq_true rfl, Nat.le_of_ble_eq_true rfl, Nat.le_of_ble_eq_true rfl, Nat.le_of_ble_eq_true rfl⟩ wB_bl (wB_in hP hK hN) rfl hl.1 rfl (Nat.le_of_ble_eq_true rfl) dX4_join_15) hS (fun _ h => h) (fun H locs hP _ hS => ?_)
    replace hP : va_P D vwCl (mW a kk (thG g 0)) H := hP
    refine ri_ifne_b (tgt := 23) hx hb dX4_join_18 (by decide) (fun c_2 => ?_) (fun c_2 => ?_)
    · skip
      refine ri_iconst hx hb dX4_join_23 ?_
      refine lv_istore_n (lv' := [(2, .int (iI 0)), (0, .ref (a 0)), (1, .int (iI b))]) hx hb dX4_join_24 rfl hl (by decide) rfl (fun ls hl => ?_)
      refine ri_iconst hx hb dX4_join_25 ?_
      refine lv_istore_n (lv' := [(3, .int (iI 0)), (2, .int (iI 0)), (0, .ref (a 0)), (1, .int (iI b))]) hx hb dX4_join_26 rfl hl (by decide) rfl (fun ls hl => ?_)
      have L27 : ∀ (n27 : Nat) (n : Nat) (ac : Int), (n ≤ 5) → (ac = mjC (thG g 0) b n) → (5 - n < n27) → ∀ (H : Heap) (locs : List Loc), va_P D vwCl (mW a kk (mjG (thG g 0) b n)) H → va_S (aA 8 a) s.heap H locs → ∀ (ls : Array Slot), lv_has ls 9 [(0, .ref (a 0)), (1, .int (iI b)), (2, .int (iI ac)), (3, .int (iI (n : Int)))] → W zp l ze ({ frames := 1, cells := 0, slots := 0, locals := 24 }) s zm ([.ref (a 0), .int (iI b)] : List Value).toArray zb zt zc H locs (0 + 0) (0 + 0) (MQ zb (va_Qi (fun (r9 : Int32) (_ : Unit) => r9 = iI (mjC (thG g 0) b 5)) (fun _ t9 => (fun H => va_P D vwCl (mW a kk (mjG (thG g 0) b 5)) H) t9.heap) (aA 8 a)) ([.ref (a 0), .int (iI b)] : List Value).toArray s 0 0 (aA 8 a)) (F0 zm 27 ls []) := by
        intro n27
        induction n27 with
        | zero => intro n ac hn hac hm; exact absurd hm (Nat.not_lt_zero _)
        | succ n27 ih27 =>
          intro n ac hn hac hm27 H locs hP hS ls hl
          have hcr := mjC_r (thG g 0) b n
          have hM2 := MInv_mj (g := thG g 0) (b := b) hM (by omega) n hn
          refine lv_iload_n hx hb dX4_join_27 rfl (lv_at hl 3 rfl) ?_
          refine ri_iconst hx hb dX4_join_28 ?_
          refine ri_icmp_ge (tgt := 151) hx hb (by omega) dX4_join_29 (by decide) (fun h29 => ?_) (fun h29 => ?_)
          · skip
            refine lv_iload_n hx hb dX4_join_151 rfl (lv_at hl 2 rfl) ?_
            exact ri_iretW (A := (aA 8 a)) (PP := (fun H => va_P D vwCl (mW a kk (mjG (thG g 0) b 5)) H)) hx hb hr hlocks hS (by show va_P D vwCl (mW a kk (mjG (thG g 0) b 5)) _; rw [show n = 5 by omega] at hP; exact hP) dX4_join_152 (by rw [hac]; congr 1; omega)
          · skip
            refine ri_iconst hx hb dX4_join_32 ?_
            refine lv_iload_n hx hb dX4_join_33 rfl (lv_at hl 3 rfl) ?_
            refine ri_rd (ri_runS (As := [.int (iI 0), .int (iI (n : Int))]) (rest := []) CF (k_X4_placeOf l 0 (n : Int)) gX4_join_X4_placeOf f_X4_placeOf ⟨rfl, rfl, Nat.le_of_ble_eq_true rfl, Nat.le_of_ble_eq_true rfl, Nat.le_of_ble_eq_true rfl, Nat.le_of_ble_eq_true rfl⟩ tB_bl tB_in rfl hl.1 rfl (Nat.le_of_ble_eq_true rfl) dX4_join_34) ?_
            refine lv_istore (lv' := [(4, .int (iI (5 * 0 + (n : Int)))), (0, .ref (a 0)), (1, .int (iI b)), (2, .int (iI ac)), (3, .int (iI (n : Int)))]) hx hb dX4_join_37 hl (by decide) rfl (fun ls hl => ?_)
            refine lv_iload_n hx hb dX4_join_39 rfl (lv_at hl 2 rfl) ?_
            refine lv_iload_n hx hb dX4_join_40 rfl (lv_at hl 4 rfl) ?_
            refine ri_rd (ri_runS (As := [.int (iI b), .int (iI (n : Int))]) (rest := []) CF (k_X4_placeOf l b (n : Int)) gX4_join_X4_placeOf f_X4_placeOf ⟨rfl, rfl, Nat.le_of_ble_eq_true rfl, Nat.le_of_ble_eq_true rfl, Nat.le_of_ble_eq_true rfl, Nat.le_of_ble_eq_true rfl⟩ tB_bl tB_in rfl hl.1 rfl (Nat.le_of_ble_eq_true rfl) dX4_join_41) ?_
            refine lv_istore (lv' := [(5, .int (iI (5 * b + (n : Int)))), (4, .int (iI (5 * 0 + (n : Int)))), (0, .ref (a 0)), (1, .int (iI b)), (2, .int (iI ac)), (3, .int (iI (n : Int)))]) hx hb dX4_join_44 hl (by decide) rfl (fun ls hl => ?_)
            refine lv_iload_n hx hb dX4_join_46 rfl (lv_at hl 3 rfl) ?_
            refine lv_iload_n hx hb dX4_join_47 rfl (lv_at hl 5 rfl) ?_
            refine ri_rd (ri_runS (As := [.int (iI b), .int (iI (n : Int))]) (rest := []) CF (k_X4_baseOf l b (n : Int)) gX4_join_X4_baseOf f_X4_baseOf ⟨rfl, rfl, Nat.le_of_ble_eq_true rfl, Nat.le_of_ble_eq_true rfl, Nat.le_of_ble_eq_true rfl, Nat.le_of_ble_eq_true rfl⟩ tB_bl tB_in rfl hl.1 rfl (Nat.le_of_ble_eq_true rfl) dX4_join_48) ?_
            refine lv_istore (lv' := [(6, .int (iI (5 * (4 + b - 1) + (n : Int)))), (5, .int (iI (5 * b + (n : Int)))), (4, .int (iI (5 * 0 + (n : Int)))), (0, .ref (a 0)), (1, .int (iI b)), (2, .int (iI ac)), (3, .int (iI (n : Int)))]) hx hb dX4_join_51 hl (by decide) rfl (fun ls hl => ?_)
            refine lv_aload_n hx hb dX4_join_53 rfl (lv_at hl 3 rfl) ?_
            refine lv_iload hx hb dX4_join_54 (lv_at hl 1 rfl) ?_
            refine lv_iload hx hb dX4_join_56 (lv_at hl 0 rfl) ?_
            refine ri_rd (ri_runV (b := a 0) (As := [.int (iI (5 * b + (n : Int))), .int (iI (5 * (4 + b - 1) + (n : Int)))]) (rest := []) CF (k_X4_areSame l D a kk (mjG (thG g 0) b n) (5 * b + (n : Int)) (5 * (4 + b - 1) + (n : Int)) hM2 (by omega) (by omega)) gX4_join_X4_areSame f_X4_areSame rfl (va_recv hK hP (ci := 4) (q0 := 0) rfl rfl) ⟨rfl, rfl, Nat.le_of_ble_eq_true rfl, Nat.le_of_ble_eq_true rfl, Nat.le_of_ble_eq_true rfl, Nat.le_of_ble_eq_true rfl⟩ wB_bl (wB_in hP hK hN) rfl hl.1 rfl (Nat.le_of_ble_eq_true rfl) dX4_join_58) ?_
            refine ri_ifne_b (tgt := 68) hx hb dX4_join_61 (by decide) (fun h61 => ?_) (fun h61 => ?_)
            · skip
              refine ri_iconst hx hb dX4_join_68 ?_
              refine lv_istore (lv' := [(7, .int (iI 0)), (6, .int (iI (5 * (4 + b - 1) + (n : Int)))), (5, .int (iI (5 * b + (n : Int)))), (4, .int (iI (5 * 0 + (n : Int)))), (0, .ref (a 0)), (1, .int (iI b)), (2, .int (iI ac)), (3, .int (iI (n : Int)))]) hx hb dX4_join_69 hl (by decide) rfl (fun ls hl => ?_)
              refine lv_aload_n hx hb dX4_join_71 rfl (lv_at hl 4 rfl) ?_
              refine lv_iload hx hb dX4_join_72 (lv_at hl 3 rfl) ?_
              refine lv_iload hx hb dX4_join_74 (lv_at hl 1 rfl) ?_
              refine ri_rd (ri_runV (b := a 0) (As := [.int (iI (5 * 0 + (n : Int))), .int (iI (5 * (4 + b - 1) + (n : Int)))]) (rest := []) CF (k_X4_areSame l D a kk (mjG (thG g 0) b n) (5 * 0 + (n : Int)) (5 * (4 + b - 1) + (n : Int)) hM2 (by omega) (by omega)) gX4_join_X4_areSame f_X4_areSame rfl (va_recv hK hP (ci := 4) (q0 := 0) rfl rfl) ⟨rfl, rfl, Nat.le_of_ble_eq_true rfl, Nat.le_of_ble_eq_true rfl, Nat.le_of_ble_eq_true rfl, Nat.le_of_ble_eq_true rfl⟩ wB_bl (wB_in hP hK hN) rfl hl.1 rfl (Nat.le_of_ble_eq_true rfl) dX4_join_76) ?_
              refine lv_istore (lv' := [(8, .int (iI (bp (sameP ((mjG (thG g 0) b n) 2) ((mjG (thG g 0) b n) 3) (5 * 0 + (n : Int)) (5 * (4 + b - 1) + (n : Int)))))), (7, .int (iI 0)), (6, .int (iI (5 * (4 + b - 1) + (n : Int)))), (5, .int (iI (5 * b + (n : Int)))), (4, .int (iI (5 * 0 + (n : Int)))), (0, .ref (a 0)), (1, .int (iI b)), (2, .int (iI ac)), (3, .int (iI (n : Int)))]) hx hb dX4_join_79 hl (by decide) rfl (fun ls hl => ?_)
              refine lv_iload hx hb dX4_join_81 (lv_at hl 1 rfl) ?_
              refine ri_if_eq (tgt := 99) hx hb (by omega) dX4_join_83 (by decide) (fun c_3 => ?_) (fun c_3 => ?_)
              · skip
                refine lv_iload hx hb dX4_join_99 (lv_at hl 1 rfl) ?_
                refine ri_if_eq (tgt := 129) hx hb (by omega) dX4_join_101 (by decide) (fun c_4 => ?_) (fun c_4 => ?_)
                · skip
                  refine lv_aload_n hx hb dX4_join_129 rfl (lv_at hl 5 rfl) ?_
                  refine lv_iload hx hb dX4_join_130 (lv_at hl 4 rfl) ?_
                  refine lv_iload hx hb dX4_join_132 (lv_at hl 2 rfl) ?_
                  refine ri_wv (PP := fun H => va_P D vwCl (mW a kk (cpM (mjG (thG g 0) b n) (5 * 0 + (n : Int)) (5 * (4 + b - 1) + (n : Int)))) H) (ri_runV (b := a 0) (As := [.int (iI (5 * 0 + (n : Int))), .int (iI (5 * (4 + b - 1) + (n : Int)))]) (rest := []) CF (k_X4_copy l D a kk (mjG (thG g 0) b n) (5 * 0 + (n : Int)) (5 * (4 + b - 1) + (n : Int)) hA hM2 (by omega) (by omega)) gX4_join_X4_copy f_X4_copy rfl (va_recv hK hP (ci := 4) (q0 := 0) rfl rfl) ⟨rfl, rfl, Nat.le_of_ble_eq_true rfl, Nat.le_of_ble_eq_true rfl, Nat.le_of_ble_eq_true rfl, Nat.le_of_ble_eq_true rfl⟩ wB_bl (wB_in hP hK hN) rfl hl.1 rfl (Nat.le_of_ble_eq_true rfl) dX4_join_134) hS (fun _ h => h) (fun H locs hP _ hS => ?_)
                  replace hP : va_P D vwCl (mW a kk (cpM (mjG (thG g 0) b n) (5 * 0 + (n : Int)) (5 * (4 + b - 1) + (n : Int)))) H := hP
                  have hM4 := MInv_cp (fr := 5 * 0 + (n : Int)) (to := 5 * (4 + b - 1) + (n : Int)) hM2 (by omega) (by omega)
                  refine lv_aload_n hx hb dX4_join_137 rfl (lv_at hl 5 rfl) ?_
                  refine lv_iload hx hb dX4_join_138 (lv_at hl 4 rfl) ?_
                  refine lv_iload hx hb dX4_join_140 (lv_at hl 3 rfl) ?_
                  refine ri_wv (PP := fun H => va_P D vwCl (mW a kk (cpM (cpM (mjG (thG g 0) b n) (5 * 0 + (n : Int)) (5 * (4 + b - 1) + (n : Int))) (5 * 0 + (n : Int)) (5 * b + (n : Int)))) H) (ri_runV (b := a 0) (As := [.int (iI (5 * 0 + (n : Int))), .int (iI (5 * b + (n : Int)))]) (rest := []) CF (k_X4_copy l D a kk (cpM (mjG (thG g 0) b n) (5 * 0 + (n : Int)) (5 * (4 + b - 1) + (n : Int))) (5 * 0 + (n : Int)) (5 * b + (n : Int)) hA hM4 (by omega) (by omega)) gX4_join_X4_copy f_X4_copy rfl (va_recv hK hP (ci := 4) (q0 := 0) rfl rfl) ⟨rfl, rfl, Nat.le_of_ble_eq_true rfl, Nat.le_of_ble_eq_true rfl, Nat.le_of_ble_eq_true rfl, Nat.le_of_ble_eq_true rfl⟩ wB_bl (wB_in hP hK hN) rfl hl.1 rfl (Nat.le_of_ble_eq_true rfl) dX4_join_142) hS (fun _ h => h) (fun H locs hP _ hS => ?_)
                  replace hP : va_P D vwCl (mW a kk (cpM (cpM (mjG (thG g 0) b n) (5 * 0 + (n : Int)) (5 * (4 + b - 1) + (n : Int))) (5 * 0 + (n : Int)) (5 * b + (n : Int)))) H := hP
                  refine ri_iinc (lv' := [(3, .int (iI ((n : Int) + 1))), (8, .int (iI (bp (sameP ((mjG (thG g 0) b n) 2) ((mjG (thG g 0) b n) 3) (5 * 0 + (n : Int)) (5 * (4 + b - 1) + (n : Int)))))), (7, .int (iI 0)), (6, .int (iI (5 * (4 + b - 1) + (n : Int)))), (5, .int (iI (5 * b + (n : Int)))), (4, .int (iI (5 * 0 + (n : Int)))), (0, .ref (a 0)), (1, .int (iI b)), (2, .int (iI ac))]) hx hb dX4_join_145 hl (k := 8) rfl (by decide) rfl (fun ls hl => ?_)
                  refine lv_goto (tgt := 27) hx hb dX4_join_148 (by decide) ?_
                  exact ih27 (n + 1) (ac) (by omega) (by have e := (mj_same h61).2; rw [e, hac]) (by omega) _ _ (by have e := (mj_same h61).1; rw [e]; exact hP) hS ls (lv_sub hl [6, 7, 8, 0] rfl)
                · skip
                  exfalso; omega
              · skip
                exfalso; omega
            · skip
              refine ri_iconst hx hb dX4_join_64 ?_
              refine lv_goto (tgt := 69) hx hb dX4_join_65 (by decide) ?_
              refine lv_istore (lv' := [(7, .int (iI 1)), (6, .int (iI (5 * (4 + b - 1) + (n : Int)))), (5, .int (iI (5 * b + (n : Int)))), (4, .int (iI (5 * 0 + (n : Int)))), (0, .ref (a 0)), (1, .int (iI b)), (2, .int (iI ac)), (3, .int (iI (n : Int)))]) hx hb dX4_join_69 hl (by decide) rfl (fun ls hl => ?_)
              refine lv_aload_n hx hb dX4_join_71 rfl (lv_at hl 4 rfl) ?_
              refine lv_iload hx hb dX4_join_72 (lv_at hl 3 rfl) ?_
              refine lv_iload hx hb dX4_join_74 (lv_at hl 1 rfl) ?_
              refine ri_rd (ri_runV (b := a 0) (As := [.int (iI (5 * 0 + (n : Int))), .int (iI (5 * (4 + b - 1) + (n : Int)))]) (rest := []) CF (k_X4_areSame l D a kk (mjG (thG g 0) b n) (5 * 0 + (n : Int)) (5 * (4 + b - 1) + (n : Int)) hM2 (by omega) (by omega)) gX4_join_X4_areSame f_X4_areSame rfl (va_recv hK hP (ci := 4) (q0 := 0) rfl rfl) ⟨rfl, rfl, Nat.le_of_ble_eq_true rfl, Nat.le_of_ble_eq_true rfl, Nat.le_of_ble_eq_true rfl, Nat.le_of_ble_eq_true rfl⟩ wB_bl (wB_in hP hK hN) rfl hl.1 rfl (Nat.le_of_ble_eq_true rfl) dX4_join_76) ?_
              refine lv_istore (lv' := [(8, .int (iI (bp (sameP ((mjG (thG g 0) b n) 2) ((mjG (thG g 0) b n) 3) (5 * 0 + (n : Int)) (5 * (4 + b - 1) + (n : Int)))))), (7, .int (iI 1)), (6, .int (iI (5 * (4 + b - 1) + (n : Int)))), (5, .int (iI (5 * b + (n : Int)))), (4, .int (iI (5 * 0 + (n : Int)))), (0, .ref (a 0)), (1, .int (iI b)), (2, .int (iI ac)), (3, .int (iI (n : Int)))]) hx hb dX4_join_79 hl (by decide) rfl (fun ls hl => ?_)
              refine lv_iload hx hb dX4_join_81 (lv_at hl 1 rfl) ?_
              refine ri_if_eq (tgt := 99) hx hb (by omega) dX4_join_83 (by decide) (fun c_5 => ?_) (fun c_5 => ?_)
              · skip
                exfalso; omega
              · skip
                refine lv_iload hx hb dX4_join_86 (lv_at hl 0 rfl) ?_
                refine ri_ifeq_b (tgt := 99) hx hb dX4_join_88 (by decide) (fun h88 => ?_) (fun h88 => ?_)
                · skip
                  refine lv_iload hx hb dX4_join_99 (lv_at hl 1 rfl) ?_
                  refine ri_if_eq (tgt := 129) hx hb (by omega) dX4_join_101 (by decide) (fun c_6 => ?_) (fun c_6 => ?_)
                  · skip
                    exfalso; omega
                  · skip
                    refine lv_iload hx hb dX4_join_104 (lv_at hl 0 rfl) ?_
                    refine ri_ifne_b (tgt := 129) hx hb dX4_join_106 (by decide) (fun h106 => ?_) (fun h106 => ?_)
                    · skip
                      exact absurd h106 h88
                    · skip
                      refine lv_aload_n hx hb dX4_join_109 rfl (lv_at hl 5 rfl) ?_
                      refine lv_iload hx hb dX4_join_110 (lv_at hl 4 rfl) ?_
                      refine lv_iload hx hb dX4_join_112 (lv_at hl 3 rfl) ?_
                      refine ri_rd (ri_runV (b := a 0) (As := [.int (iI (5 * 0 + (n : Int))), .int (iI (5 * b + (n : Int)))]) (rest := []) CF (k_X4_areSame l D a kk (mjG (thG g 0) b n) (5 * 0 + (n : Int)) (5 * b + (n : Int)) hM2 (by omega) (by omega)) gX4_join_X4_areSame f_X4_areSame rfl (va_recv hK hP (ci := 4) (q0 := 0) rfl rfl) ⟨rfl, rfl, Nat.le_of_ble_eq_true rfl, Nat.le_of_ble_eq_true rfl, Nat.le_of_ble_eq_true rfl, Nat.le_of_ble_eq_true rfl⟩ wB_bl (wB_in hP hK hN) rfl hl.1 rfl (Nat.le_of_ble_eq_true rfl) dX4_join_114) ?_
                      refine ri_ifne_b (tgt := 129) hx hb dX4_join_117 (by decide) (fun h117 => ?_) (fun h117 => ?_)
                      · skip
                        refine lv_aload_n hx hb dX4_join_129 rfl (lv_at hl 5 rfl) ?_
                        refine lv_iload hx hb dX4_join_130 (lv_at hl 4 rfl) ?_
                        refine lv_iload hx hb dX4_join_132 (lv_at hl 2 rfl) ?_
                        refine ri_wv (PP := fun H => va_P D vwCl (mW a kk (cpM (mjG (thG g 0) b n) (5 * 0 + (n : Int)) (5 * (4 + b - 1) + (n : Int)))) H) (ri_runV (b := a 0) (As := [.int (iI (5 * 0 + (n : Int))), .int (iI (5 * (4 + b - 1) + (n : Int)))]) (rest := []) CF (k_X4_copy l D a kk (mjG (thG g 0) b n) (5 * 0 + (n : Int)) (5 * (4 + b - 1) + (n : Int)) hA hM2 (by omega) (by omega)) gX4_join_X4_copy f_X4_copy rfl (va_recv hK hP (ci := 4) (q0 := 0) rfl rfl) ⟨rfl, rfl, Nat.le_of_ble_eq_true rfl, Nat.le_of_ble_eq_true rfl, Nat.le_of_ble_eq_true rfl, Nat.le_of_ble_eq_true rfl⟩ wB_bl (wB_in hP hK hN) rfl hl.1 rfl (Nat.le_of_ble_eq_true rfl) dX4_join_134) hS (fun _ h => h) (fun H locs hP _ hS => ?_)
                        replace hP : va_P D vwCl (mW a kk (cpM (mjG (thG g 0) b n) (5 * 0 + (n : Int)) (5 * (4 + b - 1) + (n : Int)))) H := hP
                        have hM4 := MInv_cp (fr := 5 * 0 + (n : Int)) (to := 5 * (4 + b - 1) + (n : Int)) hM2 (by omega) (by omega)
                        refine lv_aload_n hx hb dX4_join_137 rfl (lv_at hl 5 rfl) ?_
                        refine lv_iload hx hb dX4_join_138 (lv_at hl 4 rfl) ?_
                        refine lv_iload hx hb dX4_join_140 (lv_at hl 3 rfl) ?_
                        refine ri_wv (PP := fun H => va_P D vwCl (mW a kk (cpM (cpM (mjG (thG g 0) b n) (5 * 0 + (n : Int)) (5 * (4 + b - 1) + (n : Int))) (5 * 0 + (n : Int)) (5 * b + (n : Int)))) H) (ri_runV (b := a 0) (As := [.int (iI (5 * 0 + (n : Int))), .int (iI (5 * b + (n : Int)))]) (rest := []) CF (k_X4_copy l D a kk (cpM (mjG (thG g 0) b n) (5 * 0 + (n : Int)) (5 * (4 + b - 1) + (n : Int))) (5 * 0 + (n : Int)) (5 * b + (n : Int)) hA hM4 (by omega) (by omega)) gX4_join_X4_copy f_X4_copy rfl (va_recv hK hP (ci := 4) (q0 := 0) rfl rfl) ⟨rfl, rfl, Nat.le_of_ble_eq_true rfl, Nat.le_of_ble_eq_true rfl, Nat.le_of_ble_eq_true rfl, Nat.le_of_ble_eq_true rfl⟩ wB_bl (wB_in hP hK hN) rfl hl.1 rfl (Nat.le_of_ble_eq_true rfl) dX4_join_142) hS (fun _ h => h) (fun H locs hP _ hS => ?_)
                        replace hP : va_P D vwCl (mW a kk (cpM (cpM (mjG (thG g 0) b n) (5 * 0 + (n : Int)) (5 * (4 + b - 1) + (n : Int))) (5 * 0 + (n : Int)) (5 * b + (n : Int)))) H := hP
                        refine ri_iinc (lv' := [(3, .int (iI ((n : Int) + 1))), (8, .int (iI (bp (sameP ((mjG (thG g 0) b n) 2) ((mjG (thG g 0) b n) 3) (5 * 0 + (n : Int)) (5 * (4 + b - 1) + (n : Int)))))), (7, .int (iI 1)), (6, .int (iI (5 * (4 + b - 1) + (n : Int)))), (5, .int (iI (5 * b + (n : Int)))), (4, .int (iI (5 * 0 + (n : Int)))), (0, .ref (a 0)), (1, .int (iI b)), (2, .int (iI ac))]) hx hb dX4_join_145 hl (k := 8) rfl (by decide) rfl (fun ls hl => ?_)
                        refine lv_goto (tgt := 27) hx hb dX4_join_148 (by decide) ?_
                        exact ih27 (n + 1) (ac) (by omega) (by have e := (mj_ok h88 h117).2; rw [e, hac]) (by omega) _ _ (by have e := (mj_ok h88 h117).1; rw [e]; exact hP) hS ls (lv_sub hl [6, 7, 8, 0] rfl)
                      · skip
                        refine lv_iload_n hx hb dX4_join_120 rfl (lv_at hl 7 rfl) ?_
                        refine ri_iconst hx hb dX4_join_121 ?_
                        refine lv_iload_n hx hb dX4_join_122 rfl (lv_at hl 8 rfl) ?_
                        refine lv_ishl hx hb dX4_join_123 ?_
                        refine ri_rw (y := p2 (n : Int)) (sh_1 (by omega)) ?_
                        refine lv_ior hx hb dX4_join_124 ?_
                        refine ri_rw (y := ac + p2 (n : Int)) (or_p (by omega) (by omega)) ?_
                        refine lv_istore_n (lv' := [(2, .int (iI (ac + p2 (n : Int)))), (8, .int (iI (bp (sameP ((mjG (thG g 0) b n) 2) ((mjG (thG g 0) b n) 3) (5 * 0 + (n : Int)) (5 * (4 + b - 1) + (n : Int)))))), (7, .int (iI 1)), (6, .int (iI (5 * (4 + b - 1) + (n : Int)))), (5, .int (iI (5 * b + (n : Int)))), (4, .int (iI (5 * 0 + (n : Int)))), (0, .ref (a 0)), (1, .int (iI b)), (3, .int (iI (n : Int)))]) hx hb dX4_join_125 rfl hl (by decide) rfl (fun ls hl => ?_)
                        refine lv_goto (tgt := 145) hx hb dX4_join_126 (by decide) ?_
                        refine ri_iinc (lv' := [(3, .int (iI ((n : Int) + 1))), (2, .int (iI (ac + p2 (n : Int)))), (8, .int (iI (bp (sameP ((mjG (thG g 0) b n) 2) ((mjG (thG g 0) b n) 3) (5 * 0 + (n : Int)) (5 * (4 + b - 1) + (n : Int)))))), (7, .int (iI 1)), (6, .int (iI (5 * (4 + b - 1) + (n : Int)))), (5, .int (iI (5 * b + (n : Int)))), (4, .int (iI (5 * 0 + (n : Int)))), (0, .ref (a 0)), (1, .int (iI b))]) hx hb dX4_join_145 hl (k := 8) rfl (by decide) rfl (fun ls hl => ?_)
                        refine lv_goto (tgt := 27) hx hb dX4_join_148 (by decide) ?_
                        exact ih27 (n + 1) (ac + p2 (n : Int)) (by omega) (by have e := (mj_cl h61 h88 h117).2; rw [e, hac]) (by omega) _ _ (by have e := (mj_cl h61 h88 h117).1; rw [e]; exact hP) hS ls (lv_sub hl [7, 8, 1, 0] rfl)
                · skip
                  refine lv_aload_n hx hb dX4_join_91 rfl (lv_at hl 5 rfl) ?_
                  refine lv_iload hx hb dX4_join_92 (lv_at hl 3 rfl) ?_
                  refine lv_iload hx hb dX4_join_94 (lv_at hl 4 rfl) ?_
                  refine ri_wv (PP := fun H => va_P D vwCl (mW a kk (cpM (mjG (thG g 0) b n) (5 * b + (n : Int)) (5 * 0 + (n : Int)))) H) (ri_runV (b := a 0) (As := [.int (iI (5 * b + (n : Int))), .int (iI (5 * 0 + (n : Int)))]) (rest := []) CF (k_X4_copy l D a kk (mjG (thG g 0) b n) (5 * b + (n : Int)) (5 * 0 + (n : Int)) hA hM2 (by omega) (by omega)) gX4_join_X4_copy f_X4_copy rfl (va_recv hK hP (ci := 4) (q0 := 0) rfl rfl) ⟨rfl, rfl, Nat.le_of_ble_eq_true rfl, Nat.le_of_ble_eq_true rfl, Nat.le_of_ble_eq_true rfl, Nat.le_of_ble_eq_true rfl⟩ wB_bl (wB_in hP hK hN) rfl hl.1 rfl (Nat.le_of_ble_eq_true rfl) dX4_join_96) hS (fun _ h => h) (fun H locs hP _ hS => ?_)
                  replace hP : va_P D vwCl (mW a kk (cpM (mjG (thG g 0) b n) (5 * b + (n : Int)) (5 * 0 + (n : Int)))) H := hP
                  have hM3 := MInv_cp (fr := 5 * b + (n : Int)) (to := 5 * 0 + (n : Int)) hM2 (by omega) (by omega)
                  refine lv_iload hx hb dX4_join_99 (lv_at hl 1 rfl) ?_
                  refine ri_if_eq (tgt := 129) hx hb (by omega) dX4_join_101 (by decide) (fun c_7 => ?_) (fun c_7 => ?_)
                  · skip
                    exfalso; omega
                  · skip
                    refine lv_iload hx hb dX4_join_104 (lv_at hl 0 rfl) ?_
                    refine ri_ifne_b (tgt := 129) hx hb dX4_join_106 (by decide) (fun h106 => ?_) (fun h106 => ?_)
                    · skip
                      refine lv_aload_n hx hb dX4_join_129 rfl (lv_at hl 5 rfl) ?_
                      refine lv_iload hx hb dX4_join_130 (lv_at hl 4 rfl) ?_
                      refine lv_iload hx hb dX4_join_132 (lv_at hl 2 rfl) ?_
                      refine ri_wv (PP := fun H => va_P D vwCl (mW a kk (cpM (cpM (mjG (thG g 0) b n) (5 * b + (n : Int)) (5 * 0 + (n : Int))) (5 * 0 + (n : Int)) (5 * (4 + b - 1) + (n : Int)))) H) (ri_runV (b := a 0) (As := [.int (iI (5 * 0 + (n : Int))), .int (iI (5 * (4 + b - 1) + (n : Int)))]) (rest := []) CF (k_X4_copy l D a kk (cpM (mjG (thG g 0) b n) (5 * b + (n : Int)) (5 * 0 + (n : Int))) (5 * 0 + (n : Int)) (5 * (4 + b - 1) + (n : Int)) hA hM3 (by omega) (by omega)) gX4_join_X4_copy f_X4_copy rfl (va_recv hK hP (ci := 4) (q0 := 0) rfl rfl) ⟨rfl, rfl, Nat.le_of_ble_eq_true rfl, Nat.le_of_ble_eq_true rfl, Nat.le_of_ble_eq_true rfl, Nat.le_of_ble_eq_true rfl⟩ wB_bl (wB_in hP hK hN) rfl hl.1 rfl (Nat.le_of_ble_eq_true rfl) dX4_join_134) hS (fun _ h => h) (fun H locs hP _ hS => ?_)
                      replace hP : va_P D vwCl (mW a kk (cpM (cpM (mjG (thG g 0) b n) (5 * b + (n : Int)) (5 * 0 + (n : Int))) (5 * 0 + (n : Int)) (5 * (4 + b - 1) + (n : Int)))) H := hP
                      have hM4 := MInv_cp (fr := 5 * 0 + (n : Int)) (to := 5 * (4 + b - 1) + (n : Int)) hM3 (by omega) (by omega)
                      refine lv_aload_n hx hb dX4_join_137 rfl (lv_at hl 5 rfl) ?_
                      refine lv_iload hx hb dX4_join_138 (lv_at hl 4 rfl) ?_
                      refine lv_iload hx hb dX4_join_140 (lv_at hl 3 rfl) ?_
                      refine ri_wv (PP := fun H => va_P D vwCl (mW a kk (cpM (cpM (cpM (mjG (thG g 0) b n) (5 * b + (n : Int)) (5 * 0 + (n : Int))) (5 * 0 + (n : Int)) (5 * (4 + b - 1) + (n : Int))) (5 * 0 + (n : Int)) (5 * b + (n : Int)))) H) (ri_runV (b := a 0) (As := [.int (iI (5 * 0 + (n : Int))), .int (iI (5 * b + (n : Int)))]) (rest := []) CF (k_X4_copy l D a kk (cpM (cpM (mjG (thG g 0) b n) (5 * b + (n : Int)) (5 * 0 + (n : Int))) (5 * 0 + (n : Int)) (5 * (4 + b - 1) + (n : Int))) (5 * 0 + (n : Int)) (5 * b + (n : Int)) hA hM4 (by omega) (by omega)) gX4_join_X4_copy f_X4_copy rfl (va_recv hK hP (ci := 4) (q0 := 0) rfl rfl) ⟨rfl, rfl, Nat.le_of_ble_eq_true rfl, Nat.le_of_ble_eq_true rfl, Nat.le_of_ble_eq_true rfl, Nat.le_of_ble_eq_true rfl⟩ wB_bl (wB_in hP hK hN) rfl hl.1 rfl (Nat.le_of_ble_eq_true rfl) dX4_join_142) hS (fun _ h => h) (fun H locs hP _ hS => ?_)
                      replace hP : va_P D vwCl (mW a kk (cpM (cpM (cpM (mjG (thG g 0) b n) (5 * b + (n : Int)) (5 * 0 + (n : Int))) (5 * 0 + (n : Int)) (5 * (4 + b - 1) + (n : Int))) (5 * 0 + (n : Int)) (5 * b + (n : Int)))) H := hP
                      refine ri_iinc (lv' := [(3, .int (iI ((n : Int) + 1))), (8, .int (iI (bp (sameP ((mjG (thG g 0) b n) 2) ((mjG (thG g 0) b n) 3) (5 * 0 + (n : Int)) (5 * (4 + b - 1) + (n : Int)))))), (7, .int (iI 1)), (6, .int (iI (5 * (4 + b - 1) + (n : Int)))), (5, .int (iI (5 * b + (n : Int)))), (4, .int (iI (5 * 0 + (n : Int)))), (0, .ref (a 0)), (1, .int (iI b)), (2, .int (iI ac))]) hx hb dX4_join_145 hl (k := 8) rfl (by decide) rfl (fun ls hl => ?_)
                      refine lv_goto (tgt := 27) hx hb dX4_join_148 (by decide) ?_
                      exact ih27 (n + 1) (ac) (by omega) (by have e := (mj_free h61 h88).2; rw [e, hac]) (by omega) _ _ (by have e := (mj_free h61 h88).1; rw [e]; exact hP) hS ls (lv_sub hl [6, 7, 8, 0] rfl)
                    · skip
                      exact absurd h88 h106
      exact L27 6 (0) (0) (by omega) (rfl) (by decide) _ _ hP hS ls (lv_sub hl [2, 3, 1, 0] rfl)
    · skip
      exfalso; omega

set_option maxHeartbeats 4000000 in
set_option maxRecDepth 100000 in
theorem k_X4_join_no (l : Launch) (D : va_G) (a : Nat → Nat) (kk : Nat → ClassId) (g : Nat → Nat → Int) (b : Int) (hA : aDs 8 a) (hM : MInv g) (yb : -2147483648 ≤ b ∧ b < 2147483648) (hok : ¬ (1 ≤ b ∧ b ≤ 3)) : WI l yX4_join wsX4_join ({ frames := 1, cells := 0, slots := 0, locals := 22 }) [.ref (a 0), .int (iI b)] (wB D kk (mW a kk g)) (0) (fun H => va_P D vwCl (mW a kk (thG g 1)) H) (aA 8 a) 0 0 := by
  refine ri_ent (cc := cX4_join) (maxL := 9) (ret := some .int) (by decide) rfl (Nat.le_of_ble_eq_true rfl) ?_
  intro zp ze s zm zb zt zc hx hb hr hts hown hlocks hml hin hB ls hl
  have hown : s.vm.findClass RX4 = some zm.cls := hown
  have CF : CallFix zp zm zc cX4_join 9 s ([.ref (a 0), .int (iI b)] : List Value).toArray wsX4_join RX4 := ⟨hx, hb, hml, hown, hts⟩
  obtain ⟨hP, hK, hN⟩ := hB
  have hS : va_S (aA 8 a) s.heap s.heap [] := va_S.rf
  have hl : lv_has ls 9 [(0, .ref (a 0)), (1, .int (iI b))] := hl
  refine lv_aload_n hx hb dX4_join_0 rfl (lv_at hl 0 rfl) ?_
  refine lv_iload_n hx hb dX4_join_1 rfl (lv_at hl 1 rfl) ?_
  refine ri_iconst hx hb dX4_join_2 ?_
  refine ri_iconst hx hb dX4_join_3 ?_
  refine ri_rd (ri_runS (As := [.int (iI b), .int (iI 1), .int (iI 3)]) (rest := [.ref (a 0)]) CF (k_X4_in l b 1 3 (by omega) (by omega) (by omega)) gX4_join_X4_in f_X4_in ⟨rfl, rfl, Nat.le_of_ble_eq_true rfl, Nat.le_of_ble_eq_true rfl, Nat.le_of_ble_eq_true rfl, Nat.le_of_ble_eq_true rfl⟩ tB_bl tB_in rfl hl.1 rfl (Nat.le_of_ble_eq_true rfl) dX4_join_4) ?_
  refine ri_ifeq_b (tgt := 14) hx hb dX4_join_7 (by decide) (fun c_1 => ?_) (fun c_1 => ?_)
  · skip
    refine ri_iconst hx hb dX4_join_14 ?_
    refine ri_wi (v := bp (1 = 0)) (PP := fun H => va_P D vwCl (mW a kk (thG g 1)) H) (ri_runV (b := a 0) (As := [.int (iI 1)]) (rest := []) CF (k_X4_goesWell l D a kk g 1 hA (by omega)) gX4_join_X4_goesWell f_X4_goesWell rfl (va_recv hK hP (ci := 4) (q0 := 0) rfl rfl) ⟨rfl, rfl, Nat.le_of_ble_eq_true rfl, Nat.le_of_ble_eq_true rfl, Nat.le_of_ble_eq_true rfl, Nat.le_of_ble_eq_true rfl⟩ wB_bl (wB_in hP hK hN) rfl hl.1 rfl (Nat.le_of_ble_eq_true rfl) dX4_join_15) hS (fun _ h => h) (fun H locs hP _ hS => ?_)
    replace hP : va_P D vwCl (mW a kk (thG g 1)) H := hP
    refine ri_ifne_b (tgt := 23) hx hb dX4_join_18 (by decide) (fun c_2 => ?_) (fun c_2 => ?_)
    · skip
      exfalso; omega
    · skip
      refine ri_iconst hx hb dX4_join_21 ?_
      exact ri_iretW (A := (aA 8 a)) (PP := (fun H => va_P D vwCl (mW a kk (thG g 1)) H)) hx hb hr hlocks hS (hP) dX4_join_22 (rfl)
  · skip
    exfalso; omega

theorem f_X4_paint : MF yX4_paint wsX4_paint cX4_paint 10 (some .int) 6 := ⟨⟨_, rfl⟩, by decide +kernel, by decide +kernel, by decide +kernel⟩
set_option maxHeartbeats 4000000 in
set_option maxRecDepth 100000 in
theorem k_X4_paint_ok (l : Launch) (D : va_G) (a : Nat → Nat) (kk : Nat → ClassId) (g : Nat → Nat → Int) (t : Int) (c : Int) (r : Int) (w : Int) (h : Int) (sh : Int) (hA : aDs 8 a) (hM : MInv g) (yt : -2147483648 ≤ t ∧ t < 2147483648) (yc : -2147483648 ≤ c ∧ c < 2147483648) (yr : -2147483648 ≤ r ∧ r < 2147483648) (yw : -2147483648 ≤ w ∧ w < 2147483648) (yh : -2147483648 ≤ h ∧ h < 2147483648) (ysh : -2147483648 ≤ sh ∧ sh < 2147483648) (hok : (0 ≤ t ∧ t ≤ 4) ∧ (((0 ≤ c ∧ c ≤ 7) ∧ (0 ≤ r ∧ r ≤ 7)) ∧ (1 ≤ w ∧ w ≤ 8 - c) ∧ (1 ≤ h ∧ h ≤ 8 - r)) ∧ (0 ≤ sh ∧ sh ≤ 255)) : WI l yX4_paint wsX4_paint ({ frames := 3, cells := 0, slots := 0, locals := 66 }) [.ref (a 0), .int (iI t), .int (iI c), .int (iI r), .int (iI w), .int (iI h), .int (iI sh)] (wB D kk (mW a kk g)) ((pst (g 1) t c r w sh (w * h).toNat).2) (fun H => va_P D vwCl (mW a kk (updG (thG g 0) 1 (pst (g 1) t c r w sh (w * h).toNat).1)) H) (aA 8 a) 0 0 := by
  refine ri_ent (cc := cX4_paint) (maxL := 10) (ret := some .int) (by decide) rfl (Nat.le_of_ble_eq_true rfl) ?_
  intro zp ze s zm zb zt zc hx hb hr hts hown hlocks hml hin hB ls hl
  have hown : s.vm.findClass RX4 = some zm.cls := hown
  have CF : CallFix zp zm zc cX4_paint 10 s ([.ref (a 0), .int (iI t), .int (iI c), .int (iI r), .int (iI w), .int (iI h), .int (iI sh)] : List Value).toArray wsX4_paint RX4 := ⟨hx, hb, hml, hown, hts⟩
  obtain ⟨hP, hK, hN⟩ := hB
  have hinX4 : ∀ w ∈ wsX40, w ∈ wsX4_paint := (fun _ h => List.mem_cons_of_mem _ (List.mem_append_right _ h))
  have hS : va_S (aA 8 a) s.heap s.heap [] := va_S.rf
  have hl : lv_has ls 10 [(0, .ref (a 0)), (1, .int (iI t)), (2, .int (iI c)), (3, .int (iI r)), (4, .int (iI w)), (5, .int (iI h)), (6, .int (iI sh))] := hl
  obtain ⟨o1, o2, o3⟩ := id hok
  refine lv_aload_n hx hb dX4_paint_0 rfl (lv_at hl 0 rfl) ?_
  refine lv_iload_n hx hb dX4_paint_1 rfl (lv_at hl 1 rfl) ?_
  refine ri_rd (ri_runS (As := [.int (iI t)]) (rest := [.ref (a 0)]) CF (k_X4_isTest l t (by omega)) gX4_paint_X4_isTest f_X4_isTest ⟨rfl, rfl, Nat.le_of_ble_eq_true rfl, Nat.le_of_ble_eq_true rfl, Nat.le_of_ble_eq_true rfl, Nat.le_of_ble_eq_true rfl⟩ tB_bl tB_in rfl hl.1 rfl (Nat.le_of_ble_eq_true rfl) dX4_paint_2) ?_
  refine ri_ifeq_b (tgt := 36) hx hb dX4_paint_5 (by decide) (fun c_1 => ?_) (fun c_1 => ?_)
  · skip
    exfalso; omega
  · skip
    refine lv_iload_n hx hb dX4_paint_8 rfl (lv_at hl 2 rfl) ?_
    refine lv_iload_n hx hb dX4_paint_9 rfl (lv_at hl 3 rfl) ?_
    refine lv_iload hx hb dX4_paint_10 (lv_at hl 4 rfl) ?_
    refine lv_iload hx hb dX4_paint_12 (lv_at hl 5 rfl) ?_
    refine ri_rd (ri_runS (As := [.int (iI c), .int (iI r), .int (iI w), .int (iI h)]) (rest := [.ref (a 0)]) CF (k_X4_isBox l c r w h (by omega) (by omega) (by omega) (by omega)) gX4_paint_X4_isBox f_X4_isBox ⟨rfl, rfl, Nat.le_of_ble_eq_true rfl, Nat.le_of_ble_eq_true rfl, Nat.le_of_ble_eq_true rfl, Nat.le_of_ble_eq_true rfl⟩ tB_bl tB_in rfl hl.1 rfl (Nat.le_of_ble_eq_true rfl) dX4_paint_14) ?_
    refine ri_ifeq_b (tgt := 36) hx hb dX4_paint_17 (by decide) (fun c_2 => ?_) (fun c_2 => ?_)
    · skip
      exfalso; omega
    · skip
      refine lv_iload hx hb dX4_paint_20 (lv_at hl 6 rfl) ?_
      refine ri_iconst hx hb dX4_paint_22 ?_
      refine ri_sipush hx hb dX4_paint_23 (by decide) ?_
      refine ri_rd (ri_runS (As := [.int (iI sh), .int (iI 0), .int (iI 255)]) (rest := [.ref (a 0)]) CF (k_X4_in l sh 0 255 (by omega) (by omega) (by omega)) gX4_paint_X4_in f_X4_in ⟨rfl, rfl, Nat.le_of_ble_eq_true rfl, Nat.le_of_ble_eq_true rfl, Nat.le_of_ble_eq_true rfl, Nat.le_of_ble_eq_true rfl⟩ tB_bl tB_in rfl hl.1 rfl (Nat.le_of_ble_eq_true rfl) dX4_paint_26) ?_
      refine ri_ifeq_b (tgt := 36) hx hb dX4_paint_29 (by decide) (fun c_3 => ?_) (fun c_3 => ?_)
      · skip
        exfalso; omega
      · skip
        refine ri_iconst hx hb dX4_paint_32 ?_
        refine lv_goto (tgt := 37) hx hb dX4_paint_33 (by decide) ?_
        refine ri_wi (v := bp (0 = 0)) (PP := fun H => va_P D vwCl (mW a kk (thG g 0)) H) (ri_runV (b := a 0) (As := [.int (iI 0)]) (rest := []) CF (k_X4_goesWell l D a kk g 0 hA (by omega)) gX4_paint_X4_goesWell f_X4_goesWell rfl (va_recv hK hP (ci := 4) (q0 := 0) rfl rfl) ⟨rfl, rfl, Nat.le_of_ble_eq_true rfl, Nat.le_of_ble_eq_true rfl, Nat.le_of_ble_eq_true rfl, Nat.le_of_ble_eq_true rfl⟩ wB_bl (wB_in hP hK hN) rfl hl.1 rfl (Nat.le_of_ble_eq_true rfl) dX4_paint_37) hS (fun _ h => h) (fun H locs hP _ hS => ?_)
        replace hP : va_P D vwCl (mW a kk (thG g 0)) H := hP
        refine ri_ifne_b (tgt := 45) hx hb dX4_paint_40 (by decide) (fun c_4 => ?_) (fun c_4 => ?_)
        · skip
          refine ri_iconst hx hb dX4_paint_45 ?_
          refine lv_istore (lv' := [(7, .int (iI 0)), (0, .ref (a 0)), (1, .int (iI t)), (2, .int (iI c)), (3, .int (iI r)), (4, .int (iI w)), (5, .int (iI h)), (6, .int (iI sh))]) hx hb dX4_paint_46 hl (by decide) rfl (fun ls hl => ?_)
          refine ri_iconst hx hb dX4_paint_48 ?_
          refine lv_istore (lv' := [(8, .int (iI 0)), (7, .int (iI 0)), (0, .ref (a 0)), (1, .int (iI t)), (2, .int (iI c)), (3, .int (iI r)), (4, .int (iI w)), (5, .int (iI h)), (6, .int (iI sh))]) hx hb dX4_paint_49 hl (by decide) rfl (fun ls hl => ?_)
          have L51 : ∀ (n51 : Nat) (k : Nat) (cn : Int), ((k : Int) ≤ w * h) → (cn = (pst (g 1) t c r w sh k).2) → (65 - k < n51) → ∀ (H : Heap) (locs : List Loc), va_P D vwCl (mW a kk (updG (thG g 0) 1 (pst (g 1) t c r w sh k).1)) H → va_S (aA 8 a) s.heap H locs → ∀ (ls : Array Slot), lv_has ls 10 [(0, .ref (a 0)), (1, .int (iI t)), (2, .int (iI c)), (3, .int (iI r)), (4, .int (iI w)), (5, .int (iI h)), (6, .int (iI sh)), (7, .int (iI cn)), (8, .int (iI (k : Int)))] → W zp l ze ({ frames := 3, cells := 0, slots := 0, locals := 66 }) s zm ([.ref (a 0), .int (iI t), .int (iI c), .int (iI r), .int (iI w), .int (iI h), .int (iI sh)] : List Value).toArray zb zt zc H locs (0 + 0) (0 + 0) (MQ zb (va_Qi (fun (r9 : Int32) (_ : Unit) => r9 = iI ((pst (g 1) t c r w sh (w * h).toNat).2)) (fun _ t9 => (fun H => va_P D vwCl (mW a kk (updG (thG g 0) 1 (pst (g 1) t c r w sh (w * h).toNat).1)) H) t9.heap) (aA 8 a)) ([.ref (a 0), .int (iI t), .int (iI c), .int (iI r), .int (iI w), .int (iI h), .int (iI sh)] : List Value).toArray s 0 0 (aA 8 a)) (F0 zm 51 ls []) := by
            intro n51
            induction n51 with
            | zero => intro k cn hk hcn hm; exact absurd hm (Nat.not_lt_zero _)
            | succ n51 ih51 =>
              intro k cn hk hcn hm51 H locs hP hS ls hl
              have hwh := mul88 (w := w) (h := h) (by omega) (by omega)
              have hpb := pst_bN (N := 320) (f := g 1) (t := t) (c := c) (r := r) (w := w) (sh := sh) hM.1 (by omega) k
              refine lv_iload hx hb dX4_paint_51 (lv_at hl 8 rfl) ?_
              refine lv_iload hx hb dX4_paint_53 (lv_at hl 4 rfl) ?_
              refine lv_iload hx hb dX4_paint_55 (lv_at hl 5 rfl) ?_
              refine ri_imul hx hb dX4_paint_57 ?_
              refine ri_icmp_ge (tgt := 123) hx hb (by omega) dX4_paint_58 (by decide) (fun h58 => ?_) (fun h58 => ?_)
              · skip
                refine lv_iload hx hb dX4_paint_123 (lv_at hl 7 rfl) ?_
                exact ri_iretW (A := (aA 8 a)) (PP := (fun H => va_P D vwCl (mW a kk (updG (thG g 0) 1 (pst (g 1) t c r w sh (w * h).toNat).1)) H)) hx hb hr hlocks hS (by show va_P D vwCl (mW a kk (updG (thG g 0) 1 (pst (g 1) t c r w sh (w * h).toNat).1)) _; rw [show k = (w * h).toNat by omega] at hP; exact hP) dX4_paint_125 (by rw [hcn, show k = (w * h).toNat by omega])
              · skip
                have hkd := kdiv (k := (k : Int)) (by omega) h58 (by omega)
                refine ri_bipush hx hb dX4_paint_61 (by decide) ?_
                refine lv_iload_n hx hb dX4_paint_63 rfl (lv_at hl 1 rfl) ?_
                refine ri_imul hx hb dX4_paint_64 ?_
                refine ri_bipush hx hb dX4_paint_65 (by decide) ?_
                refine lv_iload_n hx hb dX4_paint_67 rfl (lv_at hl 3 rfl) ?_
                refine lv_iload hx hb dX4_paint_68 (lv_at hl 8 rfl) ?_
                refine lv_iload hx hb dX4_paint_70 (lv_at hl 4 rfl) ?_
                refine ri_idiv hx hb (by omega) dX4_paint_72 ?_
                refine ri_iadd hx hb dX4_paint_73 ?_
                refine ri_imul hx hb dX4_paint_74 ?_
                refine ri_iadd hx hb dX4_paint_75 ?_
                refine lv_iload_n hx hb dX4_paint_76 rfl (lv_at hl 2 rfl) ?_
                refine ri_iadd hx hb dX4_paint_77 ?_
                refine lv_iload hx hb dX4_paint_78 (lv_at hl 8 rfl) ?_
                refine lv_iload hx hb dX4_paint_80 (lv_at hl 4 rfl) ?_
                refine ri_irem hx hb (by omega) dX4_paint_82 ?_
                refine ri_iadd hx hb dX4_paint_83 ?_
                refine lv_istore (lv' := [(9, .int (iI ((((64 * t) + (8 * (r + ((k : Int) / w)))) + c) + ((k : Int) % w)))), (0, .ref (a 0)), (1, .int (iI t)), (2, .int (iI c)), (3, .int (iI r)), (4, .int (iI w)), (5, .int (iI h)), (6, .int (iI sh)), (7, .int (iI cn)), (8, .int (iI (k : Int)))]) hx hb dX4_paint_84 hl (by decide) rfl (fun ls hl => ?_)
                refine lv_iload hx hb dX4_paint_86 (lv_at hl 8 rfl) ?_
                refine lv_aload_n hx hb dX4_paint_88 rfl (lv_at hl 1 rfl) ?_
                refine va_get (D := D) (ci := 4) (v := .ref (a 1)) (C := RX4) (T := TX4) (N := 10) hx hb hts hinX4 hown hK hP 0 rfl rfl 1 (by decide) (hts _ (List.mem_of_getElem? (i := 1) rfl)) (fun _ h9 => h9) rfl dX4_paint_89 ?_
                refine lv_iload hx hb dX4_paint_92 (lv_at hl 0 rfl) ?_
                refine ri_iald hx hb hK hP 1 0 rfl rfl (by omega) (by decide) dX4_paint_94 ?_
                have hpv := hpb (t * 64 + (r + (k : Int) / w) * 8 + (c + (k : Int) % w)).toNat (by omega)
                refine ri_eq (y := (pst (g 1) t c r w sh k).1 (t * 64 + (r + (k : Int) / w) * 8 + (c + (k : Int) % w)).toNat) (by show (pst (g 1) t c r w sh k).1 _ = (pst (g 1) t c r w sh k).1 _; exact congrArg (pst (g 1) t c r w sh k).1 (by omega)) ?_
                refine lv_iload hx hb dX4_paint_95 (lv_at hl 7 rfl) ?_
                refine ri_icmp_ne (tgt := 104) hx hb (by omega) dX4_paint_97 (by decide) (fun h97 => ?_) (fun h97 => ?_)
                · skip
                  refine ri_iconst hx hb dX4_paint_104 ?_
                  refine ri_iadd hx hb dX4_paint_105 ?_
                  refine lv_istore (lv' := [(7, .int (iI (cn + 1))), (9, .int (iI ((((64 * t) + (8 * (r + ((k : Int) / w)))) + c) + ((k : Int) % w)))), (0, .ref (a 0)), (1, .int (iI t)), (2, .int (iI c)), (3, .int (iI r)), (4, .int (iI w)), (5, .int (iI h)), (6, .int (iI sh)), (8, .int (iI (k : Int)))]) hx hb dX4_paint_106 hl (by decide) rfl (fun ls hl => ?_)
                  refine lv_aload_n hx hb dX4_paint_108 rfl (lv_at hl 2 rfl) ?_
                  refine va_get (D := D) (ci := 4) (v := .ref (a 1)) (C := RX4) (T := TX4) (N := 10) hx hb hts hinX4 hown hK hP 0 rfl rfl 1 (by decide) (hts _ (List.mem_of_getElem? (i := 1) rfl)) (fun _ h9 => h9) rfl dX4_paint_109 ?_
                  refine lv_iload hx hb dX4_paint_112 (lv_at hl 1 rfl) ?_
                  refine lv_iload hx hb dX4_paint_114 (lv_at hl 8 rfl) ?_
                  refine ri_iast hx hb hK hP (mD hA) hS 1 0 rfl rfl (by omega) (by decide) dX4_paint_116 (fun H locs hP hS => ?_)
                  replace hP := mS.1 hP
                  replace hP : va_P D vwCl (mW a kk (updG (thG g 0) 1 (pst (g 1) t c r w sh (k + 1)).1)) H := by
                    rw [updG_uu, show ((((64 * t) + (8 * (r + ((k : Int) / w)))) + c) + ((k : Int) % w)).toNat = (t * 64 + (r + (k : Int) / w) * 8 + (c + (k : Int) % w)).toNat by congr 1; omega] at hP
                    exact hP
                  refine ri_iinc (lv' := [(8, .int (iI ((k : Int) + 1))), (7, .int (iI (cn + 1))), (9, .int (iI ((((64 * t) + (8 * (r + ((k : Int) / w)))) + c) + ((k : Int) % w)))), (0, .ref (a 0)), (1, .int (iI t)), (2, .int (iI c)), (3, .int (iI r)), (4, .int (iI w)), (5, .int (iI h)), (6, .int (iI sh))]) hx hb dX4_paint_117 hl (k := 9) rfl (by decide) rfl (fun ls hl => ?_)
                  refine lv_goto (tgt := 51) hx hb dX4_paint_120 (by decide) ?_
                  exact ih51 (k + 1) (cn + 1) (by omega) (by show cn + 1 = (pst (g 1) t c r w sh k).2 + bp (¬ (pst (g 1) t c r w sh k).1 (t * 64 + (r + (k : Int) / w) * 8 + (c + (k : Int) % w)).toNat = sh); rw [bp_t h97, hcn]) (by omega) _ _ (hP) hS ls (lv_sub hl [3, 4, 5, 6, 7, 8, 9, 1, 0] rfl)
                · skip
                  refine ri_iconst hx hb dX4_paint_100 ?_
                  refine lv_goto (tgt := 105) hx hb dX4_paint_101 (by decide) ?_
                  refine ri_iadd hx hb dX4_paint_105 ?_
                  refine lv_istore (lv' := [(7, .int (iI (cn + 0))), (9, .int (iI ((((64 * t) + (8 * (r + ((k : Int) / w)))) + c) + ((k : Int) % w)))), (0, .ref (a 0)), (1, .int (iI t)), (2, .int (iI c)), (3, .int (iI r)), (4, .int (iI w)), (5, .int (iI h)), (6, .int (iI sh)), (8, .int (iI (k : Int)))]) hx hb dX4_paint_106 hl (by decide) rfl (fun ls hl => ?_)
                  refine lv_aload_n hx hb dX4_paint_108 rfl (lv_at hl 2 rfl) ?_
                  refine va_get (D := D) (ci := 4) (v := .ref (a 1)) (C := RX4) (T := TX4) (N := 10) hx hb hts hinX4 hown hK hP 0 rfl rfl 1 (by decide) (hts _ (List.mem_of_getElem? (i := 1) rfl)) (fun _ h9 => h9) rfl dX4_paint_109 ?_
                  refine lv_iload hx hb dX4_paint_112 (lv_at hl 1 rfl) ?_
                  refine lv_iload hx hb dX4_paint_114 (lv_at hl 8 rfl) ?_
                  refine ri_iast hx hb hK hP (mD hA) hS 1 0 rfl rfl (by omega) (by decide) dX4_paint_116 (fun H locs hP hS => ?_)
                  replace hP := mS.1 hP
                  replace hP : va_P D vwCl (mW a kk (updG (thG g 0) 1 (pst (g 1) t c r w sh (k + 1)).1)) H := by
                    rw [updG_uu, show ((((64 * t) + (8 * (r + ((k : Int) / w)))) + c) + ((k : Int) % w)).toNat = (t * 64 + (r + (k : Int) / w) * 8 + (c + (k : Int) % w)).toNat by congr 1; omega] at hP
                    exact hP
                  refine ri_iinc (lv' := [(8, .int (iI ((k : Int) + 1))), (7, .int (iI (cn + 0))), (9, .int (iI ((((64 * t) + (8 * (r + ((k : Int) / w)))) + c) + ((k : Int) % w)))), (0, .ref (a 0)), (1, .int (iI t)), (2, .int (iI c)), (3, .int (iI r)), (4, .int (iI w)), (5, .int (iI h)), (6, .int (iI sh))]) hx hb dX4_paint_117 hl (k := 9) rfl (by decide) rfl (fun ls hl => ?_)
                  refine lv_goto (tgt := 51) hx hb dX4_paint_120 (by decide) ?_
                  exact ih51 (k + 1) (cn + 0) (by omega) (by show cn + 0 = (pst (g 1) t c r w sh k).2 + bp (¬ (pst (g 1) t c r w sh k).1 (t * 64 + (r + (k : Int) / w) * 8 + (c + (k : Int) % w)).toNat = sh); rw [bp_f (fun q => q h97), hcn]) (by omega) _ _ (hP) hS ls (lv_sub hl [3, 4, 5, 6, 7, 8, 9, 1, 0] rfl)
          exact L51 66 (0) (0) (by have := mul88 (w := w) (h := h) (by omega) (by omega); omega) (rfl) (by decide) _ _ hP hS ls (lv_sub hl [2, 3, 4, 5, 6, 7, 8, 1, 0] rfl)
        · skip
          exfalso; omega

set_option maxHeartbeats 4000000 in
set_option maxRecDepth 100000 in
theorem k_X4_paint_no (l : Launch) (D : va_G) (a : Nat → Nat) (kk : Nat → ClassId) (g : Nat → Nat → Int) (t : Int) (c : Int) (r : Int) (w : Int) (h : Int) (sh : Int) (hA : aDs 8 a) (hM : MInv g) (yt : -2147483648 ≤ t ∧ t < 2147483648) (yc : -2147483648 ≤ c ∧ c < 2147483648) (yr : -2147483648 ≤ r ∧ r < 2147483648) (yw : -2147483648 ≤ w ∧ w < 2147483648) (yh : -2147483648 ≤ h ∧ h < 2147483648) (ysh : -2147483648 ≤ sh ∧ sh < 2147483648) (hok : ¬ ((0 ≤ t ∧ t ≤ 4) ∧ (((0 ≤ c ∧ c ≤ 7) ∧ (0 ≤ r ∧ r ≤ 7)) ∧ (1 ≤ w ∧ w ≤ 8 - c) ∧ (1 ≤ h ∧ h ≤ 8 - r)) ∧ (0 ≤ sh ∧ sh ≤ 255))) : WI l yX4_paint wsX4_paint ({ frames := 3, cells := 0, slots := 0, locals := 66 }) [.ref (a 0), .int (iI t), .int (iI c), .int (iI r), .int (iI w), .int (iI h), .int (iI sh)] (wB D kk (mW a kk g)) (0) (fun H => va_P D vwCl (mW a kk (thG g 1)) H) (aA 8 a) 0 0 := by
  refine ri_ent (cc := cX4_paint) (maxL := 10) (ret := some .int) (by decide) rfl (Nat.le_of_ble_eq_true rfl) ?_
  intro zp ze s zm zb zt zc hx hb hr hts hown hlocks hml hin hB ls hl
  have hown : s.vm.findClass RX4 = some zm.cls := hown
  have CF : CallFix zp zm zc cX4_paint 10 s ([.ref (a 0), .int (iI t), .int (iI c), .int (iI r), .int (iI w), .int (iI h), .int (iI sh)] : List Value).toArray wsX4_paint RX4 := ⟨hx, hb, hml, hown, hts⟩
  obtain ⟨hP, hK, hN⟩ := hB
  have hS : va_S (aA 8 a) s.heap s.heap [] := va_S.rf
  have hl : lv_has ls 10 [(0, .ref (a 0)), (1, .int (iI t)), (2, .int (iI c)), (3, .int (iI r)), (4, .int (iI w)), (5, .int (iI h)), (6, .int (iI sh))] := hl
  refine lv_aload_n hx hb dX4_paint_0 rfl (lv_at hl 0 rfl) ?_
  refine lv_iload_n hx hb dX4_paint_1 rfl (lv_at hl 1 rfl) ?_
  refine ri_rd (ri_runS (As := [.int (iI t)]) (rest := [.ref (a 0)]) CF (k_X4_isTest l t (by omega)) gX4_paint_X4_isTest f_X4_isTest ⟨rfl, rfl, Nat.le_of_ble_eq_true rfl, Nat.le_of_ble_eq_true rfl, Nat.le_of_ble_eq_true rfl, Nat.le_of_ble_eq_true rfl⟩ tB_bl tB_in rfl hl.1 rfl (Nat.le_of_ble_eq_true rfl) dX4_paint_2) ?_
  refine ri_ifeq_b (tgt := 36) hx hb dX4_paint_5 (by decide) (fun c_1 => ?_) (fun c_1 => ?_)
  · skip
    refine ri_iconst hx hb dX4_paint_36 ?_
    refine ri_wi (v := bp (1 = 0)) (PP := fun H => va_P D vwCl (mW a kk (thG g 1)) H) (ri_runV (b := a 0) (As := [.int (iI 1)]) (rest := []) CF (k_X4_goesWell l D a kk g 1 hA (by omega)) gX4_paint_X4_goesWell f_X4_goesWell rfl (va_recv hK hP (ci := 4) (q0 := 0) rfl rfl) ⟨rfl, rfl, Nat.le_of_ble_eq_true rfl, Nat.le_of_ble_eq_true rfl, Nat.le_of_ble_eq_true rfl, Nat.le_of_ble_eq_true rfl⟩ wB_bl (wB_in hP hK hN) rfl hl.1 rfl (Nat.le_of_ble_eq_true rfl) dX4_paint_37) hS (fun _ h => h) (fun H locs hP _ hS => ?_)
    replace hP : va_P D vwCl (mW a kk (thG g 1)) H := hP
    refine ri_ifne_b (tgt := 45) hx hb dX4_paint_40 (by decide) (fun c_2 => ?_) (fun c_2 => ?_)
    · skip
      exfalso; omega
    · skip
      refine ri_iconst hx hb dX4_paint_43 ?_
      exact ri_iretW (A := (aA 8 a)) (PP := (fun H => va_P D vwCl (mW a kk (thG g 1)) H)) hx hb hr hlocks hS (hP) dX4_paint_44 (rfl)
  · skip
    refine lv_iload_n hx hb dX4_paint_8 rfl (lv_at hl 2 rfl) ?_
    refine lv_iload_n hx hb dX4_paint_9 rfl (lv_at hl 3 rfl) ?_
    refine lv_iload hx hb dX4_paint_10 (lv_at hl 4 rfl) ?_
    refine lv_iload hx hb dX4_paint_12 (lv_at hl 5 rfl) ?_
    refine ri_rd (ri_runS (As := [.int (iI c), .int (iI r), .int (iI w), .int (iI h)]) (rest := [.ref (a 0)]) CF (k_X4_isBox l c r w h (by omega) (by omega) (by omega) (by omega)) gX4_paint_X4_isBox f_X4_isBox ⟨rfl, rfl, Nat.le_of_ble_eq_true rfl, Nat.le_of_ble_eq_true rfl, Nat.le_of_ble_eq_true rfl, Nat.le_of_ble_eq_true rfl⟩ tB_bl tB_in rfl hl.1 rfl (Nat.le_of_ble_eq_true rfl) dX4_paint_14) ?_
    refine ri_ifeq_b (tgt := 36) hx hb dX4_paint_17 (by decide) (fun c_3 => ?_) (fun c_3 => ?_)
    · skip
      refine ri_iconst hx hb dX4_paint_36 ?_
      refine ri_wi (v := bp (1 = 0)) (PP := fun H => va_P D vwCl (mW a kk (thG g 1)) H) (ri_runV (b := a 0) (As := [.int (iI 1)]) (rest := []) CF (k_X4_goesWell l D a kk g 1 hA (by omega)) gX4_paint_X4_goesWell f_X4_goesWell rfl (va_recv hK hP (ci := 4) (q0 := 0) rfl rfl) ⟨rfl, rfl, Nat.le_of_ble_eq_true rfl, Nat.le_of_ble_eq_true rfl, Nat.le_of_ble_eq_true rfl, Nat.le_of_ble_eq_true rfl⟩ wB_bl (wB_in hP hK hN) rfl hl.1 rfl (Nat.le_of_ble_eq_true rfl) dX4_paint_37) hS (fun _ h => h) (fun H locs hP _ hS => ?_)
      replace hP : va_P D vwCl (mW a kk (thG g 1)) H := hP
      refine ri_ifne_b (tgt := 45) hx hb dX4_paint_40 (by decide) (fun c_4 => ?_) (fun c_4 => ?_)
      · skip
        exfalso; omega
      · skip
        refine ri_iconst hx hb dX4_paint_43 ?_
        exact ri_iretW (A := (aA 8 a)) (PP := (fun H => va_P D vwCl (mW a kk (thG g 1)) H)) hx hb hr hlocks hS (hP) dX4_paint_44 (rfl)
    · skip
      refine lv_iload hx hb dX4_paint_20 (lv_at hl 6 rfl) ?_
      refine ri_iconst hx hb dX4_paint_22 ?_
      refine ri_sipush hx hb dX4_paint_23 (by decide) ?_
      refine ri_rd (ri_runS (As := [.int (iI sh), .int (iI 0), .int (iI 255)]) (rest := [.ref (a 0)]) CF (k_X4_in l sh 0 255 (by omega) (by omega) (by omega)) gX4_paint_X4_in f_X4_in ⟨rfl, rfl, Nat.le_of_ble_eq_true rfl, Nat.le_of_ble_eq_true rfl, Nat.le_of_ble_eq_true rfl, Nat.le_of_ble_eq_true rfl⟩ tB_bl tB_in rfl hl.1 rfl (Nat.le_of_ble_eq_true rfl) dX4_paint_26) ?_
      refine ri_ifeq_b (tgt := 36) hx hb dX4_paint_29 (by decide) (fun c_5 => ?_) (fun c_5 => ?_)
      · skip
        refine ri_iconst hx hb dX4_paint_36 ?_
        refine ri_wi (v := bp (1 = 0)) (PP := fun H => va_P D vwCl (mW a kk (thG g 1)) H) (ri_runV (b := a 0) (As := [.int (iI 1)]) (rest := []) CF (k_X4_goesWell l D a kk g 1 hA (by omega)) gX4_paint_X4_goesWell f_X4_goesWell rfl (va_recv hK hP (ci := 4) (q0 := 0) rfl rfl) ⟨rfl, rfl, Nat.le_of_ble_eq_true rfl, Nat.le_of_ble_eq_true rfl, Nat.le_of_ble_eq_true rfl, Nat.le_of_ble_eq_true rfl⟩ wB_bl (wB_in hP hK hN) rfl hl.1 rfl (Nat.le_of_ble_eq_true rfl) dX4_paint_37) hS (fun _ h => h) (fun H locs hP _ hS => ?_)
        replace hP : va_P D vwCl (mW a kk (thG g 1)) H := hP
        refine ri_ifne_b (tgt := 45) hx hb dX4_paint_40 (by decide) (fun c_6 => ?_) (fun c_6 => ?_)
        · skip
          exfalso; omega
        · skip
          refine ri_iconst hx hb dX4_paint_43 ?_
          exact ri_iretW (A := (aA 8 a)) (PP := (fun H => va_P D vwCl (mW a kk (thG g 1)) H)) hx hb hr hlocks hS (hP) dX4_paint_44 (rfl)
      · skip
        exfalso; omega

theorem f_X4_doubt : MF yX4_doubt wsX4_doubt cX4_doubt 4 (some .int) 1 := ⟨⟨_, rfl⟩, by decide +kernel, by decide +kernel, by decide +kernel⟩
set_option maxHeartbeats 4000000 in
set_option maxRecDepth 100000 in
theorem k_X4_doubt_ok (l : Launch) (D : va_G) (a : Nat → Nat) (kk : Nat → ClassId) (g : Nat → Nat → Int) (t : Int) (hA : aDs 8 a) (hM : MInv g) (yt : -2147483648 ≤ t ∧ t < 2147483648) (hok : 0 ≤ t ∧ t ≤ 4) : WI l yX4_doubt wsX4_doubt ({ frames := 2, cells := 0, slots := 0, locals := 42 }) [.ref (a 0), .int (iI t)] (wB D kk (mW a kk g)) (mdb (g 6) t (g 7 t.toNat)) (fun H => va_P D vwCl (mW a kk (thG g 0)) H) (aA 8 a) 0 0 := by
  refine ri_ent (cc := cX4_doubt) (maxL := 4) (ret := some .int) (by decide) rfl (Nat.le_of_ble_eq_true rfl) ?_
  intro zp ze s zm zb zt zc hx hb hr hts hown hlocks hml hin hB ls hl
  have hown : s.vm.findClass RX4 = some zm.cls := hown
  have CF : CallFix zp zm zc cX4_doubt 4 s ([.ref (a 0), .int (iI t)] : List Value).toArray wsX4_doubt RX4 := ⟨hx, hb, hml, hown, hts⟩
  obtain ⟨hP, hK, hN⟩ := hB
  have hinX4 : ∀ w ∈ wsX40, w ∈ wsX4_doubt := (fun _ h => List.mem_cons_of_mem _ (List.mem_append_right _ h))
  have hS : va_S (aA 8 a) s.heap s.heap [] := va_S.rf
  have hl : lv_has ls 4 [(0, .ref (a 0)), (1, .int (iI t))] := hl
  refine lv_aload_n hx hb dX4_doubt_0 rfl (lv_at hl 0 rfl) ?_
  refine lv_iload_n hx hb dX4_doubt_1 rfl (lv_at hl 1 rfl) ?_
  refine ri_rd (ri_runS (As := [.int (iI t)]) (rest := [.ref (a 0)]) CF (k_X4_isTest l t (by omega)) gX4_doubt_X4_isTest f_X4_isTest ⟨rfl, rfl, Nat.le_of_ble_eq_true rfl, Nat.le_of_ble_eq_true rfl, Nat.le_of_ble_eq_true rfl, Nat.le_of_ble_eq_true rfl⟩ tB_bl tB_in rfl hl.1 rfl (Nat.le_of_ble_eq_true rfl) dX4_doubt_2) ?_
  refine ri_ifeq_b (tgt := 12) hx hb dX4_doubt_5 (by decide) (fun c_1 => ?_) (fun c_1 => ?_)
  · skip
    exfalso; omega
  · skip
    refine ri_iconst hx hb dX4_doubt_8 ?_
    refine lv_goto (tgt := 13) hx hb dX4_doubt_9 (by decide) ?_
    refine ri_wi (v := bp (0 = 0)) (PP := fun H => va_P D vwCl (mW a kk (thG g 0)) H) (ri_runV (b := a 0) (As := [.int (iI 0)]) (rest := []) CF (k_X4_goesWell l D a kk g 0 hA (by omega)) gX4_doubt_X4_goesWell f_X4_goesWell rfl (va_recv hK hP (ci := 4) (q0 := 0) rfl rfl) ⟨rfl, rfl, Nat.le_of_ble_eq_true rfl, Nat.le_of_ble_eq_true rfl, Nat.le_of_ble_eq_true rfl, Nat.le_of_ble_eq_true rfl⟩ wB_bl (wB_in hP hK hN) rfl hl.1 rfl (Nat.le_of_ble_eq_true rfl) dX4_doubt_13) hS (fun _ h => h) (fun H locs hP _ hS => ?_)
    replace hP : va_P D vwCl (mW a kk (thG g 0)) H := hP
    refine ri_ifne_b (tgt := 21) hx hb dX4_doubt_16 (by decide) (fun c_2 => ?_) (fun c_2 => ?_)
    · skip
      refine ri_iconst hx hb dX4_doubt_21 ?_
      refine lv_istore_n (lv' := [(2, .int (iI 0)), (0, .ref (a 0)), (1, .int (iI t))]) hx hb dX4_doubt_22 rfl hl (by decide) rfl (fun ls hl => ?_)
      refine ri_iconst hx hb dX4_doubt_23 ?_
      refine lv_istore_n (lv' := [(3, .int (iI 1)), (2, .int (iI 0)), (0, .ref (a 0)), (1, .int (iI t))]) hx hb dX4_doubt_24 rfl hl (by decide) rfl (fun ls hl => ?_)
      have L25 : ∀ (n25 : Nat) (k : Nat) (ac : Int), (k = 0 ∨ (k : Int) + 1 ≤ g 7 t.toNat) → (ac = trn (g 6) (10 * t) k) → (10 - k < n25) → ∀ (ls : Array Slot), lv_has ls 4 [(0, .ref (a 0)), (1, .int (iI t)), (2, .int (iI ac)), (3, .int (iI ((k : Int) + 1)))] → W zp l ze ({ frames := 2, cells := 0, slots := 0, locals := 42 }) s zm ([.ref (a 0), .int (iI t)] : List Value).toArray zb zt zc H locs (0 + 0) (0 + 0) (MQ zb (va_Qi (fun (r9 : Int32) (_ : Unit) => r9 = iI (mdb (g 6) t (g 7 t.toNat))) (fun _ t9 => (fun H => va_P D vwCl (mW a kk (thG g 0)) H) t9.heap) (aA 8 a)) ([.ref (a 0), .int (iI t)] : List Value).toArray s 0 0 (aA 8 a)) (F0 zm 25 ls []) := by
        intro n25
        induction n25 with
        | zero => intro k ac hk hac hm; exact absurd hm (Nat.not_lt_zero _)
        | succ n25 ih25 =>
          intro k ac hk hac hm25 ls hl
          have hcr := trn_r (g 6) (10 * t) k
          have h7 := hM.2.2.2.2.2.1 t.toNat (by omega)
          refine lv_iload_n hx hb dX4_doubt_25 rfl (lv_at hl 3 rfl) ?_
          refine lv_aload_n hx hb dX4_doubt_26 rfl (lv_at hl 0 rfl) ?_
          refine va_get (D := D) (ci := 4) (v := .ref (a 7)) (C := RX4) (T := TX4) (N := 10) hx hb hts hinX4 hown hK hP 0 rfl rfl 7 (by decide) (hts _ (List.mem_of_getElem? (i := 1) rfl)) (fun _ h9 => h9) rfl dX4_doubt_27 ?_
          refine lv_iload_n hx hb dX4_doubt_30 rfl (lv_at hl 1 rfl) ?_
          refine ri_iald hx hb hK hP 7 0 rfl rfl (by omega) (by decide) dX4_doubt_31 ?_
          refine ri_eq (y := g 7 t.toNat) (rfl) ?_
          refine ri_icmp_ge (tgt := 76) hx hb (by omega) dX4_doubt_32 (by decide) (fun h32 => ?_) (fun h32 => ?_)
          · skip
            refine lv_aload_n hx hb dX4_doubt_76 rfl (lv_at hl 0 rfl) ?_
            refine va_get (D := D) (ci := 4) (v := .ref (a 7)) (C := RX4) (T := TX4) (N := 10) hx hb hts hinX4 hown hK hP 0 rfl rfl 7 (by decide) (hts _ (List.mem_of_getElem? (i := 1) rfl)) (fun _ h9 => h9) rfl dX4_doubt_77 ?_
            refine lv_iload_n hx hb dX4_doubt_80 rfl (lv_at hl 1 rfl) ?_
            refine ri_iald hx hb hK hP 7 0 rfl rfl (by omega) (by decide) dX4_doubt_81 ?_
            refine ri_eq (y := g 7 t.toNat) (rfl) ?_
            refine ri_iconst hx hb dX4_doubt_82 ?_
            refine ri_icmp_ge (tgt := 90) hx hb (by omega) dX4_doubt_83 (by decide) (fun h83 => ?_) (fun h83 => ?_)
            · skip
              refine ri_bipush hx hb dX4_doubt_90 (by decide) ?_
              refine lv_iload_n hx hb dX4_doubt_92 rfl (lv_at hl 2 rfl) ?_
              refine ri_imul hx hb dX4_doubt_93 ?_
              refine lv_aload_n hx hb dX4_doubt_94 rfl (lv_at hl 0 rfl) ?_
              refine va_get (D := D) (ci := 4) (v := .ref (a 7)) (C := RX4) (T := TX4) (N := 10) hx hb hts hinX4 hown hK hP 0 rfl rfl 7 (by decide) (hts _ (List.mem_of_getElem? (i := 1) rfl)) (fun _ h9 => h9) rfl dX4_doubt_95 ?_
              refine lv_iload_n hx hb dX4_doubt_98 rfl (lv_at hl 1 rfl) ?_
              refine ri_iald hx hb hK hP 7 0 rfl rfl (by omega) (by decide) dX4_doubt_99 ?_
              refine ri_eq (y := g 7 t.toNat) (rfl) ?_
              refine ri_iconst hx hb dX4_doubt_100 ?_
              refine ri_isub hx hb dX4_doubt_101 ?_
              refine ri_idiv hx hb (by omega) dX4_doubt_102 ?_
              exact ri_iretW (A := (aA 8 a)) (PP := (fun H => va_P D vwCl (mW a kk (thG g 0)) H)) hx hb hr hlocks hS (hP) dX4_doubt_103 (by unfold mdb; rw [if_neg (by omega), hac, show k = (g 7 t.toNat - 1).toNat by omega])
            · skip
              refine ri_iconst hx hb dX4_doubt_86 ?_
              refine lv_goto (tgt := 103) hx hb dX4_doubt_87 (by decide) ?_
              exact ri_iretW (A := (aA 8 a)) (PP := (fun H => va_P D vwCl (mW a kk (thG g 0)) H)) hx hb hr hlocks hS (hP) dX4_doubt_103 (by unfold mdb; rw [if_pos (by omega)])
          · skip
            have f6a := hM.2.2.2.2.1 (10 * t + ((k : Int) + 1)).toNat (by omega)
            have f6b := hM.2.2.2.2.1 (10 * t + (k : Int)).toNat (by omega)
            refine lv_iload_n hx hb dX4_doubt_35 rfl (lv_at hl 2 rfl) ?_
            refine lv_aload_n hx hb dX4_doubt_36 rfl (lv_at hl 0 rfl) ?_
            refine va_get (D := D) (ci := 4) (v := .ref (a 6)) (C := RX4) (T := TX4) (N := 10) hx hb hts hinX4 hown hK hP 0 rfl rfl 6 (by decide) (hts _ (List.mem_of_getElem? (i := 2) rfl)) (fun _ h9 => h9) rfl dX4_doubt_37 ?_
            refine ri_bipush hx hb dX4_doubt_40 (by decide) ?_
            refine lv_iload_n hx hb dX4_doubt_42 rfl (lv_at hl 1 rfl) ?_
            refine ri_imul hx hb dX4_doubt_43 ?_
            refine lv_iload_n hx hb dX4_doubt_44 rfl (lv_at hl 3 rfl) ?_
            refine ri_iadd hx hb dX4_doubt_45 ?_
            refine ri_iald hx hb hK hP 6 0 rfl rfl (by omega) (by decide) dX4_doubt_46 ?_
            refine ri_eq (y := g 6 (10 * t + ((k : Int) + 1)).toNat) (rfl) ?_
            refine lv_aload_n hx hb dX4_doubt_47 rfl (lv_at hl 0 rfl) ?_
            refine va_get (D := D) (ci := 4) (v := .ref (a 6)) (C := RX4) (T := TX4) (N := 10) hx hb hts hinX4 hown hK hP 0 rfl rfl 6 (by decide) (hts _ (List.mem_of_getElem? (i := 2) rfl)) (fun _ h9 => h9) rfl dX4_doubt_48 ?_
            refine ri_bipush hx hb dX4_doubt_51 (by decide) ?_
            refine lv_iload_n hx hb dX4_doubt_53 rfl (lv_at hl 1 rfl) ?_
            refine ri_imul hx hb dX4_doubt_54 ?_
            refine lv_iload_n hx hb dX4_doubt_55 rfl (lv_at hl 3 rfl) ?_
            refine ri_iadd hx hb dX4_doubt_56 ?_
            refine ri_iconst hx hb dX4_doubt_57 ?_
            refine ri_isub hx hb dX4_doubt_58 ?_
            refine ri_iald hx hb hK hP 6 0 rfl rfl (by omega) (by decide) dX4_doubt_59 ?_
            refine ri_eq (y := g 6 (10 * t + (k : Int)).toNat) (by show g 6 _ = g 6 _; congr 1; omega) ?_
            refine ri_icmp_ne (tgt := 67) hx hb (by omega) dX4_doubt_60 (by decide) (fun h60 => ?_) (fun h60 => ?_)
            · skip
              refine ri_iconst hx hb dX4_doubt_67 ?_
              refine ri_iadd hx hb dX4_doubt_68 ?_
              refine lv_istore_n (lv' := [(2, .int (iI (ac + 1))), (0, .ref (a 0)), (1, .int (iI t)), (3, .int (iI ((k : Int) + 1)))]) hx hb dX4_doubt_69 rfl hl (by decide) rfl (fun ls hl => ?_)
              refine ri_iinc (lv' := [(3, .int (iI (((k : Int) + 1) + 1))), (2, .int (iI (ac + 1))), (0, .ref (a 0)), (1, .int (iI t))]) hx hb dX4_doubt_70 hl (k := 3) rfl (by decide) rfl (fun ls hl => ?_)
              refine lv_goto (tgt := 25) hx hb dX4_doubt_73 (by decide) ?_
              exact ih25 (k + 1) (ac + 1) (by omega) (by show ac + 1 = trn (g 6) (10 * t) k + bp (¬ g 6 (10 * t + ((k : Int) + 1)).toNat = g 6 (10 * t + (k : Int)).toNat); rw [bp_t h60, hac]) (by omega) ls (lv_sub hl [2, 3, 1, 0] rfl)
            · skip
              refine ri_iconst hx hb dX4_doubt_63 ?_
              refine lv_goto (tgt := 68) hx hb dX4_doubt_64 (by decide) ?_
              refine ri_iadd hx hb dX4_doubt_68 ?_
              refine lv_istore_n (lv' := [(2, .int (iI (ac + 0))), (0, .ref (a 0)), (1, .int (iI t)), (3, .int (iI ((k : Int) + 1)))]) hx hb dX4_doubt_69 rfl hl (by decide) rfl (fun ls hl => ?_)
              refine ri_iinc (lv' := [(3, .int (iI (((k : Int) + 1) + 1))), (2, .int (iI (ac + 0))), (0, .ref (a 0)), (1, .int (iI t))]) hx hb dX4_doubt_70 hl (k := 3) rfl (by decide) rfl (fun ls hl => ?_)
              refine lv_goto (tgt := 25) hx hb dX4_doubt_73 (by decide) ?_
              exact ih25 (k + 1) (ac + 0) (by omega) (by show ac + 0 = trn (g 6) (10 * t) k + bp (¬ g 6 (10 * t + ((k : Int) + 1)).toNat = g 6 (10 * t + (k : Int)).toNat); rw [bp_f (fun q => q h60), hac]) (by omega) ls (lv_sub hl [2, 3, 1, 0] rfl)
      exact L25 11 (0) (0) (Or.inl rfl) (rfl) (by decide) ls (lv_sub hl [2, 3, 1, 0] rfl)
    · skip
      exfalso; omega

set_option maxHeartbeats 4000000 in
set_option maxRecDepth 100000 in
theorem k_X4_doubt_no (l : Launch) (D : va_G) (a : Nat → Nat) (kk : Nat → ClassId) (g : Nat → Nat → Int) (t : Int) (hA : aDs 8 a) (hM : MInv g) (yt : -2147483648 ≤ t ∧ t < 2147483648) (hok : ¬ (0 ≤ t ∧ t ≤ 4)) : WI l yX4_doubt wsX4_doubt ({ frames := 2, cells := 0, slots := 0, locals := 42 }) [.ref (a 0), .int (iI t)] (wB D kk (mW a kk g)) (0) (fun H => va_P D vwCl (mW a kk (thG g 1)) H) (aA 8 a) 0 0 := by
  refine ri_ent (cc := cX4_doubt) (maxL := 4) (ret := some .int) (by decide) rfl (Nat.le_of_ble_eq_true rfl) ?_
  intro zp ze s zm zb zt zc hx hb hr hts hown hlocks hml hin hB ls hl
  have hown : s.vm.findClass RX4 = some zm.cls := hown
  have CF : CallFix zp zm zc cX4_doubt 4 s ([.ref (a 0), .int (iI t)] : List Value).toArray wsX4_doubt RX4 := ⟨hx, hb, hml, hown, hts⟩
  obtain ⟨hP, hK, hN⟩ := hB
  have hS : va_S (aA 8 a) s.heap s.heap [] := va_S.rf
  have hl : lv_has ls 4 [(0, .ref (a 0)), (1, .int (iI t))] := hl
  refine lv_aload_n hx hb dX4_doubt_0 rfl (lv_at hl 0 rfl) ?_
  refine lv_iload_n hx hb dX4_doubt_1 rfl (lv_at hl 1 rfl) ?_
  refine ri_rd (ri_runS (As := [.int (iI t)]) (rest := [.ref (a 0)]) CF (k_X4_isTest l t (by omega)) gX4_doubt_X4_isTest f_X4_isTest ⟨rfl, rfl, Nat.le_of_ble_eq_true rfl, Nat.le_of_ble_eq_true rfl, Nat.le_of_ble_eq_true rfl, Nat.le_of_ble_eq_true rfl⟩ tB_bl tB_in rfl hl.1 rfl (Nat.le_of_ble_eq_true rfl) dX4_doubt_2) ?_
  refine ri_ifeq_b (tgt := 12) hx hb dX4_doubt_5 (by decide) (fun c_1 => ?_) (fun c_1 => ?_)
  · skip
    refine ri_iconst hx hb dX4_doubt_12 ?_
    refine ri_wi (v := bp (1 = 0)) (PP := fun H => va_P D vwCl (mW a kk (thG g 1)) H) (ri_runV (b := a 0) (As := [.int (iI 1)]) (rest := []) CF (k_X4_goesWell l D a kk g 1 hA (by omega)) gX4_doubt_X4_goesWell f_X4_goesWell rfl (va_recv hK hP (ci := 4) (q0 := 0) rfl rfl) ⟨rfl, rfl, Nat.le_of_ble_eq_true rfl, Nat.le_of_ble_eq_true rfl, Nat.le_of_ble_eq_true rfl, Nat.le_of_ble_eq_true rfl⟩ wB_bl (wB_in hP hK hN) rfl hl.1 rfl (Nat.le_of_ble_eq_true rfl) dX4_doubt_13) hS (fun _ h => h) (fun H locs hP _ hS => ?_)
    replace hP : va_P D vwCl (mW a kk (thG g 1)) H := hP
    refine ri_ifne_b (tgt := 21) hx hb dX4_doubt_16 (by decide) (fun c_2 => ?_) (fun c_2 => ?_)
    · skip
      exfalso; omega
    · skip
      refine ri_iconst hx hb dX4_doubt_19 ?_
      exact ri_iretW (A := (aA 8 a)) (PP := (fun H => va_P D vwCl (mW a kk (thG g 1)) H)) hx hb hr hlocks hS (hP) dX4_doubt_20 (rfl)
  · skip
    exfalso; omega

theorem f_X4_move : MF yX4_move wsX4_move cX4_move 4 (some .int) 3 := ⟨⟨_, rfl⟩, by decide +kernel, by decide +kernel, by decide +kernel⟩
set_option maxHeartbeats 4000000 in
set_option maxRecDepth 100000 in
theorem k_X4_move_ok (l : Launch) (D : va_G) (a : Nat → Nat) (kk : Nat → ClassId) (g : Nat → Nat → Int) (b : Int) (t : Int) (n : Int) (hA : aDs 8 a) (hM : MInv g) (yb : -2147483648 ≤ b ∧ b < 2147483648) (yt : -2147483648 ≤ t ∧ t < 2147483648) (yn : -2147483648 ≤ n ∧ n < 2147483648) (hok : ((0 ≤ b ∧ b ≤ 3) ∧ (0 ≤ t ∧ t ≤ 4) ∧ (0 ≤ n ∧ n ≤ 255)) ∧ g 3 (5 * b + t).toNat = 1) : WI l yX4_move wsX4_move ({ frames := 5, cells := 0, slots := 0, locals := 128 }) [.ref (a 0), .int (iI b), .int (iI t), .int (iI n)] (wB D kk (mW a kk g)) (mvN (fitP (px (g 1) t) (px (g 2) (5 * b + t)) n (g 4 (4 * t).toNat) (g 4 (4 * t + 1).toNat) (g 4 (4 * t).toNat + g 4 (4 * t + 2).toNat) (g 4 (4 * t + 1).toNat + g 4 (4 * t + 3).toNat))) (fun H => va_P D vwCl (mW a kk (mvG (thG g 0) (fitP (px (g 1) t) (px (g 2) (5 * b + t)) n (g 4 (4 * t).toNat) (g 4 (4 * t + 1).toNat) (g 4 (4 * t).toNat + g 4 (4 * t + 2).toNat) (g 4 (4 * t + 1).toNat + g 4 (4 * t + 3).toNat)))) H) (aA 8 a) 0 0 := by
  refine ri_ent (cc := cX4_move) (maxL := 4) (ret := some .int) (by decide) rfl (Nat.le_of_ble_eq_true rfl) ?_
  intro zp ze s zm zb zt zc hx hb hr hts hown hlocks hml hin hB ls hl
  have hown : s.vm.findClass RX4 = some zm.cls := hown
  have CF : CallFix zp zm zc cX4_move 4 s ([.ref (a 0), .int (iI b), .int (iI t), .int (iI n)] : List Value).toArray wsX4_move RX4 := ⟨hx, hb, hml, hown, hts⟩
  obtain ⟨hP, hK, hN⟩ := hB
  have hinX4 : ∀ w ∈ wsX40, w ∈ wsX4_move := (fun _ h => List.mem_cons_of_mem _ (List.mem_append_right _ h))
  have hS : va_S (aA 8 a) s.heap s.heap [] := va_S.rf
  have hl : lv_has ls 4 [(0, .ref (a 0)), (1, .int (iI b)), (2, .int (iI t)), (3, .int (iI n))] := hl
  obtain ⟨⟨o1, o2, o3⟩, o4⟩ := id hok
  refine lv_aload_n hx hb dX4_move_0 rfl (lv_at hl 0 rfl) ?_
  refine lv_iload_n hx hb dX4_move_1 rfl (lv_at hl 1 rfl) ?_
  refine lv_iload_n hx hb dX4_move_2 rfl (lv_at hl 2 rfl) ?_
  refine lv_iload_n hx hb dX4_move_3 rfl (lv_at hl 3 rfl) ?_
  refine ri_wi (v := 1) (PP := fun H => va_P D vwCl (mW a kk (mvG (thG g 0) (fitP (px (g 1) t) (px (g 2) (5 * b + t)) n (g 4 (4 * t).toNat) (g 4 (4 * t + 1).toNat) (g 4 (4 * t).toNat + g 4 (4 * t + 2).toNat) (g 4 (4 * t + 1).toNat + g 4 (4 * t + 3).toNat)))) H) (ri_runV (b := a 0) (As := [.int (iI b), .int (iI t), .int (iI n)]) (rest := []) CF (k_X4_canCompare_ok l D a kk g b t n hA hM (by omega) (by omega) (by omega) (hok)) gX4_move_X4_canCompare f_X4_canCompare rfl (va_recv hK hP (ci := 4) (q0 := 0) rfl rfl) ⟨rfl, rfl, Nat.le_of_ble_eq_true rfl, Nat.le_of_ble_eq_true rfl, Nat.le_of_ble_eq_true rfl, Nat.le_of_ble_eq_true rfl⟩ wB_bl (wB_in hP hK hN) rfl hl.1 rfl (Nat.le_of_ble_eq_true rfl) dX4_move_4) hS (fun _ h => h) (fun H locs hP _ hS => ?_)
  replace hP : va_P D vwCl (mW a kk (mvG (thG g 0) (fitP (px (g 1) t) (px (g 2) (5 * b + t)) n (g 4 (4 * t).toNat) (g 4 (4 * t + 1).toNat) (g 4 (4 * t).toNat + g 4 (4 * t + 2).toNat) (g 4 (4 * t + 1).toNat + g 4 (4 * t + 3).toNat)))) H := hP
  have hM1 := MInv_mv (fitP (px (g 1) t) (px (g 2) (5 * b + t)) n (g 4 (4 * t).toNat) (g 4 (4 * t + 1).toNat) (g 4 (4 * t).toNat + g 4 (4 * t + 2).toNat) (g 4 (4 * t + 1).toNat + g 4 (4 * t + 3).toNat)) (MInv_th hM 0)
  refine ri_if_eq (tgt := 31) hx hb (by omega) dX4_move_7 (by decide) (fun c_1 => ?_) (fun c_1 => ?_)
  · skip
    exfalso; omega
  · skip
    refine ri_bipush hx hb dX4_move_10 (by decide) ?_
    refine lv_aload_n hx hb dX4_move_12 rfl (lv_at hl 0 rfl) ?_
    refine va_get (D := D) (ci := 4) (v := .int (iI ((mvG (thG g 0) (fitP (px (g 1) t) (px (g 2) (5 * b + t)) n (g 4 (4 * t).toNat) (g 4 (4 * t + 1).toNat) (g 4 (4 * t).toNat + g 4 (4 * t + 2).toNat) (g 4 (4 * t + 1).toNat + g 4 (4 * t + 3).toNat))) 0 9))) (C := RX4) (T := TX4) (N := 10) hx hb hts hinX4 hown hK hP 0 rfl rfl 9 (by decide) (hts _ (List.mem_of_getElem? (i := 1) rfl)) (fun _ h9 => h9) rfl dX4_move_13 ?_
    refine ri_eq (y := (mvE (fitP (px (g 1) t) (px (g 2) (5 * b + t)) n (g 4 (4 * t).toNat) (g 4 (4 * t + 1).toNat) (g 4 (4 * t).toNat + g 4 (4 * t + 2).toNat) (g 4 (4 * t + 1).toNat + g 4 (4 * t + 3).toNat))).2) (rfl) ?_
    refine ri_bipush hx hb dX4_move_16 (by decide) ?_
    refine ri_iadd hx hb dX4_move_18 ?_
    refine ri_imul hx hb dX4_move_19 ?_
    refine lv_aload_n hx hb dX4_move_20 rfl (lv_at hl 0 rfl) ?_
    refine va_get (D := D) (ci := 4) (v := .int (iI ((mvG (thG g 0) (fitP (px (g 1) t) (px (g 2) (5 * b + t)) n (g 4 (4 * t).toNat) (g 4 (4 * t + 1).toNat) (g 4 (4 * t).toNat + g 4 (4 * t + 2).toNat) (g 4 (4 * t + 1).toNat + g 4 (4 * t + 3).toNat))) 0 8))) (C := RX4) (T := TX4) (N := 10) hx hb hts hinX4 hown hK hP 0 rfl rfl 8 (by decide) (hts _ (List.mem_of_getElem? (i := 2) rfl)) (fun _ h9 => h9) rfl dX4_move_21 ?_
    refine ri_eq (y := (mvE (fitP (px (g 1) t) (px (g 2) (5 * b + t)) n (g 4 (4 * t).toNat) (g 4 (4 * t + 1).toNat) (g 4 (4 * t).toNat + g 4 (4 * t + 2).toNat) (g 4 (4 * t + 1).toNat + g 4 (4 * t + 3).toNat))).1) (rfl) ?_
    refine ri_iadd hx hb dX4_move_24 ?_
    refine ri_bipush hx hb dX4_move_25 (by decide) ?_
    refine ri_iadd hx hb dX4_move_27 ?_
    refine lv_goto (tgt := 32) hx hb dX4_move_28 (by decide) ?_
    exact ri_iretW (A := (aA 8 a)) (PP := (fun H => va_P D vwCl (mW a kk (mvG (thG g 0) (fitP (px (g 1) t) (px (g 2) (5 * b + t)) n (g 4 (4 * t).toNat) (g 4 (4 * t + 1).toNat) (g 4 (4 * t).toNat + g 4 (4 * t + 2).toNat) (g 4 (4 * t + 1).toNat + g 4 (4 * t + 3).toNat)))) H)) hx hb hr hlocks hS (hP) dX4_move_32 (by unfold mvN; omega)

set_option maxHeartbeats 4000000 in
set_option maxRecDepth 100000 in
theorem k_X4_move_no (l : Launch) (D : va_G) (a : Nat → Nat) (kk : Nat → ClassId) (g : Nat → Nat → Int) (pl : Int) (b : Int) (t : Int) (n : Int) (hA : aDs 8 a) (hM : MInv g) (yb : -2147483648 ≤ b ∧ b < 2147483648) (yt : -2147483648 ≤ t ∧ t < 2147483648) (yn : -2147483648 ≤ n ∧ n < 2147483648) (hno : (pl = 1 ∧ ¬ ((0 ≤ b ∧ b ≤ 3) ∧ (0 ≤ t ∧ t ≤ 4) ∧ (0 ≤ n ∧ n ≤ 255))) ∨ (pl = 2 ∧ ((0 ≤ b ∧ b ≤ 3) ∧ (0 ≤ t ∧ t ≤ 4) ∧ (0 ≤ n ∧ n ≤ 255)) ∧ ¬ g 3 (5 * b + t).toNat = 1)) : WI l yX4_move wsX4_move ({ frames := 3, cells := 0, slots := 0, locals := 66 }) [.ref (a 0), .int (iI b), .int (iI t), .int (iI n)] (wB D kk (mW a kk g)) (0) (fun H => va_P D vwCl (mW a kk (thG g pl)) H) (aA 8 a) 0 0 := by
  refine ri_ent (cc := cX4_move) (maxL := 4) (ret := some .int) (by decide) rfl (Nat.le_of_ble_eq_true rfl) ?_
  intro zp ze s zm zb zt zc hx hb hr hts hown hlocks hml hin hB ls hl
  have hown : s.vm.findClass RX4 = some zm.cls := hown
  have CF : CallFix zp zm zc cX4_move 4 s ([.ref (a 0), .int (iI b), .int (iI t), .int (iI n)] : List Value).toArray wsX4_move RX4 := ⟨hx, hb, hml, hown, hts⟩
  obtain ⟨hP, hK, hN⟩ := hB
  have hS : va_S (aA 8 a) s.heap s.heap [] := va_S.rf
  have hl : lv_has ls 4 [(0, .ref (a 0)), (1, .int (iI b)), (2, .int (iI t)), (3, .int (iI n))] := hl
  refine lv_aload_n hx hb dX4_move_0 rfl (lv_at hl 0 rfl) ?_
  refine lv_iload_n hx hb dX4_move_1 rfl (lv_at hl 1 rfl) ?_
  refine lv_iload_n hx hb dX4_move_2 rfl (lv_at hl 2 rfl) ?_
  refine lv_iload_n hx hb dX4_move_3 rfl (lv_at hl 3 rfl) ?_
  refine ri_wi (v := 0) (PP := fun H => va_P D vwCl (mW a kk (thG g pl)) H) (ri_runV (b := a 0) (As := [.int (iI b), .int (iI t), .int (iI n)]) (rest := []) CF (k_X4_canCompare_no l D a kk g pl b t n hA hM (by omega) (by omega) (by omega) (hno)) gX4_move_X4_canCompare f_X4_canCompare rfl (va_recv hK hP (ci := 4) (q0 := 0) rfl rfl) ⟨rfl, rfl, Nat.le_of_ble_eq_true rfl, Nat.le_of_ble_eq_true rfl, Nat.le_of_ble_eq_true rfl, Nat.le_of_ble_eq_true rfl⟩ wB_bl (wB_in hP hK hN) rfl hl.1 rfl (Nat.le_of_ble_eq_true rfl) dX4_move_4) hS (fun _ h => h) (fun H locs hP _ hS => ?_)
  replace hP : va_P D vwCl (mW a kk (thG g pl)) H := hP
  refine ri_if_eq (tgt := 31) hx hb (by omega) dX4_move_7 (by decide) (fun c_1 => ?_) (fun c_1 => ?_)
  · skip
    refine ri_iconst hx hb dX4_move_31 ?_
    exact ri_iretW (A := (aA 8 a)) (PP := (fun H => va_P D vwCl (mW a kk (thG g pl)) H)) hx hb hr hlocks hS (hP) dX4_move_32 (rfl)
  · skip
    exfalso; omega

theorem f_X4_firstDifference : MF yX4_firstDifference wsX4_firstDifference cX4_firstDifference 4 (some .int) 3 := ⟨⟨_, rfl⟩, by decide +kernel, by decide +kernel, by decide +kernel⟩
set_option maxHeartbeats 4000000 in
set_option maxRecDepth 100000 in
theorem k_X4_firstDifference_ok (l : Launch) (D : va_G) (a : Nat → Nat) (kk : Nat → ClassId) (g : Nat → Nat → Int) (b : Int) (t : Int) (n : Int) (hA : aDs 8 a) (hM : MInv g) (yb : -2147483648 ≤ b ∧ b < 2147483648) (yt : -2147483648 ≤ t ∧ t < 2147483648) (yn : -2147483648 ≤ n ∧ n < 2147483648) (hok : ((0 ≤ b ∧ b ≤ 3) ∧ (0 ≤ t ∧ t ≤ 4) ∧ (0 ≤ n ∧ n ≤ 255)) ∧ g 3 (5 * b + t).toNat = 1) : WI l yX4_firstDifference wsX4_firstDifference ({ frames := 5, cells := 0, slots := 0, locals := 128 }) [.ref (a 0), .int (iI b), .int (iI t), .int (iI n)] (wB D kk (mW a kk g)) (fdE (cmpD (px (g 1) t) (px (g 2) (5 * b + t)) n (g 4 (4 * t).toNat) (g 4 (4 * t + 1).toNat) (g 4 (4 * t).toNat + g 4 (4 * t + 2).toNat) (g 4 (4 * t + 1).toNat + g 4 (4 * t + 3).toNat) (g 5 (4 * t).toNat) (g 5 (4 * t + 1).toNat) (g 5 (4 * t).toNat + g 5 (4 * t + 2).toNat) (g 5 (4 * t + 1).toNat + g 5 (4 * t + 3).toNat))) (fun H => va_P D vwCl (mW a kk (mvG (thG g 0) (fitP (px (g 1) t) (px (g 2) (5 * b + t)) n (g 4 (4 * t).toNat) (g 4 (4 * t + 1).toNat) (g 4 (4 * t).toNat + g 4 (4 * t + 2).toNat) (g 4 (4 * t + 1).toNat + g 4 (4 * t + 3).toNat)))) H) (aA 8 a) 0 0 := by
  refine ri_ent (cc := cX4_firstDifference) (maxL := 4) (ret := some .int) (by decide) rfl (Nat.le_of_ble_eq_true rfl) ?_
  intro zp ze s zm zb zt zc hx hb hr hts hown hlocks hml hin hB ls hl
  have hown : s.vm.findClass RX4 = some zm.cls := hown
  have CF : CallFix zp zm zc cX4_firstDifference 4 s ([.ref (a 0), .int (iI b), .int (iI t), .int (iI n)] : List Value).toArray wsX4_firstDifference RX4 := ⟨hx, hb, hml, hown, hts⟩
  obtain ⟨hP, hK, hN⟩ := hB
  have hS : va_S (aA 8 a) s.heap s.heap [] := va_S.rf
  have hl : lv_has ls 4 [(0, .ref (a 0)), (1, .int (iI b)), (2, .int (iI t)), (3, .int (iI n))] := hl
  obtain ⟨⟨o1, o2, o3⟩, o4⟩ := id hok
  refine lv_aload_n hx hb dX4_firstDifference_0 rfl (lv_at hl 0 rfl) ?_
  refine lv_iload_n hx hb dX4_firstDifference_1 rfl (lv_at hl 1 rfl) ?_
  refine lv_iload_n hx hb dX4_firstDifference_2 rfl (lv_at hl 2 rfl) ?_
  refine lv_iload_n hx hb dX4_firstDifference_3 rfl (lv_at hl 3 rfl) ?_
  refine ri_wi (v := 1) (PP := fun H => va_P D vwCl (mW a kk (mvG (thG g 0) (fitP (px (g 1) t) (px (g 2) (5 * b + t)) n (g 4 (4 * t).toNat) (g 4 (4 * t + 1).toNat) (g 4 (4 * t).toNat + g 4 (4 * t + 2).toNat) (g 4 (4 * t + 1).toNat + g 4 (4 * t + 3).toNat)))) H) (ri_runV (b := a 0) (As := [.int (iI b), .int (iI t), .int (iI n)]) (rest := []) CF (k_X4_canCompare_ok l D a kk g b t n hA hM (by omega) (by omega) (by omega) (hok)) gX4_firstDifference_X4_canCompare f_X4_canCompare rfl (va_recv hK hP (ci := 4) (q0 := 0) rfl rfl) ⟨rfl, rfl, Nat.le_of_ble_eq_true rfl, Nat.le_of_ble_eq_true rfl, Nat.le_of_ble_eq_true rfl, Nat.le_of_ble_eq_true rfl⟩ wB_bl (wB_in hP hK hN) rfl hl.1 rfl (Nat.le_of_ble_eq_true rfl) dX4_firstDifference_4) hS (fun _ h => h) (fun H locs hP _ hS => ?_)
  replace hP : va_P D vwCl (mW a kk (mvG (thG g 0) (fitP (px (g 1) t) (px (g 2) (5 * b + t)) n (g 4 (4 * t).toNat) (g 4 (4 * t + 1).toNat) (g 4 (4 * t).toNat + g 4 (4 * t + 2).toNat) (g 4 (4 * t + 1).toNat + g 4 (4 * t + 3).toNat)))) H := hP
  have hM1 := MInv_mv (fitP (px (g 1) t) (px (g 2) (5 * b + t)) n (g 4 (4 * t).toNat) (g 4 (4 * t + 1).toNat) (g 4 (4 * t).toNat + g 4 (4 * t + 2).toNat) (g 4 (4 * t + 1).toNat + g 4 (4 * t + 3).toNat)) (MInv_th hM 0)
  refine ri_if_eq (tgt := 20) hx hb (by omega) dX4_firstDifference_7 (by decide) (fun c_1 => ?_) (fun c_1 => ?_)
  · skip
    exfalso; omega
  · skip
    refine lv_aload_n hx hb dX4_firstDifference_10 rfl (lv_at hl 0 rfl) ?_
    refine lv_iload_n hx hb dX4_firstDifference_11 rfl (lv_at hl 1 rfl) ?_
    refine lv_iload_n hx hb dX4_firstDifference_12 rfl (lv_at hl 2 rfl) ?_
    refine lv_iload_n hx hb dX4_firstDifference_13 rfl (lv_at hl 3 rfl) ?_
    refine ri_rd (ri_runV (b := a 0) (As := [.int (iI b), .int (iI t), .int (iI n)]) (rest := []) CF (k_X4_first l D a kk (mvG (thG g 0) (fitP (px (g 1) t) (px (g 2) (5 * b + t)) n (g 4 (4 * t).toNat) (g 4 (4 * t + 1).toNat) (g 4 (4 * t).toNat + g 4 (4 * t + 2).toNat) (g 4 (4 * t + 1).toNat + g 4 (4 * t + 3).toNat))) b t n hM1 (by omega) (by omega) (by omega)) gX4_firstDifference_X4_first f_X4_first rfl (va_recv hK hP (ci := 4) (q0 := 0) rfl rfl) ⟨rfl, rfl, Nat.le_of_ble_eq_true rfl, Nat.le_of_ble_eq_true rfl, Nat.le_of_ble_eq_true rfl, Nat.le_of_ble_eq_true rfl⟩ wB_bl (wB_in hP hK hN) rfl hl.1 rfl (Nat.le_of_ble_eq_true rfl) dX4_firstDifference_14) ?_
    refine ri_eq (y := fdE (cmpD (px (g 1) t) (px (g 2) (5 * b + t)) n (g 4 (4 * t).toNat) (g 4 (4 * t + 1).toNat) (g 4 (4 * t).toNat + g 4 (4 * t + 2).toNat) (g 4 (4 * t + 1).toNat + g 4 (4 * t + 3).toNat) (g 5 (4 * t).toNat) (g 5 (4 * t + 1).toNat) (g 5 (4 * t).toNat + g 5 (4 * t + 2).toNat) (g 5 (4 * t + 1).toNat + g 5 (4 * t + 3).toNat))) (rfl) ?_
    refine lv_goto (tgt := 21) hx hb dX4_firstDifference_17 (by decide) ?_
    exact ri_iretW (A := (aA 8 a)) (PP := (fun H => va_P D vwCl (mW a kk (mvG (thG g 0) (fitP (px (g 1) t) (px (g 2) (5 * b + t)) n (g 4 (4 * t).toNat) (g 4 (4 * t + 1).toNat) (g 4 (4 * t).toNat + g 4 (4 * t + 2).toNat) (g 4 (4 * t + 1).toNat + g 4 (4 * t + 3).toNat)))) H)) hx hb hr hlocks hS (hP) dX4_firstDifference_21 (rfl)

set_option maxHeartbeats 4000000 in
set_option maxRecDepth 100000 in
theorem k_X4_firstDifference_no (l : Launch) (D : va_G) (a : Nat → Nat) (kk : Nat → ClassId) (g : Nat → Nat → Int) (pl : Int) (b : Int) (t : Int) (n : Int) (hA : aDs 8 a) (hM : MInv g) (yb : -2147483648 ≤ b ∧ b < 2147483648) (yt : -2147483648 ≤ t ∧ t < 2147483648) (yn : -2147483648 ≤ n ∧ n < 2147483648) (hno : (pl = 1 ∧ ¬ ((0 ≤ b ∧ b ≤ 3) ∧ (0 ≤ t ∧ t ≤ 4) ∧ (0 ≤ n ∧ n ≤ 255))) ∨ (pl = 2 ∧ ((0 ≤ b ∧ b ≤ 3) ∧ (0 ≤ t ∧ t ≤ 4) ∧ (0 ≤ n ∧ n ≤ 255)) ∧ ¬ g 3 (5 * b + t).toNat = 1)) : WI l yX4_firstDifference wsX4_firstDifference ({ frames := 3, cells := 0, slots := 0, locals := 66 }) [.ref (a 0), .int (iI b), .int (iI t), .int (iI n)] (wB D kk (mW a kk g)) (0) (fun H => va_P D vwCl (mW a kk (thG g pl)) H) (aA 8 a) 0 0 := by
  refine ri_ent (cc := cX4_firstDifference) (maxL := 4) (ret := some .int) (by decide) rfl (Nat.le_of_ble_eq_true rfl) ?_
  intro zp ze s zm zb zt zc hx hb hr hts hown hlocks hml hin hB ls hl
  have hown : s.vm.findClass RX4 = some zm.cls := hown
  have CF : CallFix zp zm zc cX4_firstDifference 4 s ([.ref (a 0), .int (iI b), .int (iI t), .int (iI n)] : List Value).toArray wsX4_firstDifference RX4 := ⟨hx, hb, hml, hown, hts⟩
  obtain ⟨hP, hK, hN⟩ := hB
  have hS : va_S (aA 8 a) s.heap s.heap [] := va_S.rf
  have hl : lv_has ls 4 [(0, .ref (a 0)), (1, .int (iI b)), (2, .int (iI t)), (3, .int (iI n))] := hl
  refine lv_aload_n hx hb dX4_firstDifference_0 rfl (lv_at hl 0 rfl) ?_
  refine lv_iload_n hx hb dX4_firstDifference_1 rfl (lv_at hl 1 rfl) ?_
  refine lv_iload_n hx hb dX4_firstDifference_2 rfl (lv_at hl 2 rfl) ?_
  refine lv_iload_n hx hb dX4_firstDifference_3 rfl (lv_at hl 3 rfl) ?_
  refine ri_wi (v := 0) (PP := fun H => va_P D vwCl (mW a kk (thG g pl)) H) (ri_runV (b := a 0) (As := [.int (iI b), .int (iI t), .int (iI n)]) (rest := []) CF (k_X4_canCompare_no l D a kk g pl b t n hA hM (by omega) (by omega) (by omega) (hno)) gX4_firstDifference_X4_canCompare f_X4_canCompare rfl (va_recv hK hP (ci := 4) (q0 := 0) rfl rfl) ⟨rfl, rfl, Nat.le_of_ble_eq_true rfl, Nat.le_of_ble_eq_true rfl, Nat.le_of_ble_eq_true rfl, Nat.le_of_ble_eq_true rfl⟩ wB_bl (wB_in hP hK hN) rfl hl.1 rfl (Nat.le_of_ble_eq_true rfl) dX4_firstDifference_4) hS (fun _ h => h) (fun H locs hP _ hS => ?_)
  replace hP : va_P D vwCl (mW a kk (thG g pl)) H := hP
  refine ri_if_eq (tgt := 20) hx hb (by omega) dX4_firstDifference_7 (by decide) (fun c_1 => ?_) (fun c_1 => ?_)
  · skip
    refine ri_iconst hx hb dX4_firstDifference_20 ?_
    exact ri_iretW (A := (aA 8 a)) (PP := (fun H => va_P D vwCl (mW a kk (thG g pl)) H)) hx hb hr hlocks hS (hP) dX4_firstDifference_21 (rfl)
  · skip
    exfalso; omega

theorem f_X4_differences : MF yX4_differences wsX4_differences cX4_differences 7 (some .int) 3 := ⟨⟨_, rfl⟩, by decide +kernel, by decide +kernel, by decide +kernel⟩
set_option maxHeartbeats 4000000 in
set_option maxRecDepth 100000 in
theorem k_X4_differences_ok (l : Launch) (D : va_G) (a : Nat → Nat) (kk : Nat → ClassId) (g : Nat → Nat → Int) (b : Int) (t : Int) (n : Int) (hA : aDs 8 a) (hM : MInv g) (yb : -2147483648 ≤ b ∧ b < 2147483648) (yt : -2147483648 ≤ t ∧ t < 2147483648) (yn : -2147483648 ≤ n ∧ n < 2147483648) (hok : ((0 ≤ b ∧ b ≤ 3) ∧ (0 ≤ t ∧ t ≤ 4) ∧ (0 ≤ n ∧ n ≤ 255)) ∧ g 3 (5 * b + t).toNat = 1) : WI l yX4_differences wsX4_differences ({ frames := 5, cells := 0, slots := 0, locals := 128 }) [.ref (a 0), .int (iI b), .int (iI t), .int (iI n)] (wB D kk (mW a kk g)) (cntE (cmpD (px (g 1) t) (px (g 2) (5 * b + t)) n (g 4 (4 * t).toNat) (g 4 (4 * t + 1).toNat) (g 4 (4 * t).toNat + g 4 (4 * t + 2).toNat) (g 4 (4 * t + 1).toNat + g 4 (4 * t + 3).toNat) (g 5 (4 * t).toNat) (g 5 (4 * t + 1).toNat) (g 5 (4 * t).toNat + g 5 (4 * t + 2).toNat) (g 5 (4 * t + 1).toNat + g 5 (4 * t + 3).toNat)) 64) (fun H => va_P D vwCl (mW a kk (mvG (thG g 0) (fitP (px (g 1) t) (px (g 2) (5 * b + t)) n (g 4 (4 * t).toNat) (g 4 (4 * t + 1).toNat) (g 4 (4 * t).toNat + g 4 (4 * t + 2).toNat) (g 4 (4 * t + 1).toNat + g 4 (4 * t + 3).toNat)))) H) (aA 8 a) 0 0 := by
  refine ri_ent (cc := cX4_differences) (maxL := 7) (ret := some .int) (by decide) rfl (Nat.le_of_ble_eq_true rfl) ?_
  intro zp ze s zm zb zt zc hx hb hr hts hown hlocks hml hin hB ls hl
  have hown : s.vm.findClass RX4 = some zm.cls := hown
  have CF : CallFix zp zm zc cX4_differences 7 s ([.ref (a 0), .int (iI b), .int (iI t), .int (iI n)] : List Value).toArray wsX4_differences RX4 := ⟨hx, hb, hml, hown, hts⟩
  obtain ⟨hP, hK, hN⟩ := hB
  have hS : va_S (aA 8 a) s.heap s.heap [] := va_S.rf
  have hl : lv_has ls 7 [(0, .ref (a 0)), (1, .int (iI b)), (2, .int (iI t)), (3, .int (iI n))] := hl
  obtain ⟨⟨o1, o2, o3⟩, o4⟩ := id hok
  refine ri_iconst hx hb dX4_differences_0 ?_
  refine lv_istore (lv' := [(4, .int (iI 0)), (0, .ref (a 0)), (1, .int (iI b)), (2, .int (iI t)), (3, .int (iI n))]) hx hb dX4_differences_1 hl (by decide) rfl (fun ls hl => ?_)
  refine lv_aload_n hx hb dX4_differences_3 rfl (lv_at hl 1 rfl) ?_
  refine lv_iload_n hx hb dX4_differences_4 rfl (lv_at hl 2 rfl) ?_
  refine lv_iload_n hx hb dX4_differences_5 rfl (lv_at hl 3 rfl) ?_
  refine lv_iload_n hx hb dX4_differences_6 rfl (lv_at hl 4 rfl) ?_
  refine ri_wi (v := 1) (PP := fun H => va_P D vwCl (mW a kk (mvG (thG g 0) (fitP (px (g 1) t) (px (g 2) (5 * b + t)) n (g 4 (4 * t).toNat) (g 4 (4 * t + 1).toNat) (g 4 (4 * t).toNat + g 4 (4 * t + 2).toNat) (g 4 (4 * t + 1).toNat + g 4 (4 * t + 3).toNat)))) H) (ri_runV (b := a 0) (As := [.int (iI b), .int (iI t), .int (iI n)]) (rest := []) CF (k_X4_canCompare_ok l D a kk g b t n hA hM (by omega) (by omega) (by omega) (hok)) gX4_differences_X4_canCompare f_X4_canCompare rfl (va_recv hK hP (ci := 4) (q0 := 0) rfl rfl) ⟨rfl, rfl, Nat.le_of_ble_eq_true rfl, Nat.le_of_ble_eq_true rfl, Nat.le_of_ble_eq_true rfl, Nat.le_of_ble_eq_true rfl⟩ wB_bl (wB_in hP hK hN) rfl hl.1 rfl (Nat.le_of_ble_eq_true rfl) dX4_differences_7) hS (fun _ h => h) (fun H locs hP _ hS => ?_)
  replace hP : va_P D vwCl (mW a kk (mvG (thG g 0) (fitP (px (g 1) t) (px (g 2) (5 * b + t)) n (g 4 (4 * t).toNat) (g 4 (4 * t + 1).toNat) (g 4 (4 * t).toNat + g 4 (4 * t + 2).toNat) (g 4 (4 * t + 1).toNat + g 4 (4 * t + 3).toNat)))) H := hP
  have hM1 := MInv_mv (fitP (px (g 1) t) (px (g 2) (5 * b + t)) n (g 4 (4 * t).toNat) (g 4 (4 * t + 1).toNat) (g 4 (4 * t).toNat + g 4 (4 * t + 2).toNat) (g 4 (4 * t + 1).toNat + g 4 (4 * t + 3).toNat)) (MInv_th hM 0)
  refine lv_istore (lv' := [(5, .int (iI 1)), (4, .int (iI 0)), (0, .ref (a 0)), (1, .int (iI b)), (2, .int (iI t)), (3, .int (iI n))]) hx hb dX4_differences_10 hl (by decide) rfl (fun ls hl => ?_)
  refine ri_iconst hx hb dX4_differences_12 ?_
  refine lv_istore (lv' := [(6, .int (iI 0)), (5, .int (iI 1)), (4, .int (iI 0)), (0, .ref (a 0)), (1, .int (iI b)), (2, .int (iI t)), (3, .int (iI n))]) hx hb dX4_differences_13 hl (by decide) rfl (fun ls hl => ?_)
  have L15 : ∀ (n15 : Nat) (i : Int) (ac : Int), (0 ≤ i ∧ i ≤ 64) → (ac = cntE (cmpD (px (g 1) t) (px (g 2) (5 * b + t)) n (g 4 (4 * t).toNat) (g 4 (4 * t + 1).toNat) (g 4 (4 * t).toNat + g 4 (4 * t + 2).toNat) (g 4 (4 * t + 1).toNat + g 4 (4 * t + 3).toNat) (g 5 (4 * t).toNat) (g 5 (4 * t + 1).toNat) (g 5 (4 * t).toNat + g 5 (4 * t + 2).toNat) (g 5 (4 * t + 1).toNat + g 5 (4 * t + 3).toNat)) i.toNat) → ((64 - i).toNat < n15) → ∀ (ls : Array Slot), lv_has ls 7 [(0, .ref (a 0)), (1, .int (iI b)), (2, .int (iI t)), (3, .int (iI n)), (4, .int (iI ac)), (5, .int (iI 1)), (6, .int (iI i))] → W zp l ze ({ frames := 5, cells := 0, slots := 0, locals := 128 }) s zm ([.ref (a 0), .int (iI b), .int (iI t), .int (iI n)] : List Value).toArray zb zt zc H locs (0 + 0) (0 + 0) (MQ zb (va_Qi (fun (r9 : Int32) (_ : Unit) => r9 = iI (cntE (cmpD (px (g 1) t) (px (g 2) (5 * b + t)) n (g 4 (4 * t).toNat) (g 4 (4 * t + 1).toNat) (g 4 (4 * t).toNat + g 4 (4 * t + 2).toNat) (g 4 (4 * t + 1).toNat + g 4 (4 * t + 3).toNat) (g 5 (4 * t).toNat) (g 5 (4 * t + 1).toNat) (g 5 (4 * t).toNat + g 5 (4 * t + 2).toNat) (g 5 (4 * t + 1).toNat + g 5 (4 * t + 3).toNat)) 64)) (fun _ t9 => (fun H => va_P D vwCl (mW a kk (mvG (thG g 0) (fitP (px (g 1) t) (px (g 2) (5 * b + t)) n (g 4 (4 * t).toNat) (g 4 (4 * t + 1).toNat) (g 4 (4 * t).toNat + g 4 (4 * t + 2).toNat) (g 4 (4 * t + 1).toNat + g 4 (4 * t + 3).toNat)))) H) t9.heap) (aA 8 a)) ([.ref (a 0), .int (iI b), .int (iI t), .int (iI n)] : List Value).toArray s 0 0 (aA 8 a)) (F0 zm 15 ls []) := by
    intro n15
    induction n15 with
    | zero => intro i ac hi hac hm; exact absurd hm (Nat.not_lt_zero _)
    | succ n15 ih15 =>
      intro i ac hi hac hm15 ls hl
      have hcr := cntE_r (cmpD (px (g 1) t) (px (g 2) (5 * b + t)) n (g 4 (4 * t).toNat) (g 4 (4 * t + 1).toNat) (g 4 (4 * t).toNat + g 4 (4 * t + 2).toNat) (g 4 (4 * t + 1).toNat + g 4 (4 * t + 3).toNat) (g 5 (4 * t).toNat) (g 5 (4 * t + 1).toNat) (g 5 (4 * t).toNat + g 5 (4 * t + 2).toNat) (g 5 (4 * t + 1).toNat + g 5 (4 * t + 3).toNat)) i.toNat
      refine lv_iload hx hb dX4_differences_15 (lv_at hl 6 rfl) ?_
      refine ri_bipush hx hb dX4_differences_17 (by decide) ?_
      refine ri_icmp_ge (tgt := 55) hx hb (by omega) dX4_differences_19 (by decide) (fun h19 => ?_) (fun h19 => ?_)
      · skip
        refine lv_iload hx hb dX4_differences_55 (lv_at hl 4 rfl) ?_
        exact ri_iretW (A := (aA 8 a)) (PP := (fun H => va_P D vwCl (mW a kk (mvG (thG g 0) (fitP (px (g 1) t) (px (g 2) (5 * b + t)) n (g 4 (4 * t).toNat) (g 4 (4 * t + 1).toNat) (g 4 (4 * t).toNat + g 4 (4 * t + 2).toNat) (g 4 (4 * t + 1).toNat + g 4 (4 * t + 3).toNat)))) H)) hx hb hr hlocks hS (hP) dX4_differences_57 (by rw [hac]; congr 1; omega)
      · skip
        refine lv_iload hx hb dX4_differences_22 (lv_at hl 5 rfl) ?_
        refine ri_if_eq (tgt := 55) hx hb (by omega) dX4_differences_24 (by decide) (fun c_1 => ?_) (fun c_1 => ?_)
        · skip
          exfalso; omega
        · skip
          refine lv_iload hx hb dX4_differences_27 (lv_at hl 4 rfl) ?_
          refine lv_aload_n hx hb dX4_differences_29 rfl (lv_at hl 0 rfl) ?_
          refine lv_iload_n hx hb dX4_differences_30 rfl (lv_at hl 1 rfl) ?_
          refine lv_iload_n hx hb dX4_differences_31 rfl (lv_at hl 2 rfl) ?_
          refine lv_iload_n hx hb dX4_differences_32 rfl (lv_at hl 3 rfl) ?_
          refine lv_iload hx hb dX4_differences_33 (lv_at hl 6 rfl) ?_
          refine ri_rd (ri_runV (b := a 0) (As := [.int (iI b), .int (iI t), .int (iI n), .int (iI i)]) (rest := [.int (iI ac)]) CF (k_X4_differs l D a kk (mvG (thG g 0) (fitP (px (g 1) t) (px (g 2) (5 * b + t)) n (g 4 (4 * t).toNat) (g 4 (4 * t + 1).toNat) (g 4 (4 * t).toNat + g 4 (4 * t + 2).toNat) (g 4 (4 * t + 1).toNat + g 4 (4 * t + 3).toNat))) b t n i hM1 (by omega) (by omega) (by omega) (by omega)) gX4_differences_X4_differs f_X4_differs rfl (va_recv hK hP (ci := 4) (q0 := 0) rfl rfl) ⟨rfl, rfl, Nat.le_of_ble_eq_true rfl, Nat.le_of_ble_eq_true rfl, Nat.le_of_ble_eq_true rfl, Nat.le_of_ble_eq_true rfl⟩ wB_bl (wB_in hP hK hN) rfl hl.1 rfl (Nat.le_of_ble_eq_true rfl) dX4_differences_35) ?_
          refine ri_eq (y := bp ((cmpD (px (g 1) t) (px (g 2) (5 * b + t)) n (g 4 (4 * t).toNat) (g 4 (4 * t + 1).toNat) (g 4 (4 * t).toNat + g 4 (4 * t + 2).toNat) (g 4 (4 * t + 1).toNat + g 4 (4 * t + 3).toNat) (g 5 (4 * t).toNat) (g 5 (4 * t + 1).toNat) (g 5 (4 * t).toNat + g 5 (4 * t + 2).toNat) (g 5 (4 * t + 1).toNat + g 5 (4 * t + 3).toNat)) i)) (rfl) ?_
          refine ri_ifeq_b (tgt := 45) hx hb dX4_differences_38 (by decide) (fun h38 => ?_) (fun h38 => ?_)
          · skip
            refine ri_iconst hx hb dX4_differences_45 ?_
            refine ri_iadd hx hb dX4_differences_46 ?_
            refine lv_istore (lv' := [(4, .int (iI (ac + 0))), (0, .ref (a 0)), (1, .int (iI b)), (2, .int (iI t)), (3, .int (iI n)), (5, .int (iI 1)), (6, .int (iI i))]) hx hb dX4_differences_47 hl (by decide) rfl (fun ls hl => ?_)
            refine ri_iinc (lv' := [(6, .int (iI (i + 1))), (4, .int (iI (ac + 0))), (0, .ref (a 0)), (1, .int (iI b)), (2, .int (iI t)), (3, .int (iI n)), (5, .int (iI 1))]) hx hb dX4_differences_49 hl (k := 6) rfl (by decide) rfl (fun ls hl => ?_)
            refine lv_goto (tgt := 15) hx hb dX4_differences_52 (by decide) ?_
            exact ih15 (i + 1) (ac + 0) (by omega) (by show ac + 0 = _; rw [Int.add_zero, hac]; exact cntE_f (by omega) h38) (by omega) ls (lv_sub hl [2, 3, 4, 5, 1, 6, 0] rfl)
          · skip
            refine ri_iconst hx hb dX4_differences_41 ?_
            refine lv_goto (tgt := 46) hx hb dX4_differences_42 (by decide) ?_
            refine ri_iadd hx hb dX4_differences_46 ?_
            refine lv_istore (lv' := [(4, .int (iI (ac + 1))), (0, .ref (a 0)), (1, .int (iI b)), (2, .int (iI t)), (3, .int (iI n)), (5, .int (iI 1)), (6, .int (iI i))]) hx hb dX4_differences_47 hl (by decide) rfl (fun ls hl => ?_)
            refine ri_iinc (lv' := [(6, .int (iI (i + 1))), (4, .int (iI (ac + 1))), (0, .ref (a 0)), (1, .int (iI b)), (2, .int (iI t)), (3, .int (iI n)), (5, .int (iI 1))]) hx hb dX4_differences_49 hl (k := 6) rfl (by decide) rfl (fun ls hl => ?_)
            refine lv_goto (tgt := 15) hx hb dX4_differences_52 (by decide) ?_
            exact ih15 (i + 1) (ac + 1) (by omega) (by show ac + 1 = _; rw [hac]; exact cntE_t (by omega) h38) (by omega) ls (lv_sub hl [2, 3, 4, 5, 1, 6, 0] rfl)
  exact L15 65 (0) (0) (by omega) (rfl) (by decide) ls (lv_sub hl [3, 4, 5, 6, 2, 1, 0] rfl)

set_option maxHeartbeats 4000000 in
set_option maxRecDepth 100000 in
theorem k_X4_differences_no (l : Launch) (D : va_G) (a : Nat → Nat) (kk : Nat → ClassId) (g : Nat → Nat → Int) (pl : Int) (b : Int) (t : Int) (n : Int) (hA : aDs 8 a) (hM : MInv g) (yb : -2147483648 ≤ b ∧ b < 2147483648) (yt : -2147483648 ≤ t ∧ t < 2147483648) (yn : -2147483648 ≤ n ∧ n < 2147483648) (hno : (pl = 1 ∧ ¬ ((0 ≤ b ∧ b ≤ 3) ∧ (0 ≤ t ∧ t ≤ 4) ∧ (0 ≤ n ∧ n ≤ 255))) ∨ (pl = 2 ∧ ((0 ≤ b ∧ b ≤ 3) ∧ (0 ≤ t ∧ t ≤ 4) ∧ (0 ≤ n ∧ n ≤ 255)) ∧ ¬ g 3 (5 * b + t).toNat = 1)) : WI l yX4_differences wsX4_differences ({ frames := 3, cells := 0, slots := 0, locals := 66 }) [.ref (a 0), .int (iI b), .int (iI t), .int (iI n)] (wB D kk (mW a kk g)) (0) (fun H => va_P D vwCl (mW a kk (thG g pl)) H) (aA 8 a) 0 0 := by
  refine ri_ent (cc := cX4_differences) (maxL := 7) (ret := some .int) (by decide) rfl (Nat.le_of_ble_eq_true rfl) ?_
  intro zp ze s zm zb zt zc hx hb hr hts hown hlocks hml hin hB ls hl
  have hown : s.vm.findClass RX4 = some zm.cls := hown
  have CF : CallFix zp zm zc cX4_differences 7 s ([.ref (a 0), .int (iI b), .int (iI t), .int (iI n)] : List Value).toArray wsX4_differences RX4 := ⟨hx, hb, hml, hown, hts⟩
  obtain ⟨hP, hK, hN⟩ := hB
  have hS : va_S (aA 8 a) s.heap s.heap [] := va_S.rf
  have hl : lv_has ls 7 [(0, .ref (a 0)), (1, .int (iI b)), (2, .int (iI t)), (3, .int (iI n))] := hl
  refine ri_iconst hx hb dX4_differences_0 ?_
  refine lv_istore (lv' := [(4, .int (iI 0)), (0, .ref (a 0)), (1, .int (iI b)), (2, .int (iI t)), (3, .int (iI n))]) hx hb dX4_differences_1 hl (by decide) rfl (fun ls hl => ?_)
  refine lv_aload_n hx hb dX4_differences_3 rfl (lv_at hl 1 rfl) ?_
  refine lv_iload_n hx hb dX4_differences_4 rfl (lv_at hl 2 rfl) ?_
  refine lv_iload_n hx hb dX4_differences_5 rfl (lv_at hl 3 rfl) ?_
  refine lv_iload_n hx hb dX4_differences_6 rfl (lv_at hl 4 rfl) ?_
  refine ri_wi (v := 0) (PP := fun H => va_P D vwCl (mW a kk (thG g pl)) H) (ri_runV (b := a 0) (As := [.int (iI b), .int (iI t), .int (iI n)]) (rest := []) CF (k_X4_canCompare_no l D a kk g pl b t n hA hM (by omega) (by omega) (by omega) (hno)) gX4_differences_X4_canCompare f_X4_canCompare rfl (va_recv hK hP (ci := 4) (q0 := 0) rfl rfl) ⟨rfl, rfl, Nat.le_of_ble_eq_true rfl, Nat.le_of_ble_eq_true rfl, Nat.le_of_ble_eq_true rfl, Nat.le_of_ble_eq_true rfl⟩ wB_bl (wB_in hP hK hN) rfl hl.1 rfl (Nat.le_of_ble_eq_true rfl) dX4_differences_7) hS (fun _ h => h) (fun H locs hP _ hS => ?_)
  replace hP : va_P D vwCl (mW a kk (thG g pl)) H := hP
  refine lv_istore (lv' := [(5, .int (iI 0)), (4, .int (iI 0)), (0, .ref (a 0)), (1, .int (iI b)), (2, .int (iI t)), (3, .int (iI n))]) hx hb dX4_differences_10 hl (by decide) rfl (fun ls hl => ?_)
  refine ri_iconst hx hb dX4_differences_12 ?_
  refine lv_istore (lv' := [(6, .int (iI 0)), (5, .int (iI 0)), (4, .int (iI 0)), (0, .ref (a 0)), (1, .int (iI b)), (2, .int (iI t)), (3, .int (iI n))]) hx hb dX4_differences_13 hl (by decide) rfl (fun ls hl => ?_)
  refine lv_iload hx hb dX4_differences_15 (lv_at hl 0 rfl) ?_
  refine ri_bipush hx hb dX4_differences_17 (by decide) ?_
  refine ri_icmp_ge (tgt := 55) hx hb (by omega) dX4_differences_19 (by decide) (fun c_1 => ?_) (fun c_1 => ?_)
  · skip
    exfalso; omega
  · skip
    refine lv_iload hx hb dX4_differences_22 (lv_at hl 1 rfl) ?_
    refine ri_if_eq (tgt := 55) hx hb (by omega) dX4_differences_24 (by decide) (fun c_2 => ?_) (fun c_2 => ?_)
    · skip
      refine lv_iload hx hb dX4_differences_55 (lv_at hl 2 rfl) ?_
      exact ri_iretW (A := (aA 8 a)) (PP := (fun H => va_P D vwCl (mW a kk (thG g pl)) H)) hx hb hr hlocks hS (hP) dX4_differences_57 (rfl)
    · skip
      exfalso; omega

theorem f_X4_soft : MF yX4_soft wsX4_soft cX4_soft 7 (some .int) 3 := ⟨⟨_, rfl⟩, by decide +kernel, by decide +kernel, by decide +kernel⟩
set_option maxHeartbeats 4000000 in
set_option maxRecDepth 100000 in
theorem k_X4_soft_ok (l : Launch) (D : va_G) (a : Nat → Nat) (kk : Nat → ClassId) (g : Nat → Nat → Int) (b : Int) (t : Int) (n : Int) (hA : aDs 8 a) (hM : MInv g) (yb : -2147483648 ≤ b ∧ b < 2147483648) (yt : -2147483648 ≤ t ∧ t < 2147483648) (yn : -2147483648 ≤ n ∧ n < 2147483648) (hok : ((0 ≤ b ∧ b ≤ 3) ∧ (0 ≤ t ∧ t ≤ 4) ∧ (0 ≤ n ∧ n ≤ 255)) ∧ g 3 (5 * b + t).toNat = 1) : WI l yX4_soft wsX4_soft ({ frames := 5, cells := 0, slots := 0, locals := 128 }) [.ref (a 0), .int (iI b), .int (iI t), .int (iI n)] (wB D kk (mW a kk g)) (cntE (sofD (px (g 1) t) (px (g 2) (5 * b + t)) n) 64) (fun H => va_P D vwCl (mW a kk (mvG (thG g 0) (fitP (px (g 1) t) (px (g 2) (5 * b + t)) n (g 4 (4 * t).toNat) (g 4 (4 * t + 1).toNat) (g 4 (4 * t).toNat + g 4 (4 * t + 2).toNat) (g 4 (4 * t + 1).toNat + g 4 (4 * t + 3).toNat)))) H) (aA 8 a) 0 0 := by
  refine ri_ent (cc := cX4_soft) (maxL := 7) (ret := some .int) (by decide) rfl (Nat.le_of_ble_eq_true rfl) ?_
  intro zp ze s zm zb zt zc hx hb hr hts hown hlocks hml hin hB ls hl
  have hown : s.vm.findClass RX4 = some zm.cls := hown
  have CF : CallFix zp zm zc cX4_soft 7 s ([.ref (a 0), .int (iI b), .int (iI t), .int (iI n)] : List Value).toArray wsX4_soft RX4 := ⟨hx, hb, hml, hown, hts⟩
  obtain ⟨hP, hK, hN⟩ := hB
  have hS : va_S (aA 8 a) s.heap s.heap [] := va_S.rf
  have hl : lv_has ls 7 [(0, .ref (a 0)), (1, .int (iI b)), (2, .int (iI t)), (3, .int (iI n))] := hl
  obtain ⟨⟨o1, o2, o3⟩, o4⟩ := id hok
  refine ri_iconst hx hb dX4_soft_0 ?_
  refine lv_istore (lv' := [(4, .int (iI 0)), (0, .ref (a 0)), (1, .int (iI b)), (2, .int (iI t)), (3, .int (iI n))]) hx hb dX4_soft_1 hl (by decide) rfl (fun ls hl => ?_)
  refine lv_aload_n hx hb dX4_soft_3 rfl (lv_at hl 1 rfl) ?_
  refine lv_iload_n hx hb dX4_soft_4 rfl (lv_at hl 2 rfl) ?_
  refine lv_iload_n hx hb dX4_soft_5 rfl (lv_at hl 3 rfl) ?_
  refine lv_iload_n hx hb dX4_soft_6 rfl (lv_at hl 4 rfl) ?_
  refine ri_wi (v := 1) (PP := fun H => va_P D vwCl (mW a kk (mvG (thG g 0) (fitP (px (g 1) t) (px (g 2) (5 * b + t)) n (g 4 (4 * t).toNat) (g 4 (4 * t + 1).toNat) (g 4 (4 * t).toNat + g 4 (4 * t + 2).toNat) (g 4 (4 * t + 1).toNat + g 4 (4 * t + 3).toNat)))) H) (ri_runV (b := a 0) (As := [.int (iI b), .int (iI t), .int (iI n)]) (rest := []) CF (k_X4_canCompare_ok l D a kk g b t n hA hM (by omega) (by omega) (by omega) (hok)) gX4_soft_X4_canCompare f_X4_canCompare rfl (va_recv hK hP (ci := 4) (q0 := 0) rfl rfl) ⟨rfl, rfl, Nat.le_of_ble_eq_true rfl, Nat.le_of_ble_eq_true rfl, Nat.le_of_ble_eq_true rfl, Nat.le_of_ble_eq_true rfl⟩ wB_bl (wB_in hP hK hN) rfl hl.1 rfl (Nat.le_of_ble_eq_true rfl) dX4_soft_7) hS (fun _ h => h) (fun H locs hP _ hS => ?_)
  replace hP : va_P D vwCl (mW a kk (mvG (thG g 0) (fitP (px (g 1) t) (px (g 2) (5 * b + t)) n (g 4 (4 * t).toNat) (g 4 (4 * t + 1).toNat) (g 4 (4 * t).toNat + g 4 (4 * t + 2).toNat) (g 4 (4 * t + 1).toNat + g 4 (4 * t + 3).toNat)))) H := hP
  have hM1 := MInv_mv (fitP (px (g 1) t) (px (g 2) (5 * b + t)) n (g 4 (4 * t).toNat) (g 4 (4 * t + 1).toNat) (g 4 (4 * t).toNat + g 4 (4 * t + 2).toNat) (g 4 (4 * t + 1).toNat + g 4 (4 * t + 3).toNat)) (MInv_th hM 0)
  refine lv_istore (lv' := [(5, .int (iI 1)), (4, .int (iI 0)), (0, .ref (a 0)), (1, .int (iI b)), (2, .int (iI t)), (3, .int (iI n))]) hx hb dX4_soft_10 hl (by decide) rfl (fun ls hl => ?_)
  refine ri_iconst hx hb dX4_soft_12 ?_
  refine lv_istore (lv' := [(6, .int (iI 0)), (5, .int (iI 1)), (4, .int (iI 0)), (0, .ref (a 0)), (1, .int (iI b)), (2, .int (iI t)), (3, .int (iI n))]) hx hb dX4_soft_13 hl (by decide) rfl (fun ls hl => ?_)
  have L15 : ∀ (n15 : Nat) (i : Int) (ac : Int), (0 ≤ i ∧ i ≤ 64) → (ac = cntE (sofD (px (g 1) t) (px (g 2) (5 * b + t)) n) i.toNat) → ((64 - i).toNat < n15) → ∀ (ls : Array Slot), lv_has ls 7 [(0, .ref (a 0)), (1, .int (iI b)), (2, .int (iI t)), (3, .int (iI n)), (4, .int (iI ac)), (5, .int (iI 1)), (6, .int (iI i))] → W zp l ze ({ frames := 5, cells := 0, slots := 0, locals := 128 }) s zm ([.ref (a 0), .int (iI b), .int (iI t), .int (iI n)] : List Value).toArray zb zt zc H locs (0 + 0) (0 + 0) (MQ zb (va_Qi (fun (r9 : Int32) (_ : Unit) => r9 = iI (cntE (sofD (px (g 1) t) (px (g 2) (5 * b + t)) n) 64)) (fun _ t9 => (fun H => va_P D vwCl (mW a kk (mvG (thG g 0) (fitP (px (g 1) t) (px (g 2) (5 * b + t)) n (g 4 (4 * t).toNat) (g 4 (4 * t + 1).toNat) (g 4 (4 * t).toNat + g 4 (4 * t + 2).toNat) (g 4 (4 * t + 1).toNat + g 4 (4 * t + 3).toNat)))) H) t9.heap) (aA 8 a)) ([.ref (a 0), .int (iI b), .int (iI t), .int (iI n)] : List Value).toArray s 0 0 (aA 8 a)) (F0 zm 15 ls []) := by
    intro n15
    induction n15 with
    | zero => intro i ac hi hac hm; exact absurd hm (Nat.not_lt_zero _)
    | succ n15 ih15 =>
      intro i ac hi hac hm15 ls hl
      have hcr := cntE_r (sofD (px (g 1) t) (px (g 2) (5 * b + t)) n) i.toNat
      refine lv_iload hx hb dX4_soft_15 (lv_at hl 6 rfl) ?_
      refine ri_bipush hx hb dX4_soft_17 (by decide) ?_
      refine ri_icmp_ge (tgt := 55) hx hb (by omega) dX4_soft_19 (by decide) (fun h19 => ?_) (fun h19 => ?_)
      · skip
        refine lv_iload hx hb dX4_soft_55 (lv_at hl 4 rfl) ?_
        exact ri_iretW (A := (aA 8 a)) (PP := (fun H => va_P D vwCl (mW a kk (mvG (thG g 0) (fitP (px (g 1) t) (px (g 2) (5 * b + t)) n (g 4 (4 * t).toNat) (g 4 (4 * t + 1).toNat) (g 4 (4 * t).toNat + g 4 (4 * t + 2).toNat) (g 4 (4 * t + 1).toNat + g 4 (4 * t + 3).toNat)))) H)) hx hb hr hlocks hS (hP) dX4_soft_57 (by rw [hac]; congr 1; omega)
      · skip
        refine lv_iload hx hb dX4_soft_22 (lv_at hl 5 rfl) ?_
        refine ri_if_eq (tgt := 55) hx hb (by omega) dX4_soft_24 (by decide) (fun c_1 => ?_) (fun c_1 => ?_)
        · skip
          exfalso; omega
        · skip
          refine lv_iload hx hb dX4_soft_27 (lv_at hl 4 rfl) ?_
          refine lv_aload_n hx hb dX4_soft_29 rfl (lv_at hl 0 rfl) ?_
          refine lv_iload_n hx hb dX4_soft_30 rfl (lv_at hl 1 rfl) ?_
          refine lv_iload_n hx hb dX4_soft_31 rfl (lv_at hl 2 rfl) ?_
          refine lv_iload_n hx hb dX4_soft_32 rfl (lv_at hl 3 rfl) ?_
          refine lv_iload hx hb dX4_soft_33 (lv_at hl 6 rfl) ?_
          refine ri_rd (ri_runV (b := a 0) (As := [.int (iI b), .int (iI t), .int (iI n), .int (iI i)]) (rest := [.int (iI ac)]) CF (k_X4_isSoft l D a kk (mvG (thG g 0) (fitP (px (g 1) t) (px (g 2) (5 * b + t)) n (g 4 (4 * t).toNat) (g 4 (4 * t + 1).toNat) (g 4 (4 * t).toNat + g 4 (4 * t + 2).toNat) (g 4 (4 * t + 1).toNat + g 4 (4 * t + 3).toNat))) b t n i hM1 (by omega) (by omega) (by omega) (by omega)) gX4_soft_X4_isSoft f_X4_isSoft rfl (va_recv hK hP (ci := 4) (q0 := 0) rfl rfl) ⟨rfl, rfl, Nat.le_of_ble_eq_true rfl, Nat.le_of_ble_eq_true rfl, Nat.le_of_ble_eq_true rfl, Nat.le_of_ble_eq_true rfl⟩ wB_bl (wB_in hP hK hN) rfl hl.1 rfl (Nat.le_of_ble_eq_true rfl) dX4_soft_35) ?_
          refine ri_eq (y := bp ((sofD (px (g 1) t) (px (g 2) (5 * b + t)) n) i)) (rfl) ?_
          refine ri_ifeq_b (tgt := 45) hx hb dX4_soft_38 (by decide) (fun h38 => ?_) (fun h38 => ?_)
          · skip
            refine ri_iconst hx hb dX4_soft_45 ?_
            refine ri_iadd hx hb dX4_soft_46 ?_
            refine lv_istore (lv' := [(4, .int (iI (ac + 0))), (0, .ref (a 0)), (1, .int (iI b)), (2, .int (iI t)), (3, .int (iI n)), (5, .int (iI 1)), (6, .int (iI i))]) hx hb dX4_soft_47 hl (by decide) rfl (fun ls hl => ?_)
            refine ri_iinc (lv' := [(6, .int (iI (i + 1))), (4, .int (iI (ac + 0))), (0, .ref (a 0)), (1, .int (iI b)), (2, .int (iI t)), (3, .int (iI n)), (5, .int (iI 1))]) hx hb dX4_soft_49 hl (k := 6) rfl (by decide) rfl (fun ls hl => ?_)
            refine lv_goto (tgt := 15) hx hb dX4_soft_52 (by decide) ?_
            exact ih15 (i + 1) (ac + 0) (by omega) (by show ac + 0 = _; rw [Int.add_zero, hac]; exact cntE_f (by omega) h38) (by omega) ls (lv_sub hl [2, 3, 4, 5, 1, 6, 0] rfl)
          · skip
            refine ri_iconst hx hb dX4_soft_41 ?_
            refine lv_goto (tgt := 46) hx hb dX4_soft_42 (by decide) ?_
            refine ri_iadd hx hb dX4_soft_46 ?_
            refine lv_istore (lv' := [(4, .int (iI (ac + 1))), (0, .ref (a 0)), (1, .int (iI b)), (2, .int (iI t)), (3, .int (iI n)), (5, .int (iI 1)), (6, .int (iI i))]) hx hb dX4_soft_47 hl (by decide) rfl (fun ls hl => ?_)
            refine ri_iinc (lv' := [(6, .int (iI (i + 1))), (4, .int (iI (ac + 1))), (0, .ref (a 0)), (1, .int (iI b)), (2, .int (iI t)), (3, .int (iI n)), (5, .int (iI 1))]) hx hb dX4_soft_49 hl (k := 6) rfl (by decide) rfl (fun ls hl => ?_)
            refine lv_goto (tgt := 15) hx hb dX4_soft_52 (by decide) ?_
            exact ih15 (i + 1) (ac + 1) (by omega) (by show ac + 1 = _; rw [hac]; exact cntE_t (by omega) h38) (by omega) ls (lv_sub hl [2, 3, 4, 5, 1, 6, 0] rfl)
  exact L15 65 (0) (0) (by omega) (rfl) (by decide) ls (lv_sub hl [3, 4, 5, 6, 2, 1, 0] rfl)

set_option maxHeartbeats 4000000 in
set_option maxRecDepth 100000 in
theorem k_X4_soft_no (l : Launch) (D : va_G) (a : Nat → Nat) (kk : Nat → ClassId) (g : Nat → Nat → Int) (pl : Int) (b : Int) (t : Int) (n : Int) (hA : aDs 8 a) (hM : MInv g) (yb : -2147483648 ≤ b ∧ b < 2147483648) (yt : -2147483648 ≤ t ∧ t < 2147483648) (yn : -2147483648 ≤ n ∧ n < 2147483648) (hno : (pl = 1 ∧ ¬ ((0 ≤ b ∧ b ≤ 3) ∧ (0 ≤ t ∧ t ≤ 4) ∧ (0 ≤ n ∧ n ≤ 255))) ∨ (pl = 2 ∧ ((0 ≤ b ∧ b ≤ 3) ∧ (0 ≤ t ∧ t ≤ 4) ∧ (0 ≤ n ∧ n ≤ 255)) ∧ ¬ g 3 (5 * b + t).toNat = 1)) : WI l yX4_soft wsX4_soft ({ frames := 3, cells := 0, slots := 0, locals := 66 }) [.ref (a 0), .int (iI b), .int (iI t), .int (iI n)] (wB D kk (mW a kk g)) (0) (fun H => va_P D vwCl (mW a kk (thG g pl)) H) (aA 8 a) 0 0 := by
  refine ri_ent (cc := cX4_soft) (maxL := 7) (ret := some .int) (by decide) rfl (Nat.le_of_ble_eq_true rfl) ?_
  intro zp ze s zm zb zt zc hx hb hr hts hown hlocks hml hin hB ls hl
  have hown : s.vm.findClass RX4 = some zm.cls := hown
  have CF : CallFix zp zm zc cX4_soft 7 s ([.ref (a 0), .int (iI b), .int (iI t), .int (iI n)] : List Value).toArray wsX4_soft RX4 := ⟨hx, hb, hml, hown, hts⟩
  obtain ⟨hP, hK, hN⟩ := hB
  have hS : va_S (aA 8 a) s.heap s.heap [] := va_S.rf
  have hl : lv_has ls 7 [(0, .ref (a 0)), (1, .int (iI b)), (2, .int (iI t)), (3, .int (iI n))] := hl
  refine ri_iconst hx hb dX4_soft_0 ?_
  refine lv_istore (lv' := [(4, .int (iI 0)), (0, .ref (a 0)), (1, .int (iI b)), (2, .int (iI t)), (3, .int (iI n))]) hx hb dX4_soft_1 hl (by decide) rfl (fun ls hl => ?_)
  refine lv_aload_n hx hb dX4_soft_3 rfl (lv_at hl 1 rfl) ?_
  refine lv_iload_n hx hb dX4_soft_4 rfl (lv_at hl 2 rfl) ?_
  refine lv_iload_n hx hb dX4_soft_5 rfl (lv_at hl 3 rfl) ?_
  refine lv_iload_n hx hb dX4_soft_6 rfl (lv_at hl 4 rfl) ?_
  refine ri_wi (v := 0) (PP := fun H => va_P D vwCl (mW a kk (thG g pl)) H) (ri_runV (b := a 0) (As := [.int (iI b), .int (iI t), .int (iI n)]) (rest := []) CF (k_X4_canCompare_no l D a kk g pl b t n hA hM (by omega) (by omega) (by omega) (hno)) gX4_soft_X4_canCompare f_X4_canCompare rfl (va_recv hK hP (ci := 4) (q0 := 0) rfl rfl) ⟨rfl, rfl, Nat.le_of_ble_eq_true rfl, Nat.le_of_ble_eq_true rfl, Nat.le_of_ble_eq_true rfl, Nat.le_of_ble_eq_true rfl⟩ wB_bl (wB_in hP hK hN) rfl hl.1 rfl (Nat.le_of_ble_eq_true rfl) dX4_soft_7) hS (fun _ h => h) (fun H locs hP _ hS => ?_)
  replace hP : va_P D vwCl (mW a kk (thG g pl)) H := hP
  refine lv_istore (lv' := [(5, .int (iI 0)), (4, .int (iI 0)), (0, .ref (a 0)), (1, .int (iI b)), (2, .int (iI t)), (3, .int (iI n))]) hx hb dX4_soft_10 hl (by decide) rfl (fun ls hl => ?_)
  refine ri_iconst hx hb dX4_soft_12 ?_
  refine lv_istore (lv' := [(6, .int (iI 0)), (5, .int (iI 0)), (4, .int (iI 0)), (0, .ref (a 0)), (1, .int (iI b)), (2, .int (iI t)), (3, .int (iI n))]) hx hb dX4_soft_13 hl (by decide) rfl (fun ls hl => ?_)
  refine lv_iload hx hb dX4_soft_15 (lv_at hl 0 rfl) ?_
  refine ri_bipush hx hb dX4_soft_17 (by decide) ?_
  refine ri_icmp_ge (tgt := 55) hx hb (by omega) dX4_soft_19 (by decide) (fun c_1 => ?_) (fun c_1 => ?_)
  · skip
    exfalso; omega
  · skip
    refine lv_iload hx hb dX4_soft_22 (lv_at hl 1 rfl) ?_
    refine ri_if_eq (tgt := 55) hx hb (by omega) dX4_soft_24 (by decide) (fun c_2 => ?_) (fun c_2 => ?_)
    · skip
      refine lv_iload hx hb dX4_soft_55 (lv_at hl 2 rfl) ?_
      exact ri_iretW (A := (aA 8 a)) (PP := (fun H => va_P D vwCl (mW a kk (thG g pl)) H)) hx hb hr hlocks hS (hP) dX4_soft_57 (rfl)
    · skip
      exfalso; omega

theorem f_X4_run : MF yX4_run wsX4_run cX4_run 6 (some .boolean) 3 := ⟨⟨_, rfl⟩, by decide +kernel, by decide +kernel, by decide +kernel⟩
set_option maxHeartbeats 4000000 in
set_option maxRecDepth 100000 in
theorem k_X4_run_ok (l : Launch) (D : va_G) (a : Nat → Nat) (kk : Nat → ClassId) (g : Nat → Nat → Int) (b : Int) (t : Int) (n : Int) (hA : aDs 8 a) (hM : MInv g) (yb : -2147483648 ≤ b ∧ b < 2147483648) (yt : -2147483648 ≤ t ∧ t < 2147483648) (yn : -2147483648 ≤ n ∧ n < 2147483648) (hok : ((0 ≤ b ∧ b ≤ 3) ∧ (0 ≤ t ∧ t ≤ 4) ∧ (0 ≤ n ∧ n ≤ 255)) ∧ g 3 (5 * b + t).toNat = 1) : WI l yX4_run wsX4_run ({ frames := 5, cells := 0, slots := 0, locals := 128 }) [.ref (a 0), .int (iI b), .int (iI t), .int (iI n)] (wB D kk (mW a kk g)) (bp (fdE (cmpD (px (g 1) t) (px (g 2) (5 * b + t)) n (g 4 (4 * t).toNat) (g 4 (4 * t + 1).toNat) (g 4 (4 * t).toNat + g 4 (4 * t + 2).toNat) (g 4 (4 * t + 1).toNat + g 4 (4 * t + 3).toNat) (g 5 (4 * t).toNat) (g 5 (4 * t + 1).toNat) (g 5 (4 * t).toNat + g 5 (4 * t + 2).toNat) (g 5 (4 * t + 1).toNat + g 5 (4 * t + 3).toNat)) = -1)) (fun H => va_P D vwCl (mW a kk (mhG (mvG (thG g 0) (fitP (px (g 1) t) (px (g 2) (5 * b + t)) n (g 4 (4 * t).toNat) (g 4 (4 * t + 1).toNat) (g 4 (4 * t).toNat + g 4 (4 * t + 2).toNat) (g 4 (4 * t + 1).toNat + g 4 (4 * t + 3).toNat))) t (bp (fdE (cmpD (px (g 1) t) (px (g 2) (5 * b + t)) n (g 4 (4 * t).toNat) (g 4 (4 * t + 1).toNat) (g 4 (4 * t).toNat + g 4 (4 * t + 2).toNat) (g 4 (4 * t + 1).toNat + g 4 (4 * t + 3).toNat) (g 5 (4 * t).toNat) (g 5 (4 * t + 1).toNat) (g 5 (4 * t).toNat + g 5 (4 * t + 2).toNat) (g 5 (4 * t + 1).toNat + g 5 (4 * t + 3).toNat)) = -1)))) H) (aA 8 a) 0 0 := by
  refine ri_ent (cc := cX4_run) (maxL := 6) (ret := some .boolean) (by decide) rfl (Nat.le_of_ble_eq_true rfl) ?_
  intro zp ze s zm zb zt zc hx hb hr hts hown hlocks hml hin hB ls hl
  have hown : s.vm.findClass RX4 = some zm.cls := hown
  have CF : CallFix zp zm zc cX4_run 6 s ([.ref (a 0), .int (iI b), .int (iI t), .int (iI n)] : List Value).toArray wsX4_run RX4 := ⟨hx, hb, hml, hown, hts⟩
  obtain ⟨hP, hK, hN⟩ := hB
  have hinX4 : ∀ w ∈ wsX40, w ∈ wsX4_run := (fun _ h => List.mem_cons_of_mem _ (List.mem_append_right _ h))
  have hS : va_S (aA 8 a) s.heap s.heap [] := va_S.rf
  have hl : lv_has ls 6 [(0, .ref (a 0)), (1, .int (iI b)), (2, .int (iI t)), (3, .int (iI n))] := hl
  obtain ⟨⟨o1, o2, o3⟩, o4⟩ := id hok
  have h7 := hM.2.2.2.2.2.1 t.toNat (by omega)
  refine lv_aload_n hx hb dX4_run_0 rfl (lv_at hl 0 rfl) ?_
  refine lv_iload_n hx hb dX4_run_1 rfl (lv_at hl 1 rfl) ?_
  refine lv_iload_n hx hb dX4_run_2 rfl (lv_at hl 2 rfl) ?_
  refine lv_iload_n hx hb dX4_run_3 rfl (lv_at hl 3 rfl) ?_
  refine ri_wi (v := 1) (PP := fun H => va_P D vwCl (mW a kk (mvG (thG g 0) (fitP (px (g 1) t) (px (g 2) (5 * b + t)) n (g 4 (4 * t).toNat) (g 4 (4 * t + 1).toNat) (g 4 (4 * t).toNat + g 4 (4 * t + 2).toNat) (g 4 (4 * t + 1).toNat + g 4 (4 * t + 3).toNat)))) H) (ri_runV (b := a 0) (As := [.int (iI b), .int (iI t), .int (iI n)]) (rest := []) CF (k_X4_canCompare_ok l D a kk g b t n hA hM (by omega) (by omega) (by omega) (hok)) gX4_run_X4_canCompare f_X4_canCompare rfl (va_recv hK hP (ci := 4) (q0 := 0) rfl rfl) ⟨rfl, rfl, Nat.le_of_ble_eq_true rfl, Nat.le_of_ble_eq_true rfl, Nat.le_of_ble_eq_true rfl, Nat.le_of_ble_eq_true rfl⟩ wB_bl (wB_in hP hK hN) rfl hl.1 rfl (Nat.le_of_ble_eq_true rfl) dX4_run_4) hS (fun _ h => h) (fun H locs hP _ hS => ?_)
  replace hP : va_P D vwCl (mW a kk (mvG (thG g 0) (fitP (px (g 1) t) (px (g 2) (5 * b + t)) n (g 4 (4 * t).toNat) (g 4 (4 * t + 1).toNat) (g 4 (4 * t).toNat + g 4 (4 * t + 2).toNat) (g 4 (4 * t + 1).toNat + g 4 (4 * t + 3).toNat)))) H := hP
  have hM1 := MInv_mv (fitP (px (g 1) t) (px (g 2) (5 * b + t)) n (g 4 (4 * t).toNat) (g 4 (4 * t + 1).toNat) (g 4 (4 * t).toNat + g 4 (4 * t + 2).toNat) (g 4 (4 * t + 1).toNat + g 4 (4 * t + 3).toNat)) (MInv_th hM 0)
  refine ri_if_ne (tgt := 12) hx hb (by omega) dX4_run_7 (by decide) (fun c_1 => ?_) (fun c_1 => ?_)
  · skip
    refine lv_aload_n hx hb dX4_run_12 rfl (lv_at hl 0 rfl) ?_
    refine lv_iload_n hx hb dX4_run_13 rfl (lv_at hl 1 rfl) ?_
    refine lv_iload_n hx hb dX4_run_14 rfl (lv_at hl 2 rfl) ?_
    refine lv_iload_n hx hb dX4_run_15 rfl (lv_at hl 3 rfl) ?_
    refine ri_rd (ri_runV (b := a 0) (As := [.int (iI b), .int (iI t), .int (iI n)]) (rest := []) CF (k_X4_first l D a kk (mvG (thG g 0) (fitP (px (g 1) t) (px (g 2) (5 * b + t)) n (g 4 (4 * t).toNat) (g 4 (4 * t + 1).toNat) (g 4 (4 * t).toNat + g 4 (4 * t + 2).toNat) (g 4 (4 * t + 1).toNat + g 4 (4 * t + 3).toNat))) b t n hM1 (by omega) (by omega) (by omega)) gX4_run_X4_first f_X4_first rfl (va_recv hK hP (ci := 4) (q0 := 0) rfl rfl) ⟨rfl, rfl, Nat.le_of_ble_eq_true rfl, Nat.le_of_ble_eq_true rfl, Nat.le_of_ble_eq_true rfl, Nat.le_of_ble_eq_true rfl⟩ wB_bl (wB_in hP hK hN) rfl hl.1 rfl (Nat.le_of_ble_eq_true rfl) dX4_run_16) ?_
    refine ri_eq (y := fdE (cmpD (px (g 1) t) (px (g 2) (5 * b + t)) n (g 4 (4 * t).toNat) (g 4 (4 * t + 1).toNat) (g 4 (4 * t).toNat + g 4 (4 * t + 2).toNat) (g 4 (4 * t + 1).toNat + g 4 (4 * t + 3).toNat) (g 5 (4 * t).toNat) (g 5 (4 * t + 1).toNat) (g 5 (4 * t).toNat + g 5 (4 * t + 2).toNat) (g 5 (4 * t + 1).toNat + g 5 (4 * t + 3).toNat))) (rfl) ?_
    have hfr := fdE_rr (cmpD (px (g 1) t) (px (g 2) (5 * b + t)) n (g 4 (4 * t).toNat) (g 4 (4 * t + 1).toNat) (g 4 (4 * t).toNat + g 4 (4 * t + 2).toNat) (g 4 (4 * t + 1).toNat + g 4 (4 * t + 3).toNat) (g 5 (4 * t).toNat) (g 5 (4 * t + 1).toNat) (g 5 (4 * t).toNat + g 5 (4 * t + 2).toNat) (g 5 (4 * t + 1).toNat + g 5 (4 * t + 3).toNat))
    have J28 : W zp l ze ({ frames := 5, cells := 0, slots := 0, locals := 128 }) s zm ([.ref (a 0), .int (iI b), .int (iI t), .int (iI n)] : List Value).toArray zb zt zc H locs (0 + 0) (0 + 0) (MQ zb (va_Qi (fun (r9 : Int32) (_ : Unit) => r9 = iI (bp (fdE (cmpD (px (g 1) t) (px (g 2) (5 * b + t)) n (g 4 (4 * t).toNat) (g 4 (4 * t + 1).toNat) (g 4 (4 * t).toNat + g 4 (4 * t + 2).toNat) (g 4 (4 * t + 1).toNat + g 4 (4 * t + 3).toNat) (g 5 (4 * t).toNat) (g 5 (4 * t + 1).toNat) (g 5 (4 * t).toNat + g 5 (4 * t + 2).toNat) (g 5 (4 * t + 1).toNat + g 5 (4 * t + 3).toNat)) = -1))) (fun _ t9 => (fun H => va_P D vwCl (mW a kk (mhG (mvG (thG g 0) (fitP (px (g 1) t) (px (g 2) (5 * b + t)) n (g 4 (4 * t).toNat) (g 4 (4 * t + 1).toNat) (g 4 (4 * t).toNat + g 4 (4 * t + 2).toNat) (g 4 (4 * t + 1).toNat + g 4 (4 * t + 3).toNat))) t (bp (fdE (cmpD (px (g 1) t) (px (g 2) (5 * b + t)) n (g 4 (4 * t).toNat) (g 4 (4 * t + 1).toNat) (g 4 (4 * t).toNat + g 4 (4 * t + 2).toNat) (g 4 (4 * t + 1).toNat + g 4 (4 * t + 3).toNat) (g 5 (4 * t).toNat) (g 5 (4 * t + 1).toNat) (g 5 (4 * t).toNat + g 5 (4 * t + 2).toNat) (g 5 (4 * t + 1).toNat + g 5 (4 * t + 3).toNat)) = -1)))) H) t9.heap) (aA 8 a)) ([.ref (a 0), .int (iI b), .int (iI t), .int (iI n)] : List Value).toArray s 0 0 (aA 8 a)) (F0 zm 28 ls [.int (iI (bp (fdE (cmpD (px (g 1) t) (px (g 2) (5 * b + t)) n (g 4 (4 * t).toNat) (g 4 (4 * t + 1).toNat) (g 4 (4 * t).toNat + g 4 (4 * t + 2).toNat) (g 4 (4 * t + 1).toNat + g 4 (4 * t + 3).toNat) (g 5 (4 * t).toNat) (g 5 (4 * t + 1).toNat) (g 5 (4 * t).toNat + g 5 (4 * t + 2).toNat) (g 5 (4 * t + 1).toNat + g 5 (4 * t + 3).toNat)) = -1)))]) := by
      refine lv_istore (lv' := [(4, .int (iI (bp (fdE (cmpD (px (g 1) t) (px (g 2) (5 * b + t)) n (g 4 (4 * t).toNat) (g 4 (4 * t + 1).toNat) (g 4 (4 * t).toNat + g 4 (4 * t + 2).toNat) (g 4 (4 * t + 1).toNat + g 4 (4 * t + 3).toNat) (g 5 (4 * t).toNat) (g 5 (4 * t + 1).toNat) (g 5 (4 * t).toNat + g 5 (4 * t + 2).toNat) (g 5 (4 * t + 1).toNat + g 5 (4 * t + 3).toNat)) = -1)))), (0, .ref (a 0)), (1, .int (iI b)), (2, .int (iI t)), (3, .int (iI n))]) hx hb dX4_run_28 hl (by decide) rfl (fun ls hl => ?_)
      refine lv_aload_n hx hb dX4_run_30 rfl (lv_at hl 1 rfl) ?_
      refine va_get (D := D) (ci := 4) (v := .ref (a 7)) (C := RX4) (T := TX4) (N := 10) hx hb hts hinX4 hown hK hP 0 rfl rfl 7 (by decide) (hts _ (List.mem_of_getElem? (i := 1) rfl)) (fun _ h9 => h9) rfl dX4_run_31 ?_
      refine lv_iload_n hx hb dX4_run_34 rfl (lv_at hl 3 rfl) ?_
      refine ri_iald hx hb hK hP 7 0 rfl rfl (by omega) (by decide) dX4_run_35 ?_
      refine ri_eq (y := g 7 t.toNat) (rfl) ?_
      refine ri_bipush hx hb dX4_run_36 (by decide) ?_
      refine ri_icmp_ne (tgt := 93) hx hb (by omega) dX4_run_38 (by decide) (fun h38 => ?_) (fun h38 => ?_)
      · skip
        refine lv_aload_n hx hb dX4_run_93 rfl (lv_at hl 1 rfl) ?_
        refine va_get (D := D) (ci := 4) (v := .ref (a 6)) (C := RX4) (T := TX4) (N := 10) hx hb hts hinX4 hown hK hP 0 rfl rfl 6 (by decide) (hts _ (List.mem_of_getElem? (i := 2) rfl)) (fun _ h9 => h9) rfl dX4_run_94 ?_
        refine ri_bipush hx hb dX4_run_97 (by decide) ?_
        refine lv_iload_n hx hb dX4_run_99 rfl (lv_at hl 3 rfl) ?_
        refine ri_imul hx hb dX4_run_100 ?_
        refine lv_aload_n hx hb dX4_run_101 rfl (lv_at hl 1 rfl) ?_
        refine va_get (D := D) (ci := 4) (v := .ref (a 7)) (C := RX4) (T := TX4) (N := 10) hx hb hts hinX4 hown hK hP 0 rfl rfl 7 (by decide) (hts _ (List.mem_of_getElem? (i := 1) rfl)) (fun _ h9 => h9) rfl dX4_run_102 ?_
        refine lv_iload_n hx hb dX4_run_105 rfl (lv_at hl 3 rfl) ?_
        refine ri_iald hx hb hK hP 7 0 rfl rfl (by omega) (by decide) dX4_run_106 ?_
        refine ri_eq (y := g 7 t.toNat) (rfl) ?_
        refine ri_iadd hx hb dX4_run_107 ?_
        refine lv_iload hx hb dX4_run_108 (lv_at hl 0 rfl) ?_
        refine ri_ifeq_b (tgt := 117) hx hb dX4_run_110 (by decide) (fun h110 => ?_) (fun h110 => ?_)
        · skip
          refine ri_iconst hx hb dX4_run_117 ?_
          refine ri_iast hx hb hK hP (mD hA) hS 6 0 rfl rfl (by omega) (by decide) dX4_run_118 (fun H locs hP hS => ?_)
          replace hP := mS.2.2.2.2.2.1 hP
          refine lv_aload_n hx hb dX4_run_119 rfl (lv_at hl 1 rfl) ?_
          refine va_get (D := D) (ci := 4) (v := .ref (a 7)) (C := RX4) (T := TX4) (N := 10) hx hb hts hinX4 hown hK hP 0 rfl rfl 7 (by decide) (hts _ (List.mem_of_getElem? (i := 1) rfl)) (fun _ h9 => h9) rfl dX4_run_120 ?_
          refine lv_iload_n hx hb dX4_run_123 rfl (lv_at hl 3 rfl) ?_
          refine lv_dup2_11 hx hb dX4_run_124 rfl rfl ?_
          refine ri_iald hx hb hK hP 7 0 rfl rfl (by omega) (by decide) dX4_run_125 ?_
          refine ri_eq (y := g 7 t.toNat) (rfl) ?_
          refine ri_iconst hx hb dX4_run_126 ?_
          refine ri_iadd hx hb dX4_run_127 ?_
          refine ri_eq (y := g 7 t.toNat + 1) (rfl) ?_
          refine ri_iast hx hb hK hP (mD hA) hS 7 0 rfl rfl (by omega) (by decide) dX4_run_128 (fun H locs hP hS => ?_)
          replace hP := mS.2.2.2.2.2.2 hP
          refine lv_iload hx hb dX4_run_129 (lv_at hl 0 rfl) ?_
          exact ri_zretW (A := (aA 8 a)) (PP := (fun H => va_P D vwCl (mW a kk (mhG (mvG (thG g 0) (fitP (px (g 1) t) (px (g 2) (5 * b + t)) n (g 4 (4 * t).toNat) (g 4 (4 * t + 1).toNat) (g 4 (4 * t).toNat + g 4 (4 * t + 2).toNat) (g 4 (4 * t + 1).toNat + g 4 (4 * t + 3).toNat))) t (bp (fdE (cmpD (px (g 1) t) (px (g 2) (5 * b + t)) n (g 4 (4 * t).toNat) (g 4 (4 * t + 1).toNat) (g 4 (4 * t).toNat + g 4 (4 * t + 2).toNat) (g 4 (4 * t + 1).toNat + g 4 (4 * t + 3).toNat) (g 5 (4 * t).toNat) (g 5 (4 * t + 1).toNat) (g 5 (4 * t).toNat + g 5 (4 * t + 2).toNat) (g 5 (4 * t + 1).toNat + g 5 (4 * t + 3).toNat)) = -1)))) H)) hx hb hr hlocks hS (by show va_P D vwCl (mW a kk (mhG (mvG (thG g 0) (fitP (px (g 1) t) (px (g 2) (5 * b + t)) n (g 4 (4 * t).toNat) (g 4 (4 * t + 1).toNat) (g 4 (4 * t).toNat + g 4 (4 * t + 2).toNat) (g 4 (4 * t + 1).toNat + g 4 (4 * t + 3).toNat))) t (bp (fdE (cmpD (px (g 1) t) (px (g 2) (5 * b + t)) n (g 4 (4 * t).toNat) (g 4 (4 * t + 1).toNat) (g 4 (4 * t).toNat + g 4 (4 * t + 2).toNat) (g 4 (4 * t + 1).toNat + g 4 (4 * t + 3).toNat) (g 5 (4 * t).toNat) (g 5 (4 * t + 1).toNat) (g 5 (4 * t).toNat + g 5 (4 * t + 2).toNat) (g 5 (4 * t + 1).toNat + g 5 (4 * t + 3).toNat)) = -1)))) _; rw [mhG_n (g := mvG (thG g 0) (fitP (px (g 1) t) (px (g 2) (5 * b + t)) n (g 4 (4 * t).toNat) (g 4 (4 * t + 1).toNat) (g 4 (4 * t).toNat + g 4 (4 * t + 2).toNat) (g 4 (4 * t + 1).toNat + g 4 (4 * t + 3).toNat))) h38, bp_f h110]; exact hP) (bp_01 _) dX4_run_131 (rfl)
        · skip
          refine ri_iconst hx hb dX4_run_113 ?_
          refine lv_goto (tgt := 118) hx hb dX4_run_114 (by decide) ?_
          refine ri_iast hx hb hK hP (mD hA) hS 6 0 rfl rfl (by omega) (by decide) dX4_run_118 (fun H locs hP hS => ?_)
          replace hP := mS.2.2.2.2.2.1 hP
          refine lv_aload_n hx hb dX4_run_119 rfl (lv_at hl 1 rfl) ?_
          refine va_get (D := D) (ci := 4) (v := .ref (a 7)) (C := RX4) (T := TX4) (N := 10) hx hb hts hinX4 hown hK hP 0 rfl rfl 7 (by decide) (hts _ (List.mem_of_getElem? (i := 1) rfl)) (fun _ h9 => h9) rfl dX4_run_120 ?_
          refine lv_iload_n hx hb dX4_run_123 rfl (lv_at hl 3 rfl) ?_
          refine lv_dup2_11 hx hb dX4_run_124 rfl rfl ?_
          refine ri_iald hx hb hK hP 7 0 rfl rfl (by omega) (by decide) dX4_run_125 ?_
          refine ri_eq (y := g 7 t.toNat) (rfl) ?_
          refine ri_iconst hx hb dX4_run_126 ?_
          refine ri_iadd hx hb dX4_run_127 ?_
          refine ri_eq (y := g 7 t.toNat + 1) (rfl) ?_
          refine ri_iast hx hb hK hP (mD hA) hS 7 0 rfl rfl (by omega) (by decide) dX4_run_128 (fun H locs hP hS => ?_)
          replace hP := mS.2.2.2.2.2.2 hP
          refine lv_iload hx hb dX4_run_129 (lv_at hl 0 rfl) ?_
          exact ri_zretW (A := (aA 8 a)) (PP := (fun H => va_P D vwCl (mW a kk (mhG (mvG (thG g 0) (fitP (px (g 1) t) (px (g 2) (5 * b + t)) n (g 4 (4 * t).toNat) (g 4 (4 * t + 1).toNat) (g 4 (4 * t).toNat + g 4 (4 * t + 2).toNat) (g 4 (4 * t + 1).toNat + g 4 (4 * t + 3).toNat))) t (bp (fdE (cmpD (px (g 1) t) (px (g 2) (5 * b + t)) n (g 4 (4 * t).toNat) (g 4 (4 * t + 1).toNat) (g 4 (4 * t).toNat + g 4 (4 * t + 2).toNat) (g 4 (4 * t + 1).toNat + g 4 (4 * t + 3).toNat) (g 5 (4 * t).toNat) (g 5 (4 * t + 1).toNat) (g 5 (4 * t).toNat + g 5 (4 * t + 2).toNat) (g 5 (4 * t + 1).toNat + g 5 (4 * t + 3).toNat)) = -1)))) H)) hx hb hr hlocks hS (by show va_P D vwCl (mW a kk (mhG (mvG (thG g 0) (fitP (px (g 1) t) (px (g 2) (5 * b + t)) n (g 4 (4 * t).toNat) (g 4 (4 * t + 1).toNat) (g 4 (4 * t).toNat + g 4 (4 * t + 2).toNat) (g 4 (4 * t + 1).toNat + g 4 (4 * t + 3).toNat))) t (bp (fdE (cmpD (px (g 1) t) (px (g 2) (5 * b + t)) n (g 4 (4 * t).toNat) (g 4 (4 * t + 1).toNat) (g 4 (4 * t).toNat + g 4 (4 * t + 2).toNat) (g 4 (4 * t + 1).toNat + g 4 (4 * t + 3).toNat) (g 5 (4 * t).toNat) (g 5 (4 * t + 1).toNat) (g 5 (4 * t).toNat + g 5 (4 * t + 2).toNat) (g 5 (4 * t + 1).toNat + g 5 (4 * t + 3).toNat)) = -1)))) _; rw [mhG_n (g := mvG (thG g 0) (fitP (px (g 1) t) (px (g 2) (5 * b + t)) n (g 4 (4 * t).toNat) (g 4 (4 * t + 1).toNat) (g 4 (4 * t).toNat + g 4 (4 * t + 2).toNat) (g 4 (4 * t + 1).toNat + g 4 (4 * t + 3).toNat))) h38, bp_t h110]; exact hP) (bp_01 _) dX4_run_131 (rfl)
      · skip
        refine ri_iconst hx hb dX4_run_41 ?_
        refine lv_istore (lv' := [(5, .int (iI 1)), (4, .int (iI (bp (fdE (cmpD (px (g 1) t) (px (g 2) (5 * b + t)) n (g 4 (4 * t).toNat) (g 4 (4 * t + 1).toNat) (g 4 (4 * t).toNat + g 4 (4 * t + 2).toNat) (g 4 (4 * t + 1).toNat + g 4 (4 * t + 3).toNat) (g 5 (4 * t).toNat) (g 5 (4 * t + 1).toNat) (g 5 (4 * t).toNat + g 5 (4 * t + 2).toNat) (g 5 (4 * t + 1).toNat + g 5 (4 * t + 3).toNat)) = -1)))), (0, .ref (a 0)), (1, .int (iI b)), (2, .int (iI t)), (3, .int (iI n))]) hx hb dX4_run_42 hl (by decide) rfl (fun ls hl => ?_)
        have L44 : ∀ (n44 : Nat) (k : Nat), (k ≤ 9) → (9 - k < n44) → ∀ (H : Heap) (locs : List Loc), va_P D vwCl (mW a kk (updG (mvG (thG g 0) (fitP (px (g 1) t) (px (g 2) (5 * b + t)) n (g 4 (4 * t).toNat) (g 4 (4 * t + 1).toNat) (g 4 (4 * t).toNat + g 4 (4 * t + 2).toNat) (g 4 (4 * t + 1).toNat + g 4 (4 * t + 3).toNat))) 6 (shK (g 6) (10 * t).toNat k))) H → va_S (aA 8 a) s.heap H locs → ∀ (ls : Array Slot), lv_has ls 6 [(0, .ref (a 0)), (1, .int (iI b)), (2, .int (iI t)), (3, .int (iI n)), (4, .int (iI (bp (fdE (cmpD (px (g 1) t) (px (g 2) (5 * b + t)) n (g 4 (4 * t).toNat) (g 4 (4 * t + 1).toNat) (g 4 (4 * t).toNat + g 4 (4 * t + 2).toNat) (g 4 (4 * t + 1).toNat + g 4 (4 * t + 3).toNat) (g 5 (4 * t).toNat) (g 5 (4 * t + 1).toNat) (g 5 (4 * t).toNat + g 5 (4 * t + 2).toNat) (g 5 (4 * t + 1).toNat + g 5 (4 * t + 3).toNat)) = -1)))), (5, .int (iI ((k : Int) + 1)))] → W zp l ze ({ frames := 5, cells := 0, slots := 0, locals := 128 }) s zm ([.ref (a 0), .int (iI b), .int (iI t), .int (iI n)] : List Value).toArray zb zt zc H locs (0 + 0) (0 + 0) (MQ zb (va_Qi (fun (r9 : Int32) (_ : Unit) => r9 = iI (bp (fdE (cmpD (px (g 1) t) (px (g 2) (5 * b + t)) n (g 4 (4 * t).toNat) (g 4 (4 * t + 1).toNat) (g 4 (4 * t).toNat + g 4 (4 * t + 2).toNat) (g 4 (4 * t + 1).toNat + g 4 (4 * t + 3).toNat) (g 5 (4 * t).toNat) (g 5 (4 * t + 1).toNat) (g 5 (4 * t).toNat + g 5 (4 * t + 2).toNat) (g 5 (4 * t + 1).toNat + g 5 (4 * t + 3).toNat)) = -1))) (fun _ t9 => (fun H => va_P D vwCl (mW a kk (mhG (mvG (thG g 0) (fitP (px (g 1) t) (px (g 2) (5 * b + t)) n (g 4 (4 * t).toNat) (g 4 (4 * t + 1).toNat) (g 4 (4 * t).toNat + g 4 (4 * t + 2).toNat) (g 4 (4 * t + 1).toNat + g 4 (4 * t + 3).toNat))) t (bp (fdE (cmpD (px (g 1) t) (px (g 2) (5 * b + t)) n (g 4 (4 * t).toNat) (g 4 (4 * t + 1).toNat) (g 4 (4 * t).toNat + g 4 (4 * t + 2).toNat) (g 4 (4 * t + 1).toNat + g 4 (4 * t + 3).toNat) (g 5 (4 * t).toNat) (g 5 (4 * t + 1).toNat) (g 5 (4 * t).toNat + g 5 (4 * t + 2).toNat) (g 5 (4 * t + 1).toNat + g 5 (4 * t + 3).toNat)) = -1)))) H) t9.heap) (aA 8 a)) ([.ref (a 0), .int (iI b), .int (iI t), .int (iI n)] : List Value).toArray s 0 0 (aA 8 a)) (F0 zm 44 ls []) := by
          intro n44
          induction n44 with
          | zero => intro k hk hm; exact absurd hm (Nat.not_lt_zero _)
          | succ n44 ih44 =>
            intro k hk hm44 H locs hP hS ls hl
            refine lv_iload hx hb dX4_run_44 (lv_at hl 5 rfl) ?_
            refine ri_bipush hx hb dX4_run_46 (by decide) ?_
            refine ri_icmp_ge (tgt := 83) hx hb (by omega) dX4_run_48 (by decide) (fun h48 => ?_) (fun h48 => ?_)
            · skip
              rw [show k = 9 by omega] at hP
              refine lv_aload_n hx hb dX4_run_83 rfl (lv_at hl 0 rfl) ?_
              refine va_get (D := D) (ci := 4) (v := .ref (a 7)) (C := RX4) (T := TX4) (N := 10) hx hb hts hinX4 hown hK hP 0 rfl rfl 7 (by decide) (hts _ (List.mem_of_getElem? (i := 1) rfl)) (fun _ h9 => h9) rfl dX4_run_84 ?_
              refine lv_iload_n hx hb dX4_run_87 rfl (lv_at hl 2 rfl) ?_
              refine lv_dup2_11 hx hb dX4_run_88 rfl rfl ?_
              refine ri_iald hx hb hK hP 7 0 rfl rfl (by omega) (by decide) dX4_run_89 ?_
              refine ri_eq (y := g 7 t.toNat) (rfl) ?_
              refine ri_iconst hx hb dX4_run_90 ?_
              refine ri_isub hx hb dX4_run_91 ?_
              refine ri_eq (y := 9) (by omega) ?_
              refine ri_iast hx hb hK hP (mD hA) hS 7 0 rfl rfl (by omega) (by decide) dX4_run_92 (fun H locs hP hS => ?_)
              replace hP := mS.2.2.2.2.2.2 hP
              refine lv_aload_n hx hb dX4_run_93 rfl (lv_at hl 0 rfl) ?_
              refine va_get (D := D) (ci := 4) (v := .ref (a 6)) (C := RX4) (T := TX4) (N := 10) hx hb hts hinX4 hown hK hP 0 rfl rfl 6 (by decide) (hts _ (List.mem_of_getElem? (i := 2) rfl)) (fun _ h9 => h9) rfl dX4_run_94 ?_
              refine ri_bipush hx hb dX4_run_97 (by decide) ?_
              refine lv_iload_n hx hb dX4_run_99 rfl (lv_at hl 2 rfl) ?_
              refine ri_imul hx hb dX4_run_100 ?_
              refine lv_aload_n hx hb dX4_run_101 rfl (lv_at hl 0 rfl) ?_
              refine va_get (D := D) (ci := 4) (v := .ref (a 7)) (C := RX4) (T := TX4) (N := 10) hx hb hts hinX4 hown hK hP 0 rfl rfl 7 (by decide) (hts _ (List.mem_of_getElem? (i := 1) rfl)) (fun _ h9 => h9) rfl dX4_run_102 ?_
              refine lv_iload_n hx hb dX4_run_105 rfl (lv_at hl 2 rfl) ?_
              refine ri_iald hx hb hK hP 7 0 rfl rfl (by omega) (by decide) dX4_run_106 ?_
              refine ri_eq (y := 9) (by show updI (g 7) t.toNat 9 t.toNat = 9; unfold updI; rw [if_pos rfl]) ?_
              refine ri_iadd hx hb dX4_run_107 ?_
              refine lv_iload hx hb dX4_run_108 (lv_at hl 4 rfl) ?_
              refine ri_ifeq_b (tgt := 117) hx hb dX4_run_110 (by decide) (fun h110 => ?_) (fun h110 => ?_)
              · skip
                refine ri_iconst hx hb dX4_run_117 ?_
                refine ri_iast hx hb hK hP (mD hA) hS 6 0 rfl rfl (by omega) (by decide) dX4_run_118 (fun H locs hP hS => ?_)
                replace hP := mS.2.2.2.2.2.1 hP
                refine lv_aload_n hx hb dX4_run_119 rfl (lv_at hl 0 rfl) ?_
                refine va_get (D := D) (ci := 4) (v := .ref (a 7)) (C := RX4) (T := TX4) (N := 10) hx hb hts hinX4 hown hK hP 0 rfl rfl 7 (by decide) (hts _ (List.mem_of_getElem? (i := 1) rfl)) (fun _ h9 => h9) rfl dX4_run_120 ?_
                refine lv_iload_n hx hb dX4_run_123 rfl (lv_at hl 2 rfl) ?_
                refine lv_dup2_11 hx hb dX4_run_124 rfl rfl ?_
                refine ri_iald hx hb hK hP 7 0 rfl rfl (by omega) (by decide) dX4_run_125 ?_
                refine ri_eq (y := 9) (by show updI (g 7) t.toNat 9 t.toNat = 9; unfold updI; rw [if_pos rfl]) ?_
                refine ri_iconst hx hb dX4_run_126 ?_
                refine ri_iadd hx hb dX4_run_127 ?_
                refine ri_eq (y := 10) (rfl) ?_
                refine ri_iast hx hb hK hP (mD hA) hS 7 0 rfl rfl (by omega) (by decide) dX4_run_128 (fun H locs hP hS => ?_)
                replace hP := mS.2.2.2.2.2.2 hP
                refine lv_iload hx hb dX4_run_129 (lv_at hl 4 rfl) ?_
                exact ri_zretW (A := (aA 8 a)) (PP := (fun H => va_P D vwCl (mW a kk (mhG (mvG (thG g 0) (fitP (px (g 1) t) (px (g 2) (5 * b + t)) n (g 4 (4 * t).toNat) (g 4 (4 * t + 1).toNat) (g 4 (4 * t).toNat + g 4 (4 * t + 2).toNat) (g 4 (4 * t + 1).toNat + g 4 (4 * t + 3).toNat))) t (bp (fdE (cmpD (px (g 1) t) (px (g 2) (5 * b + t)) n (g 4 (4 * t).toNat) (g 4 (4 * t + 1).toNat) (g 4 (4 * t).toNat + g 4 (4 * t + 2).toNat) (g 4 (4 * t + 1).toNat + g 4 (4 * t + 3).toNat) (g 5 (4 * t).toNat) (g 5 (4 * t + 1).toNat) (g 5 (4 * t).toNat + g 5 (4 * t + 2).toNat) (g 5 (4 * t + 1).toNat + g 5 (4 * t + 3).toNat)) = -1)))) H)) hx hb hr hlocks hS (by show va_P D vwCl (mW a kk (mhG (mvG (thG g 0) (fitP (px (g 1) t) (px (g 2) (5 * b + t)) n (g 4 (4 * t).toNat) (g 4 (4 * t + 1).toNat) (g 4 (4 * t).toNat + g 4 (4 * t + 2).toNat) (g 4 (4 * t + 1).toNat + g 4 (4 * t + 3).toNat))) t (bp (fdE (cmpD (px (g 1) t) (px (g 2) (5 * b + t)) n (g 4 (4 * t).toNat) (g 4 (4 * t + 1).toNat) (g 4 (4 * t).toNat + g 4 (4 * t + 2).toNat) (g 4 (4 * t + 1).toNat + g 4 (4 * t + 3).toNat) (g 5 (4 * t).toNat) (g 5 (4 * t + 1).toNat) (g 5 (4 * t).toNat + g 5 (4 * t + 2).toNat) (g 5 (4 * t + 1).toNat + g 5 (4 * t + 3).toNat)) = -1)))) _; rw [mhG_f (g := mvG (thG g 0) (fitP (px (g 1) t) (px (g 2) (5 * b + t)) n (g 4 (4 * t).toNat) (g 4 (4 * t + 1).toNat) (g 4 (4 * t).toNat + g 4 (4 * t + 2).toNat) (g 4 (4 * t + 1).toNat + g 4 (4 * t + 3).toNat))) h38, bp_f h110]; exact hP) (bp_01 _) dX4_run_131 (rfl)
              · skip
                refine ri_iconst hx hb dX4_run_113 ?_
                refine lv_goto (tgt := 118) hx hb dX4_run_114 (by decide) ?_
                refine ri_iast hx hb hK hP (mD hA) hS 6 0 rfl rfl (by omega) (by decide) dX4_run_118 (fun H locs hP hS => ?_)
                replace hP := mS.2.2.2.2.2.1 hP
                refine lv_aload_n hx hb dX4_run_119 rfl (lv_at hl 0 rfl) ?_
                refine va_get (D := D) (ci := 4) (v := .ref (a 7)) (C := RX4) (T := TX4) (N := 10) hx hb hts hinX4 hown hK hP 0 rfl rfl 7 (by decide) (hts _ (List.mem_of_getElem? (i := 1) rfl)) (fun _ h9 => h9) rfl dX4_run_120 ?_
                refine lv_iload_n hx hb dX4_run_123 rfl (lv_at hl 2 rfl) ?_
                refine lv_dup2_11 hx hb dX4_run_124 rfl rfl ?_
                refine ri_iald hx hb hK hP 7 0 rfl rfl (by omega) (by decide) dX4_run_125 ?_
                refine ri_eq (y := 9) (by show updI (g 7) t.toNat 9 t.toNat = 9; unfold updI; rw [if_pos rfl]) ?_
                refine ri_iconst hx hb dX4_run_126 ?_
                refine ri_iadd hx hb dX4_run_127 ?_
                refine ri_eq (y := 10) (rfl) ?_
                refine ri_iast hx hb hK hP (mD hA) hS 7 0 rfl rfl (by omega) (by decide) dX4_run_128 (fun H locs hP hS => ?_)
                replace hP := mS.2.2.2.2.2.2 hP
                refine lv_iload hx hb dX4_run_129 (lv_at hl 4 rfl) ?_
                exact ri_zretW (A := (aA 8 a)) (PP := (fun H => va_P D vwCl (mW a kk (mhG (mvG (thG g 0) (fitP (px (g 1) t) (px (g 2) (5 * b + t)) n (g 4 (4 * t).toNat) (g 4 (4 * t + 1).toNat) (g 4 (4 * t).toNat + g 4 (4 * t + 2).toNat) (g 4 (4 * t + 1).toNat + g 4 (4 * t + 3).toNat))) t (bp (fdE (cmpD (px (g 1) t) (px (g 2) (5 * b + t)) n (g 4 (4 * t).toNat) (g 4 (4 * t + 1).toNat) (g 4 (4 * t).toNat + g 4 (4 * t + 2).toNat) (g 4 (4 * t + 1).toNat + g 4 (4 * t + 3).toNat) (g 5 (4 * t).toNat) (g 5 (4 * t + 1).toNat) (g 5 (4 * t).toNat + g 5 (4 * t + 2).toNat) (g 5 (4 * t + 1).toNat + g 5 (4 * t + 3).toNat)) = -1)))) H)) hx hb hr hlocks hS (by show va_P D vwCl (mW a kk (mhG (mvG (thG g 0) (fitP (px (g 1) t) (px (g 2) (5 * b + t)) n (g 4 (4 * t).toNat) (g 4 (4 * t + 1).toNat) (g 4 (4 * t).toNat + g 4 (4 * t + 2).toNat) (g 4 (4 * t + 1).toNat + g 4 (4 * t + 3).toNat))) t (bp (fdE (cmpD (px (g 1) t) (px (g 2) (5 * b + t)) n (g 4 (4 * t).toNat) (g 4 (4 * t + 1).toNat) (g 4 (4 * t).toNat + g 4 (4 * t + 2).toNat) (g 4 (4 * t + 1).toNat + g 4 (4 * t + 3).toNat) (g 5 (4 * t).toNat) (g 5 (4 * t + 1).toNat) (g 5 (4 * t).toNat + g 5 (4 * t + 2).toNat) (g 5 (4 * t + 1).toNat + g 5 (4 * t + 3).toNat)) = -1)))) _; rw [mhG_f (g := mvG (thG g 0) (fitP (px (g 1) t) (px (g 2) (5 * b + t)) n (g 4 (4 * t).toNat) (g 4 (4 * t + 1).toNat) (g 4 (4 * t).toNat + g 4 (4 * t + 2).toNat) (g 4 (4 * t + 1).toNat + g 4 (4 * t + 3).toNat))) h38, bp_t h110]; exact hP) (bp_01 _) dX4_run_131 (rfl)
            · skip
              refine lv_aload_n hx hb dX4_run_51 rfl (lv_at hl 0 rfl) ?_
              refine va_get (D := D) (ci := 4) (v := .ref (a 6)) (C := RX4) (T := TX4) (N := 10) hx hb hts hinX4 hown hK hP 0 rfl rfl 6 (by decide) (hts _ (List.mem_of_getElem? (i := 2) rfl)) (fun _ h9 => h9) rfl dX4_run_52 ?_
              refine ri_bipush hx hb dX4_run_55 (by decide) ?_
              refine lv_iload_n hx hb dX4_run_57 rfl (lv_at hl 2 rfl) ?_
              refine ri_imul hx hb dX4_run_58 ?_
              refine lv_iload hx hb dX4_run_59 (lv_at hl 5 rfl) ?_
              refine ri_iadd hx hb dX4_run_61 ?_
              refine ri_iconst hx hb dX4_run_62 ?_
              refine ri_isub hx hb dX4_run_63 ?_
              refine lv_aload_n hx hb dX4_run_64 rfl (lv_at hl 0 rfl) ?_
              refine va_get (D := D) (ci := 4) (v := .ref (a 6)) (C := RX4) (T := TX4) (N := 10) hx hb hts hinX4 hown hK hP 0 rfl rfl 6 (by decide) (hts _ (List.mem_of_getElem? (i := 2) rfl)) (fun _ h9 => h9) rfl dX4_run_65 ?_
              refine ri_bipush hx hb dX4_run_68 (by decide) ?_
              refine lv_iload_n hx hb dX4_run_70 rfl (lv_at hl 2 rfl) ?_
              refine ri_imul hx hb dX4_run_71 ?_
              refine lv_iload hx hb dX4_run_72 (lv_at hl 5 rfl) ?_
              refine ri_iadd hx hb dX4_run_74 ?_
              refine ri_iald hx hb hK hP 6 0 rfl rfl (by omega) (by decide) dX4_run_75 ?_
              refine ri_eq (y := g 6 ((10 * t).toNat + k + 1)) (by show shK (g 6) (10 * t).toNat k (10 * t + ((k : Int) + 1)).toNat = _; rw [show (10 * t + ((k : Int) + 1)).toNat = (10 * t).toNat + k + 1 by omega]; exact shK_at _ _ _ _ (by omega)) ?_
              refine ri_iast hx hb hK hP (mD hA) hS 6 0 rfl rfl (by omega) (by decide) dX4_run_76 (fun H locs hP hS => ?_)
              replace hP := mS.2.2.2.2.2.1 hP
              refine ri_iinc (lv' := [(5, .int (iI (((k : Int) + 1) + 1))), (0, .ref (a 0)), (1, .int (iI b)), (2, .int (iI t)), (3, .int (iI n)), (4, .int (iI (bp (fdE (cmpD (px (g 1) t) (px (g 2) (5 * b + t)) n (g 4 (4 * t).toNat) (g 4 (4 * t + 1).toNat) (g 4 (4 * t).toNat + g 4 (4 * t + 2).toNat) (g 4 (4 * t + 1).toNat + g 4 (4 * t + 3).toNat) (g 5 (4 * t).toNat) (g 5 (4 * t + 1).toNat) (g 5 (4 * t).toNat + g 5 (4 * t + 2).toNat) (g 5 (4 * t + 1).toNat + g 5 (4 * t + 3).toNat)) = -1))))]) hx hb dX4_run_77 hl (k := 5) rfl (by decide) rfl (fun ls hl => ?_)
              refine lv_goto (tgt := 44) hx hb dX4_run_80 (by decide) ?_
              exact ih44 (k + 1) (by omega) (by omega) _ _ (by have e := shK_s (g 6) (10 * t).toNat k; rw [updG_uu, show (10 * t + ((k : Int) + 1) - 1).toNat = (10 * t).toNat + k by omega] at hP; rw [← e]; exact hP) hS ls (lv_sub hl [1, 2, 3, 4, 5, 0] rfl)
        exact L44 10 (0) (by omega) (by decide) _ _ (by rw [show shK (g 6) (10 * t).toNat 0 = g 6 from shK_0 _ _]; exact hP) hS ls (lv_sub hl [2, 3, 4, 5, 1, 0] rfl)
    refine ri_iconst hx hb dX4_run_19 ?_
    refine ri_icmp_ne (tgt := 27) hx hb (by omega) dX4_run_20 (by decide) (fun h20 => ?_) (fun h20 => ?_)
    · skip
      refine ri_iconst hx hb dX4_run_27 ?_
      exact ri_eq ((bp_f (by omega)).symm) J28
    · skip
      refine ri_iconst hx hb dX4_run_23 ?_
      refine lv_goto (tgt := 28) hx hb dX4_run_24 (by decide) ?_
      exact ri_eq ((bp_t (by omega)).symm) J28
  · skip
    exfalso; omega

set_option maxHeartbeats 4000000 in
set_option maxRecDepth 100000 in
theorem k_X4_run_no (l : Launch) (D : va_G) (a : Nat → Nat) (kk : Nat → ClassId) (g : Nat → Nat → Int) (pl : Int) (b : Int) (t : Int) (n : Int) (hA : aDs 8 a) (hM : MInv g) (yb : -2147483648 ≤ b ∧ b < 2147483648) (yt : -2147483648 ≤ t ∧ t < 2147483648) (yn : -2147483648 ≤ n ∧ n < 2147483648) (hno : (pl = 1 ∧ ¬ ((0 ≤ b ∧ b ≤ 3) ∧ (0 ≤ t ∧ t ≤ 4) ∧ (0 ≤ n ∧ n ≤ 255))) ∨ (pl = 2 ∧ ((0 ≤ b ∧ b ≤ 3) ∧ (0 ≤ t ∧ t ≤ 4) ∧ (0 ≤ n ∧ n ≤ 255)) ∧ ¬ g 3 (5 * b + t).toNat = 1)) : WI l yX4_run wsX4_run ({ frames := 3, cells := 0, slots := 0, locals := 66 }) [.ref (a 0), .int (iI b), .int (iI t), .int (iI n)] (wB D kk (mW a kk g)) (0) (fun H => va_P D vwCl (mW a kk (thG g pl)) H) (aA 8 a) 0 0 := by
  refine ri_ent (cc := cX4_run) (maxL := 6) (ret := some .boolean) (by decide) rfl (Nat.le_of_ble_eq_true rfl) ?_
  intro zp ze s zm zb zt zc hx hb hr hts hown hlocks hml hin hB ls hl
  have hown : s.vm.findClass RX4 = some zm.cls := hown
  have CF : CallFix zp zm zc cX4_run 6 s ([.ref (a 0), .int (iI b), .int (iI t), .int (iI n)] : List Value).toArray wsX4_run RX4 := ⟨hx, hb, hml, hown, hts⟩
  obtain ⟨hP, hK, hN⟩ := hB
  have hS : va_S (aA 8 a) s.heap s.heap [] := va_S.rf
  have hl : lv_has ls 6 [(0, .ref (a 0)), (1, .int (iI b)), (2, .int (iI t)), (3, .int (iI n))] := hl
  refine lv_aload_n hx hb dX4_run_0 rfl (lv_at hl 0 rfl) ?_
  refine lv_iload_n hx hb dX4_run_1 rfl (lv_at hl 1 rfl) ?_
  refine lv_iload_n hx hb dX4_run_2 rfl (lv_at hl 2 rfl) ?_
  refine lv_iload_n hx hb dX4_run_3 rfl (lv_at hl 3 rfl) ?_
  refine ri_wi (v := 0) (PP := fun H => va_P D vwCl (mW a kk (thG g pl)) H) (ri_runV (b := a 0) (As := [.int (iI b), .int (iI t), .int (iI n)]) (rest := []) CF (k_X4_canCompare_no l D a kk g pl b t n hA hM (by omega) (by omega) (by omega) (hno)) gX4_run_X4_canCompare f_X4_canCompare rfl (va_recv hK hP (ci := 4) (q0 := 0) rfl rfl) ⟨rfl, rfl, Nat.le_of_ble_eq_true rfl, Nat.le_of_ble_eq_true rfl, Nat.le_of_ble_eq_true rfl, Nat.le_of_ble_eq_true rfl⟩ wB_bl (wB_in hP hK hN) rfl hl.1 rfl (Nat.le_of_ble_eq_true rfl) dX4_run_4) hS (fun _ h => h) (fun H locs hP _ hS => ?_)
  replace hP : va_P D vwCl (mW a kk (thG g pl)) H := hP
  refine ri_if_ne (tgt := 12) hx hb (by omega) dX4_run_7 (by decide) (fun c_1 => ?_) (fun c_1 => ?_)
  · skip
    exfalso; omega
  · skip
    refine ri_iconst hx hb dX4_run_10 ?_
    exact ri_zretW (A := (aA 8 a)) (PP := (fun H => va_P D vwCl (mW a kk (thG g pl)) H)) hx hb hr hlocks hS (hP) (Or.inl rfl) dX4_run_11 (rfl)
