theorem f_J6_bitCount_0f7a4 : MF yJ6_bitCount_0f7a4 wsJ6_bitCount_0f7a4 cJ6_bitCount_0f7a4 1 (some .int) 1 := ⟨⟨_, rfl⟩, by decide +kernel, by decide +kernel, by decide +kernel⟩
set_option maxHeartbeats 4000000 in
set_option maxRecDepth 100000 in
theorem k_J6_bitCount_0f7a4 (l : Launch) (y : Int) (yy : 0 ≤ y ∧ y ≤ 511) : RD l yJ6_bitCount_0f7a4 wsJ6_bitCount_0f7a4 ({ frames := 0, cells := 0, slots := 0, locals := 0 }) [.int (iI y)] tB (popc y.toNat) := by
  refine ri_ent (cc := cJ6_bitCount_0f7a4) (maxL := 1) (ret := some .int) (by decide) rfl (Nat.le_of_ble_eq_true rfl) ?_
  intro zp ze s zm zb zt zc hx hb hr hts hown hlocks hml hin hB ls hl
  have hown : s.vm.findClass RJ6 = some zm.cls := hown
  have CF : CallFix zp zm zc cJ6_bitCount_0f7a4 1 s ([.int (iI y)] : List Value).toArray wsJ6_bitCount_0f7a4 RJ6 := ⟨hx, hb, hml, hown, hts⟩
  have hl : lv_has ls 1 [(0, .int (iI y))] := hl
  refine lv_iload_n hx hb dJ6_bitCount_0f7a4_0 rfl (lv_at hl 0 rfl) ?_
  refine lv_iload_n hx hb dJ6_bitCount_0f7a4_1 rfl (lv_at hl 0 rfl) ?_
  refine lv_iconst (v := 1) hx hb dJ6_bitCount_0f7a4_2 (by decide) ?_
  refine lv_iushr (v := us (iI y) 1) hx hb dJ6_bitCount_0f7a4_3 rfl ?_
  refine lv_ldcw (v := 1431655765) hx hb hown (hts _ (List.mem_of_getElem? (i := 1) rfl)) dJ6_bitCount_0f7a4_4 ?_
  refine lv_iand hx hb dJ6_bitCount_0f7a4_7 ?_
  refine lv_isub hx hb dJ6_bitCount_0f7a4_8 ?_
  refine lv_istore_n (lv' := [(0, .int (bc1 (iI y)))]) hx hb dJ6_bitCount_0f7a4_9 rfl hl (by decide) rfl (fun ls hl => ?_)
  refine lv_iload_n hx hb dJ6_bitCount_0f7a4_10 rfl (lv_at hl 0 rfl) ?_
  refine lv_ldcw (v := 858993459) hx hb hown (hts _ (List.mem_of_getElem? (i := 2) rfl)) dJ6_bitCount_0f7a4_11 ?_
  refine lv_iand hx hb dJ6_bitCount_0f7a4_14 ?_
  refine lv_iload_n hx hb dJ6_bitCount_0f7a4_15 rfl (lv_at hl 0 rfl) ?_
  refine lv_iconst (v := 2) hx hb dJ6_bitCount_0f7a4_16 (by decide) ?_
  refine lv_iushr (v := us (bc1 (iI y)) 2) hx hb dJ6_bitCount_0f7a4_17 rfl ?_
  refine lv_ldcw (v := 858993459) hx hb hown (hts _ (List.mem_of_getElem? (i := 2) rfl)) dJ6_bitCount_0f7a4_18 ?_
  refine lv_iand hx hb dJ6_bitCount_0f7a4_21 ?_
  refine lv_iadd hx hb dJ6_bitCount_0f7a4_22 ?_
  refine lv_istore_n (lv' := [(0, .int (bc2 (bc1 (iI y))))]) hx hb dJ6_bitCount_0f7a4_23 rfl hl (by decide) rfl (fun ls hl => ?_)
  refine lv_iload_n hx hb dJ6_bitCount_0f7a4_24 rfl (lv_at hl 0 rfl) ?_
  refine lv_iload_n hx hb dJ6_bitCount_0f7a4_25 rfl (lv_at hl 0 rfl) ?_
  refine lv_iconst (v := 4) hx hb dJ6_bitCount_0f7a4_26 (by decide) ?_
  refine lv_iushr (v := us (bc2 (bc1 (iI y))) 4) hx hb dJ6_bitCount_0f7a4_27 rfl ?_
  refine lv_iadd hx hb dJ6_bitCount_0f7a4_28 ?_
  refine lv_ldcw (v := 252645135) hx hb hown (hts _ (List.mem_of_getElem? (i := 3) rfl)) dJ6_bitCount_0f7a4_29 ?_
  refine lv_iand hx hb dJ6_bitCount_0f7a4_32 ?_
  refine lv_istore_n (lv' := [(0, .int (bc3 (bc2 (bc1 (iI y)))))]) hx hb dJ6_bitCount_0f7a4_33 rfl hl (by decide) rfl (fun ls hl => ?_)
  refine lv_iload_n hx hb dJ6_bitCount_0f7a4_34 rfl (lv_at hl 0 rfl) ?_
  refine lv_iload_n hx hb dJ6_bitCount_0f7a4_35 rfl (lv_at hl 0 rfl) ?_
  refine lv_bipush (v := 8) hx hb dJ6_bitCount_0f7a4_36 (by decide) ?_
  refine lv_iushr (v := us (bc3 (bc2 (bc1 (iI y)))) 8) hx hb dJ6_bitCount_0f7a4_38 rfl ?_
  refine lv_iadd hx hb dJ6_bitCount_0f7a4_39 ?_
  refine lv_istore_n (lv' := [(0, .int (bc4 (bc3 (bc2 (bc1 (iI y))))))]) hx hb dJ6_bitCount_0f7a4_40 rfl hl (by decide) rfl (fun ls hl => ?_)
  refine lv_iload_n hx hb dJ6_bitCount_0f7a4_41 rfl (lv_at hl 0 rfl) ?_
  refine lv_iload_n hx hb dJ6_bitCount_0f7a4_42 rfl (lv_at hl 0 rfl) ?_
  refine lv_bipush (v := 16) hx hb dJ6_bitCount_0f7a4_43 (by decide) ?_
  refine lv_iushr (v := us (bc4 (bc3 (bc2 (bc1 (iI y))))) 16) hx hb dJ6_bitCount_0f7a4_45 rfl ?_
  refine lv_iadd hx hb dJ6_bitCount_0f7a4_46 ?_
  refine lv_istore_n (lv' := [(0, .int (bc5 (bc4 (bc3 (bc2 (bc1 (iI y)))))))]) hx hb dJ6_bitCount_0f7a4_47 rfl hl (by decide) rfl (fun ls hl => ?_)
  refine lv_iload_n hx hb dJ6_bitCount_0f7a4_48 rfl (lv_at hl 0 rfl) ?_
  refine lv_bipush (v := 63) hx hb dJ6_bitCount_0f7a4_49 (by decide) ?_
  refine lv_iand hx hb dJ6_bitCount_0f7a4_51 ?_
  refine ri_rw (E := bcF (iI y)) (bc_popI (by omega)) ?_
  exact ri_iret hx hb hr hlocks dJ6_bitCount_0f7a4_52 rfl

theorem f_X0_changes : MF yX0_changes wsX0_changes cX0_changes 4 (some .int) 1 := ⟨⟨_, rfl⟩, by decide +kernel, by decide +kernel, by decide +kernel⟩
set_option maxHeartbeats 4000000 in
set_option maxRecDepth 100000 in
theorem k_X0_changes (l : Launch) (D : va_G) (a : Nat → Nat) (kk : Nat → ClassId) (g : Nat → Nat → Int) (t : Int) (hI : XInv g) (yt : 0 ≤ t ∧ t ≤ 4) (hn : 2 ≤ g 16 t.toNat) : RD l yX0_changes wsX0_changes ({ frames := 2, cells := 0, slots := 0, locals := 42 }) [.ref (a 14), .int (iI t)] (wB D kk (xW a kk g)) (chg (g 15 t.toNat) (g 16 t.toNat)) := by
  refine ri_ent (cc := cX0_changes) (maxL := 4) (ret := some .int) (by decide) rfl (Nat.le_of_ble_eq_true rfl) ?_
  intro zp ze s zm zb zt zc hx hb hr hts hown hlocks hml hin hB ls hl
  have hown : s.vm.findClass RX0 = some zm.cls := hown
  have CF : CallFix zp zm zc cX0_changes 4 s ([.ref (a 14), .int (iI t)] : List Value).toArray wsX0_changes RX0 := ⟨hx, hb, hml, hown, hts⟩
  obtain ⟨hP, hK, hN⟩ := hB
  have hinX0 : ∀ w ∈ wsX00, w ∈ wsX0_changes := (fun _ h => List.mem_cons_of_mem _ (List.mem_append_right _ h))
  have hl : lv_has ls 4 [(0, .ref (a 14)), (1, .int (iI t))] := hl
  refine lv_iload_n hx hb dX0_changes_0 rfl (lv_at hl 1 rfl) ?_
  refine ri_rd (ri_runN (As := [.int (iI t)]) (rest := []) CF (k_X3_isTest l t (by omega)) gX0_changes_X3_isTest_n18 f_X3_isTest hN.1 (List.mem_of_getElem? (i := 4) rfl) (List.mem_of_getElem? (i := 3) rfl) ⟨rfl, rfl, Nat.le_of_ble_eq_true rfl, Nat.le_of_ble_eq_true rfl, Nat.le_of_ble_eq_true rfl, Nat.le_of_ble_eq_true rfl⟩ tB_bl tB_in rfl hl.1 rfl (Nat.le_of_ble_eq_true rfl) dX0_changes_1) ?_
  refine ri_ifeq_b (tgt := 17) hx hb dX0_changes_4 (by decide) (fun c_1 => ?_) (fun c_1 => ?_)
  · skip
    exfalso; omega
  · skip
    refine lv_aload_n hx hb dX0_changes_7 rfl (lv_at hl 0 rfl) ?_
    refine va_get (D := D) (ci := 0) (v := .ref (a 16)) (C := RX0) (T := TX0) (N := 2) hx hb hts hinX0 hown hK hP 14 rfl rfl 1 (by decide) (hts _ (List.mem_of_getElem? (i := 1) rfl)) (fun _ h9 => h9) rfl dX0_changes_8 ?_
    refine lv_iload_n hx hb dX0_changes_11 rfl (lv_at hl 1 rfl) ?_
    refine ri_iald hx hb hK hP 16 0 rfl rfl (by omega) (by decide) dX0_changes_12 ?_
    have f_2 := hI.2.2.2.2.2 t.toNat (by omega)
    refine ri_iconst hx hb dX0_changes_13 ?_
    refine ri_icmp_ge (tgt := 19) hx hb (by omega) dX0_changes_14 (by decide) (fun c_3 => ?_) (fun c_3 => ?_)
    · skip
      refine ri_iconst hx hb dX0_changes_19 ?_
      refine lv_aload_n hx hb dX0_changes_20 rfl (lv_at hl 0 rfl) ?_
      refine va_get (D := D) (ci := 0) (v := .ref (a 16)) (C := RX0) (T := TX0) (N := 2) hx hb hts hinX0 hown hK hP 14 rfl rfl 1 (by decide) (hts _ (List.mem_of_getElem? (i := 1) rfl)) (fun _ h9 => h9) rfl dX0_changes_21 ?_
      refine lv_iload_n hx hb dX0_changes_24 rfl (lv_at hl 1 rfl) ?_
      refine ri_iald hx hb hK hP 16 0 rfl rfl (by omega) (by decide) dX0_changes_25 ?_
      have f_4 := hI.2.2.2.2.2 t.toNat (by omega)
      refine ri_iconst hx hb dX0_changes_26 ?_
      refine ri_isub hx hb dX0_changes_27 ?_
      refine lv_ishl hx hb dX0_changes_28 ?_
      refine ri_rw (y := p2 ((g 16 t.toNat) - 1)) (sh_1 (by omega)) ?_
      refine ri_iconst hx hb dX0_changes_29 ?_
      refine ri_isub hx hb dX0_changes_30 ?_
      refine lv_istore_n (lv' := [(2, .int (iI ((p2 ((g 16 t.toNat) - 1)) - 1))), (0, .ref (a 14)), (1, .int (iI t))]) hx hb dX0_changes_31 rfl hl (by decide) rfl (fun ls hl => ?_)
      refine lv_aload_n hx hb dX0_changes_32 rfl (lv_at hl 1 rfl) ?_
      refine va_get (D := D) (ci := 0) (v := .ref (a 15)) (C := RX0) (T := TX0) (N := 2) hx hb hts hinX0 hown hK hP 14 rfl rfl 0 (by decide) (hts _ (List.mem_of_getElem? (i := 2) rfl)) (fun _ h9 => h9) rfl dX0_changes_33 ?_
      refine lv_iload_n hx hb dX0_changes_36 rfl (lv_at hl 2 rfl) ?_
      refine ri_iald hx hb hK hP 15 0 rfl rfl (by omega) (by decide) dX0_changes_37 ?_
      refine lv_aload_n hx hb dX0_changes_38 rfl (lv_at hl 1 rfl) ?_
      refine va_get (D := D) (ci := 0) (v := .ref (a 15)) (C := RX0) (T := TX0) (N := 2) hx hb hts hinX0 hown hK hP 14 rfl rfl 0 (by decide) (hts _ (List.mem_of_getElem? (i := 2) rfl)) (fun _ h9 => h9) rfl dX0_changes_39 ?_
      refine lv_iload_n hx hb dX0_changes_42 rfl (lv_at hl 2 rfl) ?_
      refine ri_iald hx hb hK hP 15 0 rfl rfl (by omega) (by decide) dX0_changes_43 ?_
      refine ri_iconst hx hb dX0_changes_44 ?_
      refine lv_ishr hx hb dX0_changes_45 ?_
      refine lv_ixor hx hb dX0_changes_46 ?_
      refine lv_istore_n (lv' := [(3, .int (iI (g 15 t.toNat) ^^^ (iI (g 15 t.toNat) >>> (iI 1 &&& 31)))), (2, .int (iI ((p2 ((g 16 t.toNat) - 1)) - 1))), (0, .ref (a 14)), (1, .int (iI t))]) hx hb dX0_changes_47 rfl hl (by decide) rfl (fun ls hl => ?_)
      refine lv_iload_n hx hb dX0_changes_48 rfl (lv_at hl 0 rfl) ?_
      refine lv_iload_n hx hb dX0_changes_49 rfl (lv_at hl 1 rfl) ?_
      refine lv_iand hx hb dX0_changes_50 ?_
      refine ri_rw (y := chY (g 15 t.toNat) (g 16 t.toNat - 1)) (ch_low _ (by omega)) ?_
      have f_5 := chY_r (g 15 t.toNat) (n := g 16 t.toNat - 1) (by omega)
      refine ri_rd (ri_runS (As := [.int (iI (chY (g 15 t.toNat) (g 16 t.toNat - 1)))]) (rest := []) CF (k_J6_bitCount_0f7a4 l (chY (g 15 t.toNat) (g 16 t.toNat - 1)) (by omega)) gX0_changes_J6_bitCount_0f7a4 f_J6_bitCount_0f7a4 ⟨rfl, rfl, Nat.le_of_ble_eq_true rfl, Nat.le_of_ble_eq_true rfl, Nat.le_of_ble_eq_true rfl, Nat.le_of_ble_eq_true rfl⟩ tB_bl tB_in rfl hl.1 rfl (Nat.le_of_ble_eq_true rfl) dX0_changes_51) ?_
      exact ri_iret hx hb hr hlocks dX0_changes_54 (rfl)
    · skip
      exfalso; omega

theorem f_X0_add : MF yX0_add wsX0_add cX0_add 3 (none) 2 := ⟨⟨_, rfl⟩, by decide +kernel, by decide +kernel, by decide +kernel⟩
set_option maxHeartbeats 4000000 in
set_option maxRecDepth 100000 in
theorem k_X0_add (l : Launch) (D : va_G) (a : Nat → Nat) (kk : Nat → ClassId) (g : Nat → Nat → Int) (t : Int) (v : Int) (hA : aDs 17 a) (hI : XInv g) (yt : 0 ≤ t ∧ t ≤ 4) (yv : v = 0 ∨ v = 1) : WV l yX0_add wsX0_add ({ frames := 2, cells := 0, slots := 0, locals := 42 }) [.ref (a 14), .int (iI t), .int (iI v)] (wB D kk (xW a kk g)) (fun H => va_P D vwCl (xW a kk (hisG g t v)) H) (aA 17 a) 0 0 := by
  refine ri_ent (cc := cX0_add) (maxL := 3) (ret := none) (by decide) rfl (Nat.le_of_ble_eq_true rfl) ?_
  intro zp ze s zm zb zt zc hx hb hr hts hown hlocks hml hin hB ls hl
  have hown : s.vm.findClass RX0 = some zm.cls := hown
  have CF : CallFix zp zm zc cX0_add 3 s ([.ref (a 14), .int (iI t), .int (iI v)] : List Value).toArray wsX0_add RX0 := ⟨hx, hb, hml, hown, hts⟩
  obtain ⟨hP, hK, hN⟩ := hB
  have hinX0 : ∀ w ∈ wsX00, w ∈ wsX0_add := (fun _ h => List.mem_cons_of_mem _ (List.mem_append_right _ h))
  have hS : va_S (aA 17 a) s.heap s.heap [] := va_S.rf
  have hl : lv_has ls 3 [(0, .ref (a 14)), (1, .int (iI t)), (2, .int (iI v))] := hl
  refine lv_iload_n hx hb dX0_add_0 rfl (lv_at hl 1 rfl) ?_
  refine ri_rd (ri_runN (As := [.int (iI t)]) (rest := []) CF (k_X3_isTest l t (by omega)) gX0_add_X3_isTest_n18 f_X3_isTest hN.1 (List.mem_of_getElem? (i := 8) rfl) (List.mem_of_getElem? (i := 7) rfl) ⟨rfl, rfl, Nat.le_of_ble_eq_true rfl, Nat.le_of_ble_eq_true rfl, Nat.le_of_ble_eq_true rfl, Nat.le_of_ble_eq_true rfl⟩ tB_bl tB_in rfl hl.1 rfl (Nat.le_of_ble_eq_true rfl) dX0_add_1) ?_
  refine ri_ifne_b (tgt := 8) hx hb dX0_add_4 (by decide) (fun c_1 => ?_) (fun c_1 => ?_)
  · skip
    refine lv_aload_n hx hb dX0_add_8 rfl (lv_at hl 0 rfl) ?_
    refine va_get (D := D) (ci := 0) (v := .ref (a 15)) (C := RX0) (T := TX0) (N := 2) hx hb hts hinX0 hown hK hP 14 rfl rfl 0 (by decide) (hts _ (List.mem_of_getElem? (i := 1) rfl)) (fun _ h9 => h9) rfl dX0_add_9 ?_
    refine lv_iload_n hx hb dX0_add_12 rfl (lv_at hl 1 rfl) ?_
    refine lv_aload_n hx hb dX0_add_13 rfl (lv_at hl 0 rfl) ?_
    refine va_get (D := D) (ci := 0) (v := .ref (a 15)) (C := RX0) (T := TX0) (N := 2) hx hb hts hinX0 hown hK hP 14 rfl rfl 0 (by decide) (hts _ (List.mem_of_getElem? (i := 1) rfl)) (fun _ h9 => h9) rfl dX0_add_14 ?_
    refine lv_iload_n hx hb dX0_add_17 rfl (lv_at hl 1 rfl) ?_
    refine ri_iald hx hb hK hP 15 0 rfl rfl (by omega) (by decide) dX0_add_18 ?_
    refine ri_iconst hx hb dX0_add_19 ?_
    refine lv_ishl hx hb dX0_add_20 ?_
    refine ri_rw (y := 2 * (g 15 t.toNat)) (sh_x _) ?_
    refine lv_iload_n hx hb dX0_add_21 rfl (lv_at hl 2 rfl) ?_
    refine ri_if_eq (tgt := 29) hx hb (by omega) dX0_add_22 (by decide) (fun c_2 => ?_) (fun c_2 => ?_)
    · skip
      refine ri_iconst hx hb dX0_add_29 ?_
      refine lv_ior hx hb dX0_add_30 ?_
      refine ri_rw (y := 2 * g 15 t.toNat + v) ((or_b (g 15 t.toNat) (by omega)).trans (congrArg iI (by omega))) ?_
      refine ri_iast hx hb hK hP (xD hA) hS 15 0 rfl rfl (by omega) (by decide) dX0_add_31 (fun H locs hP hS => ?_)
      replace hP := xS.2.2.1 hP
      refine lv_aload_n hx hb dX0_add_32 rfl (lv_at hl 0 rfl) ?_
      refine va_get (D := D) (ci := 0) (v := .ref (a 16)) (C := RX0) (T := TX0) (N := 2) hx hb hts hinX0 hown hK hP 14 rfl rfl 1 (by decide) (hts _ (List.mem_of_getElem? (i := 2) rfl)) (fun _ h9 => h9) rfl dX0_add_33 ?_
      refine lv_iload_n hx hb dX0_add_36 rfl (lv_at hl 1 rfl) ?_
      refine lv_aload_n hx hb dX0_add_37 rfl (lv_at hl 0 rfl) ?_
      refine va_get (D := D) (ci := 0) (v := .ref (a 16)) (C := RX0) (T := TX0) (N := 2) hx hb hts hinX0 hown hK hP 14 rfl rfl 1 (by decide) (hts _ (List.mem_of_getElem? (i := 2) rfl)) (fun _ h9 => h9) rfl dX0_add_38 ?_
      refine lv_iload_n hx hb dX0_add_41 rfl (lv_at hl 1 rfl) ?_
      refine ri_iald hx hb hK hP 16 0 rfl rfl (by omega) (by decide) dX0_add_42 ?_
      have f_3 := hI.2.2.2.2.2 t.toNat (by omega)
      refine ri_eq (y := g 16 t.toNat) (rfl) ?_
      refine ri_iconst hx hb dX0_add_43 ?_
      refine ri_iadd hx hb dX0_add_44 ?_
      refine ri_bipush hx hb dX0_add_45 (by decide) ?_
      refine va_mmin hx hb (hml.trans hl.1.symm) hown (hts _ (List.mem_of_getElem? (i := 3) rfl)) (hts _ (List.mem_of_getElem? (i := 4) rfl)) (hts _ (List.mem_of_getElem? (i := 5) rfl)) (hts _ (List.mem_of_getElem? (i := 6) rfl)) (Nat.le_of_ble_eq_true rfl) (Nat.le_of_ble_eq_true rfl) (Nat.le_of_ble_eq_true rfl) (Nat.le_of_ble_eq_true rfl) dX0_add_47 ?_
      refine ri_min (by omega) (fun q_4 eq_4 => ?_)
      refine ri_eq (y := min (g 16 t.toNat + 1) 10) (by omega) ?_
      refine ri_iast hx hb hK hP (xD hA) hS 16 0 rfl rfl (by omega) (by decide) dX0_add_50 (fun H locs hP hS => ?_)
      replace hP := xS.2.2.2 hP
      exact ri_vretW (A := (aA 17 a)) (PP := (fun H => va_P D vwCl (xW a kk (hisG g t v)) H)) hx hb hr hlocks hS (hP) dX0_add_51
    · skip
      refine ri_iconst hx hb dX0_add_25 ?_
      refine lv_goto (tgt := 30) hx hb dX0_add_26 (by decide) ?_
      refine lv_ior hx hb dX0_add_30 ?_
      refine ri_rw (y := 2 * g 15 t.toNat + v) ((or_b (g 15 t.toNat) (by omega)).trans (congrArg iI (by omega))) ?_
      refine ri_iast hx hb hK hP (xD hA) hS 15 0 rfl rfl (by omega) (by decide) dX0_add_31 (fun H locs hP hS => ?_)
      replace hP := xS.2.2.1 hP
      refine lv_aload_n hx hb dX0_add_32 rfl (lv_at hl 0 rfl) ?_
      refine va_get (D := D) (ci := 0) (v := .ref (a 16)) (C := RX0) (T := TX0) (N := 2) hx hb hts hinX0 hown hK hP 14 rfl rfl 1 (by decide) (hts _ (List.mem_of_getElem? (i := 2) rfl)) (fun _ h9 => h9) rfl dX0_add_33 ?_
      refine lv_iload_n hx hb dX0_add_36 rfl (lv_at hl 1 rfl) ?_
      refine lv_aload_n hx hb dX0_add_37 rfl (lv_at hl 0 rfl) ?_
      refine va_get (D := D) (ci := 0) (v := .ref (a 16)) (C := RX0) (T := TX0) (N := 2) hx hb hts hinX0 hown hK hP 14 rfl rfl 1 (by decide) (hts _ (List.mem_of_getElem? (i := 2) rfl)) (fun _ h9 => h9) rfl dX0_add_38 ?_
      refine lv_iload_n hx hb dX0_add_41 rfl (lv_at hl 1 rfl) ?_
      refine ri_iald hx hb hK hP 16 0 rfl rfl (by omega) (by decide) dX0_add_42 ?_
      have f_5 := hI.2.2.2.2.2 t.toNat (by omega)
      refine ri_eq (y := g 16 t.toNat) (rfl) ?_
      refine ri_iconst hx hb dX0_add_43 ?_
      refine ri_iadd hx hb dX0_add_44 ?_
      refine ri_bipush hx hb dX0_add_45 (by decide) ?_
      refine va_mmin hx hb (hml.trans hl.1.symm) hown (hts _ (List.mem_of_getElem? (i := 3) rfl)) (hts _ (List.mem_of_getElem? (i := 4) rfl)) (hts _ (List.mem_of_getElem? (i := 5) rfl)) (hts _ (List.mem_of_getElem? (i := 6) rfl)) (Nat.le_of_ble_eq_true rfl) (Nat.le_of_ble_eq_true rfl) (Nat.le_of_ble_eq_true rfl) (Nat.le_of_ble_eq_true rfl) dX0_add_47 ?_
      refine ri_min (by omega) (fun q_6 eq_6 => ?_)
      refine ri_eq (y := min (g 16 t.toNat + 1) 10) (by omega) ?_
      refine ri_iast hx hb hK hP (xD hA) hS 16 0 rfl rfl (by omega) (by decide) dX0_add_50 (fun H locs hP hS => ?_)
      replace hP := xS.2.2.2 hP
      exact ri_vretW (A := (aA 17 a)) (PP := (fun H => va_P D vwCl (xW a kk (hisG g t v)) H)) hx hb hr hlocks hS (hP) dX0_add_51
  · skip
    exfalso; omega

theorem f_X1_put : MF yX1_put wsX1_put cX1_put 7 (some .boolean) 4 := ⟨⟨_, rfl⟩, by decide +kernel, by decide +kernel, by decide +kernel⟩
set_option maxHeartbeats 4000000 in
set_option maxRecDepth 100000 in
theorem k_X1_put (l : Launch) (D : va_G) (a : Nat → Nat) (kk : Nat → ClassId) (g : Nat → Nat → Int) (z : Int) (c : Int) (r : Int) (v : Int) (hA : aDs 17 a) (hI : XInv g) (yz : 0 ≤ z ∧ z ≤ 44) (yc : 0 ≤ c ∧ c ≤ 7) (yr : 0 ≤ r ∧ r ≤ 7) (yv : 0 ≤ v ∧ v ≤ 255) : WI l yX1_put wsX1_put ({ frames := 2, cells := 0, slots := 0, locals := 43 }) [.ref (a 1), .int (iI z), .int (iI c), .int (iI r), .int (iI v)] (wB D kk (xW a kk g)) (bp (¬ g 2 (z * 64 + r * 8 + c).toNat = v)) (fun H => va_P D vwCl (xW a kk (updG g 2 (updI (g 2) (z * 64 + r * 8 + c).toNat v))) H) (aA 17 a) 0 0 := by
  refine ri_ent (cc := cX1_put) (maxL := 7) (ret := some .boolean) (by decide) rfl (Nat.le_of_ble_eq_true rfl) ?_
  intro zp ze s zm zb zt zc hx hb hr hts hown hlocks hml hin hB ls hl
  have hown : s.vm.findClass RX1 = some zm.cls := hown
  have CF : CallFix zp zm zc cX1_put 7 s ([.ref (a 1), .int (iI z), .int (iI c), .int (iI r), .int (iI v)] : List Value).toArray wsX1_put RX1 := ⟨hx, hb, hml, hown, hts⟩
  obtain ⟨hP, hK, hN⟩ := hB
  have hinX1 : ∀ w ∈ wsX10, w ∈ wsX1_put := (fun _ h => List.mem_cons_of_mem _ (List.mem_append_right _ h))
  have hS : va_S (aA 17 a) s.heap s.heap [] := va_S.rf
  have hl : lv_has ls 7 [(0, .ref (a 1)), (1, .int (iI z)), (2, .int (iI c)), (3, .int (iI r)), (4, .int (iI v))] := hl
  refine lv_iload_n hx hb dX1_put_0 rfl (lv_at hl 1 rfl) ?_
  refine ri_rd (ri_runS (As := [.int (iI z)]) (rest := []) CF (k_X1_isSlot l z (by omega)) gX1_put_X1_isSlot f_X1_isSlot ⟨rfl, rfl, Nat.le_of_ble_eq_true rfl, Nat.le_of_ble_eq_true rfl, Nat.le_of_ble_eq_true rfl, Nat.le_of_ble_eq_true rfl⟩ xN_bl (nB_in hN) rfl hl.1 rfl (Nat.le_of_ble_eq_true rfl) dX1_put_1) ?_
  refine ri_ifeq_b (tgt := 15) hx hb dX1_put_4 (by decide) (fun c_1 => ?_) (fun c_1 => ?_)
  · skip
    exfalso; omega
  · skip
    refine lv_iload_n hx hb dX1_put_7 rfl (lv_at hl 2 rfl) ?_
    refine lv_iload_n hx hb dX1_put_8 rfl (lv_at hl 3 rfl) ?_
    refine ri_rd (ri_runN (As := [.int (iI c), .int (iI r)]) (rest := []) CF (k_X3_isCell l c r (by omega) (by omega)) gX1_put_X3_isCell_n27 f_X3_isCell hN.2.2.1 (List.mem_of_getElem? (i := 7) rfl) (List.mem_of_getElem? (i := 9) rfl) ⟨rfl, rfl, Nat.le_of_ble_eq_true rfl, Nat.le_of_ble_eq_true rfl, Nat.le_of_ble_eq_true rfl, Nat.le_of_ble_eq_true rfl⟩ tB_bl tB_in rfl hl.1 rfl (Nat.le_of_ble_eq_true rfl) dX1_put_9) ?_
    refine ri_ifne_b (tgt := 17) hx hb dX1_put_12 (by decide) (fun c_2 => ?_) (fun c_2 => ?_)
    · skip
      refine lv_iload_n hx hb dX1_put_17 rfl (lv_at hl 1 rfl) ?_
      refine lv_iload_n hx hb dX1_put_18 rfl (lv_at hl 2 rfl) ?_
      refine lv_iload_n hx hb dX1_put_19 rfl (lv_at hl 3 rfl) ?_
      refine ri_rd (ri_runS (As := [.int (iI z), .int (iI c), .int (iI r)]) (rest := []) CF (k_X1_place l z c r) gX1_put_X1_place f_X1_place ⟨rfl, rfl, Nat.le_of_ble_eq_true rfl, Nat.le_of_ble_eq_true rfl, Nat.le_of_ble_eq_true rfl, Nat.le_of_ble_eq_true rfl⟩ tB_bl tB_in rfl hl.1 rfl (Nat.le_of_ble_eq_true rfl) dX1_put_20) ?_
      refine lv_istore (lv' := [(5, .int (iI (z * 64 + r * 8 + c))), (0, .ref (a 1)), (1, .int (iI z)), (2, .int (iI c)), (3, .int (iI r)), (4, .int (iI v))]) hx hb dX1_put_23 hl (by decide) rfl (fun ls hl => ?_)
      have J42 : W zp l ze ({ frames := 2, cells := 0, slots := 0, locals := 43 }) s zm ([.ref (a 1), .int (iI z), .int (iI c), .int (iI r), .int (iI v)] : List Value).toArray zb zt zc s.heap [] 0 0 (MQ zb (va_Qi (fun (r9 : Int32) (_ : Unit) => r9 = iI (bp (¬ g 2 (z * 64 + r * 8 + c).toNat = v))) (fun _ t9 => (fun H => va_P D vwCl (xW a kk (updG g 2 (updI (g 2) (z * 64 + r * 8 + c).toNat v))) H) t9.heap) (aA 17 a)) ([.ref (a 1), .int (iI z), .int (iI c), .int (iI r), .int (iI v)] : List Value).toArray s 0 0 (aA 17 a)) (F0 zm 42 ls [.int (iI (bp (¬ g 2 (z * 64 + r * 8 + c).toNat = v)))]) := by
        refine lv_istore (lv' := [(6, .int (iI (bp (¬ g 2 (z * 64 + r * 8 + c).toNat = v)))), (5, .int (iI (z * 64 + r * 8 + c))), (0, .ref (a 1)), (1, .int (iI z)), (2, .int (iI c)), (3, .int (iI r)), (4, .int (iI v))]) hx hb dX1_put_42 hl (by decide) rfl (fun ls hl => ?_)
        refine lv_aload_n hx hb dX1_put_44 rfl (lv_at hl 2 rfl) ?_
        refine va_get (D := D) (ci := 1) (v := .ref (a 2)) (C := RX1) (T := TX1) (N := 2) hx hb hts hinX1 hown hK hP 1 rfl rfl 0 (by decide) (hts _ (List.mem_of_getElem? (i := 1) rfl)) (fun _ h9 => h9) rfl dX1_put_45 ?_
        refine lv_iload hx hb dX1_put_48 (lv_at hl 1 rfl) ?_
        refine lv_iload hx hb dX1_put_50 (lv_at hl 6 rfl) ?_
        refine ri_iast hx hb hK hP (xD hA) hS 2 0 rfl rfl (by omega) (by decide) dX1_put_52 (fun H locs hP hS => ?_)
        replace hP := xS.1 hP
        refine lv_iload hx hb dX1_put_53 (lv_at hl 0 rfl) ?_
        exact ri_zretW (A := (aA 17 a)) (PP := (fun H => va_P D vwCl (xW a kk (updG g 2 (updI (g 2) (z * 64 + r * 8 + c).toNat v))) H)) hx hb hr hlocks hS (hP) (bp_01 _) dX1_put_55 (rfl)
      refine lv_aload_n hx hb dX1_put_25 rfl (lv_at hl 1 rfl) ?_
      refine va_get (D := D) (ci := 1) (v := .ref (a 2)) (C := RX1) (T := TX1) (N := 2) hx hb hts hinX1 hown hK hP 1 rfl rfl 0 (by decide) (hts _ (List.mem_of_getElem? (i := 1) rfl)) (fun _ h9 => h9) rfl dX1_put_26 ?_
      refine lv_iload hx hb dX1_put_29 (lv_at hl 0 rfl) ?_
      refine ri_iald hx hb hK hP 2 0 rfl rfl (by omega) (by decide) dX1_put_31 ?_
      have f_3 := hI.1 (z * 64 + r * 8 + c).toNat (by omega)
      refine lv_iload hx hb dX1_put_32 (lv_at hl 5 rfl) ?_
      refine ri_icmp_eq (tgt := 41) hx hb (by omega) dX1_put_34 (by decide) (fun c_4 => ?_) (fun c_4 => ?_)
      · skip
        refine ri_iconst hx hb dX1_put_41 ?_
        exact ri_eq ((bp_f (by omega)).symm) J42
      · skip
        refine ri_iconst hx hb dX1_put_37 ?_
        refine lv_goto (tgt := 42) hx hb dX1_put_38 (by decide) ?_
        exact ri_eq ((bp_t (by omega)).symm) J42
    · skip
      exfalso; omega

theorem f_X1_copy : MF yX1_copy wsX1_copy cX1_copy 3 (none) 2 := ⟨⟨_, rfl⟩, by decide +kernel, by decide +kernel, by decide +kernel⟩
set_option maxHeartbeats 4000000 in
set_option maxRecDepth 100000 in
theorem k_X1_copy (l : Launch) (D : va_G) (a : Nat → Nat) (kk : Nat → ClassId) (g : Nat → Nat → Int) (y : Int) (z : Int) (hA : aDs 17 a) (hI : XInv g) (yy : 0 ≤ y ∧ y ≤ 44) (yz : 0 ≤ z ∧ z ≤ 44) : WV l yX1_copy wsX1_copy ({ frames := 2, cells := 0, slots := 0, locals := 60 }) [.ref (a 1), .int (iI y), .int (iI z)] (wB D kk (xW a kk g)) (fun H => va_P D vwCl (xW a kk (cpG g y z)) H) (aA 17 a) 0 0 := by
  refine ri_ent (cc := cX1_copy) (maxL := 3) (ret := none) (by decide) rfl (Nat.le_of_ble_eq_true rfl) ?_
  intro zp ze s zm zb zt zc hx hb hr hts hown hlocks hml hin hB ls hl
  have hown : s.vm.findClass RX1 = some zm.cls := hown
  have CF : CallFix zp zm zc cX1_copy 3 s ([.ref (a 1), .int (iI y), .int (iI z)] : List Value).toArray wsX1_copy RX1 := ⟨hx, hb, hml, hown, hts⟩
  obtain ⟨hP, hK, hN⟩ := hB
  have hinX1 : ∀ w ∈ wsX10, w ∈ wsX1_copy := (fun _ h => List.mem_cons_of_mem _ (List.mem_append_right _ h))
  have hS : va_S (aA 17 a) s.heap s.heap [] := va_S.rf
  have hl : lv_has ls 3 [(0, .ref (a 1)), (1, .int (iI y)), (2, .int (iI z))] := hl
  refine lv_iload_n hx hb dX1_copy_0 rfl (lv_at hl 1 rfl) ?_
  refine ri_rd (ri_runS (As := [.int (iI y)]) (rest := []) CF (k_X1_isSlot l y (by omega)) gX1_copy_X1_isSlot f_X1_isSlot ⟨rfl, rfl, Nat.le_of_ble_eq_true rfl, Nat.le_of_ble_eq_true rfl, Nat.le_of_ble_eq_true rfl, Nat.le_of_ble_eq_true rfl⟩ xN_bl (nB_in hN) rfl hl.1 rfl (Nat.le_of_ble_eq_true rfl) dX1_copy_1) ?_
  refine ri_ifeq_b (tgt := 14) hx hb dX1_copy_4 (by decide) (fun c_1 => ?_) (fun c_1 => ?_)
  · skip
    exfalso; omega
  · skip
    refine lv_iload_n hx hb dX1_copy_7 rfl (lv_at hl 2 rfl) ?_
    refine ri_rd (ri_runS (As := [.int (iI z)]) (rest := []) CF (k_X1_isSlot l z (by omega)) gX1_copy_X1_isSlot f_X1_isSlot ⟨rfl, rfl, Nat.le_of_ble_eq_true rfl, Nat.le_of_ble_eq_true rfl, Nat.le_of_ble_eq_true rfl, Nat.le_of_ble_eq_true rfl⟩ xN_bl (nB_in hN) rfl hl.1 rfl (Nat.le_of_ble_eq_true rfl) dX1_copy_8) ?_
    refine ri_ifne_b (tgt := 15) hx hb dX1_copy_11 (by decide) (fun c_2 => ?_) (fun c_2 => ?_)
    · skip
      refine lv_aload_n hx hb dX1_copy_15 rfl (lv_at hl 0 rfl) ?_
      refine va_get (D := D) (ci := 1) (v := .ref (a 2)) (C := RX1) (T := TX1) (N := 2) hx hb hts hinX1 hown hK hP 1 rfl rfl 0 (by decide) (hts _ (List.mem_of_getElem? (i := 1) rfl)) (fun _ h9 => h9) rfl dX1_copy_16 ?_
      refine lv_iload_n hx hb dX1_copy_19 rfl (lv_at hl 1 rfl) ?_
      refine ri_bipush hx hb dX1_copy_20 (by decide) ?_
      refine ri_imul hx hb dX1_copy_22 ?_
      refine lv_aload_n hx hb dX1_copy_23 rfl (lv_at hl 0 rfl) ?_
      refine va_get (D := D) (ci := 1) (v := .ref (a 2)) (C := RX1) (T := TX1) (N := 2) hx hb hts hinX1 hown hK hP 1 rfl rfl 0 (by decide) (hts _ (List.mem_of_getElem? (i := 1) rfl)) (fun _ h9 => h9) rfl dX1_copy_24 ?_
      refine lv_iload_n hx hb dX1_copy_27 rfl (lv_at hl 2 rfl) ?_
      refine ri_bipush hx hb dX1_copy_28 (by decide) ?_
      refine ri_imul hx hb dX1_copy_30 ?_
      refine ri_bipush hx hb dX1_copy_31 (by decide) ?_
      refine ri_copy hx hb (hml.trans hl.1.symm) hown (hts _ (List.mem_of_getElem? (i := 2) rfl)) (hts _ (List.mem_of_getElem? (i := 3) rfl)) (hts _ (List.mem_of_getElem? (i := 4) rfl)) (hts _ (List.mem_of_getElem? (i := 5) rfl)) hK hP (xD hA) hS 2 0 rfl rfl (sp := y * 64) (dp := z * 64) (by omega) (by omega) (by decide) (Nat.le_of_ble_eq_true rfl) (Nat.le_of_ble_eq_true rfl) dX1_copy_33 (fun H locs hP hS => ?_)
      replace hP := xS.1 hP
      refine lv_aload_n hx hb dX1_copy_36 rfl (lv_at hl 0 rfl) ?_
      refine va_get (D := D) (ci := 1) (v := .ref (a 3)) (C := RX1) (T := TX1) (N := 2) hx hb hts hinX1 hown hK hP 1 rfl rfl 1 (by decide) (hts _ (List.mem_of_getElem? (i := 6) rfl)) (fun _ h9 => h9) rfl dX1_copy_37 ?_
      refine lv_iload_n hx hb dX1_copy_40 rfl (lv_at hl 2 rfl) ?_
      refine lv_aload_n hx hb dX1_copy_41 rfl (lv_at hl 0 rfl) ?_
      refine va_get (D := D) (ci := 1) (v := .ref (a 3)) (C := RX1) (T := TX1) (N := 2) hx hb hts hinX1 hown hK hP 1 rfl rfl 1 (by decide) (hts _ (List.mem_of_getElem? (i := 6) rfl)) (fun _ h9 => h9) rfl dX1_copy_42 ?_
      refine lv_iload_n hx hb dX1_copy_45 rfl (lv_at hl 1 rfl) ?_
      refine ri_zald hx hb hK hP 3 1 rfl rfl (by omega) (by decide) dX1_copy_46 ?_
      have f_3 := hI.2.1 y.toNat (by omega)
      refine ri_eq (y := g 3 y.toNat) (rfl) ?_
      refine ri_zast hx hb hK hP (xD hA) hS 3 1 rfl rfl (by omega) (by decide) (by omega) dX1_copy_47 (fun H locs hP hS => ?_)
      replace hP := xS.2.1 hP
      exact ri_vretW (A := (aA 17 a)) (PP := (fun H => va_P D vwCl (xW a kk (cpG g y z)) H)) hx hb hr hlocks hS (hP) dX1_copy_48
    · skip
      exfalso; omega

theorem f_X2_put : MF yX2_put wsX2_put cX2_put 6 (none) 5 := ⟨⟨_, rfl⟩, by decide +kernel, by decide +kernel, by decide +kernel⟩
set_option maxHeartbeats 4000000 in
set_option maxRecDepth 100000 in
theorem k_X2_put (l : Launch) (D : va_G) (a : Nat → Nat) (kk : Nat → ClassId) (g : Nat → Nat → Int) (t : Int) (lf : Int) (tp : Int) (w : Int) (h : Int) (hA : aDs 5 a) (yt : 0 ≤ t ∧ t ≤ 4) : WV l yX2_put wsX2_put ({ frames := 2, cells := 0, slots := 0, locals := 42 }) [.ref (a 0), .int (iI t), .int (iI lf), .int (iI tp), .int (iI w), .int (iI h)] (wB D kk (rW a kk g)) (fun H => va_P D vwCl (rW a kk (putR g t lf tp w h)) H) (aA 5 a) 0 0 := by
  refine ri_ent (cc := cX2_put) (maxL := 6) (ret := none) (by decide) rfl (Nat.le_of_ble_eq_true rfl) ?_
  intro zp ze s zm zb zt zc hx hb hr hts hown hlocks hml hin hB ls hl
  have hown : s.vm.findClass RX2 = some zm.cls := hown
  have CF : CallFix zp zm zc cX2_put 6 s ([.ref (a 0), .int (iI t), .int (iI lf), .int (iI tp), .int (iI w), .int (iI h)] : List Value).toArray wsX2_put RX2 := ⟨hx, hb, hml, hown, hts⟩
  obtain ⟨hP, hK, hN⟩ := hB
  have hinX2 : ∀ w ∈ wsX20, w ∈ wsX2_put := (fun _ h => List.mem_cons_of_mem _ (List.mem_append_right _ h))
  have hS : va_S (aA 5 a) s.heap s.heap [] := va_S.rf
  have hl : lv_has ls 6 [(0, .ref (a 0)), (1, .int (iI t)), (2, .int (iI lf)), (3, .int (iI tp)), (4, .int (iI w)), (5, .int (iI h))] := hl
  refine lv_iload_n hx hb dX2_put_0 rfl (lv_at hl 1 rfl) ?_
  refine ri_rd (ri_runN (As := [.int (iI t)]) (rest := []) CF (k_X3_isTest l t (by omega)) gX2_put_X3_isTest_n24 f_X3_isTest hN.2.2.2.1 (List.mem_of_getElem? (i := 6) rfl) (List.mem_of_getElem? (i := 5) rfl) ⟨rfl, rfl, Nat.le_of_ble_eq_true rfl, Nat.le_of_ble_eq_true rfl, Nat.le_of_ble_eq_true rfl, Nat.le_of_ble_eq_true rfl⟩ tB_bl tB_in rfl hl.1 rfl (Nat.le_of_ble_eq_true rfl) dX2_put_1) ?_
  refine ri_ifne_b (tgt := 8) hx hb dX2_put_4 (by decide) (fun c_1 => ?_) (fun c_1 => ?_)
  · skip
    refine lv_aload_n hx hb dX2_put_8 rfl (lv_at hl 0 rfl) ?_
    refine va_get (D := D) (ci := 2) (v := .ref (a 1)) (C := RX2) (T := TX2) (N := 4) hx hb hts hinX2 hown hK hP 0 rfl rfl 0 (by decide) (hts _ (List.mem_of_getElem? (i := 1) rfl)) (fun _ h9 => h9) rfl dX2_put_9 ?_
    refine lv_iload_n hx hb dX2_put_12 rfl (lv_at hl 1 rfl) ?_
    refine lv_iload_n hx hb dX2_put_13 rfl (lv_at hl 2 rfl) ?_
    refine ri_iast hx hb hK hP (rD hA) hS 1 0 rfl rfl (by omega) (by decide) dX2_put_14 (fun H locs hP hS => ?_)
    replace hP := rS.1 hP
    refine lv_aload_n hx hb dX2_put_15 rfl (lv_at hl 0 rfl) ?_
    refine va_get (D := D) (ci := 2) (v := .ref (a 2)) (C := RX2) (T := TX2) (N := 4) hx hb hts hinX2 hown hK hP 0 rfl rfl 1 (by decide) (hts _ (List.mem_of_getElem? (i := 2) rfl)) (fun _ h9 => h9) rfl dX2_put_16 ?_
    refine lv_iload_n hx hb dX2_put_19 rfl (lv_at hl 1 rfl) ?_
    refine lv_iload_n hx hb dX2_put_20 rfl (lv_at hl 3 rfl) ?_
    refine ri_iast hx hb hK hP (rD hA) hS 2 0 rfl rfl (by omega) (by decide) dX2_put_21 (fun H locs hP hS => ?_)
    replace hP := rS.2.1 hP
    refine lv_aload_n hx hb dX2_put_22 rfl (lv_at hl 0 rfl) ?_
    refine va_get (D := D) (ci := 2) (v := .ref (a 3)) (C := RX2) (T := TX2) (N := 4) hx hb hts hinX2 hown hK hP 0 rfl rfl 2 (by decide) (hts _ (List.mem_of_getElem? (i := 3) rfl)) (fun _ h9 => h9) rfl dX2_put_23 ?_
    refine lv_iload_n hx hb dX2_put_26 rfl (lv_at hl 1 rfl) ?_
    refine lv_iload_n hx hb dX2_put_27 rfl (lv_at hl 2 rfl) ?_
    refine lv_iload hx hb dX2_put_28 (lv_at hl 4 rfl) ?_
    refine ri_iadd hx hb dX2_put_30 ?_
    refine ri_iast hx hb hK hP (rD hA) hS 3 0 rfl rfl (by omega) (by decide) dX2_put_31 (fun H locs hP hS => ?_)
    replace hP := rS.2.2.1 hP
    refine lv_aload_n hx hb dX2_put_32 rfl (lv_at hl 0 rfl) ?_
    refine va_get (D := D) (ci := 2) (v := .ref (a 4)) (C := RX2) (T := TX2) (N := 4) hx hb hts hinX2 hown hK hP 0 rfl rfl 3 (by decide) (hts _ (List.mem_of_getElem? (i := 4) rfl)) (fun _ h9 => h9) rfl dX2_put_33 ?_
    refine lv_iload_n hx hb dX2_put_36 rfl (lv_at hl 1 rfl) ?_
    refine lv_iload_n hx hb dX2_put_37 rfl (lv_at hl 3 rfl) ?_
    refine lv_iload hx hb dX2_put_38 (lv_at hl 5 rfl) ?_
    refine ri_iadd hx hb dX2_put_40 ?_
    refine ri_iast hx hb hK hP (rD hA) hS 4 0 rfl rfl (by omega) (by decide) dX2_put_41 (fun H locs hP hS => ?_)
    replace hP := rS.2.2.2 hP
    exact ri_vretW (A := (aA 5 a)) (PP := (fun H => va_P D vwCl (rW a kk (putR g t lf tp w h)) H)) hx hb hr hlocks hS (hP) dX2_put_42
  · skip
    exfalso; omega

theorem f_X2_drop : MF yX2_drop wsX2_drop cX2_drop 2 (none) 1 := ⟨⟨_, rfl⟩, by decide +kernel, by decide +kernel, by decide +kernel⟩
set_option maxHeartbeats 4000000 in
set_option maxRecDepth 100000 in
theorem k_X2_drop (l : Launch) (D : va_G) (a : Nat → Nat) (kk : Nat → ClassId) (g : Nat → Nat → Int) (t : Int) (hA : aDs 5 a) (yt : 0 ≤ t ∧ t ≤ 4) : WV l yX2_drop wsX2_drop ({ frames := 3, cells := 0, slots := 0, locals := 67 }) [.ref (a 0), .int (iI t)] (wB D kk (rW a kk g)) (fun H => va_P D vwCl (rW a kk (putR g t 0 0 0 0)) H) (aA 5 a) 0 0 := by
  refine ri_ent (cc := cX2_drop) (maxL := 2) (ret := none) (by decide) rfl (Nat.le_of_ble_eq_true rfl) ?_
  intro zp ze s zm zb zt zc hx hb hr hts hown hlocks hml hin hB ls hl
  have hown : s.vm.findClass RX2 = some zm.cls := hown
  have CF : CallFix zp zm zc cX2_drop 2 s ([.ref (a 0), .int (iI t)] : List Value).toArray wsX2_drop RX2 := ⟨hx, hb, hml, hown, hts⟩
  obtain ⟨hP, hK, hN⟩ := hB
  have hS : va_S (aA 5 a) s.heap s.heap [] := va_S.rf
  have hl : lv_has ls 2 [(0, .ref (a 0)), (1, .int (iI t))] := hl
  refine lv_aload_n hx hb dX2_drop_0 rfl (lv_at hl 0 rfl) ?_
  refine lv_iload_n hx hb dX2_drop_1 rfl (lv_at hl 1 rfl) ?_
  refine ri_iconst hx hb dX2_drop_2 ?_
  refine ri_iconst hx hb dX2_drop_3 ?_
  refine ri_iconst hx hb dX2_drop_4 ?_
  refine ri_iconst hx hb dX2_drop_5 ?_
  refine ri_wv (PP := fun H => va_P D vwCl (rW a kk (putR g t 0 0 0 0)) H) (ri_runV (b := a 0) (As := [.int (iI t), .int (iI 0), .int (iI 0), .int (iI 0), .int (iI 0)]) (rest := []) CF (k_X2_put l D a kk g t 0 0 0 0 hA (by omega)) gX2_drop_X2_put f_X2_put rfl (va_recv hK hP (ci := 2) (q0 := 0) rfl rfl) ⟨rfl, rfl, Nat.le_of_ble_eq_true rfl, Nat.le_of_ble_eq_true rfl, Nat.le_of_ble_eq_true rfl, Nat.le_of_ble_eq_true rfl⟩ wB_bl (wB_in hP hK hN) rfl hl.1 rfl (Nat.le_of_ble_eq_true rfl) dX2_drop_6) hS (fun _ h => h) (fun H locs hP _ hS => ?_)
  replace hP : va_P D vwCl (rW a kk (putR g t 0 0 0 0)) H := hP
  exact ri_vretW (A := (aA 5 a)) (PP := (fun H => va_P D vwCl (rW a kk (putR g t 0 0 0 0)) H)) hx hb hr hlocks hS (hP) dX2_drop_9

theorem f_X3_followMain : MF yX3_followMain wsX3_followMain cX3_followMain 3 (none) 2 := ⟨⟨_, rfl⟩, by decide +kernel, by decide +kernel, by decide +kernel⟩
set_option maxHeartbeats 4000000 in
set_option maxRecDepth 100000 in
theorem k_X3_followMain (l : Launch) (D : va_G) (a : Nat → Nat) (kk : Nat → ClassId) (g : Nat → Nat → Int) (b : Int) (t : Int) (hA : aDs 17 a) (hI : XInv g) (yb : 0 ≤ b ∧ b ≤ 3) (yt : 0 ≤ t ∧ t ≤ 4) : WV l yX3_followMain wsX3_followMain ({ frames := 3, cells := 0, slots := 0, locals := 82 }) [.ref (a 0), .int (iI b), .int (iI t)] (wB D kk (xW a kk g)) (fun H => va_P D vwCl (xW a kk (fmG g b t)) H) (aA 17 a) 0 0 := by
  refine ri_ent (cc := cX3_followMain) (maxL := 3) (ret := none) (by decide) rfl (Nat.le_of_ble_eq_true rfl) ?_
  intro zp ze s zm zb zt zc hx hb hr hts hown hlocks hml hin hB ls hl
  have hown : s.vm.findClass RX3 = some zm.cls := hown
  have CF : CallFix zp zm zc cX3_followMain 3 s ([.ref (a 0), .int (iI b), .int (iI t)] : List Value).toArray wsX3_followMain RX3 := ⟨hx, hb, hml, hown, hts⟩
  obtain ⟨hP, hK, hN⟩ := hB
  have hinX3 : ∀ w ∈ wsX30, w ∈ wsX3_followMain := (fun _ h => List.mem_cons_of_mem _ (List.mem_append_left _ (List.mem_append_right _ h)))
  have hS : va_S (aA 17 a) s.heap s.heap [] := va_S.rf
  have hl : lv_has ls 3 [(0, .ref (a 0)), (1, .int (iI b)), (2, .int (iI t))] := hl
  refine lv_aload_n hx hb dX3_followMain_0 rfl (lv_at hl 0 rfl) ?_
  refine va_get (D := D) (ci := 3) (v := .ref (a 1)) (C := RX3) (T := TX3) (N := 4) hx hb hts hinX3 hown hK hP 0 rfl rfl 0 (by decide) (hts _ (List.mem_of_getElem? (i := 1) rfl)) (fun _ h9 => h9) rfl dX3_followMain_1 ?_
  refine ri_iconst hx hb dX3_followMain_4 ?_
  refine lv_iload_n hx hb dX3_followMain_5 rfl (lv_at hl 2 rfl) ?_
  refine ri_rd (ri_runS (As := [.int (iI 0), .int (iI t)]) (rest := [.ref (a 1)]) CF (k_X3_approvedSlot l 0 t) gX3_followMain_X3_approvedSlot f_X3_approvedSlot ⟨rfl, rfl, Nat.le_of_ble_eq_true rfl, Nat.le_of_ble_eq_true rfl, Nat.le_of_ble_eq_true rfl, Nat.le_of_ble_eq_true rfl⟩ tB_bl tB_in rfl hl.1 rfl (Nat.le_of_ble_eq_true rfl) dX3_followMain_6) ?_
  refine lv_iload_n hx hb dX3_followMain_9 rfl (lv_at hl 1 rfl) ?_
  refine lv_iload_n hx hb dX3_followMain_10 rfl (lv_at hl 2 rfl) ?_
  refine ri_rd (ri_runS (As := [.int (iI b), .int (iI t)]) (rest := [.int (iI (5 + 0 * 5 + t)), .ref (a 1)]) CF (k_X3_baseSlot l b t) gX3_followMain_X3_baseSlot f_X3_baseSlot ⟨rfl, rfl, Nat.le_of_ble_eq_true rfl, Nat.le_of_ble_eq_true rfl, Nat.le_of_ble_eq_true rfl, Nat.le_of_ble_eq_true rfl⟩ tB_bl tB_in rfl hl.1 rfl (Nat.le_of_ble_eq_true rfl) dX3_followMain_11) ?_
  refine ri_wv (PP := fun H => va_P D vwCl (xW a kk (cpG g (5 + 0 * 5 + t) (25 + b * 5 + t))) H) (ri_runV (b := a 1) (As := [.int (iI (5 + 0 * 5 + t)), .int (iI (25 + b * 5 + t))]) (rest := []) CF (k_X1_copy l D a kk g (5 + 0 * 5 + t) (25 + b * 5 + t) hA hI (by omega) (by omega)) gX3_followMain_X1_copy f_X1_copy rfl (va_recv hK hP (ci := 1) (q0 := 1) rfl rfl) ⟨rfl, rfl, Nat.le_of_ble_eq_true rfl, Nat.le_of_ble_eq_true rfl, Nat.le_of_ble_eq_true rfl, Nat.le_of_ble_eq_true rfl⟩ wB_bl (wB_in hP hK hN) rfl hl.1 rfl (Nat.le_of_ble_eq_true rfl) dX3_followMain_14) hS (fun _ h => h) (fun H locs hP _ hS => ?_)
  replace hP : va_P D vwCl (xW a kk (cpG g (5 + 0 * 5 + t) (25 + b * 5 + t))) H := hP
  have hI1 := XInv_cp (fr := 5 + 0 * 5 + t) (to := 25 + b * 5 + t) hI (by omega) (by omega)
  refine lv_aload_n hx hb dX3_followMain_17 rfl (lv_at hl 0 rfl) ?_
  refine va_get (D := D) (ci := 3) (v := .ref (a 1)) (C := RX3) (T := TX3) (N := 4) hx hb hts hinX3 hown hK hP 0 rfl rfl 0 (by decide) (hts _ (List.mem_of_getElem? (i := 1) rfl)) (fun _ h9 => h9) rfl dX3_followMain_18 ?_
  refine ri_iconst hx hb dX3_followMain_21 ?_
  refine lv_iload_n hx hb dX3_followMain_22 rfl (lv_at hl 2 rfl) ?_
  refine ri_rd (ri_runS (As := [.int (iI 0), .int (iI t)]) (rest := [.ref (a 1)]) CF (k_X3_approvedSlot l 0 t) gX3_followMain_X3_approvedSlot f_X3_approvedSlot ⟨rfl, rfl, Nat.le_of_ble_eq_true rfl, Nat.le_of_ble_eq_true rfl, Nat.le_of_ble_eq_true rfl, Nat.le_of_ble_eq_true rfl⟩ tB_bl tB_in rfl hl.1 rfl (Nat.le_of_ble_eq_true rfl) dX3_followMain_23) ?_
  refine lv_iload_n hx hb dX3_followMain_26 rfl (lv_at hl 1 rfl) ?_
  refine lv_iload_n hx hb dX3_followMain_27 rfl (lv_at hl 2 rfl) ?_
  refine ri_rd (ri_runS (As := [.int (iI b), .int (iI t)]) (rest := [.int (iI (5 + 0 * 5 + t)), .ref (a 1)]) CF (k_X3_approvedSlot l b t) gX3_followMain_X3_approvedSlot f_X3_approvedSlot ⟨rfl, rfl, Nat.le_of_ble_eq_true rfl, Nat.le_of_ble_eq_true rfl, Nat.le_of_ble_eq_true rfl, Nat.le_of_ble_eq_true rfl⟩ tB_bl tB_in rfl hl.1 rfl (Nat.le_of_ble_eq_true rfl) dX3_followMain_28) ?_
  refine ri_wv (PP := fun H => va_P D vwCl (xW a kk (cpG (cpG g (5 + 0 * 5 + t) (25 + b * 5 + t)) (5 + 0 * 5 + t) (5 + b * 5 + t))) H) (ri_runV (b := a 1) (As := [.int (iI (5 + 0 * 5 + t)), .int (iI (5 + b * 5 + t))]) (rest := []) CF (k_X1_copy l D a kk (cpG g (5 + 0 * 5 + t) (25 + b * 5 + t)) (5 + 0 * 5 + t) (5 + b * 5 + t) hA hI1 (by omega) (by omega)) gX3_followMain_X1_copy f_X1_copy rfl (va_recv hK hP (ci := 1) (q0 := 1) rfl rfl) ⟨rfl, rfl, Nat.le_of_ble_eq_true rfl, Nat.le_of_ble_eq_true rfl, Nat.le_of_ble_eq_true rfl, Nat.le_of_ble_eq_true rfl⟩ wB_bl (wB_in hP hK hN) rfl hl.1 rfl (Nat.le_of_ble_eq_true rfl) dX3_followMain_31) hS (fun _ h => h) (fun H locs hP _ hS => ?_)
  replace hP : va_P D vwCl (xW a kk (cpG (cpG g (5 + 0 * 5 + t) (25 + b * 5 + t)) (5 + 0 * 5 + t) (5 + b * 5 + t))) H := hP
  exact ri_vretW (A := (aA 17 a)) (PP := (fun H => va_P D vwCl (xW a kk (fmG g b t)) H)) hx hb hr hlocks hS (hP) dX3_followMain_34

theorem f_X3_clashes : MF yX3_clashes wsX3_clashes cX3_clashes 6 (some .boolean) 2 := ⟨⟨_, rfl⟩, by decide +kernel, by decide +kernel, by decide +kernel⟩
set_option maxHeartbeats 4000000 in
set_option maxRecDepth 100000 in
theorem k_X3_clashes (l : Launch) (D : va_G) (a : Nat → Nat) (kk : Nat → ClassId) (g : Nat → Nat → Int) (b : Int) (t : Int) (hI : XInv g) (yb : 0 ≤ b ∧ b ≤ 3) (yt : 0 ≤ t ∧ t ≤ 4) : RD l yX3_clashes wsX3_clashes ({ frames := 4, cells := 0, slots := 0, locals := 86 }) [.ref (a 0), .int (iI b), .int (iI t)] (wB D kk (xW a kk g)) (bp (claP g b t)) := by
  refine ri_ent (cc := cX3_clashes) (maxL := 6) (ret := some .boolean) (by decide) rfl (Nat.le_of_ble_eq_true rfl) ?_
  intro zp ze s zm zb zt zc hx hb hr hts hown hlocks hml hin hB ls hl
  have hown : s.vm.findClass RX3 = some zm.cls := hown
  have CF : CallFix zp zm zc cX3_clashes 6 s ([.ref (a 0), .int (iI b), .int (iI t)] : List Value).toArray wsX3_clashes RX3 := ⟨hx, hb, hml, hown, hts⟩
  obtain ⟨hP, hK, hN⟩ := hB
  have hinX3 : ∀ w ∈ wsX30, w ∈ wsX3_clashes := (fun _ h => List.mem_cons_of_mem _ (List.mem_append_left _ (List.mem_append_right _ h)))
  have hl : lv_has ls 6 [(0, .ref (a 0)), (1, .int (iI b)), (2, .int (iI t))] := hl
  refine lv_iload_n hx hb dX3_clashes_0 rfl (lv_at hl 1 rfl) ?_
  refine lv_iload_n hx hb dX3_clashes_1 rfl (lv_at hl 2 rfl) ?_
  refine ri_rd (ri_runS (As := [.int (iI b), .int (iI t)]) (rest := []) CF (k_X3_approvedSlot l b t) gX3_clashes_X3_approvedSlot f_X3_approvedSlot ⟨rfl, rfl, Nat.le_of_ble_eq_true rfl, Nat.le_of_ble_eq_true rfl, Nat.le_of_ble_eq_true rfl, Nat.le_of_ble_eq_true rfl⟩ tB_bl tB_in rfl hl.1 rfl (Nat.le_of_ble_eq_true rfl) dX3_clashes_2) ?_
  refine lv_istore_n (lv' := [(3, .int (iI (5 + b * 5 + t))), (0, .ref (a 0)), (1, .int (iI b)), (2, .int (iI t))]) hx hb dX3_clashes_5 rfl hl (by decide) rfl (fun ls hl => ?_)
  refine ri_iconst hx hb dX3_clashes_6 ?_
  refine lv_iload_n hx hb dX3_clashes_7 rfl (lv_at hl 3 rfl) ?_
  refine ri_rd (ri_runS (As := [.int (iI 0), .int (iI t)]) (rest := []) CF (k_X3_approvedSlot l 0 t) gX3_clashes_X3_approvedSlot f_X3_approvedSlot ⟨rfl, rfl, Nat.le_of_ble_eq_true rfl, Nat.le_of_ble_eq_true rfl, Nat.le_of_ble_eq_true rfl, Nat.le_of_ble_eq_true rfl⟩ tB_bl tB_in rfl hl.1 rfl (Nat.le_of_ble_eq_true rfl) dX3_clashes_8) ?_
  refine lv_istore (lv' := [(4, .int (iI (5 + 0 * 5 + t))), (3, .int (iI (5 + b * 5 + t))), (0, .ref (a 0)), (1, .int (iI b)), (2, .int (iI t))]) hx hb dX3_clashes_11 hl (by decide) rfl (fun ls hl => ?_)
  refine lv_iload_n hx hb dX3_clashes_13 rfl (lv_at hl 3 rfl) ?_
  refine lv_iload_n hx hb dX3_clashes_14 rfl (lv_at hl 4 rfl) ?_
  refine ri_rd (ri_runS (As := [.int (iI b), .int (iI t)]) (rest := []) CF (k_X3_baseSlot l b t) gX3_clashes_X3_baseSlot f_X3_baseSlot ⟨rfl, rfl, Nat.le_of_ble_eq_true rfl, Nat.le_of_ble_eq_true rfl, Nat.le_of_ble_eq_true rfl, Nat.le_of_ble_eq_true rfl⟩ tB_bl tB_in rfl hl.1 rfl (Nat.le_of_ble_eq_true rfl) dX3_clashes_15) ?_
  refine lv_istore (lv' := [(5, .int (iI (25 + b * 5 + t))), (4, .int (iI (5 + 0 * 5 + t))), (3, .int (iI (5 + b * 5 + t))), (0, .ref (a 0)), (1, .int (iI b)), (2, .int (iI t))]) hx hb dX3_clashes_18 hl (by decide) rfl (fun ls hl => ?_)
  refine lv_aload_n hx hb dX3_clashes_20 rfl (lv_at hl 3 rfl) ?_
  refine va_get (D := D) (ci := 3) (v := .ref (a 1)) (C := RX3) (T := TX3) (N := 4) hx hb hts hinX3 hown hK hP 0 rfl rfl 0 (by decide) (hts _ (List.mem_of_getElem? (i := 1) rfl)) (fun _ h9 => h9) rfl dX3_clashes_21 ?_
  refine lv_iload_n hx hb dX3_clashes_24 rfl (lv_at hl 2 rfl) ?_
  refine lv_iload hx hb dX3_clashes_25 (lv_at hl 0 rfl) ?_
  refine ri_rd (ri_runV (b := a 1) (As := [.int (iI (5 + b * 5 + t)), .int (iI (25 + b * 5 + t))]) (rest := []) CF (k_X1_same l D a kk g (5 + b * 5 + t) (25 + b * 5 + t) hI (by omega) (by omega)) gX3_clashes_X1_same f_X1_same rfl (va_recv hK hP (ci := 1) (q0 := 1) rfl rfl) ⟨rfl, rfl, Nat.le_of_ble_eq_true rfl, Nat.le_of_ble_eq_true rfl, Nat.le_of_ble_eq_true rfl, Nat.le_of_ble_eq_true rfl⟩ wB_bl (wB_in hP hK hN) rfl hl.1 rfl (Nat.le_of_ble_eq_true rfl) dX3_clashes_27) ?_
  refine ri_ifne_b (tgt := 64) hx hb dX3_clashes_30 (by decide) (fun h30 => ?_) (fun h30 => ?_)
  · skip
    refine ri_iconst hx hb dX3_clashes_64 ?_
    exact ri_zret hx hb hr hlocks (bp_01 _) dX3_clashes_65 ((bp_f (fun q => q.1 h30)).symm)
  · skip
    refine lv_aload_n hx hb dX3_clashes_33 rfl (lv_at hl 3 rfl) ?_
    refine va_get (D := D) (ci := 3) (v := .ref (a 1)) (C := RX3) (T := TX3) (N := 4) hx hb hts hinX3 hown hK hP 0 rfl rfl 0 (by decide) (hts _ (List.mem_of_getElem? (i := 1) rfl)) (fun _ h9 => h9) rfl dX3_clashes_34 ?_
    refine lv_iload hx hb dX3_clashes_37 (lv_at hl 1 rfl) ?_
    refine lv_iload hx hb dX3_clashes_39 (lv_at hl 0 rfl) ?_
    refine ri_rd (ri_runV (b := a 1) (As := [.int (iI (5 + 0 * 5 + t)), .int (iI (25 + b * 5 + t))]) (rest := []) CF (k_X1_same l D a kk g (5 + 0 * 5 + t) (25 + b * 5 + t) hI (by omega) (by omega)) gX3_clashes_X1_same f_X1_same rfl (va_recv hK hP (ci := 1) (q0 := 1) rfl rfl) ⟨rfl, rfl, Nat.le_of_ble_eq_true rfl, Nat.le_of_ble_eq_true rfl, Nat.le_of_ble_eq_true rfl, Nat.le_of_ble_eq_true rfl⟩ wB_bl (wB_in hP hK hN) rfl hl.1 rfl (Nat.le_of_ble_eq_true rfl) dX3_clashes_41) ?_
    refine ri_ifne_b (tgt := 64) hx hb dX3_clashes_44 (by decide) (fun h44 => ?_) (fun h44 => ?_)
    · skip
      refine ri_iconst hx hb dX3_clashes_64 ?_
      exact ri_zret hx hb hr hlocks (bp_01 _) dX3_clashes_65 ((bp_f (fun q => q.2.1 h44)).symm)
    · skip
      refine lv_aload_n hx hb dX3_clashes_47 rfl (lv_at hl 3 rfl) ?_
      refine va_get (D := D) (ci := 3) (v := .ref (a 1)) (C := RX3) (T := TX3) (N := 4) hx hb hts hinX3 hown hK hP 0 rfl rfl 0 (by decide) (hts _ (List.mem_of_getElem? (i := 1) rfl)) (fun _ h9 => h9) rfl dX3_clashes_48 ?_
      refine lv_iload_n hx hb dX3_clashes_51 rfl (lv_at hl 2 rfl) ?_
      refine lv_iload hx hb dX3_clashes_52 (lv_at hl 1 rfl) ?_
      refine ri_rd (ri_runV (b := a 1) (As := [.int (iI (5 + b * 5 + t)), .int (iI (5 + 0 * 5 + t))]) (rest := []) CF (k_X1_same l D a kk g (5 + b * 5 + t) (5 + 0 * 5 + t) hI (by omega) (by omega)) gX3_clashes_X1_same f_X1_same rfl (va_recv hK hP (ci := 1) (q0 := 1) rfl rfl) ⟨rfl, rfl, Nat.le_of_ble_eq_true rfl, Nat.le_of_ble_eq_true rfl, Nat.le_of_ble_eq_true rfl, Nat.le_of_ble_eq_true rfl⟩ wB_bl (wB_in hP hK hN) rfl hl.1 rfl (Nat.le_of_ble_eq_true rfl) dX3_clashes_54) ?_
      refine ri_ifne_b (tgt := 64) hx hb dX3_clashes_57 (by decide) (fun h57 => ?_) (fun h57 => ?_)
      · skip
        refine ri_iconst hx hb dX3_clashes_64 ?_
        exact ri_zret hx hb hr hlocks (bp_01 _) dX3_clashes_65 ((bp_f (fun q => q.2.2 h57)).symm)
      · skip
        refine ri_iconst hx hb dX3_clashes_60 ?_
        refine lv_goto (tgt := 65) hx hb dX3_clashes_61 (by decide) ?_
        exact ri_zret hx hb hr hlocks (bp_01 _) dX3_clashes_65 ((bp_t ⟨h30, h44, h57⟩).symm)

theorem f_X3_takeOver : MF yX3_takeOver wsX3_takeOver cX3_takeOver 6 (none) 2 := ⟨⟨_, rfl⟩, by decide +kernel, by decide +kernel, by decide +kernel⟩
set_option maxHeartbeats 4000000 in
set_option maxRecDepth 100000 in
theorem k_X3_takeOver (l : Launch) (D : va_G) (a : Nat → Nat) (kk : Nat → ClassId) (g : Nat → Nat → Int) (b : Int) (t : Int) (hA : aDs 17 a) (hI : XInv g) (yb : 0 ≤ b ∧ b ≤ 3) (yt : 0 ≤ t ∧ t ≤ 4) : WV l yX3_takeOver wsX3_takeOver ({ frames := 4, cells := 0, slots := 0, locals := 86 }) [.ref (a 0), .int (iI b), .int (iI t)] (wB D kk (xW a kk g)) (fun H => va_P D vwCl (xW a kk (toG g b t)) H) (aA 17 a) 0 0 := by
  refine ri_ent (cc := cX3_takeOver) (maxL := 6) (ret := none) (by decide) rfl (Nat.le_of_ble_eq_true rfl) ?_
  intro zp ze s zm zb zt zc hx hb hr hts hown hlocks hml hin hB ls hl
  have hown : s.vm.findClass RX3 = some zm.cls := hown
  have CF : CallFix zp zm zc cX3_takeOver 6 s ([.ref (a 0), .int (iI b), .int (iI t)] : List Value).toArray wsX3_takeOver RX3 := ⟨hx, hb, hml, hown, hts⟩
  obtain ⟨hP, hK, hN⟩ := hB
  have hinX3 : ∀ w ∈ wsX30, w ∈ wsX3_takeOver := (fun _ h => List.mem_cons_of_mem _ (List.mem_append_left _ (List.mem_append_right _ h)))
  have hS : va_S (aA 17 a) s.heap s.heap [] := va_S.rf
  have hl : lv_has ls 6 [(0, .ref (a 0)), (1, .int (iI b)), (2, .int (iI t))] := hl
  refine lv_iload_n hx hb dX3_takeOver_0 rfl (lv_at hl 1 rfl) ?_
  refine lv_iload_n hx hb dX3_takeOver_1 rfl (lv_at hl 2 rfl) ?_
  refine ri_rd (ri_runS (As := [.int (iI b), .int (iI t)]) (rest := []) CF (k_X3_approvedSlot l b t) gX3_takeOver_X3_approvedSlot f_X3_approvedSlot ⟨rfl, rfl, Nat.le_of_ble_eq_true rfl, Nat.le_of_ble_eq_true rfl, Nat.le_of_ble_eq_true rfl, Nat.le_of_ble_eq_true rfl⟩ tB_bl tB_in rfl hl.1 rfl (Nat.le_of_ble_eq_true rfl) dX3_takeOver_2) ?_
  refine lv_istore_n (lv' := [(3, .int (iI (5 + b * 5 + t))), (0, .ref (a 0)), (1, .int (iI b)), (2, .int (iI t))]) hx hb dX3_takeOver_5 rfl hl (by decide) rfl (fun ls hl => ?_)
  refine ri_iconst hx hb dX3_takeOver_6 ?_
  refine lv_iload_n hx hb dX3_takeOver_7 rfl (lv_at hl 3 rfl) ?_
  refine ri_rd (ri_runS (As := [.int (iI 0), .int (iI t)]) (rest := []) CF (k_X3_approvedSlot l 0 t) gX3_takeOver_X3_approvedSlot f_X3_approvedSlot ⟨rfl, rfl, Nat.le_of_ble_eq_true rfl, Nat.le_of_ble_eq_true rfl, Nat.le_of_ble_eq_true rfl, Nat.le_of_ble_eq_true rfl⟩ tB_bl tB_in rfl hl.1 rfl (Nat.le_of_ble_eq_true rfl) dX3_takeOver_8) ?_
  refine lv_istore (lv' := [(4, .int (iI (5 + 0 * 5 + t))), (3, .int (iI (5 + b * 5 + t))), (0, .ref (a 0)), (1, .int (iI b)), (2, .int (iI t))]) hx hb dX3_takeOver_11 hl (by decide) rfl (fun ls hl => ?_)
  refine lv_iload_n hx hb dX3_takeOver_13 rfl (lv_at hl 3 rfl) ?_
  refine lv_iload_n hx hb dX3_takeOver_14 rfl (lv_at hl 4 rfl) ?_
  refine ri_rd (ri_runS (As := [.int (iI b), .int (iI t)]) (rest := []) CF (k_X3_baseSlot l b t) gX3_takeOver_X3_baseSlot f_X3_baseSlot ⟨rfl, rfl, Nat.le_of_ble_eq_true rfl, Nat.le_of_ble_eq_true rfl, Nat.le_of_ble_eq_true rfl, Nat.le_of_ble_eq_true rfl⟩ tB_bl tB_in rfl hl.1 rfl (Nat.le_of_ble_eq_true rfl) dX3_takeOver_15) ?_
  refine lv_istore (lv' := [(5, .int (iI (25 + b * 5 + t))), (4, .int (iI (5 + 0 * 5 + t))), (3, .int (iI (5 + b * 5 + t))), (0, .ref (a 0)), (1, .int (iI b)), (2, .int (iI t))]) hx hb dX3_takeOver_18 hl (by decide) rfl (fun ls hl => ?_)
  refine lv_aload_n hx hb dX3_takeOver_20 rfl (lv_at hl 3 rfl) ?_
  refine va_get (D := D) (ci := 3) (v := .ref (a 1)) (C := RX3) (T := TX3) (N := 4) hx hb hts hinX3 hown hK hP 0 rfl rfl 0 (by decide) (hts _ (List.mem_of_getElem? (i := 1) rfl)) (fun _ h9 => h9) rfl dX3_takeOver_21 ?_
  refine lv_iload hx hb dX3_takeOver_24 (lv_at hl 1 rfl) ?_
  refine lv_iload hx hb dX3_takeOver_26 (lv_at hl 0 rfl) ?_
  refine ri_rd (ri_runV (b := a 1) (As := [.int (iI (5 + 0 * 5 + t)), .int (iI (25 + b * 5 + t))]) (rest := []) CF (k_X1_same l D a kk g (5 + 0 * 5 + t) (25 + b * 5 + t) hI (by omega) (by omega)) gX3_takeOver_X1_same f_X1_same rfl (va_recv hK hP (ci := 1) (q0 := 1) rfl rfl) ⟨rfl, rfl, Nat.le_of_ble_eq_true rfl, Nat.le_of_ble_eq_true rfl, Nat.le_of_ble_eq_true rfl, Nat.le_of_ble_eq_true rfl⟩ wB_bl (wB_in hP hK hN) rfl hl.1 rfl (Nat.le_of_ble_eq_true rfl) dX3_takeOver_28) ?_
  refine ri_ifeq_b (tgt := 44) hx hb dX3_takeOver_31 (by decide) (fun h31 => ?_) (fun h31 => ?_)
  · skip
    exact ri_vretW (A := (aA 17 a)) (PP := (fun H => va_P D vwCl (xW a kk (toG g b t)) H)) hx hb hr hlocks hS (by show va_P D vwCl (xW a kk (iteG _ _ _)) _; rw [iteG_f h31]; exact hP) dX3_takeOver_44
  · skip
    refine lv_aload_n hx hb dX3_takeOver_34 rfl (lv_at hl 3 rfl) ?_
    refine va_get (D := D) (ci := 3) (v := .ref (a 1)) (C := RX3) (T := TX3) (N := 4) hx hb hts hinX3 hown hK hP 0 rfl rfl 0 (by decide) (hts _ (List.mem_of_getElem? (i := 1) rfl)) (fun _ h9 => h9) rfl dX3_takeOver_35 ?_
    refine lv_iload_n hx hb dX3_takeOver_38 rfl (lv_at hl 2 rfl) ?_
    refine lv_iload hx hb dX3_takeOver_39 (lv_at hl 1 rfl) ?_
    refine ri_wv (PP := fun H => va_P D vwCl (xW a kk (cpG g (5 + b * 5 + t) (5 + 0 * 5 + t))) H) (ri_runV (b := a 1) (As := [.int (iI (5 + b * 5 + t)), .int (iI (5 + 0 * 5 + t))]) (rest := []) CF (k_X1_copy l D a kk g (5 + b * 5 + t) (5 + 0 * 5 + t) hA hI (by omega) (by omega)) gX3_takeOver_X1_copy f_X1_copy rfl (va_recv hK hP (ci := 1) (q0 := 1) rfl rfl) ⟨rfl, rfl, Nat.le_of_ble_eq_true rfl, Nat.le_of_ble_eq_true rfl, Nat.le_of_ble_eq_true rfl, Nat.le_of_ble_eq_true rfl⟩ wB_bl (wB_in hP hK hN) rfl hl.1 rfl (Nat.le_of_ble_eq_true rfl) dX3_takeOver_41) hS (fun _ h => h) (fun H locs hP _ hS => ?_)
    replace hP : va_P D vwCl (xW a kk (cpG g (5 + b * 5 + t) (5 + 0 * 5 + t))) H := hP
    exact ri_vretW (A := (aA 17 a)) (PP := (fun H => va_P D vwCl (xW a kk (toG g b t)) H)) hx hb hr hlocks hS (by show va_P D vwCl (xW a kk (iteG _ _ _)) _; rw [iteG_t h31]; exact hP) dX3_takeOver_44

theorem f_X3_checkArguments : MF yX3_checkArguments wsX3_checkArguments cX3_checkArguments 1 (none) 1 := ⟨⟨_, rfl⟩, by decide +kernel, by decide +kernel, by decide +kernel⟩
set_option maxHeartbeats 4000000 in
set_option maxRecDepth 100000 in
theorem k_X3_checkArguments (l : Launch) (sa : Nat → Nat) (H0 : Heap) (hst : l.stackTraces = false) (P : Prop) : XV l yX3_checkArguments wsX3_checkArguments ({ frames := 6, cells := 1, slots := 6, locals := 84 }) [.int (iI (bp (P)))] (cB H0 sa) (P) (fun X => X = "java/lang/IllegalArgumentException" ∧ ¬ P) (fun H => H = H0) (fun _ : Nat => False) 1 6 := by
  refine ri_entX (cc := cX3_checkArguments) (maxL := 1) (ret := none) (by decide) rfl (Nat.le_of_ble_eq_true rfl) ?_
  intro zp ze s zm zb zt zc hx hb hr hts hown hlocks hml hxt hB ls hl
  have hown : s.vm.findClass RX3 = some zm.cls := hown
  have CF : CallFix zp zm zc cX3_checkArguments 1 s ([.int (iI (bp (P)))] : List Value).toArray wsX3_checkArguments RX3 := ⟨hx, hb, hml, hown, hts⟩
  obtain ⟨hH0, hT⟩ := hB
  subst hH0
  have hS : va_S (fun _ : Nat => False) s.heap s.heap [] := va_S.rf
  have hl : lv_has ls 1 [(0, .int (iI (bp (P))))] := hl
  refine lv_iload_n hx hb dX3_checkArguments_0 rfl (lv_at hl 0 rfl) ?_
  refine ri_ifne_b (tgt := 14) hx hb dX3_checkArguments_1 (by decide) (fun h1 => ?_) (fun h1 => ?_)
  · skip
    refine W.widen (k := 1) (n := 6) (Nat.le_of_ble_eq_true rfl) (Nat.le_of_ble_eq_true rfl) ?_
    exact ri_vretX (A := (fun _ : Nat => False)) (PP := (fun H => H = s.heap)) hx hb hr hlocks hS (rfl) (h1) dX3_checkArguments_14
  · skip
    exact vx_throwS (A := (fun _ : Nat => False)) (cls := "java/lang/IllegalArgumentException") (names := ["java/lang/RuntimeException", "java/lang/Exception"]) hx hb hst hown (by decide +kernel) (by decide +kernel) (hts _ (List.mem_of_getElem? (i := 1) rfl)) (hts _ (List.mem_of_getElem? (i := 2) rfl)) hT.2.2.1 (tX_hatA (fun w hw => hts w ((fun _ h => List.mem_cons_of_mem _ (List.mem_append_right _ h)) w hw)) hT) (tX_goodA 141) hT.1 hT.2.1 hS (hl.1.trans hml.symm) dX3_checkArguments_4 dX3_checkArguments_7 dX3_checkArguments_8 dX3_checkArguments_10 dX3_checkArguments_13 (fun x hx9 => (hxt x hx9).elim) (Nat.le_of_ble_eq_true rfl) (Nat.le_of_ble_eq_true rfl) (Nat.le_of_ble_eq_true rfl) (Nat.le_of_ble_eq_true rfl) hlocks (fun t9 _ hz9 hk9 => ⟨(), trivial, ⟨rfl, h1⟩, hz9, fun q h1 _ => hk9 q h1⟩) (fun z hz => hS.2.2 z hz) (Nat.le_of_ble_eq_true rfl) (Nat.le_of_ble_eq_true rfl)

theorem f_X3_checkComparison : MF yX3_checkComparison wsX3_checkComparison cX3_checkComparison 4 (none) 3 := ⟨⟨_, rfl⟩, by decide +kernel, by decide +kernel, by decide +kernel⟩
set_option maxHeartbeats 4000000 in
set_option maxRecDepth 100000 in
theorem k_X3_checkComparison (l : Launch) (D : va_G) (a : Nat → Nat) (kk : Nat → ClassId) (g : Nat → Nat → Int) (sa : Nat → Nat) (H0 : Heap) (hst : l.stackTraces = false) (b : Int) (t : Int) (n : Int) (hI : XInv g) (yb : -2147483648 ≤ b ∧ b < 2147483648) (yt : -2147483648 ≤ t ∧ t < 2147483648) (yn : -2147483648 ≤ n ∧ n < 2147483648) : XV l yX3_checkComparison wsX3_checkComparison ({ frames := 7, cells := 2, slots := 12, locals := 104 }) [.ref (a 0), .int (iI b), .int (iI t), .int (iI n)] (dB H0 sa D kk (xW a kk g)) (cmpA b t n ∧ g 3 (5 + b * 5 + t).toNat = 1) (cmpE g b t n) (fun H => H = H0) (fun _ : Nat => False) 2 12 := by
  refine ri_entX (cc := cX3_checkComparison) (maxL := 4) (ret := none) (by decide) rfl (Nat.le_of_ble_eq_true rfl) ?_
  intro zp ze s zm zb zt zc hx hb hr hts hown hlocks hml hxt hB ls hl
  have hown : s.vm.findClass RX3 = some zm.cls := hown
  have CF : CallFix zp zm zc cX3_checkComparison 4 s ([.ref (a 0), .int (iI b), .int (iI t), .int (iI n)] : List Value).toArray wsX3_checkComparison RX3 := ⟨hx, hb, hml, hown, hts⟩
  obtain ⟨⟨hH0, hT⟩, hP, hK, hN⟩ := hB
  subst hH0
  have hinX3 : ∀ w ∈ wsX30, w ∈ wsX3_checkComparison := (fun _ h => List.mem_cons_of_mem _ (List.mem_append_left _ (List.mem_append_left _ (List.mem_append_left _ (List.mem_append_right _ h)))))
  have hS : va_S (fun _ : Nat => False) s.heap s.heap [] := va_S.rf
  have hl : lv_has ls 4 [(0, .ref (a 0)), (1, .int (iI b)), (2, .int (iI t)), (3, .int (iI n))] := hl
  have J26 : W zp l ze ({ frames := 7, cells := 2, slots := 12, locals := 104 }) s zm ([.ref (a 0), .int (iI b), .int (iI t), .int (iI n)] : List Value).toArray zb zt zc s.heap [] 0 0 (vx_MQ zb (va_Qv (fun _ : Unit => cmpA b t n ∧ g 3 (5 + b * 5 + t).toNat = 1) (fun _ t9 => (fun H => H = s.heap) t9.heap) (fun _ : Nat => False)) (vx_X (fun _ : Unit => True) (fun X _ _ => (cmpE g b t n) X) (fun _ => False)) ([.ref (a 0), .int (iI b), .int (iI t), .int (iI n)] : List Value).toArray s 2 12 (fun _ : Nat => False)) (F0 zm 26 ls [.int (iI (bp (cmpA b t n)))]) := by
    refine ri_chk (A := (fun _ : Nat => False)) (ri_runSX (As := [.int (iI (bp (cmpA b t n)))]) (rest := []) CF (k_X3_checkArguments l sa s.heap hst (cmpA b t n)) gX3_checkComparison_X3_checkArguments f_X3_checkArguments ⟨rfl, rfl, Nat.le_of_ble_eq_true rfl, Nat.le_of_ble_eq_true rfl, Nat.le_of_ble_eq_true rfl, Nat.le_of_ble_eq_true rfl⟩ cB_bl (cB_in hT) rfl hl.1 rfl (Nat.le_of_ble_eq_true rfl) dX3_checkComparison_26) hS (fun X hX => Or.inl hX) hxt hlocks (fun _ h => h) (Nat.le_of_ble_eq_true rfl) (Nat.le_of_ble_eq_true rfl) (fun locs hok hS => ?_)
    obtain ⟨hokb, hokt, hokn⟩ := id hok
    refine lv_aload_n hx hb dX3_checkComparison_29 rfl (lv_at hl 0 rfl) ?_
    refine va_get (D := D) (ci := 3) (v := .ref (a 1)) (C := RX3) (T := TX3) (N := 4) hx hb hts hinX3 hown hK hP 0 rfl rfl 0 (by decide) (hts _ (List.mem_of_getElem? (i := 3) rfl)) (fun _ h9 => h9) rfl dX3_checkComparison_30 ?_
    refine lv_iload_n hx hb dX3_checkComparison_33 rfl (lv_at hl 1 rfl) ?_
    refine lv_iload_n hx hb dX3_checkComparison_34 rfl (lv_at hl 2 rfl) ?_
    refine ri_rd (ri_runS (As := [.int (iI b), .int (iI t)]) (rest := [.ref (a 1)]) CF (k_X3_approvedSlot l b t) gX3_checkComparison_X3_approvedSlot f_X3_approvedSlot ⟨rfl, rfl, Nat.le_of_ble_eq_true rfl, Nat.le_of_ble_eq_true rfl, Nat.le_of_ble_eq_true rfl, Nat.le_of_ble_eq_true rfl⟩ tB_bl tB_in rfl hl.1 rfl (Nat.le_of_ble_eq_true rfl) dX3_checkComparison_35) ?_
    refine ri_rd (ri_runV (b := a 1) (As := [.int (iI (5 + b * 5 + t))]) (rest := []) CF (k_X1_has l D a kk g (5 + b * 5 + t) hI (by omega)) gX3_checkComparison_X1_has f_X1_has rfl (va_recv hK hP (ci := 1) (q0 := 1) rfl rfl) ⟨rfl, rfl, Nat.le_of_ble_eq_true rfl, Nat.le_of_ble_eq_true rfl, Nat.le_of_ble_eq_true rfl, Nat.le_of_ble_eq_true rfl⟩ wB_bl (wB_in hP hK hN) rfl hl.1 rfl (Nat.le_of_ble_eq_true rfl) dX3_checkComparison_38) ?_
    refine ri_ifne_b (tgt := 54) hx hb dX3_checkComparison_41 (by decide) (fun h41 => ?_) (fun h41 => ?_)
    · skip
      refine W.widen (k := 2) (n := 12) (Nat.le_of_ble_eq_true rfl) (Nat.le_of_ble_eq_true rfl) ?_
      exact ri_vretX (A := (fun _ : Nat => False)) (PP := (fun H => H = s.heap)) hx hb hr hlocks hS (rfl) (⟨hok, h41⟩) dX3_checkComparison_54
    · skip
      exact vx_throwS (A := (fun _ : Nat => False)) (cls := "java/lang/IllegalStateException") (names := ["java/lang/RuntimeException", "java/lang/Exception"]) hx hb hst hown (by decide +kernel) (by decide +kernel) (hts _ (List.mem_of_getElem? (i := 1) rfl)) (hts _ (List.mem_of_getElem? (i := 2) rfl)) hT.2.2.2.2.1 (tX_hatS (fun w hw => hts w ((fun _ h => List.mem_cons_of_mem _ (List.mem_append_left _ (List.mem_append_right _ h))) w hw)) hT) (tX_goodS 77) hT.1 hT.2.1 hS (hl.1.trans hml.symm) dX3_checkComparison_44 dX3_checkComparison_47 dX3_checkComparison_48 dX3_checkComparison_50 dX3_checkComparison_53 (fun x hx9 => (hxt x hx9).elim) (Nat.le_of_ble_eq_true rfl) (Nat.le_of_ble_eq_true rfl) (Nat.le_of_ble_eq_true rfl) (Nat.le_of_ble_eq_true rfl) hlocks (fun t9 _ hz9 hk9 => ⟨(), trivial, Or.inr ⟨rfl, hok, h41⟩, hz9, fun q h1 _ => hk9 q h1⟩) (fun z hz => hS.2.2 z hz) (Nat.le_of_ble_eq_true rfl) (Nat.le_of_ble_eq_true rfl)
  refine lv_iload_n hx hb dX3_checkComparison_0 rfl (lv_at hl 1 rfl) ?_
  refine ri_rd (ri_runS (As := [.int (iI b)]) (rest := []) CF (k_X3_isBranch l b (by omega)) gX3_checkComparison_X3_isBranch f_X3_isBranch ⟨rfl, rfl, Nat.le_of_ble_eq_true rfl, Nat.le_of_ble_eq_true rfl, Nat.le_of_ble_eq_true rfl, Nat.le_of_ble_eq_true rfl⟩ tB_bl tB_in rfl hl.1 rfl (Nat.le_of_ble_eq_true rfl) dX3_checkComparison_1) ?_
  refine ri_ifeq_b (tgt := 25) hx hb dX3_checkComparison_4 (by decide) (fun h4 => ?_) (fun h4 => ?_)
  · skip
    refine ri_iconst hx hb dX3_checkComparison_25 ?_
    exact ri_eq ((bp_f (fun q => h4 q.1)).symm) J26
  · skip
    refine lv_iload_n hx hb dX3_checkComparison_7 rfl (lv_at hl 2 rfl) ?_
    refine ri_rd (ri_runS (As := [.int (iI t)]) (rest := []) CF (k_X3_isTest l t (by omega)) gX3_checkComparison_X3_isTest f_X3_isTest ⟨rfl, rfl, Nat.le_of_ble_eq_true rfl, Nat.le_of_ble_eq_true rfl, Nat.le_of_ble_eq_true rfl, Nat.le_of_ble_eq_true rfl⟩ tB_bl tB_in rfl hl.1 rfl (Nat.le_of_ble_eq_true rfl) dX3_checkComparison_8) ?_
    refine ri_ifeq_b (tgt := 25) hx hb dX3_checkComparison_11 (by decide) (fun h11 => ?_) (fun h11 => ?_)
    · skip
      refine ri_iconst hx hb dX3_checkComparison_25 ?_
      exact ri_eq ((bp_f (fun q => h11 q.2.1)).symm) J26
    · skip
      refine lv_iload_n hx hb dX3_checkComparison_14 rfl (lv_at hl 3 rfl) ?_
      refine ri_rd (ri_runS (As := [.int (iI n)]) (rest := []) CF (k_X3_isShade l n (by omega)) gX3_checkComparison_X3_isShade f_X3_isShade ⟨rfl, rfl, Nat.le_of_ble_eq_true rfl, Nat.le_of_ble_eq_true rfl, Nat.le_of_ble_eq_true rfl, Nat.le_of_ble_eq_true rfl⟩ tB_bl tB_in rfl hl.1 rfl (Nat.le_of_ble_eq_true rfl) dX3_checkComparison_15) ?_
      refine ri_ifeq_b (tgt := 25) hx hb dX3_checkComparison_18 (by decide) (fun h18 => ?_) (fun h18 => ?_)
      · skip
        refine ri_iconst hx hb dX3_checkComparison_25 ?_
        exact ri_eq ((bp_f (fun q => h18 q.2.2)).symm) J26
      · skip
        refine ri_iconst hx hb dX3_checkComparison_21 ?_
        refine lv_goto (tgt := 26) hx hb dX3_checkComparison_22 (by decide) ?_
        exact ri_eq ((bp_t ⟨h4, h11, h18⟩).symm) J26
