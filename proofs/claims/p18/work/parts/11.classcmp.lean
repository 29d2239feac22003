theorem f_X3_isMoved : MF yX3_isMoved wsX3_isMoved cX3_isMoved 5 (some .boolean) 4 := ⟨⟨_, rfl⟩, by decide +kernel, by decide +kernel, by decide +kernel⟩
set_option maxHeartbeats 4000000 in
set_option maxRecDepth 100000 in
theorem k_X3_isMoved (l : Launch) (D : va_G) (a : Nat → Nat) (kk : Nat → ClassId) (g : Nat → Nat → Int) (t : Int) (mv : Int) (c : Int) (r : Int) (hI : XInv g) (yt : 0 ≤ t ∧ t ≤ 4) (ymv : 4848 ≤ mv ∧ mv ≤ 5252) (yc : 0 ≤ c ∧ c ≤ 7) (yr : 0 ≤ r ∧ r ≤ 7) : RD l yX3_isMoved wsX3_isMoved ({ frames := 3, cells := 0, slots := 0, locals := 65 }) [.ref (a 0), .int (iI t), .int (iI mv), .int (iI c), .int (iI r)] (wB D kk (xW a kk g)) (bp (¬ ((mv % 100 - 50) = 0 ∧ (mv / 100 - 50) = 0) ∧ (inR (g 5 t.toNat) (g 6 t.toNat) (g 7 t.toNat) (g 8 t.toNat) c r ∨ inR (g 5 t.toNat) (g 6 t.toNat) (g 7 t.toNat) (g 8 t.toNat) (c - (mv % 100 - 50)) (r - (mv / 100 - 50))))) := by
  refine ri_ent (cc := cX3_isMoved) (maxL := 5) (ret := some .boolean) (by decide) rfl (Nat.le_of_ble_eq_true rfl) ?_
  intro zp ze s zm zb zt zc hx hb hr hts hown hlocks hml hin hB ls hl
  have hown : s.vm.findClass RX3 = some zm.cls := hown
  have CF : CallFix zp zm zc cX3_isMoved 5 s ([.ref (a 0), .int (iI t), .int (iI mv), .int (iI c), .int (iI r)] : List Value).toArray wsX3_isMoved RX3 := ⟨hx, hb, hml, hown, hts⟩
  obtain ⟨hP, hK, hN⟩ := hB
  have hinX3 : ∀ w ∈ wsX30, w ∈ wsX3_isMoved := (fun _ h => List.mem_cons_of_mem _ (List.mem_append_left _ (List.mem_append_right _ h)))
  have hl : lv_has ls 5 [(0, .ref (a 0)), (1, .int (iI t)), (2, .int (iI mv)), (3, .int (iI c)), (4, .int (iI r))] := hl
  refine lv_iload_n hx hb dX3_isMoved_0 rfl (lv_at hl 2 rfl) ?_
  refine ri_sipush hx hb dX3_isMoved_1 (by decide) ?_
  refine ri_icmp_ne (tgt := 9) hx hb (by omega) dX3_isMoved_4 (by decide) (fun h4 => ?_) (fun h4 => ?_)
  · skip
    refine lv_aload_n hx hb dX3_isMoved_9 rfl (lv_at hl 0 rfl) ?_
    refine va_get (D := D) (ci := 3) (v := .ref (a 4)) (C := RX3) (T := TX3) (N := 4) hx hb hts hinX3 hown hK hP 0 rfl rfl 1 (by decide) (hts _ (List.mem_of_getElem? (i := 1) rfl)) (fun _ h9 => h9) rfl dX3_isMoved_10 ?_
    refine lv_iload_n hx hb dX3_isMoved_13 rfl (lv_at hl 1 rfl) ?_
    refine lv_iload_n hx hb dX3_isMoved_14 rfl (lv_at hl 3 rfl) ?_
    refine lv_iload hx hb dX3_isMoved_15 (lv_at hl 4 rfl) ?_
    refine ri_rd (ri_runV (b := a 4) (As := [.int (iI t), .int (iI c), .int (iI r)]) (rest := []) CF (k_X2_holds l D (fun i => a (4 + i)) kk (fun i => g (4 + i)) t c r (xr_parts hI) (by omega) (by omega) (by omega)) gX3_isMoved_X2_holds f_X2_holds rfl (va_recv hK hP (ci := 2) (q0 := 4) rfl rfl) ⟨rfl, rfl, Nat.le_of_ble_eq_true rfl, Nat.le_of_ble_eq_true rfl, Nat.le_of_ble_eq_true rfl, Nat.le_of_ble_eq_true rfl⟩ wB_bl (wB_in (x_parts hP) hK hN) rfl hl.1 rfl (Nat.le_of_ble_eq_true rfl) dX3_isMoved_17) ?_
    refine ri_eq (y := bp ((g 5 t.toNat ≤ c ∧ c < g 7 t.toNat) ∧ (g 6 t.toNat ≤ r ∧ r < g 8 t.toNat))) rfl ?_
    refine ri_ifne_b (tgt := 47) hx hb dX3_isMoved_20 (by decide) (fun h20 => ?_) (fun h20 => ?_)
    · skip
      refine ri_iconst hx hb dX3_isMoved_47 ?_
      refine lv_goto (tgt := 52) hx hb dX3_isMoved_48 (by decide) ?_
      exact ri_zret hx hb hr hlocks (bp_01 _) dX3_isMoved_52 ((bp_t ⟨by omega, Or.inl h20⟩).symm)
    · skip
      refine lv_aload_n hx hb dX3_isMoved_23 rfl (lv_at hl 0 rfl) ?_
      refine va_get (D := D) (ci := 3) (v := .ref (a 4)) (C := RX3) (T := TX3) (N := 4) hx hb hts hinX3 hown hK hP 0 rfl rfl 1 (by decide) (hts _ (List.mem_of_getElem? (i := 1) rfl)) (fun _ h9 => h9) rfl dX3_isMoved_24 ?_
      refine lv_iload_n hx hb dX3_isMoved_27 rfl (lv_at hl 1 rfl) ?_
      refine lv_iload_n hx hb dX3_isMoved_28 rfl (lv_at hl 3 rfl) ?_
      refine lv_iload_n hx hb dX3_isMoved_29 rfl (lv_at hl 2 rfl) ?_
      refine ri_rd (ri_runS (As := [.int (iI mv)]) (rest := [.int (iI c), .int (iI t), .ref (a 4)]) CF (k_X3_columnsOf l mv (by omega)) gX3_isMoved_X3_columnsOf f_X3_columnsOf ⟨rfl, rfl, Nat.le_of_ble_eq_true rfl, Nat.le_of_ble_eq_true rfl, Nat.le_of_ble_eq_true rfl, Nat.le_of_ble_eq_true rfl⟩ tB_bl tB_in rfl hl.1 rfl (Nat.le_of_ble_eq_true rfl) dX3_isMoved_30) ?_
      refine ri_isub hx hb dX3_isMoved_33 ?_
      refine lv_iload hx hb dX3_isMoved_34 (lv_at hl 4 rfl) ?_
      refine lv_iload_n hx hb dX3_isMoved_36 rfl (lv_at hl 2 rfl) ?_
      refine ri_rd (ri_runS (As := [.int (iI mv)]) (rest := [.int (iI r), .int (iI (c - (mv % 100 - 50))), .int (iI t), .ref (a 4)]) CF (k_X3_rowsOf l mv (by omega)) gX3_isMoved_X3_rowsOf f_X3_rowsOf ⟨rfl, rfl, Nat.le_of_ble_eq_true rfl, Nat.le_of_ble_eq_true rfl, Nat.le_of_ble_eq_true rfl, Nat.le_of_ble_eq_true rfl⟩ tB_bl tB_in rfl hl.1 rfl (Nat.le_of_ble_eq_true rfl) dX3_isMoved_37) ?_
      refine ri_isub hx hb dX3_isMoved_40 ?_
      refine ri_rd (ri_runV (b := a 4) (As := [.int (iI t), .int (iI (c - (mv % 100 - 50))), .int (iI (r - (mv / 100 - 50)))]) (rest := []) CF (k_X2_holds l D (fun i => a (4 + i)) kk (fun i => g (4 + i)) t (c - (mv % 100 - 50)) (r - (mv / 100 - 50)) (xr_parts hI) (by omega) (by omega) (by omega)) gX3_isMoved_X2_holds f_X2_holds rfl (va_recv hK hP (ci := 2) (q0 := 4) rfl rfl) ⟨rfl, rfl, Nat.le_of_ble_eq_true rfl, Nat.le_of_ble_eq_true rfl, Nat.le_of_ble_eq_true rfl, Nat.le_of_ble_eq_true rfl⟩ wB_bl (wB_in (x_parts hP) hK hN) rfl hl.1 rfl (Nat.le_of_ble_eq_true rfl) dX3_isMoved_41) ?_
      refine ri_eq (y := bp ((g 5 t.toNat ≤ (c - (mv % 100 - 50)) ∧ (c - (mv % 100 - 50)) < g 7 t.toNat) ∧ (g 6 t.toNat ≤ (r - (mv / 100 - 50)) ∧ (r - (mv / 100 - 50)) < g 8 t.toNat))) rfl ?_
      refine ri_ifeq_b (tgt := 51) hx hb dX3_isMoved_44 (by decide) (fun h44 => ?_) (fun h44 => ?_)
      · skip
        refine ri_iconst hx hb dX3_isMoved_51 ?_
        exact ri_zret hx hb hr hlocks (bp_01 _) dX3_isMoved_52 ((bp_f (fun q => q.2.elim h20 h44)).symm)
      · skip
        refine ri_iconst hx hb dX3_isMoved_47 ?_
        refine lv_goto (tgt := 52) hx hb dX3_isMoved_48 (by decide) ?_
        exact ri_zret hx hb hr hlocks (bp_01 _) dX3_isMoved_52 ((bp_t ⟨by omega, Or.inr h44⟩).symm)
  · skip
    refine ri_iconst hx hb dX3_isMoved_7 ?_
    exact ri_zret hx hb hr hlocks (bp_01 _) dX3_isMoved_8 ((bp_f (fun q => q.1 (by omega))).symm)

theorem f_X3_isMasked : MF yX3_isMasked wsX3_isMasked cX3_isMasked 7 (some .boolean) 4 := ⟨⟨_, rfl⟩, by decide +kernel, by decide +kernel, by decide +kernel⟩
set_option maxHeartbeats 4000000 in
set_option maxRecDepth 100000 in
theorem k_X3_isMasked (l : Launch) (D : va_G) (a : Nat → Nat) (kk : Nat → ClassId) (g : Nat → Nat → Int) (t : Int) (mv : Int) (c : Int) (r : Int) (hI : XInv g) (yt : 0 ≤ t ∧ t ≤ 4) (ymv : 4848 ≤ mv ∧ mv ≤ 5252) (yc : 0 ≤ c ∧ c ≤ 7) (yr : 0 ≤ r ∧ r ≤ 7) : RD l yX3_isMasked wsX3_isMasked ({ frames := 3, cells := 0, slots := 0, locals := 65 }) [.ref (a 0), .int (iI t), .int (iI mv), .int (iI c), .int (iI r)] (wB D kk (xW a kk g)) (bp (inR (g 10 t.toNat) (g 11 t.toNat) (g 12 t.toNat) (g 13 t.toNat) (c - (mv % 100 - 50) - g 5 t.toNat) (r - (mv / 100 - 50) - g 6 t.toNat))) := by
  refine ri_ent (cc := cX3_isMasked) (maxL := 7) (ret := some .boolean) (by decide) rfl (Nat.le_of_ble_eq_true rfl) ?_
  intro zp ze s zm zb zt zc hx hb hr hts hown hlocks hml hin hB ls hl
  have hown : s.vm.findClass RX3 = some zm.cls := hown
  have CF : CallFix zp zm zc cX3_isMasked 7 s ([.ref (a 0), .int (iI t), .int (iI mv), .int (iI c), .int (iI r)] : List Value).toArray wsX3_isMasked RX3 := ⟨hx, hb, hml, hown, hts⟩
  obtain ⟨hP, hK, hN⟩ := hB
  have hinX3 : ∀ w ∈ wsX30, w ∈ wsX3_isMasked := (fun _ h => List.mem_cons_of_mem _ (List.mem_append_left _ (List.mem_append_right _ h)))
  have hl : lv_has ls 7 [(0, .ref (a 0)), (1, .int (iI t)), (2, .int (iI mv)), (3, .int (iI c)), (4, .int (iI r))] := hl
  refine lv_iload_n hx hb dX3_isMasked_0 rfl (lv_at hl 3 rfl) ?_
  refine lv_iload_n hx hb dX3_isMasked_1 rfl (lv_at hl 2 rfl) ?_
  refine ri_rd (ri_runS (As := [.int (iI mv)]) (rest := [.int (iI c)]) CF (k_X3_columnsOf l mv (by omega)) gX3_isMasked_X3_columnsOf f_X3_columnsOf ⟨rfl, rfl, Nat.le_of_ble_eq_true rfl, Nat.le_of_ble_eq_true rfl, Nat.le_of_ble_eq_true rfl, Nat.le_of_ble_eq_true rfl⟩ tB_bl tB_in rfl hl.1 rfl (Nat.le_of_ble_eq_true rfl) dX3_isMasked_2) ?_
  refine ri_isub hx hb dX3_isMasked_5 ?_
  refine lv_aload_n hx hb dX3_isMasked_6 rfl (lv_at hl 0 rfl) ?_
  refine va_get (D := D) (ci := 3) (v := .ref (a 4)) (C := RX3) (T := TX3) (N := 4) hx hb hts hinX3 hown hK hP 0 rfl rfl 1 (by decide) (hts _ (List.mem_of_getElem? (i := 1) rfl)) (fun _ h9 => h9) rfl dX3_isMasked_7 ?_
  refine lv_iload_n hx hb dX3_isMasked_10 rfl (lv_at hl 1 rfl) ?_
  refine ri_rd (ri_runV (b := a 4) (As := [.int (iI t)]) (rest := [.int (iI (c - (mv % 100 - 50)))]) CF (k_X2_left l D (fun i => a (4 + i)) kk (fun i => g (4 + i)) t (by omega)) gX3_isMasked_X2_left f_X2_left rfl (va_recv hK hP (ci := 2) (q0 := 4) rfl rfl) ⟨rfl, rfl, Nat.le_of_ble_eq_true rfl, Nat.le_of_ble_eq_true rfl, Nat.le_of_ble_eq_true rfl, Nat.le_of_ble_eq_true rfl⟩ wB_bl (wB_in (x_parts hP) hK hN) rfl hl.1 rfl (Nat.le_of_ble_eq_true rfl) dX3_isMasked_11) ?_
  refine ri_eq (y := g 5 t.toNat) rfl ?_
  have f_1 := hI.2.2.2.1 t.toNat (by omega)
  refine ri_isub hx hb dX3_isMasked_14 ?_
  refine lv_istore (lv' := [(5, .int (iI ((c - (mv % 100 - 50)) - (g 5 t.toNat)))), (0, .ref (a 0)), (1, .int (iI t)), (2, .int (iI mv)), (3, .int (iI c)), (4, .int (iI r))]) hx hb dX3_isMasked_15 hl (by decide) rfl (fun ls hl => ?_)
  refine lv_iload hx hb dX3_isMasked_17 (lv_at hl 5 rfl) ?_
  refine lv_iload_n hx hb dX3_isMasked_19 rfl (lv_at hl 3 rfl) ?_
  refine ri_rd (ri_runS (As := [.int (iI mv)]) (rest := [.int (iI r)]) CF (k_X3_rowsOf l mv (by omega)) gX3_isMasked_X3_rowsOf f_X3_rowsOf ⟨rfl, rfl, Nat.le_of_ble_eq_true rfl, Nat.le_of_ble_eq_true rfl, Nat.le_of_ble_eq_true rfl, Nat.le_of_ble_eq_true rfl⟩ tB_bl tB_in rfl hl.1 rfl (Nat.le_of_ble_eq_true rfl) dX3_isMasked_20) ?_
  refine ri_isub hx hb dX3_isMasked_23 ?_
  refine lv_aload_n hx hb dX3_isMasked_24 rfl (lv_at hl 1 rfl) ?_
  refine va_get (D := D) (ci := 3) (v := .ref (a 4)) (C := RX3) (T := TX3) (N := 4) hx hb hts hinX3 hown hK hP 0 rfl rfl 1 (by decide) (hts _ (List.mem_of_getElem? (i := 1) rfl)) (fun _ h9 => h9) rfl dX3_isMasked_25 ?_
  refine lv_iload_n hx hb dX3_isMasked_28 rfl (lv_at hl 2 rfl) ?_
  refine ri_rd (ri_runV (b := a 4) (As := [.int (iI t)]) (rest := [.int (iI (r - (mv / 100 - 50)))]) CF (k_X2_top l D (fun i => a (4 + i)) kk (fun i => g (4 + i)) t (by omega)) gX3_isMasked_X2_top f_X2_top rfl (va_recv hK hP (ci := 2) (q0 := 4) rfl rfl) ⟨rfl, rfl, Nat.le_of_ble_eq_true rfl, Nat.le_of_ble_eq_true rfl, Nat.le_of_ble_eq_true rfl, Nat.le_of_ble_eq_true rfl⟩ wB_bl (wB_in (x_parts hP) hK hN) rfl hl.1 rfl (Nat.le_of_ble_eq_true rfl) dX3_isMasked_29) ?_
  refine ri_eq (y := g 6 t.toNat) rfl ?_
  have f_2 := hI.2.2.2.1 t.toNat (by omega)
  refine ri_isub hx hb dX3_isMasked_32 ?_
  refine lv_istore (lv' := [(6, .int (iI ((r - (mv / 100 - 50)) - (g 6 t.toNat)))), (5, .int (iI ((c - (mv % 100 - 50)) - (g 5 t.toNat)))), (0, .ref (a 0)), (1, .int (iI t)), (2, .int (iI mv)), (3, .int (iI c)), (4, .int (iI r))]) hx hb dX3_isMasked_33 hl (by decide) rfl (fun ls hl => ?_)
  refine lv_aload_n hx hb dX3_isMasked_35 rfl (lv_at hl 2 rfl) ?_
  refine va_get (D := D) (ci := 3) (v := .ref (a 9)) (C := RX3) (T := TX3) (N := 4) hx hb hts hinX3 hown hK hP 0 rfl rfl 2 (by decide) (hts _ (List.mem_of_getElem? (i := 2) rfl)) (fun _ h9 => h9) rfl dX3_isMasked_36 ?_
  refine lv_iload_n hx hb dX3_isMasked_39 rfl (lv_at hl 3 rfl) ?_
  refine lv_iload hx hb dX3_isMasked_40 (lv_at hl 1 rfl) ?_
  refine lv_iload hx hb dX3_isMasked_42 (lv_at hl 0 rfl) ?_
  refine ri_rd (ri_runV (b := a 9) (As := [.int (iI t), .int (iI ((c - (mv % 100 - 50)) - (g 5 t.toNat))), .int (iI ((r - (mv / 100 - 50)) - (g 6 t.toNat)))]) (rest := []) CF (k_X2_holds l D (fun i => a (9 + i)) kk (fun i => g (9 + i)) t ((c - (mv % 100 - 50)) - (g 5 t.toNat)) ((r - (mv / 100 - 50)) - (g 6 t.toNat)) (xr_masks hI) (by omega) (by omega) (by omega)) gX3_isMasked_X2_holds f_X2_holds rfl (va_recv hK hP (ci := 2) (q0 := 9) rfl rfl) ⟨rfl, rfl, Nat.le_of_ble_eq_true rfl, Nat.le_of_ble_eq_true rfl, Nat.le_of_ble_eq_true rfl, Nat.le_of_ble_eq_true rfl⟩ wB_bl (wB_in (x_masks hP) hK hN) rfl hl.1 rfl (Nat.le_of_ble_eq_true rfl) dX3_isMasked_44) ?_
  refine ri_eq (y := bp ((g 10 t.toNat ≤ ((c - (mv % 100 - 50)) - (g 5 t.toNat)) ∧ ((c - (mv % 100 - 50)) - (g 5 t.toNat)) < g 12 t.toNat) ∧ (g 11 t.toNat ≤ ((r - (mv / 100 - 50)) - (g 6 t.toNat)) ∧ ((r - (mv / 100 - 50)) - (g 6 t.toNat)) < g 13 t.toNat))) rfl ?_
  exact ri_zret hx hb hr hlocks (bp_01 _) dX3_isMasked_47 (rfl)

theorem f_X3_isSoft : MF yX3_isSoft wsX3_isSoft cX3_isSoft 13 (some .boolean) 5 := ⟨⟨_, rfl⟩, by decide +kernel, by decide +kernel, by decide +kernel⟩
set_option maxHeartbeats 4000000 in
set_option maxRecDepth 100000 in
theorem k_X3_isSoft (l : Launch) (D : va_G) (a : Nat → Nat) (kk : Nat → ClassId) (g : Nat → Nat → Int) (z : Int) (t : Int) (b : Int) (c : Int) (r : Int) (hI : XInv g) (yz : 0 ≤ z ∧ z ≤ 44) (yt : 0 ≤ t ∧ t ≤ 4) (yb : 0 ≤ b ∧ b ≤ 255) (yc : 0 ≤ c ∧ c ≤ 7) (yr : 0 ≤ r ∧ r ≤ 7) : RD l yX3_isSoft wsX3_isSoft ({ frames := 3, cells := 0, slots := 0, locals := 66 }) [.ref (a 0), .int (iI z), .int (iI t), .int (iI b), .int (iI c), .int (iI r)] (wB D kk (xW a kk g)) (bp (softP (px (g 2) t) (px (g 2) z) b c r)) := by
  refine ri_ent (cc := cX3_isSoft) (maxL := 13) (ret := some .boolean) (by decide) rfl (Nat.le_of_ble_eq_true rfl) ?_
  intro zp ze s zm zb zt zc hx hb hr hts hown hlocks hml hin hB ls hl
  have hown : s.vm.findClass RX3 = some zm.cls := hown
  have CF : CallFix zp zm zc cX3_isSoft 13 s ([.ref (a 0), .int (iI z), .int (iI t), .int (iI b), .int (iI c), .int (iI r)] : List Value).toArray wsX3_isSoft RX3 := ⟨hx, hb, hml, hown, hts⟩
  obtain ⟨hP, hK, hN⟩ := hB
  have hinX3 : ∀ w ∈ wsX30, w ∈ wsX3_isSoft := (fun _ h => List.mem_cons_of_mem _ (List.mem_append_left _ (List.mem_append_right _ h)))
  have hl : lv_has ls 13 [(0, .ref (a 0)), (1, .int (iI z)), (2, .int (iI t)), (3, .int (iI b)), (4, .int (iI c)), (5, .int (iI r))] := hl
  refine ri_sipush hx hb dX3_isSoft_0 (by decide) ?_
  refine lv_istore (lv' := [(6, .int (iI 255)), (0, .ref (a 0)), (1, .int (iI z)), (2, .int (iI t)), (3, .int (iI b)), (4, .int (iI c)), (5, .int (iI r))]) hx hb dX3_isSoft_3 hl (by decide) rfl (fun ls hl => ?_)
  refine ri_iconst hx hb dX3_isSoft_5 ?_
  refine lv_istore (lv' := [(7, .int (iI 0)), (6, .int (iI 255)), (0, .ref (a 0)), (1, .int (iI z)), (2, .int (iI t)), (3, .int (iI b)), (4, .int (iI c)), (5, .int (iI r))]) hx hb dX3_isSoft_6 hl (by decide) rfl (fun ls hl => ?_)
  refine lv_iload hx hb dX3_isSoft_8 (lv_at hl 7 rfl) ?_
  refine ri_iconst hx hb dX3_isSoft_10 ?_
  refine ri_iadd hx hb dX3_isSoft_11 ?_
  refine ri_bipush hx hb dX3_isSoft_12 (by decide) ?_
  refine va_mmin hx hb (hml.trans hl.1.symm) hown (hts _ (List.mem_of_getElem? (i := 1) rfl)) (hts _ (List.mem_of_getElem? (i := 2) rfl)) (hts _ (List.mem_of_getElem? (i := 3) rfl)) (hts _ (List.mem_of_getElem? (i := 4) rfl)) (Nat.le_of_ble_eq_true rfl) (Nat.le_of_ble_eq_true rfl) (Nat.le_of_ble_eq_true rfl) (Nat.le_of_ble_eq_true rfl) dX3_isSoft_14 ?_
  refine ri_min (by omega) (fun q_1 eq_1 => ?_)
  refine lv_istore (lv' := [(8, .int (iI q_1)), (7, .int (iI 0)), (6, .int (iI 255)), (0, .ref (a 0)), (1, .int (iI z)), (2, .int (iI t)), (3, .int (iI b)), (4, .int (iI c)), (5, .int (iI r))]) hx hb dX3_isSoft_17 hl (by decide) rfl (fun ls hl => ?_)
  refine lv_iload hx hb dX3_isSoft_19 (lv_at hl 7 rfl) ?_
  refine ri_iconst hx hb dX3_isSoft_21 ?_
  refine ri_iadd hx hb dX3_isSoft_22 ?_
  refine ri_bipush hx hb dX3_isSoft_23 (by decide) ?_
  refine va_mmin hx hb (hml.trans hl.1.symm) hown (hts _ (List.mem_of_getElem? (i := 1) rfl)) (hts _ (List.mem_of_getElem? (i := 2) rfl)) (hts _ (List.mem_of_getElem? (i := 3) rfl)) (hts _ (List.mem_of_getElem? (i := 4) rfl)) (Nat.le_of_ble_eq_true rfl) (Nat.le_of_ble_eq_true rfl) (Nat.le_of_ble_eq_true rfl) (Nat.le_of_ble_eq_true rfl) dX3_isSoft_25 ?_
  refine ri_min (by omega) (fun q_2 eq_2 => ?_)
  refine lv_istore (lv' := [(9, .int (iI q_2)), (8, .int (iI q_1)), (7, .int (iI 0)), (6, .int (iI 255)), (0, .ref (a 0)), (1, .int (iI z)), (2, .int (iI t)), (3, .int (iI b)), (4, .int (iI c)), (5, .int (iI r))]) hx hb dX3_isSoft_28 hl (by decide) rfl (fun ls hl => ?_)
  refine lv_iload hx hb dX3_isSoft_30 (lv_at hl 9 rfl) ?_
  refine ri_iconst hx hb dX3_isSoft_32 ?_
  refine ri_isub hx hb dX3_isSoft_33 ?_
  refine ri_iconst hx hb dX3_isSoft_34 ?_
  refine va_mmax hx hb (hml.trans hl.1.symm) hown (hts _ (List.mem_of_getElem? (i := 5) rfl)) (hts _ (List.mem_of_getElem? (i := 6) rfl)) (hts _ (List.mem_of_getElem? (i := 3) rfl)) (hts _ (List.mem_of_getElem? (i := 7) rfl)) (Nat.le_of_ble_eq_true rfl) (Nat.le_of_ble_eq_true rfl) (Nat.le_of_ble_eq_true rfl) (Nat.le_of_ble_eq_true rfl) dX3_isSoft_35 ?_
  refine ri_max (by omega) (fun q_3 eq_3 => ?_)
  refine lv_istore (lv' := [(10, .int (iI q_3)), (9, .int (iI q_2)), (8, .int (iI q_1)), (7, .int (iI 0)), (6, .int (iI 255)), (0, .ref (a 0)), (1, .int (iI z)), (2, .int (iI t)), (3, .int (iI b)), (4, .int (iI c)), (5, .int (iI r))]) hx hb dX3_isSoft_38 hl (by decide) rfl (fun ls hl => ?_)
  have L40 : ∀ (n40 : Nat) (lo : Int) (gr : Int) (nr : Int), ((r - 1 ≤ nr ∧ 0 ≤ nr) ∧ nr ≤ r + 2 ∧ nr ≤ 8) → (accP (px (g 2) t) c r lo gr (fun c1 r1 => r1 < nr)) → ((9 - nr).toNat < n40) → ∀ (ls : Array Slot), lv_has ls 13 [(0, .ref (a 0)), (1, .int (iI z)), (2, .int (iI t)), (3, .int (iI b)), (4, .int (iI c)), (5, .int (iI r)), (6, .int (iI lo)), (7, .int (iI gr)), (8, .int (iI q_1)), (9, .int (iI q_2)), (10, .int (iI nr))] → W zp l ze ({ frames := 3, cells := 0, slots := 0, locals := 66 }) s zm ([.ref (a 0), .int (iI z), .int (iI t), .int (iI b), .int (iI c), .int (iI r)] : List Value).toArray zb zt zc s.heap [] 0 0 (MQ zb (vp_Si (fun r9 => r9 = iI (bp (softP (px (g 2) t) (px (g 2) z) b c r)))) ([.ref (a 0), .int (iI z), .int (iI t), .int (iI b), .int (iI c), .int (iI r)] : List Value).toArray s 0 0 (fun _ => False)) (F0 zm 40 ls []) := by
    intro n40
    induction n40 with
    | zero => intro lo gr nr hnr hacc hm; exact absurd hm (Nat.not_lt_zero _)
    | succ n40 ih40 =>
      intro lo gr nr hnr hacc hm40 ls hl
      refine lv_iload hx hb dX3_isSoft_40 (lv_at hl 10 rfl) ?_
      refine lv_iload hx hb dX3_isSoft_42 (lv_at hl 8 rfl) ?_
      refine ri_icmp_gt (tgt := 111) hx hb (by omega) dX3_isSoft_44 (by decide) (fun h44 => ?_) (fun h44 => ?_)
      · skip
        have hE := acc_e (Q := px (g 2) z) (b := b) hacc (fun c1 r1 i => by show r1 < nr; unfold isNb at i; omega) ⟨yc, yr⟩ (hI.1 (t * 64 + r * 8 + c).toNat (by omega)) (by omega)
        have hab := hacc.1
        have hab2 := hacc.2.1
        refine lv_iload hx hb dX3_isSoft_111 (lv_at hl 6 rfl) ?_
        refine lv_iload hx hb dX3_isSoft_113 (lv_at hl 7 rfl) ?_
        refine lv_iload_n hx hb dX3_isSoft_115 rfl (lv_at hl 3 rfl) ?_
        refine ri_rd (ri_runS (As := [.int (iI lo), .int (iI gr), .int (iI b)]) (rest := []) CF (k_X3_isAlike l lo gr b (by omega) (by omega) (by omega)) gX3_isSoft_X3_isAlike f_X3_isAlike ⟨rfl, rfl, Nat.le_of_ble_eq_true rfl, Nat.le_of_ble_eq_true rfl, Nat.le_of_ble_eq_true rfl, Nat.le_of_ble_eq_true rfl⟩ tB_bl tB_in rfl hl.1 rfl (Nat.le_of_ble_eq_true rfl) dX3_isSoft_116) ?_
        refine ri_ifne_b (tgt := 148) hx hb dX3_isSoft_119 (by decide) (fun h119 => ?_) (fun h119 => ?_)
        · skip
          refine ri_iconst hx hb dX3_isSoft_148 ?_
          exact ri_zret hx hb hr hlocks (bp_01 _) dX3_isSoft_149 ((bp_f (fun q => (hE.mp q).1 h119)).symm)
        · skip
          refine lv_aload_n hx hb dX3_isSoft_122 rfl (lv_at hl 0 rfl) ?_
          refine va_get (D := D) (ci := 3) (v := .ref (a 1)) (C := RX3) (T := TX3) (N := 4) hx hb hts hinX3 hown hK hP 0 rfl rfl 0 (by decide) (hts _ (List.mem_of_getElem? (i := 8) rfl)) (fun _ h9 => h9) rfl dX3_isSoft_123 ?_
          refine lv_iload_n hx hb dX3_isSoft_126 rfl (lv_at hl 1 rfl) ?_
          refine lv_iload hx hb dX3_isSoft_127 (lv_at hl 4 rfl) ?_
          refine lv_iload hx hb dX3_isSoft_129 (lv_at hl 5 rfl) ?_
          refine ri_rd (ri_runV (b := a 1) (As := [.int (iI z), .int (iI c), .int (iI r)]) (rest := []) CF (k_X1_at l D a kk g z c r hI (by omega) (by omega) (by omega)) gX3_isSoft_X1_at f_X1_at rfl (va_recv hK hP (ci := 1) (q0 := 1) rfl rfl) ⟨rfl, rfl, Nat.le_of_ble_eq_true rfl, Nat.le_of_ble_eq_true rfl, Nat.le_of_ble_eq_true rfl, Nat.le_of_ble_eq_true rfl⟩ wB_bl (wB_in hP hK hN) rfl hl.1 rfl (Nat.le_of_ble_eq_true rfl) dX3_isSoft_131) ?_
          have f_4 := hI.1 (z * 64 + r * 8 + c).toNat (by omega)
          refine lv_iload hx hb dX3_isSoft_134 (lv_at hl 6 rfl) ?_
          refine lv_iload hx hb dX3_isSoft_136 (lv_at hl 7 rfl) ?_
          refine ri_rd (ri_runS (As := [.int (iI (g 2 (z * 64 + r * 8 + c).toNat)), .int (iI lo), .int (iI gr)]) (rest := []) CF (k_X3_isWithin l (g 2 (z * 64 + r * 8 + c).toNat) lo gr (by omega) (by omega) (by omega)) gX3_isSoft_X3_isWithin f_X3_isWithin ⟨rfl, rfl, Nat.le_of_ble_eq_true rfl, Nat.le_of_ble_eq_true rfl, Nat.le_of_ble_eq_true rfl, Nat.le_of_ble_eq_true rfl⟩ tB_bl tB_in rfl hl.1 rfl (Nat.le_of_ble_eq_true rfl) dX3_isSoft_138) ?_
          refine ri_ifeq_b (tgt := 148) hx hb dX3_isSoft_141 (by decide) (fun h141 => ?_) (fun h141 => ?_)
          · skip
            refine ri_iconst hx hb dX3_isSoft_148 ?_
            exact ri_zret hx hb hr hlocks (bp_01 _) dX3_isSoft_149 ((bp_f (fun q => h141 (hE.mp q).2)).symm)
          · skip
            refine ri_iconst hx hb dX3_isSoft_144 ?_
            refine lv_goto (tgt := 149) hx hb dX3_isSoft_145 (by decide) ?_
            exact ri_zret hx hb hr hlocks (bp_01 _) dX3_isSoft_149 ((bp_t (hE.mpr ⟨h119, h141⟩)).symm)
      · skip
        refine lv_iload hx hb dX3_isSoft_47 (lv_at hl 4 rfl) ?_
        refine ri_iconst hx hb dX3_isSoft_49 ?_
        refine ri_isub hx hb dX3_isSoft_50 ?_
        refine ri_iconst hx hb dX3_isSoft_51 ?_
        refine va_mmax hx hb (hml.trans hl.1.symm) hown (hts _ (List.mem_of_getElem? (i := 5) rfl)) (hts _ (List.mem_of_getElem? (i := 6) rfl)) (hts _ (List.mem_of_getElem? (i := 3) rfl)) (hts _ (List.mem_of_getElem? (i := 7) rfl)) (Nat.le_of_ble_eq_true rfl) (Nat.le_of_ble_eq_true rfl) (Nat.le_of_ble_eq_true rfl) (Nat.le_of_ble_eq_true rfl) dX3_isSoft_52 ?_
        refine ri_max (by omega) (fun q_5 eq_5 => ?_)
        refine lv_istore (lv' := [(11, .int (iI q_5)), (0, .ref (a 0)), (1, .int (iI z)), (2, .int (iI t)), (3, .int (iI b)), (4, .int (iI c)), (5, .int (iI r)), (6, .int (iI lo)), (7, .int (iI gr)), (8, .int (iI q_1)), (9, .int (iI q_2)), (10, .int (iI nr))]) hx hb dX3_isSoft_55 hl (by decide) rfl (fun ls hl => ?_)
        have L57 : ∀ (n57 : Nat) (lo : Int) (gr : Int) (ne : Int), ((c - 1 ≤ ne ∧ 0 ≤ ne) ∧ ne ≤ c + 2 ∧ ne ≤ 8) → (accP (px (g 2) t) c r lo gr (fun c1 r1 => r1 < nr ∨ (r1 = nr ∧ c1 < ne))) → ((9 - ne).toNat < n57) → ∀ (ls : Array Slot), lv_has ls 13 [(0, .ref (a 0)), (1, .int (iI z)), (2, .int (iI t)), (3, .int (iI b)), (4, .int (iI c)), (5, .int (iI r)), (6, .int (iI lo)), (7, .int (iI gr)), (8, .int (iI q_1)), (9, .int (iI q_2)), (10, .int (iI nr)), (11, .int (iI ne))] → W zp l ze ({ frames := 3, cells := 0, slots := 0, locals := 66 }) s zm ([.ref (a 0), .int (iI z), .int (iI t), .int (iI b), .int (iI c), .int (iI r)] : List Value).toArray zb zt zc s.heap [] 0 0 (MQ zb (vp_Si (fun r9 => r9 = iI (bp (softP (px (g 2) t) (px (g 2) z) b c r)))) ([.ref (a 0), .int (iI z), .int (iI t), .int (iI b), .int (iI c), .int (iI r)] : List Value).toArray s 0 0 (fun _ => False)) (F0 zm 57 ls []) := by
          intro n57
          induction n57 with
          | zero => intro lo gr ne hne hac2 hm; exact absurd hm (Nat.not_lt_zero _)
          | succ n57 ih57 =>
            intro lo gr ne hne hac2 hm57 ls hl
            have hab := hac2.1
            have hab2 := hac2.2.1
            refine lv_iload hx hb dX3_isSoft_57 (lv_at hl 11 rfl) ?_
            refine lv_iload hx hb dX3_isSoft_59 (lv_at hl 9 rfl) ?_
            refine ri_icmp_gt (tgt := 105) hx hb (by omega) dX3_isSoft_61 (by decide) (fun h61 => ?_) (fun h61 => ?_)
            · skip
              refine ri_iinc (lv' := [(10, .int (iI (nr + 1))), (0, .ref (a 0)), (1, .int (iI z)), (2, .int (iI t)), (3, .int (iI b)), (4, .int (iI c)), (5, .int (iI r)), (6, .int (iI lo)), (7, .int (iI gr)), (8, .int (iI q_1)), (9, .int (iI q_2)), (11, .int (iI ne))]) hx hb dX3_isSoft_105 hl (k := 10) rfl (by decide) rfl (fun ls hl => ?_)
              refine lv_goto (tgt := 40) hx hb dX3_isSoft_108 (by decide) ?_
              exact ih40 (lo) (gr) (nr + 1) (by omega) (acc_w hac2 (fun c1 r1 i v => by have v2 : r1 < nr + 1 := v; show r1 < nr ∨ (r1 = nr ∧ c1 < ne); unfold isNb at i; omega)) (by omega) ls (lv_sub hl [1, 2, 3, 4, 5, 6, 7, 8, 9, 10, 0] rfl)
            · skip
              refine lv_aload_n hx hb dX3_isSoft_64 rfl (lv_at hl 0 rfl) ?_
              refine va_get (D := D) (ci := 3) (v := .ref (a 1)) (C := RX3) (T := TX3) (N := 4) hx hb hts hinX3 hown hK hP 0 rfl rfl 0 (by decide) (hts _ (List.mem_of_getElem? (i := 8) rfl)) (fun _ h9 => h9) rfl dX3_isSoft_65 ?_
              refine lv_iload_n hx hb dX3_isSoft_68 rfl (lv_at hl 2 rfl) ?_
              refine ri_rd (ri_runS (As := [.int (iI t)]) (rest := [.ref (a 1)]) CF (k_X3_pictureSlot l t) gX3_isSoft_X3_pictureSlot f_X3_pictureSlot ⟨rfl, rfl, Nat.le_of_ble_eq_true rfl, Nat.le_of_ble_eq_true rfl, Nat.le_of_ble_eq_true rfl, Nat.le_of_ble_eq_true rfl⟩ tB_bl tB_in rfl hl.1 rfl (Nat.le_of_ble_eq_true rfl) dX3_isSoft_69) ?_
              refine lv_iload hx hb dX3_isSoft_72 (lv_at hl 11 rfl) ?_
              refine lv_iload hx hb dX3_isSoft_74 (lv_at hl 10 rfl) ?_
              refine ri_rd (ri_runV (b := a 1) (As := [.int (iI t), .int (iI ne), .int (iI nr)]) (rest := []) CF (k_X1_at l D a kk g t ne nr hI (by omega) (by omega) (by omega)) gX3_isSoft_X1_at f_X1_at rfl (va_recv hK hP (ci := 1) (q0 := 1) rfl rfl) ⟨rfl, rfl, Nat.le_of_ble_eq_true rfl, Nat.le_of_ble_eq_true rfl, Nat.le_of_ble_eq_true rfl, Nat.le_of_ble_eq_true rfl⟩ wB_bl (wB_in hP hK hN) rfl hl.1 rfl (Nat.le_of_ble_eq_true rfl) dX3_isSoft_76) ?_
              have f_6 := hI.1 (t * 64 + nr * 8 + ne).toNat (by omega)
              refine lv_istore (lv' := [(12, .int (iI (g 2 (t * 64 + nr * 8 + ne).toNat))), (0, .ref (a 0)), (1, .int (iI z)), (2, .int (iI t)), (3, .int (iI b)), (4, .int (iI c)), (5, .int (iI r)), (6, .int (iI lo)), (7, .int (iI gr)), (8, .int (iI q_1)), (9, .int (iI q_2)), (10, .int (iI nr)), (11, .int (iI ne))]) hx hb dX3_isSoft_79 hl (by decide) rfl (fun ls hl => ?_)
              refine lv_iload hx hb dX3_isSoft_81 (lv_at hl 7 rfl) ?_
              refine lv_iload hx hb dX3_isSoft_83 (lv_at hl 0 rfl) ?_
              refine va_mmin hx hb (hml.trans hl.1.symm) hown (hts _ (List.mem_of_getElem? (i := 1) rfl)) (hts _ (List.mem_of_getElem? (i := 2) rfl)) (hts _ (List.mem_of_getElem? (i := 3) rfl)) (hts _ (List.mem_of_getElem? (i := 4) rfl)) (Nat.le_of_ble_eq_true rfl) (Nat.le_of_ble_eq_true rfl) (Nat.le_of_ble_eq_true rfl) (Nat.le_of_ble_eq_true rfl) dX3_isSoft_85 ?_
              refine ri_min (by omega) (fun q_7 eq_7 => ?_)
              refine lv_istore (lv' := [(6, .int (iI q_7)), (12, .int (iI (g 2 (t * 64 + nr * 8 + ne).toNat))), (0, .ref (a 0)), (1, .int (iI z)), (2, .int (iI t)), (3, .int (iI b)), (4, .int (iI c)), (5, .int (iI r)), (7, .int (iI gr)), (8, .int (iI q_1)), (9, .int (iI q_2)), (10, .int (iI nr)), (11, .int (iI ne))]) hx hb dX3_isSoft_88 hl (by decide) rfl (fun ls hl => ?_)
              refine lv_iload hx hb dX3_isSoft_90 (lv_at hl 8 rfl) ?_
              refine lv_iload hx hb dX3_isSoft_92 (lv_at hl 1 rfl) ?_
              refine va_mmax hx hb (hml.trans hl.1.symm) hown (hts _ (List.mem_of_getElem? (i := 5) rfl)) (hts _ (List.mem_of_getElem? (i := 6) rfl)) (hts _ (List.mem_of_getElem? (i := 3) rfl)) (hts _ (List.mem_of_getElem? (i := 7) rfl)) (Nat.le_of_ble_eq_true rfl) (Nat.le_of_ble_eq_true rfl) (Nat.le_of_ble_eq_true rfl) (Nat.le_of_ble_eq_true rfl) dX3_isSoft_94 ?_
              refine ri_max (by omega) (fun q_8 eq_8 => ?_)
              refine lv_istore (lv' := [(7, .int (iI q_8)), (6, .int (iI q_7)), (12, .int (iI (g 2 (t * 64 + nr * 8 + ne).toNat))), (0, .ref (a 0)), (1, .int (iI z)), (2, .int (iI t)), (3, .int (iI b)), (4, .int (iI c)), (5, .int (iI r)), (8, .int (iI q_1)), (9, .int (iI q_2)), (10, .int (iI nr)), (11, .int (iI ne))]) hx hb dX3_isSoft_97 hl (by decide) rfl (fun ls hl => ?_)
              refine ri_iinc (lv' := [(11, .int (iI (ne + 1))), (7, .int (iI q_8)), (6, .int (iI q_7)), (12, .int (iI (g 2 (t * 64 + nr * 8 + ne).toNat))), (0, .ref (a 0)), (1, .int (iI z)), (2, .int (iI t)), (3, .int (iI b)), (4, .int (iI c)), (5, .int (iI r)), (8, .int (iI q_1)), (9, .int (iI q_2)), (10, .int (iI nr))]) hx hb dX3_isSoft_99 hl (k := 12) rfl (by decide) rfl (fun ls hl => ?_)
              refine lv_goto (tgt := 57) hx hb dX3_isSoft_102 (by decide) ?_
              exact ih57 (q_7) (q_8) (ne + 1) (by omega) (acc_s hac2 (c0 := ne) (r0 := nr) (by unfold isNb; omega) (hI.1 (t * 64 + nr * 8 + ne).toNat (by omega)) (by show _ ≤ lo ∧ _ ≤ g 2 (t * 64 + nr * 8 + ne).toNat ∧ (_ = lo ∨ _ = g 2 (t * 64 + nr * 8 + ne).toNat); omega) (by show gr ≤ _ ∧ g 2 (t * 64 + nr * 8 + ne).toNat ≤ _ ∧ (_ = gr ∨ _ = g 2 (t * 64 + nr * 8 + ne).toNat); omega) (fun c1 r1 i v => by have v2 : r1 < nr ∨ (r1 = nr ∧ c1 < ne + 1) := v; show (r1 < nr ∨ (r1 = nr ∧ c1 < ne)) ∨ (c1 = ne ∧ r1 = nr); omega)) (by omega) ls (lv_sub hl [4, 5, 6, 7, 8, 9, 2, 1, 10, 11, 12, 0] rfl)
        exact L57 11 (lo) (gr) (_) (by omega) (acc_w hacc (fun c1 r1 i v => by have v2 : r1 < nr ∨ (r1 = nr ∧ c1 < _) := v; show r1 < nr; unfold isNb at i; omega)) (by omega) ls (lv_sub hl [1, 2, 3, 4, 5, 6, 7, 8, 9, 10, 11, 0] rfl)
  exact L40 11 (255) (0) (_) (by omega) (acc_0 _ _ _ (fun c1 r1 i v => by have v2 : r1 < _ := v; unfold isNb at i; omega)) (by omega) ls (lv_sub hl [5, 6, 7, 8, 9, 10, 4, 3, 2, 1, 0] rfl)

theorem f_X3_fits : MF yX3_fits wsX3_fits cX3_fits 11 (some .boolean) 5 := ⟨⟨_, rfl⟩, by decide +kernel, by decide +kernel, by decide +kernel⟩
set_option maxHeartbeats 4000000 in
set_option maxRecDepth 100000 in
theorem k_X3_fits (l : Launch) (D : va_G) (a : Nat → Nat) (kk : Nat → ClassId) (g : Nat → Nat → Int) (z : Int) (t : Int) (b : Int) (dc : Int) (dr : Int) (hI : XInv g) (yz : 0 ≤ z ∧ z ≤ 44) (yt : 0 ≤ t ∧ t ≤ 4) (yb : 0 ≤ b ∧ b ≤ 255) (ydc : -2 ≤ dc ∧ dc ≤ 2) (ydr : -2 ≤ dr ∧ dr ≤ 2) : RD l yX3_fits wsX3_fits ({ frames := 3, cells := 0, slots := 0, locals := 66 }) [.ref (a 0), .int (iI z), .int (iI t), .int (iI b), .int (iI dc), .int (iI dr)] (wB D kk (xW a kk g)) (bp (fitP (px (g 2) t) (px (g 2) z) b (g 5 t.toNat) (g 6 t.toNat) (g 7 t.toNat) (g 8 t.toNat) dc dr)) := by
  refine ri_ent (cc := cX3_fits) (maxL := 11) (ret := some .boolean) (by decide) rfl (Nat.le_of_ble_eq_true rfl) ?_
  intro zp ze s zm zb zt zc hx hb hr hts hown hlocks hml hin hB ls hl
  have hown : s.vm.findClass RX3 = some zm.cls := hown
  have CF : CallFix zp zm zc cX3_fits 11 s ([.ref (a 0), .int (iI z), .int (iI t), .int (iI b), .int (iI dc), .int (iI dr)] : List Value).toArray wsX3_fits RX3 := ⟨hx, hb, hml, hown, hts⟩
  obtain ⟨hP, hK, hN⟩ := hB
  have hinX3 : ∀ w ∈ wsX30, w ∈ wsX3_fits := (fun _ h => List.mem_cons_of_mem _ (List.mem_append_left _ (List.mem_append_left _ (List.mem_append_right _ h))))
  have hl : lv_has ls 11 [(0, .ref (a 0)), (1, .int (iI z)), (2, .int (iI t)), (3, .int (iI b)), (4, .int (iI dc)), (5, .int (iI dr))] := hl
  refine lv_aload_n hx hb dX3_fits_0 rfl (lv_at hl 0 rfl) ?_
  refine va_get (D := D) (ci := 3) (v := .ref (a 4)) (C := RX3) (T := TX3) (N := 4) hx hb hts hinX3 hown hK hP 0 rfl rfl 1 (by decide) (hts _ (List.mem_of_getElem? (i := 1) rfl)) (fun _ h9 => h9) rfl dX3_fits_1 ?_
  refine lv_iload_n hx hb dX3_fits_4 rfl (lv_at hl 2 rfl) ?_
  refine ri_rd (ri_runV (b := a 4) (As := [.int (iI t)]) (rest := []) CF (k_X2_bottom l D (fun i => a (4 + i)) kk (fun i => g (4 + i)) t (by omega)) gX3_fits_X2_bottom f_X2_bottom rfl (va_recv hK hP (ci := 2) (q0 := 4) rfl rfl) ⟨rfl, rfl, Nat.le_of_ble_eq_true rfl, Nat.le_of_ble_eq_true rfl, Nat.le_of_ble_eq_true rfl, Nat.le_of_ble_eq_true rfl⟩ wB_bl (wB_in (x_parts hP) hK hN) rfl hl.1 rfl (Nat.le_of_ble_eq_true rfl) dX3_fits_5) ?_
  refine ri_eq (y := g 8 t.toNat) rfl ?_
  have f_1 := hI.2.2.2.1 t.toNat (by omega)
  refine lv_istore (lv' := [(6, .int (iI (g 8 t.toNat))), (0, .ref (a 0)), (1, .int (iI z)), (2, .int (iI t)), (3, .int (iI b)), (4, .int (iI dc)), (5, .int (iI dr))]) hx hb dX3_fits_8 hl (by decide) rfl (fun ls hl => ?_)
  refine lv_aload_n hx hb dX3_fits_10 rfl (lv_at hl 1 rfl) ?_
  refine va_get (D := D) (ci := 3) (v := .ref (a 4)) (C := RX3) (T := TX3) (N := 4) hx hb hts hinX3 hown hK hP 0 rfl rfl 1 (by decide) (hts _ (List.mem_of_getElem? (i := 1) rfl)) (fun _ h9 => h9) rfl dX3_fits_11 ?_
  refine lv_iload_n hx hb dX3_fits_14 rfl (lv_at hl 3 rfl) ?_
  refine ri_rd (ri_runV (b := a 4) (As := [.int (iI t)]) (rest := []) CF (k_X2_right l D (fun i => a (4 + i)) kk (fun i => g (4 + i)) t (by omega)) gX3_fits_X2_right f_X2_right rfl (va_recv hK hP (ci := 2) (q0 := 4) rfl rfl) ⟨rfl, rfl, Nat.le_of_ble_eq_true rfl, Nat.le_of_ble_eq_true rfl, Nat.le_of_ble_eq_true rfl, Nat.le_of_ble_eq_true rfl⟩ wB_bl (wB_in (x_parts hP) hK hN) rfl hl.1 rfl (Nat.le_of_ble_eq_true rfl) dX3_fits_15) ?_
  refine ri_eq (y := g 7 t.toNat) rfl ?_
  have f_2 := hI.2.2.2.1 t.toNat (by omega)
  refine lv_istore (lv' := [(7, .int (iI (g 7 t.toNat))), (6, .int (iI (g 8 t.toNat))), (0, .ref (a 0)), (1, .int (iI z)), (2, .int (iI t)), (3, .int (iI b)), (4, .int (iI dc)), (5, .int (iI dr))]) hx hb dX3_fits_18 hl (by decide) rfl (fun ls hl => ?_)
  refine lv_aload_n hx hb dX3_fits_20 rfl (lv_at hl 2 rfl) ?_
  refine va_get (D := D) (ci := 3) (v := .ref (a 4)) (C := RX3) (T := TX3) (N := 4) hx hb hts hinX3 hown hK hP 0 rfl rfl 1 (by decide) (hts _ (List.mem_of_getElem? (i := 1) rfl)) (fun _ h9 => h9) rfl dX3_fits_21 ?_
  refine lv_iload_n hx hb dX3_fits_24 rfl (lv_at hl 4 rfl) ?_
  refine ri_rd (ri_runV (b := a 4) (As := [.int (iI t)]) (rest := []) CF (k_X2_top l D (fun i => a (4 + i)) kk (fun i => g (4 + i)) t (by omega)) gX3_fits_X2_top f_X2_top rfl (va_recv hK hP (ci := 2) (q0 := 4) rfl rfl) ⟨rfl, rfl, Nat.le_of_ble_eq_true rfl, Nat.le_of_ble_eq_true rfl, Nat.le_of_ble_eq_true rfl, Nat.le_of_ble_eq_true rfl⟩ wB_bl (wB_in (x_parts hP) hK hN) rfl hl.1 rfl (Nat.le_of_ble_eq_true rfl) dX3_fits_25) ?_
  refine ri_eq (y := g 6 t.toNat) rfl ?_
  have f_3 := hI.2.2.2.1 t.toNat (by omega)
  refine lv_istore (lv' := [(8, .int (iI (g 6 t.toNat))), (7, .int (iI (g 7 t.toNat))), (6, .int (iI (g 8 t.toNat))), (0, .ref (a 0)), (1, .int (iI z)), (2, .int (iI t)), (3, .int (iI b)), (4, .int (iI dc)), (5, .int (iI dr))]) hx hb dX3_fits_28 hl (by decide) rfl (fun ls hl => ?_)
  have L30 : ∀ (n30 : Nat) (rw : Int), (g 6 t.toNat ≤ rw ∧ rw ≤ g 8 t.toNat) → (∀ c1 r1 : Int, g 5 t.toNat ≤ c1 → c1 < g 7 t.toNat → g 6 t.toNat ≤ r1 → r1 < rw → fitC (px (g 2) t) (px (g 2) z) b dc dr c1 r1) → ((9 - rw).toNat < n30) → ∀ (ls : Array Slot), lv_has ls 11 [(0, .ref (a 0)), (1, .int (iI z)), (2, .int (iI t)), (3, .int (iI b)), (4, .int (iI dc)), (5, .int (iI dr)), (6, .int (iI (g 8 t.toNat))), (7, .int (iI (g 7 t.toNat))), (8, .int (iI rw))] → W zp l ze ({ frames := 3, cells := 0, slots := 0, locals := 66 }) s zm ([.ref (a 0), .int (iI z), .int (iI t), .int (iI b), .int (iI dc), .int (iI dr)] : List Value).toArray zb zt zc s.heap [] 0 0 (MQ zb (vp_Si (fun r9 => r9 = iI (bp (fitP (px (g 2) t) (px (g 2) z) b (g 5 t.toNat) (g 6 t.toNat) (g 7 t.toNat) (g 8 t.toNat) dc dr)))) ([.ref (a 0), .int (iI z), .int (iI t), .int (iI b), .int (iI dc), .int (iI dr)] : List Value).toArray s 0 0 (fun _ => False)) (F0 zm 30 ls []) := by
    intro n30
    induction n30 with
    | zero => intro rw hrw hall hm; exact absurd hm (Nat.not_lt_zero _)
    | succ n30 ih30 =>
      intro rw hrw hall hm30 ls hl
      refine lv_iload hx hb dX3_fits_30 (lv_at hl 8 rfl) ?_
      refine lv_iload hx hb dX3_fits_32 (lv_at hl 6 rfl) ?_
      refine ri_icmp_ge (tgt := 130) hx hb (by omega) dX3_fits_34 (by decide) (fun h34 => ?_) (fun h34 => ?_)
      · skip
        refine ri_iconst hx hb dX3_fits_130 ?_
        exact ri_zret hx hb hr hlocks (bp_01 _) dX3_fits_131 ((bp_t (fun c1 r1 h1 h2 h3 h4 => hall c1 r1 h1 h2 h3 (by omega))).symm)
      · skip
        refine lv_aload_n hx hb dX3_fits_37 rfl (lv_at hl 0 rfl) ?_
        refine va_get (D := D) (ci := 3) (v := .ref (a 4)) (C := RX3) (T := TX3) (N := 4) hx hb hts hinX3 hown hK hP 0 rfl rfl 1 (by decide) (hts _ (List.mem_of_getElem? (i := 1) rfl)) (fun _ h9 => h9) rfl dX3_fits_38 ?_
        refine lv_iload_n hx hb dX3_fits_41 rfl (lv_at hl 2 rfl) ?_
        refine ri_rd (ri_runV (b := a 4) (As := [.int (iI t)]) (rest := []) CF (k_X2_left l D (fun i => a (4 + i)) kk (fun i => g (4 + i)) t (by omega)) gX3_fits_X2_left f_X2_left rfl (va_recv hK hP (ci := 2) (q0 := 4) rfl rfl) ⟨rfl, rfl, Nat.le_of_ble_eq_true rfl, Nat.le_of_ble_eq_true rfl, Nat.le_of_ble_eq_true rfl, Nat.le_of_ble_eq_true rfl⟩ wB_bl (wB_in (x_parts hP) hK hN) rfl hl.1 rfl (Nat.le_of_ble_eq_true rfl) dX3_fits_42) ?_
        refine ri_eq (y := g 5 t.toNat) rfl ?_
        have f_4 := hI.2.2.2.1 t.toNat (by omega)
        refine lv_istore (lv' := [(9, .int (iI (g 5 t.toNat))), (0, .ref (a 0)), (1, .int (iI z)), (2, .int (iI t)), (3, .int (iI b)), (4, .int (iI dc)), (5, .int (iI dr)), (6, .int (iI (g 8 t.toNat))), (7, .int (iI (g 7 t.toNat))), (8, .int (iI rw))]) hx hb dX3_fits_45 hl (by decide) rfl (fun ls hl => ?_)
        have L47 : ∀ (n47 : Nat) (cl : Int), (g 5 t.toNat ≤ cl ∧ cl ≤ g 7 t.toNat) → (∀ c1 : Int, g 5 t.toNat ≤ c1 → c1 < cl → fitC (px (g 2) t) (px (g 2) z) b dc dr c1 rw) → ((9 - cl).toNat < n47) → ∀ (ls : Array Slot), lv_has ls 11 [(0, .ref (a 0)), (1, .int (iI z)), (2, .int (iI t)), (3, .int (iI b)), (4, .int (iI dc)), (5, .int (iI dr)), (6, .int (iI (g 8 t.toNat))), (7, .int (iI (g 7 t.toNat))), (8, .int (iI rw)), (9, .int (iI cl))] → W zp l ze ({ frames := 3, cells := 0, slots := 0, locals := 66 }) s zm ([.ref (a 0), .int (iI z), .int (iI t), .int (iI b), .int (iI dc), .int (iI dr)] : List Value).toArray zb zt zc s.heap [] 0 0 (MQ zb (vp_Si (fun r9 => r9 = iI (bp (fitP (px (g 2) t) (px (g 2) z) b (g 5 t.toNat) (g 6 t.toNat) (g 7 t.toNat) (g 8 t.toNat) dc dr)))) ([.ref (a 0), .int (iI z), .int (iI t), .int (iI b), .int (iI dc), .int (iI dr)] : List Value).toArray s 0 0 (fun _ => False)) (F0 zm 47 ls []) := by
          intro n47
          induction n47 with
          | zero => intro cl hcl hal2 hm; exact absurd hm (Nat.not_lt_zero _)
          | succ n47 ih47 =>
            intro cl hcl hal2 hm47 ls hl
            refine lv_iload hx hb dX3_fits_47 (lv_at hl 9 rfl) ?_
            refine lv_iload hx hb dX3_fits_49 (lv_at hl 7 rfl) ?_
            refine ri_icmp_ge (tgt := 124) hx hb (by omega) dX3_fits_51 (by decide) (fun h51 => ?_) (fun h51 => ?_)
            · skip
              refine ri_iinc (lv' := [(8, .int (iI (rw + 1))), (0, .ref (a 0)), (1, .int (iI z)), (2, .int (iI t)), (3, .int (iI b)), (4, .int (iI dc)), (5, .int (iI dr)), (6, .int (iI (g 8 t.toNat))), (7, .int (iI (g 7 t.toNat))), (9, .int (iI cl))]) hx hb dX3_fits_124 hl (k := 8) rfl (by decide) rfl (fun ls hl => ?_)
              refine lv_goto (tgt := 30) hx hb dX3_fits_127 (by decide) ?_
              exact ih30 (rw + 1) (by omega) (fun c1 r1 h1 h2 h3 h4 => (Int.lt_or_eq_of_le (show r1 ≤ rw by omega)).elim (fun q => hall c1 r1 h1 h2 h3 q) (fun q => by rw [q]; exact hal2 c1 h1 (by omega))) (by omega) ls (lv_sub hl [1, 2, 3, 4, 5, 6, 7, 8, 0] rfl)
            · skip
              refine lv_iload hx hb dX3_fits_54 (lv_at hl 9 rfl) ?_
              refine lv_iload hx hb dX3_fits_56 (lv_at hl 4 rfl) ?_
              refine ri_iadd hx hb dX3_fits_58 ?_
              refine lv_iload hx hb dX3_fits_59 (lv_at hl 8 rfl) ?_
              refine lv_iload hx hb dX3_fits_61 (lv_at hl 5 rfl) ?_
              refine ri_iadd hx hb dX3_fits_63 ?_
              refine ri_rd (ri_runS (As := [.int (iI (cl + dc)), .int (iI (rw + dr))]) (rest := []) CF (k_X3_isCell l (cl + dc) (rw + dr) (by omega) (by omega)) gX3_fits_X3_isCell f_X3_isCell ⟨rfl, rfl, Nat.le_of_ble_eq_true rfl, Nat.le_of_ble_eq_true rfl, Nat.le_of_ble_eq_true rfl, Nat.le_of_ble_eq_true rfl⟩ tB_bl tB_in rfl hl.1 rfl (Nat.le_of_ble_eq_true rfl) dX3_fits_64) ?_
              refine ri_ifne_b (tgt := 72) hx hb dX3_fits_67 (by decide) (fun h67 => ?_) (fun h67 => ?_)
              · skip
                refine lv_aload_n hx hb dX3_fits_72 rfl (lv_at hl 0 rfl) ?_
                refine va_get (D := D) (ci := 3) (v := .ref (a 1)) (C := RX3) (T := TX3) (N := 4) hx hb hts hinX3 hown hK hP 0 rfl rfl 0 (by decide) (hts _ (List.mem_of_getElem? (i := 2) rfl)) (fun _ h9 => h9) rfl dX3_fits_73 ?_
                refine lv_iload_n hx hb dX3_fits_76 rfl (lv_at hl 2 rfl) ?_
                refine ri_rd (ri_runS (As := [.int (iI t)]) (rest := [.ref (a 1)]) CF (k_X3_pictureSlot l t) gX3_fits_X3_pictureSlot f_X3_pictureSlot ⟨rfl, rfl, Nat.le_of_ble_eq_true rfl, Nat.le_of_ble_eq_true rfl, Nat.le_of_ble_eq_true rfl, Nat.le_of_ble_eq_true rfl⟩ tB_bl tB_in rfl hl.1 rfl (Nat.le_of_ble_eq_true rfl) dX3_fits_77) ?_
                refine lv_iload hx hb dX3_fits_80 (lv_at hl 9 rfl) ?_
                refine lv_iload hx hb dX3_fits_82 (lv_at hl 4 rfl) ?_
                refine ri_iadd hx hb dX3_fits_84 ?_
                refine lv_iload hx hb dX3_fits_85 (lv_at hl 8 rfl) ?_
                refine lv_iload hx hb dX3_fits_87 (lv_at hl 5 rfl) ?_
                refine ri_iadd hx hb dX3_fits_89 ?_
                refine ri_rd (ri_runV (b := a 1) (As := [.int (iI t), .int (iI (cl + dc)), .int (iI (rw + dr))]) (rest := []) CF (k_X1_at l D a kk g t (cl + dc) (rw + dr) hI (by omega) (by omega) (by omega)) gX3_fits_X1_at f_X1_at rfl (va_recv hK hP (ci := 1) (q0 := 1) rfl rfl) ⟨rfl, rfl, Nat.le_of_ble_eq_true rfl, Nat.le_of_ble_eq_true rfl, Nat.le_of_ble_eq_true rfl, Nat.le_of_ble_eq_true rfl⟩ wB_bl (wB_in hP hK hN) rfl hl.1 rfl (Nat.le_of_ble_eq_true rfl) dX3_fits_90) ?_
                have f_5 := hI.1 (t * 64 + (rw + dr) * 8 + (cl + dc)).toNat (by omega)
                refine lv_istore (lv' := [(10, .int (iI (g 2 (t * 64 + (rw + dr) * 8 + (cl + dc)).toNat))), (0, .ref (a 0)), (1, .int (iI z)), (2, .int (iI t)), (3, .int (iI b)), (4, .int (iI dc)), (5, .int (iI dr)), (6, .int (iI (g 8 t.toNat))), (7, .int (iI (g 7 t.toNat))), (8, .int (iI rw)), (9, .int (iI cl))]) hx hb dX3_fits_93 hl (by decide) rfl (fun ls hl => ?_)
                refine lv_iload hx hb dX3_fits_95 (lv_at hl 0 rfl) ?_
                refine lv_aload_n hx hb dX3_fits_97 rfl (lv_at hl 1 rfl) ?_
                refine va_get (D := D) (ci := 3) (v := .ref (a 1)) (C := RX3) (T := TX3) (N := 4) hx hb hts hinX3 hown hK hP 0 rfl rfl 0 (by decide) (hts _ (List.mem_of_getElem? (i := 2) rfl)) (fun _ h9 => h9) rfl dX3_fits_98 ?_
                refine lv_iload_n hx hb dX3_fits_101 rfl (lv_at hl 2 rfl) ?_
                refine lv_iload hx hb dX3_fits_102 (lv_at hl 10 rfl) ?_
                refine lv_iload hx hb dX3_fits_104 (lv_at hl 9 rfl) ?_
                refine ri_rd (ri_runV (b := a 1) (As := [.int (iI z), .int (iI cl), .int (iI rw)]) (rest := [.int (iI (g 2 (t * 64 + (rw + dr) * 8 + (cl + dc)).toNat))]) CF (k_X1_at l D a kk g z cl rw hI (by omega) (by omega) (by omega)) gX3_fits_X1_at f_X1_at rfl (va_recv hK hP (ci := 1) (q0 := 1) rfl rfl) ⟨rfl, rfl, Nat.le_of_ble_eq_true rfl, Nat.le_of_ble_eq_true rfl, Nat.le_of_ble_eq_true rfl, Nat.le_of_ble_eq_true rfl⟩ wB_bl (wB_in hP hK hN) rfl hl.1 rfl (Nat.le_of_ble_eq_true rfl) dX3_fits_106) ?_
                have f_6 := hI.1 (z * 64 + rw * 8 + cl).toNat (by omega)
                refine lv_iload_n hx hb dX3_fits_109 rfl (lv_at hl 4 rfl) ?_
                refine ri_rd (ri_runS (As := [.int (iI (g 2 (t * 64 + (rw + dr) * 8 + (cl + dc)).toNat)), .int (iI (g 2 (z * 64 + rw * 8 + cl).toNat)), .int (iI b)]) (rest := []) CF (k_X3_isAlike l (g 2 (t * 64 + (rw + dr) * 8 + (cl + dc)).toNat) (g 2 (z * 64 + rw * 8 + cl).toNat) b (by omega) (by omega) (by omega)) gX3_fits_X3_isAlike f_X3_isAlike ⟨rfl, rfl, Nat.le_of_ble_eq_true rfl, Nat.le_of_ble_eq_true rfl, Nat.le_of_ble_eq_true rfl, Nat.le_of_ble_eq_true rfl⟩ tB_bl tB_in rfl hl.1 rfl (Nat.le_of_ble_eq_true rfl) dX3_fits_110) ?_
                refine ri_ifne_b (tgt := 118) hx hb dX3_fits_113 (by decide) (fun h113 => ?_) (fun h113 => ?_)
                · skip
                  refine ri_iinc (lv' := [(9, .int (iI (cl + 1))), (10, .int (iI (g 2 (t * 64 + (rw + dr) * 8 + (cl + dc)).toNat))), (0, .ref (a 0)), (1, .int (iI z)), (2, .int (iI t)), (3, .int (iI b)), (4, .int (iI dc)), (5, .int (iI dr)), (6, .int (iI (g 8 t.toNat))), (7, .int (iI (g 7 t.toNat))), (8, .int (iI rw))]) hx hb dX3_fits_118 hl (k := 10) rfl (by decide) rfl (fun ls hl => ?_)
                  refine lv_goto (tgt := 47) hx hb dX3_fits_121 (by decide) ?_
                  exact ih47 (cl + 1) (by omega) (fun c1 h1 h2 => (Int.lt_or_eq_of_le (show c1 ≤ cl by omega)).elim (fun q => hal2 c1 h1 q) (fun q => by rw [q]; exact ⟨h67, h113⟩)) (by omega) ls (lv_sub hl [2, 3, 4, 5, 6, 7, 8, 9, 10, 0] rfl)
                · skip
                  refine ri_iconst hx hb dX3_fits_116 ?_
                  exact ri_zret hx hb hr hlocks (bp_01 _) dX3_fits_117 ((bp_f (fun q => h113 (q cl rw (by omega) (by omega) (by omega) (by omega)).2)).symm)
              · skip
                refine ri_iconst hx hb dX3_fits_70 ?_
                exact ri_zret hx hb hr hlocks (bp_01 _) dX3_fits_71 ((bp_f (fun q => h67 (q cl rw (by omega) (by omega) (by omega) (by omega)).1)).symm)
        exact L47 10 (_) (by omega) (fun c1 h1 h2 => absurd h2 (by omega)) (by omega) ls (lv_sub hl [1, 2, 3, 4, 5, 6, 7, 8, 9, 0] rfl)
  exact L30 10 (_) (by omega) (fun c1 r1 _ _ h3 h4 => absurd h4 (by omega)) (by omega) ls (lv_sub hl [3, 4, 5, 6, 7, 8, 2, 1, 0] rfl)

theorem f_X3_findMove : MF yX3_findMove wsX3_findMove cX3_findMove 9 (some .int) 3 := ⟨⟨_, rfl⟩, by decide +kernel, by decide +kernel, by decide +kernel⟩
set_option maxHeartbeats 4000000 in
set_option maxRecDepth 100000 in
theorem k_X3_findMove (l : Launch) (D : va_G) (a : Nat → Nat) (kk : Nat → ClassId) (g : Nat → Nat → Int) (z : Int) (t : Int) (b : Int) (hI : XInv g) (yz : 0 ≤ z ∧ z ≤ 44) (yt : 0 ≤ t ∧ t ≤ 4) (yb : 0 ≤ b ∧ b ≤ 255) : RD l yX3_findMove wsX3_findMove ({ frames := 4, cells := 0, slots := 0, locals := 96 }) [.ref (a 0), .int (iI z), .int (iI t), .int (iI b)] (wB D kk (xW a kk g)) (mvN (fitP (px (g 2) t) (px (g 2) z) b (g 5 t.toNat) (g 6 t.toNat) (g 7 t.toNat) (g 8 t.toNat))) := by
  refine ri_ent (cc := cX3_findMove) (maxL := 9) (ret := some .int) (by decide) rfl (Nat.le_of_ble_eq_true rfl) ?_
  intro zp ze s zm zb zt zc hx hb hr hts hown hlocks hml hin hB ls hl
  have hown : s.vm.findClass RX3 = some zm.cls := hown
  have CF : CallFix zp zm zc cX3_findMove 9 s ([.ref (a 0), .int (iI z), .int (iI t), .int (iI b)] : List Value).toArray wsX3_findMove RX3 := ⟨hx, hb, hml, hown, hts⟩
  obtain ⟨hP, hK, hN⟩ := hB
  have hinX3 : ∀ w ∈ wsX30, w ∈ wsX3_findMove := (fun _ h => List.mem_cons_of_mem _ (List.mem_append_left _ (List.mem_append_left _ (List.mem_append_right _ h))))
  have hl : lv_has ls 9 [(0, .ref (a 0)), (1, .int (iI z)), (2, .int (iI t)), (3, .int (iI b))] := hl
  have hrp := hI.2.2.2.1 t.toNat (by omega)
  refine lv_aload_n hx hb dX3_findMove_0 rfl (lv_at hl 0 rfl) ?_
  refine va_get (D := D) (ci := 3) (v := .ref (a 4)) (C := RX3) (T := TX3) (N := 4) hx hb hts hinX3 hown hK hP 0 rfl rfl 1 (by decide) (hts _ (List.mem_of_getElem? (i := 1) rfl)) (fun _ h9 => h9) rfl dX3_findMove_1 ?_
  refine lv_iload_n hx hb dX3_findMove_4 rfl (lv_at hl 2 rfl) ?_
  refine ri_rd (ri_runV (b := a 4) (As := [.int (iI t)]) (rest := []) CF (k_X2_has l D (fun i => a (4 + i)) kk (fun i => g (4 + i)) t (xr_parts hI) (by omega)) gX3_findMove_X2_has f_X2_has rfl (va_recv hK hP (ci := 2) (q0 := 4) rfl rfl) ⟨rfl, rfl, Nat.le_of_ble_eq_true rfl, Nat.le_of_ble_eq_true rfl, Nat.le_of_ble_eq_true rfl, Nat.le_of_ble_eq_true rfl⟩ wB_bl (wB_in (x_parts hP) hK hN) rfl hl.1 rfl (Nat.le_of_ble_eq_true rfl) dX3_findMove_5) ?_
  refine ri_eq (y := bp (g 5 t.toNat < g 7 t.toNat)) rfl ?_
  refine ri_ifeq_b (tgt := 23) hx hb dX3_findMove_8 (by decide) (fun h8 => ?_) (fun h8 => ?_)
  · skip
    refine ri_sipush hx hb dX3_findMove_23 (by decide) ?_
    exact ri_iret hx hb hr hlocks dX3_findMove_26 (by have h := mvN_of (F := (fitP (px (g 2) t) (px (g 2) z) b (g 5 t.toNat) (g 6 t.toNat) (g 7 t.toNat) (g 8 t.toNat))) (best_00 (fun c1 r1 a1 a2 _ _ => absurd a2 (by omega))); omega)
  · skip
    refine lv_aload_n hx hb dX3_findMove_11 rfl (lv_at hl 0 rfl) ?_
    refine lv_iload_n hx hb dX3_findMove_12 rfl (lv_at hl 1 rfl) ?_
    refine lv_iload_n hx hb dX3_findMove_13 rfl (lv_at hl 2 rfl) ?_
    refine lv_iload_n hx hb dX3_findMove_14 rfl (lv_at hl 3 rfl) ?_
    refine ri_iconst hx hb dX3_findMove_15 ?_
    refine ri_iconst hx hb dX3_findMove_16 ?_
    refine ri_rd (ri_runV (b := a 0) (As := [.int (iI z), .int (iI t), .int (iI b), .int (iI 0), .int (iI 0)]) (rest := []) CF (k_X3_fits l D a kk g z t b 0 0 hI (by omega) (by omega) (by omega) (by omega) (by omega)) gX3_findMove_X3_fits f_X3_fits rfl (va_recv hK hP (ci := 3) (q0 := 0) rfl rfl) ⟨rfl, rfl, Nat.le_of_ble_eq_true rfl, Nat.le_of_ble_eq_true rfl, Nat.le_of_ble_eq_true rfl, Nat.le_of_ble_eq_true rfl⟩ wB_bl (wB_in hP hK hN) rfl hl.1 rfl (Nat.le_of_ble_eq_true rfl) dX3_findMove_17) ?_
    refine ri_ifeq_b (tgt := 27) hx hb dX3_findMove_20 (by decide) (fun h20 => ?_) (fun h20 => ?_)
    · skip
      refine ri_sipush hx hb dX3_findMove_27 (by decide) ?_
      refine lv_istore (lv' := [(4, .int (iI 5050)), (0, .ref (a 0)), (1, .int (iI z)), (2, .int (iI t)), (3, .int (iI b))]) hx hb dX3_findMove_30 hl (by decide) rfl (fun ls hl => ?_)
      refine ri_iconst hx hb dX3_findMove_32 ?_
      refine lv_istore (lv' := [(5, .int (iI 5)), (4, .int (iI 5050)), (0, .ref (a 0)), (1, .int (iI z)), (2, .int (iI t)), (3, .int (iI b))]) hx hb dX3_findMove_33 hl (by decide) rfl (fun ls hl => ?_)
      refine ri_bipush hx hb dX3_findMove_35 (by decide) ?_
      refine lv_istore (lv' := [(6, .int (iI (-2))), (5, .int (iI 5)), (4, .int (iI 5050)), (0, .ref (a 0)), (1, .int (iI z)), (2, .int (iI t)), (3, .int (iI b))]) hx hb dX3_findMove_37 hl (by decide) rfl (fun ls hl => ?_)
      have L39 : ∀ (n39 : Nat) (fo : Int) (le : Int) (rw : Int), (-2 ≤ rw ∧ rw ≤ 3) → (fstP (fitP (px (g 2) t) (px (g 2) z) b (g 5 t.toNat) (g 6 t.toNat) (g 7 t.toNat) (g 8 t.toNat)) fo le (fun c1 r1 => r1 < rw)) → ((3 - rw).toNat < n39) → ∀ (ls : Array Slot), lv_has ls 9 [(0, .ref (a 0)), (1, .int (iI z)), (2, .int (iI t)), (3, .int (iI b)), (4, .int (iI fo)), (5, .int (iI le)), (6, .int (iI rw))] → W zp l ze ({ frames := 4, cells := 0, slots := 0, locals := 96 }) s zm ([.ref (a 0), .int (iI z), .int (iI t), .int (iI b)] : List Value).toArray zb zt zc s.heap [] 0 0 (MQ zb (vp_Si (fun r9 => r9 = iI (mvN (fitP (px (g 2) t) (px (g 2) z) b (g 5 t.toNat) (g 6 t.toNat) (g 7 t.toNat) (g 8 t.toNat))))) ([.ref (a 0), .int (iI z), .int (iI t), .int (iI b)] : List Value).toArray s 0 0 (fun _ => False)) (F0 zm 39 ls []) := by
        intro n39
        induction n39 with
        | zero => intro fo le rw hrw hst hm; exact absurd hm (Nat.not_lt_zero _)
        | succ n39 ih39 =>
          intro fo le rw hrw hst hm39 ls hl
          have hr5 := fst_r hst
          refine lv_iload hx hb dX3_findMove_39 (lv_at hl 6 rfl) ?_
          refine ri_iconst hx hb dX3_findMove_41 ?_
          refine ri_icmp_gt (tgt := 114) hx hb (by omega) dX3_findMove_42 (by decide) (fun h42 => ?_) (fun h42 => ?_)
          · skip
            refine lv_iload hx hb dX3_findMove_114 (lv_at hl 4 rfl) ?_
            exact ri_iret hx hb hr hlocks dX3_findMove_116 (fst_e hst (fun c1 r1 i => by show r1 < rw; unfold in5 at i; omega))
          · skip
            refine ri_bipush hx hb dX3_findMove_45 (by decide) ?_
            refine lv_istore (lv' := [(7, .int (iI (-2))), (0, .ref (a 0)), (1, .int (iI z)), (2, .int (iI t)), (3, .int (iI b)), (4, .int (iI fo)), (5, .int (iI le)), (6, .int (iI rw))]) hx hb dX3_findMove_47 hl (by decide) rfl (fun ls hl => ?_)
            have L49 : ∀ (n49 : Nat) (fo : Int) (le : Int) (cl : Int), (-2 ≤ cl ∧ cl ≤ 3) → (fstP (fitP (px (g 2) t) (px (g 2) z) b (g 5 t.toNat) (g 6 t.toNat) (g 7 t.toNat) (g 8 t.toNat)) fo le (fun c1 r1 => r1 < rw ∨ (r1 = rw ∧ c1 < cl))) → ((3 - cl).toNat < n49) → ∀ (ls : Array Slot), lv_has ls 9 [(0, .ref (a 0)), (1, .int (iI z)), (2, .int (iI t)), (3, .int (iI b)), (4, .int (iI fo)), (5, .int (iI le)), (6, .int (iI rw)), (7, .int (iI cl))] → W zp l ze ({ frames := 4, cells := 0, slots := 0, locals := 96 }) s zm ([.ref (a 0), .int (iI z), .int (iI t), .int (iI b)] : List Value).toArray zb zt zc s.heap [] 0 0 (MQ zb (vp_Si (fun r9 => r9 = iI (mvN (fitP (px (g 2) t) (px (g 2) z) b (g 5 t.toNat) (g 6 t.toNat) (g 7 t.toNat) (g 8 t.toNat))))) ([.ref (a 0), .int (iI z), .int (iI t), .int (iI b)] : List Value).toArray s 0 0 (fun _ => False)) (F0 zm 49 ls []) := by
              intro n49
              induction n49 with
              | zero => intro fo le cl hcl hs2 hm; exact absurd hm (Nat.not_lt_zero _)
              | succ n49 ih49 =>
                intro fo le cl hcl hs2 hm49 ls hl
                have hr5 := fst_r hs2
                refine lv_iload hx hb dX3_findMove_49 (lv_at hl 7 rfl) ?_
                refine ri_iconst hx hb dX3_findMove_51 ?_
                refine ri_icmp_gt (tgt := 108) hx hb (by omega) dX3_findMove_52 (by decide) (fun h52 => ?_) (fun h52 => ?_)
                · skip
                  refine ri_iinc (lv' := [(6, .int (iI (rw + 1))), (0, .ref (a 0)), (1, .int (iI z)), (2, .int (iI t)), (3, .int (iI b)), (4, .int (iI fo)), (5, .int (iI le)), (7, .int (iI cl))]) hx hb dX3_findMove_108 hl (k := 6) rfl (by decide) rfl (fun ls hl => ?_)
                  refine lv_goto (tgt := 39) hx hb dX3_findMove_111 (by decide) ?_
                  exact ih39 (fo) (le) (rw + 1) (by omega) (fst_w hs2 (fun c1 r1 i => by show (r1 < rw ∨ (r1 = rw ∧ c1 < cl)) ↔ r1 < rw + 1; unfold in5 at i; omega)) (by omega) ls (lv_sub hl [1, 2, 3, 4, 5, 6, 0] rfl)
                · skip
                  refine lv_iload hx hb dX3_findMove_55 (lv_at hl 6 rfl) ?_
                  refine va_mabs hx hb (hml.trans hl.1.symm) hown (hts _ (List.mem_of_getElem? (i := 2) rfl)) (hts _ (List.mem_of_getElem? (i := 3) rfl)) (hts _ (List.mem_of_getElem? (i := 4) rfl)) (hts _ (List.mem_of_getElem? (i := 5) rfl)) (Nat.le_of_ble_eq_true rfl) (Nat.le_of_ble_eq_true rfl) (Nat.le_of_ble_eq_true rfl) (Nat.le_of_ble_eq_true rfl) dX3_findMove_57 ?_
                  refine ri_abs (by omega) (fun q_1 eq_1 => ?_)
                  refine lv_iload hx hb dX3_findMove_60 (lv_at hl 7 rfl) ?_
                  refine va_mabs hx hb (hml.trans hl.1.symm) hown (hts _ (List.mem_of_getElem? (i := 2) rfl)) (hts _ (List.mem_of_getElem? (i := 3) rfl)) (hts _ (List.mem_of_getElem? (i := 4) rfl)) (hts _ (List.mem_of_getElem? (i := 5) rfl)) (Nat.le_of_ble_eq_true rfl) (Nat.le_of_ble_eq_true rfl) (Nat.le_of_ble_eq_true rfl) (Nat.le_of_ble_eq_true rfl) dX3_findMove_62 ?_
                  refine ri_abs (by omega) (fun q_2 eq_2 => ?_)
                  refine ri_iadd hx hb dX3_findMove_65 ?_
                  refine ri_eq (y := (cl.natAbs : Int) + (rw.natAbs : Int)) (by omega) ?_
                  refine lv_istore (lv' := [(8, .int (iI ((cl.natAbs : Int) + (rw.natAbs : Int)))), (0, .ref (a 0)), (1, .int (iI z)), (2, .int (iI t)), (3, .int (iI b)), (4, .int (iI fo)), (5, .int (iI le)), (6, .int (iI rw)), (7, .int (iI cl))]) hx hb dX3_findMove_66 hl (by decide) rfl (fun ls hl => ?_)
                  refine lv_iload hx hb dX3_findMove_68 (lv_at hl 0 rfl) ?_
                  refine lv_iload hx hb dX3_findMove_70 (lv_at hl 6 rfl) ?_
                  refine ri_icmp_ge (tgt := 102) hx hb (by omega) dX3_findMove_72 (by decide) (fun h72 => ?_) (fun h72 => ?_)
                  · skip
                    refine ri_iinc (lv' := [(7, .int (iI (cl + 1))), (8, .int (iI ((cl.natAbs : Int) + (rw.natAbs : Int)))), (0, .ref (a 0)), (1, .int (iI z)), (2, .int (iI t)), (3, .int (iI b)), (4, .int (iI fo)), (5, .int (iI le)), (6, .int (iI rw))]) hx hb dX3_findMove_102 hl (k := 8) rfl (by decide) rfl (fun ls hl => ?_)
                    refine lv_goto (tgt := 49) hx hb dX3_findMove_105 (by decide) ?_
                    exact ih49 (fo) (le) (cl + 1) (by omega) (by first | exact fst_take hs2 (by unfold in5; omega) (by omega) h86 (fun c1 r1 i => by show (r1 < rw ∨ (r1 = rw ∧ c1 < cl + 1)) ↔ (r1 < rw ∨ (r1 = rw ∧ c1 < cl)) ∨ (c1 = cl ∧ r1 = rw); omega) | exact fst_skip hs2 (c0 := cl) (r0 := rw) (by unfold in5; omega) (by first | exact Or.inl (by omega) | exact Or.inr h86) (fun c1 r1 v => v) (fun c1 r1 i => by show (r1 < rw ∨ (r1 = rw ∧ c1 < cl + 1)) ↔ (r1 < rw ∨ (r1 = rw ∧ c1 < cl)) ∨ (c1 = cl ∧ r1 = rw); omega)) (by omega) ls (lv_sub hl [2, 3, 4, 5, 6, 7, 8, 0] rfl)
                  · skip
                    refine lv_aload_n hx hb dX3_findMove_75 rfl (lv_at hl 1 rfl) ?_
                    refine lv_iload_n hx hb dX3_findMove_76 rfl (lv_at hl 2 rfl) ?_
                    refine lv_iload_n hx hb dX3_findMove_77 rfl (lv_at hl 3 rfl) ?_
                    refine lv_iload_n hx hb dX3_findMove_78 rfl (lv_at hl 4 rfl) ?_
                    refine lv_iload hx hb dX3_findMove_79 (lv_at hl 8 rfl) ?_
                    refine lv_iload hx hb dX3_findMove_81 (lv_at hl 7 rfl) ?_
                    refine ri_rd (ri_runV (b := a 0) (As := [.int (iI z), .int (iI t), .int (iI b), .int (iI cl), .int (iI rw)]) (rest := []) CF (k_X3_fits l D a kk g z t b cl rw hI (by omega) (by omega) (by omega) (by omega) (by omega)) gX3_findMove_X3_fits f_X3_fits rfl (va_recv hK hP (ci := 3) (q0 := 0) rfl rfl) ⟨rfl, rfl, Nat.le_of_ble_eq_true rfl, Nat.le_of_ble_eq_true rfl, Nat.le_of_ble_eq_true rfl, Nat.le_of_ble_eq_true rfl⟩ wB_bl (wB_in hP hK hN) rfl hl.1 rfl (Nat.le_of_ble_eq_true rfl) dX3_findMove_83) ?_
                    refine ri_ifeq_b (tgt := 102) hx hb dX3_findMove_86 (by decide) (fun h86 => ?_) (fun h86 => ?_)
                    · skip
                      refine ri_iinc (lv' := [(7, .int (iI (cl + 1))), (8, .int (iI ((cl.natAbs : Int) + (rw.natAbs : Int)))), (0, .ref (a 0)), (1, .int (iI z)), (2, .int (iI t)), (3, .int (iI b)), (4, .int (iI fo)), (5, .int (iI le)), (6, .int (iI rw))]) hx hb dX3_findMove_102 hl (k := 8) rfl (by decide) rfl (fun ls hl => ?_)
                      refine lv_goto (tgt := 49) hx hb dX3_findMove_105 (by decide) ?_
                      exact ih49 (fo) (le) (cl + 1) (by omega) (by first | exact fst_take hs2 (by unfold in5; omega) (by omega) h86 (fun c1 r1 i => by show (r1 < rw ∨ (r1 = rw ∧ c1 < cl + 1)) ↔ (r1 < rw ∨ (r1 = rw ∧ c1 < cl)) ∨ (c1 = cl ∧ r1 = rw); omega) | exact fst_skip hs2 (c0 := cl) (r0 := rw) (by unfold in5; omega) (by first | exact Or.inl (by omega) | exact Or.inr h86) (fun c1 r1 v => v) (fun c1 r1 i => by show (r1 < rw ∨ (r1 = rw ∧ c1 < cl + 1)) ↔ (r1 < rw ∨ (r1 = rw ∧ c1 < cl)) ∨ (c1 = cl ∧ r1 = rw); omega)) (by omega) ls (lv_sub hl [2, 3, 4, 5, 6, 7, 8, 0] rfl)
                    · skip
                      refine lv_iload hx hb dX3_findMove_89 (lv_at hl 0 rfl) ?_
                      refine lv_istore (lv' := [(5, .int (iI ((cl.natAbs : Int) + (rw.natAbs : Int)))), (8, .int (iI ((cl.natAbs : Int) + (rw.natAbs : Int)))), (0, .ref (a 0)), (1, .int (iI z)), (2, .int (iI t)), (3, .int (iI b)), (4, .int (iI fo)), (6, .int (iI rw)), (7, .int (iI cl))]) hx hb dX3_findMove_91 hl (by decide) rfl (fun ls hl => ?_)
                      refine lv_iload hx hb dX3_findMove_93 (lv_at hl 8 rfl) ?_
                      refine lv_iload hx hb dX3_findMove_95 (lv_at hl 7 rfl) ?_
                      refine ri_rd (ri_runS (As := [.int (iI cl), .int (iI rw)]) (rest := []) CF (k_X3_moveBy l cl rw) gX3_findMove_X3_moveBy f_X3_moveBy ⟨rfl, rfl, Nat.le_of_ble_eq_true rfl, Nat.le_of_ble_eq_true rfl, Nat.le_of_ble_eq_true rfl, Nat.le_of_ble_eq_true rfl⟩ tB_bl tB_in rfl hl.1 rfl (Nat.le_of_ble_eq_true rfl) dX3_findMove_97) ?_
                      refine lv_istore (lv' := [(4, .int (iI (5050 + 100 * rw + cl))), (5, .int (iI ((cl.natAbs : Int) + (rw.natAbs : Int)))), (8, .int (iI ((cl.natAbs : Int) + (rw.natAbs : Int)))), (0, .ref (a 0)), (1, .int (iI z)), (2, .int (iI t)), (3, .int (iI b)), (6, .int (iI rw)), (7, .int (iI cl))]) hx hb dX3_findMove_100 hl (by decide) rfl (fun ls hl => ?_)
                      refine ri_iinc (lv' := [(7, .int (iI (cl + 1))), (4, .int (iI (5050 + 100 * rw + cl))), (5, .int (iI ((cl.natAbs : Int) + (rw.natAbs : Int)))), (8, .int (iI ((cl.natAbs : Int) + (rw.natAbs : Int)))), (0, .ref (a 0)), (1, .int (iI z)), (2, .int (iI t)), (3, .int (iI b)), (6, .int (iI rw))]) hx hb dX3_findMove_102 hl (k := 8) rfl (by decide) rfl (fun ls hl => ?_)
                      refine lv_goto (tgt := 49) hx hb dX3_findMove_105 (by decide) ?_
                      exact ih49 (5050 + 100 * rw + cl) ((cl.natAbs : Int) + (rw.natAbs : Int)) (cl + 1) (by omega) (by first | exact fst_take hs2 (by unfold in5; omega) (by omega) h86 (fun c1 r1 i => by show (r1 < rw ∨ (r1 = rw ∧ c1 < cl + 1)) ↔ (r1 < rw ∨ (r1 = rw ∧ c1 < cl)) ∨ (c1 = cl ∧ r1 = rw); omega) | exact fst_skip hs2 (c0 := cl) (r0 := rw) (by unfold in5; omega) (by first | exact Or.inl (by omega) | exact Or.inr h86) (fun c1 r1 v => v) (fun c1 r1 i => by show (r1 < rw ∨ (r1 = rw ∧ c1 < cl + 1)) ↔ (r1 < rw ∨ (r1 = rw ∧ c1 < cl)) ∨ (c1 = cl ∧ r1 = rw); omega)) (by omega) ls (lv_sub hl [4, 5, 6, 7, 1, 2, 8, 0] rfl)
            exact L49 6 (fo) (le) (-2) (by omega) (fst_w hst (fun c1 r1 i => by show r1 < rw ↔ (r1 < rw ∨ (r1 = rw ∧ c1 < -2)); unfold in5 at i; omega)) (by omega) ls (lv_sub hl [1, 2, 3, 4, 5, 6, 7, 0] rfl)
      exact L39 6 (5050) (5) (-2) (by omega) (Or.inl ⟨rfl, rfl, fun c1 r1 i v => by have v2 : r1 < -2 := v; unfold in5 at i; omega⟩) (by omega) ls (lv_sub hl [3, 4, 5, 6, 2, 1, 0] rfl)
    · skip
      refine ri_sipush hx hb dX3_findMove_23 (by decide) ?_
      exact ri_iret hx hb hr hlocks dX3_findMove_26 (by have h := mvN_of (F := (fitP (px (g 2) t) (px (g 2) z) b (g 5 t.toNat) (g 6 t.toNat) (g 7 t.toNat) (g 8 t.toNat))) (best_00 h20); omega)

theorem f_X3_differs : MF yX3_differs wsX3_differs cX3_differs 10 (some .boolean) 5 := ⟨⟨_, rfl⟩, by decide +kernel, by decide +kernel, by decide +kernel⟩
set_option maxHeartbeats 4000000 in
set_option maxRecDepth 100000 in
theorem k_X3_differs (l : Launch) (D : va_G) (a : Nat → Nat) (kk : Nat → ClassId) (g : Nat → Nat → Int) (z : Int) (t : Int) (b : Int) (mv : Int) (cl : Int) (hI : XInv g) (yz : 0 ≤ z ∧ z ≤ 44) (yt : 0 ≤ t ∧ t ≤ 4) (yb : 0 ≤ b ∧ b ≤ 255) (ymv : 4848 ≤ mv ∧ mv ≤ 5252) (ycl : 0 ≤ cl ∧ cl ≤ 63) : RD l yX3_differs wsX3_differs ({ frames := 4, cells := 0, slots := 0, locals := 98 }) [.ref (a 0), .int (iI z), .int (iI t), .int (iI b), .int (iI mv), .int (iI cl)] (wB D kk (xW a kk g)) (bp (difP (px (g 2) t) (px (g 2) z) b (g 5 t.toNat) (g 6 t.toNat) (g 7 t.toNat) (g 8 t.toNat) (g 10 t.toNat) (g 11 t.toNat) (g 12 t.toNat) (g 13 t.toNat) (mv % 100 - 50) (mv / 100 - 50) (cl % 8) (cl / 8))) := by
  refine ri_ent (cc := cX3_differs) (maxL := 10) (ret := some .boolean) (by decide) rfl (Nat.le_of_ble_eq_true rfl) ?_
  intro zp ze s zm zb zt zc hx hb hr hts hown hlocks hml hin hB ls hl
  have hown : s.vm.findClass RX3 = some zm.cls := hown
  have CF : CallFix zp zm zc cX3_differs 10 s ([.ref (a 0), .int (iI z), .int (iI t), .int (iI b), .int (iI mv), .int (iI cl)] : List Value).toArray wsX3_differs RX3 := ⟨hx, hb, hml, hown, hts⟩
  obtain ⟨hP, hK, hN⟩ := hB
  have hinX3 : ∀ w ∈ wsX30, w ∈ wsX3_differs := (fun _ h => List.mem_cons_of_mem _ (List.mem_append_left _ (List.mem_append_left _ (List.mem_append_right _ h))))
  have hl : lv_has ls 10 [(0, .ref (a 0)), (1, .int (iI z)), (2, .int (iI t)), (3, .int (iI b)), (4, .int (iI mv)), (5, .int (iI cl))] := hl
  refine lv_iload hx hb dX3_differs_0 (lv_at hl 5 rfl) ?_
  refine ri_rd (ri_runS (As := [.int (iI cl)]) (rest := []) CF (k_X3_columnOf l cl (by omega)) gX3_differs_X3_columnOf f_X3_columnOf ⟨rfl, rfl, Nat.le_of_ble_eq_true rfl, Nat.le_of_ble_eq_true rfl, Nat.le_of_ble_eq_true rfl, Nat.le_of_ble_eq_true rfl⟩ tB_bl tB_in rfl hl.1 rfl (Nat.le_of_ble_eq_true rfl) dX3_differs_2) ?_
  refine lv_istore (lv' := [(6, .int (iI (cl % 8))), (0, .ref (a 0)), (1, .int (iI z)), (2, .int (iI t)), (3, .int (iI b)), (4, .int (iI mv)), (5, .int (iI cl))]) hx hb dX3_differs_5 hl (by decide) rfl (fun ls hl => ?_)
  refine lv_iload hx hb dX3_differs_7 (lv_at hl 6 rfl) ?_
  refine ri_rd (ri_runS (As := [.int (iI cl)]) (rest := []) CF (k_X3_rowOf l cl (by omega)) gX3_differs_X3_rowOf f_X3_rowOf ⟨rfl, rfl, Nat.le_of_ble_eq_true rfl, Nat.le_of_ble_eq_true rfl, Nat.le_of_ble_eq_true rfl, Nat.le_of_ble_eq_true rfl⟩ tB_bl tB_in rfl hl.1 rfl (Nat.le_of_ble_eq_true rfl) dX3_differs_9) ?_
  refine lv_istore (lv' := [(7, .int (iI (cl / 8))), (6, .int (iI (cl % 8))), (0, .ref (a 0)), (1, .int (iI z)), (2, .int (iI t)), (3, .int (iI b)), (4, .int (iI mv)), (5, .int (iI cl))]) hx hb dX3_differs_12 hl (by decide) rfl (fun ls hl => ?_)
  refine lv_aload_n hx hb dX3_differs_14 rfl (lv_at hl 2 rfl) ?_
  refine va_get (D := D) (ci := 3) (v := .ref (a 1)) (C := RX3) (T := TX3) (N := 4) hx hb hts hinX3 hown hK hP 0 rfl rfl 0 (by decide) (hts _ (List.mem_of_getElem? (i := 1) rfl)) (fun _ h9 => h9) rfl dX3_differs_15 ?_
  refine lv_iload_n hx hb dX3_differs_18 rfl (lv_at hl 4 rfl) ?_
  refine ri_rd (ri_runS (As := [.int (iI t)]) (rest := [.ref (a 1)]) CF (k_X3_pictureSlot l t) gX3_differs_X3_pictureSlot f_X3_pictureSlot ⟨rfl, rfl, Nat.le_of_ble_eq_true rfl, Nat.le_of_ble_eq_true rfl, Nat.le_of_ble_eq_true rfl, Nat.le_of_ble_eq_true rfl⟩ tB_bl tB_in rfl hl.1 rfl (Nat.le_of_ble_eq_true rfl) dX3_differs_19) ?_
  refine lv_iload hx hb dX3_differs_22 (lv_at hl 1 rfl) ?_
  refine lv_iload hx hb dX3_differs_24 (lv_at hl 0 rfl) ?_
  refine ri_rd (ri_runV (b := a 1) (As := [.int (iI t), .int (iI (cl % 8)), .int (iI (cl / 8))]) (rest := []) CF (k_X1_at l D a kk g t (cl % 8) (cl / 8) hI (by omega) (by omega) (by omega)) gX3_differs_X1_at f_X1_at rfl (va_recv hK hP (ci := 1) (q0 := 1) rfl rfl) ⟨rfl, rfl, Nat.le_of_ble_eq_true rfl, Nat.le_of_ble_eq_true rfl, Nat.le_of_ble_eq_true rfl, Nat.le_of_ble_eq_true rfl⟩ wB_bl (wB_in hP hK hN) rfl hl.1 rfl (Nat.le_of_ble_eq_true rfl) dX3_differs_26) ?_
  have f_1 := hI.1 (t * 64 + (cl / 8) * 8 + (cl % 8)).toNat (by omega)
  refine lv_istore (lv' := [(8, .int (iI (g 2 (t * 64 + (cl / 8) * 8 + (cl % 8)).toNat))), (7, .int (iI (cl / 8))), (6, .int (iI (cl % 8))), (0, .ref (a 0)), (1, .int (iI z)), (2, .int (iI t)), (3, .int (iI b)), (4, .int (iI mv)), (5, .int (iI cl))]) hx hb dX3_differs_29 hl (by decide) rfl (fun ls hl => ?_)
  refine lv_aload_n hx hb dX3_differs_31 rfl (lv_at hl 3 rfl) ?_
  refine va_get (D := D) (ci := 3) (v := .ref (a 1)) (C := RX3) (T := TX3) (N := 4) hx hb hts hinX3 hown hK hP 0 rfl rfl 0 (by decide) (hts _ (List.mem_of_getElem? (i := 1) rfl)) (fun _ h9 => h9) rfl dX3_differs_32 ?_
  refine lv_iload_n hx hb dX3_differs_35 rfl (lv_at hl 4 rfl) ?_
  refine lv_iload hx hb dX3_differs_36 (lv_at hl 2 rfl) ?_
  refine lv_iload hx hb dX3_differs_38 (lv_at hl 1 rfl) ?_
  refine ri_rd (ri_runV (b := a 1) (As := [.int (iI z), .int (iI (cl % 8)), .int (iI (cl / 8))]) (rest := []) CF (k_X1_at l D a kk g z (cl % 8) (cl / 8) hI (by omega) (by omega) (by omega)) gX3_differs_X1_at f_X1_at rfl (va_recv hK hP (ci := 1) (q0 := 1) rfl rfl) ⟨rfl, rfl, Nat.le_of_ble_eq_true rfl, Nat.le_of_ble_eq_true rfl, Nat.le_of_ble_eq_true rfl, Nat.le_of_ble_eq_true rfl⟩ wB_bl (wB_in hP hK hN) rfl hl.1 rfl (Nat.le_of_ble_eq_true rfl) dX3_differs_40) ?_
  have f_2 := hI.1 (z * 64 + (cl / 8) * 8 + (cl % 8)).toNat (by omega)
  refine lv_istore (lv' := [(9, .int (iI (g 2 (z * 64 + (cl / 8) * 8 + (cl % 8)).toNat))), (8, .int (iI (g 2 (t * 64 + (cl / 8) * 8 + (cl % 8)).toNat))), (7, .int (iI (cl / 8))), (6, .int (iI (cl % 8))), (0, .ref (a 0)), (1, .int (iI z)), (2, .int (iI t)), (3, .int (iI b)), (4, .int (iI mv)), (5, .int (iI cl))]) hx hb dX3_differs_43 hl (by decide) rfl (fun ls hl => ?_)
  refine lv_iload hx hb dX3_differs_45 (lv_at hl 1 rfl) ?_
  refine lv_iload hx hb dX3_differs_47 (lv_at hl 0 rfl) ?_
  refine lv_iload_n hx hb dX3_differs_49 rfl (lv_at hl 7 rfl) ?_
  refine ri_rd (ri_runS (As := [.int (iI (g 2 (t * 64 + (cl / 8) * 8 + (cl % 8)).toNat)), .int (iI (g 2 (z * 64 + (cl / 8) * 8 + (cl % 8)).toNat)), .int (iI b)]) (rest := []) CF (k_X3_isAlike l (g 2 (t * 64 + (cl / 8) * 8 + (cl % 8)).toNat) (g 2 (z * 64 + (cl / 8) * 8 + (cl % 8)).toNat) b (by omega) (by omega) (by omega)) gX3_differs_X3_isAlike f_X3_isAlike ⟨rfl, rfl, Nat.le_of_ble_eq_true rfl, Nat.le_of_ble_eq_true rfl, Nat.le_of_ble_eq_true rfl, Nat.le_of_ble_eq_true rfl⟩ tB_bl tB_in rfl hl.1 rfl (Nat.le_of_ble_eq_true rfl) dX3_differs_50) ?_
  refine ri_ifne_b (tgt := 102) hx hb dX3_differs_53 (by decide) (fun h53 => ?_) (fun h53 => ?_)
  · skip
    refine ri_iconst hx hb dX3_differs_102 ?_
    exact ri_zret hx hb hr hlocks (bp_01 _) dX3_differs_103 ((bp_f (fun q => q.1 h53)).symm)
  · skip
    refine lv_aload_n hx hb dX3_differs_56 rfl (lv_at hl 4 rfl) ?_
    refine lv_iload_n hx hb dX3_differs_57 rfl (lv_at hl 6 rfl) ?_
    refine lv_iload hx hb dX3_differs_58 (lv_at hl 8 rfl) ?_
    refine lv_iload hx hb dX3_differs_60 (lv_at hl 3 rfl) ?_
    refine lv_iload hx hb dX3_differs_62 (lv_at hl 2 rfl) ?_
    refine ri_rd (ri_runV (b := a 0) (As := [.int (iI t), .int (iI mv), .int (iI (cl % 8)), .int (iI (cl / 8))]) (rest := []) CF (k_X3_isMoved l D a kk g t mv (cl % 8) (cl / 8) hI (by omega) (by omega) (by omega) (by omega)) gX3_differs_X3_isMoved f_X3_isMoved rfl (va_recv hK hP (ci := 3) (q0 := 0) rfl rfl) ⟨rfl, rfl, Nat.le_of_ble_eq_true rfl, Nat.le_of_ble_eq_true rfl, Nat.le_of_ble_eq_true rfl, Nat.le_of_ble_eq_true rfl⟩ wB_bl (wB_in hP hK hN) rfl hl.1 rfl (Nat.le_of_ble_eq_true rfl) dX3_differs_64) ?_
    refine ri_ifne_b (tgt := 102) hx hb dX3_differs_67 (by decide) (fun h67 => ?_) (fun h67 => ?_)
    · skip
      refine ri_iconst hx hb dX3_differs_102 ?_
      exact ri_zret hx hb hr hlocks (bp_01 _) dX3_differs_103 ((bp_f (fun q => q.2.1 h67)).symm)
    · skip
      refine lv_aload_n hx hb dX3_differs_70 rfl (lv_at hl 4 rfl) ?_
      refine lv_iload_n hx hb dX3_differs_71 rfl (lv_at hl 6 rfl) ?_
      refine lv_iload hx hb dX3_differs_72 (lv_at hl 8 rfl) ?_
      refine lv_iload hx hb dX3_differs_74 (lv_at hl 3 rfl) ?_
      refine lv_iload hx hb dX3_differs_76 (lv_at hl 2 rfl) ?_
      refine ri_rd (ri_runV (b := a 0) (As := [.int (iI t), .int (iI mv), .int (iI (cl % 8)), .int (iI (cl / 8))]) (rest := []) CF (k_X3_isMasked l D a kk g t mv (cl % 8) (cl / 8) hI (by omega) (by omega) (by omega) (by omega)) gX3_differs_X3_isMasked f_X3_isMasked rfl (va_recv hK hP (ci := 3) (q0 := 0) rfl rfl) ⟨rfl, rfl, Nat.le_of_ble_eq_true rfl, Nat.le_of_ble_eq_true rfl, Nat.le_of_ble_eq_true rfl, Nat.le_of_ble_eq_true rfl⟩ wB_bl (wB_in hP hK hN) rfl hl.1 rfl (Nat.le_of_ble_eq_true rfl) dX3_differs_78) ?_
      refine ri_ifne_b (tgt := 102) hx hb dX3_differs_81 (by decide) (fun h81 => ?_) (fun h81 => ?_)
      · skip
        refine ri_iconst hx hb dX3_differs_102 ?_
        exact ri_zret hx hb hr hlocks (bp_01 _) dX3_differs_103 ((bp_f (fun q => q.2.2.1 h81)).symm)
      · skip
        refine lv_aload_n hx hb dX3_differs_84 rfl (lv_at hl 4 rfl) ?_
        refine lv_iload_n hx hb dX3_differs_85 rfl (lv_at hl 5 rfl) ?_
        refine lv_iload_n hx hb dX3_differs_86 rfl (lv_at hl 6 rfl) ?_
        refine lv_iload_n hx hb dX3_differs_87 rfl (lv_at hl 7 rfl) ?_
        refine lv_iload hx hb dX3_differs_88 (lv_at hl 3 rfl) ?_
        refine lv_iload hx hb dX3_differs_90 (lv_at hl 2 rfl) ?_
        refine ri_rd (ri_runV (b := a 0) (As := [.int (iI z), .int (iI t), .int (iI b), .int (iI (cl % 8)), .int (iI (cl / 8))]) (rest := []) CF (k_X3_isSoft l D a kk g z t b (cl % 8) (cl / 8) hI (by omega) (by omega) (by omega) (by omega) (by omega)) gX3_differs_X3_isSoft f_X3_isSoft rfl (va_recv hK hP (ci := 3) (q0 := 0) rfl rfl) ⟨rfl, rfl, Nat.le_of_ble_eq_true rfl, Nat.le_of_ble_eq_true rfl, Nat.le_of_ble_eq_true rfl, Nat.le_of_ble_eq_true rfl⟩ wB_bl (wB_in hP hK hN) rfl hl.1 rfl (Nat.le_of_ble_eq_true rfl) dX3_differs_92) ?_
        refine ri_ifne_b (tgt := 102) hx hb dX3_differs_95 (by decide) (fun h95 => ?_) (fun h95 => ?_)
        · skip
          refine ri_iconst hx hb dX3_differs_102 ?_
          exact ri_zret hx hb hr hlocks (bp_01 _) dX3_differs_103 ((bp_f (fun q => q.2.2.2 h95)).symm)
        · skip
          refine ri_iconst hx hb dX3_differs_98 ?_
          refine lv_goto (tgt := 103) hx hb dX3_differs_99 (by decide) ?_
          exact ri_zret hx hb hr hlocks (bp_01 _) dX3_differs_103 ((bp_t ⟨h53, h67, h81, h95⟩).symm)

theorem f_X3_findDifference : MF yX3_findDifference wsX3_findDifference cX3_findDifference 6 (some .int) 3 := ⟨⟨_, rfl⟩, by decide +kernel, by decide +kernel, by decide +kernel⟩
set_option maxHeartbeats 4000000 in
set_option maxRecDepth 100000 in
theorem k_X3_findDifference (l : Launch) (D : va_G) (a : Nat → Nat) (kk : Nat → ClassId) (g : Nat → Nat → Int) (z : Int) (t : Int) (b : Int) (hI : XInv g) (yz : 0 ≤ z ∧ z ≤ 44) (yt : 0 ≤ t ∧ t ≤ 4) (yb : 0 ≤ b ∧ b ≤ 255) : RD l yX3_findDifference wsX3_findDifference ({ frames := 5, cells := 0, slots := 0, locals := 127 }) [.ref (a 0), .int (iI z), .int (iI t), .int (iI b)] (wB D kk (xW a kk g)) (fdE (cmpD (px (g 2) t) (px (g 2) z) b (g 5 t.toNat) (g 6 t.toNat) (g 7 t.toNat) (g 8 t.toNat) (g 10 t.toNat) (g 11 t.toNat) (g 12 t.toNat) (g 13 t.toNat))) := by
  refine ri_ent (cc := cX3_findDifference) (maxL := 6) (ret := some .int) (by decide) rfl (Nat.le_of_ble_eq_true rfl) ?_
  intro zp ze s zm zb zt zc hx hb hr hts hown hlocks hml hin hB ls hl
  have hown : s.vm.findClass RX3 = some zm.cls := hown
  have CF : CallFix zp zm zc cX3_findDifference 6 s ([.ref (a 0), .int (iI z), .int (iI t), .int (iI b)] : List Value).toArray wsX3_findDifference RX3 := ⟨hx, hb, hml, hown, hts⟩
  obtain ⟨hP, hK, hN⟩ := hB
  have hl : lv_has ls 6 [(0, .ref (a 0)), (1, .int (iI z)), (2, .int (iI t)), (3, .int (iI b))] := hl
  refine lv_aload_n hx hb dX3_findDifference_0 rfl (lv_at hl 0 rfl) ?_
  refine lv_iload_n hx hb dX3_findDifference_1 rfl (lv_at hl 1 rfl) ?_
  refine lv_iload_n hx hb dX3_findDifference_2 rfl (lv_at hl 2 rfl) ?_
  refine lv_iload_n hx hb dX3_findDifference_3 rfl (lv_at hl 3 rfl) ?_
  refine ri_rd (ri_runV (b := a 0) (As := [.int (iI z), .int (iI t), .int (iI b)]) (rest := []) CF (k_X3_findMove l D a kk g z t b hI (by omega) (by omega) (by omega)) gX3_findDifference_X3_findMove f_X3_findMove rfl (va_recv hK hP (ci := 3) (q0 := 0) rfl rfl) ⟨rfl, rfl, Nat.le_of_ble_eq_true rfl, Nat.le_of_ble_eq_true rfl, Nat.le_of_ble_eq_true rfl, Nat.le_of_ble_eq_true rfl⟩ wB_bl (wB_in hP hK hN) rfl hl.1 rfl (Nat.le_of_ble_eq_true rfl) dX3_findDifference_4) ?_
  have f_1 := mvN_in (fitP (px (g 2) t) (px (g 2) z) b (g 5 t.toNat) (g 6 t.toNat) (g 7 t.toNat) (g 8 t.toNat))
  refine lv_istore (lv' := [(4, .int (iI (mvN (fitP (px (g 2) t) (px (g 2) z) b (g 5 t.toNat) (g 6 t.toNat) (g 7 t.toNat) (g 8 t.toNat))))), (0, .ref (a 0)), (1, .int (iI z)), (2, .int (iI t)), (3, .int (iI b))]) hx hb dX3_findDifference_7 hl (by decide) rfl (fun ls hl => ?_)
  refine ri_iconst hx hb dX3_findDifference_9 ?_
  refine lv_istore (lv' := [(5, .int (iI 0)), (4, .int (iI (mvN (fitP (px (g 2) t) (px (g 2) z) b (g 5 t.toNat) (g 6 t.toNat) (g 7 t.toNat) (g 8 t.toNat))))), (0, .ref (a 0)), (1, .int (iI z)), (2, .int (iI t)), (3, .int (iI b))]) hx hb dX3_findDifference_10 hl (by decide) rfl (fun ls hl => ?_)
  have L12 : ∀ (n12 : Nat) (i : Int), (0 ≤ i ∧ i ≤ 64) → (∀ k : Int, 0 ≤ k → k < i → ¬ (cmpD (px (g 2) t) (px (g 2) z) b (g 5 t.toNat) (g 6 t.toNat) (g 7 t.toNat) (g 8 t.toNat) (g 10 t.toNat) (g 11 t.toNat) (g 12 t.toNat) (g 13 t.toNat)) k) → ((64 - i).toNat < n12) → ∀ (ls : Array Slot), lv_has ls 6 [(0, .ref (a 0)), (1, .int (iI z)), (2, .int (iI t)), (3, .int (iI b)), (4, .int (iI (mvN (fitP (px (g 2) t) (px (g 2) z) b (g 5 t.toNat) (g 6 t.toNat) (g 7 t.toNat) (g 8 t.toNat))))), (5, .int (iI i))] → W zp l ze ({ frames := 5, cells := 0, slots := 0, locals := 127 }) s zm ([.ref (a 0), .int (iI z), .int (iI t), .int (iI b)] : List Value).toArray zb zt zc s.heap [] 0 0 (MQ zb (vp_Si (fun r9 => r9 = iI (fdE (cmpD (px (g 2) t) (px (g 2) z) b (g 5 t.toNat) (g 6 t.toNat) (g 7 t.toNat) (g 8 t.toNat) (g 10 t.toNat) (g 11 t.toNat) (g 12 t.toNat) (g 13 t.toNat))))) ([.ref (a 0), .int (iI z), .int (iI t), .int (iI b)] : List Value).toArray s 0 0 (fun _ => False)) (F0 zm 12 ls []) := by
    intro n12
    induction n12 with
    | zero => intro i hi hall hm; exact absurd hm (Nat.not_lt_zero _)
    | succ n12 ih12 =>
      intro i hi hall hm12 ls hl
      refine lv_iload hx hb dX3_findDifference_12 (lv_at hl 5 rfl) ?_
      refine ri_bipush hx hb dX3_findDifference_14 (by decide) ?_
      refine ri_icmp_ge (tgt := 42) hx hb (by omega) dX3_findDifference_16 (by decide) (fun c_2 => ?_) (fun c_2 => ?_)
      · skip
        refine ri_iconst hx hb dX3_findDifference_42 ?_
        exact ri_iret hx hb hr hlocks dX3_findDifference_43 (fdE_eq (Or.inl ⟨rfl, fun k h1 h2 => hall k h1 (by omega)⟩))
      · skip
        refine lv_aload_n hx hb dX3_findDifference_19 rfl (lv_at hl 0 rfl) ?_
        refine lv_iload_n hx hb dX3_findDifference_20 rfl (lv_at hl 1 rfl) ?_
        refine lv_iload_n hx hb dX3_findDifference_21 rfl (lv_at hl 2 rfl) ?_
        refine lv_iload_n hx hb dX3_findDifference_22 rfl (lv_at hl 3 rfl) ?_
        refine lv_iload hx hb dX3_findDifference_23 (lv_at hl 4 rfl) ?_
        refine lv_iload hx hb dX3_findDifference_25 (lv_at hl 5 rfl) ?_
        refine ri_rd (ri_runV (b := a 0) (As := [.int (iI z), .int (iI t), .int (iI b), .int (iI (mvN (fitP (px (g 2) t) (px (g 2) z) b (g 5 t.toNat) (g 6 t.toNat) (g 7 t.toNat) (g 8 t.toNat)))), .int (iI i)]) (rest := []) CF (k_X3_differs l D a kk g z t b (mvN (fitP (px (g 2) t) (px (g 2) z) b (g 5 t.toNat) (g 6 t.toNat) (g 7 t.toNat) (g 8 t.toNat))) i hI (by omega) (by omega) (by omega) (by omega) (by omega)) gX3_findDifference_X3_differs f_X3_differs rfl (va_recv hK hP (ci := 3) (q0 := 0) rfl rfl) ⟨rfl, rfl, Nat.le_of_ble_eq_true rfl, Nat.le_of_ble_eq_true rfl, Nat.le_of_ble_eq_true rfl, Nat.le_of_ble_eq_true rfl⟩ wB_bl (wB_in hP hK hN) rfl hl.1 rfl (Nat.le_of_ble_eq_true rfl) dX3_findDifference_27) ?_
        refine ri_eq (y := bp ((cmpD (px (g 2) t) (px (g 2) z) b (g 5 t.toNat) (g 6 t.toNat) (g 7 t.toNat) (g 8 t.toNat) (g 10 t.toNat) (g 11 t.toNat) (g 12 t.toNat) (g 13 t.toNat)) i)) (by have e1 := mvN_c (fitP (px (g 2) t) (px (g 2) z) b (g 5 t.toNat) (g 6 t.toNat) (g 7 t.toNat) (g 8 t.toNat)); show bp (difP _ _ _ _ _ _ _ _ _ _ _ _ _ _ _) = bp (difP _ _ _ _ _ _ _ _ _ _ _ _ _ _ _); rw [e1.1, e1.2]) ?_
        refine ri_ifeq_b (tgt := 36) hx hb dX3_findDifference_30 (by decide) (fun h30 => ?_) (fun h30 => ?_)
        · skip
          refine ri_iinc (lv' := [(5, .int (iI (i + 1))), (0, .ref (a 0)), (1, .int (iI z)), (2, .int (iI t)), (3, .int (iI b)), (4, .int (iI (mvN (fitP (px (g 2) t) (px (g 2) z) b (g 5 t.toNat) (g 6 t.toNat) (g 7 t.toNat) (g 8 t.toNat)))))]) hx hb dX3_findDifference_36 hl (k := 5) rfl (by decide) rfl (fun ls hl => ?_)
          refine lv_goto (tgt := 12) hx hb dX3_findDifference_39 (by decide) ?_
          exact ih12 (i + 1) (by omega) (fun k h1 h2 => (Int.lt_or_eq_of_le (show k ≤ i by omega)).elim (fun q => hall k h1 q) (fun q => by rw [q]; exact h30)) (by omega) ls (lv_sub hl [1, 2, 3, 4, 5, 0] rfl)
        · skip
          refine lv_iload hx hb dX3_findDifference_33 (lv_at hl 5 rfl) ?_
          exact ri_iret hx hb hr hlocks dX3_findDifference_35 (fdE_eq (Or.inr ⟨by omega, h30, hall⟩))
  exact L12 65 (0) (by omega) (fun k h1 h2 => absurd h2 (by omega)) (by decide) ls (lv_sub hl [2, 3, 4, 5, 1, 0] rfl)
