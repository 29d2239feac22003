theorem f_X4_in : MF yX4_in wsX4_in cX4_in 3 (some .boolean) 3 := ⟨⟨_, rfl⟩, by decide +kernel, by decide +kernel, by decide +kernel⟩
set_option maxHeartbeats 4000000 in
set_option maxRecDepth 100000 in
theorem k_X4_in (l : Launch) (v : Int) (lo : Int) (hi : Int) (yv : -2147483648 ≤ v ∧ v < 2147483648) (ylo : -2147483648 ≤ lo ∧ lo < 2147483648) (yhi : -2147483648 ≤ hi ∧ hi < 2147483648) : RD l yX4_in wsX4_in ({ frames := 0, cells := 0, slots := 0, locals := 0 }) [.int (iI v), .int (iI lo), .int (iI hi)] tB (bp (lo ≤ v ∧ v ≤ hi)) := by
  refine ri_ent (cc := cX4_in) (maxL := 3) (ret := some .boolean) (by decide) rfl (Nat.le_of_ble_eq_true rfl) ?_
  intro zp ze s zm zb zt zc hx hb hr hts hown hlocks hml hin hB ls hl
  have hown : s.vm.findClass RX4 = some zm.cls := hown
  have CF : CallFix zp zm zc cX4_in 3 s ([.int (iI v), .int (iI lo), .int (iI hi)] : List Value).toArray wsX4_in RX4 := ⟨hx, hb, hml, hown, hts⟩
  have hl : lv_has ls 3 [(0, .int (iI v)), (1, .int (iI lo)), (2, .int (iI hi))] := hl
  refine lv_iload_n hx hb dX4_in_0 rfl (lv_at hl 0 rfl) ?_
  refine lv_iload_n hx hb dX4_in_1 rfl (lv_at hl 1 rfl) ?_
  refine ri_icmp_lt (tgt := 14) hx hb (by omega) dX4_in_2 (by decide) (fun c_1 => ?_) (fun c_1 => ?_)
  · skip
    refine ri_iconst hx hb dX4_in_14 ?_
    exact ri_zret hx hb hr hlocks (bp_01 _) dX4_in_15 ((bp_f (by omega)).symm)
  · skip
    refine lv_iload_n hx hb dX4_in_5 rfl (lv_at hl 0 rfl) ?_
    refine lv_iload_n hx hb dX4_in_6 rfl (lv_at hl 2 rfl) ?_
    refine ri_icmp_gt (tgt := 14) hx hb (by omega) dX4_in_7 (by decide) (fun c_2 => ?_) (fun c_2 => ?_)
    · skip
      refine ri_iconst hx hb dX4_in_14 ?_
      exact ri_zret hx hb hr hlocks (bp_01 _) dX4_in_15 ((bp_f (by omega)).symm)
    · skip
      refine ri_iconst hx hb dX4_in_10 ?_
      refine lv_goto (tgt := 15) hx hb dX4_in_11 (by decide) ?_
      exact ri_zret hx hb hr hlocks (bp_01 _) dX4_in_15 ((bp_t (by omega)).symm)

theorem f_X4_isTest : MF yX4_isTest wsX4_isTest cX4_isTest 1 (some .boolean) 1 := ⟨⟨_, rfl⟩, by decide +kernel, by decide +kernel, by decide +kernel⟩
set_option maxHeartbeats 4000000 in
set_option maxRecDepth 100000 in
theorem k_X4_isTest (l : Launch) (v : Int) (yv : -2147483648 ≤ v ∧ v < 2147483648) : RD l yX4_isTest wsX4_isTest ({ frames := 1, cells := 0, slots := 0, locals := 22 }) [.int (iI v)] tB (bp (0 ≤ v ∧ v ≤ 4)) := by
  refine ri_ent (cc := cX4_isTest) (maxL := 1) (ret := some .boolean) (by decide) rfl (Nat.le_of_ble_eq_true rfl) ?_
  intro zp ze s zm zb zt zc hx hb hr hts hown hlocks hml hin hB ls hl
  have hown : s.vm.findClass RX4 = some zm.cls := hown
  have CF : CallFix zp zm zc cX4_isTest 1 s ([.int (iI v)] : List Value).toArray wsX4_isTest RX4 := ⟨hx, hb, hml, hown, hts⟩
  have hl : lv_has ls 1 [(0, .int (iI v))] := hl
  refine lv_iload_n hx hb dX4_isTest_0 rfl (lv_at hl 0 rfl) ?_
  refine ri_iconst hx hb dX4_isTest_1 ?_
  refine ri_iconst hx hb dX4_isTest_2 ?_
  refine ri_rd (ri_runS (As := [.int (iI v), .int (iI 0), .int (iI 4)]) (rest := []) CF (k_X4_in l v 0 4 (by omega) (by omega) (by omega)) gX4_isTest_X4_in f_X4_in ⟨rfl, rfl, Nat.le_of_ble_eq_true rfl, Nat.le_of_ble_eq_true rfl, Nat.le_of_ble_eq_true rfl, Nat.le_of_ble_eq_true rfl⟩ tB_bl tB_in rfl hl.1 rfl (Nat.le_of_ble_eq_true rfl) dX4_isTest_3) ?_
  exact ri_zret hx hb hr hlocks (bp_01 _) dX4_isTest_6 (rfl)

theorem f_X4_isCell : MF yX4_isCell wsX4_isCell cX4_isCell 2 (some .boolean) 2 := ⟨⟨_, rfl⟩, by decide +kernel, by decide +kernel, by decide +kernel⟩
set_option maxHeartbeats 4000000 in
set_option maxRecDepth 100000 in
theorem k_X4_isCell (l : Launch) (c : Int) (r : Int) (yc : -2147483648 ≤ c ∧ c < 2147483648) (yr : -2147483648 ≤ r ∧ r < 2147483648) : RD l yX4_isCell wsX4_isCell ({ frames := 1, cells := 0, slots := 0, locals := 22 }) [.int (iI c), .int (iI r)] tB (bp ((0 ≤ c ∧ c ≤ 7) ∧ (0 ≤ r ∧ r ≤ 7))) := by
  refine ri_ent (cc := cX4_isCell) (maxL := 2) (ret := some .boolean) (by decide) rfl (Nat.le_of_ble_eq_true rfl) ?_
  intro zp ze s zm zb zt zc hx hb hr hts hown hlocks hml hin hB ls hl
  have hown : s.vm.findClass RX4 = some zm.cls := hown
  have CF : CallFix zp zm zc cX4_isCell 2 s ([.int (iI c), .int (iI r)] : List Value).toArray wsX4_isCell RX4 := ⟨hx, hb, hml, hown, hts⟩
  have hl : lv_has ls 2 [(0, .int (iI c)), (1, .int (iI r))] := hl
  refine lv_iload_n hx hb dX4_isCell_0 rfl (lv_at hl 0 rfl) ?_
  refine ri_iconst hx hb dX4_isCell_1 ?_
  refine ri_bipush hx hb dX4_isCell_2 (by decide) ?_
  refine ri_rd (ri_runS (As := [.int (iI c), .int (iI 0), .int (iI 7)]) (rest := []) CF (k_X4_in l c 0 7 (by omega) (by omega) (by omega)) gX4_isCell_X4_in f_X4_in ⟨rfl, rfl, Nat.le_of_ble_eq_true rfl, Nat.le_of_ble_eq_true rfl, Nat.le_of_ble_eq_true rfl, Nat.le_of_ble_eq_true rfl⟩ tB_bl tB_in rfl hl.1 rfl (Nat.le_of_ble_eq_true rfl) dX4_isCell_4) ?_
  refine ri_ifeq_b (tgt := 24) hx hb dX4_isCell_7 (by decide) (fun c_1 => ?_) (fun c_1 => ?_)
  · skip
    refine ri_iconst hx hb dX4_isCell_24 ?_
    exact ri_zret hx hb hr hlocks (bp_01 _) dX4_isCell_25 ((bp_f (by omega)).symm)
  · skip
    refine lv_iload_n hx hb dX4_isCell_10 rfl (lv_at hl 1 rfl) ?_
    refine ri_iconst hx hb dX4_isCell_11 ?_
    refine ri_bipush hx hb dX4_isCell_12 (by decide) ?_
    refine ri_rd (ri_runS (As := [.int (iI r), .int (iI 0), .int (iI 7)]) (rest := []) CF (k_X4_in l r 0 7 (by omega) (by omega) (by omega)) gX4_isCell_X4_in f_X4_in ⟨rfl, rfl, Nat.le_of_ble_eq_true rfl, Nat.le_of_ble_eq_true rfl, Nat.le_of_ble_eq_true rfl, Nat.le_of_ble_eq_true rfl⟩ tB_bl tB_in rfl hl.1 rfl (Nat.le_of_ble_eq_true rfl) dX4_isCell_14) ?_
    refine ri_ifeq_b (tgt := 24) hx hb dX4_isCell_17 (by decide) (fun c_2 => ?_) (fun c_2 => ?_)
    · skip
      refine ri_iconst hx hb dX4_isCell_24 ?_
      exact ri_zret hx hb hr hlocks (bp_01 _) dX4_isCell_25 ((bp_f (by omega)).symm)
    · skip
      refine ri_iconst hx hb dX4_isCell_20 ?_
      refine lv_goto (tgt := 25) hx hb dX4_isCell_21 (by decide) ?_
      exact ri_zret hx hb hr hlocks (bp_01 _) dX4_isCell_25 ((bp_t (by omega)).symm)

theorem f_X4_isBox : MF yX4_isBox wsX4_isBox cX4_isBox 4 (some .boolean) 4 := ⟨⟨_, rfl⟩, by decide +kernel, by decide +kernel, by decide +kernel⟩
set_option maxHeartbeats 4000000 in
set_option maxRecDepth 100000 in
theorem k_X4_isBox (l : Launch) (c : Int) (r : Int) (w : Int) (h : Int) (yc : -2147483648 ≤ c ∧ c < 2147483648) (yr : -2147483648 ≤ r ∧ r < 2147483648) (yw : -2147483648 ≤ w ∧ w < 2147483648) (yh : -2147483648 ≤ h ∧ h < 2147483648) : RD l yX4_isBox wsX4_isBox ({ frames := 2, cells := 0, slots := 0, locals := 43 }) [.int (iI c), .int (iI r), .int (iI w), .int (iI h)] tB (bp (((0 ≤ c ∧ c ≤ 7) ∧ (0 ≤ r ∧ r ≤ 7)) ∧ (1 ≤ w ∧ w ≤ 8 - c) ∧ (1 ≤ h ∧ h ≤ 8 - r))) := by
  refine ri_ent (cc := cX4_isBox) (maxL := 4) (ret := some .boolean) (by decide) rfl (Nat.le_of_ble_eq_true rfl) ?_
  intro zp ze s zm zb zt zc hx hb hr hts hown hlocks hml hin hB ls hl
  have hown : s.vm.findClass RX4 = some zm.cls := hown
  have CF : CallFix zp zm zc cX4_isBox 4 s ([.int (iI c), .int (iI r), .int (iI w), .int (iI h)] : List Value).toArray wsX4_isBox RX4 := ⟨hx, hb, hml, hown, hts⟩
  have hl : lv_has ls 4 [(0, .int (iI c)), (1, .int (iI r)), (2, .int (iI w)), (3, .int (iI h))] := hl
  refine lv_iload_n hx hb dX4_isBox_0 rfl (lv_at hl 0 rfl) ?_
  refine lv_iload_n hx hb dX4_isBox_1 rfl (lv_at hl 1 rfl) ?_
  refine ri_rd (ri_runS (As := [.int (iI c), .int (iI r)]) (rest := []) CF (k_X4_isCell l c r (by omega) (by omega)) gX4_isBox_X4_isCell f_X4_isCell ⟨rfl, rfl, Nat.le_of_ble_eq_true rfl, Nat.le_of_ble_eq_true rfl, Nat.le_of_ble_eq_true rfl, Nat.le_of_ble_eq_true rfl⟩ tB_bl tB_in rfl hl.1 rfl (Nat.le_of_ble_eq_true rfl) dX4_isBox_2) ?_
  refine ri_ifeq_b (tgt := 36) hx hb dX4_isBox_5 (by decide) (fun c_1 => ?_) (fun c_1 => ?_)
  · skip
    refine ri_iconst hx hb dX4_isBox_36 ?_
    exact ri_zret hx hb hr hlocks (bp_01 _) dX4_isBox_37 ((bp_f (by omega)).symm)
  · skip
    refine lv_iload_n hx hb dX4_isBox_8 rfl (lv_at hl 2 rfl) ?_
    refine ri_iconst hx hb dX4_isBox_9 ?_
    refine ri_bipush hx hb dX4_isBox_10 (by decide) ?_
    refine lv_iload_n hx hb dX4_isBox_12 rfl (lv_at hl 0 rfl) ?_
    refine ri_isub hx hb dX4_isBox_13 ?_
    refine ri_rd (ri_runS (As := [.int (iI w), .int (iI 1), .int (iI (8 - c))]) (rest := []) CF (k_X4_in l w 1 (8 - c) (by omega) (by omega) (by omega)) gX4_isBox_X4_in f_X4_in ⟨rfl, rfl, Nat.le_of_ble_eq_true rfl, Nat.le_of_ble_eq_true rfl, Nat.le_of_ble_eq_true rfl, Nat.le_of_ble_eq_true rfl⟩ tB_bl tB_in rfl hl.1 rfl (Nat.le_of_ble_eq_true rfl) dX4_isBox_14) ?_
    refine ri_ifeq_b (tgt := 36) hx hb dX4_isBox_17 (by decide) (fun c_2 => ?_) (fun c_2 => ?_)
    · skip
      refine ri_iconst hx hb dX4_isBox_36 ?_
      exact ri_zret hx hb hr hlocks (bp_01 _) dX4_isBox_37 ((bp_f (by omega)).symm)
    · skip
      refine lv_iload_n hx hb dX4_isBox_20 rfl (lv_at hl 3 rfl) ?_
      refine ri_iconst hx hb dX4_isBox_21 ?_
      refine ri_bipush hx hb dX4_isBox_22 (by decide) ?_
      refine lv_iload_n hx hb dX4_isBox_24 rfl (lv_at hl 1 rfl) ?_
      refine ri_isub hx hb dX4_isBox_25 ?_
      refine ri_rd (ri_runS (As := [.int (iI h), .int (iI 1), .int (iI (8 - r))]) (rest := []) CF (k_X4_in l h 1 (8 - r) (by omega) (by omega) (by omega)) gX4_isBox_X4_in f_X4_in ⟨rfl, rfl, Nat.le_of_ble_eq_true rfl, Nat.le_of_ble_eq_true rfl, Nat.le_of_ble_eq_true rfl, Nat.le_of_ble_eq_true rfl⟩ tB_bl tB_in rfl hl.1 rfl (Nat.le_of_ble_eq_true rfl) dX4_isBox_26) ?_
      refine ri_ifeq_b (tgt := 36) hx hb dX4_isBox_29 (by decide) (fun c_3 => ?_) (fun c_3 => ?_)
      · skip
        refine ri_iconst hx hb dX4_isBox_36 ?_
        exact ri_zret hx hb hr hlocks (bp_01 _) dX4_isBox_37 ((bp_f (by omega)).symm)
      · skip
        refine ri_iconst hx hb dX4_isBox_32 ?_
        refine lv_goto (tgt := 37) hx hb dX4_isBox_33 (by decide) ?_
        exact ri_zret hx hb hr hlocks (bp_01 _) dX4_isBox_37 ((bp_t (by omega)).symm)

theorem f_X4_placeOf : MF yX4_placeOf wsX4_placeOf cX4_placeOf 2 (some .int) 2 := ⟨⟨_, rfl⟩, by decide +kernel, by decide +kernel, by decide +kernel⟩
set_option maxHeartbeats 4000000 in
set_option maxRecDepth 100000 in
theorem k_X4_placeOf (l : Launch) (b : Int) (t : Int) : RD l yX4_placeOf wsX4_placeOf ({ frames := 0, cells := 0, slots := 0, locals := 0 }) [.int (iI b), .int (iI t)] tB (5 * b + t) := by
  refine ri_ent (cc := cX4_placeOf) (maxL := 2) (ret := some .int) (by decide) rfl (Nat.le_of_ble_eq_true rfl) ?_
  intro zp ze s zm zb zt zc hx hb hr hts hown hlocks hml hin hB ls hl
  have hown : s.vm.findClass RX4 = some zm.cls := hown
  have CF : CallFix zp zm zc cX4_placeOf 2 s ([.int (iI b), .int (iI t)] : List Value).toArray wsX4_placeOf RX4 := ⟨hx, hb, hml, hown, hts⟩
  have hl : lv_has ls 2 [(0, .int (iI b)), (1, .int (iI t))] := hl
  refine ri_iconst hx hb dX4_placeOf_0 ?_
  refine lv_iload_n hx hb dX4_placeOf_1 rfl (lv_at hl 0 rfl) ?_
  refine ri_imul hx hb dX4_placeOf_2 ?_
  refine lv_iload_n hx hb dX4_placeOf_3 rfl (lv_at hl 1 rfl) ?_
  refine ri_iadd hx hb dX4_placeOf_4 ?_
  exact ri_iret hx hb hr hlocks dX4_placeOf_5 (by first | rfl | omega | (simp; done))

theorem f_X4_baseOf : MF yX4_baseOf wsX4_baseOf cX4_baseOf 2 (some .int) 2 := ⟨⟨_, rfl⟩, by decide +kernel, by decide +kernel, by decide +kernel⟩
set_option maxHeartbeats 4000000 in
set_option maxRecDepth 100000 in
theorem k_X4_baseOf (l : Launch) (b : Int) (t : Int) : RD l yX4_baseOf wsX4_baseOf ({ frames := 0, cells := 0, slots := 0, locals := 0 }) [.int (iI b), .int (iI t)] tB (5 * (4 + b - 1) + t) := by
  refine ri_ent (cc := cX4_baseOf) (maxL := 2) (ret := some .int) (by decide) rfl (Nat.le_of_ble_eq_true rfl) ?_
  intro zp ze s zm zb zt zc hx hb hr hts hown hlocks hml hin hB ls hl
  have hown : s.vm.findClass RX4 = some zm.cls := hown
  have CF : CallFix zp zm zc cX4_baseOf 2 s ([.int (iI b), .int (iI t)] : List Value).toArray wsX4_baseOf RX4 := ⟨hx, hb, hml, hown, hts⟩
  have hl : lv_has ls 2 [(0, .int (iI b)), (1, .int (iI t))] := hl
  refine ri_iconst hx hb dX4_baseOf_0 ?_
  refine ri_iconst hx hb dX4_baseOf_1 ?_
  refine lv_iload_n hx hb dX4_baseOf_2 rfl (lv_at hl 0 rfl) ?_
  refine ri_iadd hx hb dX4_baseOf_3 ?_
  refine ri_iconst hx hb dX4_baseOf_4 ?_
  refine ri_isub hx hb dX4_baseOf_5 ?_
  refine ri_imul hx hb dX4_baseOf_6 ?_
  refine lv_iload_n hx hb dX4_baseOf_7 rfl (lv_at hl 1 rfl) ?_
  refine ri_iadd hx hb dX4_baseOf_8 ?_
  exact ri_iret hx hb hr hlocks dX4_baseOf_9 (by first | rfl | omega | (simp; done))

theorem f_X4_size : MF yX4_size wsX4_size cX4_size 1 (some .int) 1 := ⟨⟨_, rfl⟩, by decide +kernel, by decide +kernel, by decide +kernel⟩
set_option maxHeartbeats 4000000 in
set_option maxRecDepth 100000 in
theorem k_X4_size (l : Launch) (v : Int) (yv : -100 ≤ v ∧ v ≤ 100) : RD l yX4_size wsX4_size ({ frames := 0, cells := 0, slots := 0, locals := 0 }) [.int (iI v)] tB ((v.natAbs : Int)) := by
  refine ri_ent (cc := cX4_size) (maxL := 1) (ret := some .int) (by decide) rfl (Nat.le_of_ble_eq_true rfl) ?_
  intro zp ze s zm zb zt zc hx hb hr hts hown hlocks hml hin hB ls hl
  have hown : s.vm.findClass RX4 = some zm.cls := hown
  have CF : CallFix zp zm zc cX4_size 1 s ([.int (iI v)] : List Value).toArray wsX4_size RX4 := ⟨hx, hb, hml, hown, hts⟩
  have hl : lv_has ls 1 [(0, .int (iI v))] := hl
  refine lv_iload_n hx hb dX4_size_0 rfl (lv_at hl 0 rfl) ?_
  refine ri_if_ge (tgt := 9) hx hb (by omega) dX4_size_1 (by decide) (fun c_1 => ?_) (fun c_1 => ?_)
  · skip
    refine lv_iload_n hx hb dX4_size_9 rfl (lv_at hl 0 rfl) ?_
    exact ri_iret hx hb hr hlocks dX4_size_10 (by omega)
  · skip
    refine lv_iload_n hx hb dX4_size_4 rfl (lv_at hl 0 rfl) ?_
    refine ri_ineg hx hb dX4_size_5 ?_
    refine lv_goto (tgt := 10) hx hb dX4_size_6 (by decide) ?_
    exact ri_iret hx hb hr hlocks dX4_size_10 (by omega)

theorem f_X4_thrown : MF yX4_thrown wsX4_thrown cX4_thrown 1 (some .int) 0 := ⟨⟨_, rfl⟩, by decide +kernel, by decide +kernel, by decide +kernel⟩
set_option maxHeartbeats 4000000 in
set_option maxRecDepth 100000 in
theorem k_X4_thrown (l : Launch) (D : va_G) (a : Nat → Nat) (kk : Nat → ClassId) (g : Nat → Nat → Int) : RD l yX4_thrown wsX4_thrown ({ frames := 0, cells := 0, slots := 0, locals := 0 }) [.ref (a 0)] (wB D kk (mW a kk g)) (g 0 0) := by
  refine ri_ent (cc := cX4_thrown) (maxL := 1) (ret := some .int) (by decide) rfl (Nat.le_of_ble_eq_true rfl) ?_
  intro zp ze s zm zb zt zc hx hb hr hts hown hlocks hml hin hB ls hl
  have hown : s.vm.findClass RX4 = some zm.cls := hown
  have CF : CallFix zp zm zc cX4_thrown 1 s ([.ref (a 0)] : List Value).toArray wsX4_thrown RX4 := ⟨hx, hb, hml, hown, hts⟩
  obtain ⟨hP, hK, hN⟩ := hB
  have hinX4 : ∀ w ∈ wsX40, w ∈ wsX4_thrown := (fun _ h => List.mem_cons_of_mem _ (List.mem_append_right _ h))
  have hl : lv_has ls 1 [(0, .ref (a 0))] := hl
  refine lv_aload_n hx hb dX4_thrown_0 rfl (lv_at hl 0 rfl) ?_
  refine va_get (D := D) (ci := 4) (v := .int (iI (g 0 0))) (C := RX4) (T := TX4) (N := 10) hx hb hts hinX4 hown hK hP 0 rfl rfl 0 (by decide) (hts _ (List.mem_of_getElem? (i := 1) rfl)) (fun _ h9 => h9) rfl dX4_thrown_1 ?_
  exact ri_iret hx hb hr hlocks dX4_thrown_4 (rfl)

theorem f_X4_areAlike : MF yX4_areAlike wsX4_areAlike cX4_areAlike 4 (some .boolean) 3 := ⟨⟨_, rfl⟩, by decide +kernel, by decide +kernel, by decide +kernel⟩
set_option maxHeartbeats 4000000 in
set_option maxRecDepth 100000 in
theorem k_X4_areAlike (l : Launch) (D : va_G) (a : Nat → Nat) (kk : Nat → ClassId) (g : Nat → Nat → Int) (x : Int) (y : Int) (b : Int) (yx : -1000 ≤ x ∧ x ≤ 1000) (yy : -1000 ≤ y ∧ y ≤ 1000) (yb : -1000 ≤ b ∧ b ≤ 1000) : RD l yX4_areAlike wsX4_areAlike ({ frames := 1, cells := 0, slots := 0, locals := 22 }) [.ref (a 0), .int (iI x), .int (iI y), .int (iI b)] (wB D kk (mW a kk g)) (bp (x - y ≤ b ∧ y - x ≤ b)) := by
  refine ri_ent (cc := cX4_areAlike) (maxL := 4) (ret := some .boolean) (by decide) rfl (Nat.le_of_ble_eq_true rfl) ?_
  intro zp ze s zm zb zt zc hx hb hr hts hown hlocks hml hin hB ls hl
  have hown : s.vm.findClass RX4 = some zm.cls := hown
  have CF : CallFix zp zm zc cX4_areAlike 4 s ([.ref (a 0), .int (iI x), .int (iI y), .int (iI b)] : List Value).toArray wsX4_areAlike RX4 := ⟨hx, hb, hml, hown, hts⟩
  obtain ⟨hP, hK, hN⟩ := hB
  have hl : lv_has ls 4 [(0, .ref (a 0)), (1, .int (iI x)), (2, .int (iI y)), (3, .int (iI b))] := hl
  refine lv_iload_n hx hb dX4_areAlike_0 rfl (lv_at hl 1 rfl) ?_
  refine lv_iload_n hx hb dX4_areAlike_1 rfl (lv_at hl 2 rfl) ?_
  refine ri_isub hx hb dX4_areAlike_2 ?_
  refine lv_iload_n hx hb dX4_areAlike_3 rfl (lv_at hl 3 rfl) ?_
  refine ri_ineg hx hb dX4_areAlike_4 ?_
  refine lv_iload_n hx hb dX4_areAlike_5 rfl (lv_at hl 3 rfl) ?_
  refine ri_rd (ri_runS (As := [.int (iI (x - y)), .int (iI (-b)), .int (iI b)]) (rest := []) CF (k_X4_in l (x - y) (-b) b (by omega) (by omega) (by omega)) gX4_areAlike_X4_in f_X4_in ⟨rfl, rfl, Nat.le_of_ble_eq_true rfl, Nat.le_of_ble_eq_true rfl, Nat.le_of_ble_eq_true rfl, Nat.le_of_ble_eq_true rfl⟩ tB_bl tB_in rfl hl.1 rfl (Nat.le_of_ble_eq_true rfl) dX4_areAlike_6) ?_
  exact ri_zret hx hb hr hlocks (bp_01 _) dX4_areAlike_9 (bp_c (by omega))

theorem f_X4_isWithin : MF yX4_isWithin wsX4_isWithin cX4_isWithin 5 (some .boolean) 5 := ⟨⟨_, rfl⟩, by decide +kernel, by decide +kernel, by decide +kernel⟩
set_option maxHeartbeats 4000000 in
set_option maxRecDepth 100000 in
theorem k_X4_isWithin (l : Launch) (cl : Int) (c : Int) (r : Int) (w : Int) (h : Int) (ycl : 0 ≤ cl ∧ cl ≤ 63) (yc : -100 ≤ c ∧ c ≤ 100) (yr : -100 ≤ r ∧ r ≤ 100) (yw : -100 ≤ w ∧ w ≤ 100) (yh : -100 ≤ h ∧ h ≤ 100) : RD l yX4_isWithin wsX4_isWithin ({ frames := 1, cells := 0, slots := 0, locals := 22 }) [.int (iI cl), .int (iI c), .int (iI r), .int (iI w), .int (iI h)] tB (bp ((c ≤ cl % 8 ∧ cl % 8 ≤ c + w - 1) ∧ (r ≤ cl / 8 ∧ cl / 8 ≤ r + h - 1))) := by
  refine ri_ent (cc := cX4_isWithin) (maxL := 5) (ret := some .boolean) (by decide) rfl (Nat.le_of_ble_eq_true rfl) ?_
  intro zp ze s zm zb zt zc hx hb hr hts hown hlocks hml hin hB ls hl
  have hown : s.vm.findClass RX4 = some zm.cls := hown
  have CF : CallFix zp zm zc cX4_isWithin 5 s ([.int (iI cl), .int (iI c), .int (iI r), .int (iI w), .int (iI h)] : List Value).toArray wsX4_isWithin RX4 := ⟨hx, hb, hml, hown, hts⟩
  have hl : lv_has ls 5 [(0, .int (iI cl)), (1, .int (iI c)), (2, .int (iI r)), (3, .int (iI w)), (4, .int (iI h))] := hl
  refine lv_iload_n hx hb dX4_isWithin_0 rfl (lv_at hl 0 rfl) ?_
  refine ri_bipush hx hb dX4_isWithin_1 (by decide) ?_
  refine ri_irem hx hb (by omega) dX4_isWithin_3 ?_
  refine lv_iload_n hx hb dX4_isWithin_4 rfl (lv_at hl 1 rfl) ?_
  refine lv_iload_n hx hb dX4_isWithin_5 rfl (lv_at hl 1 rfl) ?_
  refine lv_iload_n hx hb dX4_isWithin_6 rfl (lv_at hl 3 rfl) ?_
  refine ri_iadd hx hb dX4_isWithin_7 ?_
  refine ri_iconst hx hb dX4_isWithin_8 ?_
  refine ri_isub hx hb dX4_isWithin_9 ?_
  refine ri_rd (ri_runS (As := [.int (iI (cl % 8)), .int (iI c), .int (iI ((c + w) - 1))]) (rest := []) CF (k_X4_in l (cl % 8) c ((c + w) - 1) (by omega) (by omega) (by omega)) gX4_isWithin_X4_in f_X4_in ⟨rfl, rfl, Nat.le_of_ble_eq_true rfl, Nat.le_of_ble_eq_true rfl, Nat.le_of_ble_eq_true rfl, Nat.le_of_ble_eq_true rfl⟩ tB_bl tB_in rfl hl.1 rfl (Nat.le_of_ble_eq_true rfl) dX4_isWithin_10) ?_
  refine ri_ifeq_b (tgt := 37) hx hb dX4_isWithin_13 (by decide) (fun c_1 => ?_) (fun c_1 => ?_)
  · skip
    refine ri_iconst hx hb dX4_isWithin_37 ?_
    exact ri_zret hx hb hr hlocks (bp_01 _) dX4_isWithin_38 ((bp_f (by omega)).symm)
  · skip
    refine lv_iload_n hx hb dX4_isWithin_16 rfl (lv_at hl 0 rfl) ?_
    refine ri_bipush hx hb dX4_isWithin_17 (by decide) ?_
    refine ri_idiv hx hb (by omega) dX4_isWithin_19 ?_
    refine lv_iload_n hx hb dX4_isWithin_20 rfl (lv_at hl 2 rfl) ?_
    refine lv_iload_n hx hb dX4_isWithin_21 rfl (lv_at hl 2 rfl) ?_
    refine lv_iload hx hb dX4_isWithin_22 (lv_at hl 4 rfl) ?_
    refine ri_iadd hx hb dX4_isWithin_24 ?_
    refine ri_iconst hx hb dX4_isWithin_25 ?_
    refine ri_isub hx hb dX4_isWithin_26 ?_
    refine ri_rd (ri_runS (As := [.int (iI (cl / 8)), .int (iI r), .int (iI ((r + h) - 1))]) (rest := []) CF (k_X4_in l (cl / 8) r ((r + h) - 1) (by omega) (by omega) (by omega)) gX4_isWithin_X4_in f_X4_in ⟨rfl, rfl, Nat.le_of_ble_eq_true rfl, Nat.le_of_ble_eq_true rfl, Nat.le_of_ble_eq_true rfl, Nat.le_of_ble_eq_true rfl⟩ tB_bl tB_in rfl hl.1 rfl (Nat.le_of_ble_eq_true rfl) dX4_isWithin_27) ?_
    refine ri_ifeq_b (tgt := 37) hx hb dX4_isWithin_30 (by decide) (fun c_2 => ?_) (fun c_2 => ?_)
    · skip
      refine ri_iconst hx hb dX4_isWithin_37 ?_
      exact ri_zret hx hb hr hlocks (bp_01 _) dX4_isWithin_38 ((bp_f (by omega)).symm)
    · skip
      refine ri_iconst hx hb dX4_isWithin_33 ?_
      refine lv_goto (tgt := 38) hx hb dX4_isWithin_34 (by decide) ?_
      exact ri_zret hx hb hr hlocks (bp_01 _) dX4_isWithin_38 ((bp_t (by omega)).symm)

theorem f_X4_isSoft : MF yX4_isSoft wsX4_isSoft cX4_isSoft 11 (some .boolean) 4 := ⟨⟨_, rfl⟩, by decide +kernel, by decide +kernel, by decide +kernel⟩
set_option maxHeartbeats 4000000 in
set_option maxRecDepth 100000 in
theorem k_X4_isSoft (l : Launch) (D : va_G) (a : Nat → Nat) (kk : Nat → ClassId) (g : Nat → Nat → Int) (b : Int) (t : Int) (n : Int) (cl : Int) (hM : MInv g) (yb : 0 ≤ b ∧ b ≤ 3) (yt : 0 ≤ t ∧ t ≤ 4) (yn : 0 ≤ n ∧ n ≤ 255) (ycl : 0 ≤ cl ∧ cl ≤ 63) : RD l yX4_isSoft wsX4_isSoft ({ frames := 2, cells := 0, slots := 0, locals := 43 }) [.ref (a 0), .int (iI b), .int (iI t), .int (iI n), .int (iI cl)] (wB D kk (mW a kk g)) (bp (softP (px (g 1) t) (px (g 2) (5 * b + t)) n (cl % 8) (cl / 8))) := by
  refine ri_ent (cc := cX4_isSoft) (maxL := 11) (ret := some .boolean) (by decide) rfl (Nat.le_of_ble_eq_true rfl) ?_
  intro zp ze s zm zb zt zc hx hb hr hts hown hlocks hml hin hB ls hl
  have hown : s.vm.findClass RX4 = some zm.cls := hown
  have CF : CallFix zp zm zc cX4_isSoft 11 s ([.ref (a 0), .int (iI b), .int (iI t), .int (iI n), .int (iI cl)] : List Value).toArray wsX4_isSoft RX4 := ⟨hx, hb, hml, hown, hts⟩
  obtain ⟨hP, hK, hN⟩ := hB
  have hinX4 : ∀ w ∈ wsX40, w ∈ wsX4_isSoft := (fun _ h => List.mem_cons_of_mem _ (List.mem_append_right _ h))
  have hl : lv_has ls 11 [(0, .ref (a 0)), (1, .int (iI b)), (2, .int (iI t)), (3, .int (iI n)), (4, .int (iI cl))] := hl
  refine ri_sipush hx hb dX4_isSoft_0 (by decide) ?_
  refine lv_istore (lv' := [(5, .int (iI 255)), (0, .ref (a 0)), (1, .int (iI b)), (2, .int (iI t)), (3, .int (iI n)), (4, .int (iI cl))]) hx hb dX4_isSoft_3 hl (by decide) rfl (fun ls hl => ?_)
  refine ri_iconst hx hb dX4_isSoft_5 ?_
  refine lv_istore (lv' := [(6, .int (iI 0)), (5, .int (iI 255)), (0, .ref (a 0)), (1, .int (iI b)), (2, .int (iI t)), (3, .int (iI n)), (4, .int (iI cl))]) hx hb dX4_isSoft_6 hl (by decide) rfl (fun ls hl => ?_)
  refine ri_iconst hx hb dX4_isSoft_8 ?_
  refine lv_istore (lv' := [(7, .int (iI 0)), (6, .int (iI 0)), (5, .int (iI 255)), (0, .ref (a 0)), (1, .int (iI b)), (2, .int (iI t)), (3, .int (iI n)), (4, .int (iI cl))]) hx hb dX4_isSoft_9 hl (by decide) rfl (fun ls hl => ?_)
  have L11 : ∀ (n11 : Nat) (lo : Int) (gr : Int) (k : Int), (0 ≤ k ∧ k ≤ 9) → (accP (px (g 1) t) (cl % 8) (cl / 8) lo gr (fun c1 r1 => 3 * (r1 - cl / 8 + 1) + (c1 - cl % 8 + 1) < k)) → ((9 - k).toNat < n11) → ∀ (ls : Array Slot), lv_has ls 11 [(0, .ref (a 0)), (1, .int (iI b)), (2, .int (iI t)), (3, .int (iI n)), (4, .int (iI cl)), (5, .int (iI lo)), (6, .int (iI gr)), (7, .int (iI k))] → W zp l ze ({ frames := 2, cells := 0, slots := 0, locals := 43 }) s zm ([.ref (a 0), .int (iI b), .int (iI t), .int (iI n), .int (iI cl)] : List Value).toArray zb zt zc s.heap [] 0 0 (MQ zb (vp_Si (fun r9 => r9 = iI (bp (softP (px (g 1) t) (px (g 2) (5 * b + t)) n (cl % 8) (cl / 8))))) ([.ref (a 0), .int (iI b), .int (iI t), .int (iI n), .int (iI cl)] : List Value).toArray s 0 0 (fun _ => False)) (F0 zm 11 ls []) := by
    intro n11
    induction n11 with
    | zero => intro lo gr k hk hacc hm; exact absurd hm (Nat.not_lt_zero _)
    | succ n11 ih11 =>
      intro lo gr k hk hacc hm11 ls hl
      have hab := hacc.1
      have hab2 := hacc.2.1
      refine lv_iload hx hb dX4_isSoft_11 (lv_at hl 7 rfl) ?_
      refine ri_bipush hx hb dX4_isSoft_13 (by decide) ?_
      refine ri_icmp_ge (tgt := 114) hx hb (by omega) dX4_isSoft_15 (by decide) (fun h15 => ?_) (fun h15 => ?_)
      · skip
        have hE := acc_e (Q := (px (g 2) (5 * b + t))) (b := n) hacc (fun c1 r1 i => by show 3 * (r1 - cl / 8 + 1) + (c1 - cl % 8 + 1) < k; unfold isNb at i; omega) (by omega) (hM.1 (t * 64 + cl / 8 * 8 + cl % 8).toNat (by omega)) (by omega)
        have hab := hacc.1
        have hab2 := hacc.2.1
        refine lv_iload hx hb dX4_isSoft_114 (lv_at hl 6 rfl) ?_
        refine lv_iload hx hb dX4_isSoft_116 (lv_at hl 5 rfl) ?_
        refine ri_isub hx hb dX4_isSoft_118 ?_
        refine lv_iload_n hx hb dX4_isSoft_119 rfl (lv_at hl 3 rfl) ?_
        refine ri_icmp_le (tgt := 153) hx hb (by omega) dX4_isSoft_120 (by decide) (fun h120 => ?_) (fun h120 => ?_)
        · skip
          refine ri_iconst hx hb dX4_isSoft_153 ?_
          exact ri_zret hx hb hr hlocks (bp_01 _) dX4_isSoft_154 ((bp_f (fun q => absurd (hE.mp q) (by omega))).symm)
        · skip
          refine lv_aload_n hx hb dX4_isSoft_123 rfl (lv_at hl 0 rfl) ?_
          refine va_get (D := D) (ci := 4) (v := .ref (a 2)) (C := RX4) (T := TX4) (N := 10) hx hb hts hinX4 hown hK hP 0 rfl rfl 2 (by decide) (hts _ (List.mem_of_getElem? (i := 2) rfl)) (fun _ h9 => h9) rfl dX4_isSoft_124 ?_
          refine ri_bipush hx hb dX4_isSoft_127 (by decide) ?_
          refine lv_iload_n hx hb dX4_isSoft_129 rfl (lv_at hl 1 rfl) ?_
          refine lv_iload_n hx hb dX4_isSoft_130 rfl (lv_at hl 2 rfl) ?_
          refine ri_rd (ri_runS (As := [.int (iI b), .int (iI t)]) (rest := [.int (iI 64), .ref (a 2)]) CF (k_X4_placeOf l b t) gX4_isSoft_X4_placeOf f_X4_placeOf ⟨rfl, rfl, Nat.le_of_ble_eq_true rfl, Nat.le_of_ble_eq_true rfl, Nat.le_of_ble_eq_true rfl, Nat.le_of_ble_eq_true rfl⟩ tB_bl tB_in rfl hl.1 rfl (Nat.le_of_ble_eq_true rfl) dX4_isSoft_131) ?_
          refine ri_imul hx hb dX4_isSoft_134 ?_
          refine lv_iload hx hb dX4_isSoft_135 (lv_at hl 4 rfl) ?_
          refine ri_iadd hx hb dX4_isSoft_137 ?_
          refine ri_iald hx hb hK hP 2 0 rfl rfl (by omega) (by decide) dX4_isSoft_138 ?_
          have x_1 : 0 ≤ px (g 2) (5 * b + t) (cl % 8) (cl / 8) ∧ px (g 2) (5 * b + t) (cl % 8) (cl / 8) ≤ 255 := hM.2.1 ((5 * b + t) * 64 + (cl / 8) * 8 + (cl % 8)).toNat (by omega)
          refine ri_eq (y := px (g 2) (5 * b + t) (cl % 8) (cl / 8)) (by show g 2 _ = g 2 ((5 * b + t) * 64 + (cl / 8) * 8 + (cl % 8)).toNat; congr 1; omega) ?_
          refine lv_iload hx hb dX4_isSoft_139 (lv_at hl 5 rfl) ?_
          refine lv_iload hx hb dX4_isSoft_141 (lv_at hl 6 rfl) ?_
          refine ri_rd (ri_runS (As := [.int (iI (px (g 2) (5 * b + t) (cl % 8) (cl / 8))), .int (iI lo), .int (iI gr)]) (rest := []) CF (k_X4_in l (px (g 2) (5 * b + t) (cl % 8) (cl / 8)) lo gr (by omega) (by omega) (by omega)) gX4_isSoft_X4_in f_X4_in ⟨rfl, rfl, Nat.le_of_ble_eq_true rfl, Nat.le_of_ble_eq_true rfl, Nat.le_of_ble_eq_true rfl, Nat.le_of_ble_eq_true rfl⟩ tB_bl tB_in rfl hl.1 rfl (Nat.le_of_ble_eq_true rfl) dX4_isSoft_143) ?_
          refine ri_ifeq_b (tgt := 153) hx hb dX4_isSoft_146 (by decide) (fun h146 => ?_) (fun h146 => ?_)
          · skip
            refine ri_iconst hx hb dX4_isSoft_153 ?_
            exact ri_zret hx hb hr hlocks (bp_01 _) dX4_isSoft_154 ((bp_f (fun q => h146 (hE.mp q).2)).symm)
          · skip
            refine ri_iconst hx hb dX4_isSoft_149 ?_
            refine lv_goto (tgt := 154) hx hb dX4_isSoft_150 (by decide) ?_
            exact ri_zret hx hb hr hlocks (bp_01 _) dX4_isSoft_154 ((bp_t (hE.mpr ⟨by omega, h146⟩)).symm)
      · skip
        refine lv_iload hx hb dX4_isSoft_18 (lv_at hl 4 rfl) ?_
        refine ri_bipush hx hb dX4_isSoft_20 (by decide) ?_
        refine ri_irem hx hb (by omega) dX4_isSoft_22 ?_
        refine lv_iload hx hb dX4_isSoft_23 (lv_at hl 7 rfl) ?_
        refine ri_iconst hx hb dX4_isSoft_25 ?_
        refine ri_irem hx hb (by omega) dX4_isSoft_26 ?_
        refine ri_iadd hx hb dX4_isSoft_27 ?_
        refine ri_iconst hx hb dX4_isSoft_28 ?_
        refine ri_isub hx hb dX4_isSoft_29 ?_
        refine lv_istore (lv' := [(8, .int (iI (((cl % 8) + (k % 3)) - 1))), (0, .ref (a 0)), (1, .int (iI b)), (2, .int (iI t)), (3, .int (iI n)), (4, .int (iI cl)), (5, .int (iI lo)), (6, .int (iI gr)), (7, .int (iI k))]) hx hb dX4_isSoft_30 hl (by decide) rfl (fun ls hl => ?_)
        refine lv_iload hx hb dX4_isSoft_32 (lv_at hl 5 rfl) ?_
        refine ri_bipush hx hb dX4_isSoft_34 (by decide) ?_
        refine ri_idiv hx hb (by omega) dX4_isSoft_36 ?_
        refine lv_iload hx hb dX4_isSoft_37 (lv_at hl 8 rfl) ?_
        refine ri_iconst hx hb dX4_isSoft_39 ?_
        refine ri_idiv hx hb (by omega) dX4_isSoft_40 ?_
        refine ri_iadd hx hb dX4_isSoft_41 ?_
        refine ri_iconst hx hb dX4_isSoft_42 ?_
        refine ri_isub hx hb dX4_isSoft_43 ?_
        refine lv_istore (lv' := [(9, .int (iI (((cl / 8) + (k / 3)) - 1))), (8, .int (iI (((cl % 8) + (k % 3)) - 1))), (0, .ref (a 0)), (1, .int (iI b)), (2, .int (iI t)), (3, .int (iI n)), (4, .int (iI cl)), (5, .int (iI lo)), (6, .int (iI gr)), (7, .int (iI k))]) hx hb dX4_isSoft_44 hl (by decide) rfl (fun ls hl => ?_)
        refine lv_iload hx hb dX4_isSoft_46 (lv_at hl 1 rfl) ?_
        refine lv_iload hx hb dX4_isSoft_48 (lv_at hl 0 rfl) ?_
        refine ri_rd (ri_runS (As := [.int (iI (((cl % 8) + (k % 3)) - 1)), .int (iI (((cl / 8) + (k / 3)) - 1))]) (rest := []) CF (k_X4_isCell l (((cl % 8) + (k % 3)) - 1) (((cl / 8) + (k / 3)) - 1) (by omega) (by omega)) gX4_isSoft_X4_isCell f_X4_isCell ⟨rfl, rfl, Nat.le_of_ble_eq_true rfl, Nat.le_of_ble_eq_true rfl, Nat.le_of_ble_eq_true rfl, Nat.le_of_ble_eq_true rfl⟩ tB_bl tB_in rfl hl.1 rfl (Nat.le_of_ble_eq_true rfl) dX4_isSoft_50) ?_
        refine ri_ifeq_b (tgt := 108) hx hb dX4_isSoft_53 (by decide) (fun h53 => ?_) (fun h53 => ?_)
        · skip
          refine ri_iinc (lv' := [(7, .int (iI (k + 1))), (9, .int (iI (((cl / 8) + (k / 3)) - 1))), (8, .int (iI (((cl % 8) + (k % 3)) - 1))), (0, .ref (a 0)), (1, .int (iI b)), (2, .int (iI t)), (3, .int (iI n)), (4, .int (iI cl)), (5, .int (iI lo)), (6, .int (iI gr))]) hx hb dX4_isSoft_108 hl (k := 9) rfl (by decide) rfl (fun ls hl => ?_)
          refine lv_goto (tgt := 11) hx hb dX4_isSoft_111 (by decide) ?_
          exact ih11 (lo) (gr) (k + 1) (by omega) (acc_w hacc (fun c1 r1 i v => by have v2 : 3 * (r1 - cl / 8 + 1) + (c1 - cl % 8 + 1) < k + 1 := v; show 3 * (r1 - cl / 8 + 1) + (c1 - cl % 8 + 1) < k; unfold isNb at i; omega)) (by omega) ls (lv_sub hl [3, 4, 5, 6, 7, 8, 9, 0] rfl)
        · skip
          refine lv_aload_n hx hb dX4_isSoft_56 rfl (lv_at hl 2 rfl) ?_
          refine va_get (D := D) (ci := 4) (v := .ref (a 1)) (C := RX4) (T := TX4) (N := 10) hx hb hts hinX4 hown hK hP 0 rfl rfl 1 (by decide) (hts _ (List.mem_of_getElem? (i := 1) rfl)) (fun _ h9 => h9) rfl dX4_isSoft_57 ?_
          refine ri_bipush hx hb dX4_isSoft_60 (by decide) ?_
          refine lv_iload_n hx hb dX4_isSoft_62 rfl (lv_at hl 4 rfl) ?_
          refine ri_imul hx hb dX4_isSoft_63 ?_
          refine ri_bipush hx hb dX4_isSoft_64 (by decide) ?_
          refine lv_iload hx hb dX4_isSoft_66 (lv_at hl 0 rfl) ?_
          refine ri_imul hx hb dX4_isSoft_68 ?_
          refine ri_iadd hx hb dX4_isSoft_69 ?_
          refine lv_iload hx hb dX4_isSoft_70 (lv_at hl 1 rfl) ?_
          refine ri_iadd hx hb dX4_isSoft_72 ?_
          refine ri_iald hx hb hK hP 1 0 rfl rfl (by omega) (by decide) dX4_isSoft_73 ?_
          have x_2 : 0 ≤ px (g 1) t (cl % 8 + k % 3 - 1) (cl / 8 + k / 3 - 1) ∧ px (g 1) t (cl % 8 + k % 3 - 1) (cl / 8 + k / 3 - 1) ≤ 255 := hM.1 (t * 64 + (cl / 8 + k / 3 - 1) * 8 + (cl % 8 + k % 3 - 1)).toNat (by omega)
          refine ri_eq (y := px (g 1) t (cl % 8 + k % 3 - 1) (cl / 8 + k / 3 - 1)) (by show g 1 _ = g 1 (t * 64 + (cl / 8 + k / 3 - 1) * 8 + (cl % 8 + k % 3 - 1)).toNat; congr 1; omega) ?_
          refine lv_istore (lv' := [(10, .int (iI (px (g 1) t (cl % 8 + k % 3 - 1) (cl / 8 + k / 3 - 1)))), (9, .int (iI (((cl / 8) + (k / 3)) - 1))), (8, .int (iI (((cl % 8) + (k % 3)) - 1))), (0, .ref (a 0)), (1, .int (iI b)), (2, .int (iI t)), (3, .int (iI n)), (4, .int (iI cl)), (5, .int (iI lo)), (6, .int (iI gr)), (7, .int (iI k))]) hx hb dX4_isSoft_74 hl (by decide) rfl (fun ls hl => ?_)
          refine lv_iload hx hb dX4_isSoft_76 (lv_at hl 0 rfl) ?_
          refine lv_iload hx hb dX4_isSoft_78 (lv_at hl 8 rfl) ?_
          refine ri_icmp_ge (tgt := 88) hx hb (by omega) dX4_isSoft_80 (by decide) (fun h80 => ?_) (fun h80 => ?_)
          · skip
            refine lv_iload hx hb dX4_isSoft_88 (lv_at hl 8 rfl) ?_
            refine lv_istore (lv' := [(5, .int (iI lo)), (10, .int (iI (px (g 1) t (cl % 8 + k % 3 - 1) (cl / 8 + k / 3 - 1)))), (9, .int (iI (((cl / 8) + (k / 3)) - 1))), (8, .int (iI (((cl % 8) + (k % 3)) - 1))), (0, .ref (a 0)), (1, .int (iI b)), (2, .int (iI t)), (3, .int (iI n)), (4, .int (iI cl)), (6, .int (iI gr)), (7, .int (iI k))]) hx hb dX4_isSoft_90 hl (by decide) rfl (fun ls hl => ?_)
            refine lv_iload hx hb dX4_isSoft_92 (lv_at hl 1 rfl) ?_
            refine lv_iload hx hb dX4_isSoft_94 (lv_at hl 9 rfl) ?_
            refine ri_icmp_le (tgt := 104) hx hb (by omega) dX4_isSoft_96 (by decide) (fun h96 => ?_) (fun h96 => ?_)
            · skip
              refine lv_iload hx hb dX4_isSoft_104 (lv_at hl 9 rfl) ?_
              refine lv_istore (lv' := [(6, .int (iI gr)), (5, .int (iI lo)), (10, .int (iI (px (g 1) t (cl % 8 + k % 3 - 1) (cl / 8 + k / 3 - 1)))), (9, .int (iI (((cl / 8) + (k / 3)) - 1))), (8, .int (iI (((cl % 8) + (k % 3)) - 1))), (0, .ref (a 0)), (1, .int (iI b)), (2, .int (iI t)), (3, .int (iI n)), (4, .int (iI cl)), (7, .int (iI k))]) hx hb dX4_isSoft_106 hl (by decide) rfl (fun ls hl => ?_)
              refine ri_iinc (lv' := [(7, .int (iI (k + 1))), (6, .int (iI gr)), (5, .int (iI lo)), (10, .int (iI (px (g 1) t (cl % 8 + k % 3 - 1) (cl / 8 + k / 3 - 1)))), (9, .int (iI (((cl / 8) + (k / 3)) - 1))), (8, .int (iI (((cl % 8) + (k % 3)) - 1))), (0, .ref (a 0)), (1, .int (iI b)), (2, .int (iI t)), (3, .int (iI n)), (4, .int (iI cl))]) hx hb dX4_isSoft_108 hl (k := 10) rfl (by decide) rfl (fun ls hl => ?_)
              refine lv_goto (tgt := 11) hx hb dX4_isSoft_111 (by decide) ?_
              exact ih11 (lo) (gr) (k + 1) (by omega) (acc_s hacc (c0 := (cl % 8 + k % 3 - 1)) (r0 := (cl / 8 + k / 3 - 1)) (by unfold isNb; omega) (by omega) (by omega) (by omega) (fun c1 r1 i v => by have v2 : 3 * (r1 - cl / 8 + 1) + (c1 - cl % 8 + 1) < k + 1 := v; show 3 * (r1 - cl / 8 + 1) + (c1 - cl % 8 + 1) < k ∨ (c1 = _ ∧ r1 = _); unfold isNb at i; omega)) (by omega) ls (lv_sub hl [6, 7, 8, 9, 10, 2, 1, 0] rfl)
            · skip
              refine lv_iload hx hb dX4_isSoft_99 (lv_at hl 1 rfl) ?_
              refine lv_goto (tgt := 106) hx hb dX4_isSoft_101 (by decide) ?_
              refine lv_istore (lv' := [(6, .int (iI (px (g 1) t (cl % 8 + k % 3 - 1) (cl / 8 + k / 3 - 1)))), (5, .int (iI lo)), (10, .int (iI (px (g 1) t (cl % 8 + k % 3 - 1) (cl / 8 + k / 3 - 1)))), (9, .int (iI (((cl / 8) + (k / 3)) - 1))), (8, .int (iI (((cl % 8) + (k % 3)) - 1))), (0, .ref (a 0)), (1, .int (iI b)), (2, .int (iI t)), (3, .int (iI n)), (4, .int (iI cl)), (7, .int (iI k))]) hx hb dX4_isSoft_106 hl (by decide) rfl (fun ls hl => ?_)
              refine ri_iinc (lv' := [(7, .int (iI (k + 1))), (6, .int (iI (px (g 1) t (cl % 8 + k % 3 - 1) (cl / 8 + k / 3 - 1)))), (5, .int (iI lo)), (10, .int (iI (px (g 1) t (cl % 8 + k % 3 - 1) (cl / 8 + k / 3 - 1)))), (9, .int (iI (((cl / 8) + (k / 3)) - 1))), (8, .int (iI (((cl % 8) + (k % 3)) - 1))), (0, .ref (a 0)), (1, .int (iI b)), (2, .int (iI t)), (3, .int (iI n)), (4, .int (iI cl))]) hx hb dX4_isSoft_108 hl (k := 10) rfl (by decide) rfl (fun ls hl => ?_)
              refine lv_goto (tgt := 11) hx hb dX4_isSoft_111 (by decide) ?_
              exact ih11 (lo) (px (g 1) t (cl % 8 + k % 3 - 1) (cl / 8 + k / 3 - 1)) (k + 1) (by omega) (acc_s hacc (c0 := (cl % 8 + k % 3 - 1)) (r0 := (cl / 8 + k / 3 - 1)) (by unfold isNb; omega) (by omega) (by omega) (by omega) (fun c1 r1 i v => by have v2 : 3 * (r1 - cl / 8 + 1) + (c1 - cl % 8 + 1) < k + 1 := v; show 3 * (r1 - cl / 8 + 1) + (c1 - cl % 8 + 1) < k ∨ (c1 = _ ∧ r1 = _); unfold isNb at i; omega)) (by omega) ls (lv_sub hl [6, 7, 8, 9, 10, 2, 1, 0] rfl)
          · skip
            refine lv_iload hx hb dX4_isSoft_83 (lv_at hl 0 rfl) ?_
            refine lv_goto (tgt := 90) hx hb dX4_isSoft_85 (by decide) ?_
            refine lv_istore (lv' := [(5, .int (iI (px (g 1) t (cl % 8 + k % 3 - 1) (cl / 8 + k / 3 - 1)))), (10, .int (iI (px (g 1) t (cl % 8 + k % 3 - 1) (cl / 8 + k / 3 - 1)))), (9, .int (iI (((cl / 8) + (k / 3)) - 1))), (8, .int (iI (((cl % 8) + (k % 3)) - 1))), (0, .ref (a 0)), (1, .int (iI b)), (2, .int (iI t)), (3, .int (iI n)), (4, .int (iI cl)), (6, .int (iI gr)), (7, .int (iI k))]) hx hb dX4_isSoft_90 hl (by decide) rfl (fun ls hl => ?_)
            refine lv_iload hx hb dX4_isSoft_92 (lv_at hl 1 rfl) ?_
            refine lv_iload hx hb dX4_isSoft_94 (lv_at hl 9 rfl) ?_
            refine ri_icmp_le (tgt := 104) hx hb (by omega) dX4_isSoft_96 (by decide) (fun h96 => ?_) (fun h96 => ?_)
            · skip
              refine lv_iload hx hb dX4_isSoft_104 (lv_at hl 9 rfl) ?_
              refine lv_istore (lv' := [(6, .int (iI gr)), (5, .int (iI (px (g 1) t (cl % 8 + k % 3 - 1) (cl / 8 + k / 3 - 1)))), (10, .int (iI (px (g 1) t (cl % 8 + k % 3 - 1) (cl / 8 + k / 3 - 1)))), (9, .int (iI (((cl / 8) + (k / 3)) - 1))), (8, .int (iI (((cl % 8) + (k % 3)) - 1))), (0, .ref (a 0)), (1, .int (iI b)), (2, .int (iI t)), (3, .int (iI n)), (4, .int (iI cl)), (7, .int (iI k))]) hx hb dX4_isSoft_106 hl (by decide) rfl (fun ls hl => ?_)
              refine ri_iinc (lv' := [(7, .int (iI (k + 1))), (6, .int (iI gr)), (5, .int (iI (px (g 1) t (cl % 8 + k % 3 - 1) (cl / 8 + k / 3 - 1)))), (10, .int (iI (px (g 1) t (cl % 8 + k % 3 - 1) (cl / 8 + k / 3 - 1)))), (9, .int (iI (((cl / 8) + (k / 3)) - 1))), (8, .int (iI (((cl % 8) + (k % 3)) - 1))), (0, .ref (a 0)), (1, .int (iI b)), (2, .int (iI t)), (3, .int (iI n)), (4, .int (iI cl))]) hx hb dX4_isSoft_108 hl (k := 10) rfl (by decide) rfl (fun ls hl => ?_)
              refine lv_goto (tgt := 11) hx hb dX4_isSoft_111 (by decide) ?_
              exact ih11 (px (g 1) t (cl % 8 + k % 3 - 1) (cl / 8 + k / 3 - 1)) (gr) (k + 1) (by omega) (acc_s hacc (c0 := (cl % 8 + k % 3 - 1)) (r0 := (cl / 8 + k / 3 - 1)) (by unfold isNb; omega) (by omega) (by omega) (by omega) (fun c1 r1 i v => by have v2 : 3 * (r1 - cl / 8 + 1) + (c1 - cl % 8 + 1) < k + 1 := v; show 3 * (r1 - cl / 8 + 1) + (c1 - cl % 8 + 1) < k ∨ (c1 = _ ∧ r1 = _); unfold isNb at i; omega)) (by omega) ls (lv_sub hl [6, 7, 8, 9, 10, 2, 1, 0] rfl)
            · skip
              refine lv_iload hx hb dX4_isSoft_99 (lv_at hl 1 rfl) ?_
              refine lv_goto (tgt := 106) hx hb dX4_isSoft_101 (by decide) ?_
              refine lv_istore (lv' := [(6, .int (iI (px (g 1) t (cl % 8 + k % 3 - 1) (cl / 8 + k / 3 - 1)))), (5, .int (iI (px (g 1) t (cl % 8 + k % 3 - 1) (cl / 8 + k / 3 - 1)))), (10, .int (iI (px (g 1) t (cl % 8 + k % 3 - 1) (cl / 8 + k / 3 - 1)))), (9, .int (iI (((cl / 8) + (k / 3)) - 1))), (8, .int (iI (((cl % 8) + (k % 3)) - 1))), (0, .ref (a 0)), (1, .int (iI b)), (2, .int (iI t)), (3, .int (iI n)), (4, .int (iI cl)), (7, .int (iI k))]) hx hb dX4_isSoft_106 hl (by decide) rfl (fun ls hl => ?_)
              refine ri_iinc (lv' := [(7, .int (iI (k + 1))), (6, .int (iI (px (g 1) t (cl % 8 + k % 3 - 1) (cl / 8 + k / 3 - 1)))), (5, .int (iI (px (g 1) t (cl % 8 + k % 3 - 1) (cl / 8 + k / 3 - 1)))), (10, .int (iI (px (g 1) t (cl % 8 + k % 3 - 1) (cl / 8 + k / 3 - 1)))), (9, .int (iI (((cl / 8) + (k / 3)) - 1))), (8, .int (iI (((cl % 8) + (k % 3)) - 1))), (0, .ref (a 0)), (1, .int (iI b)), (2, .int (iI t)), (3, .int (iI n)), (4, .int (iI cl))]) hx hb dX4_isSoft_108 hl (k := 10) rfl (by decide) rfl (fun ls hl => ?_)
              refine lv_goto (tgt := 11) hx hb dX4_isSoft_111 (by decide) ?_
              exact ih11 (px (g 1) t (cl % 8 + k % 3 - 1) (cl / 8 + k / 3 - 1)) (px (g 1) t (cl % 8 + k % 3 - 1) (cl / 8 + k / 3 - 1)) (k + 1) (by omega) (acc_s hacc (c0 := (cl % 8 + k % 3 - 1)) (r0 := (cl / 8 + k / 3 - 1)) (by unfold isNb; omega) (by omega) (by omega) (by omega) (fun c1 r1 i v => by have v2 : 3 * (r1 - cl / 8 + 1) + (c1 - cl % 8 + 1) < k + 1 := v; show 3 * (r1 - cl / 8 + 1) + (c1 - cl % 8 + 1) < k ∨ (c1 = _ ∧ r1 = _); unfold isNb at i; omega)) (by omega) ls (lv_sub hl [6, 7, 8, 9, 10, 2, 1, 0] rfl)
  exact L11 10 (255) (0) (0) (by omega) (acc_0 _ _ _ (fun c1 r1 i v => by have v2 : 3 * (r1 - cl / 8 + 1) + (c1 - cl % 8 + 1) < 0 := v; unfold isNb at i; omega)) (by decide) ls (lv_sub hl [3, 4, 5, 6, 7, 2, 1, 0] rfl)

theorem f_X4_fits : MF yX4_fits wsX4_fits cX4_fits 13 (some .boolean) 5 := ⟨⟨_, rfl⟩, by decide +kernel, by decide +kernel, by decide +kernel⟩
set_option maxHeartbeats 4000000 in
set_option maxRecDepth 100000 in
theorem k_X4_fits (l : Launch) (D : va_G) (a : Nat → Nat) (kk : Nat → ClassId) (g : Nat → Nat → Int) (b : Int) (t : Int) (n : Int) (dc : Int) (dr : Int) (hM : MInv g) (yb : 0 ≤ b ∧ b ≤ 3) (yt : 0 ≤ t ∧ t ≤ 4) (yn : 0 ≤ n ∧ n ≤ 255) (ydc : -2 ≤ dc ∧ dc ≤ 2) (ydr : -2 ≤ dr ∧ dr ≤ 2) : RD l yX4_fits wsX4_fits ({ frames := 2, cells := 0, slots := 0, locals := 45 }) [.ref (a 0), .int (iI b), .int (iI t), .int (iI n), .int (iI dc), .int (iI dr)] (wB D kk (mW a kk g)) (bp (fitP (px (g 1) t) (px (g 2) (5 * b + t)) n (g 4 (4 * t).toNat) (g 4 (4 * t + 1).toNat) (g 4 (4 * t).toNat + g 4 (4 * t + 2).toNat) (g 4 (4 * t + 1).toNat + g 4 (4 * t + 3).toNat) dc dr)) := by
  refine ri_ent (cc := cX4_fits) (maxL := 13) (ret := some .boolean) (by decide) rfl (Nat.le_of_ble_eq_true rfl) ?_
  intro zp ze s zm zb zt zc hx hb hr hts hown hlocks hml hin hB ls hl
  have hown : s.vm.findClass RX4 = some zm.cls := hown
  have CF : CallFix zp zm zc cX4_fits 13 s ([.ref (a 0), .int (iI b), .int (iI t), .int (iI n), .int (iI dc), .int (iI dr)] : List Value).toArray wsX4_fits RX4 := ⟨hx, hb, hml, hown, hts⟩
  obtain ⟨hP, hK, hN⟩ := hB
  have hinX4 : ∀ w ∈ wsX40, w ∈ wsX4_fits := (fun _ h => List.mem_cons_of_mem _ (List.mem_append_right _ h))
  have hl : lv_has ls 13 [(0, .ref (a 0)), (1, .int (iI b)), (2, .int (iI t)), (3, .int (iI n)), (4, .int (iI dc)), (5, .int (iI dr))] := hl
  have hpm := hM.2.2.2.1 t (by omega)
  refine ri_iconst hx hb dX4_fits_0 ?_
  refine lv_istore (lv' := [(6, .int (iI 1)), (0, .ref (a 0)), (1, .int (iI b)), (2, .int (iI t)), (3, .int (iI n)), (4, .int (iI dc)), (5, .int (iI dr))]) hx hb dX4_fits_1 hl (by decide) rfl (fun ls hl => ?_)
  refine lv_aload_n hx hb dX4_fits_3 rfl (lv_at hl 1 rfl) ?_
  refine va_get (D := D) (ci := 4) (v := .ref (a 4)) (C := RX4) (T := TX4) (N := 10) hx hb hts hinX4 hown hK hP 0 rfl rfl 4 (by decide) (hts _ (List.mem_of_getElem? (i := 1) rfl)) (fun _ h9 => h9) rfl dX4_fits_4 ?_
  refine ri_iconst hx hb dX4_fits_7 ?_
  refine lv_iload_n hx hb dX4_fits_8 rfl (lv_at hl 3 rfl) ?_
  refine ri_imul hx hb dX4_fits_9 ?_
  refine ri_iconst hx hb dX4_fits_10 ?_
  refine ri_iadd hx hb dX4_fits_11 ?_
  refine ri_iald hx hb hK hP 4 0 rfl rfl (by omega) (by decide) dX4_fits_12 ?_
  refine lv_istore (lv' := [(7, .int (iI (g 4 ((4 * t) + 2).toNat))), (6, .int (iI 1)), (0, .ref (a 0)), (1, .int (iI b)), (2, .int (iI t)), (3, .int (iI n)), (4, .int (iI dc)), (5, .int (iI dr))]) hx hb dX4_fits_13 hl (by decide) rfl (fun ls hl => ?_)
  refine ri_iconst hx hb dX4_fits_15 ?_
  refine lv_istore (lv' := [(8, .int (iI 0)), (7, .int (iI (g 4 ((4 * t) + 2).toNat))), (6, .int (iI 1)), (0, .ref (a 0)), (1, .int (iI b)), (2, .int (iI t)), (3, .int (iI n)), (4, .int (iI dc)), (5, .int (iI dr))]) hx hb dX4_fits_16 hl (by decide) rfl (fun ls hl => ?_)
  have L18 : ∀ (n18 : Nat) (dd : Int) (k : Int), (0 ≤ k ∧ k ≤ g 4 (4 * t + 2).toNat * g 4 (4 * t + 3).toNat) → (dd = bp (fitK (px (g 1) t) (px (g 2) (5 * b + t)) n (g 4 (4 * t).toNat) (g 4 (4 * t + 1).toNat) (g 4 (4 * t + 2).toNat) dc dr k)) → ((64 - k).toNat < n18) → ∀ (ls : Array Slot), lv_has ls 13 [(0, .ref (a 0)), (1, .int (iI b)), (2, .int (iI t)), (3, .int (iI n)), (4, .int (iI dc)), (5, .int (iI dr)), (6, .int (iI dd)), (7, .int (iI (g 4 ((4 * t) + 2).toNat))), (8, .int (iI k))] → W zp l ze ({ frames := 2, cells := 0, slots := 0, locals := 45 }) s zm ([.ref (a 0), .int (iI b), .int (iI t), .int (iI n), .int (iI dc), .int (iI dr)] : List Value).toArray zb zt zc s.heap [] 0 0 (MQ zb (vp_Si (fun r9 => r9 = iI (bp (fitP (px (g 1) t) (px (g 2) (5 * b + t)) n (g 4 (4 * t).toNat) (g 4 (4 * t + 1).toNat) (g 4 (4 * t).toNat + g 4 (4 * t + 2).toNat) (g 4 (4 * t + 1).toNat + g 4 (4 * t + 3).toNat) dc dr)))) ([.ref (a 0), .int (iI b), .int (iI t), .int (iI n), .int (iI dc), .int (iI dr)] : List Value).toArray s 0 0 (fun _ => False)) (F0 zm 18 ls []) := by
    intro n18
    induction n18 with
    | zero => intro dd k hk hdd hm; exact absurd hm (Nat.not_lt_zero _)
    | succ n18 ih18 =>
      intro dd k hk hdd hm18 ls hl
      have hwh := mul88 (w := g 4 (4 * t + 2).toNat) (h := g 4 (4 * t + 3).toNat) (by omega) (by omega)
      have hdr := bp_r (fitK (px (g 1) t) (px (g 2) (5 * b + t)) n (g 4 (4 * t).toNat) (g 4 (4 * t + 1).toNat) (g 4 (4 * t + 2).toNat) dc dr k)
      refine lv_iload hx hb dX4_fits_18 (lv_at hl 8 rfl) ?_
      refine lv_iload hx hb dX4_fits_20 (lv_at hl 7 rfl) ?_
      refine lv_aload_n hx hb dX4_fits_22 rfl (lv_at hl 0 rfl) ?_
      refine va_get (D := D) (ci := 4) (v := .ref (a 4)) (C := RX4) (T := TX4) (N := 10) hx hb hts hinX4 hown hK hP 0 rfl rfl 4 (by decide) (hts _ (List.mem_of_getElem? (i := 1) rfl)) (fun _ h9 => h9) rfl dX4_fits_23 ?_
      refine ri_iconst hx hb dX4_fits_26 ?_
      refine lv_iload_n hx hb dX4_fits_27 rfl (lv_at hl 2 rfl) ?_
      refine ri_imul hx hb dX4_fits_28 ?_
      refine ri_iconst hx hb dX4_fits_29 ?_
      refine ri_iadd hx hb dX4_fits_30 ?_
      refine ri_iald hx hb hK hP 4 0 rfl rfl (by omega) (by decide) dX4_fits_31 ?_
      refine ri_imul hx hb dX4_fits_32 ?_
      refine ri_icmp_ge (tgt := 175) hx hb (by omega) dX4_fits_33 (by decide) (fun h33 => ?_) (fun h33 => ?_)
      · skip
        refine lv_iload hx hb dX4_fits_175 (lv_at hl 6 rfl) ?_
        exact ri_zret hx hb hr hlocks (bp_01 _) dX4_fits_177 (hdd.trans (bp_c (fit_kE (show k = g 4 (4 * t + 2).toNat * g 4 (4 * t + 3).toNat by omega) (by omega) (by omega))))
      · skip
        have hkd := kdiv hk.1 h33 (by omega)
        refine lv_iload hx hb dX4_fits_36 (lv_at hl 6 rfl) ?_
        refine ri_if_eq (tgt := 175) hx hb (by omega) dX4_fits_38 (by decide) (fun h38 => ?_) (fun h38 => ?_)
        · skip
          refine lv_iload hx hb dX4_fits_175 (lv_at hl 6 rfl) ?_
          exact ri_zret hx hb hr hlocks (bp_01 _) dX4_fits_177 (h38.trans (bp_f (fun q => bp_0.mp (hdd.symm.trans h38) (fun j a1 a2 => (fit_k (by omega) (by omega)).mpr q j a1 (by omega)))).symm)
        · skip
          refine lv_aload_n hx hb dX4_fits_41 rfl (lv_at hl 0 rfl) ?_
          refine va_get (D := D) (ci := 4) (v := .ref (a 4)) (C := RX4) (T := TX4) (N := 10) hx hb hts hinX4 hown hK hP 0 rfl rfl 4 (by decide) (hts _ (List.mem_of_getElem? (i := 1) rfl)) (fun _ h9 => h9) rfl dX4_fits_42 ?_
          refine ri_iconst hx hb dX4_fits_45 ?_
          refine lv_iload_n hx hb dX4_fits_46 rfl (lv_at hl 2 rfl) ?_
          refine ri_imul hx hb dX4_fits_47 ?_
          refine ri_iald hx hb hK hP 4 0 rfl rfl (by omega) (by decide) dX4_fits_48 ?_
          refine lv_iload hx hb dX4_fits_49 (lv_at hl 8 rfl) ?_
          refine lv_iload hx hb dX4_fits_51 (lv_at hl 7 rfl) ?_
          refine ri_irem hx hb (by omega) dX4_fits_53 ?_
          refine ri_iadd hx hb dX4_fits_54 ?_
          refine lv_istore (lv' := [(9, .int (iI ((g 4 (4 * t).toNat) + (k % (g 4 ((4 * t) + 2).toNat))))), (0, .ref (a 0)), (1, .int (iI b)), (2, .int (iI t)), (3, .int (iI n)), (4, .int (iI dc)), (5, .int (iI dr)), (6, .int (iI dd)), (7, .int (iI (g 4 ((4 * t) + 2).toNat))), (8, .int (iI k))]) hx hb dX4_fits_55 hl (by decide) rfl (fun ls hl => ?_)
          refine lv_aload_n hx hb dX4_fits_57 rfl (lv_at hl 1 rfl) ?_
          refine va_get (D := D) (ci := 4) (v := .ref (a 4)) (C := RX4) (T := TX4) (N := 10) hx hb hts hinX4 hown hK hP 0 rfl rfl 4 (by decide) (hts _ (List.mem_of_getElem? (i := 1) rfl)) (fun _ h9 => h9) rfl dX4_fits_58 ?_
          refine ri_iconst hx hb dX4_fits_61 ?_
          refine lv_iload_n hx hb dX4_fits_62 rfl (lv_at hl 3 rfl) ?_
          refine ri_imul hx hb dX4_fits_63 ?_
          refine ri_iconst hx hb dX4_fits_64 ?_
          refine ri_iadd hx hb dX4_fits_65 ?_
          refine ri_iald hx hb hK hP 4 0 rfl rfl (by omega) (by decide) dX4_fits_66 ?_
          refine lv_iload hx hb dX4_fits_67 (lv_at hl 9 rfl) ?_
          refine lv_iload hx hb dX4_fits_69 (lv_at hl 8 rfl) ?_
          refine ri_idiv hx hb (by omega) dX4_fits_71 ?_
          refine ri_iadd hx hb dX4_fits_72 ?_
          refine lv_istore (lv' := [(10, .int (iI ((g 4 ((4 * t) + 1).toNat) + (k / (g 4 ((4 * t) + 2).toNat))))), (9, .int (iI ((g 4 (4 * t).toNat) + (k % (g 4 ((4 * t) + 2).toNat))))), (0, .ref (a 0)), (1, .int (iI b)), (2, .int (iI t)), (3, .int (iI n)), (4, .int (iI dc)), (5, .int (iI dr)), (6, .int (iI dd)), (7, .int (iI (g 4 ((4 * t) + 2).toNat))), (8, .int (iI k))]) hx hb dX4_fits_73 hl (by decide) rfl (fun ls hl => ?_)
          refine lv_aload_n hx hb dX4_fits_75 rfl (lv_at hl 2 rfl) ?_
          refine va_get (D := D) (ci := 4) (v := .ref (a 2)) (C := RX4) (T := TX4) (N := 10) hx hb hts hinX4 hown hK hP 0 rfl rfl 2 (by decide) (hts _ (List.mem_of_getElem? (i := 2) rfl)) (fun _ h9 => h9) rfl dX4_fits_76 ?_
          refine ri_bipush hx hb dX4_fits_79 (by decide) ?_
          refine lv_iload_n hx hb dX4_fits_81 rfl (lv_at hl 3 rfl) ?_
          refine lv_iload_n hx hb dX4_fits_82 rfl (lv_at hl 4 rfl) ?_
          refine ri_rd (ri_runS (As := [.int (iI b), .int (iI t)]) (rest := [.int (iI 64), .ref (a 2)]) CF (k_X4_placeOf l b t) gX4_fits_X4_placeOf f_X4_placeOf ⟨rfl, rfl, Nat.le_of_ble_eq_true rfl, Nat.le_of_ble_eq_true rfl, Nat.le_of_ble_eq_true rfl, Nat.le_of_ble_eq_true rfl⟩ tB_bl tB_in rfl hl.1 rfl (Nat.le_of_ble_eq_true rfl) dX4_fits_83) ?_
          refine ri_imul hx hb dX4_fits_86 ?_
          refine ri_bipush hx hb dX4_fits_87 (by decide) ?_
          refine lv_iload hx hb dX4_fits_89 (lv_at hl 0 rfl) ?_
          refine ri_imul hx hb dX4_fits_91 ?_
          refine ri_iadd hx hb dX4_fits_92 ?_
          refine lv_iload hx hb dX4_fits_93 (lv_at hl 1 rfl) ?_
          refine ri_iadd hx hb dX4_fits_95 ?_
          refine ri_iald hx hb hK hP 2 0 rfl rfl (by omega) (by decide) dX4_fits_96 ?_
          have x_1 : 0 ≤ px (g 2) (5 * b + t) (g 4 (4 * t).toNat + k % g 4 (4 * t + 2).toNat) (g 4 (4 * t + 1).toNat + k / g 4 (4 * t + 2).toNat) ∧ px (g 2) (5 * b + t) (g 4 (4 * t).toNat + k % g 4 (4 * t + 2).toNat) (g 4 (4 * t + 1).toNat + k / g 4 (4 * t + 2).toNat) ≤ 255 := hM.2.1 ((5 * b + t) * 64 + (g 4 (4 * t + 1).toNat + k / g 4 (4 * t + 2).toNat) * 8 + (g 4 (4 * t).toNat + k % g 4 (4 * t + 2).toNat)).toNat (by omega)
          refine ri_eq (y := px (g 2) (5 * b + t) (g 4 (4 * t).toNat + k % g 4 (4 * t + 2).toNat) (g 4 (4 * t + 1).toNat + k / g 4 (4 * t + 2).toNat)) (by show g 2 _ = g 2 ((5 * b + t) * 64 + (g 4 (4 * t + 1).toNat + k / g 4 (4 * t + 2).toNat) * 8 + (g 4 (4 * t).toNat + k % g 4 (4 * t + 2).toNat)).toNat; congr 1; omega) ?_
          refine lv_istore (lv' := [(11, .int (iI (px (g 2) (5 * b + t) (g 4 (4 * t).toNat + k % g 4 (4 * t + 2).toNat) (g 4 (4 * t + 1).toNat + k / g 4 (4 * t + 2).toNat)))), (10, .int (iI ((g 4 ((4 * t) + 1).toNat) + (k / (g 4 ((4 * t) + 2).toNat))))), (9, .int (iI ((g 4 (4 * t).toNat) + (k % (g 4 ((4 * t) + 2).toNat))))), (0, .ref (a 0)), (1, .int (iI b)), (2, .int (iI t)), (3, .int (iI n)), (4, .int (iI dc)), (5, .int (iI dr)), (6, .int (iI dd)), (7, .int (iI (g 4 ((4 * t) + 2).toNat))), (8, .int (iI k))]) hx hb dX4_fits_97 hl (by decide) rfl (fun ls hl => ?_)
          refine lv_iload hx hb dX4_fits_99 (lv_at hl 2 rfl) ?_
          refine lv_iload hx hb dX4_fits_101 (lv_at hl 7 rfl) ?_
          refine ri_iadd hx hb dX4_fits_103 ?_
          refine lv_iload hx hb dX4_fits_104 (lv_at hl 1 rfl) ?_
          refine lv_iload hx hb dX4_fits_106 (lv_at hl 8 rfl) ?_
          refine ri_iadd hx hb dX4_fits_108 ?_
          refine ri_rd (ri_runS (As := [.int (iI (((g 4 (4 * t).toNat) + (k % (g 4 ((4 * t) + 2).toNat))) + dc)), .int (iI (((g 4 ((4 * t) + 1).toNat) + (k / (g 4 ((4 * t) + 2).toNat))) + dr))]) (rest := []) CF (k_X4_isCell l (((g 4 (4 * t).toNat) + (k % (g 4 ((4 * t) + 2).toNat))) + dc) (((g 4 ((4 * t) + 1).toNat) + (k / (g 4 ((4 * t) + 2).toNat))) + dr) (by omega) (by omega)) gX4_fits_X4_isCell f_X4_isCell ⟨rfl, rfl, Nat.le_of_ble_eq_true rfl, Nat.le_of_ble_eq_true rfl, Nat.le_of_ble_eq_true rfl, Nat.le_of_ble_eq_true rfl⟩ tB_bl tB_in rfl hl.1 rfl (Nat.le_of_ble_eq_true rfl) dX4_fits_109) ?_
          refine lv_istore (lv' := [(12, .int (iI (bp ((0 ≤ (((g 4 (4 * t).toNat) + (k % (g 4 ((4 * t) + 2).toNat))) + dc) ∧ (((g 4 (4 * t).toNat) + (k % (g 4 ((4 * t) + 2).toNat))) + dc) ≤ 7) ∧ (0 ≤ (((g 4 ((4 * t) + 1).toNat) + (k / (g 4 ((4 * t) + 2).toNat))) + dr) ∧ (((g 4 ((4 * t) + 1).toNat) + (k / (g 4 ((4 * t) + 2).toNat))) + dr) ≤ 7))))), (11, .int (iI (px (g 2) (5 * b + t) (g 4 (4 * t).toNat + k % g 4 (4 * t + 2).toNat) (g 4 (4 * t + 1).toNat + k / g 4 (4 * t + 2).toNat)))), (10, .int (iI ((g 4 ((4 * t) + 1).toNat) + (k / (g 4 ((4 * t) + 2).toNat))))), (9, .int (iI ((g 4 (4 * t).toNat) + (k % (g 4 ((4 * t) + 2).toNat))))), (0, .ref (a 0)), (1, .int (iI b)), (2, .int (iI t)), (3, .int (iI n)), (4, .int (iI dc)), (5, .int (iI dr)), (6, .int (iI dd)), (7, .int (iI (g 4 ((4 * t) + 2).toNat))), (8, .int (iI k))]) hx hb dX4_fits_112 hl (by decide) rfl (fun ls hl => ?_)
          refine lv_iload hx hb dX4_fits_114 (lv_at hl 0 rfl) ?_
          refine ri_ifeq_b (tgt := 166) hx hb dX4_fits_116 (by decide) (fun h116 => ?_) (fun h116 => ?_)
          · skip
            refine ri_iconst hx hb dX4_fits_166 ?_
            refine lv_istore (lv' := [(6, .int (iI 0)), (12, .int (iI (bp ((0 ≤ (((g 4 (4 * t).toNat) + (k % (g 4 ((4 * t) + 2).toNat))) + dc) ∧ (((g 4 (4 * t).toNat) + (k % (g 4 ((4 * t) + 2).toNat))) + dc) ≤ 7) ∧ (0 ≤ (((g 4 ((4 * t) + 1).toNat) + (k / (g 4 ((4 * t) + 2).toNat))) + dr) ∧ (((g 4 ((4 * t) + 1).toNat) + (k / (g 4 ((4 * t) + 2).toNat))) + dr) ≤ 7))))), (11, .int (iI (px (g 2) (5 * b + t) (g 4 (4 * t).toNat + k % g 4 (4 * t + 2).toNat) (g 4 (4 * t + 1).toNat + k / g 4 (4 * t + 2).toNat)))), (10, .int (iI ((g 4 ((4 * t) + 1).toNat) + (k / (g 4 ((4 * t) + 2).toNat))))), (9, .int (iI ((g 4 (4 * t).toNat) + (k % (g 4 ((4 * t) + 2).toNat))))), (0, .ref (a 0)), (1, .int (iI b)), (2, .int (iI t)), (3, .int (iI n)), (4, .int (iI dc)), (5, .int (iI dr)), (7, .int (iI (g 4 ((4 * t) + 2).toNat))), (8, .int (iI k))]) hx hb dX4_fits_167 hl (by decide) rfl (fun ls hl => ?_)
            refine ri_iinc (lv' := [(8, .int (iI (k + 1))), (6, .int (iI 0)), (12, .int (iI (bp ((0 ≤ (((g 4 (4 * t).toNat) + (k % (g 4 ((4 * t) + 2).toNat))) + dc) ∧ (((g 4 (4 * t).toNat) + (k % (g 4 ((4 * t) + 2).toNat))) + dc) ≤ 7) ∧ (0 ≤ (((g 4 ((4 * t) + 1).toNat) + (k / (g 4 ((4 * t) + 2).toNat))) + dr) ∧ (((g 4 ((4 * t) + 1).toNat) + (k / (g 4 ((4 * t) + 2).toNat))) + dr) ≤ 7))))), (11, .int (iI (px (g 2) (5 * b + t) (g 4 (4 * t).toNat + k % g 4 (4 * t + 2).toNat) (g 4 (4 * t + 1).toNat + k / g 4 (4 * t + 2).toNat)))), (10, .int (iI ((g 4 ((4 * t) + 1).toNat) + (k / (g 4 ((4 * t) + 2).toNat))))), (9, .int (iI ((g 4 (4 * t).toNat) + (k % (g 4 ((4 * t) + 2).toNat))))), (0, .ref (a 0)), (1, .int (iI b)), (2, .int (iI t)), (3, .int (iI n)), (4, .int (iI dc)), (5, .int (iI dr)), (7, .int (iI (g 4 ((4 * t) + 2).toNat)))]) hx hb dX4_fits_169 hl (k := 12) rfl (by decide) rfl (fun ls hl => ?_)
            refine lv_goto (tgt := 18) hx hb dX4_fits_172 (by decide) ?_
            exact ih18 (0) (k + 1) (by omega) ((bp_f (fun q => h116 (q k (by omega) (by omega)).1)).symm) (by omega) ls (lv_sub hl [6, 7, 8, 9, 10, 11, 1, 12, 0] rfl)
          · skip
            refine lv_aload_n hx hb dX4_fits_119 rfl (lv_at hl 4 rfl) ?_
            refine lv_aload_n hx hb dX4_fits_120 rfl (lv_at hl 4 rfl) ?_
            refine va_get (D := D) (ci := 4) (v := .ref (a 1)) (C := RX4) (T := TX4) (N := 10) hx hb hts hinX4 hown hK hP 0 rfl rfl 1 (by decide) (hts _ (List.mem_of_getElem? (i := 3) rfl)) (fun _ h9 => h9) rfl dX4_fits_121 ?_
            refine ri_bipush hx hb dX4_fits_124 (by decide) ?_
            refine lv_iload_n hx hb dX4_fits_126 rfl (lv_at hl 6 rfl) ?_
            refine ri_imul hx hb dX4_fits_127 ?_
            refine lv_iload hx hb dX4_fits_128 (lv_at hl 0 rfl) ?_
            refine ri_ifeq_b (tgt := 150) hx hb dX4_fits_130 (by decide) (fun h130 => ?_) (fun h130 => ?_)
            · skip
              exfalso; omega
            · skip
              refine ri_bipush hx hb dX4_fits_133 (by decide) ?_
              refine lv_iload hx hb dX4_fits_135 (lv_at hl 2 rfl) ?_
              refine lv_iload hx hb dX4_fits_137 (lv_at hl 9 rfl) ?_
              refine ri_iadd hx hb dX4_fits_139 ?_
              refine ri_imul hx hb dX4_fits_140 ?_
              refine lv_iload hx hb dX4_fits_141 (lv_at hl 3 rfl) ?_
              refine ri_iadd hx hb dX4_fits_143 ?_
              refine lv_iload hx hb dX4_fits_144 (lv_at hl 8 rfl) ?_
              refine ri_iadd hx hb dX4_fits_146 ?_
              refine lv_goto (tgt := 151) hx hb dX4_fits_147 (by decide) ?_
              refine ri_iadd hx hb dX4_fits_151 ?_
              refine ri_iald hx hb hK hP 1 0 rfl rfl (by omega) (by decide) dX4_fits_152 ?_
              have x_2 : 0 ≤ px (g 1) t ((g 4 (4 * t).toNat + k % g 4 (4 * t + 2).toNat) + dc) ((g 4 (4 * t + 1).toNat + k / g 4 (4 * t + 2).toNat) + dr) ∧ px (g 1) t ((g 4 (4 * t).toNat + k % g 4 (4 * t + 2).toNat) + dc) ((g 4 (4 * t + 1).toNat + k / g 4 (4 * t + 2).toNat) + dr) ≤ 255 := hM.1 (t * 64 + ((g 4 (4 * t + 1).toNat + k / g 4 (4 * t + 2).toNat) + dr) * 8 + ((g 4 (4 * t).toNat + k % g 4 (4 * t + 2).toNat) + dc)).toNat (by omega)
              refine ri_eq (y := px (g 1) t ((g 4 (4 * t).toNat + k % g 4 (4 * t + 2).toNat) + dc) ((g 4 (4 * t + 1).toNat + k / g 4 (4 * t + 2).toNat) + dr)) (by show g 1 _ = g 1 (t * 64 + ((g 4 (4 * t + 1).toNat + k / g 4 (4 * t + 2).toNat) + dr) * 8 + ((g 4 (4 * t).toNat + k % g 4 (4 * t + 2).toNat) + dc)).toNat; congr 1; omega) ?_
              refine lv_iload hx hb dX4_fits_153 (lv_at hl 1 rfl) ?_
              refine lv_iload_n hx hb dX4_fits_155 rfl (lv_at hl 7 rfl) ?_
              refine ri_rd (ri_runV (b := a 0) (As := [.int (iI (px (g 1) t ((g 4 (4 * t).toNat + k % g 4 (4 * t + 2).toNat) + dc) ((g 4 (4 * t + 1).toNat + k / g 4 (4 * t + 2).toNat) + dr))), .int (iI (px (g 2) (5 * b + t) (g 4 (4 * t).toNat + k % g 4 (4 * t + 2).toNat) (g 4 (4 * t + 1).toNat + k / g 4 (4 * t + 2).toNat))), .int (iI n)]) (rest := []) CF (k_X4_areAlike l D a kk g (px (g 1) t ((g 4 (4 * t).toNat + k % g 4 (4 * t + 2).toNat) + dc) ((g 4 (4 * t + 1).toNat + k / g 4 (4 * t + 2).toNat) + dr)) (px (g 2) (5 * b + t) (g 4 (4 * t).toNat + k % g 4 (4 * t + 2).toNat) (g 4 (4 * t + 1).toNat + k / g 4 (4 * t + 2).toNat)) n (by omega) (by omega) (by omega)) gX4_fits_X4_areAlike f_X4_areAlike rfl (va_recv hK hP (ci := 4) (q0 := 0) rfl rfl) ⟨rfl, rfl, Nat.le_of_ble_eq_true rfl, Nat.le_of_ble_eq_true rfl, Nat.le_of_ble_eq_true rfl, Nat.le_of_ble_eq_true rfl⟩ wB_bl (wB_in hP hK hN) rfl hl.1 rfl (Nat.le_of_ble_eq_true rfl) dX4_fits_156) ?_
              refine ri_ifeq_b (tgt := 166) hx hb dX4_fits_159 (by decide) (fun h159 => ?_) (fun h159 => ?_)
              · skip
                refine ri_iconst hx hb dX4_fits_166 ?_
                refine lv_istore (lv' := [(6, .int (iI 0)), (12, .int (iI (bp ((0 ≤ (((g 4 (4 * t).toNat) + (k % (g 4 ((4 * t) + 2).toNat))) + dc) ∧ (((g 4 (4 * t).toNat) + (k % (g 4 ((4 * t) + 2).toNat))) + dc) ≤ 7) ∧ (0 ≤ (((g 4 ((4 * t) + 1).toNat) + (k / (g 4 ((4 * t) + 2).toNat))) + dr) ∧ (((g 4 ((4 * t) + 1).toNat) + (k / (g 4 ((4 * t) + 2).toNat))) + dr) ≤ 7))))), (11, .int (iI (px (g 2) (5 * b + t) (g 4 (4 * t).toNat + k % g 4 (4 * t + 2).toNat) (g 4 (4 * t + 1).toNat + k / g 4 (4 * t + 2).toNat)))), (10, .int (iI ((g 4 ((4 * t) + 1).toNat) + (k / (g 4 ((4 * t) + 2).toNat))))), (9, .int (iI ((g 4 (4 * t).toNat) + (k % (g 4 ((4 * t) + 2).toNat))))), (0, .ref (a 0)), (1, .int (iI b)), (2, .int (iI t)), (3, .int (iI n)), (4, .int (iI dc)), (5, .int (iI dr)), (7, .int (iI (g 4 ((4 * t) + 2).toNat))), (8, .int (iI k))]) hx hb dX4_fits_167 hl (by decide) rfl (fun ls hl => ?_)
                refine ri_iinc (lv' := [(8, .int (iI (k + 1))), (6, .int (iI 0)), (12, .int (iI (bp ((0 ≤ (((g 4 (4 * t).toNat) + (k % (g 4 ((4 * t) + 2).toNat))) + dc) ∧ (((g 4 (4 * t).toNat) + (k % (g 4 ((4 * t) + 2).toNat))) + dc) ≤ 7) ∧ (0 ≤ (((g 4 ((4 * t) + 1).toNat) + (k / (g 4 ((4 * t) + 2).toNat))) + dr) ∧ (((g 4 ((4 * t) + 1).toNat) + (k / (g 4 ((4 * t) + 2).toNat))) + dr) ≤ 7))))), (11, .int (iI (px (g 2) (5 * b + t) (g 4 (4 * t).toNat + k % g 4 (4 * t + 2).toNat) (g 4 (4 * t + 1).toNat + k / g 4 (4 * t + 2).toNat)))), (10, .int (iI ((g 4 ((4 * t) + 1).toNat) + (k / (g 4 ((4 * t) + 2).toNat))))), (9, .int (iI ((g 4 (4 * t).toNat) + (k % (g 4 ((4 * t) + 2).toNat))))), (0, .ref (a 0)), (1, .int (iI b)), (2, .int (iI t)), (3, .int (iI n)), (4, .int (iI dc)), (5, .int (iI dr)), (7, .int (iI (g 4 ((4 * t) + 2).toNat)))]) hx hb dX4_fits_169 hl (k := 12) rfl (by decide) rfl (fun ls hl => ?_)
                refine lv_goto (tgt := 18) hx hb dX4_fits_172 (by decide) ?_
                exact ih18 (0) (k + 1) (by omega) ((bp_f (fun q => h159 (q k (by omega) (by omega)).2)).symm) (by omega) ls (lv_sub hl [6, 7, 8, 9, 10, 11, 1, 12, 0] rfl)
              · skip
                refine ri_iconst hx hb dX4_fits_162 ?_
                refine lv_goto (tgt := 167) hx hb dX4_fits_163 (by decide) ?_
                refine lv_istore (lv' := [(6, .int (iI 1)), (12, .int (iI (bp ((0 ≤ (((g 4 (4 * t).toNat) + (k % (g 4 ((4 * t) + 2).toNat))) + dc) ∧ (((g 4 (4 * t).toNat) + (k % (g 4 ((4 * t) + 2).toNat))) + dc) ≤ 7) ∧ (0 ≤ (((g 4 ((4 * t) + 1).toNat) + (k / (g 4 ((4 * t) + 2).toNat))) + dr) ∧ (((g 4 ((4 * t) + 1).toNat) + (k / (g 4 ((4 * t) + 2).toNat))) + dr) ≤ 7))))), (11, .int (iI (px (g 2) (5 * b + t) (g 4 (4 * t).toNat + k % g 4 (4 * t + 2).toNat) (g 4 (4 * t + 1).toNat + k / g 4 (4 * t + 2).toNat)))), (10, .int (iI ((g 4 ((4 * t) + 1).toNat) + (k / (g 4 ((4 * t) + 2).toNat))))), (9, .int (iI ((g 4 (4 * t).toNat) + (k % (g 4 ((4 * t) + 2).toNat))))), (0, .ref (a 0)), (1, .int (iI b)), (2, .int (iI t)), (3, .int (iI n)), (4, .int (iI dc)), (5, .int (iI dr)), (7, .int (iI (g 4 ((4 * t) + 2).toNat))), (8, .int (iI k))]) hx hb dX4_fits_167 hl (by decide) rfl (fun ls hl => ?_)
                refine ri_iinc (lv' := [(8, .int (iI (k + 1))), (6, .int (iI 1)), (12, .int (iI (bp ((0 ≤ (((g 4 (4 * t).toNat) + (k % (g 4 ((4 * t) + 2).toNat))) + dc) ∧ (((g 4 (4 * t).toNat) + (k % (g 4 ((4 * t) + 2).toNat))) + dc) ≤ 7) ∧ (0 ≤ (((g 4 ((4 * t) + 1).toNat) + (k / (g 4 ((4 * t) + 2).toNat))) + dr) ∧ (((g 4 ((4 * t) + 1).toNat) + (k / (g 4 ((4 * t) + 2).toNat))) + dr) ≤ 7))))), (11, .int (iI (px (g 2) (5 * b + t) (g 4 (4 * t).toNat + k % g 4 (4 * t + 2).toNat) (g 4 (4 * t + 1).toNat + k / g 4 (4 * t + 2).toNat)))), (10, .int (iI ((g 4 ((4 * t) + 1).toNat) + (k / (g 4 ((4 * t) + 2).toNat))))), (9, .int (iI ((g 4 (4 * t).toNat) + (k % (g 4 ((4 * t) + 2).toNat))))), (0, .ref (a 0)), (1, .int (iI b)), (2, .int (iI t)), (3, .int (iI n)), (4, .int (iI dc)), (5, .int (iI dr)), (7, .int (iI (g 4 ((4 * t) + 2).toNat)))]) hx hb dX4_fits_169 hl (k := 12) rfl (by decide) rfl (fun ls hl => ?_)
                refine lv_goto (tgt := 18) hx hb dX4_fits_172 (by decide) ?_
                exact ih18 (1) (k + 1) (by omega) ((bp_t (fitK_s hk.1 (bp_1.mp (by omega)) ⟨h116, h159⟩)).symm) (by omega) ls (lv_sub hl [6, 7, 8, 9, 10, 11, 1, 12, 0] rfl)
  exact L18 65 (1) (0) (have := mul88 (w := g 4 (4 * t + 2).toNat) (h := g 4 (4 * t + 3).toNat) (by omega) (by omega); by omega) ((bp_t (fun j a1 a2 => absurd a2 (by omega))).symm) (by decide) ls (lv_sub hl [3, 4, 5, 6, 7, 8, 2, 1, 0] rfl)

theorem f_X4_isLeftOut : MF yX4_isLeftOut wsX4_isLeftOut cX4_isLeftOut 11 (some .boolean) 2 := ⟨⟨_, rfl⟩, by decide +kernel, by decide +kernel, by decide +kernel⟩
set_option maxHeartbeats 4000000 in
set_option maxRecDepth 100000 in
theorem k_X4_isLeftOut (l : Launch) (D : va_G) (a : Nat → Nat) (kk : Nat → ClassId) (g : Nat → Nat → Int) (t : Int) (cl : Int) (hM : MInv g) (yt : 0 ≤ t ∧ t ≤ 4) (ycl : 0 ≤ cl ∧ cl ≤ 63) : RD l yX4_isLeftOut wsX4_isLeftOut ({ frames := 2, cells := 0, slots := 0, locals := 46 }) [.ref (a 0), .int (iI t), .int (iI cl)] (wB D kk (mW a kk g)) (bp (loP (g 4 (4 * t).toNat) (g 4 (4 * t + 1).toNat) (g 4 (4 * t).toNat + g 4 (4 * t + 2).toNat) (g 4 (4 * t + 1).toNat + g 4 (4 * t + 3).toNat) (g 5 (4 * t).toNat) (g 5 (4 * t + 1).toNat) (g 5 (4 * t).toNat + g 5 (4 * t + 2).toNat) (g 5 (4 * t + 1).toNat + g 5 (4 * t + 3).toNat) (g 0 8) (g 0 9) (cl % 8) (cl / 8))) := by
  refine ri_ent (cc := cX4_isLeftOut) (maxL := 11) (ret := some .boolean) (by decide) rfl (Nat.le_of_ble_eq_true rfl) ?_
  intro zp ze s zm zb zt zc hx hb hr hts hown hlocks hml hin hB ls hl
  have hown : s.vm.findClass RX4 = some zm.cls := hown
  have CF : CallFix zp zm zc cX4_isLeftOut 11 s ([.ref (a 0), .int (iI t), .int (iI cl)] : List Value).toArray wsX4_isLeftOut RX4 := ⟨hx, hb, hml, hown, hts⟩
  obtain ⟨hP, hK, hN⟩ := hB
  have hinX4 : ∀ w ∈ wsX40, w ∈ wsX4_isLeftOut := (fun _ h => List.mem_cons_of_mem _ (List.mem_append_right _ h))
  have hl : lv_has ls 11 [(0, .ref (a 0)), (1, .int (iI t)), (2, .int (iI cl))] := hl
  have hpm := hM.2.2.2.1 t (by omega)
  have hbc := hM.2.2.2.2.2.2
  refine lv_aload_n hx hb dX4_isLeftOut_0 rfl (lv_at hl 0 rfl) ?_
  refine va_get (D := D) (ci := 4) (v := .ref (a 4)) (C := RX4) (T := TX4) (N := 10) hx hb hts hinX4 hown hK hP 0 rfl rfl 4 (by decide) (hts _ (List.mem_of_getElem? (i := 1) rfl)) (fun _ h9 => h9) rfl dX4_isLeftOut_1 ?_
  refine ri_iconst hx hb dX4_isLeftOut_4 ?_
  refine lv_iload_n hx hb dX4_isLeftOut_5 rfl (lv_at hl 1 rfl) ?_
  refine ri_imul hx hb dX4_isLeftOut_6 ?_
  refine ri_iald hx hb hK hP 4 0 rfl rfl (by omega) (by decide) dX4_isLeftOut_7 ?_
  refine lv_istore_n (lv' := [(3, .int (iI (g 4 (4 * t).toNat))), (0, .ref (a 0)), (1, .int (iI t)), (2, .int (iI cl))]) hx hb dX4_isLeftOut_8 rfl hl (by decide) rfl (fun ls hl => ?_)
  refine lv_aload_n hx hb dX4_isLeftOut_9 rfl (lv_at hl 1 rfl) ?_
  refine va_get (D := D) (ci := 4) (v := .ref (a 4)) (C := RX4) (T := TX4) (N := 10) hx hb hts hinX4 hown hK hP 0 rfl rfl 4 (by decide) (hts _ (List.mem_of_getElem? (i := 1) rfl)) (fun _ h9 => h9) rfl dX4_isLeftOut_10 ?_
  refine ri_iconst hx hb dX4_isLeftOut_13 ?_
  refine lv_iload_n hx hb dX4_isLeftOut_14 rfl (lv_at hl 2 rfl) ?_
  refine ri_imul hx hb dX4_isLeftOut_15 ?_
  refine ri_iconst hx hb dX4_isLeftOut_16 ?_
  refine ri_iadd hx hb dX4_isLeftOut_17 ?_
  refine ri_iald hx hb hK hP 4 0 rfl rfl (by omega) (by decide) dX4_isLeftOut_18 ?_
  refine lv_istore (lv' := [(4, .int (iI (g 4 ((4 * t) + 1).toNat))), (3, .int (iI (g 4 (4 * t).toNat))), (0, .ref (a 0)), (1, .int (iI t)), (2, .int (iI cl))]) hx hb dX4_isLeftOut_19 hl (by decide) rfl (fun ls hl => ?_)
  refine lv_aload_n hx hb dX4_isLeftOut_21 rfl (lv_at hl 2 rfl) ?_
  refine va_get (D := D) (ci := 4) (v := .ref (a 4)) (C := RX4) (T := TX4) (N := 10) hx hb hts hinX4 hown hK hP 0 rfl rfl 4 (by decide) (hts _ (List.mem_of_getElem? (i := 1) rfl)) (fun _ h9 => h9) rfl dX4_isLeftOut_22 ?_
  refine ri_iconst hx hb dX4_isLeftOut_25 ?_
  refine lv_iload_n hx hb dX4_isLeftOut_26 rfl (lv_at hl 3 rfl) ?_
  refine ri_imul hx hb dX4_isLeftOut_27 ?_
  refine ri_iconst hx hb dX4_isLeftOut_28 ?_
  refine ri_iadd hx hb dX4_isLeftOut_29 ?_
  refine ri_iald hx hb hK hP 4 0 rfl rfl (by omega) (by decide) dX4_isLeftOut_30 ?_
  refine lv_istore (lv' := [(5, .int (iI (g 4 ((4 * t) + 2).toNat))), (4, .int (iI (g 4 ((4 * t) + 1).toNat))), (3, .int (iI (g 4 (4 * t).toNat))), (0, .ref (a 0)), (1, .int (iI t)), (2, .int (iI cl))]) hx hb dX4_isLeftOut_31 hl (by decide) rfl (fun ls hl => ?_)
  refine lv_aload_n hx hb dX4_isLeftOut_33 rfl (lv_at hl 3 rfl) ?_
  refine va_get (D := D) (ci := 4) (v := .ref (a 4)) (C := RX4) (T := TX4) (N := 10) hx hb hts hinX4 hown hK hP 0 rfl rfl 4 (by decide) (hts _ (List.mem_of_getElem? (i := 1) rfl)) (fun _ h9 => h9) rfl dX4_isLeftOut_34 ?_
  refine ri_iconst hx hb dX4_isLeftOut_37 ?_
  refine lv_iload_n hx hb dX4_isLeftOut_38 rfl (lv_at hl 4 rfl) ?_
  refine ri_imul hx hb dX4_isLeftOut_39 ?_
  refine ri_iconst hx hb dX4_isLeftOut_40 ?_
  refine ri_iadd hx hb dX4_isLeftOut_41 ?_
  refine ri_iald hx hb hK hP 4 0 rfl rfl (by omega) (by decide) dX4_isLeftOut_42 ?_
  refine lv_istore (lv' := [(6, .int (iI (g 4 ((4 * t) + 3).toNat))), (5, .int (iI (g 4 ((4 * t) + 2).toNat))), (4, .int (iI (g 4 ((4 * t) + 1).toNat))), (3, .int (iI (g 4 (4 * t).toNat))), (0, .ref (a 0)), (1, .int (iI t)), (2, .int (iI cl))]) hx hb dX4_isLeftOut_43 hl (by decide) rfl (fun ls hl => ?_)
  have J64 : W zp l ze ({ frames := 2, cells := 0, slots := 0, locals := 46 }) s zm ([.ref (a 0), .int (iI t), .int (iI cl)] : List Value).toArray zb zt zc s.heap [] 0 0 (MQ zb (vp_Si (fun r9 => r9 = iI (bp (loP (g 4 (4 * t).toNat) (g 4 (4 * t + 1).toNat) (g 4 (4 * t).toNat + g 4 (4 * t + 2).toNat) (g 4 (4 * t + 1).toNat + g 4 (4 * t + 3).toNat) (g 5 (4 * t).toNat) (g 5 (4 * t + 1).toNat) (g 5 (4 * t).toNat + g 5 (4 * t + 2).toNat) (g 5 (4 * t + 1).toNat + g 5 (4 * t + 3).toNat) (g 0 8) (g 0 9) (cl % 8) (cl / 8))))) ([.ref (a 0), .int (iI t), .int (iI cl)] : List Value).toArray s 0 0 (fun _ => False)) (F0 zm 64 ls [.int (iI (bp (¬ (g 0 8 = 0 ∧ g 0 9 = 0))))]) := by
    refine lv_istore (lv' := [(7, .int (iI (bp (¬ (g 0 8 = 0 ∧ g 0 9 = 0))))), (6, .int (iI (g 4 ((4 * t) + 3).toNat))), (5, .int (iI (g 4 ((4 * t) + 2).toNat))), (4, .int (iI (g 4 ((4 * t) + 1).toNat))), (3, .int (iI (g 4 (4 * t).toNat))), (0, .ref (a 0)), (1, .int (iI t)), (2, .int (iI cl))]) hx hb dX4_isLeftOut_64 hl (by decide) rfl (fun ls hl => ?_)
    have J109 : W zp l ze ({ frames := 2, cells := 0, slots := 0, locals := 46 }) s zm ([.ref (a 0), .int (iI t), .int (iI cl)] : List Value).toArray zb zt zc s.heap [] 0 0 (MQ zb (vp_Si (fun r9 => r9 = iI (bp (loP (g 4 (4 * t).toNat) (g 4 (4 * t + 1).toNat) (g 4 (4 * t).toNat + g 4 (4 * t + 2).toNat) (g 4 (4 * t + 1).toNat + g 4 (4 * t + 3).toNat) (g 5 (4 * t).toNat) (g 5 (4 * t + 1).toNat) (g 5 (4 * t).toNat + g 5 (4 * t + 2).toNat) (g 5 (4 * t + 1).toNat + g 5 (4 * t + 3).toNat) (g 0 8) (g 0 9) (cl % 8) (cl / 8))))) ([.ref (a 0), .int (iI t), .int (iI cl)] : List Value).toArray s 0 0 (fun _ => False)) (F0 zm 109 ls [.int (iI (bp (inR (g 4 (4 * t).toNat) (g 4 (4 * t + 1).toNat) (g 4 (4 * t).toNat + g 4 (4 * t + 2).toNat) (g 4 (4 * t + 1).toNat + g 4 (4 * t + 3).toNat) (cl % 8) (cl / 8) ∨ inR (g 4 (4 * t).toNat) (g 4 (4 * t + 1).toNat) (g 4 (4 * t).toNat + g 4 (4 * t + 2).toNat) (g 4 (4 * t + 1).toNat + g 4 (4 * t + 3).toNat) (cl % 8 - g 0 8) (cl / 8 - g 0 9))))]) := by
      refine lv_istore (lv' := [(8, .int (iI (bp (inR (g 4 (4 * t).toNat) (g 4 (4 * t + 1).toNat) (g 4 (4 * t).toNat + g 4 (4 * t + 2).toNat) (g 4 (4 * t + 1).toNat + g 4 (4 * t + 3).toNat) (cl % 8) (cl / 8) ∨ inR (g 4 (4 * t).toNat) (g 4 (4 * t + 1).toNat) (g 4 (4 * t).toNat + g 4 (4 * t + 2).toNat) (g 4 (4 * t + 1).toNat + g 4 (4 * t + 3).toNat) (cl % 8 - g 0 8) (cl / 8 - g 0 9))))), (7, .int (iI (bp (¬ (g 0 8 = 0 ∧ g 0 9 = 0))))), (6, .int (iI (g 4 ((4 * t) + 3).toNat))), (5, .int (iI (g 4 ((4 * t) + 2).toNat))), (4, .int (iI (g 4 ((4 * t) + 1).toNat))), (3, .int (iI (g 4 (4 * t).toNat))), (0, .ref (a 0)), (1, .int (iI t)), (2, .int (iI cl))]) hx hb dX4_isLeftOut_109 hl (by decide) rfl (fun ls hl => ?_)
      refine lv_iload_n hx hb dX4_isLeftOut_111 rfl (lv_at hl 5 rfl) ?_
      refine lv_aload_n hx hb dX4_isLeftOut_112 rfl (lv_at hl 6 rfl) ?_
      refine va_get (D := D) (ci := 4) (v := .int (iI (g 0 8))) (C := RX4) (T := TX4) (N := 10) hx hb hts hinX4 hown hK hP 0 rfl rfl 8 (by decide) (hts _ (List.mem_of_getElem? (i := 2) rfl)) (fun _ h9 => h9) rfl dX4_isLeftOut_113 ?_
      have f_1 := hM.2.2.2.2.2.2
      refine ri_iadd hx hb dX4_isLeftOut_116 ?_
      refine lv_aload_n hx hb dX4_isLeftOut_117 rfl (lv_at hl 6 rfl) ?_
      refine va_get (D := D) (ci := 4) (v := .ref (a 5)) (C := RX4) (T := TX4) (N := 10) hx hb hts hinX4 hown hK hP 0 rfl rfl 5 (by decide) (hts _ (List.mem_of_getElem? (i := 4) rfl)) (fun _ h9 => h9) rfl dX4_isLeftOut_118 ?_
      refine ri_iconst hx hb dX4_isLeftOut_121 ?_
      refine lv_iload_n hx hb dX4_isLeftOut_122 rfl (lv_at hl 7 rfl) ?_
      refine ri_imul hx hb dX4_isLeftOut_123 ?_
      refine ri_iald hx hb hK hP 5 0 rfl rfl (by omega) (by decide) dX4_isLeftOut_124 ?_
      refine ri_iadd hx hb dX4_isLeftOut_125 ?_
      refine lv_istore (lv' := [(9, .int (iI (((g 4 (4 * t).toNat) + (g 0 8)) + (g 5 (4 * t).toNat)))), (8, .int (iI (bp (inR (g 4 (4 * t).toNat) (g 4 (4 * t + 1).toNat) (g 4 (4 * t).toNat + g 4 (4 * t + 2).toNat) (g 4 (4 * t + 1).toNat + g 4 (4 * t + 3).toNat) (cl % 8) (cl / 8) ∨ inR (g 4 (4 * t).toNat) (g 4 (4 * t + 1).toNat) (g 4 (4 * t).toNat + g 4 (4 * t + 2).toNat) (g 4 (4 * t + 1).toNat + g 4 (4 * t + 3).toNat) (cl % 8 - g 0 8) (cl / 8 - g 0 9))))), (7, .int (iI (bp (¬ (g 0 8 = 0 ∧ g 0 9 = 0))))), (6, .int (iI (g 4 ((4 * t) + 3).toNat))), (5, .int (iI (g 4 ((4 * t) + 2).toNat))), (4, .int (iI (g 4 ((4 * t) + 1).toNat))), (3, .int (iI (g 4 (4 * t).toNat))), (0, .ref (a 0)), (1, .int (iI t)), (2, .int (iI cl))]) hx hb dX4_isLeftOut_126 hl (by decide) rfl (fun ls hl => ?_)
      refine lv_iload hx hb dX4_isLeftOut_128 (lv_at hl 5 rfl) ?_
      refine lv_aload_n hx hb dX4_isLeftOut_130 rfl (lv_at hl 7 rfl) ?_
      refine va_get (D := D) (ci := 4) (v := .int (iI (g 0 9))) (C := RX4) (T := TX4) (N := 10) hx hb hts hinX4 hown hK hP 0 rfl rfl 9 (by decide) (hts _ (List.mem_of_getElem? (i := 3) rfl)) (fun _ h9 => h9) rfl dX4_isLeftOut_131 ?_
      have f_2 := hM.2.2.2.2.2.2
      refine ri_iadd hx hb dX4_isLeftOut_134 ?_
      refine lv_aload_n hx hb dX4_isLeftOut_135 rfl (lv_at hl 7 rfl) ?_
      refine va_get (D := D) (ci := 4) (v := .ref (a 5)) (C := RX4) (T := TX4) (N := 10) hx hb hts hinX4 hown hK hP 0 rfl rfl 5 (by decide) (hts _ (List.mem_of_getElem? (i := 4) rfl)) (fun _ h9 => h9) rfl dX4_isLeftOut_136 ?_
      refine ri_iconst hx hb dX4_isLeftOut_139 ?_
      refine lv_iload_n hx hb dX4_isLeftOut_140 rfl (lv_at hl 8 rfl) ?_
      refine ri_imul hx hb dX4_isLeftOut_141 ?_
      refine ri_iconst hx hb dX4_isLeftOut_142 ?_
      refine ri_iadd hx hb dX4_isLeftOut_143 ?_
      refine ri_iald hx hb hK hP 5 0 rfl rfl (by omega) (by decide) dX4_isLeftOut_144 ?_
      refine ri_iadd hx hb dX4_isLeftOut_145 ?_
      refine lv_istore (lv' := [(10, .int (iI (((g 4 ((4 * t) + 1).toNat) + (g 0 9)) + (g 5 ((4 * t) + 1).toNat)))), (9, .int (iI (((g 4 (4 * t).toNat) + (g 0 8)) + (g 5 (4 * t).toNat)))), (8, .int (iI (bp (inR (g 4 (4 * t).toNat) (g 4 (4 * t + 1).toNat) (g 4 (4 * t).toNat + g 4 (4 * t + 2).toNat) (g 4 (4 * t + 1).toNat + g 4 (4 * t + 3).toNat) (cl % 8) (cl / 8) ∨ inR (g 4 (4 * t).toNat) (g 4 (4 * t + 1).toNat) (g 4 (4 * t).toNat + g 4 (4 * t + 2).toNat) (g 4 (4 * t + 1).toNat + g 4 (4 * t + 3).toNat) (cl % 8 - g 0 8) (cl / 8 - g 0 9))))), (7, .int (iI (bp (¬ (g 0 8 = 0 ∧ g 0 9 = 0))))), (6, .int (iI (g 4 ((4 * t) + 3).toNat))), (5, .int (iI (g 4 ((4 * t) + 2).toNat))), (4, .int (iI (g 4 ((4 * t) + 1).toNat))), (3, .int (iI (g 4 (4 * t).toNat))), (0, .ref (a 0)), (1, .int (iI t)), (2, .int (iI cl))]) hx hb dX4_isLeftOut_146 hl (by decide) rfl (fun ls hl => ?_)
      refine lv_iload hx hb dX4_isLeftOut_148 (lv_at hl 3 rfl) ?_
      refine ri_ifeq_b (tgt := 158) hx hb dX4_isLeftOut_150 (by decide) (fun h150 => ?_) (fun h150 => ?_)
      · skip
        refine lv_iload hx hb dX4_isLeftOut_158 (lv_at hl 5 rfl) ?_
        refine ri_if_le (tgt := 198) hx hb (by omega) dX4_isLeftOut_160 (by decide) (fun h160 => ?_) (fun h160 => ?_)
        · skip
          refine ri_iconst hx hb dX4_isLeftOut_198 ?_
          exact ri_zret hx hb hr hlocks (bp_01 _) dX4_isLeftOut_199 ((bp_f (fun q => q.elim (fun z => h150 z.1) (fun z => by unfold inR at z; omega))).symm)
        · skip
          refine lv_iload_n hx hb dX4_isLeftOut_163 rfl (lv_at hl 10 rfl) ?_
          refine lv_iload hx hb dX4_isLeftOut_164 (lv_at hl 1 rfl) ?_
          refine lv_iload hx hb dX4_isLeftOut_166 (lv_at hl 0 rfl) ?_
          refine lv_aload_n hx hb dX4_isLeftOut_168 rfl (lv_at hl 8 rfl) ?_
          refine va_get (D := D) (ci := 4) (v := .ref (a 5)) (C := RX4) (T := TX4) (N := 10) hx hb hts hinX4 hown hK hP 0 rfl rfl 5 (by decide) (hts _ (List.mem_of_getElem? (i := 4) rfl)) (fun _ h9 => h9) rfl dX4_isLeftOut_169 ?_
          refine ri_iconst hx hb dX4_isLeftOut_172 ?_
          refine lv_iload_n hx hb dX4_isLeftOut_173 rfl (lv_at hl 9 rfl) ?_
          refine ri_imul hx hb dX4_isLeftOut_174 ?_
          refine ri_iconst hx hb dX4_isLeftOut_175 ?_
          refine ri_iadd hx hb dX4_isLeftOut_176 ?_
          refine ri_iald hx hb hK hP 5 0 rfl rfl (by omega) (by decide) dX4_isLeftOut_177 ?_
          refine lv_aload_n hx hb dX4_isLeftOut_178 rfl (lv_at hl 8 rfl) ?_
          refine va_get (D := D) (ci := 4) (v := .ref (a 5)) (C := RX4) (T := TX4) (N := 10) hx hb hts hinX4 hown hK hP 0 rfl rfl 5 (by decide) (hts _ (List.mem_of_getElem? (i := 4) rfl)) (fun _ h9 => h9) rfl dX4_isLeftOut_179 ?_
          refine ri_iconst hx hb dX4_isLeftOut_182 ?_
          refine lv_iload_n hx hb dX4_isLeftOut_183 rfl (lv_at hl 9 rfl) ?_
          refine ri_imul hx hb dX4_isLeftOut_184 ?_
          refine ri_iconst hx hb dX4_isLeftOut_185 ?_
          refine ri_iadd hx hb dX4_isLeftOut_186 ?_
          refine ri_iald hx hb hK hP 5 0 rfl rfl (by omega) (by decide) dX4_isLeftOut_187 ?_
          refine ri_rd (ri_runS (As := [.int (iI cl), .int (iI (((g 4 (4 * t).toNat) + (g 0 8)) + (g 5 (4 * t).toNat))), .int (iI (((g 4 ((4 * t) + 1).toNat) + (g 0 9)) + (g 5 ((4 * t) + 1).toNat))), .int (iI (g 5 ((4 * t) + 2).toNat)), .int (iI (g 5 ((4 * t) + 3).toNat))]) (rest := []) CF (k_X4_isWithin l cl (((g 4 (4 * t).toNat) + (g 0 8)) + (g 5 (4 * t).toNat)) (((g 4 ((4 * t) + 1).toNat) + (g 0 9)) + (g 5 ((4 * t) + 1).toNat)) (g 5 ((4 * t) + 2).toNat) (g 5 ((4 * t) + 3).toNat) (by omega) (by omega) (by omega) (by omega) (by omega)) gX4_isLeftOut_X4_isWithin f_X4_isWithin ⟨rfl, rfl, Nat.le_of_ble_eq_true rfl, Nat.le_of_ble_eq_true rfl, Nat.le_of_ble_eq_true rfl, Nat.le_of_ble_eq_true rfl⟩ tB_bl tB_in rfl hl.1 rfl (Nat.le_of_ble_eq_true rfl) dX4_isLeftOut_188) ?_
          refine ri_ifeq_b (tgt := 198) hx hb dX4_isLeftOut_191 (by decide) (fun h191 => ?_) (fun h191 => ?_)
          · skip
            refine ri_iconst hx hb dX4_isLeftOut_198 ?_
            exact ri_zret hx hb hr hlocks (bp_01 _) dX4_isLeftOut_199 ((bp_f (fun q => q.elim (fun z => h150 z.1) (fun z => h191 (inR_k.mpr z)))).symm)
          · skip
            refine ri_iconst hx hb dX4_isLeftOut_194 ?_
            refine lv_goto (tgt := 199) hx hb dX4_isLeftOut_195 (by decide) ?_
            exact ri_zret hx hb hr hlocks (bp_01 _) dX4_isLeftOut_199 ((bp_t (Or.inr (inR_k.mp h191))).symm)
      · skip
        refine lv_iload hx hb dX4_isLeftOut_153 (lv_at hl 2 rfl) ?_
        refine ri_ifne_b (tgt := 194) hx hb dX4_isLeftOut_155 (by decide) (fun h155 => ?_) (fun h155 => ?_)
        · skip
          refine ri_iconst hx hb dX4_isLeftOut_194 ?_
          refine lv_goto (tgt := 199) hx hb dX4_isLeftOut_195 (by decide) ?_
          exact ri_zret hx hb hr hlocks (bp_01 _) dX4_isLeftOut_199 ((bp_t (Or.inl ⟨h150, h155⟩)).symm)
        · skip
          refine lv_iload hx hb dX4_isLeftOut_158 (lv_at hl 5 rfl) ?_
          refine ri_if_le (tgt := 198) hx hb (by omega) dX4_isLeftOut_160 (by decide) (fun h160 => ?_) (fun h160 => ?_)
          · skip
            refine ri_iconst hx hb dX4_isLeftOut_198 ?_
            exact ri_zret hx hb hr hlocks (bp_01 _) dX4_isLeftOut_199 ((bp_f (fun q => q.elim (fun z => h155 z.2) (fun z => by unfold inR at z; omega))).symm)
          · skip
            refine lv_iload_n hx hb dX4_isLeftOut_163 rfl (lv_at hl 10 rfl) ?_
            refine lv_iload hx hb dX4_isLeftOut_164 (lv_at hl 1 rfl) ?_
            refine lv_iload hx hb dX4_isLeftOut_166 (lv_at hl 0 rfl) ?_
            refine lv_aload_n hx hb dX4_isLeftOut_168 rfl (lv_at hl 8 rfl) ?_
            refine va_get (D := D) (ci := 4) (v := .ref (a 5)) (C := RX4) (T := TX4) (N := 10) hx hb hts hinX4 hown hK hP 0 rfl rfl 5 (by decide) (hts _ (List.mem_of_getElem? (i := 4) rfl)) (fun _ h9 => h9) rfl dX4_isLeftOut_169 ?_
            refine ri_iconst hx hb dX4_isLeftOut_172 ?_
            refine lv_iload_n hx hb dX4_isLeftOut_173 rfl (lv_at hl 9 rfl) ?_
            refine ri_imul hx hb dX4_isLeftOut_174 ?_
            refine ri_iconst hx hb dX4_isLeftOut_175 ?_
            refine ri_iadd hx hb dX4_isLeftOut_176 ?_
            refine ri_iald hx hb hK hP 5 0 rfl rfl (by omega) (by decide) dX4_isLeftOut_177 ?_
            refine lv_aload_n hx hb dX4_isLeftOut_178 rfl (lv_at hl 8 rfl) ?_
            refine va_get (D := D) (ci := 4) (v := .ref (a 5)) (C := RX4) (T := TX4) (N := 10) hx hb hts hinX4 hown hK hP 0 rfl rfl 5 (by decide) (hts _ (List.mem_of_getElem? (i := 4) rfl)) (fun _ h9 => h9) rfl dX4_isLeftOut_179 ?_
            refine ri_iconst hx hb dX4_isLeftOut_182 ?_
            refine lv_iload_n hx hb dX4_isLeftOut_183 rfl (lv_at hl 9 rfl) ?_
            refine ri_imul hx hb dX4_isLeftOut_184 ?_
            refine ri_iconst hx hb dX4_isLeftOut_185 ?_
            refine ri_iadd hx hb dX4_isLeftOut_186 ?_
            refine ri_iald hx hb hK hP 5 0 rfl rfl (by omega) (by decide) dX4_isLeftOut_187 ?_
            refine ri_rd (ri_runS (As := [.int (iI cl), .int (iI (((g 4 (4 * t).toNat) + (g 0 8)) + (g 5 (4 * t).toNat))), .int (iI (((g 4 ((4 * t) + 1).toNat) + (g 0 9)) + (g 5 ((4 * t) + 1).toNat))), .int (iI (g 5 ((4 * t) + 2).toNat)), .int (iI (g 5 ((4 * t) + 3).toNat))]) (rest := []) CF (k_X4_isWithin l cl (((g 4 (4 * t).toNat) + (g 0 8)) + (g 5 (4 * t).toNat)) (((g 4 ((4 * t) + 1).toNat) + (g 0 9)) + (g 5 ((4 * t) + 1).toNat)) (g 5 ((4 * t) + 2).toNat) (g 5 ((4 * t) + 3).toNat) (by omega) (by omega) (by omega) (by omega) (by omega)) gX4_isLeftOut_X4_isWithin f_X4_isWithin ⟨rfl, rfl, Nat.le_of_ble_eq_true rfl, Nat.le_of_ble_eq_true rfl, Nat.le_of_ble_eq_true rfl, Nat.le_of_ble_eq_true rfl⟩ tB_bl tB_in rfl hl.1 rfl (Nat.le_of_ble_eq_true rfl) dX4_isLeftOut_188) ?_
            refine ri_ifeq_b (tgt := 198) hx hb dX4_isLeftOut_191 (by decide) (fun h191 => ?_) (fun h191 => ?_)
            · skip
              refine ri_iconst hx hb dX4_isLeftOut_198 ?_
              exact ri_zret hx hb hr hlocks (bp_01 _) dX4_isLeftOut_199 ((bp_f (fun q => q.elim (fun z => h155 z.2) (fun z => h191 (inR_k.mpr z)))).symm)
            · skip
              refine ri_iconst hx hb dX4_isLeftOut_194 ?_
              refine lv_goto (tgt := 199) hx hb dX4_isLeftOut_195 (by decide) ?_
              exact ri_zret hx hb hr hlocks (bp_01 _) dX4_isLeftOut_199 ((bp_t (Or.inr (inR_k.mp h191))).symm)
    refine lv_iload_n hx hb dX4_isLeftOut_66 rfl (lv_at hl 7 rfl) ?_
    refine lv_iload_n hx hb dX4_isLeftOut_67 rfl (lv_at hl 4 rfl) ?_
    refine lv_iload hx hb dX4_isLeftOut_68 (lv_at hl 3 rfl) ?_
    refine lv_iload hx hb dX4_isLeftOut_70 (lv_at hl 2 rfl) ?_
    refine lv_iload hx hb dX4_isLeftOut_72 (lv_at hl 1 rfl) ?_
    refine ri_rd (ri_runS (As := [.int (iI cl), .int (iI (g 4 (4 * t).toNat)), .int (iI (g 4 ((4 * t) + 1).toNat)), .int (iI (g 4 ((4 * t) + 2).toNat)), .int (iI (g 4 ((4 * t) + 3).toNat))]) (rest := []) CF (k_X4_isWithin l cl (g 4 (4 * t).toNat) (g 4 ((4 * t) + 1).toNat) (g 4 ((4 * t) + 2).toNat) (g 4 ((4 * t) + 3).toNat) (by omega) (by omega) (by omega) (by omega) (by omega)) gX4_isLeftOut_X4_isWithin f_X4_isWithin ⟨rfl, rfl, Nat.le_of_ble_eq_true rfl, Nat.le_of_ble_eq_true rfl, Nat.le_of_ble_eq_true rfl, Nat.le_of_ble_eq_true rfl⟩ tB_bl tB_in rfl hl.1 rfl (Nat.le_of_ble_eq_true rfl) dX4_isLeftOut_74) ?_
    refine ri_ifne_b (tgt := 104) hx hb dX4_isLeftOut_77 (by decide) (fun h77 => ?_) (fun h77 => ?_)
    · skip
      refine ri_iconst hx hb dX4_isLeftOut_104 ?_
      refine lv_goto (tgt := 109) hx hb dX4_isLeftOut_105 (by decide) ?_
      exact ri_eq ((bp_t (Or.inl (inR_m.mp h77))).symm) J109
    · skip
      refine lv_iload_n hx hb dX4_isLeftOut_80 rfl (lv_at hl 7 rfl) ?_
      refine lv_iload_n hx hb dX4_isLeftOut_81 rfl (lv_at hl 4 rfl) ?_
      refine lv_aload_n hx hb dX4_isLeftOut_82 rfl (lv_at hl 5 rfl) ?_
      refine va_get (D := D) (ci := 4) (v := .int (iI (g 0 8))) (C := RX4) (T := TX4) (N := 10) hx hb hts hinX4 hown hK hP 0 rfl rfl 8 (by decide) (hts _ (List.mem_of_getElem? (i := 2) rfl)) (fun _ h9 => h9) rfl dX4_isLeftOut_83 ?_
      have f_3 := hM.2.2.2.2.2.2
      refine ri_iadd hx hb dX4_isLeftOut_86 ?_
      refine lv_iload hx hb dX4_isLeftOut_87 (lv_at hl 3 rfl) ?_
      refine lv_aload_n hx hb dX4_isLeftOut_89 rfl (lv_at hl 5 rfl) ?_
      refine va_get (D := D) (ci := 4) (v := .int (iI (g 0 9))) (C := RX4) (T := TX4) (N := 10) hx hb hts hinX4 hown hK hP 0 rfl rfl 9 (by decide) (hts _ (List.mem_of_getElem? (i := 3) rfl)) (fun _ h9 => h9) rfl dX4_isLeftOut_90 ?_
      have f_4 := hM.2.2.2.2.2.2
      refine ri_iadd hx hb dX4_isLeftOut_93 ?_
      refine lv_iload hx hb dX4_isLeftOut_94 (lv_at hl 2 rfl) ?_
      refine lv_iload hx hb dX4_isLeftOut_96 (lv_at hl 1 rfl) ?_
      refine ri_rd (ri_runS (As := [.int (iI cl), .int (iI ((g 4 (4 * t).toNat) + (g 0 8))), .int (iI ((g 4 ((4 * t) + 1).toNat) + (g 0 9))), .int (iI (g 4 ((4 * t) + 2).toNat)), .int (iI (g 4 ((4 * t) + 3).toNat))]) (rest := []) CF (k_X4_isWithin l cl ((g 4 (4 * t).toNat) + (g 0 8)) ((g 4 ((4 * t) + 1).toNat) + (g 0 9)) (g 4 ((4 * t) + 2).toNat) (g 4 ((4 * t) + 3).toNat) (by omega) (by omega) (by omega) (by omega) (by omega)) gX4_isLeftOut_X4_isWithin f_X4_isWithin ⟨rfl, rfl, Nat.le_of_ble_eq_true rfl, Nat.le_of_ble_eq_true rfl, Nat.le_of_ble_eq_true rfl, Nat.le_of_ble_eq_true rfl⟩ tB_bl tB_in rfl hl.1 rfl (Nat.le_of_ble_eq_true rfl) dX4_isLeftOut_98) ?_
      refine ri_ifeq_b (tgt := 108) hx hb dX4_isLeftOut_101 (by decide) (fun h101 => ?_) (fun h101 => ?_)
      · skip
        refine ri_iconst hx hb dX4_isLeftOut_108 ?_
        exact ri_eq ((bp_f (fun q => q.elim (fun z => h77 (inR_m.mpr z)) (fun z => h101 (inR_s.mpr z)))).symm) J109
      · skip
        refine ri_iconst hx hb dX4_isLeftOut_104 ?_
        refine lv_goto (tgt := 109) hx hb dX4_isLeftOut_105 (by decide) ?_
        exact ri_eq ((bp_t (Or.inr (inR_s.mp h101))).symm) J109
  refine lv_aload_n hx hb dX4_isLeftOut_45 rfl (lv_at hl 4 rfl) ?_
  refine va_get (D := D) (ci := 4) (v := .int (iI (g 0 8))) (C := RX4) (T := TX4) (N := 10) hx hb hts hinX4 hown hK hP 0 rfl rfl 8 (by decide) (hts _ (List.mem_of_getElem? (i := 2) rfl)) (fun _ h9 => h9) rfl dX4_isLeftOut_46 ?_
  have f_5 := hM.2.2.2.2.2.2
  refine ri_if_ne (tgt := 59) hx hb (by omega) dX4_isLeftOut_49 (by decide) (fun c_6 => ?_) (fun c_6 => ?_)
  · skip
    refine ri_iconst hx hb dX4_isLeftOut_59 ?_
    refine lv_goto (tgt := 64) hx hb dX4_isLeftOut_60 (by decide) ?_
    exact ri_eq ((bp_t (by omega)).symm) J64
  · skip
    refine lv_aload_n hx hb dX4_isLeftOut_52 rfl (lv_at hl 4 rfl) ?_
    refine va_get (D := D) (ci := 4) (v := .int (iI (g 0 9))) (C := RX4) (T := TX4) (N := 10) hx hb hts hinX4 hown hK hP 0 rfl rfl 9 (by decide) (hts _ (List.mem_of_getElem? (i := 3) rfl)) (fun _ h9 => h9) rfl dX4_isLeftOut_53 ?_
    have f_7 := hM.2.2.2.2.2.2
    refine ri_if_eq (tgt := 63) hx hb (by omega) dX4_isLeftOut_56 (by decide) (fun c_8 => ?_) (fun c_8 => ?_)
    · skip
      refine ri_iconst hx hb dX4_isLeftOut_63 ?_
      exact ri_eq ((bp_f (by omega)).symm) J64
    · skip
      refine ri_iconst hx hb dX4_isLeftOut_59 ?_
      refine lv_goto (tgt := 64) hx hb dX4_isLeftOut_60 (by decide) ?_
      exact ri_eq ((bp_t (by omega)).symm) J64

theorem f_X4_differs : MF yX4_differs wsX4_differs cX4_differs 6 (some .boolean) 4 := ⟨⟨_, rfl⟩, by decide +kernel, by decide +kernel, by decide +kernel⟩
set_option maxHeartbeats 4000000 in
set_option maxRecDepth 100000 in
theorem k_X4_differs (l : Launch) (D : va_G) (a : Nat → Nat) (kk : Nat → ClassId) (g : Nat → Nat → Int) (b : Int) (t : Int) (n : Int) (cl : Int) (hM : MInv g) (yb : 0 ≤ b ∧ b ≤ 3) (yt : 0 ≤ t ∧ t ≤ 4) (yn : 0 ≤ n ∧ n ≤ 255) (ycl : 0 ≤ cl ∧ cl ≤ 63) : RD l yX4_differs wsX4_differs ({ frames := 3, cells := 0, slots := 0, locals := 76 }) [.ref (a 0), .int (iI b), .int (iI t), .int (iI n), .int (iI cl)] (wB D kk (mW a kk g)) (bp (difP (px (g 1) t) (px (g 2) (5 * b + t)) n (g 4 (4 * t).toNat) (g 4 (4 * t + 1).toNat) (g 4 (4 * t).toNat + g 4 (4 * t + 2).toNat) (g 4 (4 * t + 1).toNat + g 4 (4 * t + 3).toNat) (g 5 (4 * t).toNat) (g 5 (4 * t + 1).toNat) (g 5 (4 * t).toNat + g 5 (4 * t + 2).toNat) (g 5 (4 * t + 1).toNat + g 5 (4 * t + 3).toNat) (g 0 8) (g 0 9) (cl % 8) (cl / 8))) := by
  refine ri_ent (cc := cX4_differs) (maxL := 6) (ret := some .boolean) (by decide) rfl (Nat.le_of_ble_eq_true rfl) ?_
  intro zp ze s zm zb zt zc hx hb hr hts hown hlocks hml hin hB ls hl
  have hown : s.vm.findClass RX4 = some zm.cls := hown
  have CF : CallFix zp zm zc cX4_differs 6 s ([.ref (a 0), .int (iI b), .int (iI t), .int (iI n), .int (iI cl)] : List Value).toArray wsX4_differs RX4 := ⟨hx, hb, hml, hown, hts⟩
  obtain ⟨hP, hK, hN⟩ := hB
  have hinX4 : ∀ w ∈ wsX40, w ∈ wsX4_differs := (fun _ h => List.mem_cons_of_mem _ (List.mem_append_right _ h))
  have hl : lv_has ls 6 [(0, .ref (a 0)), (1, .int (iI b)), (2, .int (iI t)), (3, .int (iI n)), (4, .int (iI cl))] := hl
  refine lv_aload_n hx hb dX4_differs_0 rfl (lv_at hl 0 rfl) ?_
  refine lv_aload_n hx hb dX4_differs_1 rfl (lv_at hl 0 rfl) ?_
  refine va_get (D := D) (ci := 4) (v := .ref (a 1)) (C := RX4) (T := TX4) (N := 10) hx hb hts hinX4 hown hK hP 0 rfl rfl 1 (by decide) (hts _ (List.mem_of_getElem? (i := 1) rfl)) (fun _ h9 => h9) rfl dX4_differs_2 ?_
  refine ri_bipush hx hb dX4_differs_5 (by decide) ?_
  refine lv_iload_n hx hb dX4_differs_7 rfl (lv_at hl 2 rfl) ?_
  refine ri_imul hx hb dX4_differs_8 ?_
  refine lv_iload hx hb dX4_differs_9 (lv_at hl 4 rfl) ?_
  refine ri_iadd hx hb dX4_differs_11 ?_
  refine ri_iald hx hb hK hP 1 0 rfl rfl (by omega) (by decide) dX4_differs_12 ?_
  have x_1 : 0 ≤ px (g 1) t (cl % 8) (cl / 8) ∧ px (g 1) t (cl % 8) (cl / 8) ≤ 255 := hM.1 (t * 64 + (cl / 8) * 8 + (cl % 8)).toNat (by omega)
  refine ri_eq (y := px (g 1) t (cl % 8) (cl / 8)) (by show g 1 _ = g 1 (t * 64 + (cl / 8) * 8 + (cl % 8)).toNat; congr 1; omega) ?_
  refine lv_aload_n hx hb dX4_differs_13 rfl (lv_at hl 0 rfl) ?_
  refine va_get (D := D) (ci := 4) (v := .ref (a 2)) (C := RX4) (T := TX4) (N := 10) hx hb hts hinX4 hown hK hP 0 rfl rfl 2 (by decide) (hts _ (List.mem_of_getElem? (i := 2) rfl)) (fun _ h9 => h9) rfl dX4_differs_14 ?_
  refine ri_bipush hx hb dX4_differs_17 (by decide) ?_
  refine lv_iload_n hx hb dX4_differs_19 rfl (lv_at hl 1 rfl) ?_
  refine lv_iload_n hx hb dX4_differs_20 rfl (lv_at hl 2 rfl) ?_
  refine ri_rd (ri_runS (As := [.int (iI b), .int (iI t)]) (rest := [.int (iI 64), .ref (a 2), .int (iI (px (g 1) t (cl % 8) (cl / 8))), .ref (a 0)]) CF (k_X4_placeOf l b t) gX4_differs_X4_placeOf f_X4_placeOf ⟨rfl, rfl, Nat.le_of_ble_eq_true rfl, Nat.le_of_ble_eq_true rfl, Nat.le_of_ble_eq_true rfl, Nat.le_of_ble_eq_true rfl⟩ tB_bl tB_in rfl hl.1 rfl (Nat.le_of_ble_eq_true rfl) dX4_differs_21) ?_
  refine ri_imul hx hb dX4_differs_24 ?_
  refine lv_iload hx hb dX4_differs_25 (lv_at hl 4 rfl) ?_
  refine ri_iadd hx hb dX4_differs_27 ?_
  refine ri_iald hx hb hK hP 2 0 rfl rfl (by omega) (by decide) dX4_differs_28 ?_
  have x_2 : 0 ≤ px (g 2) (5 * b + t) (cl % 8) (cl / 8) ∧ px (g 2) (5 * b + t) (cl % 8) (cl / 8) ≤ 255 := hM.2.1 ((5 * b + t) * 64 + (cl / 8) * 8 + (cl % 8)).toNat (by omega)
  refine ri_eq (y := px (g 2) (5 * b + t) (cl % 8) (cl / 8)) (by show g 2 _ = g 2 ((5 * b + t) * 64 + (cl / 8) * 8 + (cl % 8)).toNat; congr 1; omega) ?_
  refine lv_iload_n hx hb dX4_differs_29 rfl (lv_at hl 3 rfl) ?_
  refine ri_rd (ri_runV (b := a 0) (As := [.int (iI (px (g 1) t (cl % 8) (cl / 8))), .int (iI (px (g 2) (5 * b + t) (cl % 8) (cl / 8))), .int (iI n)]) (rest := []) CF (k_X4_areAlike l D a kk g (px (g 1) t (cl % 8) (cl / 8)) (px (g 2) (5 * b + t) (cl % 8) (cl / 8)) n (by omega) (by omega) (by omega)) gX4_differs_X4_areAlike f_X4_areAlike rfl (va_recv hK hP (ci := 4) (q0 := 0) rfl rfl) ⟨rfl, rfl, Nat.le_of_ble_eq_true rfl, Nat.le_of_ble_eq_true rfl, Nat.le_of_ble_eq_true rfl, Nat.le_of_ble_eq_true rfl⟩ wB_bl (wB_in hP hK hN) rfl hl.1 rfl (Nat.le_of_ble_eq_true rfl) dX4_differs_30) ?_
  refine lv_istore (lv' := [(5, .int (iI (bp ((px (g 1) t (cl % 8) (cl / 8)) - (px (g 2) (5 * b + t) (cl % 8) (cl / 8)) ≤ n ∧ (px (g 2) (5 * b + t) (cl % 8) (cl / 8)) - (px (g 1) t (cl % 8) (cl / 8)) ≤ n)))), (0, .ref (a 0)), (1, .int (iI b)), (2, .int (iI t)), (3, .int (iI n)), (4, .int (iI cl))]) hx hb dX4_differs_33 hl (by decide) rfl (fun ls hl => ?_)
  refine lv_iload hx hb dX4_differs_35 (lv_at hl 0 rfl) ?_
  refine ri_ifne_b (tgt := 66) hx hb dX4_differs_37 (by decide) (fun h37 => ?_) (fun h37 => ?_)
  · skip
    refine ri_iconst hx hb dX4_differs_66 ?_
    exact ri_zret hx hb hr hlocks (bp_01 _) dX4_differs_67 ((bp_f (fun q => q.1 h37)).symm)
  · skip
    refine lv_aload_n hx hb dX4_differs_40 rfl (lv_at hl 1 rfl) ?_
    refine lv_iload_n hx hb dX4_differs_41 rfl (lv_at hl 2 rfl) ?_
    refine lv_iload_n hx hb dX4_differs_42 rfl (lv_at hl 3 rfl) ?_
    refine lv_iload_n hx hb dX4_differs_43 rfl (lv_at hl 4 rfl) ?_
    refine lv_iload hx hb dX4_differs_44 (lv_at hl 5 rfl) ?_
    refine ri_rd (ri_runV (b := a 0) (As := [.int (iI b), .int (iI t), .int (iI n), .int (iI cl)]) (rest := []) CF (k_X4_isSoft l D a kk g b t n cl hM (by omega) (by omega) (by omega) (by omega)) gX4_differs_X4_isSoft f_X4_isSoft rfl (va_recv hK hP (ci := 4) (q0 := 0) rfl rfl) ⟨rfl, rfl, Nat.le_of_ble_eq_true rfl, Nat.le_of_ble_eq_true rfl, Nat.le_of_ble_eq_true rfl, Nat.le_of_ble_eq_true rfl⟩ wB_bl (wB_in hP hK hN) rfl hl.1 rfl (Nat.le_of_ble_eq_true rfl) dX4_differs_46) ?_
    refine ri_ifne_b (tgt := 66) hx hb dX4_differs_49 (by decide) (fun h49 => ?_) (fun h49 => ?_)
    · skip
      refine ri_iconst hx hb dX4_differs_66 ?_
      exact ri_zret hx hb hr hlocks (bp_01 _) dX4_differs_67 ((bp_f (fun q => (dif_lo.mp q).2.1 h49)).symm)
    · skip
      refine lv_aload_n hx hb dX4_differs_52 rfl (lv_at hl 1 rfl) ?_
      refine lv_iload_n hx hb dX4_differs_53 rfl (lv_at hl 3 rfl) ?_
      refine lv_iload hx hb dX4_differs_54 (lv_at hl 5 rfl) ?_
      refine ri_rd (ri_runV (b := a 0) (As := [.int (iI t), .int (iI cl)]) (rest := []) CF (k_X4_isLeftOut l D a kk g t cl hM (by omega) (by omega)) gX4_differs_X4_isLeftOut f_X4_isLeftOut rfl (va_recv hK hP (ci := 4) (q0 := 0) rfl rfl) ⟨rfl, rfl, Nat.le_of_ble_eq_true rfl, Nat.le_of_ble_eq_true rfl, Nat.le_of_ble_eq_true rfl, Nat.le_of_ble_eq_true rfl⟩ wB_bl (wB_in hP hK hN) rfl hl.1 rfl (Nat.le_of_ble_eq_true rfl) dX4_differs_56) ?_
      refine ri_ifne_b (tgt := 66) hx hb dX4_differs_59 (by decide) (fun h59 => ?_) (fun h59 => ?_)
      · skip
        refine ri_iconst hx hb dX4_differs_66 ?_
        exact ri_zret hx hb hr hlocks (bp_01 _) dX4_differs_67 ((bp_f (fun q => (dif_lo.mp q).2.2 h59)).symm)
      · skip
        refine ri_iconst hx hb dX4_differs_62 ?_
        refine lv_goto (tgt := 67) hx hb dX4_differs_63 (by decide) ?_
        exact ri_zret hx hb hr hlocks (bp_01 _) dX4_differs_67 ((bp_t (dif_lo.mpr ⟨h37, h49, h59⟩)).symm)

theorem f_X4_first : MF yX4_first wsX4_first cX4_first 5 (some .int) 3 := ⟨⟨_, rfl⟩, by decide +kernel, by decide +kernel, by decide +kernel⟩
set_option maxHeartbeats 4000000 in
set_option maxRecDepth 100000 in
theorem k_X4_first (l : Launch) (D : va_G) (a : Nat → Nat) (kk : Nat → ClassId) (g : Nat → Nat → Int) (b : Int) (t : Int) (n : Int) (hM : MInv g) (yb : 0 ≤ b ∧ b ≤ 3) (yt : 0 ≤ t ∧ t ≤ 4) (yn : 0 ≤ n ∧ n ≤ 255) : RD l yX4_first wsX4_first ({ frames := 4, cells := 0, slots := 0, locals := 101 }) [.ref (a 0), .int (iI b), .int (iI t), .int (iI n)] (wB D kk (mW a kk g)) (fdE (fun k9 : Int => difP (px (g 1) t) (px (g 2) (5 * b + t)) n (g 4 (4 * t).toNat) (g 4 (4 * t + 1).toNat) (g 4 (4 * t).toNat + g 4 (4 * t + 2).toNat) (g 4 (4 * t + 1).toNat + g 4 (4 * t + 3).toNat) (g 5 (4 * t).toNat) (g 5 (4 * t + 1).toNat) (g 5 (4 * t).toNat + g 5 (4 * t + 2).toNat) (g 5 (4 * t + 1).toNat + g 5 (4 * t + 3).toNat) (g 0 8) (g 0 9) (k9 % 8) (k9 / 8))) := by
  refine ri_ent (cc := cX4_first) (maxL := 5) (ret := some .int) (by decide) rfl (Nat.le_of_ble_eq_true rfl) ?_
  intro zp ze s zm zb zt zc hx hb hr hts hown hlocks hml hin hB ls hl
  have hown : s.vm.findClass RX4 = some zm.cls := hown
  have CF : CallFix zp zm zc cX4_first 5 s ([.ref (a 0), .int (iI b), .int (iI t), .int (iI n)] : List Value).toArray wsX4_first RX4 := ⟨hx, hb, hml, hown, hts⟩
  obtain ⟨hP, hK, hN⟩ := hB
  have hl : lv_has ls 5 [(0, .ref (a 0)), (1, .int (iI b)), (2, .int (iI t)), (3, .int (iI n))] := hl
  refine ri_iconst hx hb dX4_first_0 ?_
  refine lv_istore (lv' := [(4, .int (iI 0)), (0, .ref (a 0)), (1, .int (iI b)), (2, .int (iI t)), (3, .int (iI n))]) hx hb dX4_first_1 hl (by decide) rfl (fun ls hl => ?_)
  have L3 : ∀ (n3 : Nat) (i : Int), (0 ≤ i ∧ i ≤ 64) → (∀ k : Int, 0 ≤ k → k < i → ¬ (fun k9 : Int => difP (px (g 1) t) (px (g 2) (5 * b + t)) n (g 4 (4 * t).toNat) (g 4 (4 * t + 1).toNat) (g 4 (4 * t).toNat + g 4 (4 * t + 2).toNat) (g 4 (4 * t + 1).toNat + g 4 (4 * t + 3).toNat) (g 5 (4 * t).toNat) (g 5 (4 * t + 1).toNat) (g 5 (4 * t).toNat + g 5 (4 * t + 2).toNat) (g 5 (4 * t + 1).toNat + g 5 (4 * t + 3).toNat) (g 0 8) (g 0 9) (k9 % 8) (k9 / 8)) k) → ((64 - i).toNat < n3) → ∀ (ls : Array Slot), lv_has ls 5 [(0, .ref (a 0)), (1, .int (iI b)), (2, .int (iI t)), (3, .int (iI n)), (4, .int (iI i))] → W zp l ze ({ frames := 4, cells := 0, slots := 0, locals := 101 }) s zm ([.ref (a 0), .int (iI b), .int (iI t), .int (iI n)] : List Value).toArray zb zt zc s.heap [] 0 0 (MQ zb (vp_Si (fun r9 => r9 = iI (fdE (fun k9 : Int => difP (px (g 1) t) (px (g 2) (5 * b + t)) n (g 4 (4 * t).toNat) (g 4 (4 * t + 1).toNat) (g 4 (4 * t).toNat + g 4 (4 * t + 2).toNat) (g 4 (4 * t + 1).toNat + g 4 (4 * t + 3).toNat) (g 5 (4 * t).toNat) (g 5 (4 * t + 1).toNat) (g 5 (4 * t).toNat + g 5 (4 * t + 2).toNat) (g 5 (4 * t + 1).toNat + g 5 (4 * t + 3).toNat) (g 0 8) (g 0 9) (k9 % 8) (k9 / 8))))) ([.ref (a 0), .int (iI b), .int (iI t), .int (iI n)] : List Value).toArray s 0 0 (fun _ => False)) (F0 zm 3 ls []) := by
    intro n3
    induction n3 with
    | zero => intro i hi hall hm; exact absurd hm (Nat.not_lt_zero _)
    | succ n3 ih3 =>
      intro i hi hall hm3 ls hl
      refine lv_iload hx hb dX4_first_3 (lv_at hl 4 rfl) ?_
      refine ri_bipush hx hb dX4_first_5 (by decide) ?_
      refine ri_icmp_ge (tgt := 31) hx hb (by omega) dX4_first_7 (by decide) (fun c_1 => ?_) (fun c_1 => ?_)
      · skip
        refine ri_iconst hx hb dX4_first_31 ?_
        exact ri_iret hx hb hr hlocks dX4_first_32 (fdE_eq (D := (fun k9 : Int => difP (px (g 1) t) (px (g 2) (5 * b + t)) n (g 4 (4 * t).toNat) (g 4 (4 * t + 1).toNat) (g 4 (4 * t).toNat + g 4 (4 * t + 2).toNat) (g 4 (4 * t + 1).toNat + g 4 (4 * t + 3).toNat) (g 5 (4 * t).toNat) (g 5 (4 * t + 1).toNat) (g 5 (4 * t).toNat + g 5 (4 * t + 2).toNat) (g 5 (4 * t + 1).toNat + g 5 (4 * t + 3).toNat) (g 0 8) (g 0 9) (k9 % 8) (k9 / 8))) (Or.inl ⟨rfl, fun k h1 h2 => hall k h1 (by omega)⟩))
      · skip
        refine lv_aload_n hx hb dX4_first_10 rfl (lv_at hl 0 rfl) ?_
        refine lv_iload_n hx hb dX4_first_11 rfl (lv_at hl 1 rfl) ?_
        refine lv_iload_n hx hb dX4_first_12 rfl (lv_at hl 2 rfl) ?_
        refine lv_iload_n hx hb dX4_first_13 rfl (lv_at hl 3 rfl) ?_
        refine lv_iload hx hb dX4_first_14 (lv_at hl 4 rfl) ?_
        refine ri_rd (ri_runV (b := a 0) (As := [.int (iI b), .int (iI t), .int (iI n), .int (iI i)]) (rest := []) CF (k_X4_differs l D a kk g b t n i hM (by omega) (by omega) (by omega) (by omega)) gX4_first_X4_differs f_X4_differs rfl (va_recv hK hP (ci := 4) (q0 := 0) rfl rfl) ⟨rfl, rfl, Nat.le_of_ble_eq_true rfl, Nat.le_of_ble_eq_true rfl, Nat.le_of_ble_eq_true rfl, Nat.le_of_ble_eq_true rfl⟩ wB_bl (wB_in hP hK hN) rfl hl.1 rfl (Nat.le_of_ble_eq_true rfl) dX4_first_16) ?_
        refine ri_ifeq_b (tgt := 25) hx hb dX4_first_19 (by decide) (fun h19 => ?_) (fun h19 => ?_)
        · skip
          refine ri_iinc (lv' := [(4, .int (iI (i + 1))), (0, .ref (a 0)), (1, .int (iI b)), (2, .int (iI t)), (3, .int (iI n))]) hx hb dX4_first_25 hl (k := 4) rfl (by decide) rfl (fun ls hl => ?_)
          refine lv_goto (tgt := 3) hx hb dX4_first_28 (by decide) ?_
          exact ih3 (i + 1) (by omega) (fun k h1 h2 => (Int.lt_or_eq_of_le (show k ≤ i by omega)).elim (fun q => hall k h1 q) (fun q => by rw [q]; exact h19)) (by omega) ls (lv_sub hl [1, 2, 3, 4, 0] rfl)
        · skip
          refine lv_iload hx hb dX4_first_22 (lv_at hl 4 rfl) ?_
          exact ri_iret hx hb hr hlocks dX4_first_24 (fdE_eq (D := (fun k9 : Int => difP (px (g 1) t) (px (g 2) (5 * b + t)) n (g 4 (4 * t).toNat) (g 4 (4 * t + 1).toNat) (g 4 (4 * t).toNat + g 4 (4 * t + 2).toNat) (g 4 (4 * t + 1).toNat + g 4 (4 * t + 3).toNat) (g 5 (4 * t).toNat) (g 5 (4 * t + 1).toNat) (g 5 (4 * t).toNat + g 5 (4 * t + 2).toNat) (g 5 (4 * t + 1).toNat + g 5 (4 * t + 3).toNat) (g 0 8) (g 0 9) (k9 % 8) (k9 / 8))) (Or.inr ⟨by omega, h19, hall⟩))
  exact L3 65 (0) (by omega) (fun k h1 h2 => absurd h2 (by omega)) (by decide) ls (lv_sub hl [1, 2, 3, 4, 0] rfl)

theorem f_X4_areSame : MF yX4_areSame wsX4_areSame cX4_areSame 5 (some .boolean) 2 := ⟨⟨_, rfl⟩, by decide +kernel, by decide +kernel, by decide +kernel⟩
set_option maxHeartbeats 4000000 in
set_option maxRecDepth 100000 in
theorem k_X4_areSame (l : Launch) (D : va_G) (a : Nat → Nat) (kk : Nat → ClassId) (g : Nat → Nat → Int) (y : Int) (z : Int) (hM : MInv g) (yy : 0 ≤ y ∧ y ≤ 34) (yz : 0 ≤ z ∧ z ≤ 34) : RD l yX4_areSame wsX4_areSame ({ frames := 0, cells := 0, slots := 0, locals := 0 }) [.ref (a 0), .int (iI y), .int (iI z)] (wB D kk (mW a kk g)) (bp (sameP (g 2) (g 3) y z)) := by
  refine ri_ent (cc := cX4_areSame) (maxL := 5) (ret := some .boolean) (by decide) rfl (Nat.le_of_ble_eq_true rfl) ?_
  intro zp ze s zm zb zt zc hx hb hr hts hown hlocks hml hin hB ls hl
  have hown : s.vm.findClass RX4 = some zm.cls := hown
  have CF : CallFix zp zm zc cX4_areSame 5 s ([.ref (a 0), .int (iI y), .int (iI z)] : List Value).toArray wsX4_areSame RX4 := ⟨hx, hb, hml, hown, hts⟩
  obtain ⟨hP, hK, hN⟩ := hB
  have hinX4 : ∀ w ∈ wsX40, w ∈ wsX4_areSame := (fun _ h => List.mem_cons_of_mem _ (List.mem_append_right _ h))
  have hl : lv_has ls 5 [(0, .ref (a 0)), (1, .int (iI y)), (2, .int (iI z))] := hl
  have f3y := hM.2.2.1 y.toNat (by omega)
  have f3z := hM.2.2.1 z.toNat (by omega)
  have J20 : W zp l ze ({ frames := 0, cells := 0, slots := 0, locals := 0 }) s zm ([.ref (a 0), .int (iI y), .int (iI z)] : List Value).toArray zb zt zc s.heap [] 0 0 (MQ zb (vp_Si (fun r9 => r9 = iI (bp (sameP (g 2) (g 3) y z)))) ([.ref (a 0), .int (iI y), .int (iI z)] : List Value).toArray s 0 0 (fun _ => False)) (F0 zm 20 ls [.int (iI (bp (g 3 y.toNat = g 3 z.toNat)))]) := by
    refine lv_istore_n (lv' := [(3, .int (iI (bp (g 3 y.toNat = g 3 z.toNat)))), (0, .ref (a 0)), (1, .int (iI y)), (2, .int (iI z))]) hx hb dX4_areSame_20 rfl hl (by decide) rfl (fun ls hl => ?_)
    refine ri_iconst hx hb dX4_areSame_21 ?_
    refine lv_istore (lv' := [(4, .int (iI 0)), (3, .int (iI (bp (g 3 y.toNat = g 3 z.toNat)))), (0, .ref (a 0)), (1, .int (iI y)), (2, .int (iI z))]) hx hb dX4_areSame_22 hl (by decide) rfl (fun ls hl => ?_)
    have L24 : ∀ (n24 : Nat) (ar : Int) (k : Int), (0 ≤ k ∧ k ≤ 64) → (k = 0 ∨ g 3 y.toNat = 1) → (ar = bp (samK (g 2) (g 3) y z k)) → ((64 - k).toNat < n24) → ∀ (ls : Array Slot), lv_has ls 5 [(0, .ref (a 0)), (1, .int (iI y)), (2, .int (iI z)), (3, .int (iI ar)), (4, .int (iI k))] → W zp l ze ({ frames := 0, cells := 0, slots := 0, locals := 0 }) s zm ([.ref (a 0), .int (iI y), .int (iI z)] : List Value).toArray zb zt zc s.heap [] 0 0 (MQ zb (vp_Si (fun r9 => r9 = iI (bp (sameP (g 2) (g 3) y z)))) ([.ref (a 0), .int (iI y), .int (iI z)] : List Value).toArray s 0 0 (fun _ => False)) (F0 zm 24 ls []) := by
      intro n24
      induction n24 with
      | zero => intro ar k hk hkp har hm; exact absurd hm (Nat.not_lt_zero _)
      | succ n24 ih24 =>
        intro ar k hk hkp har hm24 ls hl
        have hdr := bp_r (samK (g 2) (g 3) y z k)
        refine lv_iload hx hb dX4_areSame_24 (lv_at hl 4 rfl) ?_
        refine ri_bipush hx hb dX4_areSame_26 (by decide) ?_
        refine ri_icmp_ge (tgt := 83) hx hb (by omega) dX4_areSame_28 (by decide) (fun h28 => ?_) (fun h28 => ?_)
        · skip
          refine lv_iload_n hx hb dX4_areSame_83 rfl (lv_at hl 3 rfl) ?_
          exact ri_zret hx hb hr hlocks (bp_01 _) dX4_areSame_84 (har.trans (bp_c ⟨fun q => ⟨q.1, fun _ j a1 a2 => q.2 j a1 (by omega)⟩, fun q => ⟨q.1, fun j a1 a2 => q.2 (by omega) j a1 (by omega)⟩⟩))
        · skip
          refine lv_aload_n hx hb dX4_areSame_31 rfl (lv_at hl 0 rfl) ?_
          refine va_get (D := D) (ci := 4) (v := .ref (a 3)) (C := RX4) (T := TX4) (N := 10) hx hb hts hinX4 hown hK hP 0 rfl rfl 3 (by decide) (hts _ (List.mem_of_getElem? (i := 1) rfl)) (fun _ h9 => h9) rfl dX4_areSame_32 ?_
          refine lv_iload_n hx hb dX4_areSame_35 rfl (lv_at hl 1 rfl) ?_
          refine ri_zald hx hb hK hP 3 1 rfl rfl (by omega) (by decide) dX4_areSame_36 ?_
          have f_1 := hM.2.2.1 y.toNat (by omega)
          refine ri_if_eq (tgt := 83) hx hb (by omega) dX4_areSame_37 (by decide) (fun h37 => ?_) (fun h37 => ?_)
          · skip
            refine lv_iload_n hx hb dX4_areSame_83 rfl (lv_at hl 3 rfl) ?_
            exact ri_zret hx hb hr hlocks (bp_01 _) dX4_areSame_84 (har.trans (bp_c ⟨fun q => ⟨q.1, fun h1 => absurd h1 (by omega)⟩, fun q => ⟨q.1, fun j a1 a2 => absurd a2 (by omega)⟩⟩))
          · skip
            refine lv_iload_n hx hb dX4_areSame_40 rfl (lv_at hl 3 rfl) ?_
            refine ri_if_eq (tgt := 75) hx hb (by omega) dX4_areSame_41 (by decide) (fun h41 => ?_) (fun h41 => ?_)
            · skip
              refine ri_iconst hx hb dX4_areSame_75 ?_
              refine lv_istore_n (lv' := [(3, .int (iI 0)), (0, .ref (a 0)), (1, .int (iI y)), (2, .int (iI z)), (4, .int (iI k))]) hx hb dX4_areSame_76 rfl hl (by decide) rfl (fun ls hl => ?_)
              refine ri_iinc (lv' := [(4, .int (iI (k + 1))), (3, .int (iI 0)), (0, .ref (a 0)), (1, .int (iI y)), (2, .int (iI z))]) hx hb dX4_areSame_77 hl (k := 4) rfl (by decide) rfl (fun ls hl => ?_)
              refine lv_goto (tgt := 24) hx hb dX4_areSame_80 (by decide) ?_
              exact ih24 (0) (k + 1) (by omega) (by omega) ((bp_f (fun q => bp_0.mp (har.symm.trans h41) ⟨q.1, fun j a1 a2 => q.2 j a1 (by omega)⟩)).symm) (by omega) ls (lv_sub hl [2, 3, 4, 1, 0] rfl)
            · skip
              refine lv_aload_n hx hb dX4_areSame_44 rfl (lv_at hl 0 rfl) ?_
              refine va_get (D := D) (ci := 4) (v := .ref (a 2)) (C := RX4) (T := TX4) (N := 10) hx hb hts hinX4 hown hK hP 0 rfl rfl 2 (by decide) (hts _ (List.mem_of_getElem? (i := 2) rfl)) (fun _ h9 => h9) rfl dX4_areSame_45 ?_
              refine ri_bipush hx hb dX4_areSame_48 (by decide) ?_
              refine lv_iload_n hx hb dX4_areSame_50 rfl (lv_at hl 1 rfl) ?_
              refine ri_imul hx hb dX4_areSame_51 ?_
              refine lv_iload hx hb dX4_areSame_52 (lv_at hl 4 rfl) ?_
              refine ri_iadd hx hb dX4_areSame_54 ?_
              refine ri_iald hx hb hK hP 2 0 rfl rfl (by omega) (by decide) dX4_areSame_55 ?_
              have f_2 := hM.2.1 ((64 * y) + k).toNat (by omega)
              have x_3 := hM.2.1 (y * 64 + k).toNat (by omega)
              refine ri_eq (y := g 2 (y * 64 + k).toNat) (by congr 1; omega) ?_
              refine lv_aload_n hx hb dX4_areSame_56 rfl (lv_at hl 0 rfl) ?_
              refine va_get (D := D) (ci := 4) (v := .ref (a 2)) (C := RX4) (T := TX4) (N := 10) hx hb hts hinX4 hown hK hP 0 rfl rfl 2 (by decide) (hts _ (List.mem_of_getElem? (i := 2) rfl)) (fun _ h9 => h9) rfl dX4_areSame_57 ?_
              refine ri_bipush hx hb dX4_areSame_60 (by decide) ?_
              refine lv_iload_n hx hb dX4_areSame_62 rfl (lv_at hl 2 rfl) ?_
              refine ri_imul hx hb dX4_areSame_63 ?_
              refine lv_iload hx hb dX4_areSame_64 (lv_at hl 4 rfl) ?_
              refine ri_iadd hx hb dX4_areSame_66 ?_
              refine ri_iald hx hb hK hP 2 0 rfl rfl (by omega) (by decide) dX4_areSame_67 ?_
              have f_4 := hM.2.1 ((64 * z) + k).toNat (by omega)
              have x_5 := hM.2.1 (z * 64 + k).toNat (by omega)
              refine ri_eq (y := g 2 (z * 64 + k).toNat) (by congr 1; omega) ?_
              refine ri_icmp_ne (tgt := 75) hx hb (by omega) dX4_areSame_68 (by decide) (fun h68 => ?_) (fun h68 => ?_)
              · skip
                refine ri_iconst hx hb dX4_areSame_75 ?_
                refine lv_istore_n (lv' := [(3, .int (iI 0)), (0, .ref (a 0)), (1, .int (iI y)), (2, .int (iI z)), (4, .int (iI k))]) hx hb dX4_areSame_76 rfl hl (by decide) rfl (fun ls hl => ?_)
                refine ri_iinc (lv' := [(4, .int (iI (k + 1))), (3, .int (iI 0)), (0, .ref (a 0)), (1, .int (iI y)), (2, .int (iI z))]) hx hb dX4_areSame_77 hl (k := 4) rfl (by decide) rfl (fun ls hl => ?_)
                refine lv_goto (tgt := 24) hx hb dX4_areSame_80 (by decide) ?_
                exact ih24 (0) (k + 1) (by omega) (by omega) ((bp_f (fun q => h68 (q.2 k (by omega) (by omega)))).symm) (by omega) ls (lv_sub hl [2, 3, 4, 1, 0] rfl)
              · skip
                refine ri_iconst hx hb dX4_areSame_71 ?_
                refine lv_goto (tgt := 76) hx hb dX4_areSame_72 (by decide) ?_
                refine lv_istore_n (lv' := [(3, .int (iI 1)), (0, .ref (a 0)), (1, .int (iI y)), (2, .int (iI z)), (4, .int (iI k))]) hx hb dX4_areSame_76 rfl hl (by decide) rfl (fun ls hl => ?_)
                refine ri_iinc (lv' := [(4, .int (iI (k + 1))), (3, .int (iI 1)), (0, .ref (a 0)), (1, .int (iI y)), (2, .int (iI z))]) hx hb dX4_areSame_77 hl (k := 4) rfl (by decide) rfl (fun ls hl => ?_)
                refine lv_goto (tgt := 24) hx hb dX4_areSame_80 (by decide) ?_
                exact ih24 (1) (k + 1) (by omega) (by omega) ((bp_t ⟨(bp_1.mp (show bp (samK (g 2) (g 3) y z k) = 1 by omega)).1, fun j a1 a2 => (Int.lt_or_eq_of_le (show j ≤ k by omega)).elim (fun q => (bp_1.mp (show bp (samK (g 2) (g 3) y z k) = 1 by omega)).2 j a1 q) (fun q => by rw [q]; exact h68)⟩).symm) (by omega) ls (lv_sub hl [2, 3, 4, 1, 0] rfl)
    exact L24 65 (_) (0) (by omega) (Or.inl rfl) (bp_c ⟨fun q => ⟨by omega, fun j a1 a2 => absurd a2 (by omega)⟩, fun q => by have := q.1; omega⟩) (by decide) ls (lv_sub hl [2, 3, 4, 1, 0] rfl)
  refine lv_aload_n hx hb dX4_areSame_0 rfl (lv_at hl 0 rfl) ?_
  refine va_get (D := D) (ci := 4) (v := .ref (a 3)) (C := RX4) (T := TX4) (N := 10) hx hb hts hinX4 hown hK hP 0 rfl rfl 3 (by decide) (hts _ (List.mem_of_getElem? (i := 1) rfl)) (fun _ h9 => h9) rfl dX4_areSame_1 ?_
  refine lv_iload_n hx hb dX4_areSame_4 rfl (lv_at hl 1 rfl) ?_
  refine ri_zald hx hb hK hP 3 1 rfl rfl (by omega) (by decide) dX4_areSame_5 ?_
  have f_6 := hM.2.2.1 y.toNat (by omega)
  refine lv_aload_n hx hb dX4_areSame_6 rfl (lv_at hl 0 rfl) ?_
  refine va_get (D := D) (ci := 4) (v := .ref (a 3)) (C := RX4) (T := TX4) (N := 10) hx hb hts hinX4 hown hK hP 0 rfl rfl 3 (by decide) (hts _ (List.mem_of_getElem? (i := 1) rfl)) (fun _ h9 => h9) rfl dX4_areSame_7 ?_
  refine lv_iload_n hx hb dX4_areSame_10 rfl (lv_at hl 2 rfl) ?_
  refine ri_zald hx hb hK hP 3 1 rfl rfl (by omega) (by decide) dX4_areSame_11 ?_
  have f_7 := hM.2.2.1 z.toNat (by omega)
  refine ri_icmp_ne (tgt := 19) hx hb (by omega) dX4_areSame_12 (by decide) (fun c_8 => ?_) (fun c_8 => ?_)
  · skip
    refine ri_iconst hx hb dX4_areSame_19 ?_
    exact ri_eq ((bp_f (by omega)).symm) J20
  · skip
    refine ri_iconst hx hb dX4_areSame_15 ?_
    refine lv_goto (tgt := 20) hx hb dX4_areSame_16 (by decide) ?_
    exact ri_eq ((bp_t (by omega)).symm) J20
