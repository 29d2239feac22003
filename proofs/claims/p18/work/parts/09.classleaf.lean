theorem f_X3_isWithin : MF yX3_isWithin wsX3_isWithin cX3_isWithin 3 (some .boolean) 3 := ⟨⟨_, rfl⟩, by decide +kernel, by decide +kernel, by decide +kernel⟩
set_option maxHeartbeats 4000000 in
set_option maxRecDepth 100000 in
theorem k_X3_isWithin (l : Launch) (v : Int) (lo : Int) (hi : Int) (yv : -2147483648 ≤ v ∧ v < 2147483648) (ylo : -2147483648 ≤ lo ∧ lo < 2147483648) (yhi : -2147483648 ≤ hi ∧ hi < 2147483648) : RD l yX3_isWithin wsX3_isWithin ({ frames := 0, cells := 0, slots := 0, locals := 0 }) [.int (iI v), .int (iI lo), .int (iI hi)] tB (bp (lo ≤ v ∧ v ≤ hi)) := by
  refine ri_ent (cc := cX3_isWithin) (maxL := 3) (ret := some .boolean) (by decide) rfl (Nat.le_of_ble_eq_true rfl) ?_
  intro zp ze s zm zb zt zc hx hb hr hts hown hlocks hml hin hB ls hl
  have hown : s.vm.findClass RX3 = some zm.cls := hown
  have CF : CallFix zp zm zc cX3_isWithin 3 s ([.int (iI v), .int (iI lo), .int (iI hi)] : List Value).toArray wsX3_isWithin RX3 := ⟨hx, hb, hml, hown, hts⟩
  have hl : lv_has ls 3 [(0, .int (iI v)), (1, .int (iI lo)), (2, .int (iI hi))] := hl
  refine lv_iload_n hx hb dX3_isWithin_0 rfl (lv_at hl 0 rfl) ?_
  refine lv_iload_n hx hb dX3_isWithin_1 rfl (lv_at hl 1 rfl) ?_
  refine ri_icmp_lt (tgt := 14) hx hb (by omega) dX3_isWithin_2 (by decide) (fun c_1 => ?_) (fun c_1 => ?_)
  · skip
    refine ri_iconst hx hb dX3_isWithin_14 ?_
    exact ri_zret hx hb hr hlocks (bp_01 _) dX3_isWithin_15 ((bp_f (by omega)).symm)
  · skip
    refine lv_iload_n hx hb dX3_isWithin_5 rfl (lv_at hl 0 rfl) ?_
    refine lv_iload_n hx hb dX3_isWithin_6 rfl (lv_at hl 2 rfl) ?_
    refine ri_icmp_gt (tgt := 14) hx hb (by omega) dX3_isWithin_7 (by decide) (fun c_2 => ?_) (fun c_2 => ?_)
    · skip
      refine ri_iconst hx hb dX3_isWithin_14 ?_
      exact ri_zret hx hb hr hlocks (bp_01 _) dX3_isWithin_15 ((bp_f (by omega)).symm)
    · skip
      refine ri_iconst hx hb dX3_isWithin_10 ?_
      refine lv_goto (tgt := 15) hx hb dX3_isWithin_11 (by decide) ?_
      exact ri_zret hx hb hr hlocks (bp_01 _) dX3_isWithin_15 ((bp_t (by omega)).symm)

theorem f_X3_isTest : MF yX3_isTest wsX3_isTest cX3_isTest 1 (some .boolean) 1 := ⟨⟨_, rfl⟩, by decide +kernel, by decide +kernel, by decide +kernel⟩
set_option maxHeartbeats 4000000 in
set_option maxRecDepth 100000 in
theorem k_X3_isTest (l : Launch) (v : Int) (yv : -2147483648 ≤ v ∧ v < 2147483648) : RD l yX3_isTest wsX3_isTest ({ frames := 1, cells := 0, slots := 0, locals := 22 }) [.int (iI v)] tB (bp (0 ≤ v ∧ v ≤ 4)) := by
  refine ri_ent (cc := cX3_isTest) (maxL := 1) (ret := some .boolean) (by decide) rfl (Nat.le_of_ble_eq_true rfl) ?_
  intro zp ze s zm zb zt zc hx hb hr hts hown hlocks hml hin hB ls hl
  have hown : s.vm.findClass RX3 = some zm.cls := hown
  have CF : CallFix zp zm zc cX3_isTest 1 s ([.int (iI v)] : List Value).toArray wsX3_isTest RX3 := ⟨hx, hb, hml, hown, hts⟩
  have hl : lv_has ls 1 [(0, .int (iI v))] := hl
  refine lv_iload_n hx hb dX3_isTest_0 rfl (lv_at hl 0 rfl) ?_
  refine ri_iconst hx hb dX3_isTest_1 ?_
  refine ri_iconst hx hb dX3_isTest_2 ?_
  refine ri_rd (ri_runS (As := [.int (iI v), .int (iI 0), .int (iI 4)]) (rest := []) CF (k_X3_isWithin l v 0 4 (by omega) (by omega) (by omega)) gX3_isTest_X3_isWithin f_X3_isWithin ⟨rfl, rfl, Nat.le_of_ble_eq_true rfl, Nat.le_of_ble_eq_true rfl, Nat.le_of_ble_eq_true rfl, Nat.le_of_ble_eq_true rfl⟩ tB_bl tB_in rfl hl.1 rfl (Nat.le_of_ble_eq_true rfl) dX3_isTest_3) ?_
  exact ri_zret hx hb hr hlocks (bp_01 _) dX3_isTest_6 (rfl)

theorem f_X3_isBranch : MF yX3_isBranch wsX3_isBranch cX3_isBranch 1 (some .boolean) 1 := ⟨⟨_, rfl⟩, by decide +kernel, by decide +kernel, by decide +kernel⟩
set_option maxHeartbeats 4000000 in
set_option maxRecDepth 100000 in
theorem k_X3_isBranch (l : Launch) (v : Int) (yv : -2147483648 ≤ v ∧ v < 2147483648) : RD l yX3_isBranch wsX3_isBranch ({ frames := 1, cells := 0, slots := 0, locals := 22 }) [.int (iI v)] tB (bp (0 ≤ v ∧ v ≤ 3)) := by
  refine ri_ent (cc := cX3_isBranch) (maxL := 1) (ret := some .boolean) (by decide) rfl (Nat.le_of_ble_eq_true rfl) ?_
  intro zp ze s zm zb zt zc hx hb hr hts hown hlocks hml hin hB ls hl
  have hown : s.vm.findClass RX3 = some zm.cls := hown
  have CF : CallFix zp zm zc cX3_isBranch 1 s ([.int (iI v)] : List Value).toArray wsX3_isBranch RX3 := ⟨hx, hb, hml, hown, hts⟩
  have hl : lv_has ls 1 [(0, .int (iI v))] := hl
  refine lv_iload_n hx hb dX3_isBranch_0 rfl (lv_at hl 0 rfl) ?_
  refine ri_iconst hx hb dX3_isBranch_1 ?_
  refine ri_iconst hx hb dX3_isBranch_2 ?_
  refine ri_rd (ri_runS (As := [.int (iI v), .int (iI 0), .int (iI 3)]) (rest := []) CF (k_X3_isWithin l v 0 3 (by omega) (by omega) (by omega)) gX3_isBranch_X3_isWithin f_X3_isWithin ⟨rfl, rfl, Nat.le_of_ble_eq_true rfl, Nat.le_of_ble_eq_true rfl, Nat.le_of_ble_eq_true rfl, Nat.le_of_ble_eq_true rfl⟩ tB_bl tB_in rfl hl.1 rfl (Nat.le_of_ble_eq_true rfl) dX3_isBranch_3) ?_
  exact ri_zret hx hb hr hlocks (bp_01 _) dX3_isBranch_6 (rfl)

theorem f_X3_isSideBranch : MF yX3_isSideBranch wsX3_isSideBranch cX3_isSideBranch 1 (some .boolean) 1 := ⟨⟨_, rfl⟩, by decide +kernel, by decide +kernel, by decide +kernel⟩
set_option maxHeartbeats 4000000 in
set_option maxRecDepth 100000 in
theorem k_X3_isSideBranch (l : Launch) (v : Int) (yv : -2147483648 ≤ v ∧ v < 2147483648) : RD l yX3_isSideBranch wsX3_isSideBranch ({ frames := 1, cells := 0, slots := 0, locals := 22 }) [.int (iI v)] tB (bp (1 ≤ v ∧ v ≤ 3)) := by
  refine ri_ent (cc := cX3_isSideBranch) (maxL := 1) (ret := some .boolean) (by decide) rfl (Nat.le_of_ble_eq_true rfl) ?_
  intro zp ze s zm zb zt zc hx hb hr hts hown hlocks hml hin hB ls hl
  have hown : s.vm.findClass RX3 = some zm.cls := hown
  have CF : CallFix zp zm zc cX3_isSideBranch 1 s ([.int (iI v)] : List Value).toArray wsX3_isSideBranch RX3 := ⟨hx, hb, hml, hown, hts⟩
  have hl : lv_has ls 1 [(0, .int (iI v))] := hl
  refine lv_iload_n hx hb dX3_isSideBranch_0 rfl (lv_at hl 0 rfl) ?_
  refine ri_iconst hx hb dX3_isSideBranch_1 ?_
  refine ri_iconst hx hb dX3_isSideBranch_2 ?_
  refine ri_rd (ri_runS (As := [.int (iI v), .int (iI 1), .int (iI 3)]) (rest := []) CF (k_X3_isWithin l v 1 3 (by omega) (by omega) (by omega)) gX3_isSideBranch_X3_isWithin f_X3_isWithin ⟨rfl, rfl, Nat.le_of_ble_eq_true rfl, Nat.le_of_ble_eq_true rfl, Nat.le_of_ble_eq_true rfl, Nat.le_of_ble_eq_true rfl⟩ tB_bl tB_in rfl hl.1 rfl (Nat.le_of_ble_eq_true rfl) dX3_isSideBranch_3) ?_
  exact ri_zret hx hb hr hlocks (bp_01 _) dX3_isSideBranch_6 (rfl)

theorem f_X3_isShade : MF yX3_isShade wsX3_isShade cX3_isShade 1 (some .boolean) 1 := ⟨⟨_, rfl⟩, by decide +kernel, by decide +kernel, by decide +kernel⟩
set_option maxHeartbeats 4000000 in
set_option maxRecDepth 100000 in
theorem k_X3_isShade (l : Launch) (v : Int) (yv : -2147483648 ≤ v ∧ v < 2147483648) : RD l yX3_isShade wsX3_isShade ({ frames := 1, cells := 0, slots := 0, locals := 22 }) [.int (iI v)] tB (bp (0 ≤ v ∧ v ≤ 255)) := by
  refine ri_ent (cc := cX3_isShade) (maxL := 1) (ret := some .boolean) (by decide) rfl (Nat.le_of_ble_eq_true rfl) ?_
  intro zp ze s zm zb zt zc hx hb hr hts hown hlocks hml hin hB ls hl
  have hown : s.vm.findClass RX3 = some zm.cls := hown
  have CF : CallFix zp zm zc cX3_isShade 1 s ([.int (iI v)] : List Value).toArray wsX3_isShade RX3 := ⟨hx, hb, hml, hown, hts⟩
  have hl : lv_has ls 1 [(0, .int (iI v))] := hl
  refine lv_iload_n hx hb dX3_isShade_0 rfl (lv_at hl 0 rfl) ?_
  refine ri_iconst hx hb dX3_isShade_1 ?_
  refine ri_sipush hx hb dX3_isShade_2 (by decide) ?_
  refine ri_rd (ri_runS (As := [.int (iI v), .int (iI 0), .int (iI 255)]) (rest := []) CF (k_X3_isWithin l v 0 255 (by omega) (by omega) (by omega)) gX3_isShade_X3_isWithin f_X3_isWithin ⟨rfl, rfl, Nat.le_of_ble_eq_true rfl, Nat.le_of_ble_eq_true rfl, Nat.le_of_ble_eq_true rfl, Nat.le_of_ble_eq_true rfl⟩ tB_bl tB_in rfl hl.1 rfl (Nat.le_of_ble_eq_true rfl) dX3_isShade_5) ?_
  exact ri_zret hx hb hr hlocks (bp_01 _) dX3_isShade_8 (rfl)

theorem f_X3_isCell : MF yX3_isCell wsX3_isCell cX3_isCell 2 (some .boolean) 2 := ⟨⟨_, rfl⟩, by decide +kernel, by decide +kernel, by decide +kernel⟩
set_option maxHeartbeats 4000000 in
set_option maxRecDepth 100000 in
theorem k_X3_isCell (l : Launch) (c : Int) (r : Int) (yc : -2147483648 ≤ c ∧ c < 2147483648) (yr : -2147483648 ≤ r ∧ r < 2147483648) : RD l yX3_isCell wsX3_isCell ({ frames := 1, cells := 0, slots := 0, locals := 22 }) [.int (iI c), .int (iI r)] tB (bp ((0 ≤ c ∧ c ≤ 7) ∧ (0 ≤ r ∧ r ≤ 7))) := by
  refine ri_ent (cc := cX3_isCell) (maxL := 2) (ret := some .boolean) (by decide) rfl (Nat.le_of_ble_eq_true rfl) ?_
  intro zp ze s zm zb zt zc hx hb hr hts hown hlocks hml hin hB ls hl
  have hown : s.vm.findClass RX3 = some zm.cls := hown
  have CF : CallFix zp zm zc cX3_isCell 2 s ([.int (iI c), .int (iI r)] : List Value).toArray wsX3_isCell RX3 := ⟨hx, hb, hml, hown, hts⟩
  have hl : lv_has ls 2 [(0, .int (iI c)), (1, .int (iI r))] := hl
  refine lv_iload_n hx hb dX3_isCell_0 rfl (lv_at hl 0 rfl) ?_
  refine ri_iconst hx hb dX3_isCell_1 ?_
  refine ri_bipush hx hb dX3_isCell_2 (by decide) ?_
  refine ri_rd (ri_runS (As := [.int (iI c), .int (iI 0), .int (iI 7)]) (rest := []) CF (k_X3_isWithin l c 0 7 (by omega) (by omega) (by omega)) gX3_isCell_X3_isWithin f_X3_isWithin ⟨rfl, rfl, Nat.le_of_ble_eq_true rfl, Nat.le_of_ble_eq_true rfl, Nat.le_of_ble_eq_true rfl, Nat.le_of_ble_eq_true rfl⟩ tB_bl tB_in rfl hl.1 rfl (Nat.le_of_ble_eq_true rfl) dX3_isCell_4) ?_
  refine ri_ifeq_b (tgt := 24) hx hb dX3_isCell_7 (by decide) (fun c_1 => ?_) (fun c_1 => ?_)
  · skip
    refine ri_iconst hx hb dX3_isCell_24 ?_
    exact ri_zret hx hb hr hlocks (bp_01 _) dX3_isCell_25 ((bp_f (by omega)).symm)
  · skip
    refine lv_iload_n hx hb dX3_isCell_10 rfl (lv_at hl 1 rfl) ?_
    refine ri_iconst hx hb dX3_isCell_11 ?_
    refine ri_bipush hx hb dX3_isCell_12 (by decide) ?_
    refine ri_rd (ri_runS (As := [.int (iI r), .int (iI 0), .int (iI 7)]) (rest := []) CF (k_X3_isWithin l r 0 7 (by omega) (by omega) (by omega)) gX3_isCell_X3_isWithin f_X3_isWithin ⟨rfl, rfl, Nat.le_of_ble_eq_true rfl, Nat.le_of_ble_eq_true rfl, Nat.le_of_ble_eq_true rfl, Nat.le_of_ble_eq_true rfl⟩ tB_bl tB_in rfl hl.1 rfl (Nat.le_of_ble_eq_true rfl) dX3_isCell_14) ?_
    refine ri_ifeq_b (tgt := 24) hx hb dX3_isCell_17 (by decide) (fun c_2 => ?_) (fun c_2 => ?_)
    · skip
      refine ri_iconst hx hb dX3_isCell_24 ?_
      exact ri_zret hx hb hr hlocks (bp_01 _) dX3_isCell_25 ((bp_f (by omega)).symm)
    · skip
      refine ri_iconst hx hb dX3_isCell_20 ?_
      refine lv_goto (tgt := 25) hx hb dX3_isCell_21 (by decide) ?_
      exact ri_zret hx hb hr hlocks (bp_01 _) dX3_isCell_25 ((bp_t (by omega)).symm)

theorem f_X3_isRectangle : MF yX3_isRectangle wsX3_isRectangle cX3_isRectangle 4 (some .boolean) 4 := ⟨⟨_, rfl⟩, by decide +kernel, by decide +kernel, by decide +kernel⟩
set_option maxHeartbeats 4000000 in
set_option maxRecDepth 100000 in
theorem k_X3_isRectangle (l : Launch) (c : Int) (r : Int) (w : Int) (h : Int) (yc : -2147483648 ≤ c ∧ c < 2147483648) (yr : -2147483648 ≤ r ∧ r < 2147483648) (yw : -2147483648 ≤ w ∧ w < 2147483648) (yh : -2147483648 ≤ h ∧ h < 2147483648) : RD l yX3_isRectangle wsX3_isRectangle ({ frames := 2, cells := 0, slots := 0, locals := 43 }) [.int (iI c), .int (iI r), .int (iI w), .int (iI h)] tB (bp (((0 ≤ c ∧ c ≤ 7) ∧ (0 ≤ r ∧ r ≤ 7)) ∧ (1 ≤ w ∧ w ≤ 8 - c) ∧ (1 ≤ h ∧ h ≤ 8 - r))) := by
  refine ri_ent (cc := cX3_isRectangle) (maxL := 4) (ret := some .boolean) (by decide) rfl (Nat.le_of_ble_eq_true rfl) ?_
  intro zp ze s zm zb zt zc hx hb hr hts hown hlocks hml hin hB ls hl
  have hown : s.vm.findClass RX3 = some zm.cls := hown
  have CF : CallFix zp zm zc cX3_isRectangle 4 s ([.int (iI c), .int (iI r), .int (iI w), .int (iI h)] : List Value).toArray wsX3_isRectangle RX3 := ⟨hx, hb, hml, hown, hts⟩
  have hl : lv_has ls 4 [(0, .int (iI c)), (1, .int (iI r)), (2, .int (iI w)), (3, .int (iI h))] := hl
  refine lv_iload_n hx hb dX3_isRectangle_0 rfl (lv_at hl 0 rfl) ?_
  refine lv_iload_n hx hb dX3_isRectangle_1 rfl (lv_at hl 1 rfl) ?_
  refine ri_rd (ri_runS (As := [.int (iI c), .int (iI r)]) (rest := []) CF (k_X3_isCell l c r (by omega) (by omega)) gX3_isRectangle_X3_isCell f_X3_isCell ⟨rfl, rfl, Nat.le_of_ble_eq_true rfl, Nat.le_of_ble_eq_true rfl, Nat.le_of_ble_eq_true rfl, Nat.le_of_ble_eq_true rfl⟩ tB_bl tB_in rfl hl.1 rfl (Nat.le_of_ble_eq_true rfl) dX3_isRectangle_2) ?_
  refine ri_ifeq_b (tgt := 36) hx hb dX3_isRectangle_5 (by decide) (fun c_1 => ?_) (fun c_1 => ?_)
  · skip
    refine ri_iconst hx hb dX3_isRectangle_36 ?_
    exact ri_zret hx hb hr hlocks (bp_01 _) dX3_isRectangle_37 ((bp_f (by omega)).symm)
  · skip
    refine lv_iload_n hx hb dX3_isRectangle_8 rfl (lv_at hl 2 rfl) ?_
    refine ri_iconst hx hb dX3_isRectangle_9 ?_
    refine ri_bipush hx hb dX3_isRectangle_10 (by decide) ?_
    refine lv_iload_n hx hb dX3_isRectangle_12 rfl (lv_at hl 0 rfl) ?_
    refine ri_isub hx hb dX3_isRectangle_13 ?_
    refine ri_rd (ri_runS (As := [.int (iI w), .int (iI 1), .int (iI (8 - c))]) (rest := []) CF (k_X3_isWithin l w 1 (8 - c) (by omega) (by omega) (by omega)) gX3_isRectangle_X3_isWithin f_X3_isWithin ⟨rfl, rfl, Nat.le_of_ble_eq_true rfl, Nat.le_of_ble_eq_true rfl, Nat.le_of_ble_eq_true rfl, Nat.le_of_ble_eq_true rfl⟩ tB_bl tB_in rfl hl.1 rfl (Nat.le_of_ble_eq_true rfl) dX3_isRectangle_14) ?_
    refine ri_ifeq_b (tgt := 36) hx hb dX3_isRectangle_17 (by decide) (fun c_2 => ?_) (fun c_2 => ?_)
    · skip
      refine ri_iconst hx hb dX3_isRectangle_36 ?_
      exact ri_zret hx hb hr hlocks (bp_01 _) dX3_isRectangle_37 ((bp_f (by omega)).symm)
    · skip
      refine lv_iload_n hx hb dX3_isRectangle_20 rfl (lv_at hl 3 rfl) ?_
      refine ri_iconst hx hb dX3_isRectangle_21 ?_
      refine ri_bipush hx hb dX3_isRectangle_22 (by decide) ?_
      refine lv_iload_n hx hb dX3_isRectangle_24 rfl (lv_at hl 1 rfl) ?_
      refine ri_isub hx hb dX3_isRectangle_25 ?_
      refine ri_rd (ri_runS (As := [.int (iI h), .int (iI 1), .int (iI (8 - r))]) (rest := []) CF (k_X3_isWithin l h 1 (8 - r) (by omega) (by omega) (by omega)) gX3_isRectangle_X3_isWithin f_X3_isWithin ⟨rfl, rfl, Nat.le_of_ble_eq_true rfl, Nat.le_of_ble_eq_true rfl, Nat.le_of_ble_eq_true rfl, Nat.le_of_ble_eq_true rfl⟩ tB_bl tB_in rfl hl.1 rfl (Nat.le_of_ble_eq_true rfl) dX3_isRectangle_26) ?_
      refine ri_ifeq_b (tgt := 36) hx hb dX3_isRectangle_29 (by decide) (fun c_3 => ?_) (fun c_3 => ?_)
      · skip
        refine ri_iconst hx hb dX3_isRectangle_36 ?_
        exact ri_zret hx hb hr hlocks (bp_01 _) dX3_isRectangle_37 ((bp_f (by omega)).symm)
      · skip
        refine ri_iconst hx hb dX3_isRectangle_32 ?_
        refine lv_goto (tgt := 37) hx hb dX3_isRectangle_33 (by decide) ?_
        exact ri_zret hx hb hr hlocks (bp_01 _) dX3_isRectangle_37 ((bp_t (by omega)).symm)

theorem f_X3_pictureSlot : MF yX3_pictureSlot wsX3_pictureSlot cX3_pictureSlot 1 (some .int) 1 := ⟨⟨_, rfl⟩, by decide +kernel, by decide +kernel, by decide +kernel⟩
set_option maxHeartbeats 4000000 in
set_option maxRecDepth 100000 in
theorem k_X3_pictureSlot (l : Launch) (t : Int) : RD l yX3_pictureSlot wsX3_pictureSlot ({ frames := 0, cells := 0, slots := 0, locals := 0 }) [.int (iI t)] tB (t) := by
  refine ri_ent (cc := cX3_pictureSlot) (maxL := 1) (ret := some .int) (by decide) rfl (Nat.le_of_ble_eq_true rfl) ?_
  intro zp ze s zm zb zt zc hx hb hr hts hown hlocks hml hin hB ls hl
  have hown : s.vm.findClass RX3 = some zm.cls := hown
  have CF : CallFix zp zm zc cX3_pictureSlot 1 s ([.int (iI t)] : List Value).toArray wsX3_pictureSlot RX3 := ⟨hx, hb, hml, hown, hts⟩
  have hl : lv_has ls 1 [(0, .int (iI t))] := hl
  refine lv_iload_n hx hb dX3_pictureSlot_0 rfl (lv_at hl 0 rfl) ?_
  exact ri_iret hx hb hr hlocks dX3_pictureSlot_1 (by first | rfl | omega | (simp; done))

theorem f_X3_approvedSlot : MF yX3_approvedSlot wsX3_approvedSlot cX3_approvedSlot 2 (some .int) 2 := ⟨⟨_, rfl⟩, by decide +kernel, by decide +kernel, by decide +kernel⟩
set_option maxHeartbeats 4000000 in
set_option maxRecDepth 100000 in
theorem k_X3_approvedSlot (l : Launch) (b : Int) (t : Int) : RD l yX3_approvedSlot wsX3_approvedSlot ({ frames := 0, cells := 0, slots := 0, locals := 0 }) [.int (iI b), .int (iI t)] tB (5 + b * 5 + t) := by
  refine ri_ent (cc := cX3_approvedSlot) (maxL := 2) (ret := some .int) (by decide) rfl (Nat.le_of_ble_eq_true rfl) ?_
  intro zp ze s zm zb zt zc hx hb hr hts hown hlocks hml hin hB ls hl
  have hown : s.vm.findClass RX3 = some zm.cls := hown
  have CF : CallFix zp zm zc cX3_approvedSlot 2 s ([.int (iI b), .int (iI t)] : List Value).toArray wsX3_approvedSlot RX3 := ⟨hx, hb, hml, hown, hts⟩
  have hl : lv_has ls 2 [(0, .int (iI b)), (1, .int (iI t))] := hl
  refine ri_iconst hx hb dX3_approvedSlot_0 ?_
  refine lv_iload_n hx hb dX3_approvedSlot_1 rfl (lv_at hl 0 rfl) ?_
  refine ri_iconst hx hb dX3_approvedSlot_2 ?_
  refine ri_imul hx hb dX3_approvedSlot_3 ?_
  refine ri_iadd hx hb dX3_approvedSlot_4 ?_
  refine lv_iload_n hx hb dX3_approvedSlot_5 rfl (lv_at hl 1 rfl) ?_
  refine ri_iadd hx hb dX3_approvedSlot_6 ?_
  exact ri_iret hx hb hr hlocks dX3_approvedSlot_7 (by first | rfl | omega | (simp; done))

theorem f_X3_baseSlot : MF yX3_baseSlot wsX3_baseSlot cX3_baseSlot 2 (some .int) 2 := ⟨⟨_, rfl⟩, by decide +kernel, by decide +kernel, by decide +kernel⟩
set_option maxHeartbeats 4000000 in
set_option maxRecDepth 100000 in
theorem k_X3_baseSlot (l : Launch) (b : Int) (t : Int) : RD l yX3_baseSlot wsX3_baseSlot ({ frames := 0, cells := 0, slots := 0, locals := 0 }) [.int (iI b), .int (iI t)] tB (25 + b * 5 + t) := by
  refine ri_ent (cc := cX3_baseSlot) (maxL := 2) (ret := some .int) (by decide) rfl (Nat.le_of_ble_eq_true rfl) ?_
  intro zp ze s zm zb zt zc hx hb hr hts hown hlocks hml hin hB ls hl
  have hown : s.vm.findClass RX3 = some zm.cls := hown
  have CF : CallFix zp zm zc cX3_baseSlot 2 s ([.int (iI b), .int (iI t)] : List Value).toArray wsX3_baseSlot RX3 := ⟨hx, hb, hml, hown, hts⟩
  have hl : lv_has ls 2 [(0, .int (iI b)), (1, .int (iI t))] := hl
  refine ri_bipush hx hb dX3_baseSlot_0 (by decide) ?_
  refine lv_iload_n hx hb dX3_baseSlot_2 rfl (lv_at hl 0 rfl) ?_
  refine ri_iconst hx hb dX3_baseSlot_3 ?_
  refine ri_imul hx hb dX3_baseSlot_4 ?_
  refine ri_iadd hx hb dX3_baseSlot_5 ?_
  refine lv_iload_n hx hb dX3_baseSlot_6 rfl (lv_at hl 1 rfl) ?_
  refine ri_iadd hx hb dX3_baseSlot_7 ?_
  exact ri_iret hx hb hr hlocks dX3_baseSlot_8 (by first | rfl | omega | (simp; done))

theorem f_X3_columnOf : MF yX3_columnOf wsX3_columnOf cX3_columnOf 1 (some .int) 1 := ⟨⟨_, rfl⟩, by decide +kernel, by decide +kernel, by decide +kernel⟩
set_option maxHeartbeats 4000000 in
set_option maxRecDepth 100000 in
theorem k_X3_columnOf (l : Launch) (z : Int) (yz : 0 ≤ z ∧ z ≤ 63) : RD l yX3_columnOf wsX3_columnOf ({ frames := 0, cells := 0, slots := 0, locals := 0 }) [.int (iI z)] tB (z % 8) := by
  refine ri_ent (cc := cX3_columnOf) (maxL := 1) (ret := some .int) (by decide) rfl (Nat.le_of_ble_eq_true rfl) ?_
  intro zp ze s zm zb zt zc hx hb hr hts hown hlocks hml hin hB ls hl
  have hown : s.vm.findClass RX3 = some zm.cls := hown
  have CF : CallFix zp zm zc cX3_columnOf 1 s ([.int (iI z)] : List Value).toArray wsX3_columnOf RX3 := ⟨hx, hb, hml, hown, hts⟩
  have hl : lv_has ls 1 [(0, .int (iI z))] := hl
  refine lv_iload_n hx hb dX3_columnOf_0 rfl (lv_at hl 0 rfl) ?_
  refine ri_bipush hx hb dX3_columnOf_1 (by decide) ?_
  refine ri_irem hx hb (by omega) dX3_columnOf_3 ?_
  exact ri_iret hx hb hr hlocks dX3_columnOf_4 (by first | rfl | omega | (simp; done))

theorem f_X3_rowOf : MF yX3_rowOf wsX3_rowOf cX3_rowOf 1 (some .int) 1 := ⟨⟨_, rfl⟩, by decide +kernel, by decide +kernel, by decide +kernel⟩
set_option maxHeartbeats 4000000 in
set_option maxRecDepth 100000 in
theorem k_X3_rowOf (l : Launch) (z : Int) (yz : 0 ≤ z ∧ z ≤ 63) : RD l yX3_rowOf wsX3_rowOf ({ frames := 0, cells := 0, slots := 0, locals := 0 }) [.int (iI z)] tB (z / 8) := by
  refine ri_ent (cc := cX3_rowOf) (maxL := 1) (ret := some .int) (by decide) rfl (Nat.le_of_ble_eq_true rfl) ?_
  intro zp ze s zm zb zt zc hx hb hr hts hown hlocks hml hin hB ls hl
  have hown : s.vm.findClass RX3 = some zm.cls := hown
  have CF : CallFix zp zm zc cX3_rowOf 1 s ([.int (iI z)] : List Value).toArray wsX3_rowOf RX3 := ⟨hx, hb, hml, hown, hts⟩
  have hl : lv_has ls 1 [(0, .int (iI z))] := hl
  refine lv_iload_n hx hb dX3_rowOf_0 rfl (lv_at hl 0 rfl) ?_
  refine ri_bipush hx hb dX3_rowOf_1 (by decide) ?_
  refine ri_idiv hx hb (by omega) dX3_rowOf_3 ?_
  exact ri_iret hx hb hr hlocks dX3_rowOf_4 (by first | rfl | omega | (simp; done))

theorem f_X3_columnsOf : MF yX3_columnsOf wsX3_columnsOf cX3_columnsOf 1 (some .int) 1 := ⟨⟨_, rfl⟩, by decide +kernel, by decide +kernel, by decide +kernel⟩
set_option maxHeartbeats 4000000 in
set_option maxRecDepth 100000 in
theorem k_X3_columnsOf (l : Launch) (z : Int) (yz : 0 ≤ z ∧ z ≤ 100000) : RD l yX3_columnsOf wsX3_columnsOf ({ frames := 0, cells := 0, slots := 0, locals := 0 }) [.int (iI z)] tB (z % 100 - 50) := by
  refine ri_ent (cc := cX3_columnsOf) (maxL := 1) (ret := some .int) (by decide) rfl (Nat.le_of_ble_eq_true rfl) ?_
  intro zp ze s zm zb zt zc hx hb hr hts hown hlocks hml hin hB ls hl
  have hown : s.vm.findClass RX3 = some zm.cls := hown
  have CF : CallFix zp zm zc cX3_columnsOf 1 s ([.int (iI z)] : List Value).toArray wsX3_columnsOf RX3 := ⟨hx, hb, hml, hown, hts⟩
  have hl : lv_has ls 1 [(0, .int (iI z))] := hl
  refine lv_iload_n hx hb dX3_columnsOf_0 rfl (lv_at hl 0 rfl) ?_
  refine ri_bipush hx hb dX3_columnsOf_1 (by decide) ?_
  refine ri_irem hx hb (by omega) dX3_columnsOf_3 ?_
  refine ri_bipush hx hb dX3_columnsOf_4 (by decide) ?_
  refine ri_isub hx hb dX3_columnsOf_6 ?_
  exact ri_iret hx hb hr hlocks dX3_columnsOf_7 (by first | rfl | omega | (simp; done))

theorem f_X3_rowsOf : MF yX3_rowsOf wsX3_rowsOf cX3_rowsOf 1 (some .int) 1 := ⟨⟨_, rfl⟩, by decide +kernel, by decide +kernel, by decide +kernel⟩
set_option maxHeartbeats 4000000 in
set_option maxRecDepth 100000 in
theorem k_X3_rowsOf (l : Launch) (z : Int) (yz : 0 ≤ z ∧ z ≤ 100000) : RD l yX3_rowsOf wsX3_rowsOf ({ frames := 0, cells := 0, slots := 0, locals := 0 }) [.int (iI z)] tB (z / 100 - 50) := by
  refine ri_ent (cc := cX3_rowsOf) (maxL := 1) (ret := some .int) (by decide) rfl (Nat.le_of_ble_eq_true rfl) ?_
  intro zp ze s zm zb zt zc hx hb hr hts hown hlocks hml hin hB ls hl
  have hown : s.vm.findClass RX3 = some zm.cls := hown
  have CF : CallFix zp zm zc cX3_rowsOf 1 s ([.int (iI z)] : List Value).toArray wsX3_rowsOf RX3 := ⟨hx, hb, hml, hown, hts⟩
  have hl : lv_has ls 1 [(0, .int (iI z))] := hl
  refine lv_iload_n hx hb dX3_rowsOf_0 rfl (lv_at hl 0 rfl) ?_
  refine ri_bipush hx hb dX3_rowsOf_1 (by decide) ?_
  refine ri_idiv hx hb (by omega) dX3_rowsOf_3 ?_
  refine ri_bipush hx hb dX3_rowsOf_4 (by decide) ?_
  refine ri_isub hx hb dX3_rowsOf_6 ?_
  exact ri_iret hx hb hr hlocks dX3_rowsOf_7 (by first | rfl | omega | (simp; done))

theorem f_X3_moveBy : MF yX3_moveBy wsX3_moveBy cX3_moveBy 2 (some .int) 2 := ⟨⟨_, rfl⟩, by decide +kernel, by decide +kernel, by decide +kernel⟩
set_option maxHeartbeats 4000000 in
set_option maxRecDepth 100000 in
theorem k_X3_moveBy (l : Launch) (c : Int) (r : Int) : RD l yX3_moveBy wsX3_moveBy ({ frames := 0, cells := 0, slots := 0, locals := 0 }) [.int (iI c), .int (iI r)] tB (5050 + 100 * r + c) := by
  refine ri_ent (cc := cX3_moveBy) (maxL := 2) (ret := some .int) (by decide) rfl (Nat.le_of_ble_eq_true rfl) ?_
  intro zp ze s zm zb zt zc hx hb hr hts hown hlocks hml hin hB ls hl
  have hown : s.vm.findClass RX3 = some zm.cls := hown
  have CF : CallFix zp zm zc cX3_moveBy 2 s ([.int (iI c), .int (iI r)] : List Value).toArray wsX3_moveBy RX3 := ⟨hx, hb, hml, hown, hts⟩
  have hl : lv_has ls 2 [(0, .int (iI c)), (1, .int (iI r))] := hl
  refine ri_sipush hx hb dX3_moveBy_0 (by decide) ?_
  refine ri_bipush hx hb dX3_moveBy_3 (by decide) ?_
  refine lv_iload_n hx hb dX3_moveBy_5 rfl (lv_at hl 1 rfl) ?_
  refine ri_imul hx hb dX3_moveBy_6 ?_
  refine ri_iadd hx hb dX3_moveBy_7 ?_
  refine lv_iload_n hx hb dX3_moveBy_8 rfl (lv_at hl 0 rfl) ?_
  refine ri_iadd hx hb dX3_moveBy_9 ?_
  exact ri_iret hx hb hr hlocks dX3_moveBy_10 (by first | rfl | omega | (simp; done))

theorem f_X3_isAlike : MF yX3_isAlike wsX3_isAlike cX3_isAlike 3 (some .boolean) 3 := ⟨⟨_, rfl⟩, by decide +kernel, by decide +kernel, by decide +kernel⟩
set_option maxHeartbeats 4000000 in
set_option maxRecDepth 100000 in
theorem k_X3_isAlike (l : Launch) (x : Int) (y : Int) (b : Int) (yx : -1000 ≤ x ∧ x ≤ 1000) (yy : -1000 ≤ y ∧ y ≤ 1000) (yb : -1000 ≤ b ∧ b ≤ 1000) : RD l yX3_isAlike wsX3_isAlike ({ frames := 1, cells := 0, slots := 0, locals := 29 }) [.int (iI x), .int (iI y), .int (iI b)] tB (bp (x - y ≤ b ∧ y - x ≤ b)) := by
  refine ri_ent (cc := cX3_isAlike) (maxL := 3) (ret := some .boolean) (by decide) rfl (Nat.le_of_ble_eq_true rfl) ?_
  intro zp ze s zm zb zt zc hx hb hr hts hown hlocks hml hin hB ls hl
  have hown : s.vm.findClass RX3 = some zm.cls := hown
  have CF : CallFix zp zm zc cX3_isAlike 3 s ([.int (iI x), .int (iI y), .int (iI b)] : List Value).toArray wsX3_isAlike RX3 := ⟨hx, hb, hml, hown, hts⟩
  have hl : lv_has ls 3 [(0, .int (iI x)), (1, .int (iI y)), (2, .int (iI b))] := hl
  refine lv_iload_n hx hb dX3_isAlike_0 rfl (lv_at hl 0 rfl) ?_
  refine lv_iload_n hx hb dX3_isAlike_1 rfl (lv_at hl 1 rfl) ?_
  refine ri_isub hx hb dX3_isAlike_2 ?_
  refine va_mabs hx hb (hml.trans hl.1.symm) hown (hts _ (List.mem_of_getElem? (i := 1) rfl)) (hts _ (List.mem_of_getElem? (i := 2) rfl)) (hts _ (List.mem_of_getElem? (i := 3) rfl)) (hts _ (List.mem_of_getElem? (i := 4) rfl)) (Nat.le_of_ble_eq_true rfl) (Nat.le_of_ble_eq_true rfl) (Nat.le_of_ble_eq_true rfl) (Nat.le_of_ble_eq_true rfl) dX3_isAlike_3 ?_
  refine ri_abs (by omega) (fun q_1 eq_1 => ?_)
  refine lv_iload_n hx hb dX3_isAlike_6 rfl (lv_at hl 2 rfl) ?_
  refine ri_icmp_gt (tgt := 14) hx hb (by omega) dX3_isAlike_7 (by decide) (fun c_2 => ?_) (fun c_2 => ?_)
  · skip
    refine ri_iconst hx hb dX3_isAlike_14 ?_
    exact ri_zret hx hb hr hlocks (bp_01 _) dX3_isAlike_15 ((bp_f (by omega)).symm)
  · skip
    refine ri_iconst hx hb dX3_isAlike_10 ?_
    refine lv_goto (tgt := 15) hx hb dX3_isAlike_11 (by decide) ?_
    exact ri_zret hx hb hr hlocks (bp_01 _) dX3_isAlike_15 ((bp_t (by omega)).symm)

theorem f_X1_isSlot : MF yX1_isSlot wsX1_isSlot cX1_isSlot 1 (some .boolean) 1 := ⟨⟨_, rfl⟩, by decide +kernel, by decide +kernel, by decide +kernel⟩
set_option maxHeartbeats 4000000 in
set_option maxRecDepth 100000 in
theorem k_X1_isSlot (l : Launch) (z : Int) (yz : -2147483648 ≤ z ∧ z < 2147483648) : RD l yX1_isSlot wsX1_isSlot ({ frames := 1, cells := 0, slots := 0, locals := 22 }) [.int (iI z)] xN (bp (0 ≤ z ∧ z ≤ 44)) := by
  refine ri_ent (cc := cX1_isSlot) (maxL := 1) (ret := some .boolean) (by decide) rfl (Nat.le_of_ble_eq_true rfl) ?_
  intro zp ze s zm zb zt zc hx hb hr hts hown hlocks hml hin hB ls hl
  have hown : s.vm.findClass RX1 = some zm.cls := hown
  have CF : CallFix zp zm zc cX1_isSlot 1 s ([.int (iI z)] : List Value).toArray wsX1_isSlot RX1 := ⟨hx, hb, hml, hown, hts⟩
  have hN := hB
  have hl : lv_has ls 1 [(0, .int (iI z))] := hl
  refine lv_iload_n hx hb dX1_isSlot_0 rfl (lv_at hl 0 rfl) ?_
  refine ri_iconst hx hb dX1_isSlot_1 ?_
  refine ri_bipush hx hb dX1_isSlot_2 (by decide) ?_
  refine ri_rd (ri_runN (As := [.int (iI z), .int (iI 0), .int (iI 44)]) (rest := []) CF (k_X3_isWithin l z 0 44 (by omega) (by omega) (by omega)) gX1_isSlot_X3_isWithin_n19 f_X3_isWithin hN.2.1 (List.mem_of_getElem? (i := 2) rfl) (List.mem_of_getElem? (i := 1) rfl) ⟨rfl, rfl, Nat.le_of_ble_eq_true rfl, Nat.le_of_ble_eq_true rfl, Nat.le_of_ble_eq_true rfl, Nat.le_of_ble_eq_true rfl⟩ tB_bl tB_in rfl hl.1 rfl (Nat.le_of_ble_eq_true rfl) dX1_isSlot_4) ?_
  exact ri_zret hx hb hr hlocks (bp_01 _) dX1_isSlot_7 (rfl)

theorem f_X1_place : MF yX1_place wsX1_place cX1_place 3 (some .int) 3 := ⟨⟨_, rfl⟩, by decide +kernel, by decide +kernel, by decide +kernel⟩
set_option maxHeartbeats 4000000 in
set_option maxRecDepth 100000 in
theorem k_X1_place (l : Launch) (z : Int) (c : Int) (r : Int) : RD l yX1_place wsX1_place ({ frames := 0, cells := 0, slots := 0, locals := 0 }) [.int (iI z), .int (iI c), .int (iI r)] tB (z * 64 + r * 8 + c) := by
  refine ri_ent (cc := cX1_place) (maxL := 3) (ret := some .int) (by decide) rfl (Nat.le_of_ble_eq_true rfl) ?_
  intro zp ze s zm zb zt zc hx hb hr hts hown hlocks hml hin hB ls hl
  have hown : s.vm.findClass RX1 = some zm.cls := hown
  have CF : CallFix zp zm zc cX1_place 3 s ([.int (iI z), .int (iI c), .int (iI r)] : List Value).toArray wsX1_place RX1 := ⟨hx, hb, hml, hown, hts⟩
  have hl : lv_has ls 3 [(0, .int (iI z)), (1, .int (iI c)), (2, .int (iI r))] := hl
  refine lv_iload_n hx hb dX1_place_0 rfl (lv_at hl 0 rfl) ?_
  refine ri_bipush hx hb dX1_place_1 (by decide) ?_
  refine ri_imul hx hb dX1_place_3 ?_
  refine lv_iload_n hx hb dX1_place_4 rfl (lv_at hl 2 rfl) ?_
  refine ri_bipush hx hb dX1_place_5 (by decide) ?_
  refine ri_imul hx hb dX1_place_7 ?_
  refine ri_iadd hx hb dX1_place_8 ?_
  refine lv_iload_n hx hb dX1_place_9 rfl (lv_at hl 1 rfl) ?_
  refine ri_iadd hx hb dX1_place_10 ?_
  exact ri_iret hx hb hr hlocks dX1_place_11 (by first | rfl | omega | (simp; done))

theorem f_X1_has : MF yX1_has wsX1_has cX1_has 2 (some .boolean) 1 := ⟨⟨_, rfl⟩, by decide +kernel, by decide +kernel, by decide +kernel⟩
set_option maxHeartbeats 4000000 in
set_option maxRecDepth 100000 in
theorem k_X1_has (l : Launch) (D : va_G) (a : Nat → Nat) (kk : Nat → ClassId) (g : Nat → Nat → Int) (z : Int) (hI : XInv g) (yz : 0 ≤ z ∧ z ≤ 44) : RD l yX1_has wsX1_has ({ frames := 2, cells := 0, slots := 0, locals := 42 }) [.ref (a 1), .int (iI z)] (wB D kk (xW a kk g)) (bp (g 3 z.toNat = 1)) := by
  refine ri_ent (cc := cX1_has) (maxL := 2) (ret := some .boolean) (by decide) rfl (Nat.le_of_ble_eq_true rfl) ?_
  intro zp ze s zm zb zt zc hx hb hr hts hown hlocks hml hin hB ls hl
  have hown : s.vm.findClass RX1 = some zm.cls := hown
  have CF : CallFix zp zm zc cX1_has 2 s ([.ref (a 1), .int (iI z)] : List Value).toArray wsX1_has RX1 := ⟨hx, hb, hml, hown, hts⟩
  obtain ⟨hP, hK, hN⟩ := hB
  have hinX1 : ∀ w ∈ wsX10, w ∈ wsX1_has := (fun _ h => List.mem_cons_of_mem _ (List.mem_append_right _ h))
  have hl : lv_has ls 2 [(0, .ref (a 1)), (1, .int (iI z))] := hl
  refine lv_iload_n hx hb dX1_has_0 rfl (lv_at hl 1 rfl) ?_
  refine ri_rd (ri_runS (As := [.int (iI z)]) (rest := []) CF (k_X1_isSlot l z (by omega)) gX1_has_X1_isSlot f_X1_isSlot ⟨rfl, rfl, Nat.le_of_ble_eq_true rfl, Nat.le_of_ble_eq_true rfl, Nat.le_of_ble_eq_true rfl, Nat.le_of_ble_eq_true rfl⟩ xN_bl (nB_in hN) rfl hl.1 rfl (Nat.le_of_ble_eq_true rfl) dX1_has_1) ?_
  refine ri_ifeq_b (tgt := 20) hx hb dX1_has_4 (by decide) (fun c_1 => ?_) (fun c_1 => ?_)
  · skip
    exfalso; omega
  · skip
    refine lv_aload_n hx hb dX1_has_7 rfl (lv_at hl 0 rfl) ?_
    refine va_get (D := D) (ci := 1) (v := .ref (a 3)) (C := RX1) (T := TX1) (N := 2) hx hb hts hinX1 hown hK hP 1 rfl rfl 1 (by decide) (hts _ (List.mem_of_getElem? (i := 1) rfl)) (fun _ h9 => h9) rfl dX1_has_8 ?_
    refine lv_iload_n hx hb dX1_has_11 rfl (lv_at hl 1 rfl) ?_
    refine ri_zald hx hb hK hP 3 1 rfl rfl (by omega) (by decide) dX1_has_12 ?_
    have f_2 := hI.2.1 z.toNat (by omega)
    refine ri_if_eq (tgt := 20) hx hb (by omega) dX1_has_13 (by decide) (fun c_3 => ?_) (fun c_3 => ?_)
    · skip
      refine ri_iconst hx hb dX1_has_20 ?_
      exact ri_zret hx hb hr hlocks (bp_01 _) dX1_has_21 ((bp_f (by omega)).symm)
    · skip
      refine ri_iconst hx hb dX1_has_16 ?_
      refine lv_goto (tgt := 21) hx hb dX1_has_17 (by decide) ?_
      exact ri_zret hx hb hr hlocks (bp_01 _) dX1_has_21 ((bp_t (by omega)).symm)

theorem f_X1_at : MF yX1_at wsX1_at cX1_at 4 (some .int) 3 := ⟨⟨_, rfl⟩, by decide +kernel, by decide +kernel, by decide +kernel⟩
set_option maxHeartbeats 4000000 in
set_option maxRecDepth 100000 in
theorem k_X1_at (l : Launch) (D : va_G) (a : Nat → Nat) (kk : Nat → ClassId) (g : Nat → Nat → Int) (z : Int) (c : Int) (r : Int) (hI : XInv g) (yz : 0 ≤ z ∧ z ≤ 44) (yc : 0 ≤ c ∧ c ≤ 7) (yr : 0 ≤ r ∧ r ≤ 7) : RD l yX1_at wsX1_at ({ frames := 2, cells := 0, slots := 0, locals := 43 }) [.ref (a 1), .int (iI z), .int (iI c), .int (iI r)] (wB D kk (xW a kk g)) (g 2 (z * 64 + r * 8 + c).toNat) := by
  refine ri_ent (cc := cX1_at) (maxL := 4) (ret := some .int) (by decide) rfl (Nat.le_of_ble_eq_true rfl) ?_
  intro zp ze s zm zb zt zc hx hb hr hts hown hlocks hml hin hB ls hl
  have hown : s.vm.findClass RX1 = some zm.cls := hown
  have CF : CallFix zp zm zc cX1_at 4 s ([.ref (a 1), .int (iI z), .int (iI c), .int (iI r)] : List Value).toArray wsX1_at RX1 := ⟨hx, hb, hml, hown, hts⟩
  obtain ⟨hP, hK, hN⟩ := hB
  have hinX1 : ∀ w ∈ wsX10, w ∈ wsX1_at := (fun _ h => List.mem_cons_of_mem _ (List.mem_append_right _ h))
  have hl : lv_has ls 4 [(0, .ref (a 1)), (1, .int (iI z)), (2, .int (iI c)), (3, .int (iI r))] := hl
  refine lv_iload_n hx hb dX1_at_0 rfl (lv_at hl 1 rfl) ?_
  refine ri_rd (ri_runS (As := [.int (iI z)]) (rest := []) CF (k_X1_isSlot l z (by omega)) gX1_at_X1_isSlot f_X1_isSlot ⟨rfl, rfl, Nat.le_of_ble_eq_true rfl, Nat.le_of_ble_eq_true rfl, Nat.le_of_ble_eq_true rfl, Nat.le_of_ble_eq_true rfl⟩ xN_bl (nB_in hN) rfl hl.1 rfl (Nat.le_of_ble_eq_true rfl) dX1_at_1) ?_
  refine ri_ifeq_b (tgt := 15) hx hb dX1_at_4 (by decide) (fun c_1 => ?_) (fun c_1 => ?_)
  · skip
    exfalso; omega
  · skip
    refine lv_iload_n hx hb dX1_at_7 rfl (lv_at hl 2 rfl) ?_
    refine lv_iload_n hx hb dX1_at_8 rfl (lv_at hl 3 rfl) ?_
    refine ri_rd (ri_runN (As := [.int (iI c), .int (iI r)]) (rest := []) CF (k_X3_isCell l c r (by omega) (by omega)) gX1_at_X3_isCell_n27 f_X3_isCell hN.2.2.1 (List.mem_of_getElem? (i := 7) rfl) (List.mem_of_getElem? (i := 9) rfl) ⟨rfl, rfl, Nat.le_of_ble_eq_true rfl, Nat.le_of_ble_eq_true rfl, Nat.le_of_ble_eq_true rfl, Nat.le_of_ble_eq_true rfl⟩ tB_bl tB_in rfl hl.1 rfl (Nat.le_of_ble_eq_true rfl) dX1_at_9) ?_
    refine ri_ifne_b (tgt := 17) hx hb dX1_at_12 (by decide) (fun c_2 => ?_) (fun c_2 => ?_)
    · skip
      refine lv_aload_n hx hb dX1_at_17 rfl (lv_at hl 0 rfl) ?_
      refine va_get (D := D) (ci := 1) (v := .ref (a 2)) (C := RX1) (T := TX1) (N := 2) hx hb hts hinX1 hown hK hP 1 rfl rfl 0 (by decide) (hts _ (List.mem_of_getElem? (i := 1) rfl)) (fun _ h9 => h9) rfl dX1_at_18 ?_
      refine lv_iload_n hx hb dX1_at_21 rfl (lv_at hl 1 rfl) ?_
      refine lv_iload_n hx hb dX1_at_22 rfl (lv_at hl 2 rfl) ?_
      refine lv_iload_n hx hb dX1_at_23 rfl (lv_at hl 3 rfl) ?_
      refine ri_rd (ri_runS (As := [.int (iI z), .int (iI c), .int (iI r)]) (rest := [.ref (a 2)]) CF (k_X1_place l z c r) gX1_at_X1_place f_X1_place ⟨rfl, rfl, Nat.le_of_ble_eq_true rfl, Nat.le_of_ble_eq_true rfl, Nat.le_of_ble_eq_true rfl, Nat.le_of_ble_eq_true rfl⟩ tB_bl tB_in rfl hl.1 rfl (Nat.le_of_ble_eq_true rfl) dX1_at_24) ?_
      refine ri_iald hx hb hK hP 2 0 rfl rfl (by omega) (by decide) dX1_at_27 ?_
      have f_3 := hI.1 (z * 64 + r * 8 + c).toNat (by omega)
      exact ri_iret hx hb hr hlocks dX1_at_28 (rfl)
    · skip
      exfalso; omega

theorem f_X1_same : MF yX1_same wsX1_same cX1_same 4 (some .boolean) 2 := ⟨⟨_, rfl⟩, by decide +kernel, by decide +kernel, by decide +kernel⟩
set_option maxHeartbeats 4000000 in
set_option maxRecDepth 100000 in
theorem k_X1_same (l : Launch) (D : va_G) (a : Nat → Nat) (kk : Nat → ClassId) (g : Nat → Nat → Int) (y : Int) (z : Int) (hI : XInv g) (yy : 0 ≤ y ∧ y ≤ 44) (yz : 0 ≤ z ∧ z ≤ 44) : RD l yX1_same wsX1_same ({ frames := 3, cells := 0, slots := 0, locals := 63 }) [.ref (a 1), .int (iI y), .int (iI z)] (wB D kk (xW a kk g)) (bp (sameP (g 2) (g 3) y z)) := by
  refine ri_ent (cc := cX1_same) (maxL := 4) (ret := some .boolean) (by decide) rfl (Nat.le_of_ble_eq_true rfl) ?_
  intro zp ze s zm zb zt zc hx hb hr hts hown hlocks hml hin hB ls hl
  have hown : s.vm.findClass RX1 = some zm.cls := hown
  have CF : CallFix zp zm zc cX1_same 4 s ([.ref (a 1), .int (iI y), .int (iI z)] : List Value).toArray wsX1_same RX1 := ⟨hx, hb, hml, hown, hts⟩
  obtain ⟨hP, hK, hN⟩ := hB
  have hinX1 : ∀ w ∈ wsX10, w ∈ wsX1_same := (fun _ h => List.mem_cons_of_mem _ (List.mem_append_right _ h))
  have hl : lv_has ls 4 [(0, .ref (a 1)), (1, .int (iI y)), (2, .int (iI z))] := hl
  have f3y := hI.2.1 y.toNat (by omega)
  have f3z := hI.2.1 z.toNat (by omega)
  refine lv_aload_n hx hb dX1_same_0 rfl (lv_at hl 0 rfl) ?_
  refine lv_iload_n hx hb dX1_same_1 rfl (lv_at hl 1 rfl) ?_
  refine ri_rd (ri_runV (b := a 1) (As := [.int (iI y)]) (rest := []) CF (k_X1_has l D a kk g y hI (by omega)) gX1_same_X1_has f_X1_has rfl (va_recv hK hP (ci := 1) (q0 := 1) rfl rfl) ⟨rfl, rfl, Nat.le_of_ble_eq_true rfl, Nat.le_of_ble_eq_true rfl, Nat.le_of_ble_eq_true rfl, Nat.le_of_ble_eq_true rfl⟩ wB_bl (wB_in hP hK hN) rfl hl.1 rfl (Nat.le_of_ble_eq_true rfl) dX1_same_2) ?_
  refine ri_ifeq_b (tgt := 16) hx hb dX1_same_5 (by decide) (fun c_1 => ?_) (fun c_1 => ?_)
  · skip
    refine lv_aload_n hx hb dX1_same_16 rfl (lv_at hl 0 rfl) ?_
    refine lv_iload_n hx hb dX1_same_17 rfl (lv_at hl 1 rfl) ?_
    refine ri_rd (ri_runV (b := a 1) (As := [.int (iI y)]) (rest := []) CF (k_X1_has l D a kk g y hI (by omega)) gX1_same_X1_has f_X1_has rfl (va_recv hK hP (ci := 1) (q0 := 1) rfl rfl) ⟨rfl, rfl, Nat.le_of_ble_eq_true rfl, Nat.le_of_ble_eq_true rfl, Nat.le_of_ble_eq_true rfl, Nat.le_of_ble_eq_true rfl⟩ wB_bl (wB_in hP hK hN) rfl hl.1 rfl (Nat.le_of_ble_eq_true rfl) dX1_same_18) ?_
    refine lv_aload_n hx hb dX1_same_21 rfl (lv_at hl 0 rfl) ?_
    refine lv_iload_n hx hb dX1_same_22 rfl (lv_at hl 2 rfl) ?_
    refine ri_rd (ri_runV (b := a 1) (As := [.int (iI z)]) (rest := [.int (iI (bp (g 3 y.toNat = 1)))]) CF (k_X1_has l D a kk g z hI (by omega)) gX1_same_X1_has f_X1_has rfl (va_recv hK hP (ci := 1) (q0 := 1) rfl rfl) ⟨rfl, rfl, Nat.le_of_ble_eq_true rfl, Nat.le_of_ble_eq_true rfl, Nat.le_of_ble_eq_true rfl, Nat.le_of_ble_eq_true rfl⟩ wB_bl (wB_in hP hK hN) rfl hl.1 rfl (Nat.le_of_ble_eq_true rfl) dX1_same_23) ?_
    refine ri_icmp_ne (tgt := 33) hx hb (by have := bp_r (g 3 y.toNat = 1); have := bp_r (g 3 z.toNat = 1); omega) dX1_same_26 (by decide) (fun c_2 => ?_) (fun c_2 => ?_)
    · skip
      have h26 := fun q => c_2 (bp_iff.mpr q)
      refine ri_iconst hx hb dX1_same_33 ?_
      exact ri_zret hx hb hr hlocks (bp_01 _) dX1_same_34 ((bp_f (fun q => h26 q.1)).symm)
    · skip
      have h26 := bp_iff.mp c_2
      refine ri_iconst hx hb dX1_same_29 ?_
      refine lv_goto (tgt := 34) hx hb dX1_same_30 (by decide) ?_
      exact ri_zret hx hb hr hlocks (bp_01 _) dX1_same_34 ((bp_t ⟨h26, fun h3 => by omega⟩).symm)
  · skip
    refine lv_aload_n hx hb dX1_same_8 rfl (lv_at hl 0 rfl) ?_
    refine lv_iload_n hx hb dX1_same_9 rfl (lv_at hl 2 rfl) ?_
    refine ri_rd (ri_runV (b := a 1) (As := [.int (iI z)]) (rest := []) CF (k_X1_has l D a kk g z hI (by omega)) gX1_same_X1_has f_X1_has rfl (va_recv hK hP (ci := 1) (q0 := 1) rfl rfl) ⟨rfl, rfl, Nat.le_of_ble_eq_true rfl, Nat.le_of_ble_eq_true rfl, Nat.le_of_ble_eq_true rfl, Nat.le_of_ble_eq_true rfl⟩ wB_bl (wB_in hP hK hN) rfl hl.1 rfl (Nat.le_of_ble_eq_true rfl) dX1_same_10) ?_
    refine ri_ifne_b (tgt := 35) hx hb dX1_same_13 (by decide) (fun c_3 => ?_) (fun c_3 => ?_)
    · skip
      refine ri_iconst hx hb dX1_same_35 ?_
      refine lv_istore_n (lv' := [(3, .int (iI 0)), (0, .ref (a 1)), (1, .int (iI y)), (2, .int (iI z))]) hx hb dX1_same_36 rfl hl (by decide) rfl (fun ls hl => ?_)
      have L37 : ∀ (n37 : Nat) (i : Int), (0 ≤ i ∧ i ≤ 64) → (∀ k : Int, 0 ≤ k → k < i → g 2 (y * 64 + k).toNat = g 2 (z * 64 + k).toNat) → ((64 - i).toNat < n37) → ∀ (ls : Array Slot), lv_has ls 4 [(0, .ref (a 1)), (1, .int (iI y)), (2, .int (iI z)), (3, .int (iI i))] → W zp l ze ({ frames := 3, cells := 0, slots := 0, locals := 63 }) s zm ([.ref (a 1), .int (iI y), .int (iI z)] : List Value).toArray zb zt zc s.heap [] 0 0 (MQ zb (vp_Si (fun r9 => r9 = iI (bp (sameP (g 2) (g 3) y z)))) ([.ref (a 1), .int (iI y), .int (iI z)] : List Value).toArray s 0 0 (fun _ => False)) (F0 zm 37 ls []) := by
        intro n37
        induction n37 with
        | zero => intro i hi hall hm; exact absurd hm (Nat.not_lt_zero _)
        | succ n37 ih37 =>
          intro i hi hall hm37 ls hl
          refine lv_iload_n hx hb dX1_same_37 rfl (lv_at hl 3 rfl) ?_
          refine ri_bipush hx hb dX1_same_38 (by decide) ?_
          refine ri_icmp_ge (tgt := 76) hx hb (by omega) dX1_same_40 (by decide) (fun c_4 => ?_) (fun c_4 => ?_)
          · skip
            refine ri_iconst hx hb dX1_same_76 ?_
            exact ri_zret hx hb hr hlocks (bp_01 _) dX1_same_77 ((bp_t ⟨by omega, fun _ k h1 h2 => hall k h1 (by omega)⟩).symm)
          · skip
            refine lv_aload_n hx hb dX1_same_43 rfl (lv_at hl 0 rfl) ?_
            refine va_get (D := D) (ci := 1) (v := .ref (a 2)) (C := RX1) (T := TX1) (N := 2) hx hb hts hinX1 hown hK hP 1 rfl rfl 0 (by decide) (hts _ (List.mem_of_getElem? (i := 1) rfl)) (fun _ h9 => h9) rfl dX1_same_44 ?_
            refine lv_iload_n hx hb dX1_same_47 rfl (lv_at hl 1 rfl) ?_
            refine ri_bipush hx hb dX1_same_48 (by decide) ?_
            refine ri_imul hx hb dX1_same_50 ?_
            refine lv_iload_n hx hb dX1_same_51 rfl (lv_at hl 3 rfl) ?_
            refine ri_iadd hx hb dX1_same_52 ?_
            refine ri_iald hx hb hK hP 2 0 rfl rfl (by omega) (by decide) dX1_same_53 ?_
            have f_5 := hI.1 ((y * 64) + i).toNat (by omega)
            refine lv_aload_n hx hb dX1_same_54 rfl (lv_at hl 0 rfl) ?_
            refine va_get (D := D) (ci := 1) (v := .ref (a 2)) (C := RX1) (T := TX1) (N := 2) hx hb hts hinX1 hown hK hP 1 rfl rfl 0 (by decide) (hts _ (List.mem_of_getElem? (i := 1) rfl)) (fun _ h9 => h9) rfl dX1_same_55 ?_
            refine lv_iload_n hx hb dX1_same_58 rfl (lv_at hl 2 rfl) ?_
            refine ri_bipush hx hb dX1_same_59 (by decide) ?_
            refine ri_imul hx hb dX1_same_61 ?_
            refine lv_iload_n hx hb dX1_same_62 rfl (lv_at hl 3 rfl) ?_
            refine ri_iadd hx hb dX1_same_63 ?_
            refine ri_iald hx hb hK hP 2 0 rfl rfl (by omega) (by decide) dX1_same_64 ?_
            have f_6 := hI.1 ((z * 64) + i).toNat (by omega)
            refine ri_icmp_eq (tgt := 70) hx hb (by omega) dX1_same_65 (by decide) (fun c_7 => ?_) (fun c_7 => ?_)
            · skip
              refine ri_iinc (lv' := [(3, .int (iI (i + 1))), (0, .ref (a 1)), (1, .int (iI y)), (2, .int (iI z))]) hx hb dX1_same_70 hl (k := 3) rfl (by decide) rfl (fun ls hl => ?_)
              refine lv_goto (tgt := 37) hx hb dX1_same_73 (by decide) ?_
              exact ih37 (i + 1) (by omega) (fun k h1 h2 => (Int.lt_or_eq_of_le (show k ≤ i by omega)).elim (fun q => hall k h1 q) (fun q => by rw [q]; omega)) (by omega) ls (lv_sub hl [1, 2, 3, 0] rfl)
            · skip
              refine ri_iconst hx hb dX1_same_68 ?_
              exact ri_zret hx hb hr hlocks (bp_01 _) dX1_same_69 ((bp_f (fun q => by have h1 := q.2 (by omega) i (by omega) (by omega); omega)).symm)
      exact L37 65 (0) (by omega) (fun k h1 h2 => absurd h2 (by omega)) (by decide) ls (lv_sub hl [1, 2, 3, 0] rfl)
    · skip
      refine lv_aload_n hx hb dX1_same_16 rfl (lv_at hl 0 rfl) ?_
      refine lv_iload_n hx hb dX1_same_17 rfl (lv_at hl 1 rfl) ?_
      refine ri_rd (ri_runV (b := a 1) (As := [.int (iI y)]) (rest := []) CF (k_X1_has l D a kk g y hI (by omega)) gX1_same_X1_has f_X1_has rfl (va_recv hK hP (ci := 1) (q0 := 1) rfl rfl) ⟨rfl, rfl, Nat.le_of_ble_eq_true rfl, Nat.le_of_ble_eq_true rfl, Nat.le_of_ble_eq_true rfl, Nat.le_of_ble_eq_true rfl⟩ wB_bl (wB_in hP hK hN) rfl hl.1 rfl (Nat.le_of_ble_eq_true rfl) dX1_same_18) ?_
      refine lv_aload_n hx hb dX1_same_21 rfl (lv_at hl 0 rfl) ?_
      refine lv_iload_n hx hb dX1_same_22 rfl (lv_at hl 2 rfl) ?_
      refine ri_rd (ri_runV (b := a 1) (As := [.int (iI z)]) (rest := [.int (iI (bp (g 3 y.toNat = 1)))]) CF (k_X1_has l D a kk g z hI (by omega)) gX1_same_X1_has f_X1_has rfl (va_recv hK hP (ci := 1) (q0 := 1) rfl rfl) ⟨rfl, rfl, Nat.le_of_ble_eq_true rfl, Nat.le_of_ble_eq_true rfl, Nat.le_of_ble_eq_true rfl, Nat.le_of_ble_eq_true rfl⟩ wB_bl (wB_in hP hK hN) rfl hl.1 rfl (Nat.le_of_ble_eq_true rfl) dX1_same_23) ?_
      refine ri_icmp_ne (tgt := 33) hx hb (by have := bp_r (g 3 y.toNat = 1); have := bp_r (g 3 z.toNat = 1); omega) dX1_same_26 (by decide) (fun c_8 => ?_) (fun c_8 => ?_)
      · skip
        have h26 := fun q => c_8 (bp_iff.mpr q)
        refine ri_iconst hx hb dX1_same_33 ?_
        exact ri_zret hx hb hr hlocks (bp_01 _) dX1_same_34 ((bp_f (fun q => h26 q.1)).symm)
      · skip
        have h26 := bp_iff.mp c_8
        refine ri_iconst hx hb dX1_same_29 ?_
        refine lv_goto (tgt := 34) hx hb dX1_same_30 (by decide) ?_
        exact ri_zret hx hb hr hlocks (bp_01 _) dX1_same_34 ((bp_t ⟨h26, fun h3 => by omega⟩).symm)

theorem f_X2_has : MF yX2_has wsX2_has cX2_has 2 (some .boolean) 1 := ⟨⟨_, rfl⟩, by decide +kernel, by decide +kernel, by decide +kernel⟩
set_option maxHeartbeats 4000000 in
set_option maxRecDepth 100000 in
theorem k_X2_has (l : Launch) (D : va_G) (a : Nat → Nat) (kk : Nat → ClassId) (g : Nat → Nat → Int) (t : Int) (hR : RInv g) (yt : 0 ≤ t ∧ t ≤ 4) : RD l yX2_has wsX2_has ({ frames := 2, cells := 0, slots := 0, locals := 42 }) [.ref (a 0), .int (iI t)] (wB D kk (rW a kk g)) (bp (g 1 t.toNat < g 3 t.toNat)) := by
  refine ri_ent (cc := cX2_has) (maxL := 2) (ret := some .boolean) (by decide) rfl (Nat.le_of_ble_eq_true rfl) ?_
  intro zp ze s zm zb zt zc hx hb hr hts hown hlocks hml hin hB ls hl
  have hown : s.vm.findClass RX2 = some zm.cls := hown
  have CF : CallFix zp zm zc cX2_has 2 s ([.ref (a 0), .int (iI t)] : List Value).toArray wsX2_has RX2 := ⟨hx, hb, hml, hown, hts⟩
  obtain ⟨hP, hK, hN⟩ := hB
  have hinX2 : ∀ w ∈ wsX20, w ∈ wsX2_has := (fun _ h => List.mem_cons_of_mem _ (List.mem_append_right _ h))
  have hl : lv_has ls 2 [(0, .ref (a 0)), (1, .int (iI t))] := hl
  refine lv_iload_n hx hb dX2_has_0 rfl (lv_at hl 1 rfl) ?_
  refine ri_rd (ri_runN (As := [.int (iI t)]) (rest := []) CF (k_X3_isTest l t (by omega)) gX2_has_X3_isTest_n24 f_X3_isTest hN.2.2.2.1 (List.mem_of_getElem? (i := 4) rfl) (List.mem_of_getElem? (i := 3) rfl) ⟨rfl, rfl, Nat.le_of_ble_eq_true rfl, Nat.le_of_ble_eq_true rfl, Nat.le_of_ble_eq_true rfl, Nat.le_of_ble_eq_true rfl⟩ tB_bl tB_in rfl hl.1 rfl (Nat.le_of_ble_eq_true rfl) dX2_has_1) ?_
  refine ri_ifeq_b (tgt := 26) hx hb dX2_has_4 (by decide) (fun c_1 => ?_) (fun c_1 => ?_)
  · skip
    exfalso; omega
  · skip
    refine lv_aload_n hx hb dX2_has_7 rfl (lv_at hl 0 rfl) ?_
    refine va_get (D := D) (ci := 2) (v := .ref (a 1)) (C := RX2) (T := TX2) (N := 4) hx hb hts hinX2 hown hK hP 0 rfl rfl 0 (by decide) (hts _ (List.mem_of_getElem? (i := 1) rfl)) (fun _ h9 => h9) rfl dX2_has_8 ?_
    refine lv_iload_n hx hb dX2_has_11 rfl (lv_at hl 1 rfl) ?_
    refine ri_iald hx hb hK hP 1 0 rfl rfl (by omega) (by decide) dX2_has_12 ?_
    have f_2 := hR t.toNat (by omega)
    refine lv_aload_n hx hb dX2_has_13 rfl (lv_at hl 0 rfl) ?_
    refine va_get (D := D) (ci := 2) (v := .ref (a 3)) (C := RX2) (T := TX2) (N := 4) hx hb hts hinX2 hown hK hP 0 rfl rfl 2 (by decide) (hts _ (List.mem_of_getElem? (i := 2) rfl)) (fun _ h9 => h9) rfl dX2_has_14 ?_
    refine lv_iload_n hx hb dX2_has_17 rfl (lv_at hl 1 rfl) ?_
    refine ri_iald hx hb hK hP 3 0 rfl rfl (by omega) (by decide) dX2_has_18 ?_
    have f_3 := hR t.toNat (by omega)
    refine ri_icmp_ge (tgt := 26) hx hb (by omega) dX2_has_19 (by decide) (fun c_4 => ?_) (fun c_4 => ?_)
    · skip
      refine ri_iconst hx hb dX2_has_26 ?_
      exact ri_zret hx hb hr hlocks (bp_01 _) dX2_has_27 ((bp_f (by omega)).symm)
    · skip
      refine ri_iconst hx hb dX2_has_22 ?_
      refine lv_goto (tgt := 27) hx hb dX2_has_23 (by decide) ?_
      exact ri_zret hx hb hr hlocks (bp_01 _) dX2_has_27 ((bp_t (by omega)).symm)

theorem f_X2_holds : MF yX2_holds wsX2_holds cX2_holds 4 (some .boolean) 3 := ⟨⟨_, rfl⟩, by decide +kernel, by decide +kernel, by decide +kernel⟩
set_option maxHeartbeats 4000000 in
set_option maxRecDepth 100000 in
theorem k_X2_holds (l : Launch) (D : va_G) (a : Nat → Nat) (kk : Nat → ClassId) (g : Nat → Nat → Int) (t : Int) (c : Int) (r : Int) (hR : RInv g) (yt : 0 ≤ t ∧ t ≤ 4) (yc : -2147483648 ≤ c ∧ c < 2147483648) (yr : -2147483648 ≤ r ∧ r < 2147483648) : RD l yX2_holds wsX2_holds ({ frames := 2, cells := 0, slots := 0, locals := 42 }) [.ref (a 0), .int (iI t), .int (iI c), .int (iI r)] (wB D kk (rW a kk g)) (bp ((g 1 t.toNat ≤ c ∧ c < g 3 t.toNat) ∧ (g 2 t.toNat ≤ r ∧ r < g 4 t.toNat))) := by
  refine ri_ent (cc := cX2_holds) (maxL := 4) (ret := some .boolean) (by decide) rfl (Nat.le_of_ble_eq_true rfl) ?_
  intro zp ze s zm zb zt zc hx hb hr hts hown hlocks hml hin hB ls hl
  have hown : s.vm.findClass RX2 = some zm.cls := hown
  have CF : CallFix zp zm zc cX2_holds 4 s ([.ref (a 0), .int (iI t), .int (iI c), .int (iI r)] : List Value).toArray wsX2_holds RX2 := ⟨hx, hb, hml, hown, hts⟩
  obtain ⟨hP, hK, hN⟩ := hB
  have hinX2 : ∀ w ∈ wsX20, w ∈ wsX2_holds := (fun _ h => List.mem_cons_of_mem _ (List.mem_append_right _ h))
  have hl : lv_has ls 4 [(0, .ref (a 0)), (1, .int (iI t)), (2, .int (iI c)), (3, .int (iI r))] := hl
  refine lv_iload_n hx hb dX2_holds_0 rfl (lv_at hl 1 rfl) ?_
  refine ri_rd (ri_runN (As := [.int (iI t)]) (rest := []) CF (k_X3_isTest l t (by omega)) gX2_holds_X3_isTest_n24 f_X3_isTest hN.2.2.2.1 (List.mem_of_getElem? (i := 6) rfl) (List.mem_of_getElem? (i := 5) rfl) ⟨rfl, rfl, Nat.le_of_ble_eq_true rfl, Nat.le_of_ble_eq_true rfl, Nat.le_of_ble_eq_true rfl, Nat.le_of_ble_eq_true rfl⟩ tB_bl tB_in rfl hl.1 rfl (Nat.le_of_ble_eq_true rfl) dX2_holds_1) ?_
  refine ri_ifeq_b (tgt := 51) hx hb dX2_holds_4 (by decide) (fun c_1 => ?_) (fun c_1 => ?_)
  · skip
    exfalso; omega
  · skip
    refine lv_iload_n hx hb dX2_holds_7 rfl (lv_at hl 2 rfl) ?_
    refine lv_aload_n hx hb dX2_holds_8 rfl (lv_at hl 0 rfl) ?_
    refine va_get (D := D) (ci := 2) (v := .ref (a 1)) (C := RX2) (T := TX2) (N := 4) hx hb hts hinX2 hown hK hP 0 rfl rfl 0 (by decide) (hts _ (List.mem_of_getElem? (i := 1) rfl)) (fun _ h9 => h9) rfl dX2_holds_9 ?_
    refine lv_iload_n hx hb dX2_holds_12 rfl (lv_at hl 1 rfl) ?_
    refine ri_iald hx hb hK hP 1 0 rfl rfl (by omega) (by decide) dX2_holds_13 ?_
    have f_2 := hR t.toNat (by omega)
    refine ri_icmp_lt (tgt := 51) hx hb (by omega) dX2_holds_14 (by decide) (fun c_3 => ?_) (fun c_3 => ?_)
    · skip
      refine ri_iconst hx hb dX2_holds_51 ?_
      exact ri_zret hx hb hr hlocks (bp_01 _) dX2_holds_52 ((bp_f (by omega)).symm)
    · skip
      refine lv_iload_n hx hb dX2_holds_17 rfl (lv_at hl 2 rfl) ?_
      refine lv_aload_n hx hb dX2_holds_18 rfl (lv_at hl 0 rfl) ?_
      refine va_get (D := D) (ci := 2) (v := .ref (a 3)) (C := RX2) (T := TX2) (N := 4) hx hb hts hinX2 hown hK hP 0 rfl rfl 2 (by decide) (hts _ (List.mem_of_getElem? (i := 2) rfl)) (fun _ h9 => h9) rfl dX2_holds_19 ?_
      refine lv_iload_n hx hb dX2_holds_22 rfl (lv_at hl 1 rfl) ?_
      refine ri_iald hx hb hK hP 3 0 rfl rfl (by omega) (by decide) dX2_holds_23 ?_
      have f_4 := hR t.toNat (by omega)
      refine ri_icmp_ge (tgt := 51) hx hb (by omega) dX2_holds_24 (by decide) (fun c_5 => ?_) (fun c_5 => ?_)
      · skip
        refine ri_iconst hx hb dX2_holds_51 ?_
        exact ri_zret hx hb hr hlocks (bp_01 _) dX2_holds_52 ((bp_f (by omega)).symm)
      · skip
        refine lv_iload_n hx hb dX2_holds_27 rfl (lv_at hl 3 rfl) ?_
        refine lv_aload_n hx hb dX2_holds_28 rfl (lv_at hl 0 rfl) ?_
        refine va_get (D := D) (ci := 2) (v := .ref (a 2)) (C := RX2) (T := TX2) (N := 4) hx hb hts hinX2 hown hK hP 0 rfl rfl 1 (by decide) (hts _ (List.mem_of_getElem? (i := 3) rfl)) (fun _ h9 => h9) rfl dX2_holds_29 ?_
        refine lv_iload_n hx hb dX2_holds_32 rfl (lv_at hl 1 rfl) ?_
        refine ri_iald hx hb hK hP 2 0 rfl rfl (by omega) (by decide) dX2_holds_33 ?_
        have f_6 := hR t.toNat (by omega)
        refine ri_icmp_lt (tgt := 51) hx hb (by omega) dX2_holds_34 (by decide) (fun c_7 => ?_) (fun c_7 => ?_)
        · skip
          refine ri_iconst hx hb dX2_holds_51 ?_
          exact ri_zret hx hb hr hlocks (bp_01 _) dX2_holds_52 ((bp_f (by omega)).symm)
        · skip
          refine lv_iload_n hx hb dX2_holds_37 rfl (lv_at hl 3 rfl) ?_
          refine lv_aload_n hx hb dX2_holds_38 rfl (lv_at hl 0 rfl) ?_
          refine va_get (D := D) (ci := 2) (v := .ref (a 4)) (C := RX2) (T := TX2) (N := 4) hx hb hts hinX2 hown hK hP 0 rfl rfl 3 (by decide) (hts _ (List.mem_of_getElem? (i := 4) rfl)) (fun _ h9 => h9) rfl dX2_holds_39 ?_
          refine lv_iload_n hx hb dX2_holds_42 rfl (lv_at hl 1 rfl) ?_
          refine ri_iald hx hb hK hP 4 0 rfl rfl (by omega) (by decide) dX2_holds_43 ?_
          have f_8 := hR t.toNat (by omega)
          refine ri_icmp_ge (tgt := 51) hx hb (by omega) dX2_holds_44 (by decide) (fun c_9 => ?_) (fun c_9 => ?_)
          · skip
            refine ri_iconst hx hb dX2_holds_51 ?_
            exact ri_zret hx hb hr hlocks (bp_01 _) dX2_holds_52 ((bp_f (by omega)).symm)
          · skip
            refine ri_iconst hx hb dX2_holds_47 ?_
            refine lv_goto (tgt := 52) hx hb dX2_holds_48 (by decide) ?_
            exact ri_zret hx hb hr hlocks (bp_01 _) dX2_holds_52 ((bp_t (by omega)).symm)

theorem f_X2_left : MF yX2_left wsX2_left cX2_left 2 (some .int) 1 := ⟨⟨_, rfl⟩, by decide +kernel, by decide +kernel, by decide +kernel⟩
set_option maxHeartbeats 4000000 in
set_option maxRecDepth 100000 in
theorem k_X2_left (l : Launch) (D : va_G) (a : Nat → Nat) (kk : Nat → ClassId) (g : Nat → Nat → Int) (t : Int) (yt : 0 ≤ t ∧ t ≤ 4) : RD l yX2_left wsX2_left ({ frames := 2, cells := 0, slots := 0, locals := 42 }) [.ref (a 0), .int (iI t)] (wB D kk (rW a kk g)) (g 1 t.toNat) := by
  refine ri_ent (cc := cX2_left) (maxL := 2) (ret := some .int) (by decide) rfl (Nat.le_of_ble_eq_true rfl) ?_
  intro zp ze s zm zb zt zc hx hb hr hts hown hlocks hml hin hB ls hl
  have hown : s.vm.findClass RX2 = some zm.cls := hown
  have CF : CallFix zp zm zc cX2_left 2 s ([.ref (a 0), .int (iI t)] : List Value).toArray wsX2_left RX2 := ⟨hx, hb, hml, hown, hts⟩
  obtain ⟨hP, hK, hN⟩ := hB
  have hinX2 : ∀ w ∈ wsX20, w ∈ wsX2_left := (fun _ h => List.mem_cons_of_mem _ (List.mem_append_right _ h))
  have hl : lv_has ls 2 [(0, .ref (a 0)), (1, .int (iI t))] := hl
  refine lv_iload_n hx hb dX2_left_0 rfl (lv_at hl 1 rfl) ?_
  refine ri_rd (ri_runN (As := [.int (iI t)]) (rest := []) CF (k_X3_isTest l t (by omega)) gX2_left_X3_isTest_n24 f_X3_isTest hN.2.2.2.1 (List.mem_of_getElem? (i := 3) rfl) (List.mem_of_getElem? (i := 2) rfl) ⟨rfl, rfl, Nat.le_of_ble_eq_true rfl, Nat.le_of_ble_eq_true rfl, Nat.le_of_ble_eq_true rfl, Nat.le_of_ble_eq_true rfl⟩ tB_bl tB_in rfl hl.1 rfl (Nat.le_of_ble_eq_true rfl) dX2_left_1) ?_
  refine ri_ifeq_b (tgt := 16) hx hb dX2_left_4 (by decide) (fun c_1 => ?_) (fun c_1 => ?_)
  · skip
    exfalso; omega
  · skip
    refine lv_aload_n hx hb dX2_left_7 rfl (lv_at hl 0 rfl) ?_
    refine va_get (D := D) (ci := 2) (v := .ref (a 1)) (C := RX2) (T := TX2) (N := 4) hx hb hts hinX2 hown hK hP 0 rfl rfl 0 (by decide) (hts _ (List.mem_of_getElem? (i := 1) rfl)) (fun _ h9 => h9) rfl dX2_left_8 ?_
    refine lv_iload_n hx hb dX2_left_11 rfl (lv_at hl 1 rfl) ?_
    refine ri_iald hx hb hK hP 1 0 rfl rfl (by omega) (by decide) dX2_left_12 ?_
    refine lv_goto (tgt := 17) hx hb dX2_left_13 (by decide) ?_
    exact ri_iret hx hb hr hlocks dX2_left_17 (rfl)

theorem f_X2_top : MF yX2_top wsX2_top cX2_top 2 (some .int) 1 := ⟨⟨_, rfl⟩, by decide +kernel, by decide +kernel, by decide +kernel⟩
set_option maxHeartbeats 4000000 in
set_option maxRecDepth 100000 in
theorem k_X2_top (l : Launch) (D : va_G) (a : Nat → Nat) (kk : Nat → ClassId) (g : Nat → Nat → Int) (t : Int) (yt : 0 ≤ t ∧ t ≤ 4) : RD l yX2_top wsX2_top ({ frames := 2, cells := 0, slots := 0, locals := 42 }) [.ref (a 0), .int (iI t)] (wB D kk (rW a kk g)) (g 2 t.toNat) := by
  refine ri_ent (cc := cX2_top) (maxL := 2) (ret := some .int) (by decide) rfl (Nat.le_of_ble_eq_true rfl) ?_
  intro zp ze s zm zb zt zc hx hb hr hts hown hlocks hml hin hB ls hl
  have hown : s.vm.findClass RX2 = some zm.cls := hown
  have CF : CallFix zp zm zc cX2_top 2 s ([.ref (a 0), .int (iI t)] : List Value).toArray wsX2_top RX2 := ⟨hx, hb, hml, hown, hts⟩
  obtain ⟨hP, hK, hN⟩ := hB
  have hinX2 : ∀ w ∈ wsX20, w ∈ wsX2_top := (fun _ h => List.mem_cons_of_mem _ (List.mem_append_right _ h))
  have hl : lv_has ls 2 [(0, .ref (a 0)), (1, .int (iI t))] := hl
  refine lv_iload_n hx hb dX2_top_0 rfl (lv_at hl 1 rfl) ?_
  refine ri_rd (ri_runN (As := [.int (iI t)]) (rest := []) CF (k_X3_isTest l t (by omega)) gX2_top_X3_isTest_n24 f_X3_isTest hN.2.2.2.1 (List.mem_of_getElem? (i := 3) rfl) (List.mem_of_getElem? (i := 2) rfl) ⟨rfl, rfl, Nat.le_of_ble_eq_true rfl, Nat.le_of_ble_eq_true rfl, Nat.le_of_ble_eq_true rfl, Nat.le_of_ble_eq_true rfl⟩ tB_bl tB_in rfl hl.1 rfl (Nat.le_of_ble_eq_true rfl) dX2_top_1) ?_
  refine ri_ifeq_b (tgt := 16) hx hb dX2_top_4 (by decide) (fun c_1 => ?_) (fun c_1 => ?_)
  · skip
    exfalso; omega
  · skip
    refine lv_aload_n hx hb dX2_top_7 rfl (lv_at hl 0 rfl) ?_
    refine va_get (D := D) (ci := 2) (v := .ref (a 2)) (C := RX2) (T := TX2) (N := 4) hx hb hts hinX2 hown hK hP 0 rfl rfl 1 (by decide) (hts _ (List.mem_of_getElem? (i := 1) rfl)) (fun _ h9 => h9) rfl dX2_top_8 ?_
    refine lv_iload_n hx hb dX2_top_11 rfl (lv_at hl 1 rfl) ?_
    refine ri_iald hx hb hK hP 2 0 rfl rfl (by omega) (by decide) dX2_top_12 ?_
    refine lv_goto (tgt := 17) hx hb dX2_top_13 (by decide) ?_
    exact ri_iret hx hb hr hlocks dX2_top_17 (rfl)

theorem f_X2_right : MF yX2_right wsX2_right cX2_right 2 (some .int) 1 := ⟨⟨_, rfl⟩, by decide +kernel, by decide +kernel, by decide +kernel⟩
set_option maxHeartbeats 4000000 in
set_option maxRecDepth 100000 in
theorem k_X2_right (l : Launch) (D : va_G) (a : Nat → Nat) (kk : Nat → ClassId) (g : Nat → Nat → Int) (t : Int) (yt : 0 ≤ t ∧ t ≤ 4) : RD l yX2_right wsX2_right ({ frames := 2, cells := 0, slots := 0, locals := 42 }) [.ref (a 0), .int (iI t)] (wB D kk (rW a kk g)) (g 3 t.toNat) := by
  refine ri_ent (cc := cX2_right) (maxL := 2) (ret := some .int) (by decide) rfl (Nat.le_of_ble_eq_true rfl) ?_
  intro zp ze s zm zb zt zc hx hb hr hts hown hlocks hml hin hB ls hl
  have hown : s.vm.findClass RX2 = some zm.cls := hown
  have CF : CallFix zp zm zc cX2_right 2 s ([.ref (a 0), .int (iI t)] : List Value).toArray wsX2_right RX2 := ⟨hx, hb, hml, hown, hts⟩
  obtain ⟨hP, hK, hN⟩ := hB
  have hinX2 : ∀ w ∈ wsX20, w ∈ wsX2_right := (fun _ h => List.mem_cons_of_mem _ (List.mem_append_right _ h))
  have hl : lv_has ls 2 [(0, .ref (a 0)), (1, .int (iI t))] := hl
  refine lv_iload_n hx hb dX2_right_0 rfl (lv_at hl 1 rfl) ?_
  refine ri_rd (ri_runN (As := [.int (iI t)]) (rest := []) CF (k_X3_isTest l t (by omega)) gX2_right_X3_isTest_n24 f_X3_isTest hN.2.2.2.1 (List.mem_of_getElem? (i := 3) rfl) (List.mem_of_getElem? (i := 2) rfl) ⟨rfl, rfl, Nat.le_of_ble_eq_true rfl, Nat.le_of_ble_eq_true rfl, Nat.le_of_ble_eq_true rfl, Nat.le_of_ble_eq_true rfl⟩ tB_bl tB_in rfl hl.1 rfl (Nat.le_of_ble_eq_true rfl) dX2_right_1) ?_
  refine ri_ifeq_b (tgt := 16) hx hb dX2_right_4 (by decide) (fun c_1 => ?_) (fun c_1 => ?_)
  · skip
    exfalso; omega
  · skip
    refine lv_aload_n hx hb dX2_right_7 rfl (lv_at hl 0 rfl) ?_
    refine va_get (D := D) (ci := 2) (v := .ref (a 3)) (C := RX2) (T := TX2) (N := 4) hx hb hts hinX2 hown hK hP 0 rfl rfl 2 (by decide) (hts _ (List.mem_of_getElem? (i := 1) rfl)) (fun _ h9 => h9) rfl dX2_right_8 ?_
    refine lv_iload_n hx hb dX2_right_11 rfl (lv_at hl 1 rfl) ?_
    refine ri_iald hx hb hK hP 3 0 rfl rfl (by omega) (by decide) dX2_right_12 ?_
    refine lv_goto (tgt := 17) hx hb dX2_right_13 (by decide) ?_
    exact ri_iret hx hb hr hlocks dX2_right_17 (rfl)

theorem f_X2_bottom : MF yX2_bottom wsX2_bottom cX2_bottom 2 (some .int) 1 := ⟨⟨_, rfl⟩, by decide +kernel, by decide +kernel, by decide +kernel⟩
set_option maxHeartbeats 4000000 in
set_option maxRecDepth 100000 in
theorem k_X2_bottom (l : Launch) (D : va_G) (a : Nat → Nat) (kk : Nat → ClassId) (g : Nat → Nat → Int) (t : Int) (yt : 0 ≤ t ∧ t ≤ 4) : RD l yX2_bottom wsX2_bottom ({ frames := 2, cells := 0, slots := 0, locals := 42 }) [.ref (a 0), .int (iI t)] (wB D kk (rW a kk g)) (g 4 t.toNat) := by
  refine ri_ent (cc := cX2_bottom) (maxL := 2) (ret := some .int) (by decide) rfl (Nat.le_of_ble_eq_true rfl) ?_
  intro zp ze s zm zb zt zc hx hb hr hts hown hlocks hml hin hB ls hl
  have hown : s.vm.findClass RX2 = some zm.cls := hown
  have CF : CallFix zp zm zc cX2_bottom 2 s ([.ref (a 0), .int (iI t)] : List Value).toArray wsX2_bottom RX2 := ⟨hx, hb, hml, hown, hts⟩
  obtain ⟨hP, hK, hN⟩ := hB
  have hinX2 : ∀ w ∈ wsX20, w ∈ wsX2_bottom := (fun _ h => List.mem_cons_of_mem _ (List.mem_append_right _ h))
  have hl : lv_has ls 2 [(0, .ref (a 0)), (1, .int (iI t))] := hl
  refine lv_iload_n hx hb dX2_bottom_0 rfl (lv_at hl 1 rfl) ?_
  refine ri_rd (ri_runN (As := [.int (iI t)]) (rest := []) CF (k_X3_isTest l t (by omega)) gX2_bottom_X3_isTest_n24 f_X3_isTest hN.2.2.2.1 (List.mem_of_getElem? (i := 3) rfl) (List.mem_of_getElem? (i := 2) rfl) ⟨rfl, rfl, Nat.le_of_ble_eq_true rfl, Nat.le_of_ble_eq_true rfl, Nat.le_of_ble_eq_true rfl, Nat.le_of_ble_eq_true rfl⟩ tB_bl tB_in rfl hl.1 rfl (Nat.le_of_ble_eq_true rfl) dX2_bottom_1) ?_
  refine ri_ifeq_b (tgt := 16) hx hb dX2_bottom_4 (by decide) (fun c_1 => ?_) (fun c_1 => ?_)
  · skip
    exfalso; omega
  · skip
    refine lv_aload_n hx hb dX2_bottom_7 rfl (lv_at hl 0 rfl) ?_
    refine va_get (D := D) (ci := 2) (v := .ref (a 4)) (C := RX2) (T := TX2) (N := 4) hx hb hts hinX2 hown hK hP 0 rfl rfl 3 (by decide) (hts _ (List.mem_of_getElem? (i := 1) rfl)) (fun _ h9 => h9) rfl dX2_bottom_8 ?_
    refine lv_iload_n hx hb dX2_bottom_11 rfl (lv_at hl 1 rfl) ?_
    refine ri_iald hx hb hK hP 4 0 rfl rfl (by omega) (by decide) dX2_bottom_12 ?_
    refine lv_goto (tgt := 17) hx hb dX2_bottom_13 (by decide) ?_
    exact ri_iret hx hb hr hlocks dX2_bottom_17 (rfl)

theorem f_X0_length : MF yX0_length wsX0_length cX0_length 2 (some .int) 1 := ⟨⟨_, rfl⟩, by decide +kernel, by decide +kernel, by decide +kernel⟩
set_option maxHeartbeats 4000000 in
set_option maxRecDepth 100000 in
theorem k_X0_length (l : Launch) (D : va_G) (a : Nat → Nat) (kk : Nat → ClassId) (g : Nat → Nat → Int) (t : Int) (yt : 0 ≤ t ∧ t ≤ 4) : RD l yX0_length wsX0_length ({ frames := 2, cells := 0, slots := 0, locals := 42 }) [.ref (a 14), .int (iI t)] (wB D kk (xW a kk g)) (g 16 t.toNat) := by
  refine ri_ent (cc := cX0_length) (maxL := 2) (ret := some .int) (by decide) rfl (Nat.le_of_ble_eq_true rfl) ?_
  intro zp ze s zm zb zt zc hx hb hr hts hown hlocks hml hin hB ls hl
  have hown : s.vm.findClass RX0 = some zm.cls := hown
  have CF : CallFix zp zm zc cX0_length 2 s ([.ref (a 14), .int (iI t)] : List Value).toArray wsX0_length RX0 := ⟨hx, hb, hml, hown, hts⟩
  obtain ⟨hP, hK, hN⟩ := hB
  have hinX0 : ∀ w ∈ wsX00, w ∈ wsX0_length := (fun _ h => List.mem_cons_of_mem _ (List.mem_append_right _ h))
  have hl : lv_has ls 2 [(0, .ref (a 14)), (1, .int (iI t))] := hl
  refine lv_iload_n hx hb dX0_length_0 rfl (lv_at hl 1 rfl) ?_
  refine ri_rd (ri_runN (As := [.int (iI t)]) (rest := []) CF (k_X3_isTest l t (by omega)) gX0_length_X3_isTest_n18 f_X3_isTest hN.1 (List.mem_of_getElem? (i := 3) rfl) (List.mem_of_getElem? (i := 2) rfl) ⟨rfl, rfl, Nat.le_of_ble_eq_true rfl, Nat.le_of_ble_eq_true rfl, Nat.le_of_ble_eq_true rfl, Nat.le_of_ble_eq_true rfl⟩ tB_bl tB_in rfl hl.1 rfl (Nat.le_of_ble_eq_true rfl) dX0_length_1) ?_
  refine ri_ifeq_b (tgt := 16) hx hb dX0_length_4 (by decide) (fun c_1 => ?_) (fun c_1 => ?_)
  · skip
    exfalso; omega
  · skip
    refine lv_aload_n hx hb dX0_length_7 rfl (lv_at hl 0 rfl) ?_
    refine va_get (D := D) (ci := 0) (v := .ref (a 16)) (C := RX0) (T := TX0) (N := 2) hx hb hts hinX0 hown hK hP 14 rfl rfl 1 (by decide) (hts _ (List.mem_of_getElem? (i := 1) rfl)) (fun _ h9 => h9) rfl dX0_length_8 ?_
    refine lv_iload_n hx hb dX0_length_11 rfl (lv_at hl 1 rfl) ?_
    refine ri_iald hx hb hK hP 16 0 rfl rfl (by omega) (by decide) dX0_length_12 ?_
    refine lv_goto (tgt := 17) hx hb dX0_length_13 (by decide) ?_
    exact ri_iret hx hb hr hlocks dX0_length_17 (rfl)
