theorem f_X3_runs : MF yX3_runs wsX3_runs cX3_runs 2 (some .int) 1 := ⟨⟨_, rfl⟩, by decide +kernel, by decide +kernel, by decide +kernel⟩
set_option maxHeartbeats 4000000 in
set_option maxRecDepth 100000 in
theorem k_X3_runs (l : Launch) (D : va_G) (a : Nat → Nat) (kk : Nat → ClassId) (g : Nat → Nat → Int) (sa : Nat → Nat) (hst : l.stackTraces = false) (t : Int) (hA : aDs 17 a) (hI : XInv g) (yt : -2147483648 ≤ t ∧ t < 2147483648) : XI l yX3_runs wsX3_runs ({ frames := 7, cells := 1, slots := 6, locals := 104 }) [.ref (a 0), .int (iI t)] (pB sa D a kk g) (0 ≤ t ∧ t ≤ 4) (fun X => X = "java/lang/IllegalArgumentException" ∧ ¬ (0 ≤ t ∧ t ≤ 4)) (g 16 t.toNat) (fun H => va_P D vwCl (xW a kk (g)) H) (aA 17 a) 1 6 := by
  refine ri_entX (cc := cX3_runs) (maxL := 2) (ret := some .int) (by decide) rfl (Nat.le_of_ble_eq_true rfl) ?_
  intro zp ze s zm zb zt zc hx hb hr hts hown hlocks hml hxt hB ls hl
  have hown : s.vm.findClass RX3 = some zm.cls := hown
  have CF : CallFix zp zm zc cX3_runs 2 s ([.ref (a 0), .int (iI t)] : List Value).toArray wsX3_runs RX3 := ⟨hx, hb, hml, hown, hts⟩
  obtain ⟨hT, hP, hK, hN⟩ := hB
  have hinX3 : ∀ w ∈ wsX30, w ∈ wsX3_runs := (fun _ h => List.mem_cons_of_mem _ (List.mem_append_left _ (List.mem_append_left _ (List.mem_append_right _ h))))
  have hS : va_S (aA 17 a) s.heap s.heap [] := va_S.rf
  have hl : lv_has ls 2 [(0, .ref (a 0)), (1, .int (iI t))] := hl
  refine lv_iload_n hx hb dX3_runs_0 rfl (lv_at hl 1 rfl) ?_
  refine ri_rd (ri_runS (As := [.int (iI t)]) (rest := []) CF (k_X3_isTest l t (by omega)) gX3_runs_X3_isTest f_X3_isTest ⟨rfl, rfl, Nat.le_of_ble_eq_true rfl, Nat.le_of_ble_eq_true rfl, Nat.le_of_ble_eq_true rfl, Nat.le_of_ble_eq_true rfl⟩ tB_bl tB_in rfl hl.1 rfl (Nat.le_of_ble_eq_true rfl) dX3_runs_1) ?_
  refine ri_chk (A := (aA 17 a)) (ri_runSX (As := [.int (iI (bp (0 ≤ t ∧ t ≤ 4)))]) (rest := []) CF (k_X3_checkArguments l sa s.heap hst (0 ≤ t ∧ t ≤ 4)) gX3_runs_X3_checkArguments f_X3_checkArguments ⟨rfl, rfl, Nat.le_of_ble_eq_true rfl, Nat.le_of_ble_eq_true rfl, Nat.le_of_ble_eq_true rfl, Nat.le_of_ble_eq_true rfl⟩ cB_bl (cB_in hT) rfl hl.1 rfl (Nat.le_of_ble_eq_true rfl) dX3_runs_4) hS (fun X hX => hX) hxt hlocks (fun _ h => h) (Nat.le_of_ble_eq_true rfl) (Nat.le_of_ble_eq_true rfl) (fun locs hok hS => ?_)
  refine lv_aload_n hx hb dX3_runs_7 rfl (lv_at hl 0 rfl) ?_
  refine va_get (D := D) (ci := 3) (v := .ref (a 14)) (C := RX3) (T := TX3) (N := 4) hx hb hts hinX3 hown hK hP 0 rfl rfl 3 (by decide) (hts _ (List.mem_of_getElem? (i := 1) rfl)) (fun _ h9 => h9) rfl dX3_runs_8 ?_
  refine lv_iload_n hx hb dX3_runs_11 rfl (lv_at hl 1 rfl) ?_
  refine ri_rd (ri_runV (b := a 14) (As := [.int (iI t)]) (rest := []) CF (k_X0_length l D a kk g t (by omega)) gX3_runs_X0_length f_X0_length rfl (va_recv hK hP (ci := 0) (q0 := 14) rfl rfl) ⟨rfl, rfl, Nat.le_of_ble_eq_true rfl, Nat.le_of_ble_eq_true rfl, Nat.le_of_ble_eq_true rfl, Nat.le_of_ble_eq_true rfl⟩ wB_bl (wB_in hP hK hN) rfl hl.1 rfl (Nat.le_of_ble_eq_true rfl) dX3_runs_12) ?_
  refine W.widen (k := 1) (n := 6) (Nat.le_of_ble_eq_true rfl) (Nat.le_of_ble_eq_true rfl) ?_
  exact ri_iretX (A := (aA 17 a)) (PP := (fun H => va_P D vwCl (xW a kk (g)) H)) hx hb hr hlocks hS (hP) (hok) dX3_runs_15 (rfl)

theorem f_X3_doubt : MF yX3_doubt wsX3_doubt cX3_doubt 3 (some .int) 1 := ⟨⟨_, rfl⟩, by decide +kernel, by decide +kernel, by decide +kernel⟩
set_option maxHeartbeats 4000000 in
set_option maxRecDepth 100000 in
theorem k_X3_doubt (l : Launch) (D : va_G) (a : Nat → Nat) (kk : Nat → ClassId) (g : Nat → Nat → Int) (sa : Nat → Nat) (hst : l.stackTraces = false) (t : Int) (hA : aDs 17 a) (hI : XInv g) (yt : -2147483648 ≤ t ∧ t < 2147483648) : XI l yX3_doubt wsX3_doubt ({ frames := 7, cells := 1, slots := 6, locals := 104 }) [.ref (a 0), .int (iI t)] (pB sa D a kk g) (0 ≤ t ∧ t ≤ 4) (fun X => X = "java/lang/IllegalArgumentException" ∧ ¬ (0 ≤ t ∧ t ≤ 4)) (dbt (g 15 t.toNat) (g 16 t.toNat)) (fun H => va_P D vwCl (xW a kk (g)) H) (aA 17 a) 1 6 := by
  refine ri_entX (cc := cX3_doubt) (maxL := 3) (ret := some .int) (by decide) rfl (Nat.le_of_ble_eq_true rfl) ?_
  intro zp ze s zm zb zt zc hx hb hr hts hown hlocks hml hxt hB ls hl
  have hown : s.vm.findClass RX3 = some zm.cls := hown
  have CF : CallFix zp zm zc cX3_doubt 3 s ([.ref (a 0), .int (iI t)] : List Value).toArray wsX3_doubt RX3 := ⟨hx, hb, hml, hown, hts⟩
  obtain ⟨hT, hP, hK, hN⟩ := hB
  have hinX3 : ∀ w ∈ wsX30, w ∈ wsX3_doubt := (fun _ h => List.mem_cons_of_mem _ (List.mem_append_left _ (List.mem_append_left _ (List.mem_append_right _ h))))
  have hS : va_S (aA 17 a) s.heap s.heap [] := va_S.rf
  have hl : lv_has ls 3 [(0, .ref (a 0)), (1, .int (iI t))] := hl
  refine lv_iload_n hx hb dX3_doubt_0 rfl (lv_at hl 1 rfl) ?_
  refine ri_rd (ri_runS (As := [.int (iI t)]) (rest := []) CF (k_X3_isTest l t (by omega)) gX3_doubt_X3_isTest f_X3_isTest ⟨rfl, rfl, Nat.le_of_ble_eq_true rfl, Nat.le_of_ble_eq_true rfl, Nat.le_of_ble_eq_true rfl, Nat.le_of_ble_eq_true rfl⟩ tB_bl tB_in rfl hl.1 rfl (Nat.le_of_ble_eq_true rfl) dX3_doubt_1) ?_
  refine ri_chk (A := (aA 17 a)) (ri_runSX (As := [.int (iI (bp (0 ≤ t ∧ t ≤ 4)))]) (rest := []) CF (k_X3_checkArguments l sa s.heap hst (0 ≤ t ∧ t ≤ 4)) gX3_doubt_X3_checkArguments f_X3_checkArguments ⟨rfl, rfl, Nat.le_of_ble_eq_true rfl, Nat.le_of_ble_eq_true rfl, Nat.le_of_ble_eq_true rfl, Nat.le_of_ble_eq_true rfl⟩ cB_bl (cB_in hT) rfl hl.1 rfl (Nat.le_of_ble_eq_true rfl) dX3_doubt_4) hS (fun X hX => hX) hxt hlocks (fun _ h => h) (Nat.le_of_ble_eq_true rfl) (Nat.le_of_ble_eq_true rfl) (fun locs hok hS => ?_)
  have f16 := hI.2.2.2.2.2 t.toNat (by omega)
  have fch := chg_r (g 15 t.toNat) (g 16 t.toNat)
  refine lv_aload_n hx hb dX3_doubt_7 rfl (lv_at hl 0 rfl) ?_
  refine va_get (D := D) (ci := 3) (v := .ref (a 14)) (C := RX3) (T := TX3) (N := 4) hx hb hts hinX3 hown hK hP 0 rfl rfl 3 (by decide) (hts _ (List.mem_of_getElem? (i := 1) rfl)) (fun _ h9 => h9) rfl dX3_doubt_8 ?_
  refine lv_iload_n hx hb dX3_doubt_11 rfl (lv_at hl 1 rfl) ?_
  refine ri_rd (ri_runV (b := a 14) (As := [.int (iI t)]) (rest := []) CF (k_X0_length l D a kk g t (by omega)) gX3_doubt_X0_length f_X0_length rfl (va_recv hK hP (ci := 0) (q0 := 14) rfl rfl) ⟨rfl, rfl, Nat.le_of_ble_eq_true rfl, Nat.le_of_ble_eq_true rfl, Nat.le_of_ble_eq_true rfl, Nat.le_of_ble_eq_true rfl⟩ wB_bl (wB_in hP hK hN) rfl hl.1 rfl (Nat.le_of_ble_eq_true rfl) dX3_doubt_12) ?_
  refine ri_iconst hx hb dX3_doubt_15 ?_
  refine ri_isub hx hb dX3_doubt_16 ?_
  refine lv_istore_n (lv' := [(2, .int (iI ((g 16 t.toNat) - 1))), (0, .ref (a 0)), (1, .int (iI t))]) hx hb dX3_doubt_17 rfl hl (by decide) rfl (fun ls hl => ?_)
  refine lv_iload_n hx hb dX3_doubt_18 rfl (lv_at hl 0 rfl) ?_
  refine ri_iconst hx hb dX3_doubt_19 ?_
  refine ri_icmp_ge (tgt := 25) hx hb (by omega) dX3_doubt_20 (by decide) (fun c_1 => ?_) (fun c_1 => ?_)
  · skip
    refine ri_bipush hx hb dX3_doubt_25 (by decide) ?_
    refine lv_aload_n hx hb dX3_doubt_27 rfl (lv_at hl 1 rfl) ?_
    refine va_get (D := D) (ci := 3) (v := .ref (a 14)) (C := RX3) (T := TX3) (N := 4) hx hb hts hinX3 hown hK hP 0 rfl rfl 3 (by decide) (hts _ (List.mem_of_getElem? (i := 1) rfl)) (fun _ h9 => h9) rfl dX3_doubt_28 ?_
    refine lv_iload_n hx hb dX3_doubt_31 rfl (lv_at hl 2 rfl) ?_
    refine ri_rd (ri_runV (b := a 14) (As := [.int (iI t)]) (rest := [.int (iI 100)]) CF (k_X0_changes l D a kk g t hI (by omega) (by omega)) gX3_doubt_X0_changes f_X0_changes rfl (va_recv hK hP (ci := 0) (q0 := 14) rfl rfl) ⟨rfl, rfl, Nat.le_of_ble_eq_true rfl, Nat.le_of_ble_eq_true rfl, Nat.le_of_ble_eq_true rfl, Nat.le_of_ble_eq_true rfl⟩ wB_bl (wB_in hP hK hN) rfl hl.1 rfl (Nat.le_of_ble_eq_true rfl) dX3_doubt_32) ?_
    refine ri_imul hx hb dX3_doubt_35 ?_
    refine lv_iload_n hx hb dX3_doubt_36 rfl (lv_at hl 0 rfl) ?_
    refine ri_idiv hx hb (by omega) dX3_doubt_37 ?_
    refine W.widen (k := 1) (n := 6) (Nat.le_of_ble_eq_true rfl) (Nat.le_of_ble_eq_true rfl) ?_
    exact ri_iretX (A := (aA 17 a)) (PP := (fun H => va_P D vwCl (xW a kk (g)) H)) hx hb hr hlocks hS (hP) (hok) dX3_doubt_38 (by unfold dbt; rw [if_neg (by omega)])
  · skip
    refine ri_iconst hx hb dX3_doubt_23 ?_
    refine W.widen (k := 1) (n := 6) (Nat.le_of_ble_eq_true rfl) (Nat.le_of_ble_eq_true rfl) ?_
    exact ri_iretX (A := (aA 17 a)) (PP := (fun H => va_P D vwCl (xW a kk (g)) H)) hx hb hr hlocks hS (hP) (hok) dX3_doubt_24 (by unfold dbt; rw [if_pos (by omega)])

theorem f_X3_isApproved : MF yX3_isApproved wsX3_isApproved cX3_isApproved 3 (some .boolean) 2 := ⟨⟨_, rfl⟩, by decide +kernel, by decide +kernel, by decide +kernel⟩
set_option maxHeartbeats 4000000 in
set_option maxRecDepth 100000 in
theorem k_X3_isApproved (l : Launch) (D : va_G) (a : Nat → Nat) (kk : Nat → ClassId) (g : Nat → Nat → Int) (sa : Nat → Nat) (hst : l.stackTraces = false) (b : Int) (t : Int) (hA : aDs 17 a) (hI : XInv g) (yb : -2147483648 ≤ b ∧ b < 2147483648) (yt : -2147483648 ≤ t ∧ t < 2147483648) : XI l yX3_isApproved wsX3_isApproved ({ frames := 7, cells := 1, slots := 6, locals := 104 }) [.ref (a 0), .int (iI b), .int (iI t)] (pB sa D a kk g) ((0 ≤ b ∧ b ≤ 3) ∧ (0 ≤ t ∧ t ≤ 4)) (fun X => X = "java/lang/IllegalArgumentException" ∧ ¬ ((0 ≤ b ∧ b ≤ 3) ∧ (0 ≤ t ∧ t ≤ 4))) (bp (g 3 (5 + b * 5 + t).toNat = 1)) (fun H => va_P D vwCl (xW a kk (g)) H) (aA 17 a) 1 6 := by
  refine ri_entX (cc := cX3_isApproved) (maxL := 3) (ret := some .boolean) (by decide) rfl (Nat.le_of_ble_eq_true rfl) ?_
  intro zp ze s zm zb zt zc hx hb hr hts hown hlocks hml hxt hB ls hl
  have hown : s.vm.findClass RX3 = some zm.cls := hown
  have CF : CallFix zp zm zc cX3_isApproved 3 s ([.ref (a 0), .int (iI b), .int (iI t)] : List Value).toArray wsX3_isApproved RX3 := ⟨hx, hb, hml, hown, hts⟩
  obtain ⟨hT, hP, hK, hN⟩ := hB
  have hinX3 : ∀ w ∈ wsX30, w ∈ wsX3_isApproved := (fun _ h => List.mem_cons_of_mem _ (List.mem_append_left _ (List.mem_append_left _ (List.mem_append_right _ h))))
  have hS : va_S (aA 17 a) s.heap s.heap [] := va_S.rf
  have hl : lv_has ls 3 [(0, .ref (a 0)), (1, .int (iI b)), (2, .int (iI t))] := hl
  have J19 : W zp l ze ({ frames := 7, cells := 1, slots := 6, locals := 104 }) s zm ([.ref (a 0), .int (iI b), .int (iI t)] : List Value).toArray zb zt zc s.heap [] 0 0 (vx_MQ zb (va_Qi (fun (r9 : Int32) (_ : Unit) => ((0 ≤ b ∧ b ≤ 3) ∧ (0 ≤ t ∧ t ≤ 4)) ∧ r9 = iI (bp (g 3 (5 + b * 5 + t).toNat = 1))) (fun _ t9 => (fun H => va_P D vwCl (xW a kk (g)) H) t9.heap) (aA 17 a)) (vx_X (fun _ : Unit => True) (fun X _ _ => (fun X => X = "java/lang/IllegalArgumentException" ∧ ¬ ((0 ≤ b ∧ b ≤ 3) ∧ (0 ≤ t ∧ t ≤ 4))) X) (fun _ => False)) ([.ref (a 0), .int (iI b), .int (iI t)] : List Value).toArray s 1 6 (aA 17 a)) (F0 zm 19 ls [.int (iI (bp ((0 ≤ b ∧ b ≤ 3) ∧ (0 ≤ t ∧ t ≤ 4))))]) := by
    refine ri_chk (A := (aA 17 a)) (ri_runSX (As := [.int (iI (bp ((0 ≤ b ∧ b ≤ 3) ∧ (0 ≤ t ∧ t ≤ 4))))]) (rest := []) CF (k_X3_checkArguments l sa s.heap hst ((0 ≤ b ∧ b ≤ 3) ∧ (0 ≤ t ∧ t ≤ 4))) gX3_isApproved_X3_checkArguments f_X3_checkArguments ⟨rfl, rfl, Nat.le_of_ble_eq_true rfl, Nat.le_of_ble_eq_true rfl, Nat.le_of_ble_eq_true rfl, Nat.le_of_ble_eq_true rfl⟩ cB_bl (cB_in hT) rfl hl.1 rfl (Nat.le_of_ble_eq_true rfl) dX3_isApproved_19) hS (fun X hX => hX) hxt hlocks (fun _ h => h) (Nat.le_of_ble_eq_true rfl) (Nat.le_of_ble_eq_true rfl) (fun locs hok hS => ?_)
    refine lv_aload_n hx hb dX3_isApproved_22 rfl (lv_at hl 0 rfl) ?_
    refine va_get (D := D) (ci := 3) (v := .ref (a 1)) (C := RX3) (T := TX3) (N := 4) hx hb hts hinX3 hown hK hP 0 rfl rfl 0 (by decide) (hts _ (List.mem_of_getElem? (i := 1) rfl)) (fun _ h9 => h9) rfl dX3_isApproved_23 ?_
    refine lv_iload_n hx hb dX3_isApproved_26 rfl (lv_at hl 1 rfl) ?_
    refine lv_iload_n hx hb dX3_isApproved_27 rfl (lv_at hl 2 rfl) ?_
    refine ri_rd (ri_runS (As := [.int (iI b), .int (iI t)]) (rest := [.ref (a 1)]) CF (k_X3_approvedSlot l b t) gX3_isApproved_X3_approvedSlot f_X3_approvedSlot ⟨rfl, rfl, Nat.le_of_ble_eq_true rfl, Nat.le_of_ble_eq_true rfl, Nat.le_of_ble_eq_true rfl, Nat.le_of_ble_eq_true rfl⟩ tB_bl tB_in rfl hl.1 rfl (Nat.le_of_ble_eq_true rfl) dX3_isApproved_28) ?_
    refine ri_rd (ri_runV (b := a 1) (As := [.int (iI (5 + b * 5 + t))]) (rest := []) CF (k_X1_has l D a kk g (5 + b * 5 + t) hI (by omega)) gX3_isApproved_X1_has f_X1_has rfl (va_recv hK hP (ci := 1) (q0 := 1) rfl rfl) ⟨rfl, rfl, Nat.le_of_ble_eq_true rfl, Nat.le_of_ble_eq_true rfl, Nat.le_of_ble_eq_true rfl, Nat.le_of_ble_eq_true rfl⟩ wB_bl (wB_in hP hK hN) rfl hl.1 rfl (Nat.le_of_ble_eq_true rfl) dX3_isApproved_31) ?_
    refine W.widen (k := 1) (n := 6) (Nat.le_of_ble_eq_true rfl) (Nat.le_of_ble_eq_true rfl) ?_
    exact ri_zretX (A := (aA 17 a)) (PP := (fun H => va_P D vwCl (xW a kk (g)) H)) hx hb hr hlocks hS (hP) (hok) (bp_01 _) dX3_isApproved_34 (rfl)
  refine lv_iload_n hx hb dX3_isApproved_0 rfl (lv_at hl 1 rfl) ?_
  refine ri_rd (ri_runS (As := [.int (iI b)]) (rest := []) CF (k_X3_isBranch l b (by omega)) gX3_isApproved_X3_isBranch f_X3_isBranch ⟨rfl, rfl, Nat.le_of_ble_eq_true rfl, Nat.le_of_ble_eq_true rfl, Nat.le_of_ble_eq_true rfl, Nat.le_of_ble_eq_true rfl⟩ tB_bl tB_in rfl hl.1 rfl (Nat.le_of_ble_eq_true rfl) dX3_isApproved_1) ?_
  refine ri_ifeq_b (tgt := 18) hx hb dX3_isApproved_4 (by decide) (fun h4 => ?_) (fun h4 => ?_)
  · skip
    refine ri_iconst hx hb dX3_isApproved_18 ?_
    exact ri_eq ((bp_f (fun q => h4 (q.1))).symm) J19
  · skip
    refine lv_iload_n hx hb dX3_isApproved_7 rfl (lv_at hl 2 rfl) ?_
    refine ri_rd (ri_runS (As := [.int (iI t)]) (rest := []) CF (k_X3_isTest l t (by omega)) gX3_isApproved_X3_isTest f_X3_isTest ⟨rfl, rfl, Nat.le_of_ble_eq_true rfl, Nat.le_of_ble_eq_true rfl, Nat.le_of_ble_eq_true rfl, Nat.le_of_ble_eq_true rfl⟩ tB_bl tB_in rfl hl.1 rfl (Nat.le_of_ble_eq_true rfl) dX3_isApproved_8) ?_
    refine ri_ifeq_b (tgt := 18) hx hb dX3_isApproved_11 (by decide) (fun h11 => ?_) (fun h11 => ?_)
    · skip
      refine ri_iconst hx hb dX3_isApproved_18 ?_
      exact ri_eq ((bp_f (fun q => h11 (q.2))).symm) J19
    · skip
      refine ri_iconst hx hb dX3_isApproved_14 ?_
      refine lv_goto (tgt := 19) hx hb dX3_isApproved_15 (by decide) ?_
      exact ri_eq ((bp_t ⟨h4, h11⟩).symm) J19

theorem f_X3_approve : MF yX3_approve wsX3_approve cX3_approve 5 (some .boolean) 2 := ⟨⟨_, rfl⟩, by decide +kernel, by decide +kernel, by decide +kernel⟩
set_option maxHeartbeats 4000000 in
set_option maxRecDepth 100000 in
theorem k_X3_approve (l : Launch) (D : va_G) (a : Nat → Nat) (kk : Nat → ClassId) (g : Nat → Nat → Int) (sa : Nat → Nat) (hst : l.stackTraces = false) (b : Int) (t : Int) (hA : aDs 17 a) (hI : XInv g) (yb : -2147483648 ≤ b ∧ b < 2147483648) (yt : -2147483648 ≤ t ∧ t < 2147483648) : XI l yX3_approve wsX3_approve ({ frames := 7, cells := 1, slots := 6, locals := 104 }) [.ref (a 0), .int (iI b), .int (iI t)] (pB sa D a kk g) ((0 ≤ b ∧ b ≤ 3) ∧ (0 ≤ t ∧ t ≤ 4)) (fun X => X = "java/lang/IllegalArgumentException" ∧ ¬ ((0 ≤ b ∧ b ≤ 3) ∧ (0 ≤ t ∧ t ≤ 4))) (bp (g 3 (5 + b * 5 + t).toNat = 1)) (fun H => va_P D vwCl (xW a kk (cpG g t (5 + b * 5 + t))) H) (aA 17 a) 1 6 := by
  refine ri_entX (cc := cX3_approve) (maxL := 5) (ret := some .boolean) (by decide) rfl (Nat.le_of_ble_eq_true rfl) ?_
  intro zp ze s zm zb zt zc hx hb hr hts hown hlocks hml hxt hB ls hl
  have hown : s.vm.findClass RX3 = some zm.cls := hown
  have CF : CallFix zp zm zc cX3_approve 5 s ([.ref (a 0), .int (iI b), .int (iI t)] : List Value).toArray wsX3_approve RX3 := ⟨hx, hb, hml, hown, hts⟩
  obtain ⟨hT, hP, hK, hN⟩ := hB
  have hinX3 : ∀ w ∈ wsX30, w ∈ wsX3_approve := (fun _ h => List.mem_cons_of_mem _ (List.mem_append_left _ (List.mem_append_left _ (List.mem_append_right _ h))))
  have hS : va_S (aA 17 a) s.heap s.heap [] := va_S.rf
  have hl : lv_has ls 5 [(0, .ref (a 0)), (1, .int (iI b)), (2, .int (iI t))] := hl
  have J19 : W zp l ze ({ frames := 7, cells := 1, slots := 6, locals := 104 }) s zm ([.ref (a 0), .int (iI b), .int (iI t)] : List Value).toArray zb zt zc s.heap [] 0 0 (vx_MQ zb (va_Qi (fun (r9 : Int32) (_ : Unit) => ((0 ≤ b ∧ b ≤ 3) ∧ (0 ≤ t ∧ t ≤ 4)) ∧ r9 = iI (bp (g 3 (5 + b * 5 + t).toNat = 1))) (fun _ t9 => (fun H => va_P D vwCl (xW a kk (cpG g t (5 + b * 5 + t))) H) t9.heap) (aA 17 a)) (vx_X (fun _ : Unit => True) (fun X _ _ => (fun X => X = "java/lang/IllegalArgumentException" ∧ ¬ ((0 ≤ b ∧ b ≤ 3) ∧ (0 ≤ t ∧ t ≤ 4))) X) (fun _ => False)) ([.ref (a 0), .int (iI b), .int (iI t)] : List Value).toArray s 1 6 (aA 17 a)) (F0 zm 19 ls [.int (iI (bp ((0 ≤ b ∧ b ≤ 3) ∧ (0 ≤ t ∧ t ≤ 4))))]) := by
    refine ri_chk (A := (aA 17 a)) (ri_runSX (As := [.int (iI (bp ((0 ≤ b ∧ b ≤ 3) ∧ (0 ≤ t ∧ t ≤ 4))))]) (rest := []) CF (k_X3_checkArguments l sa s.heap hst ((0 ≤ b ∧ b ≤ 3) ∧ (0 ≤ t ∧ t ≤ 4))) gX3_approve_X3_checkArguments f_X3_checkArguments ⟨rfl, rfl, Nat.le_of_ble_eq_true rfl, Nat.le_of_ble_eq_true rfl, Nat.le_of_ble_eq_true rfl, Nat.le_of_ble_eq_true rfl⟩ cB_bl (cB_in hT) rfl hl.1 rfl (Nat.le_of_ble_eq_true rfl) dX3_approve_19) hS (fun X hX => hX) hxt hlocks (fun _ h => h) (Nat.le_of_ble_eq_true rfl) (Nat.le_of_ble_eq_true rfl) (fun locs hok hS => ?_)
    refine lv_iload_n hx hb dX3_approve_22 rfl (lv_at hl 1 rfl) ?_
    refine lv_iload_n hx hb dX3_approve_23 rfl (lv_at hl 2 rfl) ?_
    refine ri_rd (ri_runS (As := [.int (iI b), .int (iI t)]) (rest := []) CF (k_X3_approvedSlot l b t) gX3_approve_X3_approvedSlot f_X3_approvedSlot ⟨rfl, rfl, Nat.le_of_ble_eq_true rfl, Nat.le_of_ble_eq_true rfl, Nat.le_of_ble_eq_true rfl, Nat.le_of_ble_eq_true rfl⟩ tB_bl tB_in rfl hl.1 rfl (Nat.le_of_ble_eq_true rfl) dX3_approve_24) ?_
    refine lv_istore_n (lv' := [(3, .int (iI (5 + b * 5 + t))), (0, .ref (a 0)), (1, .int (iI b)), (2, .int (iI t))]) hx hb dX3_approve_27 rfl hl (by decide) rfl (fun ls hl => ?_)
    refine lv_aload_n hx hb dX3_approve_28 rfl (lv_at hl 1 rfl) ?_
    refine va_get (D := D) (ci := 3) (v := .ref (a 1)) (C := RX3) (T := TX3) (N := 4) hx hb hts hinX3 hown hK hP 0 rfl rfl 0 (by decide) (hts _ (List.mem_of_getElem? (i := 1) rfl)) (fun _ h9 => h9) rfl dX3_approve_29 ?_
    refine lv_iload_n hx hb dX3_approve_32 rfl (lv_at hl 0 rfl) ?_
    refine ri_rd (ri_runV (b := a 1) (As := [.int (iI (5 + b * 5 + t))]) (rest := []) CF (k_X1_has l D a kk g (5 + b * 5 + t) hI (by omega)) gX3_approve_X1_has f_X1_has rfl (va_recv hK hP (ci := 1) (q0 := 1) rfl rfl) ⟨rfl, rfl, Nat.le_of_ble_eq_true rfl, Nat.le_of_ble_eq_true rfl, Nat.le_of_ble_eq_true rfl, Nat.le_of_ble_eq_true rfl⟩ wB_bl (wB_in hP hK hN) rfl hl.1 rfl (Nat.le_of_ble_eq_true rfl) dX3_approve_33) ?_
    refine lv_istore (lv' := [(4, .int (iI (bp (g 3 (5 + b * 5 + t).toNat = 1)))), (3, .int (iI (5 + b * 5 + t))), (0, .ref (a 0)), (1, .int (iI b)), (2, .int (iI t))]) hx hb dX3_approve_36 hl (by decide) rfl (fun ls hl => ?_)
    refine lv_aload_n hx hb dX3_approve_38 rfl (lv_at hl 2 rfl) ?_
    refine va_get (D := D) (ci := 3) (v := .ref (a 1)) (C := RX3) (T := TX3) (N := 4) hx hb hts hinX3 hown hK hP 0 rfl rfl 0 (by decide) (hts _ (List.mem_of_getElem? (i := 1) rfl)) (fun _ h9 => h9) rfl dX3_approve_39 ?_
    refine lv_iload_n hx hb dX3_approve_42 rfl (lv_at hl 4 rfl) ?_
    refine ri_rd (ri_runS (As := [.int (iI t)]) (rest := [.ref (a 1)]) CF (k_X3_pictureSlot l t) gX3_approve_X3_pictureSlot f_X3_pictureSlot ⟨rfl, rfl, Nat.le_of_ble_eq_true rfl, Nat.le_of_ble_eq_true rfl, Nat.le_of_ble_eq_true rfl, Nat.le_of_ble_eq_true rfl⟩ tB_bl tB_in rfl hl.1 rfl (Nat.le_of_ble_eq_true rfl) dX3_approve_43) ?_
    refine lv_iload_n hx hb dX3_approve_46 rfl (lv_at hl 1 rfl) ?_
    refine ri_wv (PP := fun H => va_P D vwCl (xW a kk (cpG g t (5 + b * 5 + t))) H) (ri_runV (b := a 1) (As := [.int (iI t), .int (iI (5 + b * 5 + t))]) (rest := []) CF (k_X1_copy l D a kk g t (5 + b * 5 + t) hA hI (by omega) (by omega)) gX3_approve_X1_copy f_X1_copy rfl (va_recv hK hP (ci := 1) (q0 := 1) rfl rfl) ⟨rfl, rfl, Nat.le_of_ble_eq_true rfl, Nat.le_of_ble_eq_true rfl, Nat.le_of_ble_eq_true rfl, Nat.le_of_ble_eq_true rfl⟩ wB_bl (wB_in hP hK hN) rfl hl.1 rfl (Nat.le_of_ble_eq_true rfl) dX3_approve_47) hS (fun _ h => h) (fun H locs hP _ hS => ?_)
    replace hP : va_P D vwCl (xW a kk (cpG g t (5 + b * 5 + t))) H := hP
    refine lv_iload hx hb dX3_approve_50 (lv_at hl 0 rfl) ?_
    refine W.widen (k := 1) (n := 6) (Nat.le_of_ble_eq_true rfl) (Nat.le_of_ble_eq_true rfl) ?_
    exact ri_zretX (A := (aA 17 a)) (PP := (fun H => va_P D vwCl (xW a kk (cpG g t (5 + b * 5 + t))) H)) hx hb hr hlocks hS (hP) (hok) (bp_01 _) dX3_approve_52 (rfl)
  refine lv_iload_n hx hb dX3_approve_0 rfl (lv_at hl 1 rfl) ?_
  refine ri_rd (ri_runS (As := [.int (iI b)]) (rest := []) CF (k_X3_isBranch l b (by omega)) gX3_approve_X3_isBranch f_X3_isBranch ⟨rfl, rfl, Nat.le_of_ble_eq_true rfl, Nat.le_of_ble_eq_true rfl, Nat.le_of_ble_eq_true rfl, Nat.le_of_ble_eq_true rfl⟩ tB_bl tB_in rfl hl.1 rfl (Nat.le_of_ble_eq_true rfl) dX3_approve_1) ?_
  refine ri_ifeq_b (tgt := 18) hx hb dX3_approve_4 (by decide) (fun h4 => ?_) (fun h4 => ?_)
  · skip
    refine ri_iconst hx hb dX3_approve_18 ?_
    exact ri_eq ((bp_f (fun q => h4 (q.1))).symm) J19
  · skip
    refine lv_iload_n hx hb dX3_approve_7 rfl (lv_at hl 2 rfl) ?_
    refine ri_rd (ri_runS (As := [.int (iI t)]) (rest := []) CF (k_X3_isTest l t (by omega)) gX3_approve_X3_isTest f_X3_isTest ⟨rfl, rfl, Nat.le_of_ble_eq_true rfl, Nat.le_of_ble_eq_true rfl, Nat.le_of_ble_eq_true rfl, Nat.le_of_ble_eq_true rfl⟩ tB_bl tB_in rfl hl.1 rfl (Nat.le_of_ble_eq_true rfl) dX3_approve_8) ?_
    refine ri_ifeq_b (tgt := 18) hx hb dX3_approve_11 (by decide) (fun h11 => ?_) (fun h11 => ?_)
    · skip
      refine ri_iconst hx hb dX3_approve_18 ?_
      exact ri_eq ((bp_f (fun q => h11 (q.2))).symm) J19
    · skip
      refine ri_iconst hx hb dX3_approve_14 ?_
      refine lv_goto (tgt := 19) hx hb dX3_approve_15 (by decide) ?_
      exact ri_eq ((bp_t ⟨h4, h11⟩).symm) J19

theorem f_X3_setPart : MF yX3_setPart wsX3_setPart cX3_setPart 6 (none) 5 := ⟨⟨_, rfl⟩, by decide +kernel, by decide +kernel, by decide +kernel⟩
set_option maxHeartbeats 4000000 in
set_option maxRecDepth 100000 in
theorem k_X3_setPart (l : Launch) (D : va_G) (a : Nat → Nat) (kk : Nat → ClassId) (g : Nat → Nat → Int) (sa : Nat → Nat) (hst : l.stackTraces = false) (t : Int) (c : Int) (r : Int) (w : Int) (h : Int) (hA : aDs 17 a) (hI : XInv g) (yt : -2147483648 ≤ t ∧ t < 2147483648) (yc : -2147483648 ≤ c ∧ c < 2147483648) (yr : -2147483648 ≤ r ∧ r < 2147483648) (yw : -2147483648 ≤ w ∧ w < 2147483648) (yh : -2147483648 ≤ h ∧ h < 2147483648) : XV l yX3_setPart wsX3_setPart ({ frames := 7, cells := 1, slots := 6, locals := 104 }) [.ref (a 0), .int (iI t), .int (iI c), .int (iI r), .int (iI w), .int (iI h)] (pB sa D a kk g) ((0 ≤ t ∧ t ≤ 4) ∧ ((0 ≤ c ∧ c ≤ 7) ∧ (0 ≤ r ∧ r ≤ 7)) ∧ (1 ≤ w ∧ w ≤ 8 - c) ∧ (1 ≤ h ∧ h ≤ 8 - r)) (fun X => X = "java/lang/IllegalArgumentException" ∧ ¬ ((0 ≤ t ∧ t ≤ 4) ∧ ((0 ≤ c ∧ c ≤ 7) ∧ (0 ≤ r ∧ r ≤ 7)) ∧ (1 ≤ w ∧ w ≤ 8 - c) ∧ (1 ≤ h ∧ h ≤ 8 - r))) (fun H => va_P D vwCl (xW a kk (putX 9 (putX 4 g t c r w h) t 0 0 0 0)) H) (aA 17 a) 1 6 := by
  refine ri_entX (cc := cX3_setPart) (maxL := 6) (ret := none) (by decide) rfl (Nat.le_of_ble_eq_true rfl) ?_
  intro zp ze s zm zb zt zc hx hb hr hts hown hlocks hml hxt hB ls hl
  have hown : s.vm.findClass RX3 = some zm.cls := hown
  have CF : CallFix zp zm zc cX3_setPart 6 s ([.ref (a 0), .int (iI t), .int (iI c), .int (iI r), .int (iI w), .int (iI h)] : List Value).toArray wsX3_setPart RX3 := ⟨hx, hb, hml, hown, hts⟩
  obtain ⟨hT, hP, hK, hN⟩ := hB
  have hinX3 : ∀ w ∈ wsX30, w ∈ wsX3_setPart := (fun _ h => List.mem_cons_of_mem _ (List.mem_append_left _ (List.mem_append_left _ (List.mem_append_right _ h))))
  have hS : va_S (aA 17 a) s.heap s.heap [] := va_S.rf
  have hl : lv_has ls 6 [(0, .ref (a 0)), (1, .int (iI t)), (2, .int (iI c)), (3, .int (iI r)), (4, .int (iI w)), (5, .int (iI h))] := hl
  have J24 : W zp l ze ({ frames := 7, cells := 1, slots := 6, locals := 104 }) s zm ([.ref (a 0), .int (iI t), .int (iI c), .int (iI r), .int (iI w), .int (iI h)] : List Value).toArray zb zt zc s.heap [] 0 0 (vx_MQ zb (va_Qv (fun _ : Unit => (0 ≤ t ∧ t ≤ 4) ∧ ((0 ≤ c ∧ c ≤ 7) ∧ (0 ≤ r ∧ r ≤ 7)) ∧ (1 ≤ w ∧ w ≤ 8 - c) ∧ (1 ≤ h ∧ h ≤ 8 - r)) (fun _ t9 => (fun H => va_P D vwCl (xW a kk (putX 9 (putX 4 g t c r w h) t 0 0 0 0)) H) t9.heap) (aA 17 a)) (vx_X (fun _ : Unit => True) (fun X _ _ => (fun X => X = "java/lang/IllegalArgumentException" ∧ ¬ ((0 ≤ t ∧ t ≤ 4) ∧ ((0 ≤ c ∧ c ≤ 7) ∧ (0 ≤ r ∧ r ≤ 7)) ∧ (1 ≤ w ∧ w ≤ 8 - c) ∧ (1 ≤ h ∧ h ≤ 8 - r))) X) (fun _ => False)) ([.ref (a 0), .int (iI t), .int (iI c), .int (iI r), .int (iI w), .int (iI h)] : List Value).toArray s 1 6 (aA 17 a)) (F0 zm 24 ls [.int (iI (bp ((0 ≤ t ∧ t ≤ 4) ∧ ((0 ≤ c ∧ c ≤ 7) ∧ (0 ≤ r ∧ r ≤ 7)) ∧ (1 ≤ w ∧ w ≤ 8 - c) ∧ (1 ≤ h ∧ h ≤ 8 - r))))]) := by
    refine ri_chk (A := (aA 17 a)) (ri_runSX (As := [.int (iI (bp ((0 ≤ t ∧ t ≤ 4) ∧ ((0 ≤ c ∧ c ≤ 7) ∧ (0 ≤ r ∧ r ≤ 7)) ∧ (1 ≤ w ∧ w ≤ 8 - c) ∧ (1 ≤ h ∧ h ≤ 8 - r))))]) (rest := []) CF (k_X3_checkArguments l sa s.heap hst ((0 ≤ t ∧ t ≤ 4) ∧ ((0 ≤ c ∧ c ≤ 7) ∧ (0 ≤ r ∧ r ≤ 7)) ∧ (1 ≤ w ∧ w ≤ 8 - c) ∧ (1 ≤ h ∧ h ≤ 8 - r))) gX3_setPart_X3_checkArguments f_X3_checkArguments ⟨rfl, rfl, Nat.le_of_ble_eq_true rfl, Nat.le_of_ble_eq_true rfl, Nat.le_of_ble_eq_true rfl, Nat.le_of_ble_eq_true rfl⟩ cB_bl (cB_in hT) rfl hl.1 rfl (Nat.le_of_ble_eq_true rfl) dX3_setPart_24) hS (fun X hX => hX) hxt hlocks (fun _ h => h) (Nat.le_of_ble_eq_true rfl) (Nat.le_of_ble_eq_true rfl) (fun locs hok hS => ?_)
    obtain ⟨hok1, hok2⟩ := id hok
    refine lv_aload_n hx hb dX3_setPart_27 rfl (lv_at hl 0 rfl) ?_
    refine va_get (D := D) (ci := 3) (v := .ref (a 4)) (C := RX3) (T := TX3) (N := 4) hx hb hts hinX3 hown hK hP 0 rfl rfl 1 (by decide) (hts _ (List.mem_of_getElem? (i := 1) rfl)) (fun _ h9 => h9) rfl dX3_setPart_28 ?_
    refine lv_iload_n hx hb dX3_setPart_31 rfl (lv_at hl 1 rfl) ?_
    refine lv_iload_n hx hb dX3_setPart_32 rfl (lv_at hl 2 rfl) ?_
    refine lv_iload_n hx hb dX3_setPart_33 rfl (lv_at hl 3 rfl) ?_
    refine lv_iload hx hb dX3_setPart_34 (lv_at hl 4 rfl) ?_
    refine lv_iload hx hb dX3_setPart_36 (lv_at hl 5 rfl) ?_
    refine ri_wv (PP := fun H => va_P D vwCl (rW (fun i => a (4 + i)) kk (putR (fun i => g (4 + i)) t c r w h)) H) (ri_runV (b := a 4) (As := [.int (iI t), .int (iI c), .int (iI r), .int (iI w), .int (iI h)]) (rest := []) CF (k_X2_put l D (fun i => a (4 + i)) kk (fun i => g (4 + i)) t c r w h (aDs_sub hA 4 (by decide)) (by omega)) gX3_setPart_X2_put f_X2_put rfl (va_recv hK hP (ci := 2) (q0 := 4) rfl rfl) ⟨rfl, rfl, Nat.le_of_ble_eq_true rfl, Nat.le_of_ble_eq_true rfl, Nat.le_of_ble_eq_true rfl, Nat.le_of_ble_eq_true rfl⟩ wB_bl (wB_in (x_parts hP) hK hN) rfl hl.1 rfl (Nat.le_of_ble_eq_true rfl) dX3_setPart_38) hS (aA_sub 4 (by decide)) (fun H_1 locs hP1 hk1 hS => ?_)
    replace hP : va_P D vwCl (xW a kk (putX 4 g t c r w h)) H_1 := x_pj4 hA hP hP1 hk1
    refine lv_aload_n hx hb dX3_setPart_41 rfl (lv_at hl 0 rfl) ?_
    refine va_get (D := D) (ci := 3) (v := .ref (a 9)) (C := RX3) (T := TX3) (N := 4) hx hb hts hinX3 hown hK hP 0 rfl rfl 2 (by decide) (hts _ (List.mem_of_getElem? (i := 2) rfl)) (fun _ h9 => h9) rfl dX3_setPart_42 ?_
    refine lv_iload_n hx hb dX3_setPart_45 rfl (lv_at hl 1 rfl) ?_
    refine ri_wv (PP := fun H => va_P D vwCl (rW (fun i => a (9 + i)) kk (putR (fun i => (putX 4 g t c r w h) (9 + i)) t 0 0 0 0)) H) (ri_runV (b := a 9) (As := [.int (iI t)]) (rest := []) CF (k_X2_drop l D (fun i => a (9 + i)) kk (fun i => (putX 4 g t c r w h) (9 + i)) t (aDs_sub hA 9 (by decide)) (by omega)) gX3_setPart_X2_drop f_X2_drop rfl (va_recv hK hP (ci := 2) (q0 := 9) rfl rfl) ⟨rfl, rfl, Nat.le_of_ble_eq_true rfl, Nat.le_of_ble_eq_true rfl, Nat.le_of_ble_eq_true rfl, Nat.le_of_ble_eq_true rfl⟩ wB_bl (wB_in (x_masks hP) hK hN) rfl hl.1 rfl (Nat.le_of_ble_eq_true rfl) dX3_setPart_46) hS (aA_sub 9 (by decide)) (fun H_2 locs hP1 hk1 hS => ?_)
    replace hP : va_P D vwCl (xW a kk (putX 9 (putX 4 g t c r w h) t 0 0 0 0)) H_2 := x_pj9 hA hP hP1 hk1
    refine W.widen (k := 1) (n := 6) (Nat.le_of_ble_eq_true rfl) (Nat.le_of_ble_eq_true rfl) ?_
    exact ri_vretX (A := (aA 17 a)) (PP := (fun H => va_P D vwCl (xW a kk (putX 9 (putX 4 g t c r w h) t 0 0 0 0)) H)) hx hb hr hlocks hS (hP) (hok) dX3_setPart_49
  refine lv_iload_n hx hb dX3_setPart_0 rfl (lv_at hl 1 rfl) ?_
  refine ri_rd (ri_runS (As := [.int (iI t)]) (rest := []) CF (k_X3_isTest l t (by omega)) gX3_setPart_X3_isTest f_X3_isTest ⟨rfl, rfl, Nat.le_of_ble_eq_true rfl, Nat.le_of_ble_eq_true rfl, Nat.le_of_ble_eq_true rfl, Nat.le_of_ble_eq_true rfl⟩ tB_bl tB_in rfl hl.1 rfl (Nat.le_of_ble_eq_true rfl) dX3_setPart_1) ?_
  refine ri_ifeq_b (tgt := 23) hx hb dX3_setPart_4 (by decide) (fun h4 => ?_) (fun h4 => ?_)
  · skip
    refine ri_iconst hx hb dX3_setPart_23 ?_
    exact ri_eq ((bp_f (fun q => h4 (q.1))).symm) J24
  · skip
    refine lv_iload_n hx hb dX3_setPart_7 rfl (lv_at hl 2 rfl) ?_
    refine lv_iload_n hx hb dX3_setPart_8 rfl (lv_at hl 3 rfl) ?_
    refine lv_iload hx hb dX3_setPart_9 (lv_at hl 4 rfl) ?_
    refine lv_iload hx hb dX3_setPart_11 (lv_at hl 5 rfl) ?_
    refine ri_rd (ri_runS (As := [.int (iI c), .int (iI r), .int (iI w), .int (iI h)]) (rest := []) CF (k_X3_isRectangle l c r w h (by omega) (by omega) (by omega) (by omega)) gX3_setPart_X3_isRectangle f_X3_isRectangle ⟨rfl, rfl, Nat.le_of_ble_eq_true rfl, Nat.le_of_ble_eq_true rfl, Nat.le_of_ble_eq_true rfl, Nat.le_of_ble_eq_true rfl⟩ tB_bl tB_in rfl hl.1 rfl (Nat.le_of_ble_eq_true rfl) dX3_setPart_13) ?_
    refine ri_ifeq_b (tgt := 23) hx hb dX3_setPart_16 (by decide) (fun h16 => ?_) (fun h16 => ?_)
    · skip
      refine ri_iconst hx hb dX3_setPart_23 ?_
      exact ri_eq ((bp_f (fun q => h16 (q.2))).symm) J24
    · skip
      refine ri_iconst hx hb dX3_setPart_19 ?_
      refine lv_goto (tgt := 24) hx hb dX3_setPart_20 (by decide) ?_
      exact ri_eq ((bp_t ⟨h4, h16⟩).symm) J24

theorem f_X3_setMask : MF yX3_setMask wsX3_setMask cX3_setMask 6 (none) 5 := ⟨⟨_, rfl⟩, by decide +kernel, by decide +kernel, by decide +kernel⟩
set_option maxHeartbeats 4000000 in
set_option maxRecDepth 100000 in
theorem k_X3_setMask (l : Launch) (D : va_G) (a : Nat → Nat) (kk : Nat → ClassId) (g : Nat → Nat → Int) (sa : Nat → Nat) (hst : l.stackTraces = false) (t : Int) (c : Int) (r : Int) (w : Int) (h : Int) (hA : aDs 17 a) (hI : XInv g) (yt : -2147483648 ≤ t ∧ t < 2147483648) (yc : -2147483648 ≤ c ∧ c < 2147483648) (yr : -2147483648 ≤ r ∧ r < 2147483648) (yw : -2147483648 ≤ w ∧ w < 2147483648) (yh : -2147483648 ≤ h ∧ h < 2147483648) : XV l yX3_setMask wsX3_setMask ({ frames := 7, cells := 2, slots := 12, locals := 104 }) [.ref (a 0), .int (iI t), .int (iI c), .int (iI r), .int (iI w), .int (iI h)] (pB sa D a kk g) (((0 ≤ t ∧ t ≤ 4) ∧ (-8 ≤ c ∧ c ≤ 8) ∧ (-8 ≤ r ∧ r ≤ 8) ∧ (1 ≤ w ∧ w ≤ 8) ∧ (1 ≤ h ∧ h ≤ 8)) ∧ g 5 t.toNat < g 7 t.toNat) (fun X => (X = "java/lang/IllegalArgumentException" ∧ ¬ ((0 ≤ t ∧ t ≤ 4) ∧ (-8 ≤ c ∧ c ≤ 8) ∧ (-8 ≤ r ∧ r ≤ 8) ∧ (1 ≤ w ∧ w ≤ 8) ∧ (1 ≤ h ∧ h ≤ 8))) ∨ (X = "java/lang/IllegalStateException" ∧ ((0 ≤ t ∧ t ≤ 4) ∧ (-8 ≤ c ∧ c ≤ 8) ∧ (-8 ≤ r ∧ r ≤ 8) ∧ (1 ≤ w ∧ w ≤ 8) ∧ (1 ≤ h ∧ h ≤ 8)) ∧ ¬ g 5 t.toNat < g 7 t.toNat)) (fun H => va_P D vwCl (xW a kk (putX 9 g t c r w h)) H) (aA 17 a) 2 12 := by
  refine ri_entX (cc := cX3_setMask) (maxL := 6) (ret := none) (by decide) rfl (Nat.le_of_ble_eq_true rfl) ?_
  intro zp ze s zm zb zt zc hx hb hr hts hown hlocks hml hxt hB ls hl
  have hown : s.vm.findClass RX3 = some zm.cls := hown
  have CF : CallFix zp zm zc cX3_setMask 6 s ([.ref (a 0), .int (iI t), .int (iI c), .int (iI r), .int (iI w), .int (iI h)] : List Value).toArray wsX3_setMask RX3 := ⟨hx, hb, hml, hown, hts⟩
  obtain ⟨hT, hP, hK, hN⟩ := hB
  have hinX3 : ∀ w ∈ wsX30, w ∈ wsX3_setMask := (fun _ h => List.mem_cons_of_mem _ (List.mem_append_left _ (List.mem_append_left _ (List.mem_append_left _ (List.mem_append_right _ h)))))
  have hS : va_S (aA 17 a) s.heap s.heap [] := va_S.rf
  have hl : lv_has ls 6 [(0, .ref (a 0)), (1, .int (iI t)), (2, .int (iI c)), (3, .int (iI r)), (4, .int (iI w)), (5, .int (iI h))] := hl
  have J56 : W zp l ze ({ frames := 7, cells := 2, slots := 12, locals := 104 }) s zm ([.ref (a 0), .int (iI t), .int (iI c), .int (iI r), .int (iI w), .int (iI h)] : List Value).toArray zb zt zc s.heap [] 0 0 (vx_MQ zb (va_Qv (fun _ : Unit => ((0 ≤ t ∧ t ≤ 4) ∧ (-8 ≤ c ∧ c ≤ 8) ∧ (-8 ≤ r ∧ r ≤ 8) ∧ (1 ≤ w ∧ w ≤ 8) ∧ (1 ≤ h ∧ h ≤ 8)) ∧ g 5 t.toNat < g 7 t.toNat) (fun _ t9 => (fun H => va_P D vwCl (xW a kk (putX 9 g t c r w h)) H) t9.heap) (aA 17 a)) (vx_X (fun _ : Unit => True) (fun X _ _ => (fun X => (X = "java/lang/IllegalArgumentException" ∧ ¬ ((0 ≤ t ∧ t ≤ 4) ∧ (-8 ≤ c ∧ c ≤ 8) ∧ (-8 ≤ r ∧ r ≤ 8) ∧ (1 ≤ w ∧ w ≤ 8) ∧ (1 ≤ h ∧ h ≤ 8))) ∨ (X = "java/lang/IllegalStateException" ∧ ((0 ≤ t ∧ t ≤ 4) ∧ (-8 ≤ c ∧ c ≤ 8) ∧ (-8 ≤ r ∧ r ≤ 8) ∧ (1 ≤ w ∧ w ≤ 8) ∧ (1 ≤ h ∧ h ≤ 8)) ∧ ¬ g 5 t.toNat < g 7 t.toNat)) X) (fun _ => False)) ([.ref (a 0), .int (iI t), .int (iI c), .int (iI r), .int (iI w), .int (iI h)] : List Value).toArray s 2 12 (aA 17 a)) (F0 zm 56 ls [.int (iI (bp ((0 ≤ t ∧ t ≤ 4) ∧ (-8 ≤ c ∧ c ≤ 8) ∧ (-8 ≤ r ∧ r ≤ 8) ∧ (1 ≤ w ∧ w ≤ 8) ∧ (1 ≤ h ∧ h ≤ 8))))]) := by
    refine ri_chk (A := (aA 17 a)) (ri_runSX (As := [.int (iI (bp ((0 ≤ t ∧ t ≤ 4) ∧ (-8 ≤ c ∧ c ≤ 8) ∧ (-8 ≤ r ∧ r ≤ 8) ∧ (1 ≤ w ∧ w ≤ 8) ∧ (1 ≤ h ∧ h ≤ 8))))]) (rest := []) CF (k_X3_checkArguments l sa s.heap hst ((0 ≤ t ∧ t ≤ 4) ∧ (-8 ≤ c ∧ c ≤ 8) ∧ (-8 ≤ r ∧ r ≤ 8) ∧ (1 ≤ w ∧ w ≤ 8) ∧ (1 ≤ h ∧ h ≤ 8))) gX3_setMask_X3_checkArguments f_X3_checkArguments ⟨rfl, rfl, Nat.le_of_ble_eq_true rfl, Nat.le_of_ble_eq_true rfl, Nat.le_of_ble_eq_true rfl, Nat.le_of_ble_eq_true rfl⟩ cB_bl (cB_in hT) rfl hl.1 rfl (Nat.le_of_ble_eq_true rfl) dX3_setMask_56) hS (fun X hX => Or.inl hX) hxt hlocks (fun _ h => h) (Nat.le_of_ble_eq_true rfl) (Nat.le_of_ble_eq_true rfl) (fun locs hok hS => ?_)
    refine lv_aload_n hx hb dX3_setMask_59 rfl (lv_at hl 0 rfl) ?_
    refine va_get (D := D) (ci := 3) (v := .ref (a 4)) (C := RX3) (T := TX3) (N := 4) hx hb hts hinX3 hown hK hP 0 rfl rfl 1 (by decide) (hts _ (List.mem_of_getElem? (i := 3) rfl)) (fun _ h9 => h9) rfl dX3_setMask_60 ?_
    refine lv_iload_n hx hb dX3_setMask_63 rfl (lv_at hl 1 rfl) ?_
    refine ri_rd (ri_runV (b := a 4) (As := [.int (iI t)]) (rest := []) CF (k_X2_has l D (fun i => a (4 + i)) kk (fun i => g (4 + i)) t (xr_parts hI) (by omega)) gX3_setMask_X2_has f_X2_has rfl (va_recv hK hP (ci := 2) (q0 := 4) rfl rfl) ⟨rfl, rfl, Nat.le_of_ble_eq_true rfl, Nat.le_of_ble_eq_true rfl, Nat.le_of_ble_eq_true rfl, Nat.le_of_ble_eq_true rfl⟩ wB_bl (wB_in (x_parts hP) hK hN) rfl hl.1 rfl (Nat.le_of_ble_eq_true rfl) dX3_setMask_64) ?_
    refine ri_eq (y := bp (g 5 t.toNat < g 7 t.toNat)) rfl ?_
    refine ri_ifne_b (tgt := 80) hx hb dX3_setMask_67 (by decide) (fun h67 => ?_) (fun h67 => ?_)
    · skip
      refine lv_aload_n hx hb dX3_setMask_80 rfl (lv_at hl 0 rfl) ?_
      refine va_get (D := D) (ci := 3) (v := .ref (a 9)) (C := RX3) (T := TX3) (N := 4) hx hb hts hinX3 hown hK hP 0 rfl rfl 2 (by decide) (hts _ (List.mem_of_getElem? (i := 4) rfl)) (fun _ h9 => h9) rfl dX3_setMask_81 ?_
      refine lv_iload_n hx hb dX3_setMask_84 rfl (lv_at hl 1 rfl) ?_
      refine lv_iload_n hx hb dX3_setMask_85 rfl (lv_at hl 2 rfl) ?_
      refine lv_iload_n hx hb dX3_setMask_86 rfl (lv_at hl 3 rfl) ?_
      refine lv_iload hx hb dX3_setMask_87 (lv_at hl 4 rfl) ?_
      refine lv_iload hx hb dX3_setMask_89 (lv_at hl 5 rfl) ?_
      refine ri_wv (PP := fun H => va_P D vwCl (rW (fun i => a (9 + i)) kk (putR (fun i => g (9 + i)) t c r w h)) H) (ri_runV (b := a 9) (As := [.int (iI t), .int (iI c), .int (iI r), .int (iI w), .int (iI h)]) (rest := []) CF (k_X2_put l D (fun i => a (9 + i)) kk (fun i => g (9 + i)) t c r w h (aDs_sub hA 9 (by decide)) (by omega)) gX3_setMask_X2_put f_X2_put rfl (va_recv hK hP (ci := 2) (q0 := 9) rfl rfl) ⟨rfl, rfl, Nat.le_of_ble_eq_true rfl, Nat.le_of_ble_eq_true rfl, Nat.le_of_ble_eq_true rfl, Nat.le_of_ble_eq_true rfl⟩ wB_bl (wB_in (x_masks hP) hK hN) rfl hl.1 rfl (Nat.le_of_ble_eq_true rfl) dX3_setMask_91) hS (aA_sub 9 (by decide)) (fun H_1 locs hP1 hk1 hS => ?_)
      replace hP : va_P D vwCl (xW a kk (putX 9 g t c r w h)) H_1 := x_pj9 hA hP hP1 hk1
      refine W.widen (k := 2) (n := 12) (Nat.le_of_ble_eq_true rfl) (Nat.le_of_ble_eq_true rfl) ?_
      exact ri_vretX (A := (aA 17 a)) (PP := (fun H => va_P D vwCl (xW a kk (putX 9 g t c r w h)) H)) hx hb hr hlocks hS (hP) (⟨hok, h67⟩) dX3_setMask_94
    · skip
      exact vx_throwS (A := (aA 17 a)) (cls := "java/lang/IllegalStateException") (names := ["java/lang/RuntimeException", "java/lang/Exception"]) hx hb hst hown (by decide +kernel) (by decide +kernel) (hts _ (List.mem_of_getElem? (i := 1) rfl)) (hts _ (List.mem_of_getElem? (i := 2) rfl)) hT.2.2.2.1 (tX_hatS (fun w hw => hts w ((fun _ h => List.mem_cons_of_mem _ (List.mem_append_left _ (List.mem_append_right _ h))) w hw)) hT) (tX_goodS 77) hT.1 hT.2.1 hS (hl.1.trans hml.symm) dX3_setMask_70 dX3_setMask_73 dX3_setMask_74 dX3_setMask_76 dX3_setMask_79 (fun x hx9 => (hxt x hx9).elim) (Nat.le_of_ble_eq_true rfl) (Nat.le_of_ble_eq_true rfl) (Nat.le_of_ble_eq_true rfl) (Nat.le_of_ble_eq_true rfl) hlocks (fun t9 _ hz9 hk9 => ⟨(), trivial, Or.inr ⟨rfl, hok, h67⟩, hz9, fun q h1 _ => hk9 q h1⟩) (fun z hz => hS.2.2 z hz) (Nat.le_of_ble_eq_true rfl) (Nat.le_of_ble_eq_true rfl)
  refine lv_iload_n hx hb dX3_setMask_0 rfl (lv_at hl 1 rfl) ?_
  refine ri_rd (ri_runS (As := [.int (iI t)]) (rest := []) CF (k_X3_isTest l t (by omega)) gX3_setMask_X3_isTest f_X3_isTest ⟨rfl, rfl, Nat.le_of_ble_eq_true rfl, Nat.le_of_ble_eq_true rfl, Nat.le_of_ble_eq_true rfl, Nat.le_of_ble_eq_true rfl⟩ tB_bl tB_in rfl hl.1 rfl (Nat.le_of_ble_eq_true rfl) dX3_setMask_1) ?_
  refine ri_ifeq_b (tgt := 55) hx hb dX3_setMask_4 (by decide) (fun h4 => ?_) (fun h4 => ?_)
  · skip
    refine ri_iconst hx hb dX3_setMask_55 ?_
    exact ri_eq ((bp_f (fun q => h4 (q.1))).symm) J56
  · skip
    refine lv_iload_n hx hb dX3_setMask_7 rfl (lv_at hl 2 rfl) ?_
    refine ri_bipush hx hb dX3_setMask_8 (by decide) ?_
    refine ri_bipush hx hb dX3_setMask_10 (by decide) ?_
    refine ri_rd (ri_runS (As := [.int (iI c), .int (iI (-8)), .int (iI 8)]) (rest := []) CF (k_X3_isWithin l c (-8) 8 (by omega) (by omega) (by omega)) gX3_setMask_X3_isWithin f_X3_isWithin ⟨rfl, rfl, Nat.le_of_ble_eq_true rfl, Nat.le_of_ble_eq_true rfl, Nat.le_of_ble_eq_true rfl, Nat.le_of_ble_eq_true rfl⟩ tB_bl tB_in rfl hl.1 rfl (Nat.le_of_ble_eq_true rfl) dX3_setMask_12) ?_
    refine ri_ifeq_b (tgt := 55) hx hb dX3_setMask_15 (by decide) (fun h15 => ?_) (fun h15 => ?_)
    · skip
      refine ri_iconst hx hb dX3_setMask_55 ?_
      exact ri_eq ((bp_f (fun q => h15 (q.2.1))).symm) J56
    · skip
      refine lv_iload_n hx hb dX3_setMask_18 rfl (lv_at hl 3 rfl) ?_
      refine ri_bipush hx hb dX3_setMask_19 (by decide) ?_
      refine ri_bipush hx hb dX3_setMask_21 (by decide) ?_
      refine ri_rd (ri_runS (As := [.int (iI r), .int (iI (-8)), .int (iI 8)]) (rest := []) CF (k_X3_isWithin l r (-8) 8 (by omega) (by omega) (by omega)) gX3_setMask_X3_isWithin f_X3_isWithin ⟨rfl, rfl, Nat.le_of_ble_eq_true rfl, Nat.le_of_ble_eq_true rfl, Nat.le_of_ble_eq_true rfl, Nat.le_of_ble_eq_true rfl⟩ tB_bl tB_in rfl hl.1 rfl (Nat.le_of_ble_eq_true rfl) dX3_setMask_23) ?_
      refine ri_ifeq_b (tgt := 55) hx hb dX3_setMask_26 (by decide) (fun h26 => ?_) (fun h26 => ?_)
      · skip
        refine ri_iconst hx hb dX3_setMask_55 ?_
        exact ri_eq ((bp_f (fun q => h26 (q.2.2.1))).symm) J56
      · skip
        refine lv_iload hx hb dX3_setMask_29 (lv_at hl 4 rfl) ?_
        refine ri_iconst hx hb dX3_setMask_31 ?_
        refine ri_bipush hx hb dX3_setMask_32 (by decide) ?_
        refine ri_rd (ri_runS (As := [.int (iI w), .int (iI 1), .int (iI 8)]) (rest := []) CF (k_X3_isWithin l w 1 8 (by omega) (by omega) (by omega)) gX3_setMask_X3_isWithin f_X3_isWithin ⟨rfl, rfl, Nat.le_of_ble_eq_true rfl, Nat.le_of_ble_eq_true rfl, Nat.le_of_ble_eq_true rfl, Nat.le_of_ble_eq_true rfl⟩ tB_bl tB_in rfl hl.1 rfl (Nat.le_of_ble_eq_true rfl) dX3_setMask_34) ?_
        refine ri_ifeq_b (tgt := 55) hx hb dX3_setMask_37 (by decide) (fun h37 => ?_) (fun h37 => ?_)
        · skip
          refine ri_iconst hx hb dX3_setMask_55 ?_
          exact ri_eq ((bp_f (fun q => h37 (q.2.2.2.1))).symm) J56
        · skip
          refine lv_iload hx hb dX3_setMask_40 (lv_at hl 5 rfl) ?_
          refine ri_iconst hx hb dX3_setMask_42 ?_
          refine ri_bipush hx hb dX3_setMask_43 (by decide) ?_
          refine ri_rd (ri_runS (As := [.int (iI h), .int (iI 1), .int (iI 8)]) (rest := []) CF (k_X3_isWithin l h 1 8 (by omega) (by omega) (by omega)) gX3_setMask_X3_isWithin f_X3_isWithin ⟨rfl, rfl, Nat.le_of_ble_eq_true rfl, Nat.le_of_ble_eq_true rfl, Nat.le_of_ble_eq_true rfl, Nat.le_of_ble_eq_true rfl⟩ tB_bl tB_in rfl hl.1 rfl (Nat.le_of_ble_eq_true rfl) dX3_setMask_45) ?_
          refine ri_ifeq_b (tgt := 55) hx hb dX3_setMask_48 (by decide) (fun h48 => ?_) (fun h48 => ?_)
          · skip
            refine ri_iconst hx hb dX3_setMask_55 ?_
            exact ri_eq ((bp_f (fun q => h48 (q.2.2.2.2))).symm) J56
          · skip
            refine ri_iconst hx hb dX3_setMask_51 ?_
            refine lv_goto (tgt := 56) hx hb dX3_setMask_52 (by decide) ?_
            exact ri_eq ((bp_t ⟨h4, h15, h26, h37, h48⟩).symm) J56

theorem f_X3_move : MF yX3_move wsX3_move cX3_move 4 (some .int) 3 := ⟨⟨_, rfl⟩, by decide +kernel, by decide +kernel, by decide +kernel⟩
set_option maxHeartbeats 4000000 in
set_option maxRecDepth 100000 in
theorem k_X3_move (l : Launch) (D : va_G) (a : Nat → Nat) (kk : Nat → ClassId) (g : Nat → Nat → Int) (sa : Nat → Nat) (hst : l.stackTraces = false) (b : Int) (t : Int) (n : Int) (hA : aDs 17 a) (hI : XInv g) (yb : -2147483648 ≤ b ∧ b < 2147483648) (yt : -2147483648 ≤ t ∧ t < 2147483648) (yn : -2147483648 ≤ n ∧ n < 2147483648) : XI l yX3_move wsX3_move ({ frames := 8, cells := 2, slots := 12, locals := 127 }) [.ref (a 0), .int (iI b), .int (iI t), .int (iI n)] (pB sa D a kk g) (cmpA b t n ∧ g 3 (5 + b * 5 + t).toNat = 1) (cmpE g b t n) (mvN (fitP (px (g 2) t) (px (g 2) (5 + b * 5 + t)) n (g 5 t.toNat) (g 6 t.toNat) (g 7 t.toNat) (g 8 t.toNat))) (fun H => va_P D vwCl (xW a kk (g)) H) (aA 17 a) 2 12 := by
  refine ri_entX (cc := cX3_move) (maxL := 4) (ret := some .int) (by decide) rfl (Nat.le_of_ble_eq_true rfl) ?_
  intro zp ze s zm zb zt zc hx hb hr hts hown hlocks hml hxt hB ls hl
  have hown : s.vm.findClass RX3 = some zm.cls := hown
  have CF : CallFix zp zm zc cX3_move 4 s ([.ref (a 0), .int (iI b), .int (iI t), .int (iI n)] : List Value).toArray wsX3_move RX3 := ⟨hx, hb, hml, hown, hts⟩
  obtain ⟨hT, hP, hK, hN⟩ := hB
  have hS : va_S (aA 17 a) s.heap s.heap [] := va_S.rf
  have hl : lv_has ls 4 [(0, .ref (a 0)), (1, .int (iI b)), (2, .int (iI t)), (3, .int (iI n))] := hl
  refine lv_aload_n hx hb dX3_move_0 rfl (lv_at hl 0 rfl) ?_
  refine lv_iload_n hx hb dX3_move_1 rfl (lv_at hl 1 rfl) ?_
  refine lv_iload_n hx hb dX3_move_2 rfl (lv_at hl 2 rfl) ?_
  refine lv_iload_n hx hb dX3_move_3 rfl (lv_at hl 3 rfl) ?_
  refine ri_chk (A := (aA 17 a)) (ri_runVX (b := a 0) (As := [.int (iI b), .int (iI t), .int (iI n)]) (rest := []) CF (k_X3_checkComparison l D a kk g sa s.heap hst b t n hI (by omega) (by omega) (by omega)) gX3_move_X3_checkComparison f_X3_checkComparison rfl (va_recv hK hP (ci := 3) (q0 := 0) rfl rfl) ⟨rfl, rfl, Nat.le_of_ble_eq_true rfl, Nat.le_of_ble_eq_true rfl, Nat.le_of_ble_eq_true rfl, Nat.le_of_ble_eq_true rfl⟩ dB_bl (dB_in hT hP hK hN) rfl hl.1 rfl (Nat.le_of_ble_eq_true rfl) dX3_move_4) hS (fun X hX => hX) hxt hlocks (fun _ h => h) (Nat.le_of_ble_eq_true rfl) (Nat.le_of_ble_eq_true rfl) (fun locs hok hS => ?_)
  obtain ⟨⟨hokb, hokt, hokn⟩, hokh⟩ := id hok
  refine lv_aload_n hx hb dX3_move_7 rfl (lv_at hl 0 rfl) ?_
  refine lv_iload_n hx hb dX3_move_8 rfl (lv_at hl 1 rfl) ?_
  refine lv_iload_n hx hb dX3_move_9 rfl (lv_at hl 2 rfl) ?_
  refine ri_rd (ri_runS (As := [.int (iI b), .int (iI t)]) (rest := [.ref (a 0)]) CF (k_X3_approvedSlot l b t) gX3_move_X3_approvedSlot f_X3_approvedSlot ⟨rfl, rfl, Nat.le_of_ble_eq_true rfl, Nat.le_of_ble_eq_true rfl, Nat.le_of_ble_eq_true rfl, Nat.le_of_ble_eq_true rfl⟩ tB_bl tB_in rfl hl.1 rfl (Nat.le_of_ble_eq_true rfl) dX3_move_10) ?_
  refine lv_iload_n hx hb dX3_move_13 rfl (lv_at hl 2 rfl) ?_
  refine lv_iload_n hx hb dX3_move_14 rfl (lv_at hl 3 rfl) ?_
  refine ri_rd (ri_runV (b := a 0) (As := [.int (iI (5 + b * 5 + t)), .int (iI t), .int (iI n)]) (rest := []) CF (k_X3_findMove l D a kk g (5 + b * 5 + t) t n hI (by omega) (by omega) (by omega)) gX3_move_X3_findMove f_X3_findMove rfl (va_recv hK hP (ci := 3) (q0 := 0) rfl rfl) ⟨rfl, rfl, Nat.le_of_ble_eq_true rfl, Nat.le_of_ble_eq_true rfl, Nat.le_of_ble_eq_true rfl, Nat.le_of_ble_eq_true rfl⟩ wB_bl (wB_in hP hK hN) rfl hl.1 rfl (Nat.le_of_ble_eq_true rfl) dX3_move_15) ?_
  refine W.widen (k := 2) (n := 12) (Nat.le_of_ble_eq_true rfl) (Nat.le_of_ble_eq_true rfl) ?_
  exact ri_iretX (A := (aA 17 a)) (PP := (fun H => va_P D vwCl (xW a kk (g)) H)) hx hb hr hlocks hS (hP) (hok) dX3_move_18 (rfl)

theorem f_X3_firstDifference : MF yX3_firstDifference wsX3_firstDifference cX3_firstDifference 4 (some .int) 3 := ⟨⟨_, rfl⟩, by decide +kernel, by decide +kernel, by decide +kernel⟩
set_option maxHeartbeats 4000000 in
set_option maxRecDepth 100000 in
theorem k_X3_firstDifference (l : Launch) (D : va_G) (a : Nat → Nat) (kk : Nat → ClassId) (g : Nat → Nat → Int) (sa : Nat → Nat) (hst : l.stackTraces = false) (b : Int) (t : Int) (n : Int) (hA : aDs 17 a) (hI : XInv g) (yb : -2147483648 ≤ b ∧ b < 2147483648) (yt : -2147483648 ≤ t ∧ t < 2147483648) (yn : -2147483648 ≤ n ∧ n < 2147483648) : XI l yX3_firstDifference wsX3_firstDifference ({ frames := 8, cells := 2, slots := 12, locals := 152 }) [.ref (a 0), .int (iI b), .int (iI t), .int (iI n)] (pB sa D a kk g) (cmpA b t n ∧ g 3 (5 + b * 5 + t).toNat = 1) (cmpE g b t n) (fdE (cmpD (px (g 2) t) (px (g 2) (5 + b * 5 + t)) n (g 5 t.toNat) (g 6 t.toNat) (g 7 t.toNat) (g 8 t.toNat) (g 10 t.toNat) (g 11 t.toNat) (g 12 t.toNat) (g 13 t.toNat))) (fun H => va_P D vwCl (xW a kk (g)) H) (aA 17 a) 2 12 := by
  refine ri_entX (cc := cX3_firstDifference) (maxL := 4) (ret := some .int) (by decide) rfl (Nat.le_of_ble_eq_true rfl) ?_
  intro zp ze s zm zb zt zc hx hb hr hts hown hlocks hml hxt hB ls hl
  have hown : s.vm.findClass RX3 = some zm.cls := hown
  have CF : CallFix zp zm zc cX3_firstDifference 4 s ([.ref (a 0), .int (iI b), .int (iI t), .int (iI n)] : List Value).toArray wsX3_firstDifference RX3 := ⟨hx, hb, hml, hown, hts⟩
  obtain ⟨hT, hP, hK, hN⟩ := hB
  have hS : va_S (aA 17 a) s.heap s.heap [] := va_S.rf
  have hl : lv_has ls 4 [(0, .ref (a 0)), (1, .int (iI b)), (2, .int (iI t)), (3, .int (iI n))] := hl
  refine lv_aload_n hx hb dX3_firstDifference_0 rfl (lv_at hl 0 rfl) ?_
  refine lv_iload_n hx hb dX3_firstDifference_1 rfl (lv_at hl 1 rfl) ?_
  refine lv_iload_n hx hb dX3_firstDifference_2 rfl (lv_at hl 2 rfl) ?_
  refine lv_iload_n hx hb dX3_firstDifference_3 rfl (lv_at hl 3 rfl) ?_
  refine ri_chk (A := (aA 17 a)) (ri_runVX (b := a 0) (As := [.int (iI b), .int (iI t), .int (iI n)]) (rest := []) CF (k_X3_checkComparison l D a kk g sa s.heap hst b t n hI (by omega) (by omega) (by omega)) gX3_firstDifference_X3_checkComparison f_X3_checkComparison rfl (va_recv hK hP (ci := 3) (q0 := 0) rfl rfl) ⟨rfl, rfl, Nat.le_of_ble_eq_true rfl, Nat.le_of_ble_eq_true rfl, Nat.le_of_ble_eq_true rfl, Nat.le_of_ble_eq_true rfl⟩ dB_bl (dB_in hT hP hK hN) rfl hl.1 rfl (Nat.le_of_ble_eq_true rfl) dX3_firstDifference_4) hS (fun X hX => hX) hxt hlocks (fun _ h => h) (Nat.le_of_ble_eq_true rfl) (Nat.le_of_ble_eq_true rfl) (fun locs hok hS => ?_)
  obtain ⟨⟨hokb, hokt, hokn⟩, hokh⟩ := id hok
  refine lv_aload_n hx hb dX3_firstDifference_7 rfl (lv_at hl 0 rfl) ?_
  refine lv_iload_n hx hb dX3_firstDifference_8 rfl (lv_at hl 1 rfl) ?_
  refine lv_iload_n hx hb dX3_firstDifference_9 rfl (lv_at hl 2 rfl) ?_
  refine ri_rd (ri_runS (As := [.int (iI b), .int (iI t)]) (rest := [.ref (a 0)]) CF (k_X3_approvedSlot l b t) gX3_firstDifference_X3_approvedSlot f_X3_approvedSlot ⟨rfl, rfl, Nat.le_of_ble_eq_true rfl, Nat.le_of_ble_eq_true rfl, Nat.le_of_ble_eq_true rfl, Nat.le_of_ble_eq_true rfl⟩ tB_bl tB_in rfl hl.1 rfl (Nat.le_of_ble_eq_true rfl) dX3_firstDifference_10) ?_
  refine lv_iload_n hx hb dX3_firstDifference_13 rfl (lv_at hl 2 rfl) ?_
  refine lv_iload_n hx hb dX3_firstDifference_14 rfl (lv_at hl 3 rfl) ?_
  refine ri_rd (ri_runV (b := a 0) (As := [.int (iI (5 + b * 5 + t)), .int (iI t), .int (iI n)]) (rest := []) CF (k_X3_findDifference l D a kk g (5 + b * 5 + t) t n hI (by omega) (by omega) (by omega)) gX3_firstDifference_X3_findDifference f_X3_findDifference rfl (va_recv hK hP (ci := 3) (q0 := 0) rfl rfl) ⟨rfl, rfl, Nat.le_of_ble_eq_true rfl, Nat.le_of_ble_eq_true rfl, Nat.le_of_ble_eq_true rfl, Nat.le_of_ble_eq_true rfl⟩ wB_bl (wB_in hP hK hN) rfl hl.1 rfl (Nat.le_of_ble_eq_true rfl) dX3_firstDifference_15) ?_
  refine W.widen (k := 2) (n := 12) (Nat.le_of_ble_eq_true rfl) (Nat.le_of_ble_eq_true rfl) ?_
  exact ri_iretX (A := (aA 17 a)) (PP := (fun H => va_P D vwCl (xW a kk (g)) H)) hx hb hr hlocks hS (hP) (hok) dX3_firstDifference_18 (rfl)

theorem f_X3_differences : MF yX3_differences wsX3_differences cX3_differences 8 (some .int) 3 := ⟨⟨_, rfl⟩, by decide +kernel, by decide +kernel, by decide +kernel⟩
set_option maxHeartbeats 4000000 in
set_option maxRecDepth 100000 in
theorem k_X3_differences (l : Launch) (D : va_G) (a : Nat → Nat) (kk : Nat → ClassId) (g : Nat → Nat → Int) (sa : Nat → Nat) (hst : l.stackTraces = false) (b : Int) (t : Int) (n : Int) (hA : aDs 17 a) (hI : XInv g) (yb : -2147483648 ≤ b ∧ b < 2147483648) (yt : -2147483648 ≤ t ∧ t < 2147483648) (yn : -2147483648 ≤ n ∧ n < 2147483648) : XI l yX3_differences wsX3_differences ({ frames := 8, cells := 2, slots := 12, locals := 127 }) [.ref (a 0), .int (iI b), .int (iI t), .int (iI n)] (pB sa D a kk g) (cmpA b t n ∧ g 3 (5 + b * 5 + t).toNat = 1) (cmpE g b t n) (cntE (cmpD (px (g 2) t) (px (g 2) (5 + b * 5 + t)) n (g 5 t.toNat) (g 6 t.toNat) (g 7 t.toNat) (g 8 t.toNat) (g 10 t.toNat) (g 11 t.toNat) (g 12 t.toNat) (g 13 t.toNat)) 64) (fun H => va_P D vwCl (xW a kk (g)) H) (aA 17 a) 2 12 := by
  refine ri_entX (cc := cX3_differences) (maxL := 8) (ret := some .int) (by decide) rfl (Nat.le_of_ble_eq_true rfl) ?_
  intro zp ze s zm zb zt zc hx hb hr hts hown hlocks hml hxt hB ls hl
  have hown : s.vm.findClass RX3 = some zm.cls := hown
  have CF : CallFix zp zm zc cX3_differences 8 s ([.ref (a 0), .int (iI b), .int (iI t), .int (iI n)] : List Value).toArray wsX3_differences RX3 := ⟨hx, hb, hml, hown, hts⟩
  obtain ⟨hT, hP, hK, hN⟩ := hB
  have hS : va_S (aA 17 a) s.heap s.heap [] := va_S.rf
  have hl : lv_has ls 8 [(0, .ref (a 0)), (1, .int (iI b)), (2, .int (iI t)), (3, .int (iI n))] := hl
  refine lv_aload_n hx hb dX3_differences_0 rfl (lv_at hl 0 rfl) ?_
  refine lv_iload_n hx hb dX3_differences_1 rfl (lv_at hl 1 rfl) ?_
  refine lv_iload_n hx hb dX3_differences_2 rfl (lv_at hl 2 rfl) ?_
  refine lv_iload_n hx hb dX3_differences_3 rfl (lv_at hl 3 rfl) ?_
  refine ri_chk (A := (aA 17 a)) (ri_runVX (b := a 0) (As := [.int (iI b), .int (iI t), .int (iI n)]) (rest := []) CF (k_X3_checkComparison l D a kk g sa s.heap hst b t n hI (by omega) (by omega) (by omega)) gX3_differences_X3_checkComparison f_X3_checkComparison rfl (va_recv hK hP (ci := 3) (q0 := 0) rfl rfl) ⟨rfl, rfl, Nat.le_of_ble_eq_true rfl, Nat.le_of_ble_eq_true rfl, Nat.le_of_ble_eq_true rfl, Nat.le_of_ble_eq_true rfl⟩ dB_bl (dB_in hT hP hK hN) rfl hl.1 rfl (Nat.le_of_ble_eq_true rfl) dX3_differences_4) hS (fun X hX => hX) hxt hlocks (fun _ h => h) (Nat.le_of_ble_eq_true rfl) (Nat.le_of_ble_eq_true rfl) (fun locs hok hS => ?_)
  obtain ⟨⟨hokb, hokt, hokn⟩, hokh⟩ := id hok
  refine lv_iload_n hx hb dX3_differences_7 rfl (lv_at hl 1 rfl) ?_
  refine lv_iload_n hx hb dX3_differences_8 rfl (lv_at hl 2 rfl) ?_
  refine ri_rd (ri_runS (As := [.int (iI b), .int (iI t)]) (rest := []) CF (k_X3_approvedSlot l b t) gX3_differences_X3_approvedSlot f_X3_approvedSlot ⟨rfl, rfl, Nat.le_of_ble_eq_true rfl, Nat.le_of_ble_eq_true rfl, Nat.le_of_ble_eq_true rfl, Nat.le_of_ble_eq_true rfl⟩ tB_bl tB_in rfl hl.1 rfl (Nat.le_of_ble_eq_true rfl) dX3_differences_9) ?_
  refine lv_istore (lv' := [(4, .int (iI (5 + b * 5 + t))), (0, .ref (a 0)), (1, .int (iI b)), (2, .int (iI t)), (3, .int (iI n))]) hx hb dX3_differences_12 hl (by decide) rfl (fun ls hl => ?_)
  refine lv_aload_n hx hb dX3_differences_14 rfl (lv_at hl 1 rfl) ?_
  refine lv_iload hx hb dX3_differences_15 (lv_at hl 0 rfl) ?_
  refine lv_iload_n hx hb dX3_differences_17 rfl (lv_at hl 3 rfl) ?_
  refine lv_iload_n hx hb dX3_differences_18 rfl (lv_at hl 4 rfl) ?_
  refine ri_rd (ri_runV (b := a 0) (As := [.int (iI (5 + b * 5 + t)), .int (iI t), .int (iI n)]) (rest := []) CF (k_X3_findMove l D a kk g (5 + b * 5 + t) t n hI (by omega) (by omega) (by omega)) gX3_differences_X3_findMove f_X3_findMove rfl (va_recv hK hP (ci := 3) (q0 := 0) rfl rfl) ⟨rfl, rfl, Nat.le_of_ble_eq_true rfl, Nat.le_of_ble_eq_true rfl, Nat.le_of_ble_eq_true rfl, Nat.le_of_ble_eq_true rfl⟩ wB_bl (wB_in hP hK hN) rfl hl.1 rfl (Nat.le_of_ble_eq_true rfl) dX3_differences_19) ?_
  have f_1 := mvN_in (fitP (px (g 2) t) (px (g 2) (5 + b * 5 + t)) n (g 5 t.toNat) (g 6 t.toNat) (g 7 t.toNat) (g 8 t.toNat))
  refine lv_istore (lv' := [(5, .int (iI (mvN (fitP (px (g 2) t) (px (g 2) (5 + b * 5 + t)) n (g 5 t.toNat) (g 6 t.toNat) (g 7 t.toNat) (g 8 t.toNat))))), (4, .int (iI (5 + b * 5 + t))), (0, .ref (a 0)), (1, .int (iI b)), (2, .int (iI t)), (3, .int (iI n))]) hx hb dX3_differences_22 hl (by decide) rfl (fun ls hl => ?_)
  refine ri_iconst hx hb dX3_differences_24 ?_
  refine lv_istore (lv' := [(6, .int (iI 0)), (5, .int (iI (mvN (fitP (px (g 2) t) (px (g 2) (5 + b * 5 + t)) n (g 5 t.toNat) (g 6 t.toNat) (g 7 t.toNat) (g 8 t.toNat))))), (4, .int (iI (5 + b * 5 + t))), (0, .ref (a 0)), (1, .int (iI b)), (2, .int (iI t)), (3, .int (iI n))]) hx hb dX3_differences_25 hl (by decide) rfl (fun ls hl => ?_)
  refine ri_iconst hx hb dX3_differences_27 ?_
  refine lv_istore (lv' := [(7, .int (iI 0)), (6, .int (iI 0)), (5, .int (iI (mvN (fitP (px (g 2) t) (px (g 2) (5 + b * 5 + t)) n (g 5 t.toNat) (g 6 t.toNat) (g 7 t.toNat) (g 8 t.toNat))))), (4, .int (iI (5 + b * 5 + t))), (0, .ref (a 0)), (1, .int (iI b)), (2, .int (iI t)), (3, .int (iI n))]) hx hb dX3_differences_28 hl (by decide) rfl (fun ls hl => ?_)
  have L30 : ∀ (n30 : Nat) (i : Int) (ac : Int), (0 ≤ i ∧ i ≤ 64) → (ac = cntE (cmpD (px (g 2) t) (px (g 2) (5 + b * 5 + t)) n (g 5 t.toNat) (g 6 t.toNat) (g 7 t.toNat) (g 8 t.toNat) (g 10 t.toNat) (g 11 t.toNat) (g 12 t.toNat) (g 13 t.toNat)) i.toNat) → ((64 - i).toNat < n30) → ∀ (ls : Array Slot), lv_has ls 8 [(0, .ref (a 0)), (1, .int (iI b)), (2, .int (iI t)), (3, .int (iI n)), (4, .int (iI (5 + b * 5 + t))), (5, .int (iI (mvN (fitP (px (g 2) t) (px (g 2) (5 + b * 5 + t)) n (g 5 t.toNat) (g 6 t.toNat) (g 7 t.toNat) (g 8 t.toNat))))), (6, .int (iI ac)), (7, .int (iI i))] → W zp l ze ({ frames := 8, cells := 2, slots := 12, locals := 127 }) s zm ([.ref (a 0), .int (iI b), .int (iI t), .int (iI n)] : List Value).toArray zb zt zc s.heap locs (0 + 2) (0 + 12) (vx_MQ zb (va_Qi (fun (r9 : Int32) (_ : Unit) => (cmpA b t n ∧ g 3 (5 + b * 5 + t).toNat = 1) ∧ r9 = iI (cntE (cmpD (px (g 2) t) (px (g 2) (5 + b * 5 + t)) n (g 5 t.toNat) (g 6 t.toNat) (g 7 t.toNat) (g 8 t.toNat) (g 10 t.toNat) (g 11 t.toNat) (g 12 t.toNat) (g 13 t.toNat)) 64)) (fun _ t9 => (fun H => va_P D vwCl (xW a kk (g)) H) t9.heap) (aA 17 a)) (vx_X (fun _ : Unit => True) (fun X _ _ => (cmpE g b t n) X) (fun _ => False)) ([.ref (a 0), .int (iI b), .int (iI t), .int (iI n)] : List Value).toArray s 2 12 (aA 17 a)) (F0 zm 30 ls []) := by
    intro n30
    induction n30 with
    | zero => intro i ac hi hac hm; exact absurd hm (Nat.not_lt_zero _)
    | succ n30 ih30 =>
      intro i ac hi hac hm30 ls hl
      have hcr := cntE_r (cmpD (px (g 2) t) (px (g 2) (5 + b * 5 + t)) n (g 5 t.toNat) (g 6 t.toNat) (g 7 t.toNat) (g 8 t.toNat) (g 10 t.toNat) (g 11 t.toNat) (g 12 t.toNat) (g 13 t.toNat)) i.toNat
      refine lv_iload hx hb dX3_differences_30 (lv_at hl 7 rfl) ?_
      refine ri_bipush hx hb dX3_differences_32 (by decide) ?_
      refine ri_icmp_ge (tgt := 61) hx hb (by omega) dX3_differences_34 (by decide) (fun c_2 => ?_) (fun c_2 => ?_)
      · skip
        refine lv_iload hx hb dX3_differences_61 (lv_at hl 6 rfl) ?_
        refine W.widen (k := 2) (n := 12) (Nat.le_of_ble_eq_true rfl) (Nat.le_of_ble_eq_true rfl) ?_
        exact ri_iretX (A := (aA 17 a)) (PP := (fun H => va_P D vwCl (xW a kk (g)) H)) hx hb hr hlocks hS (hP) (hok) dX3_differences_63 (by rw [hac]; congr 1; omega)
      · skip
        refine lv_aload_n hx hb dX3_differences_37 rfl (lv_at hl 0 rfl) ?_
        refine lv_iload hx hb dX3_differences_38 (lv_at hl 4 rfl) ?_
        refine lv_iload_n hx hb dX3_differences_40 rfl (lv_at hl 2 rfl) ?_
        refine lv_iload_n hx hb dX3_differences_41 rfl (lv_at hl 3 rfl) ?_
        refine lv_iload hx hb dX3_differences_42 (lv_at hl 5 rfl) ?_
        refine lv_iload hx hb dX3_differences_44 (lv_at hl 7 rfl) ?_
        refine ri_rd (ri_runV (b := a 0) (As := [.int (iI (5 + b * 5 + t)), .int (iI t), .int (iI n), .int (iI (mvN (fitP (px (g 2) t) (px (g 2) (5 + b * 5 + t)) n (g 5 t.toNat) (g 6 t.toNat) (g 7 t.toNat) (g 8 t.toNat)))), .int (iI i)]) (rest := []) CF (k_X3_differs l D a kk g (5 + b * 5 + t) t n (mvN (fitP (px (g 2) t) (px (g 2) (5 + b * 5 + t)) n (g 5 t.toNat) (g 6 t.toNat) (g 7 t.toNat) (g 8 t.toNat))) i hI (by omega) (by omega) (by omega) (by omega) (by omega)) gX3_differences_X3_differs f_X3_differs rfl (va_recv hK hP (ci := 3) (q0 := 0) rfl rfl) ⟨rfl, rfl, Nat.le_of_ble_eq_true rfl, Nat.le_of_ble_eq_true rfl, Nat.le_of_ble_eq_true rfl, Nat.le_of_ble_eq_true rfl⟩ wB_bl (wB_in hP hK hN) rfl hl.1 rfl (Nat.le_of_ble_eq_true rfl) dX3_differences_46) ?_
        refine ri_eq (y := bp ((cmpD (px (g 2) t) (px (g 2) (5 + b * 5 + t)) n (g 5 t.toNat) (g 6 t.toNat) (g 7 t.toNat) (g 8 t.toNat) (g 10 t.toNat) (g 11 t.toNat) (g 12 t.toNat) (g 13 t.toNat)) i)) (by have e1 := mvN_c (fitP (px (g 2) t) (px (g 2) (5 + b * 5 + t)) n (g 5 t.toNat) (g 6 t.toNat) (g 7 t.toNat) (g 8 t.toNat)); show bp (difP _ _ _ _ _ _ _ _ _ _ _ _ _ _ _) = bp (difP _ _ _ _ _ _ _ _ _ _ _ _ _ _ _); rw [e1.1, e1.2]) ?_
        refine ri_ifeq_b (tgt := 55) hx hb dX3_differences_49 (by decide) (fun h49 => ?_) (fun h49 => ?_)
        · skip
          refine ri_iinc (lv' := [(7, .int (iI (i + 1))), (0, .ref (a 0)), (1, .int (iI b)), (2, .int (iI t)), (3, .int (iI n)), (4, .int (iI (5 + b * 5 + t))), (5, .int (iI (mvN (fitP (px (g 2) t) (px (g 2) (5 + b * 5 + t)) n (g 5 t.toNat) (g 6 t.toNat) (g 7 t.toNat) (g 8 t.toNat))))), (6, .int (iI ac))]) hx hb dX3_differences_55 hl (k := 7) rfl (by decide) rfl (fun ls hl => ?_)
          refine lv_goto (tgt := 30) hx hb dX3_differences_58 (by decide) ?_
          exact ih30 (i + 1) (ac) (by omega) (by first | exact (congrArg (· + 1) hac).trans (cntE_t (by omega) h49) | exact hac.trans (cntE_f (by omega) h49)) (by omega) ls (lv_sub hl [1, 2, 3, 4, 5, 6, 7, 0] rfl)
        · skip
          refine ri_iinc (lv' := [(6, .int (iI (ac + 1))), (0, .ref (a 0)), (1, .int (iI b)), (2, .int (iI t)), (3, .int (iI n)), (4, .int (iI (5 + b * 5 + t))), (5, .int (iI (mvN (fitP (px (g 2) t) (px (g 2) (5 + b * 5 + t)) n (g 5 t.toNat) (g 6 t.toNat) (g 7 t.toNat) (g 8 t.toNat))))), (7, .int (iI i))]) hx hb dX3_differences_52 hl (k := 6) rfl (by decide) rfl (fun ls hl => ?_)
          refine ri_iinc (lv' := [(7, .int (iI (i + 1))), (6, .int (iI (ac + 1))), (0, .ref (a 0)), (1, .int (iI b)), (2, .int (iI t)), (3, .int (iI n)), (4, .int (iI (5 + b * 5 + t))), (5, .int (iI (mvN (fitP (px (g 2) t) (px (g 2) (5 + b * 5 + t)) n (g 5 t.toNat) (g 6 t.toNat) (g 7 t.toNat) (g 8 t.toNat)))))]) hx hb dX3_differences_55 hl (k := 7) rfl (by decide) rfl (fun ls hl => ?_)
          refine lv_goto (tgt := 30) hx hb dX3_differences_58 (by decide) ?_
          exact ih30 (i + 1) (ac + 1) (by omega) (by first | exact (congrArg (· + 1) hac).trans (cntE_t (by omega) h49) | exact hac.trans (cntE_f (by omega) h49)) (by omega) ls (lv_sub hl [2, 3, 4, 5, 6, 7, 1, 0] rfl)
  exact L30 65 (0) (0) (by omega) (rfl) (by decide) ls (lv_sub hl [4, 5, 6, 7, 3, 2, 1, 0] rfl)

theorem f_X3_soft : MF yX3_soft wsX3_soft cX3_soft 7 (some .int) 3 := ⟨⟨_, rfl⟩, by decide +kernel, by decide +kernel, by decide +kernel⟩
set_option maxHeartbeats 4000000 in
set_option maxRecDepth 100000 in
theorem k_X3_soft (l : Launch) (D : va_G) (a : Nat → Nat) (kk : Nat → ClassId) (g : Nat → Nat → Int) (sa : Nat → Nat) (hst : l.stackTraces = false) (b : Int) (t : Int) (n : Int) (hA : aDs 17 a) (hI : XInv g) (yb : -2147483648 ≤ b ∧ b < 2147483648) (yt : -2147483648 ≤ t ∧ t < 2147483648) (yn : -2147483648 ≤ n ∧ n < 2147483648) : XI l yX3_soft wsX3_soft ({ frames := 8, cells := 2, slots := 12, locals := 127 }) [.ref (a 0), .int (iI b), .int (iI t), .int (iI n)] (pB sa D a kk g) (cmpA b t n ∧ g 3 (5 + b * 5 + t).toNat = 1) (cmpE g b t n) (cntE (sofD (px (g 2) t) (px (g 2) (5 + b * 5 + t)) n) 64) (fun H => va_P D vwCl (xW a kk (g)) H) (aA 17 a) 2 12 := by
  refine ri_entX (cc := cX3_soft) (maxL := 7) (ret := some .int) (by decide) rfl (Nat.le_of_ble_eq_true rfl) ?_
  intro zp ze s zm zb zt zc hx hb hr hts hown hlocks hml hxt hB ls hl
  have hown : s.vm.findClass RX3 = some zm.cls := hown
  have CF : CallFix zp zm zc cX3_soft 7 s ([.ref (a 0), .int (iI b), .int (iI t), .int (iI n)] : List Value).toArray wsX3_soft RX3 := ⟨hx, hb, hml, hown, hts⟩
  obtain ⟨hT, hP, hK, hN⟩ := hB
  have hS : va_S (aA 17 a) s.heap s.heap [] := va_S.rf
  have hl : lv_has ls 7 [(0, .ref (a 0)), (1, .int (iI b)), (2, .int (iI t)), (3, .int (iI n))] := hl
  refine lv_aload_n hx hb dX3_soft_0 rfl (lv_at hl 0 rfl) ?_
  refine lv_iload_n hx hb dX3_soft_1 rfl (lv_at hl 1 rfl) ?_
  refine lv_iload_n hx hb dX3_soft_2 rfl (lv_at hl 2 rfl) ?_
  refine lv_iload_n hx hb dX3_soft_3 rfl (lv_at hl 3 rfl) ?_
  refine ri_chk (A := (aA 17 a)) (ri_runVX (b := a 0) (As := [.int (iI b), .int (iI t), .int (iI n)]) (rest := []) CF (k_X3_checkComparison l D a kk g sa s.heap hst b t n hI (by omega) (by omega) (by omega)) gX3_soft_X3_checkComparison f_X3_checkComparison rfl (va_recv hK hP (ci := 3) (q0 := 0) rfl rfl) ⟨rfl, rfl, Nat.le_of_ble_eq_true rfl, Nat.le_of_ble_eq_true rfl, Nat.le_of_ble_eq_true rfl, Nat.le_of_ble_eq_true rfl⟩ dB_bl (dB_in hT hP hK hN) rfl hl.1 rfl (Nat.le_of_ble_eq_true rfl) dX3_soft_4) hS (fun X hX => hX) hxt hlocks (fun _ h => h) (Nat.le_of_ble_eq_true rfl) (Nat.le_of_ble_eq_true rfl) (fun locs hok hS => ?_)
  obtain ⟨⟨hokb, hokt, hokn⟩, hokh⟩ := id hok
  refine lv_iload_n hx hb dX3_soft_7 rfl (lv_at hl 1 rfl) ?_
  refine lv_iload_n hx hb dX3_soft_8 rfl (lv_at hl 2 rfl) ?_
  refine ri_rd (ri_runS (As := [.int (iI b), .int (iI t)]) (rest := []) CF (k_X3_approvedSlot l b t) gX3_soft_X3_approvedSlot f_X3_approvedSlot ⟨rfl, rfl, Nat.le_of_ble_eq_true rfl, Nat.le_of_ble_eq_true rfl, Nat.le_of_ble_eq_true rfl, Nat.le_of_ble_eq_true rfl⟩ tB_bl tB_in rfl hl.1 rfl (Nat.le_of_ble_eq_true rfl) dX3_soft_9) ?_
  refine lv_istore (lv' := [(4, .int (iI (5 + b * 5 + t))), (0, .ref (a 0)), (1, .int (iI b)), (2, .int (iI t)), (3, .int (iI n))]) hx hb dX3_soft_12 hl (by decide) rfl (fun ls hl => ?_)
  refine ri_iconst hx hb dX3_soft_14 ?_
  refine lv_istore (lv' := [(5, .int (iI 0)), (4, .int (iI (5 + b * 5 + t))), (0, .ref (a 0)), (1, .int (iI b)), (2, .int (iI t)), (3, .int (iI n))]) hx hb dX3_soft_15 hl (by decide) rfl (fun ls hl => ?_)
  refine ri_iconst hx hb dX3_soft_17 ?_
  refine lv_istore (lv' := [(6, .int (iI 0)), (5, .int (iI 0)), (4, .int (iI (5 + b * 5 + t))), (0, .ref (a 0)), (1, .int (iI b)), (2, .int (iI t)), (3, .int (iI n))]) hx hb dX3_soft_18 hl (by decide) rfl (fun ls hl => ?_)
  have L20 : ∀ (n20 : Nat) (i : Int) (ac : Int), (0 ≤ i ∧ i ≤ 64) → (ac = cntE (sofD (px (g 2) t) (px (g 2) (5 + b * 5 + t)) n) i.toNat) → ((64 - i).toNat < n20) → ∀ (ls : Array Slot), lv_has ls 7 [(0, .ref (a 0)), (1, .int (iI b)), (2, .int (iI t)), (3, .int (iI n)), (4, .int (iI (5 + b * 5 + t))), (5, .int (iI ac)), (6, .int (iI i))] → W zp l ze ({ frames := 8, cells := 2, slots := 12, locals := 127 }) s zm ([.ref (a 0), .int (iI b), .int (iI t), .int (iI n)] : List Value).toArray zb zt zc s.heap locs (0 + 2) (0 + 12) (vx_MQ zb (va_Qi (fun (r9 : Int32) (_ : Unit) => (cmpA b t n ∧ g 3 (5 + b * 5 + t).toNat = 1) ∧ r9 = iI (cntE (sofD (px (g 2) t) (px (g 2) (5 + b * 5 + t)) n) 64)) (fun _ t9 => (fun H => va_P D vwCl (xW a kk (g)) H) t9.heap) (aA 17 a)) (vx_X (fun _ : Unit => True) (fun X _ _ => (cmpE g b t n) X) (fun _ => False)) ([.ref (a 0), .int (iI b), .int (iI t), .int (iI n)] : List Value).toArray s 2 12 (aA 17 a)) (F0 zm 20 ls []) := by
    intro n20
    induction n20 with
    | zero => intro i ac hi hac hm; exact absurd hm (Nat.not_lt_zero _)
    | succ n20 ih20 =>
      intro i ac hi hac hm20 ls hl
      have hcr := cntE_r (sofD (px (g 2) t) (px (g 2) (5 + b * 5 + t)) n) i.toNat
      refine lv_iload hx hb dX3_soft_20 (lv_at hl 6 rfl) ?_
      refine ri_bipush hx hb dX3_soft_22 (by decide) ?_
      refine ri_icmp_ge (tgt := 57) hx hb (by omega) dX3_soft_24 (by decide) (fun c_1 => ?_) (fun c_1 => ?_)
      · skip
        refine lv_iload hx hb dX3_soft_57 (lv_at hl 5 rfl) ?_
        refine W.widen (k := 2) (n := 12) (Nat.le_of_ble_eq_true rfl) (Nat.le_of_ble_eq_true rfl) ?_
        exact ri_iretX (A := (aA 17 a)) (PP := (fun H => va_P D vwCl (xW a kk (g)) H)) hx hb hr hlocks hS (hP) (hok) dX3_soft_59 (by rw [hac]; congr 1; omega)
      · skip
        refine lv_aload_n hx hb dX3_soft_27 rfl (lv_at hl 0 rfl) ?_
        refine lv_iload hx hb dX3_soft_28 (lv_at hl 4 rfl) ?_
        refine lv_iload_n hx hb dX3_soft_30 rfl (lv_at hl 2 rfl) ?_
        refine lv_iload_n hx hb dX3_soft_31 rfl (lv_at hl 3 rfl) ?_
        refine lv_iload hx hb dX3_soft_32 (lv_at hl 6 rfl) ?_
        refine ri_rd (ri_runS (As := [.int (iI i)]) (rest := [.int (iI n), .int (iI t), .int (iI (5 + b * 5 + t)), .ref (a 0)]) CF (k_X3_columnOf l i (by omega)) gX3_soft_X3_columnOf f_X3_columnOf ⟨rfl, rfl, Nat.le_of_ble_eq_true rfl, Nat.le_of_ble_eq_true rfl, Nat.le_of_ble_eq_true rfl, Nat.le_of_ble_eq_true rfl⟩ tB_bl tB_in rfl hl.1 rfl (Nat.le_of_ble_eq_true rfl) dX3_soft_34) ?_
        refine lv_iload hx hb dX3_soft_37 (lv_at hl 6 rfl) ?_
        refine ri_rd (ri_runS (As := [.int (iI i)]) (rest := [.int (iI (i % 8)), .int (iI n), .int (iI t), .int (iI (5 + b * 5 + t)), .ref (a 0)]) CF (k_X3_rowOf l i (by omega)) gX3_soft_X3_rowOf f_X3_rowOf ⟨rfl, rfl, Nat.le_of_ble_eq_true rfl, Nat.le_of_ble_eq_true rfl, Nat.le_of_ble_eq_true rfl, Nat.le_of_ble_eq_true rfl⟩ tB_bl tB_in rfl hl.1 rfl (Nat.le_of_ble_eq_true rfl) dX3_soft_39) ?_
        refine ri_rd (ri_runV (b := a 0) (As := [.int (iI (5 + b * 5 + t)), .int (iI t), .int (iI n), .int (iI (i % 8)), .int (iI (i / 8))]) (rest := []) CF (k_X3_isSoft l D a kk g (5 + b * 5 + t) t n (i % 8) (i / 8) hI (by omega) (by omega) (by omega) (by omega) (by omega)) gX3_soft_X3_isSoft f_X3_isSoft rfl (va_recv hK hP (ci := 3) (q0 := 0) rfl rfl) ⟨rfl, rfl, Nat.le_of_ble_eq_true rfl, Nat.le_of_ble_eq_true rfl, Nat.le_of_ble_eq_true rfl, Nat.le_of_ble_eq_true rfl⟩ wB_bl (wB_in hP hK hN) rfl hl.1 rfl (Nat.le_of_ble_eq_true rfl) dX3_soft_42) ?_
        refine ri_eq (y := bp ((sofD (px (g 2) t) (px (g 2) (5 + b * 5 + t)) n) i)) (rfl) ?_
        refine ri_ifeq_b (tgt := 51) hx hb dX3_soft_45 (by decide) (fun h45 => ?_) (fun h45 => ?_)
        · skip
          refine ri_iinc (lv' := [(6, .int (iI (i + 1))), (0, .ref (a 0)), (1, .int (iI b)), (2, .int (iI t)), (3, .int (iI n)), (4, .int (iI (5 + b * 5 + t))), (5, .int (iI ac))]) hx hb dX3_soft_51 hl (k := 6) rfl (by decide) rfl (fun ls hl => ?_)
          refine lv_goto (tgt := 20) hx hb dX3_soft_54 (by decide) ?_
          exact ih20 (i + 1) (ac) (by omega) (by first | exact (congrArg (· + 1) hac).trans (cntE_t (by omega) h45) | exact hac.trans (cntE_f (by omega) h45)) (by omega) ls (lv_sub hl [1, 2, 3, 4, 5, 6, 0] rfl)
        · skip
          refine ri_iinc (lv' := [(5, .int (iI (ac + 1))), (0, .ref (a 0)), (1, .int (iI b)), (2, .int (iI t)), (3, .int (iI n)), (4, .int (iI (5 + b * 5 + t))), (6, .int (iI i))]) hx hb dX3_soft_48 hl (k := 5) rfl (by decide) rfl (fun ls hl => ?_)
          refine ri_iinc (lv' := [(6, .int (iI (i + 1))), (5, .int (iI (ac + 1))), (0, .ref (a 0)), (1, .int (iI b)), (2, .int (iI t)), (3, .int (iI n)), (4, .int (iI (5 + b * 5 + t)))]) hx hb dX3_soft_51 hl (k := 6) rfl (by decide) rfl (fun ls hl => ?_)
          refine lv_goto (tgt := 20) hx hb dX3_soft_54 (by decide) ?_
          exact ih20 (i + 1) (ac + 1) (by omega) (by first | exact (congrArg (· + 1) hac).trans (cntE_t (by omega) h45) | exact hac.trans (cntE_f (by omega) h45)) (by omega) ls (lv_sub hl [2, 3, 4, 5, 6, 1, 0] rfl)
  exact L20 65 (0) (0) (by omega) (rfl) (by decide) ls (lv_sub hl [3, 4, 5, 6, 2, 1, 0] rfl)

theorem f_X3_run : MF yX3_run wsX3_run cX3_run 5 (some .boolean) 3 := ⟨⟨_, rfl⟩, by decide +kernel, by decide +kernel, by decide +kernel⟩
set_option maxHeartbeats 4000000 in
set_option maxRecDepth 100000 in
theorem k_X3_run (l : Launch) (D : va_G) (a : Nat → Nat) (kk : Nat → ClassId) (g : Nat → Nat → Int) (sa : Nat → Nat) (hst : l.stackTraces = false) (b : Int) (t : Int) (n : Int) (hA : aDs 17 a) (hI : XInv g) (yb : -2147483648 ≤ b ∧ b < 2147483648) (yt : -2147483648 ≤ t ∧ t < 2147483648) (yn : -2147483648 ≤ n ∧ n < 2147483648) : XI l yX3_run wsX3_run ({ frames := 8, cells := 2, slots := 12, locals := 152 }) [.ref (a 0), .int (iI b), .int (iI t), .int (iI n)] (pB sa D a kk g) (cmpA b t n ∧ g 3 (5 + b * 5 + t).toNat = 1) (cmpE g b t n) (bp (fdE (cmpD (px (g 2) t) (px (g 2) (5 + b * 5 + t)) n (g 5 t.toNat) (g 6 t.toNat) (g 7 t.toNat) (g 8 t.toNat) (g 10 t.toNat) (g 11 t.toNat) (g 12 t.toNat) (g 13 t.toNat)) < 0)) (fun H => va_P D vwCl (xW a kk (hisG g t (bp (fdE (cmpD (px (g 2) t) (px (g 2) (5 + b * 5 + t)) n (g 5 t.toNat) (g 6 t.toNat) (g 7 t.toNat) (g 8 t.toNat) (g 10 t.toNat) (g 11 t.toNat) (g 12 t.toNat) (g 13 t.toNat)) < 0)))) H) (aA 17 a) 2 12 := by
  refine ri_entX (cc := cX3_run) (maxL := 5) (ret := some .boolean) (by decide) rfl (Nat.le_of_ble_eq_true rfl) ?_
  intro zp ze s zm zb zt zc hx hb hr hts hown hlocks hml hxt hB ls hl
  have hown : s.vm.findClass RX3 = some zm.cls := hown
  have CF : CallFix zp zm zc cX3_run 5 s ([.ref (a 0), .int (iI b), .int (iI t), .int (iI n)] : List Value).toArray wsX3_run RX3 := ⟨hx, hb, hml, hown, hts⟩
  obtain ⟨hT, hP, hK, hN⟩ := hB
  have hinX3 : ∀ w ∈ wsX30, w ∈ wsX3_run := (fun _ h => List.mem_cons_of_mem _ (List.mem_append_left _ (List.mem_append_left _ (List.mem_append_left _ (List.mem_append_left _ (List.mem_append_left _ (List.mem_append_right _ h)))))))
  have hS : va_S (aA 17 a) s.heap s.heap [] := va_S.rf
  have hl : lv_has ls 5 [(0, .ref (a 0)), (1, .int (iI b)), (2, .int (iI t)), (3, .int (iI n))] := hl
  refine lv_aload_n hx hb dX3_run_0 rfl (lv_at hl 0 rfl) ?_
  refine lv_iload_n hx hb dX3_run_1 rfl (lv_at hl 1 rfl) ?_
  refine lv_iload_n hx hb dX3_run_2 rfl (lv_at hl 2 rfl) ?_
  refine lv_iload_n hx hb dX3_run_3 rfl (lv_at hl 3 rfl) ?_
  refine ri_chk (A := (aA 17 a)) (ri_runVX (b := a 0) (As := [.int (iI b), .int (iI t), .int (iI n)]) (rest := []) CF (k_X3_checkComparison l D a kk g sa s.heap hst b t n hI (by omega) (by omega) (by omega)) gX3_run_X3_checkComparison f_X3_checkComparison rfl (va_recv hK hP (ci := 3) (q0 := 0) rfl rfl) ⟨rfl, rfl, Nat.le_of_ble_eq_true rfl, Nat.le_of_ble_eq_true rfl, Nat.le_of_ble_eq_true rfl, Nat.le_of_ble_eq_true rfl⟩ dB_bl (dB_in hT hP hK hN) rfl hl.1 rfl (Nat.le_of_ble_eq_true rfl) dX3_run_4) hS (fun X hX => hX) hxt hlocks (fun _ h => h) (Nat.le_of_ble_eq_true rfl) (Nat.le_of_ble_eq_true rfl) (fun locs hok hS => ?_)
  obtain ⟨⟨hokb, hokt, hokn⟩, hokh⟩ := id hok
  refine lv_aload_n hx hb dX3_run_7 rfl (lv_at hl 0 rfl) ?_
  refine lv_iload_n hx hb dX3_run_8 rfl (lv_at hl 1 rfl) ?_
  refine lv_iload_n hx hb dX3_run_9 rfl (lv_at hl 2 rfl) ?_
  refine ri_rd (ri_runS (As := [.int (iI b), .int (iI t)]) (rest := [.ref (a 0)]) CF (k_X3_approvedSlot l b t) gX3_run_X3_approvedSlot f_X3_approvedSlot ⟨rfl, rfl, Nat.le_of_ble_eq_true rfl, Nat.le_of_ble_eq_true rfl, Nat.le_of_ble_eq_true rfl, Nat.le_of_ble_eq_true rfl⟩ tB_bl tB_in rfl hl.1 rfl (Nat.le_of_ble_eq_true rfl) dX3_run_10) ?_
  refine lv_iload_n hx hb dX3_run_13 rfl (lv_at hl 2 rfl) ?_
  refine lv_iload_n hx hb dX3_run_14 rfl (lv_at hl 3 rfl) ?_
  refine ri_rd (ri_runV (b := a 0) (As := [.int (iI (5 + b * 5 + t)), .int (iI t), .int (iI n)]) (rest := []) CF (k_X3_findDifference l D a kk g (5 + b * 5 + t) t n hI (by omega) (by omega) (by omega)) gX3_run_X3_findDifference f_X3_findDifference rfl (va_recv hK hP (ci := 3) (q0 := 0) rfl rfl) ⟨rfl, rfl, Nat.le_of_ble_eq_true rfl, Nat.le_of_ble_eq_true rfl, Nat.le_of_ble_eq_true rfl, Nat.le_of_ble_eq_true rfl⟩ wB_bl (wB_in hP hK hN) rfl hl.1 rfl (Nat.le_of_ble_eq_true rfl) dX3_run_15) ?_
  have hfr := fdE_rr (cmpD (px (g 2) t) (px (g 2) (5 + b * 5 + t)) n (g 5 t.toNat) (g 6 t.toNat) (g 7 t.toNat) (g 8 t.toNat) (g 10 t.toNat) (g 11 t.toNat) (g 12 t.toNat) (g 13 t.toNat))
  have J26 : W zp l ze ({ frames := 8, cells := 2, slots := 12, locals := 152 }) s zm ([.ref (a 0), .int (iI b), .int (iI t), .int (iI n)] : List Value).toArray zb zt zc s.heap locs (0 + 2) (0 + 12) (vx_MQ zb (va_Qi (fun (r9 : Int32) (_ : Unit) => (cmpA b t n ∧ g 3 (5 + b * 5 + t).toNat = 1) ∧ r9 = iI (bp (fdE (cmpD (px (g 2) t) (px (g 2) (5 + b * 5 + t)) n (g 5 t.toNat) (g 6 t.toNat) (g 7 t.toNat) (g 8 t.toNat) (g 10 t.toNat) (g 11 t.toNat) (g 12 t.toNat) (g 13 t.toNat)) < 0))) (fun _ t9 => (fun H => va_P D vwCl (xW a kk (hisG g t (bp (fdE (cmpD (px (g 2) t) (px (g 2) (5 + b * 5 + t)) n (g 5 t.toNat) (g 6 t.toNat) (g 7 t.toNat) (g 8 t.toNat) (g 10 t.toNat) (g 11 t.toNat) (g 12 t.toNat) (g 13 t.toNat)) < 0)))) H) t9.heap) (aA 17 a)) (vx_X (fun _ : Unit => True) (fun X _ _ => (cmpE g b t n) X) (fun _ => False)) ([.ref (a 0), .int (iI b), .int (iI t), .int (iI n)] : List Value).toArray s 2 12 (aA 17 a)) (F0 zm 26 ls [.int (iI (bp (fdE (cmpD (px (g 2) t) (px (g 2) (5 + b * 5 + t)) n (g 5 t.toNat) (g 6 t.toNat) (g 7 t.toNat) (g 8 t.toNat) (g 10 t.toNat) (g 11 t.toNat) (g 12 t.toNat) (g 13 t.toNat)) < 0)))]) := by
    refine lv_istore (lv' := [(4, .int (iI (bp (fdE (cmpD (px (g 2) t) (px (g 2) (5 + b * 5 + t)) n (g 5 t.toNat) (g 6 t.toNat) (g 7 t.toNat) (g 8 t.toNat) (g 10 t.toNat) (g 11 t.toNat) (g 12 t.toNat) (g 13 t.toNat)) < 0)))), (0, .ref (a 0)), (1, .int (iI b)), (2, .int (iI t)), (3, .int (iI n))]) hx hb dX3_run_26 hl (by decide) rfl (fun ls hl => ?_)
    refine lv_aload_n hx hb dX3_run_28 rfl (lv_at hl 1 rfl) ?_
    refine va_get (D := D) (ci := 3) (v := .ref (a 14)) (C := RX3) (T := TX3) (N := 4) hx hb hts hinX3 hown hK hP 0 rfl rfl 3 (by decide) (hts _ (List.mem_of_getElem? (i := 1) rfl)) (fun _ h9 => h9) rfl dX3_run_29 ?_
    refine lv_iload_n hx hb dX3_run_32 rfl (lv_at hl 3 rfl) ?_
    refine lv_iload hx hb dX3_run_33 (lv_at hl 0 rfl) ?_
    refine ri_wv (PP := fun H => va_P D vwCl (xW a kk (hisG g t (bp (fdE (cmpD (px (g 2) t) (px (g 2) (5 + b * 5 + t)) n (g 5 t.toNat) (g 6 t.toNat) (g 7 t.toNat) (g 8 t.toNat) (g 10 t.toNat) (g 11 t.toNat) (g 12 t.toNat) (g 13 t.toNat)) < 0)))) H) (ri_runV (b := a 14) (As := [.int (iI t), .int (iI (bp (fdE (cmpD (px (g 2) t) (px (g 2) (5 + b * 5 + t)) n (g 5 t.toNat) (g 6 t.toNat) (g 7 t.toNat) (g 8 t.toNat) (g 10 t.toNat) (g 11 t.toNat) (g 12 t.toNat) (g 13 t.toNat)) < 0)))]) (rest := []) CF (k_X0_add l D a kk g t (bp (fdE (cmpD (px (g 2) t) (px (g 2) (5 + b * 5 + t)) n (g 5 t.toNat) (g 6 t.toNat) (g 7 t.toNat) (g 8 t.toNat) (g 10 t.toNat) (g 11 t.toNat) (g 12 t.toNat) (g 13 t.toNat)) < 0)) hA hI (by omega) (bp_01 _)) gX3_run_X0_add f_X0_add rfl (va_recv hK hP (ci := 0) (q0 := 14) rfl rfl) ⟨rfl, rfl, Nat.le_of_ble_eq_true rfl, Nat.le_of_ble_eq_true rfl, Nat.le_of_ble_eq_true rfl, Nat.le_of_ble_eq_true rfl⟩ wB_bl (wB_in hP hK hN) rfl hl.1 rfl (Nat.le_of_ble_eq_true rfl) dX3_run_35) hS (fun _ h => h) (fun H locs hP _ hS => ?_)
    replace hP : va_P D vwCl (xW a kk (hisG g t (bp (fdE (cmpD (px (g 2) t) (px (g 2) (5 + b * 5 + t)) n (g 5 t.toNat) (g 6 t.toNat) (g 7 t.toNat) (g 8 t.toNat) (g 10 t.toNat) (g 11 t.toNat) (g 12 t.toNat) (g 13 t.toNat)) < 0)))) H := hP
    refine lv_iload hx hb dX3_run_38 (lv_at hl 0 rfl) ?_
    refine W.widen (k := 2) (n := 12) (Nat.le_of_ble_eq_true rfl) (Nat.le_of_ble_eq_true rfl) ?_
    exact ri_zretX (A := (aA 17 a)) (PP := (fun H => va_P D vwCl (xW a kk (hisG g t (bp (fdE (cmpD (px (g 2) t) (px (g 2) (5 + b * 5 + t)) n (g 5 t.toNat) (g 6 t.toNat) (g 7 t.toNat) (g 8 t.toNat) (g 10 t.toNat) (g 11 t.toNat) (g 12 t.toNat) (g 13 t.toNat)) < 0)))) H)) hx hb hr hlocks hS (hP) (hok) (bp_01 _) dX3_run_40 (rfl)
  refine ri_if_ge (tgt := 25) hx hb (by omega) dX3_run_18 (by decide) (fun c_1 => ?_) (fun c_1 => ?_)
  · skip
    refine ri_iconst hx hb dX3_run_25 ?_
    exact ri_eq ((bp_f (by omega)).symm) J26
  · skip
    refine ri_iconst hx hb dX3_run_21 ?_
    refine lv_goto (tgt := 26) hx hb dX3_run_22 (by decide) ?_
    exact ri_eq ((bp_t (by omega)).symm) J26

theorem f_X3_begin : MF yX3_begin wsX3_begin cX3_begin 4 (some .int) 1 := ⟨⟨_, rfl⟩, by decide +kernel, by decide +kernel, by decide +kernel⟩
set_option maxHeartbeats 4000000 in
set_option maxRecDepth 100000 in
theorem k_X3_begin (l : Launch) (D : va_G) (a : Nat → Nat) (kk : Nat → ClassId) (g : Nat → Nat → Int) (sa : Nat → Nat) (hst : l.stackTraces = false) (b : Int) (hA : aDs 17 a) (hI : XInv g) (yb : -2147483648 ≤ b ∧ b < 2147483648) : XI l yX3_begin wsX3_begin ({ frames := 7, cells := 1, slots := 6, locals := 104 }) [.ref (a 0), .int (iI b)] (pB sa D a kk g) (1 ≤ b ∧ b ≤ 3) (fun X => X = "java/lang/IllegalArgumentException" ∧ ¬ (1 ≤ b ∧ b ≤ 3)) (begC g b 5) (fun H => va_P D vwCl (xW a kk (begG g b 5)) H) (aA 17 a) 1 6 := by
  refine ri_entX (cc := cX3_begin) (maxL := 4) (ret := some .int) (by decide) rfl (Nat.le_of_ble_eq_true rfl) ?_
  intro zp ze s zm zb zt zc hx hb hr hts hown hlocks hml hxt hB ls hl
  have hown : s.vm.findClass RX3 = some zm.cls := hown
  have CF : CallFix zp zm zc cX3_begin 4 s ([.ref (a 0), .int (iI b)] : List Value).toArray wsX3_begin RX3 := ⟨hx, hb, hml, hown, hts⟩
  obtain ⟨hT, hP, hK, hN⟩ := hB
  have hinX3 : ∀ w ∈ wsX30, w ∈ wsX3_begin := (fun _ h => List.mem_cons_of_mem _ (List.mem_append_left _ (List.mem_append_left _ (List.mem_append_right _ h))))
  have hS : va_S (aA 17 a) s.heap s.heap [] := va_S.rf
  have hl : lv_has ls 4 [(0, .ref (a 0)), (1, .int (iI b))] := hl
  refine lv_iload_n hx hb dX3_begin_0 rfl (lv_at hl 1 rfl) ?_
  refine ri_rd (ri_runS (As := [.int (iI b)]) (rest := []) CF (k_X3_isSideBranch l b (by omega)) gX3_begin_X3_isSideBranch f_X3_isSideBranch ⟨rfl, rfl, Nat.le_of_ble_eq_true rfl, Nat.le_of_ble_eq_true rfl, Nat.le_of_ble_eq_true rfl, Nat.le_of_ble_eq_true rfl⟩ tB_bl tB_in rfl hl.1 rfl (Nat.le_of_ble_eq_true rfl) dX3_begin_1) ?_
  refine ri_chk (A := (aA 17 a)) (ri_runSX (As := [.int (iI (bp (1 ≤ b ∧ b ≤ 3)))]) (rest := []) CF (k_X3_checkArguments l sa s.heap hst (1 ≤ b ∧ b ≤ 3)) gX3_begin_X3_checkArguments f_X3_checkArguments ⟨rfl, rfl, Nat.le_of_ble_eq_true rfl, Nat.le_of_ble_eq_true rfl, Nat.le_of_ble_eq_true rfl, Nat.le_of_ble_eq_true rfl⟩ cB_bl (cB_in hT) rfl hl.1 rfl (Nat.le_of_ble_eq_true rfl) dX3_begin_4) hS (fun X hX => hX) hxt hlocks (fun _ h => h) (Nat.le_of_ble_eq_true rfl) (Nat.le_of_ble_eq_true rfl) (fun locs hok hS => ?_)
  refine ri_iconst hx hb dX3_begin_7 ?_
  refine lv_istore_n (lv' := [(2, .int (iI 0)), (0, .ref (a 0)), (1, .int (iI b))]) hx hb dX3_begin_8 rfl hl (by decide) rfl (fun ls hl => ?_)
  refine ri_iconst hx hb dX3_begin_9 ?_
  refine lv_istore_n (lv' := [(3, .int (iI 0)), (2, .int (iI 0)), (0, .ref (a 0)), (1, .int (iI b))]) hx hb dX3_begin_10 rfl hl (by decide) rfl (fun ls hl => ?_)
  have L11 : ∀ (n11 : Nat) (n : Nat) (ac : Int), (n ≤ 5) → (ac = begC g b n) → (5 - n < n11) → ∀ (H : Heap) (locs : List Loc), va_P D vwCl (xW a kk (begG g b n)) H → va_S (aA 17 a) s.heap H locs → ∀ (ls : Array Slot), lv_has ls 4 [(0, .ref (a 0)), (1, .int (iI b)), (2, .int (iI ac)), (3, .int (iI (n : Int)))] → W zp l ze ({ frames := 7, cells := 1, slots := 6, locals := 104 }) s zm ([.ref (a 0), .int (iI b)] : List Value).toArray zb zt zc H locs (0 + 1) (0 + 6) (vx_MQ zb (va_Qi (fun (r9 : Int32) (_ : Unit) => (1 ≤ b ∧ b ≤ 3) ∧ r9 = iI (begC g b 5)) (fun _ t9 => (fun H => va_P D vwCl (xW a kk (begG g b 5)) H) t9.heap) (aA 17 a)) (vx_X (fun _ : Unit => True) (fun X _ _ => (fun X => X = "java/lang/IllegalArgumentException" ∧ ¬ (1 ≤ b ∧ b ≤ 3)) X) (fun _ => False)) ([.ref (a 0), .int (iI b)] : List Value).toArray s 1 6 (aA 17 a)) (F0 zm 11 ls []) := by
    intro n11
    induction n11 with
    | zero => intro n ac hn hac hm; exact absurd hm (Nat.not_lt_zero _)
    | succ n11 ih11 =>
      intro n ac hn hac hm11 H locs hP hS ls hl
      have hcr := begC_r g b n
      have hI2 := XInv_be hI (b := b) (by omega) n hn
      refine lv_iload_n hx hb dX3_begin_11 rfl (lv_at hl 3 rfl) ?_
      refine ri_iconst hx hb dX3_begin_12 ?_
      refine ri_icmp_ge (tgt := 46) hx hb (by omega) dX3_begin_13 (by decide) (fun c_1 => ?_) (fun c_1 => ?_)
      · skip
        refine lv_iload_n hx hb dX3_begin_46 rfl (lv_at hl 2 rfl) ?_
        refine W.widen (k := 1) (n := 6) (Nat.le_of_ble_eq_true rfl) (Nat.le_of_ble_eq_true rfl) ?_
        exact ri_iretX (A := (aA 17 a)) (PP := (fun H => va_P D vwCl (xW a kk (begG g b 5)) H)) hx hb hr hlocks hS ((show n = 5 by omega) ▸ hP) (hok) dX3_begin_47 (by rw [hac]; congr 1; omega)
      · skip
        refine lv_aload_n hx hb dX3_begin_16 rfl (lv_at hl 0 rfl) ?_
        refine lv_iload_n hx hb dX3_begin_17 rfl (lv_at hl 1 rfl) ?_
        refine lv_iload_n hx hb dX3_begin_18 rfl (lv_at hl 3 rfl) ?_
        refine ri_wv (PP := fun H => va_P D vwCl (xW a kk (fmG (begG g b n) b (n : Int))) H) (ri_runV (b := a 0) (As := [.int (iI b), .int (iI (n : Int))]) (rest := []) CF (k_X3_followMain l D a kk (begG g b n) b (n : Int) hA hI2 (by omega) (by omega)) gX3_begin_X3_followMain f_X3_followMain rfl (va_recv hK hP (ci := 3) (q0 := 0) rfl rfl) ⟨rfl, rfl, Nat.le_of_ble_eq_true rfl, Nat.le_of_ble_eq_true rfl, Nat.le_of_ble_eq_true rfl, Nat.le_of_ble_eq_true rfl⟩ wB_bl (wB_in hP hK hN) rfl hl.1 rfl (Nat.le_of_ble_eq_true rfl) dX3_begin_19) hS (fun _ h => h) (fun H locs hP _ hS => ?_)
        replace hP : va_P D vwCl (xW a kk (fmG (begG g b n) b (n : Int))) H := hP
        replace hP : va_P D vwCl (xW a kk (begG g b (n + 1))) H := hP
        have hI3 := XInv_be hI (b := b) (by omega) (n + 1) (by omega)
        refine lv_aload_n hx hb dX3_begin_22 rfl (lv_at hl 0 rfl) ?_
        refine va_get (D := D) (ci := 3) (v := .ref (a 1)) (C := RX3) (T := TX3) (N := 4) hx hb hts hinX3 hown hK hP 0 rfl rfl 0 (by decide) (hts _ (List.mem_of_getElem? (i := 1) rfl)) (fun _ h9 => h9) rfl dX3_begin_23 ?_
        refine lv_iload_n hx hb dX3_begin_26 rfl (lv_at hl 1 rfl) ?_
        refine lv_iload_n hx hb dX3_begin_27 rfl (lv_at hl 3 rfl) ?_
        refine ri_rd (ri_runS (As := [.int (iI b), .int (iI (n : Int))]) (rest := [.ref (a 1)]) CF (k_X3_approvedSlot l b (n : Int)) gX3_begin_X3_approvedSlot f_X3_approvedSlot ⟨rfl, rfl, Nat.le_of_ble_eq_true rfl, Nat.le_of_ble_eq_true rfl, Nat.le_of_ble_eq_true rfl, Nat.le_of_ble_eq_true rfl⟩ tB_bl tB_in rfl hl.1 rfl (Nat.le_of_ble_eq_true rfl) dX3_begin_28) ?_
        refine ri_rd (ri_runV (b := a 1) (As := [.int (iI (5 + b * 5 + (n : Int)))]) (rest := []) CF (k_X1_has l D a kk (begG g b (n + 1)) (5 + b * 5 + (n : Int)) hI3 (by omega)) gX3_begin_X1_has f_X1_has rfl (va_recv hK hP (ci := 1) (q0 := 1) rfl rfl) ⟨rfl, rfl, Nat.le_of_ble_eq_true rfl, Nat.le_of_ble_eq_true rfl, Nat.le_of_ble_eq_true rfl, Nat.le_of_ble_eq_true rfl⟩ wB_bl (wB_in hP hK hN) rfl hl.1 rfl (Nat.le_of_ble_eq_true rfl) dX3_begin_31) ?_
        refine ri_ifeq_b (tgt := 40) hx hb dX3_begin_34 (by decide) (fun h34 => ?_) (fun h34 => ?_)
        · skip
          refine ri_iinc (lv' := [(3, .int (iI ((n : Int) + 1))), (0, .ref (a 0)), (1, .int (iI b)), (2, .int (iI ac))]) hx hb dX3_begin_40 hl (k := 3) rfl (by decide) rfl (fun ls hl => ?_)
          refine lv_goto (tgt := 11) hx hb dX3_begin_43 (by decide) ?_
          exact ih11 (n + 1) (ac) (by omega) (by show ac = begC g b n + bp (begG g b (n + 1) 3 (5 + b * 5 + (n : Int)).toNat = 1); rw [bp_f h34, hac]; omega) (by omega) _ _ (hP) hS ls (lv_sub hl [1, 2, 3, 0] rfl)
        · skip
          refine ri_iinc (lv' := [(2, .int (iI (ac + 1))), (0, .ref (a 0)), (1, .int (iI b)), (3, .int (iI (n : Int)))]) hx hb dX3_begin_37 hl (k := 2) rfl (by decide) rfl (fun ls hl => ?_)
          refine ri_iinc (lv' := [(3, .int (iI ((n : Int) + 1))), (2, .int (iI (ac + 1))), (0, .ref (a 0)), (1, .int (iI b))]) hx hb dX3_begin_40 hl (k := 3) rfl (by decide) rfl (fun ls hl => ?_)
          refine lv_goto (tgt := 11) hx hb dX3_begin_43 (by decide) ?_
          exact ih11 (n + 1) (ac + 1) (by omega) (by show ac + 1 = begC g b n + bp (begG g b (n + 1) 3 (5 + b * 5 + (n : Int)).toNat = 1); rw [bp_t h34, hac]) (by omega) _ _ (hP) hS ls (lv_sub hl [2, 3, 1, 0] rfl)
  exact L11 6 (0) (0) (by omega) (rfl) (by omega) _ _ hP hS ls (lv_sub hl [2, 3, 1, 0] rfl)

theorem f_X3_join : MF yX3_join wsX3_join cX3_join 4 (some .int) 1 := ⟨⟨_, rfl⟩, by decide +kernel, by decide +kernel, by decide +kernel⟩
set_option maxHeartbeats 4000000 in
set_option maxRecDepth 100000 in
theorem k_X3_join (l : Launch) (D : va_G) (a : Nat → Nat) (kk : Nat → ClassId) (g : Nat → Nat → Int) (sa : Nat → Nat) (hst : l.stackTraces = false) (b : Int) (hA : aDs 17 a) (hI : XInv g) (yb : -2147483648 ≤ b ∧ b < 2147483648) : XI l yX3_join wsX3_join ({ frames := 7, cells := 1, slots := 6, locals := 111 }) [.ref (a 0), .int (iI b)] (pB sa D a kk g) (1 ≤ b ∧ b ≤ 3) (fun X => X = "java/lang/IllegalArgumentException" ∧ ¬ (1 ≤ b ∧ b ≤ 3)) (joiC g b 5) (fun H => va_P D vwCl (xW a kk (joiG g b 5)) H) (aA 17 a) 1 6 := by
  refine ri_entX (cc := cX3_join) (maxL := 4) (ret := some .int) (by decide) rfl (Nat.le_of_ble_eq_true rfl) ?_
  intro zp ze s zm zb zt zc hx hb hr hts hown hlocks hml hxt hB ls hl
  have hown : s.vm.findClass RX3 = some zm.cls := hown
  have CF : CallFix zp zm zc cX3_join 4 s ([.ref (a 0), .int (iI b)] : List Value).toArray wsX3_join RX3 := ⟨hx, hb, hml, hown, hts⟩
  obtain ⟨hT, hP, hK, hN⟩ := hB
  have hS : va_S (aA 17 a) s.heap s.heap [] := va_S.rf
  have hl : lv_has ls 4 [(0, .ref (a 0)), (1, .int (iI b))] := hl
  refine lv_iload_n hx hb dX3_join_0 rfl (lv_at hl 1 rfl) ?_
  refine ri_rd (ri_runS (As := [.int (iI b)]) (rest := []) CF (k_X3_isSideBranch l b (by omega)) gX3_join_X3_isSideBranch f_X3_isSideBranch ⟨rfl, rfl, Nat.le_of_ble_eq_true rfl, Nat.le_of_ble_eq_true rfl, Nat.le_of_ble_eq_true rfl, Nat.le_of_ble_eq_true rfl⟩ tB_bl tB_in rfl hl.1 rfl (Nat.le_of_ble_eq_true rfl) dX3_join_1) ?_
  refine ri_chk (A := (aA 17 a)) (ri_runSX (As := [.int (iI (bp (1 ≤ b ∧ b ≤ 3)))]) (rest := []) CF (k_X3_checkArguments l sa s.heap hst (1 ≤ b ∧ b ≤ 3)) gX3_join_X3_checkArguments f_X3_checkArguments ⟨rfl, rfl, Nat.le_of_ble_eq_true rfl, Nat.le_of_ble_eq_true rfl, Nat.le_of_ble_eq_true rfl, Nat.le_of_ble_eq_true rfl⟩ cB_bl (cB_in hT) rfl hl.1 rfl (Nat.le_of_ble_eq_true rfl) dX3_join_4) hS (fun X hX => hX) hxt hlocks (fun _ h => h) (Nat.le_of_ble_eq_true rfl) (Nat.le_of_ble_eq_true rfl) (fun locs hok hS => ?_)
  refine ri_iconst hx hb dX3_join_7 ?_
  refine lv_istore_n (lv' := [(2, .int (iI 0)), (0, .ref (a 0)), (1, .int (iI b))]) hx hb dX3_join_8 rfl hl (by decide) rfl (fun ls hl => ?_)
  refine ri_iconst hx hb dX3_join_9 ?_
  refine lv_istore_n (lv' := [(3, .int (iI 0)), (2, .int (iI 0)), (0, .ref (a 0)), (1, .int (iI b))]) hx hb dX3_join_10 rfl hl (by decide) rfl (fun ls hl => ?_)
  have L11 : ∀ (n11 : Nat) (n : Nat) (ac : Int), (n ≤ 5) → (ac = joiC g b n) → (5 - n < n11) → ∀ (H : Heap) (locs : List Loc), va_P D vwCl (xW a kk (joiG g b n)) H → va_S (aA 17 a) s.heap H locs → ∀ (ls : Array Slot), lv_has ls 4 [(0, .ref (a 0)), (1, .int (iI b)), (2, .int (iI ac)), (3, .int (iI (n : Int)))] → W zp l ze ({ frames := 7, cells := 1, slots := 6, locals := 111 }) s zm ([.ref (a 0), .int (iI b)] : List Value).toArray zb zt zc H locs (0 + 1) (0 + 6) (vx_MQ zb (va_Qi (fun (r9 : Int32) (_ : Unit) => (1 ≤ b ∧ b ≤ 3) ∧ r9 = iI (joiC g b 5)) (fun _ t9 => (fun H => va_P D vwCl (xW a kk (joiG g b 5)) H) t9.heap) (aA 17 a)) (vx_X (fun _ : Unit => True) (fun X _ _ => (fun X => X = "java/lang/IllegalArgumentException" ∧ ¬ (1 ≤ b ∧ b ≤ 3)) X) (fun _ => False)) ([.ref (a 0), .int (iI b)] : List Value).toArray s 1 6 (aA 17 a)) (F0 zm 11 ls []) := by
    intro n11
    induction n11 with
    | zero => intro n ac hn hac hm; exact absurd hm (Nat.not_lt_zero _)
    | succ n11 ih11 =>
      intro n ac hn hac hm11 H locs hP hS ls hl
      have hcr := joiC_r g b n
      have hI2 := XInv_jo hI (b := b) (by omega) n hn
      refine lv_iload_n hx hb dX3_join_11 rfl (lv_at hl 3 rfl) ?_
      refine ri_iconst hx hb dX3_join_12 ?_
      refine ri_icmp_ge (tgt := 52) hx hb (by omega) dX3_join_13 (by decide) (fun c_1 => ?_) (fun c_1 => ?_)
      · skip
        refine lv_iload_n hx hb dX3_join_52 rfl (lv_at hl 2 rfl) ?_
        refine W.widen (k := 1) (n := 6) (Nat.le_of_ble_eq_true rfl) (Nat.le_of_ble_eq_true rfl) ?_
        exact ri_iretX (A := (aA 17 a)) (PP := (fun H => va_P D vwCl (xW a kk (joiG g b 5)) H)) hx hb hr hlocks hS ((show n = 5 by omega) ▸ hP) (hok) dX3_join_53 (by rw [hac]; congr 1; omega)
      · skip
        refine lv_aload_n hx hb dX3_join_16 rfl (lv_at hl 0 rfl) ?_
        refine lv_iload_n hx hb dX3_join_17 rfl (lv_at hl 1 rfl) ?_
        refine lv_iload_n hx hb dX3_join_18 rfl (lv_at hl 3 rfl) ?_
        refine ri_rd (ri_runV (b := a 0) (As := [.int (iI b), .int (iI (n : Int))]) (rest := []) CF (k_X3_clashes l D a kk (joiG g b n) b (n : Int) hI2 (by omega) (by omega)) gX3_join_X3_clashes f_X3_clashes rfl (va_recv hK hP (ci := 3) (q0 := 0) rfl rfl) ⟨rfl, rfl, Nat.le_of_ble_eq_true rfl, Nat.le_of_ble_eq_true rfl, Nat.le_of_ble_eq_true rfl, Nat.le_of_ble_eq_true rfl⟩ wB_bl (wB_in hP hK hN) rfl hl.1 rfl (Nat.le_of_ble_eq_true rfl) dX3_join_19) ?_
        refine ri_ifeq_b (tgt := 34) hx hb dX3_join_22 (by decide) (fun h22 => ?_) (fun h22 => ?_)
        · skip
          refine lv_aload_n hx hb dX3_join_34 rfl (lv_at hl 0 rfl) ?_
          refine lv_iload_n hx hb dX3_join_35 rfl (lv_at hl 1 rfl) ?_
          refine lv_iload_n hx hb dX3_join_36 rfl (lv_at hl 3 rfl) ?_
          refine ri_wv (PP := fun H => va_P D vwCl (xW a kk (toG (joiG g b n) b (n : Int))) H) (ri_runV (b := a 0) (As := [.int (iI b), .int (iI (n : Int))]) (rest := []) CF (k_X3_takeOver l D a kk (joiG g b n) b (n : Int) hA hI2 (by omega) (by omega)) gX3_join_X3_takeOver f_X3_takeOver rfl (va_recv hK hP (ci := 3) (q0 := 0) rfl rfl) ⟨rfl, rfl, Nat.le_of_ble_eq_true rfl, Nat.le_of_ble_eq_true rfl, Nat.le_of_ble_eq_true rfl, Nat.le_of_ble_eq_true rfl⟩ wB_bl (wB_in hP hK hN) rfl hl.1 rfl (Nat.le_of_ble_eq_true rfl) dX3_join_37) hS (fun _ h => h) (fun H locs hP _ hS => ?_)
          replace hP : va_P D vwCl (xW a kk (toG (joiG g b n) b (n : Int))) H := hP
          have hI3 := XInv_to hI2 (b := b) (t := (n : Int)) (by omega) (by omega)
          refine lv_aload_n hx hb dX3_join_40 rfl (lv_at hl 0 rfl) ?_
          refine lv_iload_n hx hb dX3_join_41 rfl (lv_at hl 1 rfl) ?_
          refine lv_iload_n hx hb dX3_join_42 rfl (lv_at hl 3 rfl) ?_
          refine ri_wv (PP := fun H => va_P D vwCl (xW a kk (fmG (toG (joiG g b n) b (n : Int)) b (n : Int))) H) (ri_runV (b := a 0) (As := [.int (iI b), .int (iI (n : Int))]) (rest := []) CF (k_X3_followMain l D a kk (toG (joiG g b n) b (n : Int)) b (n : Int) hA hI3 (by omega) (by omega)) gX3_join_X3_followMain f_X3_followMain rfl (va_recv hK hP (ci := 3) (q0 := 0) rfl rfl) ⟨rfl, rfl, Nat.le_of_ble_eq_true rfl, Nat.le_of_ble_eq_true rfl, Nat.le_of_ble_eq_true rfl, Nat.le_of_ble_eq_true rfl⟩ wB_bl (wB_in hP hK hN) rfl hl.1 rfl (Nat.le_of_ble_eq_true rfl) dX3_join_43) hS (fun _ h => h) (fun H locs hP _ hS => ?_)
          replace hP : va_P D vwCl (xW a kk (fmG (toG (joiG g b n) b (n : Int)) b (n : Int))) H := hP
          refine ri_iinc (lv' := [(3, .int (iI ((n : Int) + 1))), (0, .ref (a 0)), (1, .int (iI b)), (2, .int (iI ac))]) hx hb dX3_join_46 hl (k := 3) rfl (by decide) rfl (fun ls hl => ?_)
          refine lv_goto (tgt := 11) hx hb dX3_join_49 (by decide) ?_
          exact ih11 (n + 1) (ac) (by omega) (by show ac = joiC g b n + bp (claP (joiG g b n) b (n : Int)) * p2 (n : Int); rw [bp_f h22, hac]; omega) (by omega) _ _ (by show va_P D vwCl (xW a kk (iteG (claP (joiG g b n) b (n : Int)) _ _)) _; rw [iteG_f h22]; exact hP) hS ls (lv_sub hl [1, 2, 3, 0] rfl)
        · skip
          refine lv_iload_n hx hb dX3_join_25 rfl (lv_at hl 2 rfl) ?_
          refine ri_iconst hx hb dX3_join_26 ?_
          refine lv_iload_n hx hb dX3_join_27 rfl (lv_at hl 3 rfl) ?_
          refine lv_ishl hx hb dX3_join_28 ?_
          refine ri_rw (y := p2 (n : Int)) (sh_1 (by omega)) ?_
          refine lv_ior hx hb dX3_join_29 ?_
          refine ri_rw (y := ac + p2 (n : Int)) (or_p (by omega) (by omega)) ?_
          refine lv_istore_n (lv' := [(2, .int (iI (ac + p2 (n : Int)))), (0, .ref (a 0)), (1, .int (iI b)), (3, .int (iI (n : Int)))]) hx hb dX3_join_30 rfl hl (by decide) rfl (fun ls hl => ?_)
          refine lv_goto (tgt := 46) hx hb dX3_join_31 (by decide) ?_
          refine ri_iinc (lv' := [(3, .int (iI ((n : Int) + 1))), (2, .int (iI (ac + p2 (n : Int)))), (0, .ref (a 0)), (1, .int (iI b))]) hx hb dX3_join_46 hl (k := 3) rfl (by decide) rfl (fun ls hl => ?_)
          refine lv_goto (tgt := 11) hx hb dX3_join_49 (by decide) ?_
          exact ih11 (n + 1) (ac + p2 (n : Int)) (by omega) (by show ac + p2 (n : Int) = joiC g b n + bp (claP (joiG g b n) b (n : Int)) * p2 (n : Int); rw [bp_t h22, hac]; omega) (by omega) _ _ (by show va_P D vwCl (xW a kk (iteG (claP (joiG g b n) b (n : Int)) _ _)) _; rw [iteG_t h22]; exact hP) hS ls (lv_sub hl [2, 3, 1, 0] rfl)
  exact L11 6 (0) (0) (by omega) (rfl) (by omega) _ _ hP hS ls (lv_sub hl [2, 3, 1, 0] rfl)

theorem f_X3_paint : MF yX3_paint wsX3_paint cX3_paint 10 (some .int) 6 := ⟨⟨_, rfl⟩, by decide +kernel, by decide +kernel, by decide +kernel⟩
set_option maxHeartbeats 4000000 in
set_option maxRecDepth 100000 in
theorem k_X3_paint (l : Launch) (D : va_G) (a : Nat → Nat) (kk : Nat → ClassId) (g : Nat → Nat → Int) (sa : Nat → Nat) (hst : l.stackTraces = false) (t : Int) (c : Int) (r : Int) (w : Int) (h : Int) (sh : Int) (hA : aDs 17 a) (hI : XInv g) (yt : -2147483648 ≤ t ∧ t < 2147483648) (yc : -2147483648 ≤ c ∧ c < 2147483648) (yr : -2147483648 ≤ r ∧ r < 2147483648) (yw : -2147483648 ≤ w ∧ w < 2147483648) (yh : -2147483648 ≤ h ∧ h < 2147483648) (ysh : -2147483648 ≤ sh ∧ sh < 2147483648) : XI l yX3_paint wsX3_paint ({ frames := 7, cells := 1, slots := 6, locals := 104 }) [.ref (a 0), .int (iI t), .int (iI c), .int (iI r), .int (iI w), .int (iI h), .int (iI sh)] (pB sa D a kk g) ((0 ≤ t ∧ t ≤ 4) ∧ (((0 ≤ c ∧ c ≤ 7) ∧ (0 ≤ r ∧ r ≤ 7)) ∧ (1 ≤ w ∧ w ≤ 8 - c) ∧ (1 ≤ h ∧ h ≤ 8 - r)) ∧ (0 ≤ sh ∧ sh ≤ 255)) (fun X => X = "java/lang/IllegalArgumentException" ∧ ¬ ((0 ≤ t ∧ t ≤ 4) ∧ (((0 ≤ c ∧ c ≤ 7) ∧ (0 ≤ r ∧ r ≤ 7)) ∧ (1 ≤ w ∧ w ≤ 8 - c) ∧ (1 ≤ h ∧ h ≤ 8 - r)) ∧ (0 ≤ sh ∧ sh ≤ 255))) ((pst (g 2) t c r w sh (w * h).toNat).2) (fun H => va_P D vwCl (xW a kk (updG g 2 (pst (g 2) t c r w sh (w * h).toNat).1)) H) (aA 17 a) 1 6 := by
  refine ri_entX (cc := cX3_paint) (maxL := 10) (ret := some .int) (by decide) rfl (Nat.le_of_ble_eq_true rfl) ?_
  intro zp ze s zm zb zt zc hx hb hr hts hown hlocks hml hxt hB ls hl
  have hown : s.vm.findClass RX3 = some zm.cls := hown
  have CF : CallFix zp zm zc cX3_paint 10 s ([.ref (a 0), .int (iI t), .int (iI c), .int (iI r), .int (iI w), .int (iI h), .int (iI sh)] : List Value).toArray wsX3_paint RX3 := ⟨hx, hb, hml, hown, hts⟩
  obtain ⟨hT, hP, hK, hN⟩ := hB
  have hinX3 : ∀ w ∈ wsX30, w ∈ wsX3_paint := (fun _ h => List.mem_cons_of_mem _ (List.mem_append_left _ (List.mem_append_left _ (List.mem_append_right _ h))))
  have hS : va_S (aA 17 a) s.heap s.heap [] := va_S.rf
  have hl : lv_has ls 10 [(0, .ref (a 0)), (1, .int (iI t)), (2, .int (iI c)), (3, .int (iI r)), (4, .int (iI w)), (5, .int (iI h)), (6, .int (iI sh))] := hl
  have J32 : W zp l ze ({ frames := 7, cells := 1, slots := 6, locals := 104 }) s zm ([.ref (a 0), .int (iI t), .int (iI c), .int (iI r), .int (iI w), .int (iI h), .int (iI sh)] : List Value).toArray zb zt zc s.heap [] 0 0 (vx_MQ zb (va_Qi (fun (r9 : Int32) (_ : Unit) => ((0 ≤ t ∧ t ≤ 4) ∧ (((0 ≤ c ∧ c ≤ 7) ∧ (0 ≤ r ∧ r ≤ 7)) ∧ (1 ≤ w ∧ w ≤ 8 - c) ∧ (1 ≤ h ∧ h ≤ 8 - r)) ∧ (0 ≤ sh ∧ sh ≤ 255)) ∧ r9 = iI ((pst (g 2) t c r w sh (w * h).toNat).2)) (fun _ t9 => (fun H => va_P D vwCl (xW a kk (updG g 2 (pst (g 2) t c r w sh (w * h).toNat).1)) H) t9.heap) (aA 17 a)) (vx_X (fun _ : Unit => True) (fun X _ _ => (fun X => X = "java/lang/IllegalArgumentException" ∧ ¬ ((0 ≤ t ∧ t ≤ 4) ∧ (((0 ≤ c ∧ c ≤ 7) ∧ (0 ≤ r ∧ r ≤ 7)) ∧ (1 ≤ w ∧ w ≤ 8 - c) ∧ (1 ≤ h ∧ h ≤ 8 - r)) ∧ (0 ≤ sh ∧ sh ≤ 255))) X) (fun _ => False)) ([.ref (a 0), .int (iI t), .int (iI c), .int (iI r), .int (iI w), .int (iI h), .int (iI sh)] : List Value).toArray s 1 6 (aA 17 a)) (F0 zm 32 ls [.int (iI (bp ((0 ≤ t ∧ t ≤ 4) ∧ (((0 ≤ c ∧ c ≤ 7) ∧ (0 ≤ r ∧ r ≤ 7)) ∧ (1 ≤ w ∧ w ≤ 8 - c) ∧ (1 ≤ h ∧ h ≤ 8 - r)) ∧ (0 ≤ sh ∧ sh ≤ 255))))]) := by
    refine ri_chk (A := (aA 17 a)) (ri_runSX (As := [.int (iI (bp ((0 ≤ t ∧ t ≤ 4) ∧ (((0 ≤ c ∧ c ≤ 7) ∧ (0 ≤ r ∧ r ≤ 7)) ∧ (1 ≤ w ∧ w ≤ 8 - c) ∧ (1 ≤ h ∧ h ≤ 8 - r)) ∧ (0 ≤ sh ∧ sh ≤ 255))))]) (rest := []) CF (k_X3_checkArguments l sa s.heap hst ((0 ≤ t ∧ t ≤ 4) ∧ (((0 ≤ c ∧ c ≤ 7) ∧ (0 ≤ r ∧ r ≤ 7)) ∧ (1 ≤ w ∧ w ≤ 8 - c) ∧ (1 ≤ h ∧ h ≤ 8 - r)) ∧ (0 ≤ sh ∧ sh ≤ 255))) gX3_paint_X3_checkArguments f_X3_checkArguments ⟨rfl, rfl, Nat.le_of_ble_eq_true rfl, Nat.le_of_ble_eq_true rfl, Nat.le_of_ble_eq_true rfl, Nat.le_of_ble_eq_true rfl⟩ cB_bl (cB_in hT) rfl hl.1 rfl (Nat.le_of_ble_eq_true rfl) dX3_paint_32) hS (fun X hX => hX) hxt hlocks (fun _ h => h) (Nat.le_of_ble_eq_true rfl) (Nat.le_of_ble_eq_true rfl) (fun locs hok hS => ?_)
    obtain ⟨hok1, hok2, hok3⟩ := id hok
    refine ri_iconst hx hb dX3_paint_35 ?_
    refine lv_istore (lv' := [(7, .int (iI 0)), (0, .ref (a 0)), (1, .int (iI t)), (2, .int (iI c)), (3, .int (iI r)), (4, .int (iI w)), (5, .int (iI h)), (6, .int (iI sh))]) hx hb dX3_paint_36 hl (by decide) rfl (fun ls hl => ?_)
    refine ri_iconst hx hb dX3_paint_38 ?_
    refine lv_istore (lv' := [(8, .int (iI 0)), (7, .int (iI 0)), (0, .ref (a 0)), (1, .int (iI t)), (2, .int (iI c)), (3, .int (iI r)), (4, .int (iI w)), (5, .int (iI h)), (6, .int (iI sh))]) hx hb dX3_paint_39 hl (by decide) rfl (fun ls hl => ?_)
    have L41 : ∀ (n41 : Nat) (be : Int) (k : Nat) (cn : Int), (0 ≤ be ∧ be ≤ h) → ((k : Int) = be * w) → (cn = (pst (g 2) t c r w sh k).2) → ((h - be).toNat < n41) → ∀ (H : Heap) (locs : List Loc), va_P D vwCl (xW a kk (updG g 2 (pst (g 2) t c r w sh k).1)) H → va_S (aA 17 a) s.heap H locs → ∀ (ls : Array Slot), lv_has ls 10 [(0, .ref (a 0)), (1, .int (iI t)), (2, .int (iI c)), (3, .int (iI r)), (4, .int (iI w)), (5, .int (iI h)), (6, .int (iI sh)), (7, .int (iI cn)), (8, .int (iI be))] → W zp l ze ({ frames := 7, cells := 1, slots := 6, locals := 104 }) s zm ([.ref (a 0), .int (iI t), .int (iI c), .int (iI r), .int (iI w), .int (iI h), .int (iI sh)] : List Value).toArray zb zt zc H locs (0 + 1) (0 + 6) (vx_MQ zb (va_Qi (fun (r9 : Int32) (_ : Unit) => ((0 ≤ t ∧ t ≤ 4) ∧ (((0 ≤ c ∧ c ≤ 7) ∧ (0 ≤ r ∧ r ≤ 7)) ∧ (1 ≤ w ∧ w ≤ 8 - c) ∧ (1 ≤ h ∧ h ≤ 8 - r)) ∧ (0 ≤ sh ∧ sh ≤ 255)) ∧ r9 = iI ((pst (g 2) t c r w sh (w * h).toNat).2)) (fun _ t9 => (fun H => va_P D vwCl (xW a kk (updG g 2 (pst (g 2) t c r w sh (w * h).toNat).1)) H) t9.heap) (aA 17 a)) (vx_X (fun _ : Unit => True) (fun X _ _ => (fun X => X = "java/lang/IllegalArgumentException" ∧ ¬ ((0 ≤ t ∧ t ≤ 4) ∧ (((0 ≤ c ∧ c ≤ 7) ∧ (0 ≤ r ∧ r ≤ 7)) ∧ (1 ≤ w ∧ w ≤ 8 - c) ∧ (1 ≤ h ∧ h ≤ 8 - r)) ∧ (0 ≤ sh ∧ sh ≤ 255))) X) (fun _ => False)) ([.ref (a 0), .int (iI t), .int (iI c), .int (iI r), .int (iI w), .int (iI h), .int (iI sh)] : List Value).toArray s 1 6 (aA 17 a)) (F0 zm 41 ls []) := by
      intro n41
      induction n41 with
      | zero => intro be k cn hbe hk hcn hm; exact absurd hm (Nat.not_lt_zero _)
      | succ n41 ih41 =>
        intro be k cn hbe hk hcn hm41 H locs hP hS ls hl
        refine lv_iload hx hb dX3_paint_41 (lv_at hl 8 rfl) ?_
        refine lv_iload hx hb dX3_paint_43 (lv_at hl 5 rfl) ?_
        refine ri_icmp_ge (tgt := 97) hx hb (by omega) dX3_paint_45 (by decide) (fun c_1 => ?_) (fun c_1 => ?_)
        · skip
          refine lv_iload hx hb dX3_paint_97 (lv_at hl 7 rfl) ?_
          refine W.widen (k := 1) (n := 6) (Nat.le_of_ble_eq_true rfl) (Nat.le_of_ble_eq_true rfl) ?_
          exact ri_iretX (A := (aA 17 a)) (PP := (fun H => va_P D vwCl (xW a kk (updG g 2 (pst (g 2) t c r w sh (w * h).toNat).1)) H)) hx hb hr hlocks hS ((show k = (w * h).toNat by rw [Int.mul_comm w h, ← (show be = h by omega), ← hk]; exact (Int.toNat_natCast k).symm) ▸ hP) (hok) dX3_paint_99 (by rw [hcn]; congr 2; rw [Int.mul_comm w h, ← (show be = h by omega), ← hk]; exact (Int.toNat_natCast k).symm)
        · skip
          refine ri_iconst hx hb dX3_paint_48 ?_
          refine lv_istore (lv' := [(9, .int (iI 0)), (0, .ref (a 0)), (1, .int (iI t)), (2, .int (iI c)), (3, .int (iI r)), (4, .int (iI w)), (5, .int (iI h)), (6, .int (iI sh)), (7, .int (iI cn)), (8, .int (iI be))]) hx hb dX3_paint_49 hl (by decide) rfl (fun ls hl => ?_)
          have L51 : ∀ (n51 : Nat) (ri : Int) (k2 : Nat) (cn2 : Int), (0 ≤ ri ∧ ri ≤ w) → ((k2 : Int) = be * w + ri) → (cn2 = (pst (g 2) t c r w sh k2).2) → ((w - ri).toNat < n51) → ∀ (H : Heap) (locs : List Loc), va_P D vwCl (xW a kk (updG g 2 (pst (g 2) t c r w sh k2).1)) H → va_S (aA 17 a) s.heap H locs → ∀ (ls : Array Slot), lv_has ls 10 [(0, .ref (a 0)), (1, .int (iI t)), (2, .int (iI c)), (3, .int (iI r)), (4, .int (iI w)), (5, .int (iI h)), (6, .int (iI sh)), (7, .int (iI cn2)), (8, .int (iI be)), (9, .int (iI ri))] → W zp l ze ({ frames := 7, cells := 1, slots := 6, locals := 104 }) s zm ([.ref (a 0), .int (iI t), .int (iI c), .int (iI r), .int (iI w), .int (iI h), .int (iI sh)] : List Value).toArray zb zt zc H locs (0 + 1) (0 + 6) (vx_MQ zb (va_Qi (fun (r9 : Int32) (_ : Unit) => ((0 ≤ t ∧ t ≤ 4) ∧ (((0 ≤ c ∧ c ≤ 7) ∧ (0 ≤ r ∧ r ≤ 7)) ∧ (1 ≤ w ∧ w ≤ 8 - c) ∧ (1 ≤ h ∧ h ≤ 8 - r)) ∧ (0 ≤ sh ∧ sh ≤ 255)) ∧ r9 = iI ((pst (g 2) t c r w sh (w * h).toNat).2)) (fun _ t9 => (fun H => va_P D vwCl (xW a kk (updG g 2 (pst (g 2) t c r w sh (w * h).toNat).1)) H) t9.heap) (aA 17 a)) (vx_X (fun _ : Unit => True) (fun X _ _ => (fun X => X = "java/lang/IllegalArgumentException" ∧ ¬ ((0 ≤ t ∧ t ≤ 4) ∧ (((0 ≤ c ∧ c ≤ 7) ∧ (0 ≤ r ∧ r ≤ 7)) ∧ (1 ≤ w ∧ w ≤ 8 - c) ∧ (1 ≤ h ∧ h ≤ 8 - r)) ∧ (0 ≤ sh ∧ sh ≤ 255))) X) (fun _ => False)) ([.ref (a 0), .int (iI t), .int (iI c), .int (iI r), .int (iI w), .int (iI h), .int (iI sh)] : List Value).toArray s 1 6 (aA 17 a)) (F0 zm 51 ls []) := by
            intro n51
            induction n51 with
            | zero => intro ri k2 cn2 hri hk2 hcn2 hm; exact absurd hm (Nat.not_lt_zero _)
            | succ n51 ih51 =>
              intro ri k2 cn2 hri hk2 hcn2 hm51 H locs hP hS ls hl
              have hI2 : XInv (updG g 2 (pst (g 2) t c r w sh k2).1) := XInv_2 hI (pst_b hI.1 (by omega) k2)
              refine lv_iload hx hb dX3_paint_51 (lv_at hl 9 rfl) ?_
              refine lv_iload hx hb dX3_paint_53 (lv_at hl 4 rfl) ?_
              refine ri_icmp_ge (tgt := 91) hx hb (by omega) dX3_paint_55 (by decide) (fun c_2 => ?_) (fun c_2 => ?_)
              · skip
                refine ri_iinc (lv' := [(8, .int (iI (be + 1))), (0, .ref (a 0)), (1, .int (iI t)), (2, .int (iI c)), (3, .int (iI r)), (4, .int (iI w)), (5, .int (iI h)), (6, .int (iI sh)), (7, .int (iI cn2)), (9, .int (iI ri))]) hx hb dX3_paint_91 hl (k := 8) rfl (by decide) rfl (fun ls hl => ?_)
                refine lv_goto (tgt := 41) hx hb dX3_paint_94 (by decide) ?_
                exact ih41 (be + 1) (k2) (cn2) (by omega) (by rw [Int.add_mul]; omega) (hcn2) (by omega) _ _ (hP) hS ls (lv_sub hl [1, 2, 3, 4, 5, 6, 7, 8, 0] rfl)
              · skip
                refine lv_aload_n hx hb dX3_paint_58 rfl (lv_at hl 0 rfl) ?_
                refine va_get (D := D) (ci := 3) (v := .ref (a 1)) (C := RX3) (T := TX3) (N := 4) hx hb hts hinX3 hown hK hP 0 rfl rfl 0 (by decide) (hts _ (List.mem_of_getElem? (i := 1) rfl)) (fun _ h9 => h9) rfl dX3_paint_59 ?_
                refine lv_iload_n hx hb dX3_paint_62 rfl (lv_at hl 1 rfl) ?_
                refine ri_rd (ri_runS (As := [.int (iI t)]) (rest := [.ref (a 1)]) CF (k_X3_pictureSlot l t) gX3_paint_X3_pictureSlot f_X3_pictureSlot ⟨rfl, rfl, Nat.le_of_ble_eq_true rfl, Nat.le_of_ble_eq_true rfl, Nat.le_of_ble_eq_true rfl, Nat.le_of_ble_eq_true rfl⟩ tB_bl tB_in rfl hl.1 rfl (Nat.le_of_ble_eq_true rfl) dX3_paint_63) ?_
                refine lv_iload_n hx hb dX3_paint_66 rfl (lv_at hl 2 rfl) ?_
                refine lv_iload hx hb dX3_paint_67 (lv_at hl 9 rfl) ?_
                refine ri_iadd hx hb dX3_paint_69 ?_
                refine lv_iload_n hx hb dX3_paint_70 rfl (lv_at hl 3 rfl) ?_
                refine lv_iload hx hb dX3_paint_71 (lv_at hl 8 rfl) ?_
                refine ri_iadd hx hb dX3_paint_73 ?_
                refine lv_iload hx hb dX3_paint_74 (lv_at hl 6 rfl) ?_
                refine ri_wi (v := bp (¬ (updG g 2 (pst (g 2) t c r w sh k2).1) 2 (t * 64 + (r + be) * 8 + (c + ri)).toNat = sh)) (PP := fun H => va_P D vwCl (xW a kk (updG (updG g 2 (pst (g 2) t c r w sh k2).1) 2 (updI ((updG g 2 (pst (g 2) t c r w sh k2).1) 2) (t * 64 + (r + be) * 8 + (c + ri)).toNat sh))) H) (ri_runV (b := a 1) (As := [.int (iI t), .int (iI (c + ri)), .int (iI (r + be)), .int (iI sh)]) (rest := []) CF (k_X1_put l D a kk (updG g 2 (pst (g 2) t c r w sh k2).1) t (c + ri) (r + be) sh hA hI2 (by omega) (by omega) (by omega) (by omega)) gX3_paint_X1_put f_X1_put rfl (va_recv hK hP (ci := 1) (q0 := 1) rfl rfl) ⟨rfl, rfl, Nat.le_of_ble_eq_true rfl, Nat.le_of_ble_eq_true rfl, Nat.le_of_ble_eq_true rfl, Nat.le_of_ble_eq_true rfl⟩ wB_bl (wB_in hP hK hN) rfl hl.1 rfl (Nat.le_of_ble_eq_true rfl) dX3_paint_76) hS (fun _ h => h) (fun H locs hP _ hS => ?_)
                replace hP : va_P D vwCl (xW a kk (updG (updG g 2 (pst (g 2) t c r w sh k2).1) 2 (updI ((updG g 2 (pst (g 2) t c r w sh k2).1) 2) (t * 64 + (r + be) * 8 + (c + ri)).toNat sh))) H := hP
                replace hP : va_P D vwCl (xW a kk (updG g 2 (pst (g 2) t c r w sh (k2 + 1)).1)) H := by
                  rw [pst_s hk2 ⟨by omega, by omega⟩]
                  rw [updG_uu] at hP
                  exact hP
                refine ri_ifeq_b (tgt := 85) hx hb dX3_paint_79 (by decide) (fun h79 => ?_) (fun h79 => ?_)
                · skip
                  refine ri_iinc (lv' := [(9, .int (iI (ri + 1))), (0, .ref (a 0)), (1, .int (iI t)), (2, .int (iI c)), (3, .int (iI r)), (4, .int (iI w)), (5, .int (iI h)), (6, .int (iI sh)), (7, .int (iI cn2)), (8, .int (iI be))]) hx hb dX3_paint_85 hl (k := 9) rfl (by decide) rfl (fun ls hl => ?_)
                  refine lv_goto (tgt := 51) hx hb dX3_paint_88 (by decide) ?_
                  exact ih51 (ri + 1) (k2 + 1) (cn2) (by omega) (by omega) (by rw [pst_s hk2 ⟨by omega, by omega⟩]; show cn2 = (pst (g 2) t c r w sh k2).2 + bp (¬ (pst (g 2) t c r w sh k2).1 (t * 64 + (r + be) * 8 + (c + ri)).toNat = sh); rw [bp_f (P := ¬ (pst (g 2) t c r w sh k2).1 (t * 64 + (r + be) * 8 + (c + ri)).toNat = sh) h79, hcn2]; omega) (by omega) _ _ (hP) hS ls (lv_sub hl [1, 2, 3, 4, 5, 6, 7, 8, 9, 0] rfl)
                · skip
                  refine ri_iinc (lv' := [(7, .int (iI (cn2 + 1))), (0, .ref (a 0)), (1, .int (iI t)), (2, .int (iI c)), (3, .int (iI r)), (4, .int (iI w)), (5, .int (iI h)), (6, .int (iI sh)), (8, .int (iI be)), (9, .int (iI ri))]) hx hb dX3_paint_82 hl (k := 7) rfl (by decide) rfl (fun ls hl => ?_)
                  refine ri_iinc (lv' := [(9, .int (iI (ri + 1))), (7, .int (iI (cn2 + 1))), (0, .ref (a 0)), (1, .int (iI t)), (2, .int (iI c)), (3, .int (iI r)), (4, .int (iI w)), (5, .int (iI h)), (6, .int (iI sh)), (8, .int (iI be))]) hx hb dX3_paint_85 hl (k := 9) rfl (by decide) rfl (fun ls hl => ?_)
                  refine lv_goto (tgt := 51) hx hb dX3_paint_88 (by decide) ?_
                  exact ih51 (ri + 1) (k2 + 1) (cn2 + 1) (by omega) (by omega) (by rw [pst_s hk2 ⟨by omega, by omega⟩]; show cn2 + 1 = (pst (g 2) t c r w sh k2).2 + bp (¬ (pst (g 2) t c r w sh k2).1 (t * 64 + (r + be) * 8 + (c + ri)).toNat = sh); rw [bp_t (P := ¬ (pst (g 2) t c r w sh k2).1 (t * 64 + (r + be) * 8 + (c + ri)).toNat = sh) h79, hcn2]) (by omega) _ _ (hP) hS ls (lv_sub hl [2, 3, 4, 5, 6, 7, 8, 1, 9, 0] rfl)
          exact L51 (w.toNat + 1) (0) (k) (cn) (by omega) (by omega) (hcn) (by omega) _ _ hP hS ls (lv_sub hl [1, 2, 3, 4, 5, 6, 7, 8, 9, 0] rfl)
    exact L41 (h.toNat + 1) (0) (0) (0) (by omega) (by omega) (rfl) (by omega) _ _ hP hS ls (lv_sub hl [2, 3, 4, 5, 6, 7, 8, 1, 0] rfl)
  refine lv_iload_n hx hb dX3_paint_0 rfl (lv_at hl 1 rfl) ?_
  refine ri_rd (ri_runS (As := [.int (iI t)]) (rest := []) CF (k_X3_isTest l t (by omega)) gX3_paint_X3_isTest f_X3_isTest ⟨rfl, rfl, Nat.le_of_ble_eq_true rfl, Nat.le_of_ble_eq_true rfl, Nat.le_of_ble_eq_true rfl, Nat.le_of_ble_eq_true rfl⟩ tB_bl tB_in rfl hl.1 rfl (Nat.le_of_ble_eq_true rfl) dX3_paint_1) ?_
  refine ri_ifeq_b (tgt := 31) hx hb dX3_paint_4 (by decide) (fun h4 => ?_) (fun h4 => ?_)
  · skip
    refine ri_iconst hx hb dX3_paint_31 ?_
    exact ri_eq ((bp_f (fun q => h4 (q.1))).symm) J32
  · skip
    refine lv_iload_n hx hb dX3_paint_7 rfl (lv_at hl 2 rfl) ?_
    refine lv_iload_n hx hb dX3_paint_8 rfl (lv_at hl 3 rfl) ?_
    refine lv_iload hx hb dX3_paint_9 (lv_at hl 4 rfl) ?_
    refine lv_iload hx hb dX3_paint_11 (lv_at hl 5 rfl) ?_
    refine ri_rd (ri_runS (As := [.int (iI c), .int (iI r), .int (iI w), .int (iI h)]) (rest := []) CF (k_X3_isRectangle l c r w h (by omega) (by omega) (by omega) (by omega)) gX3_paint_X3_isRectangle f_X3_isRectangle ⟨rfl, rfl, Nat.le_of_ble_eq_true rfl, Nat.le_of_ble_eq_true rfl, Nat.le_of_ble_eq_true rfl, Nat.le_of_ble_eq_true rfl⟩ tB_bl tB_in rfl hl.1 rfl (Nat.le_of_ble_eq_true rfl) dX3_paint_13) ?_
    refine ri_ifeq_b (tgt := 31) hx hb dX3_paint_16 (by decide) (fun h16 => ?_) (fun h16 => ?_)
    · skip
      refine ri_iconst hx hb dX3_paint_31 ?_
      exact ri_eq ((bp_f (fun q => h16 (q.2.1))).symm) J32
    · skip
      refine lv_iload hx hb dX3_paint_19 (lv_at hl 6 rfl) ?_
      refine ri_rd (ri_runS (As := [.int (iI sh)]) (rest := []) CF (k_X3_isShade l sh (by omega)) gX3_paint_X3_isShade f_X3_isShade ⟨rfl, rfl, Nat.le_of_ble_eq_true rfl, Nat.le_of_ble_eq_true rfl, Nat.le_of_ble_eq_true rfl, Nat.le_of_ble_eq_true rfl⟩ tB_bl tB_in rfl hl.1 rfl (Nat.le_of_ble_eq_true rfl) dX3_paint_21) ?_
      refine ri_ifeq_b (tgt := 31) hx hb dX3_paint_24 (by decide) (fun h24 => ?_) (fun h24 => ?_)
      · skip
        refine ri_iconst hx hb dX3_paint_31 ?_
        exact ri_eq ((bp_f (fun q => h24 (q.2.2))).symm) J32
      · skip
        refine ri_iconst hx hb dX3_paint_27 ?_
        refine lv_goto (tgt := 32) hx hb dX3_paint_28 (by decide) ?_
        exact ri_eq ((bp_t ⟨h4, h16, h24⟩).symm) J32
