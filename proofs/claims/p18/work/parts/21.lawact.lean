/-! ===== what a number of the script says ===== -/
def acO (v : Int) : Prop := lwF (v / 16777216) 9 = 0
noncomputable def acT (v : Int) : Int := lwF (v / 16) (iteI (acO v) 6 2)
noncomputable def acB (v : Int) : Int := lwF (v / 128) (iteI (acO v) 6 4) - iteI (acO v) 1 0
noncomputable def acC (v : Int) : Int := lwF (v / 512) 8
noncomputable def acR (v : Int) : Int := lwF (v / 4096) 8
noncomputable def acW (v : Int) : Int := iteI (acO v) (lwF (v / 32768) 10) (1 + lwF (v / 32768) (8 - acC v))
noncomputable def acH (v : Int) : Int := iteI (acO v) (lwF (v / 262144) 10) (1 + lwF (v / 262144) (8 - acR v))
noncomputable def acS (v : Int) : Int := iteI (acO v) (lwF (v / 16) 260 - 2) (lwF (v / 1048576) 6 * 17)
noncomputable def acN (v : Int) : Int := lwF (v / 32768) 40
theorem acT_r (v : Int) : 0 ≤ acT v ∧ acT v ≤ 5 := by
  unfold acT
  by_cases h : acO v
  · rw [iteI_t h]; have := lwF_r (v / 16) (n := 6) (by omega); omega
  · rw [iteI_f h]; have := lwF_r (v / 16) (n := 2) (by omega); omega
theorem acB_r (v : Int) : -1 ≤ acB v ∧ acB v ≤ 5 := by
  unfold acB
  by_cases h : acO v
  · rw [iteI_t h, iteI_t h]; have := lwF_r (v / 128) (n := 6) (by omega); omega
  · rw [iteI_f h, iteI_f h]; have := lwF_r (v / 128) (n := 4) (by omega); omega
theorem acC_r (v : Int) : 0 ≤ acC v ∧ acC v ≤ 7 := by have := lwF_r (v / 512) (n := 8) (by omega); unfold acC; omega
theorem acR_r (v : Int) : 0 ≤ acR v ∧ acR v ≤ 7 := by have := lwF_r (v / 4096) (n := 8) (by omega); unfold acR; omega
theorem acW_r (v : Int) : 0 ≤ acW v ∧ acW v ≤ 9 := by
  have hC := acC_r v
  unfold acW
  by_cases h : acO v
  · rw [iteI_t h]; have := lwF_r (v / 32768) (n := 10) (by omega); omega
  · rw [iteI_f h]; have := lwF_r (v / 32768) (n := 8 - acC v) (by omega); omega
theorem acH_r (v : Int) : 0 ≤ acH v ∧ acH v ≤ 9 := by
  have hC := acR_r v
  unfold acH
  by_cases h : acO v
  · rw [iteI_t h]; have := lwF_r (v / 262144) (n := 10) (by omega); omega
  · rw [iteI_f h]; have := lwF_r (v / 262144) (n := 8 - acR v) (by omega); omega
theorem acS_r (v : Int) : -2 ≤ acS v ∧ acS v ≤ 257 := by
  unfold acS
  by_cases h : acO v
  · rw [iteI_t h]; have := lwF_r (v / 16) (n := 260) (by omega); omega
  · rw [iteI_f h]; have := lwF_r (v / 1048576) (n := 6) (by omega); omega
theorem acN_r (v : Int) : 0 ≤ acN v ∧ acN v ≤ 39 := by have := lwF_r (v / 32768) (n := 40) (by omega); unfold acN; omega
noncomputable def actR (g : Nat → Nat → Int) (v : Int) : Int := iteI (lwF v 14 ≤ 1) (apR g (acB v) (acT v)) (iteI (lwF v 14 = 2) (beR g (acB v)) (iteI (lwF v 14 = 3) (joR g (acB v)) (iteI (lwF v 14 = 4) (spR (acT v) (acC v) (acR v) (acW v) (acH v)) (iteI (lwF v 14 = 5) (smR g (acT v) (acC v - 4) (acR v - 4) (acW v) (acH v)) (iteI (lwF v 14 ≤ 7) (ruR g (acB v) (acT v) (acN v)) (paR g (acT v) (acC v) (acR v) (acW v) (acH v) (acS v)))))))
noncomputable def actG (g : Nat → Nat → Int) (v : Int) : Nat → Nat → Int := iteG (lwF v 14 ≤ 1) (apG g (acB v) (acT v)) (iteG (lwF v 14 = 2) (beG g (acB v)) (iteG (lwF v 14 = 3) (joG g (acB v)) (iteG (lwF v 14 = 4) (spG g (acT v) (acC v) (acR v) (acW v) (acH v)) (iteG (lwF v 14 = 5) (smG g (acT v) (acC v - 4) (acR v - 4) (acW v) (acH v)) (iteG (lwF v 14 ≤ 7) (ruG g (acB v) (acT v) (acN v)) (paG g (acT v) (acC v) (acR v) (acW v) (acH v) (acS v)))))))
theorem act_0 (g : Nat → Nat → Int) {v : Int} (h : lwF v 14 ≤ 1) : actR g v = apR g (acB v) (acT v) ∧ actG g v = apG g (acB v) (acT v) := by
  unfold actR actG; exact ⟨iteI_t h, iteG_t h⟩
theorem act_2 (g : Nat → Nat → Int) {v : Int} (h : lwF v 14 = 2) : actR g v = beR g (acB v) ∧ actG g v = beG g (acB v) := by
  unfold actR actG; rw [iteI_f (by omega), iteG_f (by omega)]; exact ⟨iteI_t h, iteG_t h⟩
theorem act_3 (g : Nat → Nat → Int) {v : Int} (h : lwF v 14 = 3) : actR g v = joR g (acB v) ∧ actG g v = joG g (acB v) := by
  unfold actR actG; rw [iteI_f (by omega), iteG_f (by omega), iteI_f (by omega), iteG_f (by omega)]; exact ⟨iteI_t h, iteG_t h⟩
theorem act_4 (g : Nat → Nat → Int) {v : Int} (h : lwF v 14 = 4) : actR g v = spR (acT v) (acC v) (acR v) (acW v) (acH v) ∧ actG g v = spG g (acT v) (acC v) (acR v) (acW v) (acH v) := by
  unfold actR actG; rw [iteI_f (by omega), iteG_f (by omega), iteI_f (by omega), iteG_f (by omega), iteI_f (by omega), iteG_f (by omega)]; exact ⟨iteI_t h, iteG_t h⟩
theorem act_5 (g : Nat → Nat → Int) {v : Int} (h : lwF v 14 = 5) : actR g v = smR g (acT v) (acC v - 4) (acR v - 4) (acW v) (acH v) ∧ actG g v = smG g (acT v) (acC v - 4) (acR v - 4) (acW v) (acH v) := by
  unfold actR actG; rw [iteI_f (by omega), iteG_f (by omega), iteI_f (by omega), iteG_f (by omega), iteI_f (by omega), iteG_f (by omega), iteI_f (by omega), iteG_f (by omega)]; exact ⟨iteI_t h, iteG_t h⟩
theorem act_6 (g : Nat → Nat → Int) {v : Int} (h : 6 ≤ lwF v 14 ∧ lwF v 14 ≤ 7) : actR g v = ruR g (acB v) (acT v) (acN v) ∧ actG g v = ruG g (acB v) (acT v) (acN v) := by
  unfold actR actG; rw [iteI_f (by omega), iteG_f (by omega), iteI_f (by omega), iteG_f (by omega), iteI_f (by omega), iteG_f (by omega), iteI_f (by omega), iteG_f (by omega), iteI_f (by omega), iteG_f (by omega)]; exact ⟨iteI_t h.2, iteG_t h.2⟩
theorem act_8 (g : Nat → Nat → Int) {v : Int} (h : 8 ≤ lwF v 14) : actR g v = paR g (acT v) (acC v) (acR v) (acW v) (acH v) (acS v) ∧ actG g v = paG g (acT v) (acC v) (acR v) (acW v) (acH v) (acS v) := by
  unfold actR actG; rw [iteI_f (by omega), iteG_f (by omega), iteI_f (by omega), iteG_f (by omega), iteI_f (by omega), iteG_f (by omega), iteI_f (by omega), iteG_f (by omega), iteI_f (by omega), iteG_f (by omega)]; exact ⟨iteI_f (by omega), iteG_f (by omega)⟩

theorem f_L_low : MF yL_low wsL_low cL_low 2 (some .int) 2 := ⟨⟨_, rfl⟩, by decide +kernel, by decide +kernel, by decide +kernel⟩
set_option maxHeartbeats 4000000 in
set_option maxRecDepth 100000 in
theorem k_L_low (l : Launch) (v : Int) (n : Int) (yv : -2147483648 ≤ v ∧ v < 2147483648) (yn : 0 < n ∧ n < 2147483648) : RD l yL_low wsL_low ({ frames := 0, cells := 0, slots := 0, locals := 0 }) [.int (iI v), .int (iI n)] tB (lwF v n) := by
  refine ri_ent (cc := cL_low) (maxL := 2) (ret := some .int) (by decide) rfl (Nat.le_of_ble_eq_true rfl) ?_
  intro zp ze s zm zb zt zc hx hb hr hts hown hlocks hml hin hB ls hl
  have hown : s.vm.findClass RL = some zm.cls := hown
  have CF : CallFix zp zm zc cL_low 2 s ([.int (iI v), .int (iI n)] : List Value).toArray wsL_low RL := ⟨hx, hb, hml, hown, hts⟩
  have hl : lv_has ls 2 [(0, .int (iI v)), (1, .int (iI n))] := hl
  refine lv_iload_n hx hb dL_low_0 rfl (lv_at hl 0 rfl) ?_
  refine lv_ldc (v := iI (2147483647)) hx hb hown (hts _ (List.mem_of_getElem? (i := 1) rfl)) dL_low_1 ?_
  refine lv_iand hx hb dL_low_3 ?_
  refine ri_rw (and_31 v) ?_
  refine lv_iload_n hx hb dL_low_4 rfl (lv_at hl 1 rfl) ?_
  refine ri_irem hx hb (by omega) dL_low_5 ?_
  exact ri_iret hx hb hr hlocks dL_low_6 (rfl)

theorem f_L_cell : MF yL_cell wsL_cell cL_cell 2 (some .int) 2 := ⟨⟨_, rfl⟩, by decide +kernel, by decide +kernel, by decide +kernel⟩
set_option maxHeartbeats 4000000 in
set_option maxRecDepth 100000 in
theorem k_L_cell (l : Launch) (b L : Nat) (xs : Nat → Int32) (k : Int) (hk : 0 ≤ k ∧ k < 100) (hL : L ≤ 260) : RD l yL_cell wsL_cell ({ frames := 0, cells := 0, slots := 0, locals := 0 }) [.ref b, .int (iI k)] (xB b L xs) (clV L xs k) := by
  refine ri_ent (cc := cL_cell) (maxL := 2) (ret := some .int) (by decide) rfl (Nat.le_of_ble_eq_true rfl) ?_
  intro zp ze s zm zb zt zc hx hb hr hts hown hlocks hml hin hB ls hl
  have hX : va_X b L xs s s.heap := hB
  have hbl : b < s.heap.size := by
    obtain ⟨scr, h1, -⟩ := hX
    exact (Array.getElem?_eq_some_iff.mp h1).1
  have hS : va_S (fun _ : Nat => False) s.heap s.heap [] := va_S.rf
  have hl : lv_has ls 2 [(0, .ref b), (1, .int (iI k))] := hl
  refine lv_iload_n hx hb dL_cell_0 rfl (lv_at hl 1 rfl) ?_
  refine lv_aload_n hx hb dL_cell_1 rfl (lv_at hl 0 rfl) ?_
  refine va_slen hx hb hX hbl (fun h => h) hS dL_cell_2 ?_
  refine ri_rw (y := (L : Int)) (iI_nI L) ?_
  refine ri_icmp_ge (tgt := 12) hx hb (by omega) dL_cell_3 (by decide) (fun h3 => ?_) (fun h3 => ?_)
  · refine ri_sipush hx hb dL_cell_12 (by decide) ?_
    refine lv_iload_n hx hb dL_cell_15 rfl (lv_at hl 1 rfl) ?_
    refine ri_sipush hx hb dL_cell_16 (by decide) ?_
    refine ri_iadd hx hb dL_cell_19 ?_
    refine ri_imul hx hb dL_cell_20 ?_
    refine lv_iload_n hx hb dL_cell_21 rfl (lv_at hl 1 rfl) ?_
    refine ri_sipush hx hb dL_cell_22 (by decide) ?_
    refine ri_iadd hx hb dL_cell_25 ?_
    refine ri_imul hx hb dL_cell_26 ?_
    refine ri_rw (y := clV L xs k) (by unfold clV; rw [if_neg (by omega), iI_of]) ?_
    exact ri_iret hx hb hr hlocks dL_cell_27 rfl
  · refine lv_aload_n hx hb dL_cell_6 rfl (lv_at hl 0 rfl) ?_
    refine lv_iload_n hx hb dL_cell_7 rfl (lv_at hl 1 rfl) ?_
    refine va_sld hx hb hX hbl (fun h => h) hS (iI_in (by omega) (by omega)) dL_cell_8 ?_
    refine lv_goto (tgt := 27) hx hb dL_cell_9 (by decide) ?_
    refine ri_rw (y := clV L xs k) (by unfold clV; rw [if_pos h3, iI_of, iI_cl (by omega)]) ?_
    exact ri_iret hx hb hr hlocks dL_cell_27 rfl

set_option maxHeartbeats 4000000 in
set_option maxRecDepth 100000 in
theorem k_L_act_o (l : Launch) (D : va_G) (a : Nat → Nat) (kk : Nat → ClassId) (g : Nat → Nat → Int) (sa : Nat → Nat) (N : Nat) (hst : l.stackTraces = false) (v : Int) (hA : aDs 17 a) (hI : XInv g) (yv : -2147483648 ≤ v ∧ v < 2147483648) (ho : acO v) : WI l yL_act wsL_act ({ frames := 10, cells := 2, slots := 12, locals := 200 }) [.ref (a 0), .int (iI v)] (qB sa D a kk g N) (actR g v) (fun H => va_P D vwCl (xW a kk (actG g v)) H ∧ N ≤ H.size) (aA 17 a) 2 12 := by
  refine ri_ent (cc := cL_act) (maxL := 9) (ret := some .int) (by decide) rfl (Nat.le_of_ble_eq_true rfl) ?_
  intro zp ze s zm zb zt zc hx hb hr hts hown hlocks hml hin hB ls hl
  have hown : s.vm.findClass RL = some zm.cls := hown
  have CF : CallFix zp zm zc cL_act 9 s ([.ref (a 0), .int (iI v)] : List Value).toArray wsL_act RL := ⟨hx, hb, hml, hown, hts⟩
  obtain ⟨hT, hP, hK, hN, hC, hz0⟩ := hB
  have rT := acT_r v
  have rB := acB_r v
  have rC := acC_r v
  have rR := acR_r v
  have rW := acW_r v
  have rH := acH_r v
  have rS := acS_r v
  have rN := acN_r v
  have hS : va_S (aA 17 a) s.heap s.heap [] := va_S.rf
  have hl : lv_has ls 9 [(0, .ref (a 0)), (1, .int (iI v))] := hl
  refine lv_iload_n hx hb dL_act_0 rfl (lv_at hl 1 rfl) ?_
  refine ri_bipush hx hb dL_act_1 (by decide) ?_
  refine ri_ishr hx hb (by omega) 24 (d := 16777216) (by decide) (by decide) dL_act_3 ?_
  refine ri_bipush hx hb dL_act_4 (by decide) ?_
  refine ri_rd (ri_runS (As := [.int (iI (v / 16777216)), .int (iI 9)]) (rest := []) CF (k_L_low l (v / 16777216) 9 (by omega) (by omega)) gL_act_L_low f_L_low ⟨rfl, rfl, Nat.le_of_ble_eq_true rfl, Nat.le_of_ble_eq_true rfl, Nat.le_of_ble_eq_true rfl, Nat.le_of_ble_eq_true rfl⟩ tB_bl tB_in rfl hl.1 rfl (Nat.le_of_ble_eq_true rfl) dL_act_6) ?_
  have f_1 := lwF_r (v / 16777216) (n := 9) (by omega)
  refine ri_if_ne (tgt := 16) hx hb (by omega) dL_act_9 (by decide) (fun h9 => ?_) (fun h9 => ?_)
  · skip
    exact absurd ho h9
  · skip
    refine ri_iconst hx hb dL_act_12 ?_
    refine lv_goto (tgt := 17) hx hb dL_act_13 (by decide) ?_
    refine lv_istore_n (lv' := [(2, .int (iI 1)), (0, .ref (a 0)), (1, .int (iI v))]) hx hb dL_act_17 rfl hl (by decide) rfl (fun ls hl => ?_)
    refine lv_iload_n hx hb dL_act_18 rfl (lv_at hl 2 rfl) ?_
    refine ri_iconst hx hb dL_act_19 ?_
    refine ri_ishr hx hb (by omega) 4 (d := 16) (by decide) (by decide) dL_act_20 ?_
    refine lv_iload_n hx hb dL_act_21 rfl (lv_at hl 0 rfl) ?_
    refine ri_if_eq (tgt := 30) hx hb (by omega) dL_act_22 (by decide) (fun c_2 => ?_) (fun c_2 => ?_)
    · skip
      exfalso; omega
    · skip
      refine ri_bipush hx hb dL_act_25 (by decide) ?_
      refine lv_goto (tgt := 31) hx hb dL_act_27 (by decide) ?_
      refine ri_rd (ri_runS (As := [.int (iI (v / 16)), .int (iI 6)]) (rest := []) CF (k_L_low l (v / 16) 6 (by omega) (by omega)) gL_act_L_low f_L_low ⟨rfl, rfl, Nat.le_of_ble_eq_true rfl, Nat.le_of_ble_eq_true rfl, Nat.le_of_ble_eq_true rfl, Nat.le_of_ble_eq_true rfl⟩ tB_bl tB_in rfl hl.1 rfl (Nat.le_of_ble_eq_true rfl) dL_act_31) ?_
      have f_3 := lwF_r (v / 16) (n := 6) (by omega)
      refine ri_eq (y := acT v) (by unfold acT; rw [iteI_t ho]) ?_
      refine lv_istore_n (lv' := [(3, .int (iI (acT v))), (2, .int (iI 1)), (0, .ref (a 0)), (1, .int (iI v))]) hx hb dL_act_34 rfl hl (by decide) rfl (fun ls hl => ?_)
      refine lv_iload_n hx hb dL_act_35 rfl (lv_at hl 3 rfl) ?_
      refine ri_bipush hx hb dL_act_36 (by decide) ?_
      refine ri_ishr hx hb (by omega) 7 (d := 128) (by decide) (by decide) dL_act_38 ?_
      refine lv_iload_n hx hb dL_act_39 rfl (lv_at hl 1 rfl) ?_
      refine ri_if_eq (tgt := 48) hx hb (by omega) dL_act_40 (by decide) (fun c_4 => ?_) (fun c_4 => ?_)
      · skip
        exfalso; omega
      · skip
        refine ri_bipush hx hb dL_act_43 (by decide) ?_
        refine lv_goto (tgt := 49) hx hb dL_act_45 (by decide) ?_
        refine ri_rd (ri_runS (As := [.int (iI (v / 128)), .int (iI 6)]) (rest := []) CF (k_L_low l (v / 128) 6 (by omega) (by omega)) gL_act_L_low f_L_low ⟨rfl, rfl, Nat.le_of_ble_eq_true rfl, Nat.le_of_ble_eq_true rfl, Nat.le_of_ble_eq_true rfl, Nat.le_of_ble_eq_true rfl⟩ tB_bl tB_in rfl hl.1 rfl (Nat.le_of_ble_eq_true rfl) dL_act_49) ?_
        have f_5 := lwF_r (v / 128) (n := 6) (by omega)
        refine lv_iload_n hx hb dL_act_52 rfl (lv_at hl 1 rfl) ?_
        refine ri_if_eq (tgt := 60) hx hb (by omega) dL_act_53 (by decide) (fun c_6 => ?_) (fun c_6 => ?_)
        · skip
          exfalso; omega
        · skip
          refine ri_iconst hx hb dL_act_56 ?_
          refine lv_goto (tgt := 61) hx hb dL_act_57 (by decide) ?_
          refine ri_isub hx hb dL_act_61 ?_
          refine ri_eq (y := acB v) (by unfold acB; rw [iteI_t ho, iteI_t ho]) ?_
          refine lv_istore (lv' := [(4, .int (iI (acB v))), (3, .int (iI (acT v))), (2, .int (iI 1)), (0, .ref (a 0)), (1, .int (iI v))]) hx hb dL_act_62 hl (by decide) rfl (fun ls hl => ?_)
          refine lv_iload_n hx hb dL_act_64 rfl (lv_at hl 4 rfl) ?_
          refine ri_bipush hx hb dL_act_65 (by decide) ?_
          refine ri_ishr hx hb (by omega) 9 (d := 512) (by decide) (by decide) dL_act_67 ?_
          refine ri_bipush hx hb dL_act_68 (by decide) ?_
          refine ri_rd (ri_runS (As := [.int (iI (v / 512)), .int (iI 8)]) (rest := []) CF (k_L_low l (v / 512) 8 (by omega) (by omega)) gL_act_L_low f_L_low ⟨rfl, rfl, Nat.le_of_ble_eq_true rfl, Nat.le_of_ble_eq_true rfl, Nat.le_of_ble_eq_true rfl, Nat.le_of_ble_eq_true rfl⟩ tB_bl tB_in rfl hl.1 rfl (Nat.le_of_ble_eq_true rfl) dL_act_70) ?_
          have f_7 := lwF_r (v / 512) (n := 8) (by omega)
          refine ri_eq (y := acC v) (rfl) ?_
          refine lv_istore (lv' := [(5, .int (iI (acC v))), (4, .int (iI (acB v))), (3, .int (iI (acT v))), (2, .int (iI 1)), (0, .ref (a 0)), (1, .int (iI v))]) hx hb dL_act_73 hl (by decide) rfl (fun ls hl => ?_)
          refine lv_iload_n hx hb dL_act_75 rfl (lv_at hl 5 rfl) ?_
          refine ri_bipush hx hb dL_act_76 (by decide) ?_
          refine ri_ishr hx hb (by omega) 12 (d := 4096) (by decide) (by decide) dL_act_78 ?_
          refine ri_bipush hx hb dL_act_79 (by decide) ?_
          refine ri_rd (ri_runS (As := [.int (iI (v / 4096)), .int (iI 8)]) (rest := []) CF (k_L_low l (v / 4096) 8 (by omega) (by omega)) gL_act_L_low f_L_low ⟨rfl, rfl, Nat.le_of_ble_eq_true rfl, Nat.le_of_ble_eq_true rfl, Nat.le_of_ble_eq_true rfl, Nat.le_of_ble_eq_true rfl⟩ tB_bl tB_in rfl hl.1 rfl (Nat.le_of_ble_eq_true rfl) dL_act_81) ?_
          have f_8 := lwF_r (v / 4096) (n := 8) (by omega)
          refine ri_eq (y := acR v) (rfl) ?_
          refine lv_istore (lv' := [(6, .int (iI (acR v))), (5, .int (iI (acC v))), (4, .int (iI (acB v))), (3, .int (iI (acT v))), (2, .int (iI 1)), (0, .ref (a 0)), (1, .int (iI v))]) hx hb dL_act_84 hl (by decide) rfl (fun ls hl => ?_)
          refine lv_iload_n hx hb dL_act_86 rfl (lv_at hl 4 rfl) ?_
          refine ri_if_eq (tgt := 102) hx hb (by omega) dL_act_87 (by decide) (fun c_9 => ?_) (fun c_9 => ?_)
          · skip
            exfalso; omega
          · skip
            refine lv_iload_n hx hb dL_act_90 rfl (lv_at hl 6 rfl) ?_
            refine ri_bipush hx hb dL_act_91 (by decide) ?_
            refine ri_ishr hx hb (by omega) 15 (d := 32768) (by decide) (by decide) dL_act_93 ?_
            refine ri_bipush hx hb dL_act_94 (by decide) ?_
            refine ri_rd (ri_runS (As := [.int (iI (v / 32768)), .int (iI 10)]) (rest := []) CF (k_L_low l (v / 32768) 10 (by omega) (by omega)) gL_act_L_low f_L_low ⟨rfl, rfl, Nat.le_of_ble_eq_true rfl, Nat.le_of_ble_eq_true rfl, Nat.le_of_ble_eq_true rfl, Nat.le_of_ble_eq_true rfl⟩ tB_bl tB_in rfl hl.1 rfl (Nat.le_of_ble_eq_true rfl) dL_act_96) ?_
            have f_10 := lwF_r (v / 32768) (n := 10) (by omega)
            refine ri_eq (y := acW v) (by unfold acW; rw [iteI_t ho]) ?_
            refine lv_goto (tgt := 116) hx hb dL_act_99 (by decide) ?_
            refine lv_istore (lv' := [(7, .int (iI (acW v))), (6, .int (iI (acR v))), (5, .int (iI (acC v))), (4, .int (iI (acB v))), (3, .int (iI (acT v))), (2, .int (iI 1)), (0, .ref (a 0)), (1, .int (iI v))]) hx hb dL_act_116 hl (by decide) rfl (fun ls hl => ?_)
            refine lv_iload_n hx hb dL_act_118 rfl (lv_at hl 5 rfl) ?_
            refine ri_if_eq (tgt := 134) hx hb (by omega) dL_act_119 (by decide) (fun c_11 => ?_) (fun c_11 => ?_)
            · skip
              exfalso; omega
            · skip
              refine lv_iload_n hx hb dL_act_122 rfl (lv_at hl 7 rfl) ?_
              refine ri_bipush hx hb dL_act_123 (by decide) ?_
              refine ri_ishr hx hb (by omega) 18 (d := 262144) (by decide) (by decide) dL_act_125 ?_
              refine ri_bipush hx hb dL_act_126 (by decide) ?_
              refine ri_rd (ri_runS (As := [.int (iI (v / 262144)), .int (iI 10)]) (rest := []) CF (k_L_low l (v / 262144) 10 (by omega) (by omega)) gL_act_L_low f_L_low ⟨rfl, rfl, Nat.le_of_ble_eq_true rfl, Nat.le_of_ble_eq_true rfl, Nat.le_of_ble_eq_true rfl, Nat.le_of_ble_eq_true rfl⟩ tB_bl tB_in rfl hl.1 rfl (Nat.le_of_ble_eq_true rfl) dL_act_128) ?_
              have f_12 := lwF_r (v / 262144) (n := 10) (by omega)
              refine ri_eq (y := acH v) (by unfold acH; rw [iteI_t ho]) ?_
              refine lv_goto (tgt := 148) hx hb dL_act_131 (by decide) ?_
              refine lv_istore (lv' := [(8, .int (iI (acH v))), (7, .int (iI (acW v))), (6, .int (iI (acR v))), (5, .int (iI (acC v))), (4, .int (iI (acB v))), (3, .int (iI (acT v))), (2, .int (iI 1)), (0, .ref (a 0)), (1, .int (iI v))]) hx hb dL_act_148 hl (by decide) rfl (fun ls hl => ?_)
              refine lv_iload_n hx hb dL_act_150 rfl (lv_at hl 8 rfl) ?_
              refine ri_bipush hx hb dL_act_151 (by decide) ?_
              refine ri_rd (ri_runS (As := [.int (iI v), .int (iI 14)]) (rest := []) CF (k_L_low l v 14 (by omega) (by omega)) gL_act_L_low f_L_low ⟨rfl, rfl, Nat.le_of_ble_eq_true rfl, Nat.le_of_ble_eq_true rfl, Nat.le_of_ble_eq_true rfl, Nat.le_of_ble_eq_true rfl⟩ tB_bl tB_in rfl hl.1 rfl (Nat.le_of_ble_eq_true rfl) dL_act_153) ?_
              have f_13 := lwF_r v (n := 14) (by omega)
              have r14 := lwF_r v (n := 14) (by omega)
              rcases (show lwF v 14 = 0 ∨ lwF v 14 = 1 ∨ lwF v 14 = 2 ∨ lwF v 14 = 3 ∨ lwF v 14 = 4 ∨ lwF v 14 = 5 ∨ lwF v 14 = 6 ∨ lwF v 14 = 7 ∨ 8 ≤ lwF v 14 by omega) with hk | hk | hk | hk | hk | hk | hk | hk | hk
              · skip
                refine ri_eq (y := 0) hk ?_
                refine lv_tableIn (off := 48) (tgt := 204) hx hb dL_act_156 (by decide) (by decide) (by decide) (by decide) ?_
                refine lv_aload_n hx hb dL_act_204 rfl (lv_at hl 7 rfl) ?_
                refine lv_iload hx hb dL_act_205 (lv_at hl 4 rfl) ?_
                refine lv_iload_n hx hb dL_act_207 rfl (lv_at hl 5 rfl) ?_
                refine ri_wz (v := apR g (acB v) (acT v)) (PP := (fun H => va_P D vwCl (xW a kk (apG g (acB v) (acT v))) H ∧ N ≤ H.size)) (vx_runSW (As := [.ref (a 0), .int (iI (acB v)), .int (iI (acT v))]) (rest := []) CF (kL_approve l D a kk g sa N hst (acB v) (acT v) hA hI (by omega) (by omega)) (vx_cwSW 3 hts gL_act_L_approve rfl rfl rfl ⟨by decide +kernel, by decide +kernel, by decide +kernel⟩ ⟨(Nat.le_of_ble_eq_true rfl), (Nat.le_of_ble_eq_true rfl)⟩) ⟨Bl_pc qB_bl, fun U hU hW9 => ⟨rfl, qB_in hS (fun _ h => h) hT hP hK hN hC hz0 U hU hW9⟩⟩ rfl rfl hl.1 rfl (lv_room (Nat.le_of_ble_eq_true rfl)) dL_act_208 ⟨(Nat.le_of_ble_eq_true rfl), (Nat.le_of_ble_eq_true rfl)⟩) hS (fun _ h => h) (fun H1 locs1 hB1 hz1 hk1 hS1 => ?_)
                refine W.widen (k := 2) (n := 12) (Nat.le_of_ble_eq_true rfl) (Nat.le_of_ble_eq_true rfl) ?_
                exact ri_iretW (A := aA 17 a) (PP := (fun H => va_P D vwCl (xW a kk (actG g v)) H ∧ N ≤ H.size)) hx hb hr hlocks hS1 (by rw [(act_0 g (v := v) (by omega)).2]; exact hB1) dL_act_211 (act_0 g (v := v) (by omega)).1.symm
              · skip
                refine ri_eq (y := 1) hk ?_
                refine lv_tableIn (off := 48) (tgt := 204) hx hb dL_act_156 (by decide) (by decide) (by decide) (by decide) ?_
                refine lv_aload_n hx hb dL_act_204 rfl (lv_at hl 7 rfl) ?_
                refine lv_iload hx hb dL_act_205 (lv_at hl 4 rfl) ?_
                refine lv_iload_n hx hb dL_act_207 rfl (lv_at hl 5 rfl) ?_
                refine ri_wz (v := apR g (acB v) (acT v)) (PP := (fun H => va_P D vwCl (xW a kk (apG g (acB v) (acT v))) H ∧ N ≤ H.size)) (vx_runSW (As := [.ref (a 0), .int (iI (acB v)), .int (iI (acT v))]) (rest := []) CF (kL_approve l D a kk g sa N hst (acB v) (acT v) hA hI (by omega) (by omega)) (vx_cwSW 3 hts gL_act_L_approve rfl rfl rfl ⟨by decide +kernel, by decide +kernel, by decide +kernel⟩ ⟨(Nat.le_of_ble_eq_true rfl), (Nat.le_of_ble_eq_true rfl)⟩) ⟨Bl_pc qB_bl, fun U hU hW9 => ⟨rfl, qB_in hS (fun _ h => h) hT hP hK hN hC hz0 U hU hW9⟩⟩ rfl rfl hl.1 rfl (lv_room (Nat.le_of_ble_eq_true rfl)) dL_act_208 ⟨(Nat.le_of_ble_eq_true rfl), (Nat.le_of_ble_eq_true rfl)⟩) hS (fun _ h => h) (fun H1 locs1 hB1 hz1 hk1 hS1 => ?_)
                refine W.widen (k := 2) (n := 12) (Nat.le_of_ble_eq_true rfl) (Nat.le_of_ble_eq_true rfl) ?_
                exact ri_iretW (A := aA 17 a) (PP := (fun H => va_P D vwCl (xW a kk (actG g v)) H ∧ N ≤ H.size)) hx hb hr hlocks hS1 (by rw [(act_0 g (v := v) (by omega)).2]; exact hB1) dL_act_211 (act_0 g (v := v) (by omega)).1.symm
              · skip
                refine ri_eq (y := 2) hk ?_
                refine lv_tableIn (off := 56) (tgt := 212) hx hb dL_act_156 (by decide) (by decide) (by decide) (by decide) ?_
                refine lv_aload_n hx hb dL_act_212 rfl (lv_at hl 7 rfl) ?_
                refine lv_iload hx hb dL_act_213 (lv_at hl 4 rfl) ?_
                refine ri_wz (v := beR g (acB v)) (PP := (fun H => va_P D vwCl (xW a kk (beG g (acB v))) H ∧ N ≤ H.size)) (vx_runSW (As := [.ref (a 0), .int (iI (acB v))]) (rest := []) CF (kL_begin l D a kk g sa N hst (acB v) hA hI (by omega)) (vx_cwSW 2 hts gL_act_L_begin rfl rfl rfl ⟨by decide +kernel, by decide +kernel, by decide +kernel⟩ ⟨(Nat.le_of_ble_eq_true rfl), (Nat.le_of_ble_eq_true rfl)⟩) ⟨Bl_pc qB_bl, fun U hU hW9 => ⟨rfl, qB_in hS (fun _ h => h) hT hP hK hN hC hz0 U hU hW9⟩⟩ rfl rfl hl.1 rfl (lv_room (Nat.le_of_ble_eq_true rfl)) dL_act_215 ⟨(Nat.le_of_ble_eq_true rfl), (Nat.le_of_ble_eq_true rfl)⟩) hS (fun _ h => h) (fun H1 locs1 hB1 hz1 hk1 hS1 => ?_)
                refine W.widen (k := 2) (n := 12) (Nat.le_of_ble_eq_true rfl) (Nat.le_of_ble_eq_true rfl) ?_
                exact ri_iretW (A := aA 17 a) (PP := (fun H => va_P D vwCl (xW a kk (actG g v)) H ∧ N ≤ H.size)) hx hb hr hlocks hS1 (by rw [(act_2 g hk).2]; exact hB1) dL_act_218 (act_2 g hk).1.symm
              · skip
                refine ri_eq (y := 3) hk ?_
                refine lv_tableIn (off := 63) (tgt := 219) hx hb dL_act_156 (by decide) (by decide) (by decide) (by decide) ?_
                refine lv_aload_n hx hb dL_act_219 rfl (lv_at hl 7 rfl) ?_
                refine lv_iload hx hb dL_act_220 (lv_at hl 4 rfl) ?_
                refine ri_wz (v := joR g (acB v)) (PP := (fun H => va_P D vwCl (xW a kk (joG g (acB v))) H ∧ N ≤ H.size)) (vx_runSW (As := [.ref (a 0), .int (iI (acB v))]) (rest := []) CF (kL_join l D a kk g sa N hst (acB v) hA hI (by omega)) (vx_cwSW 2 hts gL_act_L_join rfl rfl rfl ⟨by decide +kernel, by decide +kernel, by decide +kernel⟩ ⟨(Nat.le_of_ble_eq_true rfl), (Nat.le_of_ble_eq_true rfl)⟩) ⟨Bl_pc qB_bl, fun U hU hW9 => ⟨rfl, qB_in hS (fun _ h => h) hT hP hK hN hC hz0 U hU hW9⟩⟩ rfl rfl hl.1 rfl (lv_room (Nat.le_of_ble_eq_true rfl)) dL_act_222 ⟨(Nat.le_of_ble_eq_true rfl), (Nat.le_of_ble_eq_true rfl)⟩) hS (fun _ h => h) (fun H1 locs1 hB1 hz1 hk1 hS1 => ?_)
                refine W.widen (k := 2) (n := 12) (Nat.le_of_ble_eq_true rfl) (Nat.le_of_ble_eq_true rfl) ?_
                exact ri_iretW (A := aA 17 a) (PP := (fun H => va_P D vwCl (xW a kk (actG g v)) H ∧ N ≤ H.size)) hx hb hr hlocks hS1 (by rw [(act_3 g hk).2]; exact hB1) dL_act_225 (act_3 g hk).1.symm
              · skip
                refine ri_eq (y := 4) hk ?_
                refine lv_tableIn (off := 70) (tgt := 226) hx hb dL_act_156 (by decide) (by decide) (by decide) (by decide) ?_
                refine lv_aload_n hx hb dL_act_226 rfl (lv_at hl 7 rfl) ?_
                refine lv_iload_n hx hb dL_act_227 rfl (lv_at hl 5 rfl) ?_
                refine lv_iload hx hb dL_act_228 (lv_at hl 3 rfl) ?_
                refine lv_iload hx hb dL_act_230 (lv_at hl 2 rfl) ?_
                refine lv_iload hx hb dL_act_232 (lv_at hl 1 rfl) ?_
                refine lv_iload hx hb dL_act_234 (lv_at hl 0 rfl) ?_
                refine ri_wz (v := spR (acT v) (acC v) (acR v) (acW v) (acH v)) (PP := (fun H => va_P D vwCl (xW a kk (spG g (acT v) (acC v) (acR v) (acW v) (acH v))) H ∧ N ≤ H.size)) (vx_runSW (As := [.ref (a 0), .int (iI (acT v)), .int (iI (acC v)), .int (iI (acR v)), .int (iI (acW v)), .int (iI (acH v))]) (rest := []) CF (kL_setPart l D a kk g sa N hst (acT v) (acC v) (acR v) (acW v) (acH v) hA hI (by omega) (by omega) (by omega) (by omega) (by omega)) (vx_cwSW 6 hts gL_act_L_setPart rfl rfl rfl ⟨by decide +kernel, by decide +kernel, by decide +kernel⟩ ⟨(Nat.le_of_ble_eq_true rfl), (Nat.le_of_ble_eq_true rfl)⟩) ⟨Bl_pc qB_bl, fun U hU hW9 => ⟨rfl, qB_in hS (fun _ h => h) hT hP hK hN hC hz0 U hU hW9⟩⟩ rfl rfl hl.1 rfl (lv_room (Nat.le_of_ble_eq_true rfl)) dL_act_236 ⟨(Nat.le_of_ble_eq_true rfl), (Nat.le_of_ble_eq_true rfl)⟩) hS (fun _ h => h) (fun H1 locs1 hB1 hz1 hk1 hS1 => ?_)
                refine W.widen (k := 2) (n := 12) (Nat.le_of_ble_eq_true rfl) (Nat.le_of_ble_eq_true rfl) ?_
                exact ri_iretW (A := aA 17 a) (PP := (fun H => va_P D vwCl (xW a kk (actG g v)) H ∧ N ≤ H.size)) hx hb hr hlocks hS1 (by rw [(act_4 g hk).2]; exact hB1) dL_act_239 (act_4 g hk).1.symm
              · skip
                refine ri_eq (y := 5) hk ?_
                refine lv_tableIn (off := 84) (tgt := 240) hx hb dL_act_156 (by decide) (by decide) (by decide) (by decide) ?_
                refine lv_aload_n hx hb dL_act_240 rfl (lv_at hl 7 rfl) ?_
                refine lv_iload_n hx hb dL_act_241 rfl (lv_at hl 5 rfl) ?_
                refine lv_iload hx hb dL_act_242 (lv_at hl 3 rfl) ?_
                refine ri_iconst hx hb dL_act_244 ?_
                refine ri_isub hx hb dL_act_245 ?_
                refine lv_iload hx hb dL_act_246 (lv_at hl 2 rfl) ?_
                refine ri_iconst hx hb dL_act_248 ?_
                refine ri_isub hx hb dL_act_249 ?_
                refine lv_iload hx hb dL_act_250 (lv_at hl 1 rfl) ?_
                refine lv_iload hx hb dL_act_252 (lv_at hl 0 rfl) ?_
                refine ri_wz (v := smR g (acT v) ((acC v) - 4) ((acR v) - 4) (acW v) (acH v)) (PP := (fun H => va_P D vwCl (xW a kk (smG g (acT v) ((acC v) - 4) ((acR v) - 4) (acW v) (acH v))) H ∧ N ≤ H.size)) (vx_runSW (As := [.ref (a 0), .int (iI (acT v)), .int (iI ((acC v) - 4)), .int (iI ((acR v) - 4)), .int (iI (acW v)), .int (iI (acH v))]) (rest := []) CF (kL_setMask l D a kk g sa N hst (acT v) ((acC v) - 4) ((acR v) - 4) (acW v) (acH v) hA hI (by omega) (by omega) (by omega) (by omega) (by omega)) (vx_cwSW 6 hts gL_act_L_setMask rfl rfl rfl ⟨by decide +kernel, by decide +kernel, by decide +kernel⟩ ⟨(Nat.le_of_ble_eq_true rfl), (Nat.le_of_ble_eq_true rfl)⟩) ⟨Bl_pc qB_bl, fun U hU hW9 => ⟨rfl, qB_in hS (fun _ h => h) hT hP hK hN hC hz0 U hU hW9⟩⟩ rfl rfl hl.1 rfl (lv_room (Nat.le_of_ble_eq_true rfl)) dL_act_254 ⟨(Nat.le_of_ble_eq_true rfl), (Nat.le_of_ble_eq_true rfl)⟩) hS (fun _ h => h) (fun H1 locs1 hB1 hz1 hk1 hS1 => ?_)
                refine W.widen (k := 2) (n := 12) (Nat.le_of_ble_eq_true rfl) (Nat.le_of_ble_eq_true rfl) ?_
                exact ri_iretW (A := aA 17 a) (PP := (fun H => va_P D vwCl (xW a kk (actG g v)) H ∧ N ≤ H.size)) hx hb hr hlocks hS1 (by rw [(act_5 g hk).2]; exact hB1) dL_act_257 (act_5 g hk).1.symm
              · skip
                refine ri_eq (y := 6) hk ?_
                refine lv_tableIn (off := 102) (tgt := 258) hx hb dL_act_156 (by decide) (by decide) (by decide) (by decide) ?_
                refine lv_aload_n hx hb dL_act_258 rfl (lv_at hl 7 rfl) ?_
                refine lv_iload hx hb dL_act_259 (lv_at hl 4 rfl) ?_
                refine lv_iload_n hx hb dL_act_261 rfl (lv_at hl 5 rfl) ?_
                refine lv_iload_n hx hb dL_act_262 rfl (lv_at hl 8 rfl) ?_
                refine ri_bipush hx hb dL_act_263 (by decide) ?_
                refine ri_ishr hx hb (by omega) 15 (d := 32768) (by decide) (by decide) dL_act_265 ?_
                refine ri_bipush hx hb dL_act_266 (by decide) ?_
                refine ri_rd (ri_runS (As := [.int (iI (v / 32768)), .int (iI 40)]) (rest := [.int (iI (acT v)), .int (iI (acB v)), .ref (a 0)]) CF (k_L_low l (v / 32768) 40 (by omega) (by omega)) gL_act_L_low f_L_low ⟨rfl, rfl, Nat.le_of_ble_eq_true rfl, Nat.le_of_ble_eq_true rfl, Nat.le_of_ble_eq_true rfl, Nat.le_of_ble_eq_true rfl⟩ tB_bl tB_in rfl hl.1 rfl (Nat.le_of_ble_eq_true rfl) dL_act_268) ?_
                have f_14 := lwF_r (v / 32768) (n := 40) (by omega)
                refine ri_eq (y := acN v) (rfl) ?_
                refine ri_wz (v := ruR g (acB v) (acT v) (acN v)) (PP := (fun H => va_P D vwCl (xW a kk (ruG g (acB v) (acT v) (acN v))) H ∧ N ≤ H.size)) (vx_runSW (As := [.ref (a 0), .int (iI (acB v)), .int (iI (acT v)), .int (iI (acN v))]) (rest := []) CF (kL_run l D a kk g sa N hst (acB v) (acT v) (acN v) hA hI (by omega) (by omega) (by omega)) (vx_cwSW 4 hts gL_act_L_run rfl rfl rfl ⟨by decide +kernel, by decide +kernel, by decide +kernel⟩ ⟨(Nat.le_of_ble_eq_true rfl), (Nat.le_of_ble_eq_true rfl)⟩) ⟨Bl_pc qB_bl, fun U hU hW9 => ⟨rfl, qB_in hS (fun _ h => h) hT hP hK hN hC hz0 U hU hW9⟩⟩ rfl rfl hl.1 rfl (lv_room (Nat.le_of_ble_eq_true rfl)) dL_act_271 ⟨(Nat.le_of_ble_eq_true rfl), (Nat.le_of_ble_eq_true rfl)⟩) hS (fun _ h => h) (fun H1 locs1 hB1 hz1 hk1 hS1 => ?_)
                refine W.widen (k := 2) (n := 12) (Nat.le_of_ble_eq_true rfl) (Nat.le_of_ble_eq_true rfl) ?_
                exact ri_iretW (A := aA 17 a) (PP := (fun H => va_P D vwCl (xW a kk (actG g v)) H ∧ N ≤ H.size)) hx hb hr hlocks hS1 (by rw [(act_6 g (v := v) (by omega)).2]; exact hB1) dL_act_274 (act_6 g (v := v) (by omega)).1.symm
              · skip
                refine ri_eq (y := 7) hk ?_
                refine lv_tableIn (off := 102) (tgt := 258) hx hb dL_act_156 (by decide) (by decide) (by decide) (by decide) ?_
                refine lv_aload_n hx hb dL_act_258 rfl (lv_at hl 7 rfl) ?_
                refine lv_iload hx hb dL_act_259 (lv_at hl 4 rfl) ?_
                refine lv_iload_n hx hb dL_act_261 rfl (lv_at hl 5 rfl) ?_
                refine lv_iload_n hx hb dL_act_262 rfl (lv_at hl 8 rfl) ?_
                refine ri_bipush hx hb dL_act_263 (by decide) ?_
                refine ri_ishr hx hb (by omega) 15 (d := 32768) (by decide) (by decide) dL_act_265 ?_
                refine ri_bipush hx hb dL_act_266 (by decide) ?_
                refine ri_rd (ri_runS (As := [.int (iI (v / 32768)), .int (iI 40)]) (rest := [.int (iI (acT v)), .int (iI (acB v)), .ref (a 0)]) CF (k_L_low l (v / 32768) 40 (by omega) (by omega)) gL_act_L_low f_L_low ⟨rfl, rfl, Nat.le_of_ble_eq_true rfl, Nat.le_of_ble_eq_true rfl, Nat.le_of_ble_eq_true rfl, Nat.le_of_ble_eq_true rfl⟩ tB_bl tB_in rfl hl.1 rfl (Nat.le_of_ble_eq_true rfl) dL_act_268) ?_
                have f_15 := lwF_r (v / 32768) (n := 40) (by omega)
                refine ri_eq (y := acN v) (rfl) ?_
                refine ri_wz (v := ruR g (acB v) (acT v) (acN v)) (PP := (fun H => va_P D vwCl (xW a kk (ruG g (acB v) (acT v) (acN v))) H ∧ N ≤ H.size)) (vx_runSW (As := [.ref (a 0), .int (iI (acB v)), .int (iI (acT v)), .int (iI (acN v))]) (rest := []) CF (kL_run l D a kk g sa N hst (acB v) (acT v) (acN v) hA hI (by omega) (by omega) (by omega)) (vx_cwSW 4 hts gL_act_L_run rfl rfl rfl ⟨by decide +kernel, by decide +kernel, by decide +kernel⟩ ⟨(Nat.le_of_ble_eq_true rfl), (Nat.le_of_ble_eq_true rfl)⟩) ⟨Bl_pc qB_bl, fun U hU hW9 => ⟨rfl, qB_in hS (fun _ h => h) hT hP hK hN hC hz0 U hU hW9⟩⟩ rfl rfl hl.1 rfl (lv_room (Nat.le_of_ble_eq_true rfl)) dL_act_271 ⟨(Nat.le_of_ble_eq_true rfl), (Nat.le_of_ble_eq_true rfl)⟩) hS (fun _ h => h) (fun H1 locs1 hB1 hz1 hk1 hS1 => ?_)
                refine W.widen (k := 2) (n := 12) (Nat.le_of_ble_eq_true rfl) (Nat.le_of_ble_eq_true rfl) ?_
                exact ri_iretW (A := aA 17 a) (PP := (fun H => va_P D vwCl (xW a kk (actG g v)) H ∧ N ≤ H.size)) hx hb hr hlocks hS1 (by rw [(act_6 g (v := v) (by omega)).2]; exact hB1) dL_act_274 (act_6 g (v := v) (by omega)).1.symm
              · skip
                refine lv_tableOut (tgt := 275) hx hb dL_act_156 (Or.inr (by rw [iI_toInt (by omega)]; omega)) (by decide) ?_
                refine lv_aload_n hx hb dL_act_275 rfl (lv_at hl 7 rfl) ?_
                refine lv_iload_n hx hb dL_act_276 rfl (lv_at hl 5 rfl) ?_
                refine lv_iload hx hb dL_act_277 (lv_at hl 3 rfl) ?_
                refine lv_iload hx hb dL_act_279 (lv_at hl 2 rfl) ?_
                refine lv_iload hx hb dL_act_281 (lv_at hl 1 rfl) ?_
                refine lv_iload hx hb dL_act_283 (lv_at hl 0 rfl) ?_
                refine lv_iload_n hx hb dL_act_285 rfl (lv_at hl 6 rfl) ?_
                refine ri_if_eq (tgt := 303) hx hb (by omega) dL_act_286 (by decide) (fun c_16 => ?_) (fun c_16 => ?_)
                · skip
                  exfalso; omega
                · skip
                  refine lv_iload_n hx hb dL_act_289 rfl (lv_at hl 8 rfl) ?_
                  refine ri_iconst hx hb dL_act_290 ?_
                  refine ri_ishr hx hb (by omega) 4 (d := 16) (by decide) (by decide) dL_act_291 ?_
                  refine ri_sipush hx hb dL_act_292 (by decide) ?_
                  refine ri_rd (ri_runS (As := [.int (iI (v / 16)), .int (iI 260)]) (rest := [.int (iI (acH v)), .int (iI (acW v)), .int (iI (acR v)), .int (iI (acC v)), .int (iI (acT v)), .ref (a 0)]) CF (k_L_low l (v / 16) 260 (by omega) (by omega)) gL_act_L_low f_L_low ⟨rfl, rfl, Nat.le_of_ble_eq_true rfl, Nat.le_of_ble_eq_true rfl, Nat.le_of_ble_eq_true rfl, Nat.le_of_ble_eq_true rfl⟩ tB_bl tB_in rfl hl.1 rfl (Nat.le_of_ble_eq_true rfl) dL_act_295) ?_
                  have f_17 := lwF_r (v / 16) (n := 260) (by omega)
                  refine ri_iconst hx hb dL_act_298 ?_
                  refine ri_isub hx hb dL_act_299 ?_
                  refine ri_eq (y := acS v) (by unfold acS; rw [iteI_t ho]) ?_
                  refine lv_goto (tgt := 315) hx hb dL_act_300 (by decide) ?_
                  refine ri_wz (v := paR g (acT v) (acC v) (acR v) (acW v) (acH v) (acS v)) (PP := (fun H => va_P D vwCl (xW a kk (paG g (acT v) (acC v) (acR v) (acW v) (acH v) (acS v))) H ∧ N ≤ H.size)) (vx_runSW (As := [.ref (a 0), .int (iI (acT v)), .int (iI (acC v)), .int (iI (acR v)), .int (iI (acW v)), .int (iI (acH v)), .int (iI (acS v))]) (rest := []) CF (kL_paint l D a kk g sa N hst (acT v) (acC v) (acR v) (acW v) (acH v) (acS v) hA hI (by omega) (by omega) (by omega) (by omega) (by omega) (by omega)) (vx_cwSW 7 hts gL_act_L_paint rfl rfl rfl ⟨by decide +kernel, by decide +kernel, by decide +kernel⟩ ⟨(Nat.le_of_ble_eq_true rfl), (Nat.le_of_ble_eq_true rfl)⟩) ⟨Bl_pc qB_bl, fun U hU hW9 => ⟨rfl, qB_in hS (fun _ h => h) hT hP hK hN hC hz0 U hU hW9⟩⟩ rfl rfl hl.1 rfl (lv_room (Nat.le_of_ble_eq_true rfl)) dL_act_315 ⟨(Nat.le_of_ble_eq_true rfl), (Nat.le_of_ble_eq_true rfl)⟩) hS (fun _ h => h) (fun H1 locs1 hB1 hz1 hk1 hS1 => ?_)
                  refine W.widen (k := 2) (n := 12) (Nat.le_of_ble_eq_true rfl) (Nat.le_of_ble_eq_true rfl) ?_
                  exact ri_iretW (A := aA 17 a) (PP := (fun H => va_P D vwCl (xW a kk (actG g v)) H ∧ N ≤ H.size)) hx hb hr hlocks hS1 (by rw [(act_8 g (v := v) hk).2]; exact hB1) dL_act_318 (act_8 g (v := v) hk).1.symm

set_option maxHeartbeats 4000000 in
set_option maxRecDepth 100000 in
theorem k_L_act_e (l : Launch) (D : va_G) (a : Nat → Nat) (kk : Nat → ClassId) (g : Nat → Nat → Int) (sa : Nat → Nat) (N : Nat) (hst : l.stackTraces = false) (v : Int) (hA : aDs 17 a) (hI : XInv g) (yv : -2147483648 ≤ v ∧ v < 2147483648) (ho : ¬ acO v) : WI l yL_act wsL_act ({ frames := 10, cells := 2, slots := 12, locals := 200 }) [.ref (a 0), .int (iI v)] (qB sa D a kk g N) (actR g v) (fun H => va_P D vwCl (xW a kk (actG g v)) H ∧ N ≤ H.size) (aA 17 a) 2 12 := by
  refine ri_ent (cc := cL_act) (maxL := 9) (ret := some .int) (by decide) rfl (Nat.le_of_ble_eq_true rfl) ?_
  intro zp ze s zm zb zt zc hx hb hr hts hown hlocks hml hin hB ls hl
  have hown : s.vm.findClass RL = some zm.cls := hown
  have CF : CallFix zp zm zc cL_act 9 s ([.ref (a 0), .int (iI v)] : List Value).toArray wsL_act RL := ⟨hx, hb, hml, hown, hts⟩
  obtain ⟨hT, hP, hK, hN, hC, hz0⟩ := hB
  have rT := acT_r v
  have rB := acB_r v
  have rC := acC_r v
  have rR := acR_r v
  have rW := acW_r v
  have rH := acH_r v
  have rS := acS_r v
  have rN := acN_r v
  have hS : va_S (aA 17 a) s.heap s.heap [] := va_S.rf
  have hl : lv_has ls 9 [(0, .ref (a 0)), (1, .int (iI v))] := hl
  refine lv_iload_n hx hb dL_act_0 rfl (lv_at hl 1 rfl) ?_
  refine ri_bipush hx hb dL_act_1 (by decide) ?_
  refine ri_ishr hx hb (by omega) 24 (d := 16777216) (by decide) (by decide) dL_act_3 ?_
  refine ri_bipush hx hb dL_act_4 (by decide) ?_
  refine ri_rd (ri_runS (As := [.int (iI (v / 16777216)), .int (iI 9)]) (rest := []) CF (k_L_low l (v / 16777216) 9 (by omega) (by omega)) gL_act_L_low f_L_low ⟨rfl, rfl, Nat.le_of_ble_eq_true rfl, Nat.le_of_ble_eq_true rfl, Nat.le_of_ble_eq_true rfl, Nat.le_of_ble_eq_true rfl⟩ tB_bl tB_in rfl hl.1 rfl (Nat.le_of_ble_eq_true rfl) dL_act_6) ?_
  have f_1 := lwF_r (v / 16777216) (n := 9) (by omega)
  refine ri_if_ne (tgt := 16) hx hb (by omega) dL_act_9 (by decide) (fun h9 => ?_) (fun h9 => ?_)
  · skip
    refine ri_iconst hx hb dL_act_16 ?_
    refine lv_istore_n (lv' := [(2, .int (iI 0)), (0, .ref (a 0)), (1, .int (iI v))]) hx hb dL_act_17 rfl hl (by decide) rfl (fun ls hl => ?_)
    refine lv_iload_n hx hb dL_act_18 rfl (lv_at hl 2 rfl) ?_
    refine ri_iconst hx hb dL_act_19 ?_
    refine ri_ishr hx hb (by omega) 4 (d := 16) (by decide) (by decide) dL_act_20 ?_
    refine lv_iload_n hx hb dL_act_21 rfl (lv_at hl 0 rfl) ?_
    refine ri_if_eq (tgt := 30) hx hb (by omega) dL_act_22 (by decide) (fun c_2 => ?_) (fun c_2 => ?_)
    · skip
      refine ri_iconst hx hb dL_act_30 ?_
      refine ri_rd (ri_runS (As := [.int (iI (v / 16)), .int (iI 2)]) (rest := []) CF (k_L_low l (v / 16) 2 (by omega) (by omega)) gL_act_L_low f_L_low ⟨rfl, rfl, Nat.le_of_ble_eq_true rfl, Nat.le_of_ble_eq_true rfl, Nat.le_of_ble_eq_true rfl, Nat.le_of_ble_eq_true rfl⟩ tB_bl tB_in rfl hl.1 rfl (Nat.le_of_ble_eq_true rfl) dL_act_31) ?_
      have f_3 := lwF_r (v / 16) (n := 2) (by omega)
      refine ri_eq (y := acT v) (by unfold acT; rw [iteI_f ho]) ?_
      refine lv_istore_n (lv' := [(3, .int (iI (acT v))), (2, .int (iI 0)), (0, .ref (a 0)), (1, .int (iI v))]) hx hb dL_act_34 rfl hl (by decide) rfl (fun ls hl => ?_)
      refine lv_iload_n hx hb dL_act_35 rfl (lv_at hl 3 rfl) ?_
      refine ri_bipush hx hb dL_act_36 (by decide) ?_
      refine ri_ishr hx hb (by omega) 7 (d := 128) (by decide) (by decide) dL_act_38 ?_
      refine lv_iload_n hx hb dL_act_39 rfl (lv_at hl 1 rfl) ?_
      refine ri_if_eq (tgt := 48) hx hb (by omega) dL_act_40 (by decide) (fun c_4 => ?_) (fun c_4 => ?_)
      · skip
        refine ri_iconst hx hb dL_act_48 ?_
        refine ri_rd (ri_runS (As := [.int (iI (v / 128)), .int (iI 4)]) (rest := []) CF (k_L_low l (v / 128) 4 (by omega) (by omega)) gL_act_L_low f_L_low ⟨rfl, rfl, Nat.le_of_ble_eq_true rfl, Nat.le_of_ble_eq_true rfl, Nat.le_of_ble_eq_true rfl, Nat.le_of_ble_eq_true rfl⟩ tB_bl tB_in rfl hl.1 rfl (Nat.le_of_ble_eq_true rfl) dL_act_49) ?_
        have f_5 := lwF_r (v / 128) (n := 4) (by omega)
        refine lv_iload_n hx hb dL_act_52 rfl (lv_at hl 1 rfl) ?_
        refine ri_if_eq (tgt := 60) hx hb (by omega) dL_act_53 (by decide) (fun c_6 => ?_) (fun c_6 => ?_)
        · skip
          refine ri_iconst hx hb dL_act_60 ?_
          refine ri_isub hx hb dL_act_61 ?_
          refine ri_eq (y := acB v) (by unfold acB; rw [iteI_f ho, iteI_f ho]) ?_
          refine lv_istore (lv' := [(4, .int (iI (acB v))), (3, .int (iI (acT v))), (2, .int (iI 0)), (0, .ref (a 0)), (1, .int (iI v))]) hx hb dL_act_62 hl (by decide) rfl (fun ls hl => ?_)
          refine lv_iload_n hx hb dL_act_64 rfl (lv_at hl 4 rfl) ?_
          refine ri_bipush hx hb dL_act_65 (by decide) ?_
          refine ri_ishr hx hb (by omega) 9 (d := 512) (by decide) (by decide) dL_act_67 ?_
          refine ri_bipush hx hb dL_act_68 (by decide) ?_
          refine ri_rd (ri_runS (As := [.int (iI (v / 512)), .int (iI 8)]) (rest := []) CF (k_L_low l (v / 512) 8 (by omega) (by omega)) gL_act_L_low f_L_low ⟨rfl, rfl, Nat.le_of_ble_eq_true rfl, Nat.le_of_ble_eq_true rfl, Nat.le_of_ble_eq_true rfl, Nat.le_of_ble_eq_true rfl⟩ tB_bl tB_in rfl hl.1 rfl (Nat.le_of_ble_eq_true rfl) dL_act_70) ?_
          have f_7 := lwF_r (v / 512) (n := 8) (by omega)
          refine ri_eq (y := acC v) (rfl) ?_
          refine lv_istore (lv' := [(5, .int (iI (acC v))), (4, .int (iI (acB v))), (3, .int (iI (acT v))), (2, .int (iI 0)), (0, .ref (a 0)), (1, .int (iI v))]) hx hb dL_act_73 hl (by decide) rfl (fun ls hl => ?_)
          refine lv_iload_n hx hb dL_act_75 rfl (lv_at hl 5 rfl) ?_
          refine ri_bipush hx hb dL_act_76 (by decide) ?_
          refine ri_ishr hx hb (by omega) 12 (d := 4096) (by decide) (by decide) dL_act_78 ?_
          refine ri_bipush hx hb dL_act_79 (by decide) ?_
          refine ri_rd (ri_runS (As := [.int (iI (v / 4096)), .int (iI 8)]) (rest := []) CF (k_L_low l (v / 4096) 8 (by omega) (by omega)) gL_act_L_low f_L_low ⟨rfl, rfl, Nat.le_of_ble_eq_true rfl, Nat.le_of_ble_eq_true rfl, Nat.le_of_ble_eq_true rfl, Nat.le_of_ble_eq_true rfl⟩ tB_bl tB_in rfl hl.1 rfl (Nat.le_of_ble_eq_true rfl) dL_act_81) ?_
          have f_8 := lwF_r (v / 4096) (n := 8) (by omega)
          refine ri_eq (y := acR v) (rfl) ?_
          refine lv_istore (lv' := [(6, .int (iI (acR v))), (5, .int (iI (acC v))), (4, .int (iI (acB v))), (3, .int (iI (acT v))), (2, .int (iI 0)), (0, .ref (a 0)), (1, .int (iI v))]) hx hb dL_act_84 hl (by decide) rfl (fun ls hl => ?_)
          refine lv_iload_n hx hb dL_act_86 rfl (lv_at hl 4 rfl) ?_
          refine ri_if_eq (tgt := 102) hx hb (by omega) dL_act_87 (by decide) (fun c_9 => ?_) (fun c_9 => ?_)
          · skip
            refine ri_iconst hx hb dL_act_102 ?_
            refine lv_iload_n hx hb dL_act_103 rfl (lv_at hl 6 rfl) ?_
            refine ri_bipush hx hb dL_act_104 (by decide) ?_
            refine ri_ishr hx hb (by omega) 15 (d := 32768) (by decide) (by decide) dL_act_106 ?_
            refine ri_bipush hx hb dL_act_107 (by decide) ?_
            refine lv_iload hx hb dL_act_109 (lv_at hl 1 rfl) ?_
            refine ri_isub hx hb dL_act_111 ?_
            refine ri_rd (ri_runS (As := [.int (iI (v / 32768)), .int (iI (8 - (acC v)))]) (rest := [.int (iI 1)]) CF (k_L_low l (v / 32768) (8 - (acC v)) (by omega) (by omega)) gL_act_L_low f_L_low ⟨rfl, rfl, Nat.le_of_ble_eq_true rfl, Nat.le_of_ble_eq_true rfl, Nat.le_of_ble_eq_true rfl, Nat.le_of_ble_eq_true rfl⟩ tB_bl tB_in rfl hl.1 rfl (Nat.le_of_ble_eq_true rfl) dL_act_112) ?_
            have f_10 := lwF_r (v / 32768) (n := (8 - (acC v))) (by omega)
            refine ri_iadd hx hb dL_act_115 ?_
            refine ri_eq (y := acW v) (by unfold acW; rw [iteI_f ho]) ?_
            refine lv_istore (lv' := [(7, .int (iI (acW v))), (6, .int (iI (acR v))), (5, .int (iI (acC v))), (4, .int (iI (acB v))), (3, .int (iI (acT v))), (2, .int (iI 0)), (0, .ref (a 0)), (1, .int (iI v))]) hx hb dL_act_116 hl (by decide) rfl (fun ls hl => ?_)
            refine lv_iload_n hx hb dL_act_118 rfl (lv_at hl 5 rfl) ?_
            refine ri_if_eq (tgt := 134) hx hb (by omega) dL_act_119 (by decide) (fun c_11 => ?_) (fun c_11 => ?_)
            · skip
              refine ri_iconst hx hb dL_act_134 ?_
              refine lv_iload_n hx hb dL_act_135 rfl (lv_at hl 7 rfl) ?_
              refine ri_bipush hx hb dL_act_136 (by decide) ?_
              refine ri_ishr hx hb (by omega) 18 (d := 262144) (by decide) (by decide) dL_act_138 ?_
              refine ri_bipush hx hb dL_act_139 (by decide) ?_
              refine lv_iload hx hb dL_act_141 (lv_at hl 1 rfl) ?_
              refine ri_isub hx hb dL_act_143 ?_
              refine ri_rd (ri_runS (As := [.int (iI (v / 262144)), .int (iI (8 - (acR v)))]) (rest := [.int (iI 1)]) CF (k_L_low l (v / 262144) (8 - (acR v)) (by omega) (by omega)) gL_act_L_low f_L_low ⟨rfl, rfl, Nat.le_of_ble_eq_true rfl, Nat.le_of_ble_eq_true rfl, Nat.le_of_ble_eq_true rfl, Nat.le_of_ble_eq_true rfl⟩ tB_bl tB_in rfl hl.1 rfl (Nat.le_of_ble_eq_true rfl) dL_act_144) ?_
              have f_12 := lwF_r (v / 262144) (n := (8 - (acR v))) (by omega)
              refine ri_iadd hx hb dL_act_147 ?_
              refine ri_eq (y := acH v) (by unfold acH; rw [iteI_f ho]) ?_
              refine lv_istore (lv' := [(8, .int (iI (acH v))), (7, .int (iI (acW v))), (6, .int (iI (acR v))), (5, .int (iI (acC v))), (4, .int (iI (acB v))), (3, .int (iI (acT v))), (2, .int (iI 0)), (0, .ref (a 0)), (1, .int (iI v))]) hx hb dL_act_148 hl (by decide) rfl (fun ls hl => ?_)
              refine lv_iload_n hx hb dL_act_150 rfl (lv_at hl 8 rfl) ?_
              refine ri_bipush hx hb dL_act_151 (by decide) ?_
              refine ri_rd (ri_runS (As := [.int (iI v), .int (iI 14)]) (rest := []) CF (k_L_low l v 14 (by omega) (by omega)) gL_act_L_low f_L_low ⟨rfl, rfl, Nat.le_of_ble_eq_true rfl, Nat.le_of_ble_eq_true rfl, Nat.le_of_ble_eq_true rfl, Nat.le_of_ble_eq_true rfl⟩ tB_bl tB_in rfl hl.1 rfl (Nat.le_of_ble_eq_true rfl) dL_act_153) ?_
              have f_13 := lwF_r v (n := 14) (by omega)
              have r14 := lwF_r v (n := 14) (by omega)
              rcases (show lwF v 14 = 0 ∨ lwF v 14 = 1 ∨ lwF v 14 = 2 ∨ lwF v 14 = 3 ∨ lwF v 14 = 4 ∨ lwF v 14 = 5 ∨ lwF v 14 = 6 ∨ lwF v 14 = 7 ∨ 8 ≤ lwF v 14 by omega) with hk | hk | hk | hk | hk | hk | hk | hk | hk
              · skip
                refine ri_eq (y := 0) hk ?_
                refine lv_tableIn (off := 48) (tgt := 204) hx hb dL_act_156 (by decide) (by decide) (by decide) (by decide) ?_
                refine lv_aload_n hx hb dL_act_204 rfl (lv_at hl 7 rfl) ?_
                refine lv_iload hx hb dL_act_205 (lv_at hl 4 rfl) ?_
                refine lv_iload_n hx hb dL_act_207 rfl (lv_at hl 5 rfl) ?_
                refine ri_wz (v := apR g (acB v) (acT v)) (PP := (fun H => va_P D vwCl (xW a kk (apG g (acB v) (acT v))) H ∧ N ≤ H.size)) (vx_runSW (As := [.ref (a 0), .int (iI (acB v)), .int (iI (acT v))]) (rest := []) CF (kL_approve l D a kk g sa N hst (acB v) (acT v) hA hI (by omega) (by omega)) (vx_cwSW 3 hts gL_act_L_approve rfl rfl rfl ⟨by decide +kernel, by decide +kernel, by decide +kernel⟩ ⟨(Nat.le_of_ble_eq_true rfl), (Nat.le_of_ble_eq_true rfl)⟩) ⟨Bl_pc qB_bl, fun U hU hW9 => ⟨rfl, qB_in hS (fun _ h => h) hT hP hK hN hC hz0 U hU hW9⟩⟩ rfl rfl hl.1 rfl (lv_room (Nat.le_of_ble_eq_true rfl)) dL_act_208 ⟨(Nat.le_of_ble_eq_true rfl), (Nat.le_of_ble_eq_true rfl)⟩) hS (fun _ h => h) (fun H1 locs1 hB1 hz1 hk1 hS1 => ?_)
                refine W.widen (k := 2) (n := 12) (Nat.le_of_ble_eq_true rfl) (Nat.le_of_ble_eq_true rfl) ?_
                exact ri_iretW (A := aA 17 a) (PP := (fun H => va_P D vwCl (xW a kk (actG g v)) H ∧ N ≤ H.size)) hx hb hr hlocks hS1 (by rw [(act_0 g (v := v) (by omega)).2]; exact hB1) dL_act_211 (act_0 g (v := v) (by omega)).1.symm
              · skip
                refine ri_eq (y := 1) hk ?_
                refine lv_tableIn (off := 48) (tgt := 204) hx hb dL_act_156 (by decide) (by decide) (by decide) (by decide) ?_
                refine lv_aload_n hx hb dL_act_204 rfl (lv_at hl 7 rfl) ?_
                refine lv_iload hx hb dL_act_205 (lv_at hl 4 rfl) ?_
                refine lv_iload_n hx hb dL_act_207 rfl (lv_at hl 5 rfl) ?_
                refine ri_wz (v := apR g (acB v) (acT v)) (PP := (fun H => va_P D vwCl (xW a kk (apG g (acB v) (acT v))) H ∧ N ≤ H.size)) (vx_runSW (As := [.ref (a 0), .int (iI (acB v)), .int (iI (acT v))]) (rest := []) CF (kL_approve l D a kk g sa N hst (acB v) (acT v) hA hI (by omega) (by omega)) (vx_cwSW 3 hts gL_act_L_approve rfl rfl rfl ⟨by decide +kernel, by decide +kernel, by decide +kernel⟩ ⟨(Nat.le_of_ble_eq_true rfl), (Nat.le_of_ble_eq_true rfl)⟩) ⟨Bl_pc qB_bl, fun U hU hW9 => ⟨rfl, qB_in hS (fun _ h => h) hT hP hK hN hC hz0 U hU hW9⟩⟩ rfl rfl hl.1 rfl (lv_room (Nat.le_of_ble_eq_true rfl)) dL_act_208 ⟨(Nat.le_of_ble_eq_true rfl), (Nat.le_of_ble_eq_true rfl)⟩) hS (fun _ h => h) (fun H1 locs1 hB1 hz1 hk1 hS1 => ?_)
                refine W.widen (k := 2) (n := 12) (Nat.le_of_ble_eq_true rfl) (Nat.le_of_ble_eq_true rfl) ?_
                exact ri_iretW (A := aA 17 a) (PP := (fun H => va_P D vwCl (xW a kk (actG g v)) H ∧ N ≤ H.size)) hx hb hr hlocks hS1 (by rw [(act_0 g (v := v) (by omega)).2]; exact hB1) dL_act_211 (act_0 g (v := v) (by omega)).1.symm
              · skip
                refine ri_eq (y := 2) hk ?_
                refine lv_tableIn (off := 56) (tgt := 212) hx hb dL_act_156 (by decide) (by decide) (by decide) (by decide) ?_
                refine lv_aload_n hx hb dL_act_212 rfl (lv_at hl 7 rfl) ?_
                refine lv_iload hx hb dL_act_213 (lv_at hl 4 rfl) ?_
                refine ri_wz (v := beR g (acB v)) (PP := (fun H => va_P D vwCl (xW a kk (beG g (acB v))) H ∧ N ≤ H.size)) (vx_runSW (As := [.ref (a 0), .int (iI (acB v))]) (rest := []) CF (kL_begin l D a kk g sa N hst (acB v) hA hI (by omega)) (vx_cwSW 2 hts gL_act_L_begin rfl rfl rfl ⟨by decide +kernel, by decide +kernel, by decide +kernel⟩ ⟨(Nat.le_of_ble_eq_true rfl), (Nat.le_of_ble_eq_true rfl)⟩) ⟨Bl_pc qB_bl, fun U hU hW9 => ⟨rfl, qB_in hS (fun _ h => h) hT hP hK hN hC hz0 U hU hW9⟩⟩ rfl rfl hl.1 rfl (lv_room (Nat.le_of_ble_eq_true rfl)) dL_act_215 ⟨(Nat.le_of_ble_eq_true rfl), (Nat.le_of_ble_eq_true rfl)⟩) hS (fun _ h => h) (fun H1 locs1 hB1 hz1 hk1 hS1 => ?_)
                refine W.widen (k := 2) (n := 12) (Nat.le_of_ble_eq_true rfl) (Nat.le_of_ble_eq_true rfl) ?_
                exact ri_iretW (A := aA 17 a) (PP := (fun H => va_P D vwCl (xW a kk (actG g v)) H ∧ N ≤ H.size)) hx hb hr hlocks hS1 (by rw [(act_2 g hk).2]; exact hB1) dL_act_218 (act_2 g hk).1.symm
              · skip
                refine ri_eq (y := 3) hk ?_
                refine lv_tableIn (off := 63) (tgt := 219) hx hb dL_act_156 (by decide) (by decide) (by decide) (by decide) ?_
                refine lv_aload_n hx hb dL_act_219 rfl (lv_at hl 7 rfl) ?_
                refine lv_iload hx hb dL_act_220 (lv_at hl 4 rfl) ?_
                refine ri_wz (v := joR g (acB v)) (PP := (fun H => va_P D vwCl (xW a kk (joG g (acB v))) H ∧ N ≤ H.size)) (vx_runSW (As := [.ref (a 0), .int (iI (acB v))]) (rest := []) CF (kL_join l D a kk g sa N hst (acB v) hA hI (by omega)) (vx_cwSW 2 hts gL_act_L_join rfl rfl rfl ⟨by decide +kernel, by decide +kernel, by decide +kernel⟩ ⟨(Nat.le_of_ble_eq_true rfl), (Nat.le_of_ble_eq_true rfl)⟩) ⟨Bl_pc qB_bl, fun U hU hW9 => ⟨rfl, qB_in hS (fun _ h => h) hT hP hK hN hC hz0 U hU hW9⟩⟩ rfl rfl hl.1 rfl (lv_room (Nat.le_of_ble_eq_true rfl)) dL_act_222 ⟨(Nat.le_of_ble_eq_true rfl), (Nat.le_of_ble_eq_true rfl)⟩) hS (fun _ h => h) (fun H1 locs1 hB1 hz1 hk1 hS1 => ?_)
                refine W.widen (k := 2) (n := 12) (Nat.le_of_ble_eq_true rfl) (Nat.le_of_ble_eq_true rfl) ?_
                exact ri_iretW (A := aA 17 a) (PP := (fun H => va_P D vwCl (xW a kk (actG g v)) H ∧ N ≤ H.size)) hx hb hr hlocks hS1 (by rw [(act_3 g hk).2]; exact hB1) dL_act_225 (act_3 g hk).1.symm
              · skip
                refine ri_eq (y := 4) hk ?_
                refine lv_tableIn (off := 70) (tgt := 226) hx hb dL_act_156 (by decide) (by decide) (by decide) (by decide) ?_
                refine lv_aload_n hx hb dL_act_226 rfl (lv_at hl 7 rfl) ?_
                refine lv_iload_n hx hb dL_act_227 rfl (lv_at hl 5 rfl) ?_
                refine lv_iload hx hb dL_act_228 (lv_at hl 3 rfl) ?_
                refine lv_iload hx hb dL_act_230 (lv_at hl 2 rfl) ?_
                refine lv_iload hx hb dL_act_232 (lv_at hl 1 rfl) ?_
                refine lv_iload hx hb dL_act_234 (lv_at hl 0 rfl) ?_
                refine ri_wz (v := spR (acT v) (acC v) (acR v) (acW v) (acH v)) (PP := (fun H => va_P D vwCl (xW a kk (spG g (acT v) (acC v) (acR v) (acW v) (acH v))) H ∧ N ≤ H.size)) (vx_runSW (As := [.ref (a 0), .int (iI (acT v)), .int (iI (acC v)), .int (iI (acR v)), .int (iI (acW v)), .int (iI (acH v))]) (rest := []) CF (kL_setPart l D a kk g sa N hst (acT v) (acC v) (acR v) (acW v) (acH v) hA hI (by omega) (by omega) (by omega) (by omega) (by omega)) (vx_cwSW 6 hts gL_act_L_setPart rfl rfl rfl ⟨by decide +kernel, by decide +kernel, by decide +kernel⟩ ⟨(Nat.le_of_ble_eq_true rfl), (Nat.le_of_ble_eq_true rfl)⟩) ⟨Bl_pc qB_bl, fun U hU hW9 => ⟨rfl, qB_in hS (fun _ h => h) hT hP hK hN hC hz0 U hU hW9⟩⟩ rfl rfl hl.1 rfl (lv_room (Nat.le_of_ble_eq_true rfl)) dL_act_236 ⟨(Nat.le_of_ble_eq_true rfl), (Nat.le_of_ble_eq_true rfl)⟩) hS (fun _ h => h) (fun H1 locs1 hB1 hz1 hk1 hS1 => ?_)
                refine W.widen (k := 2) (n := 12) (Nat.le_of_ble_eq_true rfl) (Nat.le_of_ble_eq_true rfl) ?_
                exact ri_iretW (A := aA 17 a) (PP := (fun H => va_P D vwCl (xW a kk (actG g v)) H ∧ N ≤ H.size)) hx hb hr hlocks hS1 (by rw [(act_4 g hk).2]; exact hB1) dL_act_239 (act_4 g hk).1.symm
              · skip
                refine ri_eq (y := 5) hk ?_
                refine lv_tableIn (off := 84) (tgt := 240) hx hb dL_act_156 (by decide) (by decide) (by decide) (by decide) ?_
                refine lv_aload_n hx hb dL_act_240 rfl (lv_at hl 7 rfl) ?_
                refine lv_iload_n hx hb dL_act_241 rfl (lv_at hl 5 rfl) ?_
                refine lv_iload hx hb dL_act_242 (lv_at hl 3 rfl) ?_
                refine ri_iconst hx hb dL_act_244 ?_
                refine ri_isub hx hb dL_act_245 ?_
                refine lv_iload hx hb dL_act_246 (lv_at hl 2 rfl) ?_
                refine ri_iconst hx hb dL_act_248 ?_
                refine ri_isub hx hb dL_act_249 ?_
                refine lv_iload hx hb dL_act_250 (lv_at hl 1 rfl) ?_
                refine lv_iload hx hb dL_act_252 (lv_at hl 0 rfl) ?_
                refine ri_wz (v := smR g (acT v) ((acC v) - 4) ((acR v) - 4) (acW v) (acH v)) (PP := (fun H => va_P D vwCl (xW a kk (smG g (acT v) ((acC v) - 4) ((acR v) - 4) (acW v) (acH v))) H ∧ N ≤ H.size)) (vx_runSW (As := [.ref (a 0), .int (iI (acT v)), .int (iI ((acC v) - 4)), .int (iI ((acR v) - 4)), .int (iI (acW v)), .int (iI (acH v))]) (rest := []) CF (kL_setMask l D a kk g sa N hst (acT v) ((acC v) - 4) ((acR v) - 4) (acW v) (acH v) hA hI (by omega) (by omega) (by omega) (by omega) (by omega)) (vx_cwSW 6 hts gL_act_L_setMask rfl rfl rfl ⟨by decide +kernel, by decide +kernel, by decide +kernel⟩ ⟨(Nat.le_of_ble_eq_true rfl), (Nat.le_of_ble_eq_true rfl)⟩) ⟨Bl_pc qB_bl, fun U hU hW9 => ⟨rfl, qB_in hS (fun _ h => h) hT hP hK hN hC hz0 U hU hW9⟩⟩ rfl rfl hl.1 rfl (lv_room (Nat.le_of_ble_eq_true rfl)) dL_act_254 ⟨(Nat.le_of_ble_eq_true rfl), (Nat.le_of_ble_eq_true rfl)⟩) hS (fun _ h => h) (fun H1 locs1 hB1 hz1 hk1 hS1 => ?_)
                refine W.widen (k := 2) (n := 12) (Nat.le_of_ble_eq_true rfl) (Nat.le_of_ble_eq_true rfl) ?_
                exact ri_iretW (A := aA 17 a) (PP := (fun H => va_P D vwCl (xW a kk (actG g v)) H ∧ N ≤ H.size)) hx hb hr hlocks hS1 (by rw [(act_5 g hk).2]; exact hB1) dL_act_257 (act_5 g hk).1.symm
              · skip
                refine ri_eq (y := 6) hk ?_
                refine lv_tableIn (off := 102) (tgt := 258) hx hb dL_act_156 (by decide) (by decide) (by decide) (by decide) ?_
                refine lv_aload_n hx hb dL_act_258 rfl (lv_at hl 7 rfl) ?_
                refine lv_iload hx hb dL_act_259 (lv_at hl 4 rfl) ?_
                refine lv_iload_n hx hb dL_act_261 rfl (lv_at hl 5 rfl) ?_
                refine lv_iload_n hx hb dL_act_262 rfl (lv_at hl 8 rfl) ?_
                refine ri_bipush hx hb dL_act_263 (by decide) ?_
                refine ri_ishr hx hb (by omega) 15 (d := 32768) (by decide) (by decide) dL_act_265 ?_
                refine ri_bipush hx hb dL_act_266 (by decide) ?_
                refine ri_rd (ri_runS (As := [.int (iI (v / 32768)), .int (iI 40)]) (rest := [.int (iI (acT v)), .int (iI (acB v)), .ref (a 0)]) CF (k_L_low l (v / 32768) 40 (by omega) (by omega)) gL_act_L_low f_L_low ⟨rfl, rfl, Nat.le_of_ble_eq_true rfl, Nat.le_of_ble_eq_true rfl, Nat.le_of_ble_eq_true rfl, Nat.le_of_ble_eq_true rfl⟩ tB_bl tB_in rfl hl.1 rfl (Nat.le_of_ble_eq_true rfl) dL_act_268) ?_
                have f_14 := lwF_r (v / 32768) (n := 40) (by omega)
                refine ri_eq (y := acN v) (rfl) ?_
                refine ri_wz (v := ruR g (acB v) (acT v) (acN v)) (PP := (fun H => va_P D vwCl (xW a kk (ruG g (acB v) (acT v) (acN v))) H ∧ N ≤ H.size)) (vx_runSW (As := [.ref (a 0), .int (iI (acB v)), .int (iI (acT v)), .int (iI (acN v))]) (rest := []) CF (kL_run l D a kk g sa N hst (acB v) (acT v) (acN v) hA hI (by omega) (by omega) (by omega)) (vx_cwSW 4 hts gL_act_L_run rfl rfl rfl ⟨by decide +kernel, by decide +kernel, by decide +kernel⟩ ⟨(Nat.le_of_ble_eq_true rfl), (Nat.le_of_ble_eq_true rfl)⟩) ⟨Bl_pc qB_bl, fun U hU hW9 => ⟨rfl, qB_in hS (fun _ h => h) hT hP hK hN hC hz0 U hU hW9⟩⟩ rfl rfl hl.1 rfl (lv_room (Nat.le_of_ble_eq_true rfl)) dL_act_271 ⟨(Nat.le_of_ble_eq_true rfl), (Nat.le_of_ble_eq_true rfl)⟩) hS (fun _ h => h) (fun H1 locs1 hB1 hz1 hk1 hS1 => ?_)
                refine W.widen (k := 2) (n := 12) (Nat.le_of_ble_eq_true rfl) (Nat.le_of_ble_eq_true rfl) ?_
                exact ri_iretW (A := aA 17 a) (PP := (fun H => va_P D vwCl (xW a kk (actG g v)) H ∧ N ≤ H.size)) hx hb hr hlocks hS1 (by rw [(act_6 g (v := v) (by omega)).2]; exact hB1) dL_act_274 (act_6 g (v := v) (by omega)).1.symm
              · skip
                refine ri_eq (y := 7) hk ?_
                refine lv_tableIn (off := 102) (tgt := 258) hx hb dL_act_156 (by decide) (by decide) (by decide) (by decide) ?_
                refine lv_aload_n hx hb dL_act_258 rfl (lv_at hl 7 rfl) ?_
                refine lv_iload hx hb dL_act_259 (lv_at hl 4 rfl) ?_
                refine lv_iload_n hx hb dL_act_261 rfl (lv_at hl 5 rfl) ?_
                refine lv_iload_n hx hb dL_act_262 rfl (lv_at hl 8 rfl) ?_
                refine ri_bipush hx hb dL_act_263 (by decide) ?_
                refine ri_ishr hx hb (by omega) 15 (d := 32768) (by decide) (by decide) dL_act_265 ?_
                refine ri_bipush hx hb dL_act_266 (by decide) ?_
                refine ri_rd (ri_runS (As := [.int (iI (v / 32768)), .int (iI 40)]) (rest := [.int (iI (acT v)), .int (iI (acB v)), .ref (a 0)]) CF (k_L_low l (v / 32768) 40 (by omega) (by omega)) gL_act_L_low f_L_low ⟨rfl, rfl, Nat.le_of_ble_eq_true rfl, Nat.le_of_ble_eq_true rfl, Nat.le_of_ble_eq_true rfl, Nat.le_of_ble_eq_true rfl⟩ tB_bl tB_in rfl hl.1 rfl (Nat.le_of_ble_eq_true rfl) dL_act_268) ?_
                have f_15 := lwF_r (v / 32768) (n := 40) (by omega)
                refine ri_eq (y := acN v) (rfl) ?_
                refine ri_wz (v := ruR g (acB v) (acT v) (acN v)) (PP := (fun H => va_P D vwCl (xW a kk (ruG g (acB v) (acT v) (acN v))) H ∧ N ≤ H.size)) (vx_runSW (As := [.ref (a 0), .int (iI (acB v)), .int (iI (acT v)), .int (iI (acN v))]) (rest := []) CF (kL_run l D a kk g sa N hst (acB v) (acT v) (acN v) hA hI (by omega) (by omega) (by omega)) (vx_cwSW 4 hts gL_act_L_run rfl rfl rfl ⟨by decide +kernel, by decide +kernel, by decide +kernel⟩ ⟨(Nat.le_of_ble_eq_true rfl), (Nat.le_of_ble_eq_true rfl)⟩) ⟨Bl_pc qB_bl, fun U hU hW9 => ⟨rfl, qB_in hS (fun _ h => h) hT hP hK hN hC hz0 U hU hW9⟩⟩ rfl rfl hl.1 rfl (lv_room (Nat.le_of_ble_eq_true rfl)) dL_act_271 ⟨(Nat.le_of_ble_eq_true rfl), (Nat.le_of_ble_eq_true rfl)⟩) hS (fun _ h => h) (fun H1 locs1 hB1 hz1 hk1 hS1 => ?_)
                refine W.widen (k := 2) (n := 12) (Nat.le_of_ble_eq_true rfl) (Nat.le_of_ble_eq_true rfl) ?_
                exact ri_iretW (A := aA 17 a) (PP := (fun H => va_P D vwCl (xW a kk (actG g v)) H ∧ N ≤ H.size)) hx hb hr hlocks hS1 (by rw [(act_6 g (v := v) (by omega)).2]; exact hB1) dL_act_274 (act_6 g (v := v) (by omega)).1.symm
              · skip
                refine lv_tableOut (tgt := 275) hx hb dL_act_156 (Or.inr (by rw [iI_toInt (by omega)]; omega)) (by decide) ?_
                refine lv_aload_n hx hb dL_act_275 rfl (lv_at hl 7 rfl) ?_
                refine lv_iload_n hx hb dL_act_276 rfl (lv_at hl 5 rfl) ?_
                refine lv_iload hx hb dL_act_277 (lv_at hl 3 rfl) ?_
                refine lv_iload hx hb dL_act_279 (lv_at hl 2 rfl) ?_
                refine lv_iload hx hb dL_act_281 (lv_at hl 1 rfl) ?_
                refine lv_iload hx hb dL_act_283 (lv_at hl 0 rfl) ?_
                refine lv_iload_n hx hb dL_act_285 rfl (lv_at hl 6 rfl) ?_
                refine ri_if_eq (tgt := 303) hx hb (by omega) dL_act_286 (by decide) (fun c_16 => ?_) (fun c_16 => ?_)
                · skip
                  refine lv_iload_n hx hb dL_act_303 rfl (lv_at hl 8 rfl) ?_
                  refine ri_bipush hx hb dL_act_304 (by decide) ?_
                  refine ri_ishr hx hb (by omega) 20 (d := 1048576) (by decide) (by decide) dL_act_306 ?_
                  refine ri_bipush hx hb dL_act_307 (by decide) ?_
                  refine ri_rd (ri_runS (As := [.int (iI (v / 1048576)), .int (iI 6)]) (rest := [.int (iI (acH v)), .int (iI (acW v)), .int (iI (acR v)), .int (iI (acC v)), .int (iI (acT v)), .ref (a 0)]) CF (k_L_low l (v / 1048576) 6 (by omega) (by omega)) gL_act_L_low f_L_low ⟨rfl, rfl, Nat.le_of_ble_eq_true rfl, Nat.le_of_ble_eq_true rfl, Nat.le_of_ble_eq_true rfl, Nat.le_of_ble_eq_true rfl⟩ tB_bl tB_in rfl hl.1 rfl (Nat.le_of_ble_eq_true rfl) dL_act_309) ?_
                  have f_17 := lwF_r (v / 1048576) (n := 6) (by omega)
                  refine ri_bipush hx hb dL_act_312 (by decide) ?_
                  refine ri_imul hx hb dL_act_314 ?_
                  refine ri_eq (y := acS v) (by unfold acS; rw [iteI_f ho]) ?_
                  refine ri_wz (v := paR g (acT v) (acC v) (acR v) (acW v) (acH v) (acS v)) (PP := (fun H => va_P D vwCl (xW a kk (paG g (acT v) (acC v) (acR v) (acW v) (acH v) (acS v))) H ∧ N ≤ H.size)) (vx_runSW (As := [.ref (a 0), .int (iI (acT v)), .int (iI (acC v)), .int (iI (acR v)), .int (iI (acW v)), .int (iI (acH v)), .int (iI (acS v))]) (rest := []) CF (kL_paint l D a kk g sa N hst (acT v) (acC v) (acR v) (acW v) (acH v) (acS v) hA hI (by omega) (by omega) (by omega) (by omega) (by omega) (by omega)) (vx_cwSW 7 hts gL_act_L_paint rfl rfl rfl ⟨by decide +kernel, by decide +kernel, by decide +kernel⟩ ⟨(Nat.le_of_ble_eq_true rfl), (Nat.le_of_ble_eq_true rfl)⟩) ⟨Bl_pc qB_bl, fun U hU hW9 => ⟨rfl, qB_in hS (fun _ h => h) hT hP hK hN hC hz0 U hU hW9⟩⟩ rfl rfl hl.1 rfl (lv_room (Nat.le_of_ble_eq_true rfl)) dL_act_315 ⟨(Nat.le_of_ble_eq_true rfl), (Nat.le_of_ble_eq_true rfl)⟩) hS (fun _ h => h) (fun H1 locs1 hB1 hz1 hk1 hS1 => ?_)
                  refine W.widen (k := 2) (n := 12) (Nat.le_of_ble_eq_true rfl) (Nat.le_of_ble_eq_true rfl) ?_
                  exact ri_iretW (A := aA 17 a) (PP := (fun H => va_P D vwCl (xW a kk (actG g v)) H ∧ N ≤ H.size)) hx hb hr hlocks hS1 (by rw [(act_8 g (v := v) hk).2]; exact hB1) dL_act_318 (act_8 g (v := v) hk).1.symm
                · skip
                  exfalso; omega
            · skip
              exfalso; omega
          · skip
            exfalso; omega
        · skip
          exfalso; omega
      · skip
        exfalso; omega
    · skip
      exfalso; omega
  · skip
    exact absurd h9 ho
