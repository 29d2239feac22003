/-! ===== the law's two checks ===== -/
theorem f_L_isCompared : MF yL_isCompared wsL_isCompared cL_isCompared 14 (some .boolean) 5 := ⟨⟨_, rfl⟩, by decide +kernel, by decide +kernel, by decide +kernel⟩
set_option maxHeartbeats 4000000 in
set_option maxRecDepth 100000 in
theorem k_L_isCompared (l : Launch) (D : va_G) (a a2 : Nat → Nat) (kk : Nat → ClassId) (g : Nat → Nat → Int) (sa : Nat → Nat) (N : Nat) (hst : l.stackTraces = false) (b : Int) (t : Int) (n : Int) (hA : aDs 17 a) (hA2 : aDs 17 a2) (hAB : ∀ i j, i < 17 → j < 17 → a i ≠ a2 j) (hI : XInv g) (hcm : cmpA b t n) : WI l yL_isCompared wsL_isCompared ({ frames := 10, cells := 20, slots := 120, locals := 200 }) [.ref (a 0), .ref (a2 0), .int (iI b), .int (iI t), .int (iI n)] (rB sa D a a2 kk g N) (1) (fun H => va_P D vwCl (xW a kk (ruG g b t n)) H ∧ va_P D vwCl (xW a2 kk (ruG g b t n)) H ∧ N ≤ H.size) (bA a a2) 20 120 := by
  refine ri_ent (cc := cL_isCompared) (maxL := 14) (ret := some .boolean) (by decide) rfl (Nat.le_of_ble_eq_true rfl) ?_
  intro zp ze s zm zb zt zc hx hb hr hts hown hlocks hml hin hB ls hl
  have hown : s.vm.findClass RL = some zm.cls := hown
  have CF : CallFix zp zm zc cL_isCompared 14 s ([.ref (a 0), .ref (a2 0), .int (iI b), .int (iI t), .int (iI n)] : List Value).toArray wsL_isCompared RL := ⟨hx, hb, hml, hown, hts⟩
  obtain ⟨hT, hP, hP2, hK, hN, hC, hz⟩ := hB
  have hS : va_S (bA a a2) s.heap s.heap [] := va_S.rf
  have hl : lv_has ls 14 [(0, .ref (a 0)), (1, .ref (a2 0)), (2, .int (iI b)), (3, .int (iI t)), (4, .int (iI n))] := hl
  obtain ⟨⟨hb0, hb3⟩, ⟨hb4, ht4⟩, ⟨hn0, hn5⟩⟩ := id hcm
  have hdr := dfR_r g b t n
  refine lv_aload_n hx hb dL_isCompared_0 rfl (lv_at hl 0 rfl) ?_
  refine lv_iload_n hx hb dL_isCompared_1 rfl (lv_at hl 2 rfl) ?_
  refine lv_iload_n hx hb dL_isCompared_2 rfl (lv_at hl 3 rfl) ?_
  refine lv_iload hx hb dL_isCompared_3 (lv_at hl 4 rfl) ?_
  refine ri_wz (v := dfR g b t n) (PP := (fun H => va_P D vwCl (xW a kk (g)) H ∧ (s.heap).size ≤ H.size ∧ (cmpA b t n ∧ ¬ g 3 (5 + b * 5 + t).toNat = 1 → (s.heap).size + 1 ≤ H.size))) (vx_runSW (As := [.ref (a 0), .int (iI b), .int (iI t), .int (iI n)]) (rest := []) CF (kL_differences l D a kk g sa (s.heap).size hst b t n hA hI (by omega) (by omega) (by omega)) (vx_cwSW 4 hts gL_isCompared_L_differences rfl rfl rfl ⟨by decide +kernel, by decide +kernel, by decide +kernel⟩ ⟨(Nat.le_of_ble_eq_true rfl), (Nat.le_of_ble_eq_true rfl)⟩) ⟨Bl_pc qB_bl, fun U hU hW9 => ⟨rfl, qB_in hS (fun _ h => Or.inl h) hT hP hK hN hC (Nat.le_refl _) U hU hW9⟩⟩ rfl rfl hl.1 rfl (lv_room (Nat.le_of_ble_eq_true rfl)) dL_isCompared_5 ⟨(Nat.le_of_ble_eq_true rfl), (Nat.le_of_ble_eq_true rfl)⟩) hS (fun _ h => Or.inl h) (fun H_1 locs1 hB9 hz9 hk9 hS => ?_)
  replace hP : va_P D vwCl (xW a kk (g)) H_1 := hB9.1
  replace hP2 := hP2.un hk9 (x_un2 (ap_1 hAB))
  replace hz := Nat.le_trans hz hz9
  refine lv_istore (lv' := [(5, .int (iI (dfR g b t n))), (0, .ref (a 0)), (1, .ref (a2 0)), (2, .int (iI b)), (3, .int (iI t)), (4, .int (iI n))]) hx hb dL_isCompared_8 hl (by decide) rfl (fun ls hl => ?_)
  refine lv_aload_n hx hb dL_isCompared_10 rfl (lv_at hl 1 rfl) ?_
  refine lv_iload_n hx hb dL_isCompared_11 rfl (lv_at hl 3 rfl) ?_
  refine lv_iload_n hx hb dL_isCompared_12 rfl (lv_at hl 4 rfl) ?_
  refine ri_xi (ri_runVX (b := a 0) (As := [.int (iI b), .int (iI t)]) (rest := []) CF (k_X3_isApproved l D a kk g sa hst b t hA hI (by omega) (by omega)) gL_isCompared_X3_isApproved f_X3_isApproved rfl (va_recv hK hP (ci := 3) (q0 := 0) rfl rfl) ⟨rfl, rfl, (Nat.le_of_ble_eq_true rfl), (Nat.le_of_ble_eq_true rfl), (Nat.le_of_ble_eq_true rfl), (Nat.le_of_ble_eq_true rfl)⟩ pB_bl (pB_i2 hS (fun _ h => Or.inl h) hT hP hK hN) rfl hl.1 rfl (Nat.le_of_ble_eq_true rfl) dL_isCompared_13) hS (fun _ h => Or.inl h) (fun X hX => absurd (show (0 ≤ b ∧ b ≤ 3) ∧ (0 ≤ t ∧ t ≤ 4) from ⟨hcm.1, hcm.2.1⟩) hX.2) (fun H_2 locs1 hB9 hz9 hk9 hS => ?_)
  replace hP : va_P D vwCl (xW a kk (g)) H_2 := hB9
  replace hP2 := hP2.un hk9 (x_un2 (ap_1 hAB))
  replace hz := Nat.le_trans hz hz9
  refine ri_ifne_b (tgt := 44) hx hb dL_isCompared_16 (by decide) (fun h16 => ?_) (fun h16 => ?_)
  · skip
    have hok : cmpA b t n ∧ g 3 (5 + b * 5 + t).toNat = 1 := ⟨hcm, h16⟩
    have e5 := dfR_1 (g := g) (b := b) (t := t) (n := n) hok
    have hM := fd_cnt (CD g b t n)
    have hcc := cnt_cd g b t n
    have hmv := mvV_r g b t n
    have hsf := sfV_r g b t n
    have hok5 : cmpA b t 255 ∧ (ruG g b t n) 3 (5 + b * 5 + t).toNat = 1 := ⟨⟨hcm.1, hcm.2.1, by omega⟩, by rw [ru_3]; exact h16⟩
    have hru := ru_16 (g := g) (b := b) (t := t) (n := n) hok
    have h10 := hI.2.2.2.2.2 t.toNat (by omega)
    have hI3 : XInv (ruG g b t n) := XInv_ru hI b n ⟨hb4, ht4⟩
    have hdb := dbt_r ((ruG g b t n) 15 t.toNat) (hI3.2.2.2.2.2 t.toNat (by omega))
    have e8 := ruR_1 (g := g) (b := b) (t := t) (n := n) hok
    refine lv_aload_n hx hb dL_isCompared_44 rfl (lv_at hl 1 rfl) ?_
    refine lv_iload_n hx hb dL_isCompared_45 rfl (lv_at hl 3 rfl) ?_
    refine lv_iload_n hx hb dL_isCompared_46 rfl (lv_at hl 4 rfl) ?_
    refine lv_iload hx hb dL_isCompared_47 (lv_at hl 5 rfl) ?_
    refine ri_xi (ri_runVX (b := a 0) (As := [.int (iI b), .int (iI t), .int (iI n)]) (rest := []) CF (k_X3_firstDifference l D a kk g sa hst b t n hA hI (by omega) (by omega) (by omega)) gL_isCompared_X3_firstDifference f_X3_firstDifference rfl (va_recv hK hP (ci := 3) (q0 := 0) rfl rfl) ⟨rfl, rfl, (Nat.le_of_ble_eq_true rfl), (Nat.le_of_ble_eq_true rfl), (Nat.le_of_ble_eq_true rfl), (Nat.le_of_ble_eq_true rfl)⟩ pB_bl (pB_i2 hS (fun _ h => Or.inl h) hT hP hK hN) rfl hl.1 rfl (Nat.le_of_ble_eq_true rfl) dL_isCompared_49) hS (fun _ h => Or.inl h) (fun X hX => Or.elim hX (fun z => absurd hok.1 z.2) (fun z => absurd hok.2 z.2.2)) (fun H_3 locs1 hB9 hz9 hk9 hS => ?_)
    replace hP : va_P D vwCl (xW a kk (g)) H_3 := hB9
    replace hP2 := hP2.un hk9 (x_un2 (ap_1 hAB))
    replace hz := Nat.le_trans hz hz9
    refine ri_eq (y := fdE (CD g b t n)) (rfl) ?_
    refine lv_istore (lv' := [(6, .int (iI (fdE (CD g b t n)))), (5, .int (iI (dfR g b t n))), (0, .ref (a 0)), (1, .ref (a2 0)), (2, .int (iI b)), (3, .int (iI t)), (4, .int (iI n))]) hx hb dL_isCompared_52 hl (by decide) rfl (fun ls hl => ?_)
    refine lv_aload_n hx hb dL_isCompared_54 rfl (lv_at hl 2 rfl) ?_
    refine lv_iload_n hx hb dL_isCompared_55 rfl (lv_at hl 4 rfl) ?_
    refine lv_iload_n hx hb dL_isCompared_56 rfl (lv_at hl 5 rfl) ?_
    refine lv_iload hx hb dL_isCompared_57 (lv_at hl 6 rfl) ?_
    refine ri_xi (ri_runVX (b := a 0) (As := [.int (iI b), .int (iI t), .int (iI n)]) (rest := []) CF (k_X3_move l D a kk g sa hst b t n hA hI (by omega) (by omega) (by omega)) gL_isCompared_X3_move f_X3_move rfl (va_recv hK hP (ci := 3) (q0 := 0) rfl rfl) ⟨rfl, rfl, (Nat.le_of_ble_eq_true rfl), (Nat.le_of_ble_eq_true rfl), (Nat.le_of_ble_eq_true rfl), (Nat.le_of_ble_eq_true rfl)⟩ pB_bl (pB_i2 hS (fun _ h => Or.inl h) hT hP hK hN) rfl hl.1 rfl (Nat.le_of_ble_eq_true rfl) dL_isCompared_59) hS (fun _ h => Or.inl h) (fun X hX => Or.elim hX (fun z => absurd hok.1 z.2) (fun z => absurd hok.2 z.2.2)) (fun H_4 locs1 hB9 hz9 hk9 hS => ?_)
    replace hP : va_P D vwCl (xW a kk (g)) H_4 := hB9
    replace hP2 := hP2.un hk9 (x_un2 (ap_1 hAB))
    replace hz := Nat.le_trans hz hz9
    refine ri_eq (y := mvV g b t n) (rfl) ?_
    refine lv_istore (lv' := [(7, .int (iI (mvV g b t n))), (6, .int (iI (fdE (CD g b t n)))), (5, .int (iI (dfR g b t n))), (0, .ref (a 0)), (1, .ref (a2 0)), (2, .int (iI b)), (3, .int (iI t)), (4, .int (iI n))]) hx hb dL_isCompared_62 hl (by decide) rfl (fun ls hl => ?_)
    refine lv_aload_n hx hb dL_isCompared_64 rfl (lv_at hl 3 rfl) ?_
    refine lv_iload_n hx hb dL_isCompared_65 rfl (lv_at hl 5 rfl) ?_
    refine lv_iload_n hx hb dL_isCompared_66 rfl (lv_at hl 6 rfl) ?_
    refine lv_iload hx hb dL_isCompared_67 (lv_at hl 7 rfl) ?_
    refine ri_xi (ri_runVX (b := a 0) (As := [.int (iI b), .int (iI t), .int (iI n)]) (rest := []) CF (k_X3_soft l D a kk g sa hst b t n hA hI (by omega) (by omega) (by omega)) gL_isCompared_X3_soft f_X3_soft rfl (va_recv hK hP (ci := 3) (q0 := 0) rfl rfl) ⟨rfl, rfl, (Nat.le_of_ble_eq_true rfl), (Nat.le_of_ble_eq_true rfl), (Nat.le_of_ble_eq_true rfl), (Nat.le_of_ble_eq_true rfl)⟩ pB_bl (pB_i2 hS (fun _ h => Or.inl h) hT hP hK hN) rfl hl.1 rfl (Nat.le_of_ble_eq_true rfl) dL_isCompared_69) hS (fun _ h => Or.inl h) (fun X hX => Or.elim hX (fun z => absurd hok.1 z.2) (fun z => absurd hok.2 z.2.2)) (fun H_5 locs1 hB9 hz9 hk9 hS => ?_)
    replace hP : va_P D vwCl (xW a kk (g)) H_5 := hB9
    replace hP2 := hP2.un hk9 (x_un2 (ap_1 hAB))
    replace hz := Nat.le_trans hz hz9
    refine ri_eq (y := sfV g b t n) (rfl) ?_
    refine lv_istore (lv' := [(8, .int (iI (sfV g b t n))), (7, .int (iI (mvV g b t n))), (6, .int (iI (fdE (CD g b t n)))), (5, .int (iI (dfR g b t n))), (0, .ref (a 0)), (1, .ref (a2 0)), (2, .int (iI b)), (3, .int (iI t)), (4, .int (iI n))]) hx hb dL_isCompared_72 hl (by decide) rfl (fun ls hl => ?_)
    refine lv_iload hx hb dL_isCompared_74 (lv_at hl 1 rfl) ?_
    refine ri_bipush hx hb dL_isCompared_76 (by decide) ?_
    refine ri_idiv hx hb (by omega) dL_isCompared_78 ?_
    refine ri_bipush hx hb dL_isCompared_79 (by decide) ?_
    refine ri_isub hx hb dL_isCompared_81 ?_
    refine lv_istore (lv' := [(9, .int (iI (((mvV g b t n) / 100) - 50))), (8, .int (iI (sfV g b t n))), (7, .int (iI (mvV g b t n))), (6, .int (iI (fdE (CD g b t n)))), (5, .int (iI (dfR g b t n))), (0, .ref (a 0)), (1, .ref (a2 0)), (2, .int (iI b)), (3, .int (iI t)), (4, .int (iI n))]) hx hb dL_isCompared_82 hl (by decide) rfl (fun ls hl => ?_)
    refine lv_iload hx hb dL_isCompared_84 (lv_at hl 2 rfl) ?_
    refine ri_bipush hx hb dL_isCompared_86 (by decide) ?_
    refine ri_irem hx hb (by omega) dL_isCompared_88 ?_
    refine ri_bipush hx hb dL_isCompared_89 (by decide) ?_
    refine ri_isub hx hb dL_isCompared_91 ?_
    refine lv_istore (lv' := [(10, .int (iI (((mvV g b t n) % 100) - 50))), (9, .int (iI (((mvV g b t n) / 100) - 50))), (8, .int (iI (sfV g b t n))), (7, .int (iI (mvV g b t n))), (6, .int (iI (fdE (CD g b t n)))), (5, .int (iI (dfR g b t n))), (0, .ref (a 0)), (1, .ref (a2 0)), (2, .int (iI b)), (3, .int (iI t)), (4, .int (iI n))]) hx hb dL_isCompared_92 hl (by decide) rfl (fun ls hl => ?_)
    refine lv_iload hx hb dL_isCompared_94 (lv_at hl 5 rfl) ?_
    refine ri_if_lt (tgt := 189) hx hb (by omega) dL_isCompared_96 (by decide) (fun c_6 => ?_) (fun c_6 => ?_)
    · skip
      exfalso; omega
    · skip
      refine lv_iload hx hb dL_isCompared_99 (lv_at hl 5 rfl) ?_
      refine ri_bipush hx hb dL_isCompared_101 (by decide) ?_
      refine ri_icmp_gt (tgt := 189) hx hb (by omega) dL_isCompared_103 (by decide) (fun c_7 => ?_) (fun c_7 => ?_)
      · skip
        exfalso; omega
      · skip
        refine lv_iload hx hb dL_isCompared_106 (lv_at hl 4 rfl) ?_
        refine ri_iconst hx hb dL_isCompared_108 ?_
        refine ri_icmp_ne (tgt := 116) hx hb (by omega) dL_isCompared_109 (by decide) (fun h109 => ?_) (fun h109 => ?_)
        · skip
          have e9 : ruR g b t n = 0 := by rw [e8, bp_f (by omega)]
          refine ri_iconst hx hb dL_isCompared_116 ?_
          refine lv_iload hx hb dL_isCompared_117 (lv_at hl 5 rfl) ?_
          refine ri_if_ne (tgt := 126) hx hb (by omega) dL_isCompared_119 (by decide) (fun h119 => ?_) (fun h119 => ?_)
          · skip
            refine ri_iconst hx hb dL_isCompared_126 ?_
            refine ri_icmp_ne (tgt := 189) hx hb (by omega) dL_isCompared_127 (by decide) (fun c_8 => ?_) (fun c_8 => ?_)
            · skip
              exfalso; omega
            · skip
              refine lv_iload hx hb dL_isCompared_130 (lv_at hl 4 rfl) ?_
              refine ri_bipush hx hb dL_isCompared_132 (by decide) ?_
              refine ri_icmp_ge (tgt := 189) hx hb (by omega) dL_isCompared_134 (by decide) (fun c_9 => ?_) (fun c_9 => ?_)
              · skip
                exfalso; omega
              · skip
                refine lv_iload hx hb dL_isCompared_137 (lv_at hl 4 rfl) ?_
                refine lv_iload hx hb dL_isCompared_139 (lv_at hl 5 rfl) ?_
                refine ri_iadd hx hb dL_isCompared_141 ?_
                refine ri_bipush hx hb dL_isCompared_142 (by decide) ?_
                refine ri_icmp_gt (tgt := 189) hx hb (by omega) dL_isCompared_144 (by decide) (fun c_10 => ?_) (fun c_10 => ?_)
                · skip
                  exfalso; omega
                · skip
                  refine lv_iload hx hb dL_isCompared_147 (lv_at hl 2 rfl) ?_
                  refine ri_if_lt (tgt := 189) hx hb (by omega) dL_isCompared_149 (by decide) (fun c_11 => ?_) (fun c_11 => ?_)
                  · skip
                    exfalso; omega
                  · skip
                    refine lv_iload hx hb dL_isCompared_152 (lv_at hl 2 rfl) ?_
                    refine ri_bipush hx hb dL_isCompared_154 (by decide) ?_
                    refine ri_icmp_gt (tgt := 189) hx hb (by omega) dL_isCompared_156 (by decide) (fun c_12 => ?_) (fun c_12 => ?_)
                    · skip
                      exfalso; omega
                    · skip
                      refine lv_iload hx hb dL_isCompared_159 (lv_at hl 1 rfl) ?_
                      refine ri_bipush hx hb dL_isCompared_161 (by decide) ?_
                      refine ri_icmp_lt (tgt := 189) hx hb (by omega) dL_isCompared_163 (by decide) (fun c_13 => ?_) (fun c_13 => ?_)
                      · skip
                        exfalso; omega
                      · skip
                        refine lv_iload hx hb dL_isCompared_166 (lv_at hl 1 rfl) ?_
                        refine ri_iconst hx hb dL_isCompared_168 ?_
                        refine ri_icmp_gt (tgt := 189) hx hb (by omega) dL_isCompared_169 (by decide) (fun c_14 => ?_) (fun c_14 => ?_)
                        · skip
                          exfalso; omega
                        · skip
                          refine lv_iload hx hb dL_isCompared_172 (lv_at hl 0 rfl) ?_
                          refine ri_bipush hx hb dL_isCompared_174 (by decide) ?_
                          refine ri_icmp_lt (tgt := 189) hx hb (by omega) dL_isCompared_176 (by decide) (fun c_15 => ?_) (fun c_15 => ?_)
                          · skip
                            exfalso; omega
                          · skip
                            refine lv_iload hx hb dL_isCompared_179 (lv_at hl 0 rfl) ?_
                            refine ri_iconst hx hb dL_isCompared_181 ?_
                            refine ri_icmp_gt (tgt := 189) hx hb (by omega) dL_isCompared_182 (by decide) (fun c_16 => ?_) (fun c_16 => ?_)
                            · skip
                              exfalso; omega
                            · skip
                              refine ri_iconst hx hb dL_isCompared_185 ?_
                              refine lv_goto (tgt := 190) hx hb dL_isCompared_186 (by decide) ?_
                              refine lv_istore (lv' := [(11, .int (iI 1)), (10, .int (iI (((mvV g b t n) % 100) - 50))), (9, .int (iI (((mvV g b t n) / 100) - 50))), (8, .int (iI (sfV g b t n))), (7, .int (iI (mvV g b t n))), (6, .int (iI (fdE (CD g b t n)))), (5, .int (iI (dfR g b t n))), (0, .ref (a 0)), (1, .ref (a2 0)), (2, .int (iI b)), (3, .int (iI t)), (4, .int (iI n))]) hx hb dL_isCompared_190 hl (by decide) rfl (fun ls hl => ?_)
                              refine lv_aload_n hx hb dL_isCompared_192 rfl (lv_at hl 7 rfl) ?_
                              refine lv_iload_n hx hb dL_isCompared_193 rfl (lv_at hl 10 rfl) ?_
                              refine ri_xi (ri_runVX (b := a 0) (As := [.int (iI t)]) (rest := []) CF (k_X3_runs l D a kk g sa hst t hA hI (by omega)) gL_isCompared_X3_runs f_X3_runs rfl (va_recv hK hP (ci := 3) (q0 := 0) rfl rfl) ⟨rfl, rfl, (Nat.le_of_ble_eq_true rfl), (Nat.le_of_ble_eq_true rfl), (Nat.le_of_ble_eq_true rfl), (Nat.le_of_ble_eq_true rfl)⟩ pB_bl (pB_i2 hS (fun _ h => Or.inl h) hT hP hK hN) rfl hl.1 rfl (Nat.le_of_ble_eq_true rfl) dL_isCompared_194) hS (fun _ h => Or.inl h) (fun X hX => absurd (show 0 ≤ t ∧ t ≤ 4 from hcm.2.1) hX.2) (fun H_17 locs1 hB9 hz9 hk9 hS => ?_)
                              replace hP : va_P D vwCl (xW a kk (g)) H_17 := hB9
                              replace hP2 := hP2.un hk9 (x_un2 (ap_1 hAB))
                              replace hz := Nat.le_trans hz hz9
                              refine lv_istore (lv' := [(12, .int (iI (g 16 t.toNat))), (11, .int (iI 1)), (10, .int (iI (((mvV g b t n) % 100) - 50))), (9, .int (iI (((mvV g b t n) / 100) - 50))), (8, .int (iI (sfV g b t n))), (7, .int (iI (mvV g b t n))), (6, .int (iI (fdE (CD g b t n)))), (5, .int (iI (dfR g b t n))), (0, .ref (a 0)), (1, .ref (a2 0)), (2, .int (iI b)), (3, .int (iI t)), (4, .int (iI n))]) hx hb dL_isCompared_197 hl (by decide) rfl (fun ls hl => ?_)
                              refine lv_aload_n hx hb dL_isCompared_199 rfl (lv_at hl 8 rfl) ?_
                              refine lv_iload_n hx hb dL_isCompared_200 rfl (lv_at hl 10 rfl) ?_
                              refine lv_iload_n hx hb dL_isCompared_201 rfl (lv_at hl 11 rfl) ?_
                              refine lv_iload hx hb dL_isCompared_202 (lv_at hl 12 rfl) ?_
                              refine ri_wz (v := ruR g b t n) (PP := (fun H => va_P D vwCl (xW a kk (ruG g b t n)) H ∧ (H_17).size ≤ H.size)) (vx_runSW (As := [.ref (a 0), .int (iI b), .int (iI t), .int (iI n)]) (rest := []) CF (kL_run l D a kk g sa (H_17).size hst b t n hA hI (by omega) (by omega) (by omega)) (vx_cwSW 4 hts gL_isCompared_L_run rfl rfl rfl ⟨by decide +kernel, by decide +kernel, by decide +kernel⟩ ⟨(Nat.le_of_ble_eq_true rfl), (Nat.le_of_ble_eq_true rfl)⟩) ⟨Bl_pc qB_bl, fun U hU hW9 => ⟨rfl, qB_in hS (fun _ h => Or.inl h) hT hP hK hN hC (Nat.le_refl _) U hU hW9⟩⟩ rfl rfl hl.1 rfl (lv_room (Nat.le_of_ble_eq_true rfl)) dL_isCompared_204 ⟨(Nat.le_of_ble_eq_true rfl), (Nat.le_of_ble_eq_true rfl)⟩) hS (fun _ h => Or.inl h) (fun H_18 locs1 hB9 hz9 hk9 hS => ?_)
                              replace hP : va_P D vwCl (xW a kk (ruG g b t n)) H_18 := hB9.1
                              replace hP2 := hP2.un hk9 (x_un2 (ap_1 hAB))
                              replace hz := Nat.le_trans hz hz9
                              refine lv_istore (lv' := [(13, .int (iI (ruR g b t n))), (12, .int (iI (g 16 t.toNat))), (11, .int (iI 1)), (10, .int (iI (((mvV g b t n) % 100) - 50))), (9, .int (iI (((mvV g b t n) / 100) - 50))), (8, .int (iI (sfV g b t n))), (7, .int (iI (mvV g b t n))), (6, .int (iI (fdE (CD g b t n)))), (5, .int (iI (dfR g b t n))), (0, .ref (a 0)), (1, .ref (a2 0)), (2, .int (iI b)), (3, .int (iI t)), (4, .int (iI n))]) hx hb dL_isCompared_207 hl (by decide) rfl (fun ls hl => ?_)
                              refine lv_iload hx hb dL_isCompared_209 (lv_at hl 2 rfl) ?_
                              refine ri_if_eq (tgt := 300) hx hb (by omega) dL_isCompared_211 (by decide) (fun c_19 => ?_) (fun c_19 => ?_)
                              · skip
                                exfalso; omega
                              · skip
                                refine lv_iload hx hb dL_isCompared_214 (lv_at hl 0 rfl) ?_
                                refine lv_iload hx hb dL_isCompared_216 (lv_at hl 8 rfl) ?_
                                refine ri_if_ne (tgt := 225) hx hb (by omega) dL_isCompared_218 (by decide) (fun h218 => ?_) (fun h218 => ?_)
                                · skip
                                  refine ri_iconst hx hb dL_isCompared_225 ?_
                                  refine ri_icmp_ne (tgt := 300) hx hb (by omega) dL_isCompared_226 (by decide) (fun c_20 => ?_) (fun c_20 => ?_)
                                  · skip
                                    exfalso; omega
                                  · skip
                                    refine lv_aload_n hx hb dL_isCompared_229 rfl (lv_at hl 10 rfl) ?_
                                    refine lv_iload_n hx hb dL_isCompared_230 rfl (lv_at hl 11 rfl) ?_
                                    refine lv_iload_n hx hb dL_isCompared_231 rfl (lv_at hl 12 rfl) ?_
                                    refine lv_iload hx hb dL_isCompared_232 (lv_at hl 13 rfl) ?_
                                    refine ri_wz (v := ruR g b t n) (PP := (fun H => va_P D vwCl (xW a2 kk (ruG g b t n)) H ∧ (H_18).size ≤ H.size)) (vx_runSW (As := [.ref (a2 0), .int (iI b), .int (iI t), .int (iI n)]) (rest := []) CF (kL_run l D a2 kk g sa (H_18).size hst b t n hA2 hI (by omega) (by omega) (by omega)) (vx_cwSW 4 hts gL_isCompared_L_run rfl rfl rfl ⟨by decide +kernel, by decide +kernel, by decide +kernel⟩ ⟨(Nat.le_of_ble_eq_true rfl), (Nat.le_of_ble_eq_true rfl)⟩) ⟨Bl_pc qB_bl, fun U hU hW9 => ⟨rfl, qB_in hS (fun _ h => Or.inr h) hT hP2 hK hN hC (Nat.le_refl _) U hU hW9⟩⟩ rfl rfl hl.1 rfl (lv_room (Nat.le_of_ble_eq_true rfl)) dL_isCompared_234 ⟨(Nat.le_of_ble_eq_true rfl), (Nat.le_of_ble_eq_true rfl)⟩) hS (fun _ h => Or.inr h) (fun H_21 locs1 hB9 hz9 hk9 hS => ?_)
                                    replace hP2 : va_P D vwCl (xW a2 kk (ruG g b t n)) H_21 := hB9.1
                                    replace hP := hP.un hk9 (x_un2 (ap_2 hAB))
                                    replace hz := Nat.le_trans hz hz9
                                    refine lv_iload hx hb dL_isCompared_237 (lv_at hl 0 rfl) ?_
                                    refine ri_icmp_ne (tgt := 300) hx hb (by omega) dL_isCompared_239 (by decide) (fun h239 => ?_) (fun h239 => ?_)
                                    · skip
                                      exact absurd rfl h239
                                    · skip
                                      refine lv_aload_n hx hb dL_isCompared_242 rfl (lv_at hl 9 rfl) ?_
                                      refine lv_iload_n hx hb dL_isCompared_243 rfl (lv_at hl 12 rfl) ?_
                                      refine ri_xi (ri_runVX (b := a 0) (As := [.int (iI t)]) (rest := []) CF (k_X3_runs l D a kk (ruG g b t n) sa hst t hA hI3 (by omega)) gL_isCompared_X3_runs f_X3_runs rfl (va_recv hK hP (ci := 3) (q0 := 0) rfl rfl) ⟨rfl, rfl, (Nat.le_of_ble_eq_true rfl), (Nat.le_of_ble_eq_true rfl), (Nat.le_of_ble_eq_true rfl), (Nat.le_of_ble_eq_true rfl)⟩ pB_bl (pB_i2 hS (fun _ h => Or.inl h) hT hP hK hN) rfl hl.1 rfl (Nat.le_of_ble_eq_true rfl) dL_isCompared_244) hS (fun _ h => Or.inl h) (fun X hX => absurd (show 0 ≤ t ∧ t ≤ 4 from hcm.2.1) hX.2) (fun H_22 locs1 hB9 hz9 hk9 hS => ?_)
                                      replace hP : va_P D vwCl (xW a kk (ruG g b t n)) H_22 := hB9
                                      replace hP2 := hP2.un hk9 (x_un2 (ap_1 hAB))
                                      replace hz := Nat.le_trans hz hz9
                                      refine lv_iload hx hb dL_isCompared_247 (lv_at hl 1 rfl) ?_
                                      refine ri_bipush hx hb dL_isCompared_249 (by decide) ?_
                                      refine ri_icmp_ge (tgt := 261) hx hb (by omega) dL_isCompared_251 (by decide) (fun h251 => ?_) (fun h251 => ?_)
                                      · skip
                                        refine ri_bipush hx hb dL_isCompared_261 (by decide) ?_
                                        refine ri_icmp_ne (tgt := 300) hx hb (by omega) dL_isCompared_263 (by decide) (fun c_23 => ?_) (fun c_23 => ?_)
                                        · skip
                                          exfalso; omega
                                        · skip
                                          refine lv_aload_n hx hb dL_isCompared_266 rfl (lv_at hl 9 rfl) ?_
                                          refine lv_iload_n hx hb dL_isCompared_267 rfl (lv_at hl 12 rfl) ?_
                                          refine ri_xi (ri_runVX (b := a 0) (As := [.int (iI t)]) (rest := []) CF (k_X3_doubt l D a kk (ruG g b t n) sa hst t hA hI3 (by omega)) gL_isCompared_X3_doubt f_X3_doubt rfl (va_recv hK hP (ci := 3) (q0 := 0) rfl rfl) ⟨rfl, rfl, (Nat.le_of_ble_eq_true rfl), (Nat.le_of_ble_eq_true rfl), (Nat.le_of_ble_eq_true rfl), (Nat.le_of_ble_eq_true rfl)⟩ pB_bl (pB_i2 hS (fun _ h => Or.inl h) hT hP hK hN) rfl hl.1 rfl (Nat.le_of_ble_eq_true rfl) dL_isCompared_268) hS (fun _ h => Or.inl h) (fun X hX => absurd (show 0 ≤ t ∧ t ≤ 4 from hcm.2.1) hX.2) (fun H_24 locs1 hB9 hz9 hk9 hS => ?_)
                                          replace hP : va_P D vwCl (xW a kk (ruG g b t n)) H_24 := hB9
                                          replace hP2 := hP2.un hk9 (x_un2 (ap_1 hAB))
                                          replace hz := Nat.le_trans hz hz9
                                          refine ri_if_lt (tgt := 300) hx hb (by omega) dL_isCompared_271 (by decide) (fun c_25 => ?_) (fun c_25 => ?_)
                                          · skip
                                            exfalso; omega
                                          · skip
                                            refine lv_aload_n hx hb dL_isCompared_274 rfl (lv_at hl 9 rfl) ?_
                                            refine lv_iload_n hx hb dL_isCompared_275 rfl (lv_at hl 12 rfl) ?_
                                            refine ri_xi (ri_runVX (b := a 0) (As := [.int (iI t)]) (rest := []) CF (k_X3_doubt l D a kk (ruG g b t n) sa hst t hA hI3 (by omega)) gL_isCompared_X3_doubt f_X3_doubt rfl (va_recv hK hP (ci := 3) (q0 := 0) rfl rfl) ⟨rfl, rfl, (Nat.le_of_ble_eq_true rfl), (Nat.le_of_ble_eq_true rfl), (Nat.le_of_ble_eq_true rfl), (Nat.le_of_ble_eq_true rfl)⟩ pB_bl (pB_i2 hS (fun _ h => Or.inl h) hT hP hK hN) rfl hl.1 rfl (Nat.le_of_ble_eq_true rfl) dL_isCompared_276) hS (fun _ h => Or.inl h) (fun X hX => absurd (show 0 ≤ t ∧ t ≤ 4 from hcm.2.1) hX.2) (fun H_26 locs1 hB9 hz9 hk9 hS => ?_)
                                            replace hP : va_P D vwCl (xW a kk (ruG g b t n)) H_26 := hB9
                                            replace hP2 := hP2.un hk9 (x_un2 (ap_1 hAB))
                                            replace hz := Nat.le_trans hz hz9
                                            refine ri_bipush hx hb dL_isCompared_279 (by decide) ?_
                                            refine ri_icmp_gt (tgt := 300) hx hb (by omega) dL_isCompared_281 (by decide) (fun c_27 => ?_) (fun c_27 => ?_)
                                            · skip
                                              exfalso; omega
                                            · skip
                                              refine lv_aload_n hx hb dL_isCompared_284 rfl (lv_at hl 9 rfl) ?_
                                              refine lv_iload_n hx hb dL_isCompared_285 rfl (lv_at hl 11 rfl) ?_
                                              refine lv_iload_n hx hb dL_isCompared_286 rfl (lv_at hl 12 rfl) ?_
                                              refine ri_sipush hx hb dL_isCompared_287 (by decide) ?_
                                              refine ri_xi (ri_runVX (b := a 0) (As := [.int (iI b), .int (iI t), .int (iI 255)]) (rest := []) CF (k_X3_differences l D a kk (ruG g b t n) sa hst b t 255 hA hI3 (by omega) (by omega) (by omega)) gL_isCompared_X3_differences f_X3_differences rfl (va_recv hK hP (ci := 3) (q0 := 0) rfl rfl) ⟨rfl, rfl, (Nat.le_of_ble_eq_true rfl), (Nat.le_of_ble_eq_true rfl), (Nat.le_of_ble_eq_true rfl), (Nat.le_of_ble_eq_true rfl)⟩ pB_bl (pB_i2 hS (fun _ h => Or.inl h) hT hP hK hN) rfl hl.1 rfl (Nat.le_of_ble_eq_true rfl) dL_isCompared_290) hS (fun _ h => Or.inl h) (fun X hX => Or.elim hX (fun z => absurd hok5.1 z.2) (fun z => absurd hok5.2 z.2.2)) (fun H_28 locs1 hB9 hz9 hk9 hS => ?_)
                                              replace hP : va_P D vwCl (xW a kk (ruG g b t n)) H_28 := hB9
                                              replace hP2 := hP2.un hk9 (x_un2 (ap_1 hAB))
                                              replace hz := Nat.le_trans hz hz9
                                              refine ri_eq (y := 0) (cnt_255 hI3 hcm.1 ⟨hb4, ht4⟩) ?_
                                              refine ri_if_ne (tgt := 300) hx hb (by omega) dL_isCompared_293 (by decide) (fun c_29 => ?_) (fun c_29 => ?_)
                                              · skip
                                                exfalso; omega
                                              · skip
                                                refine ri_iconst hx hb dL_isCompared_296 ?_
                                                refine lv_goto (tgt := 301) hx hb dL_isCompared_297 (by decide) ?_
                                                refine W.widen (k := 20) (n := 120) (by omega) (by omega) ?_
                                                exact ri_zretW (A := bA a a2) (PP := (fun H => va_P D vwCl (xW a kk (ruG g b t n)) H ∧ va_P D vwCl (xW a2 kk (ruG g b t n)) H ∧ N ≤ H.size)) hx hb hr hlocks hS ⟨hP, hP2, hz⟩ (Or.inr rfl) dL_isCompared_301 rfl
                                      · skip
                                        refine lv_iload hx hb dL_isCompared_254 (lv_at hl 1 rfl) ?_
                                        refine ri_iconst hx hb dL_isCompared_256 ?_
                                        refine ri_iadd hx hb dL_isCompared_257 ?_
                                        refine lv_goto (tgt := 263) hx hb dL_isCompared_258 (by decide) ?_
                                        refine ri_icmp_ne (tgt := 300) hx hb (by omega) dL_isCompared_263 (by decide) (fun c_30 => ?_) (fun c_30 => ?_)
                                        · skip
                                          exfalso; omega
                                        · skip
                                          refine lv_aload_n hx hb dL_isCompared_266 rfl (lv_at hl 9 rfl) ?_
                                          refine lv_iload_n hx hb dL_isCompared_267 rfl (lv_at hl 12 rfl) ?_
                                          refine ri_xi (ri_runVX (b := a 0) (As := [.int (iI t)]) (rest := []) CF (k_X3_doubt l D a kk (ruG g b t n) sa hst t hA hI3 (by omega)) gL_isCompared_X3_doubt f_X3_doubt rfl (va_recv hK hP (ci := 3) (q0 := 0) rfl rfl) ⟨rfl, rfl, (Nat.le_of_ble_eq_true rfl), (Nat.le_of_ble_eq_true rfl), (Nat.le_of_ble_eq_true rfl), (Nat.le_of_ble_eq_true rfl)⟩ pB_bl (pB_i2 hS (fun _ h => Or.inl h) hT hP hK hN) rfl hl.1 rfl (Nat.le_of_ble_eq_true rfl) dL_isCompared_268) hS (fun _ h => Or.inl h) (fun X hX => absurd (show 0 ≤ t ∧ t ≤ 4 from hcm.2.1) hX.2) (fun H_31 locs1 hB9 hz9 hk9 hS => ?_)
                                          replace hP : va_P D vwCl (xW a kk (ruG g b t n)) H_31 := hB9
                                          replace hP2 := hP2.un hk9 (x_un2 (ap_1 hAB))
                                          replace hz := Nat.le_trans hz hz9
                                          refine ri_if_lt (tgt := 300) hx hb (by omega) dL_isCompared_271 (by decide) (fun c_32 => ?_) (fun c_32 => ?_)
                                          · skip
                                            exfalso; omega
                                          · skip
                                            refine lv_aload_n hx hb dL_isCompared_274 rfl (lv_at hl 9 rfl) ?_
                                            refine lv_iload_n hx hb dL_isCompared_275 rfl (lv_at hl 12 rfl) ?_
                                            refine ri_xi (ri_runVX (b := a 0) (As := [.int (iI t)]) (rest := []) CF (k_X3_doubt l D a kk (ruG g b t n) sa hst t hA hI3 (by omega)) gL_isCompared_X3_doubt f_X3_doubt rfl (va_recv hK hP (ci := 3) (q0 := 0) rfl rfl) ⟨rfl, rfl, (Nat.le_of_ble_eq_true rfl), (Nat.le_of_ble_eq_true rfl), (Nat.le_of_ble_eq_true rfl), (Nat.le_of_ble_eq_true rfl)⟩ pB_bl (pB_i2 hS (fun _ h => Or.inl h) hT hP hK hN) rfl hl.1 rfl (Nat.le_of_ble_eq_true rfl) dL_isCompared_276) hS (fun _ h => Or.inl h) (fun X hX => absurd (show 0 ≤ t ∧ t ≤ 4 from hcm.2.1) hX.2) (fun H_33 locs1 hB9 hz9 hk9 hS => ?_)
                                            replace hP : va_P D vwCl (xW a kk (ruG g b t n)) H_33 := hB9
                                            replace hP2 := hP2.un hk9 (x_un2 (ap_1 hAB))
                                            replace hz := Nat.le_trans hz hz9
                                            refine ri_bipush hx hb dL_isCompared_279 (by decide) ?_
                                            refine ri_icmp_gt (tgt := 300) hx hb (by omega) dL_isCompared_281 (by decide) (fun c_34 => ?_) (fun c_34 => ?_)
                                            · skip
                                              exfalso; omega
                                            · skip
                                              refine lv_aload_n hx hb dL_isCompared_284 rfl (lv_at hl 9 rfl) ?_
                                              refine lv_iload_n hx hb dL_isCompared_285 rfl (lv_at hl 11 rfl) ?_
                                              refine lv_iload_n hx hb dL_isCompared_286 rfl (lv_at hl 12 rfl) ?_
                                              refine ri_sipush hx hb dL_isCompared_287 (by decide) ?_
                                              refine ri_xi (ri_runVX (b := a 0) (As := [.int (iI b), .int (iI t), .int (iI 255)]) (rest := []) CF (k_X3_differences l D a kk (ruG g b t n) sa hst b t 255 hA hI3 (by omega) (by omega) (by omega)) gL_isCompared_X3_differences f_X3_differences rfl (va_recv hK hP (ci := 3) (q0 := 0) rfl rfl) ⟨rfl, rfl, (Nat.le_of_ble_eq_true rfl), (Nat.le_of_ble_eq_true rfl), (Nat.le_of_ble_eq_true rfl), (Nat.le_of_ble_eq_true rfl)⟩ pB_bl (pB_i2 hS (fun _ h => Or.inl h) hT hP hK hN) rfl hl.1 rfl (Nat.le_of_ble_eq_true rfl) dL_isCompared_290) hS (fun _ h => Or.inl h) (fun X hX => Or.elim hX (fun z => absurd hok5.1 z.2) (fun z => absurd hok5.2 z.2.2)) (fun H_35 locs1 hB9 hz9 hk9 hS => ?_)
                                              replace hP : va_P D vwCl (xW a kk (ruG g b t n)) H_35 := hB9
                                              replace hP2 := hP2.un hk9 (x_un2 (ap_1 hAB))
                                              replace hz := Nat.le_trans hz hz9
                                              refine ri_eq (y := 0) (cnt_255 hI3 hcm.1 ⟨hb4, ht4⟩) ?_
                                              refine ri_if_ne (tgt := 300) hx hb (by omega) dL_isCompared_293 (by decide) (fun c_36 => ?_) (fun c_36 => ?_)
                                              · skip
                                                exfalso; omega
                                              · skip
                                                refine ri_iconst hx hb dL_isCompared_296 ?_
                                                refine lv_goto (tgt := 301) hx hb dL_isCompared_297 (by decide) ?_
                                                refine W.widen (k := 20) (n := 120) (by omega) (by omega) ?_
                                                exact ri_zretW (A := bA a a2) (PP := (fun H => va_P D vwCl (xW a kk (ruG g b t n)) H ∧ va_P D vwCl (xW a2 kk (ruG g b t n)) H ∧ N ≤ H.size)) hx hb hr hlocks hS ⟨hP, hP2, hz⟩ (Or.inr rfl) dL_isCompared_301 rfl
                                · skip
                                  refine ri_iconst hx hb dL_isCompared_221 ?_
                                  refine lv_goto (tgt := 226) hx hb dL_isCompared_222 (by decide) ?_
                                  refine ri_icmp_ne (tgt := 300) hx hb (by omega) dL_isCompared_226 (by decide) (fun c_37 => ?_) (fun c_37 => ?_)
                                  · skip
                                    exfalso; omega
                                  · skip
                                    refine lv_aload_n hx hb dL_isCompared_229 rfl (lv_at hl 10 rfl) ?_
                                    refine lv_iload_n hx hb dL_isCompared_230 rfl (lv_at hl 11 rfl) ?_
                                    refine lv_iload_n hx hb dL_isCompared_231 rfl (lv_at hl 12 rfl) ?_
                                    refine lv_iload hx hb dL_isCompared_232 (lv_at hl 13 rfl) ?_
                                    refine ri_wz (v := ruR g b t n) (PP := (fun H => va_P D vwCl (xW a2 kk (ruG g b t n)) H ∧ (H_18).size ≤ H.size)) (vx_runSW (As := [.ref (a2 0), .int (iI b), .int (iI t), .int (iI n)]) (rest := []) CF (kL_run l D a2 kk g sa (H_18).size hst b t n hA2 hI (by omega) (by omega) (by omega)) (vx_cwSW 4 hts gL_isCompared_L_run rfl rfl rfl ⟨by decide +kernel, by decide +kernel, by decide +kernel⟩ ⟨(Nat.le_of_ble_eq_true rfl), (Nat.le_of_ble_eq_true rfl)⟩) ⟨Bl_pc qB_bl, fun U hU hW9 => ⟨rfl, qB_in hS (fun _ h => Or.inr h) hT hP2 hK hN hC (Nat.le_refl _) U hU hW9⟩⟩ rfl rfl hl.1 rfl (lv_room (Nat.le_of_ble_eq_true rfl)) dL_isCompared_234 ⟨(Nat.le_of_ble_eq_true rfl), (Nat.le_of_ble_eq_true rfl)⟩) hS (fun _ h => Or.inr h) (fun H_38 locs1 hB9 hz9 hk9 hS => ?_)
                                    replace hP2 : va_P D vwCl (xW a2 kk (ruG g b t n)) H_38 := hB9.1
                                    replace hP := hP.un hk9 (x_un2 (ap_2 hAB))
                                    replace hz := Nat.le_trans hz hz9
                                    refine lv_iload hx hb dL_isCompared_237 (lv_at hl 0 rfl) ?_
                                    refine ri_icmp_ne (tgt := 300) hx hb (by omega) dL_isCompared_239 (by decide) (fun h239 => ?_) (fun h239 => ?_)
                                    · skip
                                      exact absurd rfl h239
                                    · skip
                                      refine lv_aload_n hx hb dL_isCompared_242 rfl (lv_at hl 9 rfl) ?_
                                      refine lv_iload_n hx hb dL_isCompared_243 rfl (lv_at hl 12 rfl) ?_
                                      refine ri_xi (ri_runVX (b := a 0) (As := [.int (iI t)]) (rest := []) CF (k_X3_runs l D a kk (ruG g b t n) sa hst t hA hI3 (by omega)) gL_isCompared_X3_runs f_X3_runs rfl (va_recv hK hP (ci := 3) (q0 := 0) rfl rfl) ⟨rfl, rfl, (Nat.le_of_ble_eq_true rfl), (Nat.le_of_ble_eq_true rfl), (Nat.le_of_ble_eq_true rfl), (Nat.le_of_ble_eq_true rfl)⟩ pB_bl (pB_i2 hS (fun _ h => Or.inl h) hT hP hK hN) rfl hl.1 rfl (Nat.le_of_ble_eq_true rfl) dL_isCompared_244) hS (fun _ h => Or.inl h) (fun X hX => absurd (show 0 ≤ t ∧ t ≤ 4 from hcm.2.1) hX.2) (fun H_39 locs1 hB9 hz9 hk9 hS => ?_)
                                      replace hP : va_P D vwCl (xW a kk (ruG g b t n)) H_39 := hB9
                                      replace hP2 := hP2.un hk9 (x_un2 (ap_1 hAB))
                                      replace hz := Nat.le_trans hz hz9
                                      refine lv_iload hx hb dL_isCompared_247 (lv_at hl 1 rfl) ?_
                                      refine ri_bipush hx hb dL_isCompared_249 (by decide) ?_
                                      refine ri_icmp_ge (tgt := 261) hx hb (by omega) dL_isCompared_251 (by decide) (fun h251 => ?_) (fun h251 => ?_)
                                      · skip
                                        refine ri_bipush hx hb dL_isCompared_261 (by decide) ?_
                                        refine ri_icmp_ne (tgt := 300) hx hb (by omega) dL_isCompared_263 (by decide) (fun c_40 => ?_) (fun c_40 => ?_)
                                        · skip
                                          exfalso; omega
                                        · skip
                                          refine lv_aload_n hx hb dL_isCompared_266 rfl (lv_at hl 9 rfl) ?_
                                          refine lv_iload_n hx hb dL_isCompared_267 rfl (lv_at hl 12 rfl) ?_
                                          refine ri_xi (ri_runVX (b := a 0) (As := [.int (iI t)]) (rest := []) CF (k_X3_doubt l D a kk (ruG g b t n) sa hst t hA hI3 (by omega)) gL_isCompared_X3_doubt f_X3_doubt rfl (va_recv hK hP (ci := 3) (q0 := 0) rfl rfl) ⟨rfl, rfl, (Nat.le_of_ble_eq_true rfl), (Nat.le_of_ble_eq_true rfl), (Nat.le_of_ble_eq_true rfl), (Nat.le_of_ble_eq_true rfl)⟩ pB_bl (pB_i2 hS (fun _ h => Or.inl h) hT hP hK hN) rfl hl.1 rfl (Nat.le_of_ble_eq_true rfl) dL_isCompared_268) hS (fun _ h => Or.inl h) (fun X hX => absurd (show 0 ≤ t ∧ t ≤ 4 from hcm.2.1) hX.2) (fun H_41 locs1 hB9 hz9 hk9 hS => ?_)
                                          replace hP : va_P D vwCl (xW a kk (ruG g b t n)) H_41 := hB9
                                          replace hP2 := hP2.un hk9 (x_un2 (ap_1 hAB))
                                          replace hz := Nat.le_trans hz hz9
                                          refine ri_if_lt (tgt := 300) hx hb (by omega) dL_isCompared_271 (by decide) (fun c_42 => ?_) (fun c_42 => ?_)
                                          · skip
                                            exfalso; omega
                                          · skip
                                            refine lv_aload_n hx hb dL_isCompared_274 rfl (lv_at hl 9 rfl) ?_
                                            refine lv_iload_n hx hb dL_isCompared_275 rfl (lv_at hl 12 rfl) ?_
                                            refine ri_xi (ri_runVX (b := a 0) (As := [.int (iI t)]) (rest := []) CF (k_X3_doubt l D a kk (ruG g b t n) sa hst t hA hI3 (by omega)) gL_isCompared_X3_doubt f_X3_doubt rfl (va_recv hK hP (ci := 3) (q0 := 0) rfl rfl) ⟨rfl, rfl, (Nat.le_of_ble_eq_true rfl), (Nat.le_of_ble_eq_true rfl), (Nat.le_of_ble_eq_true rfl), (Nat.le_of_ble_eq_true rfl)⟩ pB_bl (pB_i2 hS (fun _ h => Or.inl h) hT hP hK hN) rfl hl.1 rfl (Nat.le_of_ble_eq_true rfl) dL_isCompared_276) hS (fun _ h => Or.inl h) (fun X hX => absurd (show 0 ≤ t ∧ t ≤ 4 from hcm.2.1) hX.2) (fun H_43 locs1 hB9 hz9 hk9 hS => ?_)
                                            replace hP : va_P D vwCl (xW a kk (ruG g b t n)) H_43 := hB9
                                            replace hP2 := hP2.un hk9 (x_un2 (ap_1 hAB))
                                            replace hz := Nat.le_trans hz hz9
                                            refine ri_bipush hx hb dL_isCompared_279 (by decide) ?_
                                            refine ri_icmp_gt (tgt := 300) hx hb (by omega) dL_isCompared_281 (by decide) (fun c_44 => ?_) (fun c_44 => ?_)
                                            · skip
                                              exfalso; omega
                                            · skip
                                              refine lv_aload_n hx hb dL_isCompared_284 rfl (lv_at hl 9 rfl) ?_
                                              refine lv_iload_n hx hb dL_isCompared_285 rfl (lv_at hl 11 rfl) ?_
                                              refine lv_iload_n hx hb dL_isCompared_286 rfl (lv_at hl 12 rfl) ?_
                                              refine ri_sipush hx hb dL_isCompared_287 (by decide) ?_
                                              refine ri_xi (ri_runVX (b := a 0) (As := [.int (iI b), .int (iI t), .int (iI 255)]) (rest := []) CF (k_X3_differences l D a kk (ruG g b t n) sa hst b t 255 hA hI3 (by omega) (by omega) (by omega)) gL_isCompared_X3_differences f_X3_differences rfl (va_recv hK hP (ci := 3) (q0 := 0) rfl rfl) ⟨rfl, rfl, (Nat.le_of_ble_eq_true rfl), (Nat.le_of_ble_eq_true rfl), (Nat.le_of_ble_eq_true rfl), (Nat.le_of_ble_eq_true rfl)⟩ pB_bl (pB_i2 hS (fun _ h => Or.inl h) hT hP hK hN) rfl hl.1 rfl (Nat.le_of_ble_eq_true rfl) dL_isCompared_290) hS (fun _ h => Or.inl h) (fun X hX => Or.elim hX (fun z => absurd hok5.1 z.2) (fun z => absurd hok5.2 z.2.2)) (fun H_45 locs1 hB9 hz9 hk9 hS => ?_)
                                              replace hP : va_P D vwCl (xW a kk (ruG g b t n)) H_45 := hB9
                                              replace hP2 := hP2.un hk9 (x_un2 (ap_1 hAB))
                                              replace hz := Nat.le_trans hz hz9
                                              refine ri_eq (y := 0) (cnt_255 hI3 hcm.1 ⟨hb4, ht4⟩) ?_
                                              refine ri_if_ne (tgt := 300) hx hb (by omega) dL_isCompared_293 (by decide) (fun c_46 => ?_) (fun c_46 => ?_)
                                              · skip
                                                exfalso; omega
                                              · skip
                                                refine ri_iconst hx hb dL_isCompared_296 ?_
                                                refine lv_goto (tgt := 301) hx hb dL_isCompared_297 (by decide) ?_
                                                refine W.widen (k := 20) (n := 120) (by omega) (by omega) ?_
                                                exact ri_zretW (A := bA a a2) (PP := (fun H => va_P D vwCl (xW a kk (ruG g b t n)) H ∧ va_P D vwCl (xW a2 kk (ruG g b t n)) H ∧ N ≤ H.size)) hx hb hr hlocks hS ⟨hP, hP2, hz⟩ (Or.inr rfl) dL_isCompared_301 rfl
                                      · skip
                                        refine lv_iload hx hb dL_isCompared_254 (lv_at hl 1 rfl) ?_
                                        refine ri_iconst hx hb dL_isCompared_256 ?_
                                        refine ri_iadd hx hb dL_isCompared_257 ?_
                                        refine lv_goto (tgt := 263) hx hb dL_isCompared_258 (by decide) ?_
                                        refine ri_icmp_ne (tgt := 300) hx hb (by omega) dL_isCompared_263 (by decide) (fun c_47 => ?_) (fun c_47 => ?_)
                                        · skip
                                          exfalso; omega
                                        · skip
                                          refine lv_aload_n hx hb dL_isCompared_266 rfl (lv_at hl 9 rfl) ?_
                                          refine lv_iload_n hx hb dL_isCompared_267 rfl (lv_at hl 12 rfl) ?_
                                          refine ri_xi (ri_runVX (b := a 0) (As := [.int (iI t)]) (rest := []) CF (k_X3_doubt l D a kk (ruG g b t n) sa hst t hA hI3 (by omega)) gL_isCompared_X3_doubt f_X3_doubt rfl (va_recv hK hP (ci := 3) (q0 := 0) rfl rfl) ⟨rfl, rfl, (Nat.le_of_ble_eq_true rfl), (Nat.le_of_ble_eq_true rfl), (Nat.le_of_ble_eq_true rfl), (Nat.le_of_ble_eq_true rfl)⟩ pB_bl (pB_i2 hS (fun _ h => Or.inl h) hT hP hK hN) rfl hl.1 rfl (Nat.le_of_ble_eq_true rfl) dL_isCompared_268) hS (fun _ h => Or.inl h) (fun X hX => absurd (show 0 ≤ t ∧ t ≤ 4 from hcm.2.1) hX.2) (fun H_48 locs1 hB9 hz9 hk9 hS => ?_)
                                          replace hP : va_P D vwCl (xW a kk (ruG g b t n)) H_48 := hB9
                                          replace hP2 := hP2.un hk9 (x_un2 (ap_1 hAB))
                                          replace hz := Nat.le_trans hz hz9
                                          refine ri_if_lt (tgt := 300) hx hb (by omega) dL_isCompared_271 (by decide) (fun c_49 => ?_) (fun c_49 => ?_)
                                          · skip
                                            exfalso; omega
                                          · skip
                                            refine lv_aload_n hx hb dL_isCompared_274 rfl (lv_at hl 9 rfl) ?_
                                            refine lv_iload_n hx hb dL_isCompared_275 rfl (lv_at hl 12 rfl) ?_
                                            refine ri_xi (ri_runVX (b := a 0) (As := [.int (iI t)]) (rest := []) CF (k_X3_doubt l D a kk (ruG g b t n) sa hst t hA hI3 (by omega)) gL_isCompared_X3_doubt f_X3_doubt rfl (va_recv hK hP (ci := 3) (q0 := 0) rfl rfl) ⟨rfl, rfl, (Nat.le_of_ble_eq_true rfl), (Nat.le_of_ble_eq_true rfl), (Nat.le_of_ble_eq_true rfl), (Nat.le_of_ble_eq_true rfl)⟩ pB_bl (pB_i2 hS (fun _ h => Or.inl h) hT hP hK hN) rfl hl.1 rfl (Nat.le_of_ble_eq_true rfl) dL_isCompared_276) hS (fun _ h => Or.inl h) (fun X hX => absurd (show 0 ≤ t ∧ t ≤ 4 from hcm.2.1) hX.2) (fun H_50 locs1 hB9 hz9 hk9 hS => ?_)
                                            replace hP : va_P D vwCl (xW a kk (ruG g b t n)) H_50 := hB9
                                            replace hP2 := hP2.un hk9 (x_un2 (ap_1 hAB))
                                            replace hz := Nat.le_trans hz hz9
                                            refine ri_bipush hx hb dL_isCompared_279 (by decide) ?_
                                            refine ri_icmp_gt (tgt := 300) hx hb (by omega) dL_isCompared_281 (by decide) (fun c_51 => ?_) (fun c_51 => ?_)
                                            · skip
                                              exfalso; omega
                                            · skip
                                              refine lv_aload_n hx hb dL_isCompared_284 rfl (lv_at hl 9 rfl) ?_
                                              refine lv_iload_n hx hb dL_isCompared_285 rfl (lv_at hl 11 rfl) ?_
                                              refine lv_iload_n hx hb dL_isCompared_286 rfl (lv_at hl 12 rfl) ?_
                                              refine ri_sipush hx hb dL_isCompared_287 (by decide) ?_
                                              refine ri_xi (ri_runVX (b := a 0) (As := [.int (iI b), .int (iI t), .int (iI 255)]) (rest := []) CF (k_X3_differences l D a kk (ruG g b t n) sa hst b t 255 hA hI3 (by omega) (by omega) (by omega)) gL_isCompared_X3_differences f_X3_differences rfl (va_recv hK hP (ci := 3) (q0 := 0) rfl rfl) ⟨rfl, rfl, (Nat.le_of_ble_eq_true rfl), (Nat.le_of_ble_eq_true rfl), (Nat.le_of_ble_eq_true rfl), (Nat.le_of_ble_eq_true rfl)⟩ pB_bl (pB_i2 hS (fun _ h => Or.inl h) hT hP hK hN) rfl hl.1 rfl (Nat.le_of_ble_eq_true rfl) dL_isCompared_290) hS (fun _ h => Or.inl h) (fun X hX => Or.elim hX (fun z => absurd hok5.1 z.2) (fun z => absurd hok5.2 z.2.2)) (fun H_52 locs1 hB9 hz9 hk9 hS => ?_)
                                              replace hP : va_P D vwCl (xW a kk (ruG g b t n)) H_52 := hB9
                                              replace hP2 := hP2.un hk9 (x_un2 (ap_1 hAB))
                                              replace hz := Nat.le_trans hz hz9
                                              refine ri_eq (y := 0) (cnt_255 hI3 hcm.1 ⟨hb4, ht4⟩) ?_
                                              refine ri_if_ne (tgt := 300) hx hb (by omega) dL_isCompared_293 (by decide) (fun c_53 => ?_) (fun c_53 => ?_)
                                              · skip
                                                exfalso; omega
                                              · skip
                                                refine ri_iconst hx hb dL_isCompared_296 ?_
                                                refine lv_goto (tgt := 301) hx hb dL_isCompared_297 (by decide) ?_
                                                refine W.widen (k := 20) (n := 120) (by omega) (by omega) ?_
                                                exact ri_zretW (A := bA a a2) (PP := (fun H => va_P D vwCl (xW a kk (ruG g b t n)) H ∧ va_P D vwCl (xW a2 kk (ruG g b t n)) H ∧ N ≤ H.size)) hx hb hr hlocks hS ⟨hP, hP2, hz⟩ (Or.inr rfl) dL_isCompared_301 rfl
          · skip
            refine ri_iconst hx hb dL_isCompared_122 ?_
            refine lv_goto (tgt := 127) hx hb dL_isCompared_123 (by decide) ?_
            refine ri_icmp_ne (tgt := 189) hx hb (by omega) dL_isCompared_127 (by decide) (fun c_54 => ?_) (fun c_54 => ?_)
            · skip
              exfalso; omega
            · skip
              refine lv_iload hx hb dL_isCompared_130 (lv_at hl 4 rfl) ?_
              refine ri_bipush hx hb dL_isCompared_132 (by decide) ?_
              refine ri_icmp_ge (tgt := 189) hx hb (by omega) dL_isCompared_134 (by decide) (fun c_55 => ?_) (fun c_55 => ?_)
              · skip
                exfalso; omega
              · skip
                refine lv_iload hx hb dL_isCompared_137 (lv_at hl 4 rfl) ?_
                refine lv_iload hx hb dL_isCompared_139 (lv_at hl 5 rfl) ?_
                refine ri_iadd hx hb dL_isCompared_141 ?_
                refine ri_bipush hx hb dL_isCompared_142 (by decide) ?_
                refine ri_icmp_gt (tgt := 189) hx hb (by omega) dL_isCompared_144 (by decide) (fun c_56 => ?_) (fun c_56 => ?_)
                · skip
                  exfalso; omega
                · skip
                  refine lv_iload hx hb dL_isCompared_147 (lv_at hl 2 rfl) ?_
                  refine ri_if_lt (tgt := 189) hx hb (by omega) dL_isCompared_149 (by decide) (fun c_57 => ?_) (fun c_57 => ?_)
                  · skip
                    exfalso; omega
                  · skip
                    refine lv_iload hx hb dL_isCompared_152 (lv_at hl 2 rfl) ?_
                    refine ri_bipush hx hb dL_isCompared_154 (by decide) ?_
                    refine ri_icmp_gt (tgt := 189) hx hb (by omega) dL_isCompared_156 (by decide) (fun c_58 => ?_) (fun c_58 => ?_)
                    · skip
                      exfalso; omega
                    · skip
                      refine lv_iload hx hb dL_isCompared_159 (lv_at hl 1 rfl) ?_
                      refine ri_bipush hx hb dL_isCompared_161 (by decide) ?_
                      refine ri_icmp_lt (tgt := 189) hx hb (by omega) dL_isCompared_163 (by decide) (fun c_59 => ?_) (fun c_59 => ?_)
                      · skip
                        exfalso; omega
                      · skip
                        refine lv_iload hx hb dL_isCompared_166 (lv_at hl 1 rfl) ?_
                        refine ri_iconst hx hb dL_isCompared_168 ?_
                        refine ri_icmp_gt (tgt := 189) hx hb (by omega) dL_isCompared_169 (by decide) (fun c_60 => ?_) (fun c_60 => ?_)
                        · skip
                          exfalso; omega
                        · skip
                          refine lv_iload hx hb dL_isCompared_172 (lv_at hl 0 rfl) ?_
                          refine ri_bipush hx hb dL_isCompared_174 (by decide) ?_
                          refine ri_icmp_lt (tgt := 189) hx hb (by omega) dL_isCompared_176 (by decide) (fun c_61 => ?_) (fun c_61 => ?_)
                          · skip
                            exfalso; omega
                          · skip
                            refine lv_iload hx hb dL_isCompared_179 (lv_at hl 0 rfl) ?_
                            refine ri_iconst hx hb dL_isCompared_181 ?_
                            refine ri_icmp_gt (tgt := 189) hx hb (by omega) dL_isCompared_182 (by decide) (fun c_62 => ?_) (fun c_62 => ?_)
                            · skip
                              exfalso; omega
                            · skip
                              refine ri_iconst hx hb dL_isCompared_185 ?_
                              refine lv_goto (tgt := 190) hx hb dL_isCompared_186 (by decide) ?_
                              refine lv_istore (lv' := [(11, .int (iI 1)), (10, .int (iI (((mvV g b t n) % 100) - 50))), (9, .int (iI (((mvV g b t n) / 100) - 50))), (8, .int (iI (sfV g b t n))), (7, .int (iI (mvV g b t n))), (6, .int (iI (fdE (CD g b t n)))), (5, .int (iI (dfR g b t n))), (0, .ref (a 0)), (1, .ref (a2 0)), (2, .int (iI b)), (3, .int (iI t)), (4, .int (iI n))]) hx hb dL_isCompared_190 hl (by decide) rfl (fun ls hl => ?_)
                              refine lv_aload_n hx hb dL_isCompared_192 rfl (lv_at hl 7 rfl) ?_
                              refine lv_iload_n hx hb dL_isCompared_193 rfl (lv_at hl 10 rfl) ?_
                              refine ri_xi (ri_runVX (b := a 0) (As := [.int (iI t)]) (rest := []) CF (k_X3_runs l D a kk g sa hst t hA hI (by omega)) gL_isCompared_X3_runs f_X3_runs rfl (va_recv hK hP (ci := 3) (q0 := 0) rfl rfl) ⟨rfl, rfl, (Nat.le_of_ble_eq_true rfl), (Nat.le_of_ble_eq_true rfl), (Nat.le_of_ble_eq_true rfl), (Nat.le_of_ble_eq_true rfl)⟩ pB_bl (pB_i2 hS (fun _ h => Or.inl h) hT hP hK hN) rfl hl.1 rfl (Nat.le_of_ble_eq_true rfl) dL_isCompared_194) hS (fun _ h => Or.inl h) (fun X hX => absurd (show 0 ≤ t ∧ t ≤ 4 from hcm.2.1) hX.2) (fun H_63 locs1 hB9 hz9 hk9 hS => ?_)
                              replace hP : va_P D vwCl (xW a kk (g)) H_63 := hB9
                              replace hP2 := hP2.un hk9 (x_un2 (ap_1 hAB))
                              replace hz := Nat.le_trans hz hz9
                              refine lv_istore (lv' := [(12, .int (iI (g 16 t.toNat))), (11, .int (iI 1)), (10, .int (iI (((mvV g b t n) % 100) - 50))), (9, .int (iI (((mvV g b t n) / 100) - 50))), (8, .int (iI (sfV g b t n))), (7, .int (iI (mvV g b t n))), (6, .int (iI (fdE (CD g b t n)))), (5, .int (iI (dfR g b t n))), (0, .ref (a 0)), (1, .ref (a2 0)), (2, .int (iI b)), (3, .int (iI t)), (4, .int (iI n))]) hx hb dL_isCompared_197 hl (by decide) rfl (fun ls hl => ?_)
                              refine lv_aload_n hx hb dL_isCompared_199 rfl (lv_at hl 8 rfl) ?_
                              refine lv_iload_n hx hb dL_isCompared_200 rfl (lv_at hl 10 rfl) ?_
                              refine lv_iload_n hx hb dL_isCompared_201 rfl (lv_at hl 11 rfl) ?_
                              refine lv_iload hx hb dL_isCompared_202 (lv_at hl 12 rfl) ?_
                              refine ri_wz (v := ruR g b t n) (PP := (fun H => va_P D vwCl (xW a kk (ruG g b t n)) H ∧ (H_63).size ≤ H.size)) (vx_runSW (As := [.ref (a 0), .int (iI b), .int (iI t), .int (iI n)]) (rest := []) CF (kL_run l D a kk g sa (H_63).size hst b t n hA hI (by omega) (by omega) (by omega)) (vx_cwSW 4 hts gL_isCompared_L_run rfl rfl rfl ⟨by decide +kernel, by decide +kernel, by decide +kernel⟩ ⟨(Nat.le_of_ble_eq_true rfl), (Nat.le_of_ble_eq_true rfl)⟩) ⟨Bl_pc qB_bl, fun U hU hW9 => ⟨rfl, qB_in hS (fun _ h => Or.inl h) hT hP hK hN hC (Nat.le_refl _) U hU hW9⟩⟩ rfl rfl hl.1 rfl (lv_room (Nat.le_of_ble_eq_true rfl)) dL_isCompared_204 ⟨(Nat.le_of_ble_eq_true rfl), (Nat.le_of_ble_eq_true rfl)⟩) hS (fun _ h => Or.inl h) (fun H_64 locs1 hB9 hz9 hk9 hS => ?_)
                              replace hP : va_P D vwCl (xW a kk (ruG g b t n)) H_64 := hB9.1
                              replace hP2 := hP2.un hk9 (x_un2 (ap_1 hAB))
                              replace hz := Nat.le_trans hz hz9
                              refine lv_istore (lv' := [(13, .int (iI (ruR g b t n))), (12, .int (iI (g 16 t.toNat))), (11, .int (iI 1)), (10, .int (iI (((mvV g b t n) % 100) - 50))), (9, .int (iI (((mvV g b t n) / 100) - 50))), (8, .int (iI (sfV g b t n))), (7, .int (iI (mvV g b t n))), (6, .int (iI (fdE (CD g b t n)))), (5, .int (iI (dfR g b t n))), (0, .ref (a 0)), (1, .ref (a2 0)), (2, .int (iI b)), (3, .int (iI t)), (4, .int (iI n))]) hx hb dL_isCompared_207 hl (by decide) rfl (fun ls hl => ?_)
                              refine lv_iload hx hb dL_isCompared_209 (lv_at hl 2 rfl) ?_
                              refine ri_if_eq (tgt := 300) hx hb (by omega) dL_isCompared_211 (by decide) (fun c_65 => ?_) (fun c_65 => ?_)
                              · skip
                                exfalso; omega
                              · skip
                                refine lv_iload hx hb dL_isCompared_214 (lv_at hl 0 rfl) ?_
                                refine lv_iload hx hb dL_isCompared_216 (lv_at hl 8 rfl) ?_
                                refine ri_if_ne (tgt := 225) hx hb (by omega) dL_isCompared_218 (by decide) (fun h218 => ?_) (fun h218 => ?_)
                                · skip
                                  refine ri_iconst hx hb dL_isCompared_225 ?_
                                  refine ri_icmp_ne (tgt := 300) hx hb (by omega) dL_isCompared_226 (by decide) (fun c_66 => ?_) (fun c_66 => ?_)
                                  · skip
                                    exfalso; omega
                                  · skip
                                    refine lv_aload_n hx hb dL_isCompared_229 rfl (lv_at hl 10 rfl) ?_
                                    refine lv_iload_n hx hb dL_isCompared_230 rfl (lv_at hl 11 rfl) ?_
                                    refine lv_iload_n hx hb dL_isCompared_231 rfl (lv_at hl 12 rfl) ?_
                                    refine lv_iload hx hb dL_isCompared_232 (lv_at hl 13 rfl) ?_
                                    refine ri_wz (v := ruR g b t n) (PP := (fun H => va_P D vwCl (xW a2 kk (ruG g b t n)) H ∧ (H_64).size ≤ H.size)) (vx_runSW (As := [.ref (a2 0), .int (iI b), .int (iI t), .int (iI n)]) (rest := []) CF (kL_run l D a2 kk g sa (H_64).size hst b t n hA2 hI (by omega) (by omega) (by omega)) (vx_cwSW 4 hts gL_isCompared_L_run rfl rfl rfl ⟨by decide +kernel, by decide +kernel, by decide +kernel⟩ ⟨(Nat.le_of_ble_eq_true rfl), (Nat.le_of_ble_eq_true rfl)⟩) ⟨Bl_pc qB_bl, fun U hU hW9 => ⟨rfl, qB_in hS (fun _ h => Or.inr h) hT hP2 hK hN hC (Nat.le_refl _) U hU hW9⟩⟩ rfl rfl hl.1 rfl (lv_room (Nat.le_of_ble_eq_true rfl)) dL_isCompared_234 ⟨(Nat.le_of_ble_eq_true rfl), (Nat.le_of_ble_eq_true rfl)⟩) hS (fun _ h => Or.inr h) (fun H_67 locs1 hB9 hz9 hk9 hS => ?_)
                                    replace hP2 : va_P D vwCl (xW a2 kk (ruG g b t n)) H_67 := hB9.1
                                    replace hP := hP.un hk9 (x_un2 (ap_2 hAB))
                                    replace hz := Nat.le_trans hz hz9
                                    refine lv_iload hx hb dL_isCompared_237 (lv_at hl 0 rfl) ?_
                                    refine ri_icmp_ne (tgt := 300) hx hb (by omega) dL_isCompared_239 (by decide) (fun h239 => ?_) (fun h239 => ?_)
                                    · skip
                                      exact absurd rfl h239
                                    · skip
                                      refine lv_aload_n hx hb dL_isCompared_242 rfl (lv_at hl 9 rfl) ?_
                                      refine lv_iload_n hx hb dL_isCompared_243 rfl (lv_at hl 12 rfl) ?_
                                      refine ri_xi (ri_runVX (b := a 0) (As := [.int (iI t)]) (rest := []) CF (k_X3_runs l D a kk (ruG g b t n) sa hst t hA hI3 (by omega)) gL_isCompared_X3_runs f_X3_runs rfl (va_recv hK hP (ci := 3) (q0 := 0) rfl rfl) ⟨rfl, rfl, (Nat.le_of_ble_eq_true rfl), (Nat.le_of_ble_eq_true rfl), (Nat.le_of_ble_eq_true rfl), (Nat.le_of_ble_eq_true rfl)⟩ pB_bl (pB_i2 hS (fun _ h => Or.inl h) hT hP hK hN) rfl hl.1 rfl (Nat.le_of_ble_eq_true rfl) dL_isCompared_244) hS (fun _ h => Or.inl h) (fun X hX => absurd (show 0 ≤ t ∧ t ≤ 4 from hcm.2.1) hX.2) (fun H_68 locs1 hB9 hz9 hk9 hS => ?_)
                                      replace hP : va_P D vwCl (xW a kk (ruG g b t n)) H_68 := hB9
                                      replace hP2 := hP2.un hk9 (x_un2 (ap_1 hAB))
                                      replace hz := Nat.le_trans hz hz9
                                      refine lv_iload hx hb dL_isCompared_247 (lv_at hl 1 rfl) ?_
                                      refine ri_bipush hx hb dL_isCompared_249 (by decide) ?_
                                      refine ri_icmp_ge (tgt := 261) hx hb (by omega) dL_isCompared_251 (by decide) (fun h251 => ?_) (fun h251 => ?_)
                                      · skip
                                        refine ri_bipush hx hb dL_isCompared_261 (by decide) ?_
                                        refine ri_icmp_ne (tgt := 300) hx hb (by omega) dL_isCompared_263 (by decide) (fun c_69 => ?_) (fun c_69 => ?_)
                                        · skip
                                          exfalso; omega
                                        · skip
                                          refine lv_aload_n hx hb dL_isCompared_266 rfl (lv_at hl 9 rfl) ?_
                                          refine lv_iload_n hx hb dL_isCompared_267 rfl (lv_at hl 12 rfl) ?_
                                          refine ri_xi (ri_runVX (b := a 0) (As := [.int (iI t)]) (rest := []) CF (k_X3_doubt l D a kk (ruG g b t n) sa hst t hA hI3 (by omega)) gL_isCompared_X3_doubt f_X3_doubt rfl (va_recv hK hP (ci := 3) (q0 := 0) rfl rfl) ⟨rfl, rfl, (Nat.le_of_ble_eq_true rfl), (Nat.le_of_ble_eq_true rfl), (Nat.le_of_ble_eq_true rfl), (Nat.le_of_ble_eq_true rfl)⟩ pB_bl (pB_i2 hS (fun _ h => Or.inl h) hT hP hK hN) rfl hl.1 rfl (Nat.le_of_ble_eq_true rfl) dL_isCompared_268) hS (fun _ h => Or.inl h) (fun X hX => absurd (show 0 ≤ t ∧ t ≤ 4 from hcm.2.1) hX.2) (fun H_70 locs1 hB9 hz9 hk9 hS => ?_)
                                          replace hP : va_P D vwCl (xW a kk (ruG g b t n)) H_70 := hB9
                                          replace hP2 := hP2.un hk9 (x_un2 (ap_1 hAB))
                                          replace hz := Nat.le_trans hz hz9
                                          refine ri_if_lt (tgt := 300) hx hb (by omega) dL_isCompared_271 (by decide) (fun c_71 => ?_) (fun c_71 => ?_)
                                          · skip
                                            exfalso; omega
                                          · skip
                                            refine lv_aload_n hx hb dL_isCompared_274 rfl (lv_at hl 9 rfl) ?_
                                            refine lv_iload_n hx hb dL_isCompared_275 rfl (lv_at hl 12 rfl) ?_
                                            refine ri_xi (ri_runVX (b := a 0) (As := [.int (iI t)]) (rest := []) CF (k_X3_doubt l D a kk (ruG g b t n) sa hst t hA hI3 (by omega)) gL_isCompared_X3_doubt f_X3_doubt rfl (va_recv hK hP (ci := 3) (q0 := 0) rfl rfl) ⟨rfl, rfl, (Nat.le_of_ble_eq_true rfl), (Nat.le_of_ble_eq_true rfl), (Nat.le_of_ble_eq_true rfl), (Nat.le_of_ble_eq_true rfl)⟩ pB_bl (pB_i2 hS (fun _ h => Or.inl h) hT hP hK hN) rfl hl.1 rfl (Nat.le_of_ble_eq_true rfl) dL_isCompared_276) hS (fun _ h => Or.inl h) (fun X hX => absurd (show 0 ≤ t ∧ t ≤ 4 from hcm.2.1) hX.2) (fun H_72 locs1 hB9 hz9 hk9 hS => ?_)
                                            replace hP : va_P D vwCl (xW a kk (ruG g b t n)) H_72 := hB9
                                            replace hP2 := hP2.un hk9 (x_un2 (ap_1 hAB))
                                            replace hz := Nat.le_trans hz hz9
                                            refine ri_bipush hx hb dL_isCompared_279 (by decide) ?_
                                            refine ri_icmp_gt (tgt := 300) hx hb (by omega) dL_isCompared_281 (by decide) (fun c_73 => ?_) (fun c_73 => ?_)
                                            · skip
                                              exfalso; omega
                                            · skip
                                              refine lv_aload_n hx hb dL_isCompared_284 rfl (lv_at hl 9 rfl) ?_
                                              refine lv_iload_n hx hb dL_isCompared_285 rfl (lv_at hl 11 rfl) ?_
                                              refine lv_iload_n hx hb dL_isCompared_286 rfl (lv_at hl 12 rfl) ?_
                                              refine ri_sipush hx hb dL_isCompared_287 (by decide) ?_
                                              refine ri_xi (ri_runVX (b := a 0) (As := [.int (iI b), .int (iI t), .int (iI 255)]) (rest := []) CF (k_X3_differences l D a kk (ruG g b t n) sa hst b t 255 hA hI3 (by omega) (by omega) (by omega)) gL_isCompared_X3_differences f_X3_differences rfl (va_recv hK hP (ci := 3) (q0 := 0) rfl rfl) ⟨rfl, rfl, (Nat.le_of_ble_eq_true rfl), (Nat.le_of_ble_eq_true rfl), (Nat.le_of_ble_eq_true rfl), (Nat.le_of_ble_eq_true rfl)⟩ pB_bl (pB_i2 hS (fun _ h => Or.inl h) hT hP hK hN) rfl hl.1 rfl (Nat.le_of_ble_eq_true rfl) dL_isCompared_290) hS (fun _ h => Or.inl h) (fun X hX => Or.elim hX (fun z => absurd hok5.1 z.2) (fun z => absurd hok5.2 z.2.2)) (fun H_74 locs1 hB9 hz9 hk9 hS => ?_)
                                              replace hP : va_P D vwCl (xW a kk (ruG g b t n)) H_74 := hB9
                                              replace hP2 := hP2.un hk9 (x_un2 (ap_1 hAB))
                                              replace hz := Nat.le_trans hz hz9
                                              refine ri_eq (y := 0) (cnt_255 hI3 hcm.1 ⟨hb4, ht4⟩) ?_
                                              refine ri_if_ne (tgt := 300) hx hb (by omega) dL_isCompared_293 (by decide) (fun c_75 => ?_) (fun c_75 => ?_)
                                              · skip
                                                exfalso; omega
                                              · skip
                                                refine ri_iconst hx hb dL_isCompared_296 ?_
                                                refine lv_goto (tgt := 301) hx hb dL_isCompared_297 (by decide) ?_
                                                refine W.widen (k := 20) (n := 120) (by omega) (by omega) ?_
                                                exact ri_zretW (A := bA a a2) (PP := (fun H => va_P D vwCl (xW a kk (ruG g b t n)) H ∧ va_P D vwCl (xW a2 kk (ruG g b t n)) H ∧ N ≤ H.size)) hx hb hr hlocks hS ⟨hP, hP2, hz⟩ (Or.inr rfl) dL_isCompared_301 rfl
                                      · skip
                                        refine lv_iload hx hb dL_isCompared_254 (lv_at hl 1 rfl) ?_
                                        refine ri_iconst hx hb dL_isCompared_256 ?_
                                        refine ri_iadd hx hb dL_isCompared_257 ?_
                                        refine lv_goto (tgt := 263) hx hb dL_isCompared_258 (by decide) ?_
                                        refine ri_icmp_ne (tgt := 300) hx hb (by omega) dL_isCompared_263 (by decide) (fun c_76 => ?_) (fun c_76 => ?_)
                                        · skip
                                          exfalso; omega
                                        · skip
                                          refine lv_aload_n hx hb dL_isCompared_266 rfl (lv_at hl 9 rfl) ?_
                                          refine lv_iload_n hx hb dL_isCompared_267 rfl (lv_at hl 12 rfl) ?_
                                          refine ri_xi (ri_runVX (b := a 0) (As := [.int (iI t)]) (rest := []) CF (k_X3_doubt l D a kk (ruG g b t n) sa hst t hA hI3 (by omega)) gL_isCompared_X3_doubt f_X3_doubt rfl (va_recv hK hP (ci := 3) (q0 := 0) rfl rfl) ⟨rfl, rfl, (Nat.le_of_ble_eq_true rfl), (Nat.le_of_ble_eq_true rfl), (Nat.le_of_ble_eq_true rfl), (Nat.le_of_ble_eq_true rfl)⟩ pB_bl (pB_i2 hS (fun _ h => Or.inl h) hT hP hK hN) rfl hl.1 rfl (Nat.le_of_ble_eq_true rfl) dL_isCompared_268) hS (fun _ h => Or.inl h) (fun X hX => absurd (show 0 ≤ t ∧ t ≤ 4 from hcm.2.1) hX.2) (fun H_77 locs1 hB9 hz9 hk9 hS => ?_)
                                          replace hP : va_P D vwCl (xW a kk (ruG g b t n)) H_77 := hB9
                                          replace hP2 := hP2.un hk9 (x_un2 (ap_1 hAB))
                                          replace hz := Nat.le_trans hz hz9
                                          refine ri_if_lt (tgt := 300) hx hb (by omega) dL_isCompared_271 (by decide) (fun c_78 => ?_) (fun c_78 => ?_)
                                          · skip
                                            exfalso; omega
                                          · skip
                                            refine lv_aload_n hx hb dL_isCompared_274 rfl (lv_at hl 9 rfl) ?_
                                            refine lv_iload_n hx hb dL_isCompared_275 rfl (lv_at hl 12 rfl) ?_
                                            refine ri_xi (ri_runVX (b := a 0) (As := [.int (iI t)]) (rest := []) CF (k_X3_doubt l D a kk (ruG g b t n) sa hst t hA hI3 (by omega)) gL_isCompared_X3_doubt f_X3_doubt rfl (va_recv hK hP (ci := 3) (q0 := 0) rfl rfl) ⟨rfl, rfl, (Nat.le_of_ble_eq_true rfl), (Nat.le_of_ble_eq_true rfl), (Nat.le_of_ble_eq_true rfl), (Nat.le_of_ble_eq_true rfl)⟩ pB_bl (pB_i2 hS (fun _ h => Or.inl h) hT hP hK hN) rfl hl.1 rfl (Nat.le_of_ble_eq_true rfl) dL_isCompared_276) hS (fun _ h => Or.inl h) (fun X hX => absurd (show 0 ≤ t ∧ t ≤ 4 from hcm.2.1) hX.2) (fun H_79 locs1 hB9 hz9 hk9 hS => ?_)
                                            replace hP : va_P D vwCl (xW a kk (ruG g b t n)) H_79 := hB9
                                            replace hP2 := hP2.un hk9 (x_un2 (ap_1 hAB))
                                            replace hz := Nat.le_trans hz hz9
                                            refine ri_bipush hx hb dL_isCompared_279 (by decide) ?_
                                            refine ri_icmp_gt (tgt := 300) hx hb (by omega) dL_isCompared_281 (by decide) (fun c_80 => ?_) (fun c_80 => ?_)
                                            · skip
                                              exfalso; omega
                                            · skip
                                              refine lv_aload_n hx hb dL_isCompared_284 rfl (lv_at hl 9 rfl) ?_
                                              refine lv_iload_n hx hb dL_isCompared_285 rfl (lv_at hl 11 rfl) ?_
                                              refine lv_iload_n hx hb dL_isCompared_286 rfl (lv_at hl 12 rfl) ?_
                                              refine ri_sipush hx hb dL_isCompared_287 (by decide) ?_
                                              refine ri_xi (ri_runVX (b := a 0) (As := [.int (iI b), .int (iI t), .int (iI 255)]) (rest := []) CF (k_X3_differences l D a kk (ruG g b t n) sa hst b t 255 hA hI3 (by omega) (by omega) (by omega)) gL_isCompared_X3_differences f_X3_differences rfl (va_recv hK hP (ci := 3) (q0 := 0) rfl rfl) ⟨rfl, rfl, (Nat.le_of_ble_eq_true rfl), (Nat.le_of_ble_eq_true rfl), (Nat.le_of_ble_eq_true rfl), (Nat.le_of_ble_eq_true rfl)⟩ pB_bl (pB_i2 hS (fun _ h => Or.inl h) hT hP hK hN) rfl hl.1 rfl (Nat.le_of_ble_eq_true rfl) dL_isCompared_290) hS (fun _ h => Or.inl h) (fun X hX => Or.elim hX (fun z => absurd hok5.1 z.2) (fun z => absurd hok5.2 z.2.2)) (fun H_81 locs1 hB9 hz9 hk9 hS => ?_)
                                              replace hP : va_P D vwCl (xW a kk (ruG g b t n)) H_81 := hB9
                                              replace hP2 := hP2.un hk9 (x_un2 (ap_1 hAB))
                                              replace hz := Nat.le_trans hz hz9
                                              refine ri_eq (y := 0) (cnt_255 hI3 hcm.1 ⟨hb4, ht4⟩) ?_
                                              refine ri_if_ne (tgt := 300) hx hb (by omega) dL_isCompared_293 (by decide) (fun c_82 => ?_) (fun c_82 => ?_)
                                              · skip
                                                exfalso; omega
                                              · skip
                                                refine ri_iconst hx hb dL_isCompared_296 ?_
                                                refine lv_goto (tgt := 301) hx hb dL_isCompared_297 (by decide) ?_
                                                refine W.widen (k := 20) (n := 120) (by omega) (by omega) ?_
                                                exact ri_zretW (A := bA a a2) (PP := (fun H => va_P D vwCl (xW a kk (ruG g b t n)) H ∧ va_P D vwCl (xW a2 kk (ruG g b t n)) H ∧ N ≤ H.size)) hx hb hr hlocks hS ⟨hP, hP2, hz⟩ (Or.inr rfl) dL_isCompared_301 rfl
                                · skip
                                  refine ri_iconst hx hb dL_isCompared_221 ?_
                                  refine lv_goto (tgt := 226) hx hb dL_isCompared_222 (by decide) ?_
                                  refine ri_icmp_ne (tgt := 300) hx hb (by omega) dL_isCompared_226 (by decide) (fun c_83 => ?_) (fun c_83 => ?_)
                                  · skip
                                    exfalso; omega
                                  · skip
                                    refine lv_aload_n hx hb dL_isCompared_229 rfl (lv_at hl 10 rfl) ?_
                                    refine lv_iload_n hx hb dL_isCompared_230 rfl (lv_at hl 11 rfl) ?_
                                    refine lv_iload_n hx hb dL_isCompared_231 rfl (lv_at hl 12 rfl) ?_
                                    refine lv_iload hx hb dL_isCompared_232 (lv_at hl 13 rfl) ?_
                                    refine ri_wz (v := ruR g b t n) (PP := (fun H => va_P D vwCl (xW a2 kk (ruG g b t n)) H ∧ (H_64).size ≤ H.size)) (vx_runSW (As := [.ref (a2 0), .int (iI b), .int (iI t), .int (iI n)]) (rest := []) CF (kL_run l D a2 kk g sa (H_64).size hst b t n hA2 hI (by omega) (by omega) (by omega)) (vx_cwSW 4 hts gL_isCompared_L_run rfl rfl rfl ⟨by decide +kernel, by decide +kernel, by decide +kernel⟩ ⟨(Nat.le_of_ble_eq_true rfl), (Nat.le_of_ble_eq_true rfl)⟩) ⟨Bl_pc qB_bl, fun U hU hW9 => ⟨rfl, qB_in hS (fun _ h => Or.inr h) hT hP2 hK hN hC (Nat.le_refl _) U hU hW9⟩⟩ rfl rfl hl.1 rfl (lv_room (Nat.le_of_ble_eq_true rfl)) dL_isCompared_234 ⟨(Nat.le_of_ble_eq_true rfl), (Nat.le_of_ble_eq_true rfl)⟩) hS (fun _ h => Or.inr h) (fun H_84 locs1 hB9 hz9 hk9 hS => ?_)
                                    replace hP2 : va_P D vwCl (xW a2 kk (ruG g b t n)) H_84 := hB9.1
                                    replace hP := hP.un hk9 (x_un2 (ap_2 hAB))
                                    replace hz := Nat.le_trans hz hz9
                                    refine lv_iload hx hb dL_isCompared_237 (lv_at hl 0 rfl) ?_
                                    refine ri_icmp_ne (tgt := 300) hx hb (by omega) dL_isCompared_239 (by decide) (fun h239 => ?_) (fun h239 => ?_)
                                    · skip
                                      exact absurd rfl h239
                                    · skip
                                      refine lv_aload_n hx hb dL_isCompared_242 rfl (lv_at hl 9 rfl) ?_
                                      refine lv_iload_n hx hb dL_isCompared_243 rfl (lv_at hl 12 rfl) ?_
                                      refine ri_xi (ri_runVX (b := a 0) (As := [.int (iI t)]) (rest := []) CF (k_X3_runs l D a kk (ruG g b t n) sa hst t hA hI3 (by omega)) gL_isCompared_X3_runs f_X3_runs rfl (va_recv hK hP (ci := 3) (q0 := 0) rfl rfl) ⟨rfl, rfl, (Nat.le_of_ble_eq_true rfl), (Nat.le_of_ble_eq_true rfl), (Nat.le_of_ble_eq_true rfl), (Nat.le_of_ble_eq_true rfl)⟩ pB_bl (pB_i2 hS (fun _ h => Or.inl h) hT hP hK hN) rfl hl.1 rfl (Nat.le_of_ble_eq_true rfl) dL_isCompared_244) hS (fun _ h => Or.inl h) (fun X hX => absurd (show 0 ≤ t ∧ t ≤ 4 from hcm.2.1) hX.2) (fun H_85 locs1 hB9 hz9 hk9 hS => ?_)
                                      replace hP : va_P D vwCl (xW a kk (ruG g b t n)) H_85 := hB9
                                      replace hP2 := hP2.un hk9 (x_un2 (ap_1 hAB))
                                      replace hz := Nat.le_trans hz hz9
                                      refine lv_iload hx hb dL_isCompared_247 (lv_at hl 1 rfl) ?_
                                      refine ri_bipush hx hb dL_isCompared_249 (by decide) ?_
                                      refine ri_icmp_ge (tgt := 261) hx hb (by omega) dL_isCompared_251 (by decide) (fun h251 => ?_) (fun h251 => ?_)
                                      · skip
                                        refine ri_bipush hx hb dL_isCompared_261 (by decide) ?_
                                        refine ri_icmp_ne (tgt := 300) hx hb (by omega) dL_isCompared_263 (by decide) (fun c_86 => ?_) (fun c_86 => ?_)
                                        · skip
                                          exfalso; omega
                                        · skip
                                          refine lv_aload_n hx hb dL_isCompared_266 rfl (lv_at hl 9 rfl) ?_
                                          refine lv_iload_n hx hb dL_isCompared_267 rfl (lv_at hl 12 rfl) ?_
                                          refine ri_xi (ri_runVX (b := a 0) (As := [.int (iI t)]) (rest := []) CF (k_X3_doubt l D a kk (ruG g b t n) sa hst t hA hI3 (by omega)) gL_isCompared_X3_doubt f_X3_doubt rfl (va_recv hK hP (ci := 3) (q0 := 0) rfl rfl) ⟨rfl, rfl, (Nat.le_of_ble_eq_true rfl), (Nat.le_of_ble_eq_true rfl), (Nat.le_of_ble_eq_true rfl), (Nat.le_of_ble_eq_true rfl)⟩ pB_bl (pB_i2 hS (fun _ h => Or.inl h) hT hP hK hN) rfl hl.1 rfl (Nat.le_of_ble_eq_true rfl) dL_isCompared_268) hS (fun _ h => Or.inl h) (fun X hX => absurd (show 0 ≤ t ∧ t ≤ 4 from hcm.2.1) hX.2) (fun H_87 locs1 hB9 hz9 hk9 hS => ?_)
                                          replace hP : va_P D vwCl (xW a kk (ruG g b t n)) H_87 := hB9
                                          replace hP2 := hP2.un hk9 (x_un2 (ap_1 hAB))
                                          replace hz := Nat.le_trans hz hz9
                                          refine ri_if_lt (tgt := 300) hx hb (by omega) dL_isCompared_271 (by decide) (fun c_88 => ?_) (fun c_88 => ?_)
                                          · skip
                                            exfalso; omega
                                          · skip
                                            refine lv_aload_n hx hb dL_isCompared_274 rfl (lv_at hl 9 rfl) ?_
                                            refine lv_iload_n hx hb dL_isCompared_275 rfl (lv_at hl 12 rfl) ?_
                                            refine ri_xi (ri_runVX (b := a 0) (As := [.int (iI t)]) (rest := []) CF (k_X3_doubt l D a kk (ruG g b t n) sa hst t hA hI3 (by omega)) gL_isCompared_X3_doubt f_X3_doubt rfl (va_recv hK hP (ci := 3) (q0 := 0) rfl rfl) ⟨rfl, rfl, (Nat.le_of_ble_eq_true rfl), (Nat.le_of_ble_eq_true rfl), (Nat.le_of_ble_eq_true rfl), (Nat.le_of_ble_eq_true rfl)⟩ pB_bl (pB_i2 hS (fun _ h => Or.inl h) hT hP hK hN) rfl hl.1 rfl (Nat.le_of_ble_eq_true rfl) dL_isCompared_276) hS (fun _ h => Or.inl h) (fun X hX => absurd (show 0 ≤ t ∧ t ≤ 4 from hcm.2.1) hX.2) (fun H_89 locs1 hB9 hz9 hk9 hS => ?_)
                                            replace hP : va_P D vwCl (xW a kk (ruG g b t n)) H_89 := hB9
                                            replace hP2 := hP2.un hk9 (x_un2 (ap_1 hAB))
                                            replace hz := Nat.le_trans hz hz9
                                            refine ri_bipush hx hb dL_isCompared_279 (by decide) ?_
                                            refine ri_icmp_gt (tgt := 300) hx hb (by omega) dL_isCompared_281 (by decide) (fun c_90 => ?_) (fun c_90 => ?_)
                                            · skip
                                              exfalso; omega
                                            · skip
                                              refine lv_aload_n hx hb dL_isCompared_284 rfl (lv_at hl 9 rfl) ?_
                                              refine lv_iload_n hx hb dL_isCompared_285 rfl (lv_at hl 11 rfl) ?_
                                              refine lv_iload_n hx hb dL_isCompared_286 rfl (lv_at hl 12 rfl) ?_
                                              refine ri_sipush hx hb dL_isCompared_287 (by decide) ?_
                                              refine ri_xi (ri_runVX (b := a 0) (As := [.int (iI b), .int (iI t), .int (iI 255)]) (rest := []) CF (k_X3_differences l D a kk (ruG g b t n) sa hst b t 255 hA hI3 (by omega) (by omega) (by omega)) gL_isCompared_X3_differences f_X3_differences rfl (va_recv hK hP (ci := 3) (q0 := 0) rfl rfl) ⟨rfl, rfl, (Nat.le_of_ble_eq_true rfl), (Nat.le_of_ble_eq_true rfl), (Nat.le_of_ble_eq_true rfl), (Nat.le_of_ble_eq_true rfl)⟩ pB_bl (pB_i2 hS (fun _ h => Or.inl h) hT hP hK hN) rfl hl.1 rfl (Nat.le_of_ble_eq_true rfl) dL_isCompared_290) hS (fun _ h => Or.inl h) (fun X hX => Or.elim hX (fun z => absurd hok5.1 z.2) (fun z => absurd hok5.2 z.2.2)) (fun H_91 locs1 hB9 hz9 hk9 hS => ?_)
                                              replace hP : va_P D vwCl (xW a kk (ruG g b t n)) H_91 := hB9
                                              replace hP2 := hP2.un hk9 (x_un2 (ap_1 hAB))
                                              replace hz := Nat.le_trans hz hz9
                                              refine ri_eq (y := 0) (cnt_255 hI3 hcm.1 ⟨hb4, ht4⟩) ?_
                                              refine ri_if_ne (tgt := 300) hx hb (by omega) dL_isCompared_293 (by decide) (fun c_92 => ?_) (fun c_92 => ?_)
                                              · skip
                                                exfalso; omega
                                              · skip
                                                refine ri_iconst hx hb dL_isCompared_296 ?_
                                                refine lv_goto (tgt := 301) hx hb dL_isCompared_297 (by decide) ?_
                                                refine W.widen (k := 20) (n := 120) (by omega) (by omega) ?_
                                                exact ri_zretW (A := bA a a2) (PP := (fun H => va_P D vwCl (xW a kk (ruG g b t n)) H ∧ va_P D vwCl (xW a2 kk (ruG g b t n)) H ∧ N ≤ H.size)) hx hb hr hlocks hS ⟨hP, hP2, hz⟩ (Or.inr rfl) dL_isCompared_301 rfl
                                      · skip
                                        refine lv_iload hx hb dL_isCompared_254 (lv_at hl 1 rfl) ?_
                                        refine ri_iconst hx hb dL_isCompared_256 ?_
                                        refine ri_iadd hx hb dL_isCompared_257 ?_
                                        refine lv_goto (tgt := 263) hx hb dL_isCompared_258 (by decide) ?_
                                        refine ri_icmp_ne (tgt := 300) hx hb (by omega) dL_isCompared_263 (by decide) (fun c_93 => ?_) (fun c_93 => ?_)
                                        · skip
                                          exfalso; omega
                                        · skip
                                          refine lv_aload_n hx hb dL_isCompared_266 rfl (lv_at hl 9 rfl) ?_
                                          refine lv_iload_n hx hb dL_isCompared_267 rfl (lv_at hl 12 rfl) ?_
                                          refine ri_xi (ri_runVX (b := a 0) (As := [.int (iI t)]) (rest := []) CF (k_X3_doubt l D a kk (ruG g b t n) sa hst t hA hI3 (by omega)) gL_isCompared_X3_doubt f_X3_doubt rfl (va_recv hK hP (ci := 3) (q0 := 0) rfl rfl) ⟨rfl, rfl, (Nat.le_of_ble_eq_true rfl), (Nat.le_of_ble_eq_true rfl), (Nat.le_of_ble_eq_true rfl), (Nat.le_of_ble_eq_true rfl)⟩ pB_bl (pB_i2 hS (fun _ h => Or.inl h) hT hP hK hN) rfl hl.1 rfl (Nat.le_of_ble_eq_true rfl) dL_isCompared_268) hS (fun _ h => Or.inl h) (fun X hX => absurd (show 0 ≤ t ∧ t ≤ 4 from hcm.2.1) hX.2) (fun H_94 locs1 hB9 hz9 hk9 hS => ?_)
                                          replace hP : va_P D vwCl (xW a kk (ruG g b t n)) H_94 := hB9
                                          replace hP2 := hP2.un hk9 (x_un2 (ap_1 hAB))
                                          replace hz := Nat.le_trans hz hz9
                                          refine ri_if_lt (tgt := 300) hx hb (by omega) dL_isCompared_271 (by decide) (fun c_95 => ?_) (fun c_95 => ?_)
                                          · skip
                                            exfalso; omega
                                          · skip
                                            refine lv_aload_n hx hb dL_isCompared_274 rfl (lv_at hl 9 rfl) ?_
                                            refine lv_iload_n hx hb dL_isCompared_275 rfl (lv_at hl 12 rfl) ?_
                                            refine ri_xi (ri_runVX (b := a 0) (As := [.int (iI t)]) (rest := []) CF (k_X3_doubt l D a kk (ruG g b t n) sa hst t hA hI3 (by omega)) gL_isCompared_X3_doubt f_X3_doubt rfl (va_recv hK hP (ci := 3) (q0 := 0) rfl rfl) ⟨rfl, rfl, (Nat.le_of_ble_eq_true rfl), (Nat.le_of_ble_eq_true rfl), (Nat.le_of_ble_eq_true rfl), (Nat.le_of_ble_eq_true rfl)⟩ pB_bl (pB_i2 hS (fun _ h => Or.inl h) hT hP hK hN) rfl hl.1 rfl (Nat.le_of_ble_eq_true rfl) dL_isCompared_276) hS (fun _ h => Or.inl h) (fun X hX => absurd (show 0 ≤ t ∧ t ≤ 4 from hcm.2.1) hX.2) (fun H_96 locs1 hB9 hz9 hk9 hS => ?_)
                                            replace hP : va_P D vwCl (xW a kk (ruG g b t n)) H_96 := hB9
                                            replace hP2 := hP2.un hk9 (x_un2 (ap_1 hAB))
                                            replace hz := Nat.le_trans hz hz9
                                            refine ri_bipush hx hb dL_isCompared_279 (by decide) ?_
                                            refine ri_icmp_gt (tgt := 300) hx hb (by omega) dL_isCompared_281 (by decide) (fun c_97 => ?_) (fun c_97 => ?_)
                                            · skip
                                              exfalso; omega
                                            · skip
                                              refine lv_aload_n hx hb dL_isCompared_284 rfl (lv_at hl 9 rfl) ?_
                                              refine lv_iload_n hx hb dL_isCompared_285 rfl (lv_at hl 11 rfl) ?_
                                              refine lv_iload_n hx hb dL_isCompared_286 rfl (lv_at hl 12 rfl) ?_
                                              refine ri_sipush hx hb dL_isCompared_287 (by decide) ?_
                                              refine ri_xi (ri_runVX (b := a 0) (As := [.int (iI b), .int (iI t), .int (iI 255)]) (rest := []) CF (k_X3_differences l D a kk (ruG g b t n) sa hst b t 255 hA hI3 (by omega) (by omega) (by omega)) gL_isCompared_X3_differences f_X3_differences rfl (va_recv hK hP (ci := 3) (q0 := 0) rfl rfl) ⟨rfl, rfl, (Nat.le_of_ble_eq_true rfl), (Nat.le_of_ble_eq_true rfl), (Nat.le_of_ble_eq_true rfl), (Nat.le_of_ble_eq_true rfl)⟩ pB_bl (pB_i2 hS (fun _ h => Or.inl h) hT hP hK hN) rfl hl.1 rfl (Nat.le_of_ble_eq_true rfl) dL_isCompared_290) hS (fun _ h => Or.inl h) (fun X hX => Or.elim hX (fun z => absurd hok5.1 z.2) (fun z => absurd hok5.2 z.2.2)) (fun H_98 locs1 hB9 hz9 hk9 hS => ?_)
                                              replace hP : va_P D vwCl (xW a kk (ruG g b t n)) H_98 := hB9
                                              replace hP2 := hP2.un hk9 (x_un2 (ap_1 hAB))
                                              replace hz := Nat.le_trans hz hz9
                                              refine ri_eq (y := 0) (cnt_255 hI3 hcm.1 ⟨hb4, ht4⟩) ?_
                                              refine ri_if_ne (tgt := 300) hx hb (by omega) dL_isCompared_293 (by decide) (fun c_99 => ?_) (fun c_99 => ?_)
                                              · skip
                                                exfalso; omega
                                              · skip
                                                refine ri_iconst hx hb dL_isCompared_296 ?_
                                                refine lv_goto (tgt := 301) hx hb dL_isCompared_297 (by decide) ?_
                                                refine W.widen (k := 20) (n := 120) (by omega) (by omega) ?_
                                                exact ri_zretW (A := bA a a2) (PP := (fun H => va_P D vwCl (xW a kk (ruG g b t n)) H ∧ va_P D vwCl (xW a2 kk (ruG g b t n)) H ∧ N ≤ H.size)) hx hb hr hlocks hS ⟨hP, hP2, hz⟩ (Or.inr rfl) dL_isCompared_301 rfl
        · skip
          have e9 : ruR g b t n = 1 := by rw [e8, bp_t (by omega)]
          refine ri_iconst hx hb dL_isCompared_112 ?_
          refine lv_goto (tgt := 117) hx hb dL_isCompared_113 (by decide) ?_
          refine lv_iload hx hb dL_isCompared_117 (lv_at hl 5 rfl) ?_
          refine ri_if_ne (tgt := 126) hx hb (by omega) dL_isCompared_119 (by decide) (fun h119 => ?_) (fun h119 => ?_)
          · skip
            refine ri_iconst hx hb dL_isCompared_126 ?_
            refine ri_icmp_ne (tgt := 189) hx hb (by omega) dL_isCompared_127 (by decide) (fun c_100 => ?_) (fun c_100 => ?_)
            · skip
              exfalso; omega
            · skip
              refine lv_iload hx hb dL_isCompared_130 (lv_at hl 4 rfl) ?_
              refine ri_bipush hx hb dL_isCompared_132 (by decide) ?_
              refine ri_icmp_ge (tgt := 189) hx hb (by omega) dL_isCompared_134 (by decide) (fun c_101 => ?_) (fun c_101 => ?_)
              · skip
                exfalso; omega
              · skip
                refine lv_iload hx hb dL_isCompared_137 (lv_at hl 4 rfl) ?_
                refine lv_iload hx hb dL_isCompared_139 (lv_at hl 5 rfl) ?_
                refine ri_iadd hx hb dL_isCompared_141 ?_
                refine ri_bipush hx hb dL_isCompared_142 (by decide) ?_
                refine ri_icmp_gt (tgt := 189) hx hb (by omega) dL_isCompared_144 (by decide) (fun c_102 => ?_) (fun c_102 => ?_)
                · skip
                  exfalso; omega
                · skip
                  refine lv_iload hx hb dL_isCompared_147 (lv_at hl 2 rfl) ?_
                  refine ri_if_lt (tgt := 189) hx hb (by omega) dL_isCompared_149 (by decide) (fun c_103 => ?_) (fun c_103 => ?_)
                  · skip
                    exfalso; omega
                  · skip
                    refine lv_iload hx hb dL_isCompared_152 (lv_at hl 2 rfl) ?_
                    refine ri_bipush hx hb dL_isCompared_154 (by decide) ?_
                    refine ri_icmp_gt (tgt := 189) hx hb (by omega) dL_isCompared_156 (by decide) (fun c_104 => ?_) (fun c_104 => ?_)
                    · skip
                      exfalso; omega
                    · skip
                      refine lv_iload hx hb dL_isCompared_159 (lv_at hl 1 rfl) ?_
                      refine ri_bipush hx hb dL_isCompared_161 (by decide) ?_
                      refine ri_icmp_lt (tgt := 189) hx hb (by omega) dL_isCompared_163 (by decide) (fun c_105 => ?_) (fun c_105 => ?_)
                      · skip
                        exfalso; omega
                      · skip
                        refine lv_iload hx hb dL_isCompared_166 (lv_at hl 1 rfl) ?_
                        refine ri_iconst hx hb dL_isCompared_168 ?_
                        refine ri_icmp_gt (tgt := 189) hx hb (by omega) dL_isCompared_169 (by decide) (fun c_106 => ?_) (fun c_106 => ?_)
                        · skip
                          exfalso; omega
                        · skip
                          refine lv_iload hx hb dL_isCompared_172 (lv_at hl 0 rfl) ?_
                          refine ri_bipush hx hb dL_isCompared_174 (by decide) ?_
                          refine ri_icmp_lt (tgt := 189) hx hb (by omega) dL_isCompared_176 (by decide) (fun c_107 => ?_) (fun c_107 => ?_)
                          · skip
                            exfalso; omega
                          · skip
                            refine lv_iload hx hb dL_isCompared_179 (lv_at hl 0 rfl) ?_
                            refine ri_iconst hx hb dL_isCompared_181 ?_
                            refine ri_icmp_gt (tgt := 189) hx hb (by omega) dL_isCompared_182 (by decide) (fun c_108 => ?_) (fun c_108 => ?_)
                            · skip
                              exfalso; omega
                            · skip
                              refine ri_iconst hx hb dL_isCompared_185 ?_
                              refine lv_goto (tgt := 190) hx hb dL_isCompared_186 (by decide) ?_
                              refine lv_istore (lv' := [(11, .int (iI 1)), (10, .int (iI (((mvV g b t n) % 100) - 50))), (9, .int (iI (((mvV g b t n) / 100) - 50))), (8, .int (iI (sfV g b t n))), (7, .int (iI (mvV g b t n))), (6, .int (iI (fdE (CD g b t n)))), (5, .int (iI (dfR g b t n))), (0, .ref (a 0)), (1, .ref (a2 0)), (2, .int (iI b)), (3, .int (iI t)), (4, .int (iI n))]) hx hb dL_isCompared_190 hl (by decide) rfl (fun ls hl => ?_)
                              refine lv_aload_n hx hb dL_isCompared_192 rfl (lv_at hl 7 rfl) ?_
                              refine lv_iload_n hx hb dL_isCompared_193 rfl (lv_at hl 10 rfl) ?_
                              refine ri_xi (ri_runVX (b := a 0) (As := [.int (iI t)]) (rest := []) CF (k_X3_runs l D a kk g sa hst t hA hI (by omega)) gL_isCompared_X3_runs f_X3_runs rfl (va_recv hK hP (ci := 3) (q0 := 0) rfl rfl) ⟨rfl, rfl, (Nat.le_of_ble_eq_true rfl), (Nat.le_of_ble_eq_true rfl), (Nat.le_of_ble_eq_true rfl), (Nat.le_of_ble_eq_true rfl)⟩ pB_bl (pB_i2 hS (fun _ h => Or.inl h) hT hP hK hN) rfl hl.1 rfl (Nat.le_of_ble_eq_true rfl) dL_isCompared_194) hS (fun _ h => Or.inl h) (fun X hX => absurd (show 0 ≤ t ∧ t ≤ 4 from hcm.2.1) hX.2) (fun H_109 locs1 hB9 hz9 hk9 hS => ?_)
                              replace hP : va_P D vwCl (xW a kk (g)) H_109 := hB9
                              replace hP2 := hP2.un hk9 (x_un2 (ap_1 hAB))
                              replace hz := Nat.le_trans hz hz9
                              refine lv_istore (lv' := [(12, .int (iI (g 16 t.toNat))), (11, .int (iI 1)), (10, .int (iI (((mvV g b t n) % 100) - 50))), (9, .int (iI (((mvV g b t n) / 100) - 50))), (8, .int (iI (sfV g b t n))), (7, .int (iI (mvV g b t n))), (6, .int (iI (fdE (CD g b t n)))), (5, .int (iI (dfR g b t n))), (0, .ref (a 0)), (1, .ref (a2 0)), (2, .int (iI b)), (3, .int (iI t)), (4, .int (iI n))]) hx hb dL_isCompared_197 hl (by decide) rfl (fun ls hl => ?_)
                              refine lv_aload_n hx hb dL_isCompared_199 rfl (lv_at hl 8 rfl) ?_
                              refine lv_iload_n hx hb dL_isCompared_200 rfl (lv_at hl 10 rfl) ?_
                              refine lv_iload_n hx hb dL_isCompared_201 rfl (lv_at hl 11 rfl) ?_
                              refine lv_iload hx hb dL_isCompared_202 (lv_at hl 12 rfl) ?_
                              refine ri_wz (v := ruR g b t n) (PP := (fun H => va_P D vwCl (xW a kk (ruG g b t n)) H ∧ (H_109).size ≤ H.size)) (vx_runSW (As := [.ref (a 0), .int (iI b), .int (iI t), .int (iI n)]) (rest := []) CF (kL_run l D a kk g sa (H_109).size hst b t n hA hI (by omega) (by omega) (by omega)) (vx_cwSW 4 hts gL_isCompared_L_run rfl rfl rfl ⟨by decide +kernel, by decide +kernel, by decide +kernel⟩ ⟨(Nat.le_of_ble_eq_true rfl), (Nat.le_of_ble_eq_true rfl)⟩) ⟨Bl_pc qB_bl, fun U hU hW9 => ⟨rfl, qB_in hS (fun _ h => Or.inl h) hT hP hK hN hC (Nat.le_refl _) U hU hW9⟩⟩ rfl rfl hl.1 rfl (lv_room (Nat.le_of_ble_eq_true rfl)) dL_isCompared_204 ⟨(Nat.le_of_ble_eq_true rfl), (Nat.le_of_ble_eq_true rfl)⟩) hS (fun _ h => Or.inl h) (fun H_110 locs1 hB9 hz9 hk9 hS => ?_)
                              replace hP : va_P D vwCl (xW a kk (ruG g b t n)) H_110 := hB9.1
                              replace hP2 := hP2.un hk9 (x_un2 (ap_1 hAB))
                              replace hz := Nat.le_trans hz hz9
                              refine lv_istore (lv' := [(13, .int (iI (ruR g b t n))), (12, .int (iI (g 16 t.toNat))), (11, .int (iI 1)), (10, .int (iI (((mvV g b t n) % 100) - 50))), (9, .int (iI (((mvV g b t n) / 100) - 50))), (8, .int (iI (sfV g b t n))), (7, .int (iI (mvV g b t n))), (6, .int (iI (fdE (CD g b t n)))), (5, .int (iI (dfR g b t n))), (0, .ref (a 0)), (1, .ref (a2 0)), (2, .int (iI b)), (3, .int (iI t)), (4, .int (iI n))]) hx hb dL_isCompared_207 hl (by decide) rfl (fun ls hl => ?_)
                              refine lv_iload hx hb dL_isCompared_209 (lv_at hl 2 rfl) ?_
                              refine ri_if_eq (tgt := 300) hx hb (by omega) dL_isCompared_211 (by decide) (fun c_111 => ?_) (fun c_111 => ?_)
                              · skip
                                exfalso; omega
                              · skip
                                refine lv_iload hx hb dL_isCompared_214 (lv_at hl 0 rfl) ?_
                                refine lv_iload hx hb dL_isCompared_216 (lv_at hl 8 rfl) ?_
                                refine ri_if_ne (tgt := 225) hx hb (by omega) dL_isCompared_218 (by decide) (fun h218 => ?_) (fun h218 => ?_)
                                · skip
                                  refine ri_iconst hx hb dL_isCompared_225 ?_
                                  refine ri_icmp_ne (tgt := 300) hx hb (by omega) dL_isCompared_226 (by decide) (fun c_112 => ?_) (fun c_112 => ?_)
                                  · skip
                                    exfalso; omega
                                  · skip
                                    refine lv_aload_n hx hb dL_isCompared_229 rfl (lv_at hl 10 rfl) ?_
                                    refine lv_iload_n hx hb dL_isCompared_230 rfl (lv_at hl 11 rfl) ?_
                                    refine lv_iload_n hx hb dL_isCompared_231 rfl (lv_at hl 12 rfl) ?_
                                    refine lv_iload hx hb dL_isCompared_232 (lv_at hl 13 rfl) ?_
                                    refine ri_wz (v := ruR g b t n) (PP := (fun H => va_P D vwCl (xW a2 kk (ruG g b t n)) H ∧ (H_110).size ≤ H.size)) (vx_runSW (As := [.ref (a2 0), .int (iI b), .int (iI t), .int (iI n)]) (rest := []) CF (kL_run l D a2 kk g sa (H_110).size hst b t n hA2 hI (by omega) (by omega) (by omega)) (vx_cwSW 4 hts gL_isCompared_L_run rfl rfl rfl ⟨by decide +kernel, by decide +kernel, by decide +kernel⟩ ⟨(Nat.le_of_ble_eq_true rfl), (Nat.le_of_ble_eq_true rfl)⟩) ⟨Bl_pc qB_bl, fun U hU hW9 => ⟨rfl, qB_in hS (fun _ h => Or.inr h) hT hP2 hK hN hC (Nat.le_refl _) U hU hW9⟩⟩ rfl rfl hl.1 rfl (lv_room (Nat.le_of_ble_eq_true rfl)) dL_isCompared_234 ⟨(Nat.le_of_ble_eq_true rfl), (Nat.le_of_ble_eq_true rfl)⟩) hS (fun _ h => Or.inr h) (fun H_113 locs1 hB9 hz9 hk9 hS => ?_)
                                    replace hP2 : va_P D vwCl (xW a2 kk (ruG g b t n)) H_113 := hB9.1
                                    replace hP := hP.un hk9 (x_un2 (ap_2 hAB))
                                    replace hz := Nat.le_trans hz hz9
                                    refine lv_iload hx hb dL_isCompared_237 (lv_at hl 0 rfl) ?_
                                    refine ri_icmp_ne (tgt := 300) hx hb (by omega) dL_isCompared_239 (by decide) (fun h239 => ?_) (fun h239 => ?_)
                                    · skip
                                      exact absurd rfl h239
                                    · skip
                                      refine lv_aload_n hx hb dL_isCompared_242 rfl (lv_at hl 9 rfl) ?_
                                      refine lv_iload_n hx hb dL_isCompared_243 rfl (lv_at hl 12 rfl) ?_
                                      refine ri_xi (ri_runVX (b := a 0) (As := [.int (iI t)]) (rest := []) CF (k_X3_runs l D a kk (ruG g b t n) sa hst t hA hI3 (by omega)) gL_isCompared_X3_runs f_X3_runs rfl (va_recv hK hP (ci := 3) (q0 := 0) rfl rfl) ⟨rfl, rfl, (Nat.le_of_ble_eq_true rfl), (Nat.le_of_ble_eq_true rfl), (Nat.le_of_ble_eq_true rfl), (Nat.le_of_ble_eq_true rfl)⟩ pB_bl (pB_i2 hS (fun _ h => Or.inl h) hT hP hK hN) rfl hl.1 rfl (Nat.le_of_ble_eq_true rfl) dL_isCompared_244) hS (fun _ h => Or.inl h) (fun X hX => absurd (show 0 ≤ t ∧ t ≤ 4 from hcm.2.1) hX.2) (fun H_114 locs1 hB9 hz9 hk9 hS => ?_)
                                      replace hP : va_P D vwCl (xW a kk (ruG g b t n)) H_114 := hB9
                                      replace hP2 := hP2.un hk9 (x_un2 (ap_1 hAB))
                                      replace hz := Nat.le_trans hz hz9
                                      refine lv_iload hx hb dL_isCompared_247 (lv_at hl 1 rfl) ?_
                                      refine ri_bipush hx hb dL_isCompared_249 (by decide) ?_
                                      refine ri_icmp_ge (tgt := 261) hx hb (by omega) dL_isCompared_251 (by decide) (fun h251 => ?_) (fun h251 => ?_)
                                      · skip
                                        refine ri_bipush hx hb dL_isCompared_261 (by decide) ?_
                                        refine ri_icmp_ne (tgt := 300) hx hb (by omega) dL_isCompared_263 (by decide) (fun c_115 => ?_) (fun c_115 => ?_)
                                        · skip
                                          exfalso; omega
                                        · skip
                                          refine lv_aload_n hx hb dL_isCompared_266 rfl (lv_at hl 9 rfl) ?_
                                          refine lv_iload_n hx hb dL_isCompared_267 rfl (lv_at hl 12 rfl) ?_
                                          refine ri_xi (ri_runVX (b := a 0) (As := [.int (iI t)]) (rest := []) CF (k_X3_doubt l D a kk (ruG g b t n) sa hst t hA hI3 (by omega)) gL_isCompared_X3_doubt f_X3_doubt rfl (va_recv hK hP (ci := 3) (q0 := 0) rfl rfl) ⟨rfl, rfl, (Nat.le_of_ble_eq_true rfl), (Nat.le_of_ble_eq_true rfl), (Nat.le_of_ble_eq_true rfl), (Nat.le_of_ble_eq_true rfl)⟩ pB_bl (pB_i2 hS (fun _ h => Or.inl h) hT hP hK hN) rfl hl.1 rfl (Nat.le_of_ble_eq_true rfl) dL_isCompared_268) hS (fun _ h => Or.inl h) (fun X hX => absurd (show 0 ≤ t ∧ t ≤ 4 from hcm.2.1) hX.2) (fun H_116 locs1 hB9 hz9 hk9 hS => ?_)
                                          replace hP : va_P D vwCl (xW a kk (ruG g b t n)) H_116 := hB9
                                          replace hP2 := hP2.un hk9 (x_un2 (ap_1 hAB))
                                          replace hz := Nat.le_trans hz hz9
                                          refine ri_if_lt (tgt := 300) hx hb (by omega) dL_isCompared_271 (by decide) (fun c_117 => ?_) (fun c_117 => ?_)
                                          · skip
                                            exfalso; omega
                                          · skip
                                            refine lv_aload_n hx hb dL_isCompared_274 rfl (lv_at hl 9 rfl) ?_
                                            refine lv_iload_n hx hb dL_isCompared_275 rfl (lv_at hl 12 rfl) ?_
                                            refine ri_xi (ri_runVX (b := a 0) (As := [.int (iI t)]) (rest := []) CF (k_X3_doubt l D a kk (ruG g b t n) sa hst t hA hI3 (by omega)) gL_isCompared_X3_doubt f_X3_doubt rfl (va_recv hK hP (ci := 3) (q0 := 0) rfl rfl) ⟨rfl, rfl, (Nat.le_of_ble_eq_true rfl), (Nat.le_of_ble_eq_true rfl), (Nat.le_of_ble_eq_true rfl), (Nat.le_of_ble_eq_true rfl)⟩ pB_bl (pB_i2 hS (fun _ h => Or.inl h) hT hP hK hN) rfl hl.1 rfl (Nat.le_of_ble_eq_true rfl) dL_isCompared_276) hS (fun _ h => Or.inl h) (fun X hX => absurd (show 0 ≤ t ∧ t ≤ 4 from hcm.2.1) hX.2) (fun H_118 locs1 hB9 hz9 hk9 hS => ?_)
                                            replace hP : va_P D vwCl (xW a kk (ruG g b t n)) H_118 := hB9
                                            replace hP2 := hP2.un hk9 (x_un2 (ap_1 hAB))
                                            replace hz := Nat.le_trans hz hz9
                                            refine ri_bipush hx hb dL_isCompared_279 (by decide) ?_
                                            refine ri_icmp_gt (tgt := 300) hx hb (by omega) dL_isCompared_281 (by decide) (fun c_119 => ?_) (fun c_119 => ?_)
                                            · skip
                                              exfalso; omega
                                            · skip
                                              refine lv_aload_n hx hb dL_isCompared_284 rfl (lv_at hl 9 rfl) ?_
                                              refine lv_iload_n hx hb dL_isCompared_285 rfl (lv_at hl 11 rfl) ?_
                                              refine lv_iload_n hx hb dL_isCompared_286 rfl (lv_at hl 12 rfl) ?_
                                              refine ri_sipush hx hb dL_isCompared_287 (by decide) ?_
                                              refine ri_xi (ri_runVX (b := a 0) (As := [.int (iI b), .int (iI t), .int (iI 255)]) (rest := []) CF (k_X3_differences l D a kk (ruG g b t n) sa hst b t 255 hA hI3 (by omega) (by omega) (by omega)) gL_isCompared_X3_differences f_X3_differences rfl (va_recv hK hP (ci := 3) (q0 := 0) rfl rfl) ⟨rfl, rfl, (Nat.le_of_ble_eq_true rfl), (Nat.le_of_ble_eq_true rfl), (Nat.le_of_ble_eq_true rfl), (Nat.le_of_ble_eq_true rfl)⟩ pB_bl (pB_i2 hS (fun _ h => Or.inl h) hT hP hK hN) rfl hl.1 rfl (Nat.le_of_ble_eq_true rfl) dL_isCompared_290) hS (fun _ h => Or.inl h) (fun X hX => Or.elim hX (fun z => absurd hok5.1 z.2) (fun z => absurd hok5.2 z.2.2)) (fun H_120 locs1 hB9 hz9 hk9 hS => ?_)
                                              replace hP : va_P D vwCl (xW a kk (ruG g b t n)) H_120 := hB9
                                              replace hP2 := hP2.un hk9 (x_un2 (ap_1 hAB))
                                              replace hz := Nat.le_trans hz hz9
                                              refine ri_eq (y := 0) (cnt_255 hI3 hcm.1 ⟨hb4, ht4⟩) ?_
                                              refine ri_if_ne (tgt := 300) hx hb (by omega) dL_isCompared_293 (by decide) (fun c_121 => ?_) (fun c_121 => ?_)
                                              · skip
                                                exfalso; omega
                                              · skip
                                                refine ri_iconst hx hb dL_isCompared_296 ?_
                                                refine lv_goto (tgt := 301) hx hb dL_isCompared_297 (by decide) ?_
                                                refine W.widen (k := 20) (n := 120) (by omega) (by omega) ?_
                                                exact ri_zretW (A := bA a a2) (PP := (fun H => va_P D vwCl (xW a kk (ruG g b t n)) H ∧ va_P D vwCl (xW a2 kk (ruG g b t n)) H ∧ N ≤ H.size)) hx hb hr hlocks hS ⟨hP, hP2, hz⟩ (Or.inr rfl) dL_isCompared_301 rfl
                                      · skip
                                        refine lv_iload hx hb dL_isCompared_254 (lv_at hl 1 rfl) ?_
                                        refine ri_iconst hx hb dL_isCompared_256 ?_
                                        refine ri_iadd hx hb dL_isCompared_257 ?_
                                        refine lv_goto (tgt := 263) hx hb dL_isCompared_258 (by decide) ?_
                                        refine ri_icmp_ne (tgt := 300) hx hb (by omega) dL_isCompared_263 (by decide) (fun c_122 => ?_) (fun c_122 => ?_)
                                        · skip
                                          exfalso; omega
                                        · skip
                                          refine lv_aload_n hx hb dL_isCompared_266 rfl (lv_at hl 9 rfl) ?_
                                          refine lv_iload_n hx hb dL_isCompared_267 rfl (lv_at hl 12 rfl) ?_
                                          refine ri_xi (ri_runVX (b := a 0) (As := [.int (iI t)]) (rest := []) CF (k_X3_doubt l D a kk (ruG g b t n) sa hst t hA hI3 (by omega)) gL_isCompared_X3_doubt f_X3_doubt rfl (va_recv hK hP (ci := 3) (q0 := 0) rfl rfl) ⟨rfl, rfl, (Nat.le_of_ble_eq_true rfl), (Nat.le_of_ble_eq_true rfl), (Nat.le_of_ble_eq_true rfl), (Nat.le_of_ble_eq_true rfl)⟩ pB_bl (pB_i2 hS (fun _ h => Or.inl h) hT hP hK hN) rfl hl.1 rfl (Nat.le_of_ble_eq_true rfl) dL_isCompared_268) hS (fun _ h => Or.inl h) (fun X hX => absurd (show 0 ≤ t ∧ t ≤ 4 from hcm.2.1) hX.2) (fun H_123 locs1 hB9 hz9 hk9 hS => ?_)
                                          replace hP : va_P D vwCl (xW a kk (ruG g b t n)) H_123 := hB9
                                          replace hP2 := hP2.un hk9 (x_un2 (ap_1 hAB))
                                          replace hz := Nat.le_trans hz hz9
                                          refine ri_if_lt (tgt := 300) hx hb (by omega) dL_isCompared_271 (by decide) (fun c_124 => ?_) (fun c_124 => ?_)
                                          · skip
                                            exfalso; omega
                                          · skip
                                            refine lv_aload_n hx hb dL_isCompared_274 rfl (lv_at hl 9 rfl) ?_
                                            refine lv_iload_n hx hb dL_isCompared_275 rfl (lv_at hl 12 rfl) ?_
                                            refine ri_xi (ri_runVX (b := a 0) (As := [.int (iI t)]) (rest := []) CF (k_X3_doubt l D a kk (ruG g b t n) sa hst t hA hI3 (by omega)) gL_isCompared_X3_doubt f_X3_doubt rfl (va_recv hK hP (ci := 3) (q0 := 0) rfl rfl) ⟨rfl, rfl, (Nat.le_of_ble_eq_true rfl), (Nat.le_of_ble_eq_true rfl), (Nat.le_of_ble_eq_true rfl), (Nat.le_of_ble_eq_true rfl)⟩ pB_bl (pB_i2 hS (fun _ h => Or.inl h) hT hP hK hN) rfl hl.1 rfl (Nat.le_of_ble_eq_true rfl) dL_isCompared_276) hS (fun _ h => Or.inl h) (fun X hX => absurd (show 0 ≤ t ∧ t ≤ 4 from hcm.2.1) hX.2) (fun H_125 locs1 hB9 hz9 hk9 hS => ?_)
                                            replace hP : va_P D vwCl (xW a kk (ruG g b t n)) H_125 := hB9
                                            replace hP2 := hP2.un hk9 (x_un2 (ap_1 hAB))
                                            replace hz := Nat.le_trans hz hz9
                                            refine ri_bipush hx hb dL_isCompared_279 (by decide) ?_
                                            refine ri_icmp_gt (tgt := 300) hx hb (by omega) dL_isCompared_281 (by decide) (fun c_126 => ?_) (fun c_126 => ?_)
                                            · skip
                                              exfalso; omega
                                            · skip
                                              refine lv_aload_n hx hb dL_isCompared_284 rfl (lv_at hl 9 rfl) ?_
                                              refine lv_iload_n hx hb dL_isCompared_285 rfl (lv_at hl 11 rfl) ?_
                                              refine lv_iload_n hx hb dL_isCompared_286 rfl (lv_at hl 12 rfl) ?_
                                              refine ri_sipush hx hb dL_isCompared_287 (by decide) ?_
                                              refine ri_xi (ri_runVX (b := a 0) (As := [.int (iI b), .int (iI t), .int (iI 255)]) (rest := []) CF (k_X3_differences l D a kk (ruG g b t n) sa hst b t 255 hA hI3 (by omega) (by omega) (by omega)) gL_isCompared_X3_differences f_X3_differences rfl (va_recv hK hP (ci := 3) (q0 := 0) rfl rfl) ⟨rfl, rfl, (Nat.le_of_ble_eq_true rfl), (Nat.le_of_ble_eq_true rfl), (Nat.le_of_ble_eq_true rfl), (Nat.le_of_ble_eq_true rfl)⟩ pB_bl (pB_i2 hS (fun _ h => Or.inl h) hT hP hK hN) rfl hl.1 rfl (Nat.le_of_ble_eq_true rfl) dL_isCompared_290) hS (fun _ h => Or.inl h) (fun X hX => Or.elim hX (fun z => absurd hok5.1 z.2) (fun z => absurd hok5.2 z.2.2)) (fun H_127 locs1 hB9 hz9 hk9 hS => ?_)
                                              replace hP : va_P D vwCl (xW a kk (ruG g b t n)) H_127 := hB9
                                              replace hP2 := hP2.un hk9 (x_un2 (ap_1 hAB))
                                              replace hz := Nat.le_trans hz hz9
                                              refine ri_eq (y := 0) (cnt_255 hI3 hcm.1 ⟨hb4, ht4⟩) ?_
                                              refine ri_if_ne (tgt := 300) hx hb (by omega) dL_isCompared_293 (by decide) (fun c_128 => ?_) (fun c_128 => ?_)
                                              · skip
                                                exfalso; omega
                                              · skip
                                                refine ri_iconst hx hb dL_isCompared_296 ?_
                                                refine lv_goto (tgt := 301) hx hb dL_isCompared_297 (by decide) ?_
                                                refine W.widen (k := 20) (n := 120) (by omega) (by omega) ?_
                                                exact ri_zretW (A := bA a a2) (PP := (fun H => va_P D vwCl (xW a kk (ruG g b t n)) H ∧ va_P D vwCl (xW a2 kk (ruG g b t n)) H ∧ N ≤ H.size)) hx hb hr hlocks hS ⟨hP, hP2, hz⟩ (Or.inr rfl) dL_isCompared_301 rfl
                                · skip
                                  refine ri_iconst hx hb dL_isCompared_221 ?_
                                  refine lv_goto (tgt := 226) hx hb dL_isCompared_222 (by decide) ?_
                                  refine ri_icmp_ne (tgt := 300) hx hb (by omega) dL_isCompared_226 (by decide) (fun c_129 => ?_) (fun c_129 => ?_)
                                  · skip
                                    exfalso; omega
                                  · skip
                                    refine lv_aload_n hx hb dL_isCompared_229 rfl (lv_at hl 10 rfl) ?_
                                    refine lv_iload_n hx hb dL_isCompared_230 rfl (lv_at hl 11 rfl) ?_
                                    refine lv_iload_n hx hb dL_isCompared_231 rfl (lv_at hl 12 rfl) ?_
                                    refine lv_iload hx hb dL_isCompared_232 (lv_at hl 13 rfl) ?_
                                    refine ri_wz (v := ruR g b t n) (PP := (fun H => va_P D vwCl (xW a2 kk (ruG g b t n)) H ∧ (H_110).size ≤ H.size)) (vx_runSW (As := [.ref (a2 0), .int (iI b), .int (iI t), .int (iI n)]) (rest := []) CF (kL_run l D a2 kk g sa (H_110).size hst b t n hA2 hI (by omega) (by omega) (by omega)) (vx_cwSW 4 hts gL_isCompared_L_run rfl rfl rfl ⟨by decide +kernel, by decide +kernel, by decide +kernel⟩ ⟨(Nat.le_of_ble_eq_true rfl), (Nat.le_of_ble_eq_true rfl)⟩) ⟨Bl_pc qB_bl, fun U hU hW9 => ⟨rfl, qB_in hS (fun _ h => Or.inr h) hT hP2 hK hN hC (Nat.le_refl _) U hU hW9⟩⟩ rfl rfl hl.1 rfl (lv_room (Nat.le_of_ble_eq_true rfl)) dL_isCompared_234 ⟨(Nat.le_of_ble_eq_true rfl), (Nat.le_of_ble_eq_true rfl)⟩) hS (fun _ h => Or.inr h) (fun H_130 locs1 hB9 hz9 hk9 hS => ?_)
                                    replace hP2 : va_P D vwCl (xW a2 kk (ruG g b t n)) H_130 := hB9.1
                                    replace hP := hP.un hk9 (x_un2 (ap_2 hAB))
                                    replace hz := Nat.le_trans hz hz9
                                    refine lv_iload hx hb dL_isCompared_237 (lv_at hl 0 rfl) ?_
                                    refine ri_icmp_ne (tgt := 300) hx hb (by omega) dL_isCompared_239 (by decide) (fun h239 => ?_) (fun h239 => ?_)
                                    · skip
                                      exact absurd rfl h239
                                    · skip
                                      refine lv_aload_n hx hb dL_isCompared_242 rfl (lv_at hl 9 rfl) ?_
                                      refine lv_iload_n hx hb dL_isCompared_243 rfl (lv_at hl 12 rfl) ?_
                                      refine ri_xi (ri_runVX (b := a 0) (As := [.int (iI t)]) (rest := []) CF (k_X3_runs l D a kk (ruG g b t n) sa hst t hA hI3 (by omega)) gL_isCompared_X3_runs f_X3_runs rfl (va_recv hK hP (ci := 3) (q0 := 0) rfl rfl) ⟨rfl, rfl, (Nat.le_of_ble_eq_true rfl), (Nat.le_of_ble_eq_true rfl), (Nat.le_of_ble_eq_true rfl), (Nat.le_of_ble_eq_true rfl)⟩ pB_bl (pB_i2 hS (fun _ h => Or.inl h) hT hP hK hN) rfl hl.1 rfl (Nat.le_of_ble_eq_true rfl) dL_isCompared_244) hS (fun _ h => Or.inl h) (fun X hX => absurd (show 0 ≤ t ∧ t ≤ 4 from hcm.2.1) hX.2) (fun H_131 locs1 hB9 hz9 hk9 hS => ?_)
                                      replace hP : va_P D vwCl (xW a kk (ruG g b t n)) H_131 := hB9
                                      replace hP2 := hP2.un hk9 (x_un2 (ap_1 hAB))
                                      replace hz := Nat.le_trans hz hz9
                                      refine lv_iload hx hb dL_isCompared_247 (lv_at hl 1 rfl) ?_
                                      refine ri_bipush hx hb dL_isCompared_249 (by decide) ?_
                                      refine ri_icmp_ge (tgt := 261) hx hb (by omega) dL_isCompared_251 (by decide) (fun h251 => ?_) (fun h251 => ?_)
                                      · skip
                                        refine ri_bipush hx hb dL_isCompared_261 (by decide) ?_
                                        refine ri_icmp_ne (tgt := 300) hx hb (by omega) dL_isCompared_263 (by decide) (fun c_132 => ?_) (fun c_132 => ?_)
                                        · skip
                                          exfalso; omega
                                        · skip
                                          refine lv_aload_n hx hb dL_isCompared_266 rfl (lv_at hl 9 rfl) ?_
                                          refine lv_iload_n hx hb dL_isCompared_267 rfl (lv_at hl 12 rfl) ?_
                                          refine ri_xi (ri_runVX (b := a 0) (As := [.int (iI t)]) (rest := []) CF (k_X3_doubt l D a kk (ruG g b t n) sa hst t hA hI3 (by omega)) gL_isCompared_X3_doubt f_X3_doubt rfl (va_recv hK hP (ci := 3) (q0 := 0) rfl rfl) ⟨rfl, rfl, (Nat.le_of_ble_eq_true rfl), (Nat.le_of_ble_eq_true rfl), (Nat.le_of_ble_eq_true rfl), (Nat.le_of_ble_eq_true rfl)⟩ pB_bl (pB_i2 hS (fun _ h => Or.inl h) hT hP hK hN) rfl hl.1 rfl (Nat.le_of_ble_eq_true rfl) dL_isCompared_268) hS (fun _ h => Or.inl h) (fun X hX => absurd (show 0 ≤ t ∧ t ≤ 4 from hcm.2.1) hX.2) (fun H_133 locs1 hB9 hz9 hk9 hS => ?_)
                                          replace hP : va_P D vwCl (xW a kk (ruG g b t n)) H_133 := hB9
                                          replace hP2 := hP2.un hk9 (x_un2 (ap_1 hAB))
                                          replace hz := Nat.le_trans hz hz9
                                          refine ri_if_lt (tgt := 300) hx hb (by omega) dL_isCompared_271 (by decide) (fun c_134 => ?_) (fun c_134 => ?_)
                                          · skip
                                            exfalso; omega
                                          · skip
                                            refine lv_aload_n hx hb dL_isCompared_274 rfl (lv_at hl 9 rfl) ?_
                                            refine lv_iload_n hx hb dL_isCompared_275 rfl (lv_at hl 12 rfl) ?_
                                            refine ri_xi (ri_runVX (b := a 0) (As := [.int (iI t)]) (rest := []) CF (k_X3_doubt l D a kk (ruG g b t n) sa hst t hA hI3 (by omega)) gL_isCompared_X3_doubt f_X3_doubt rfl (va_recv hK hP (ci := 3) (q0 := 0) rfl rfl) ⟨rfl, rfl, (Nat.le_of_ble_eq_true rfl), (Nat.le_of_ble_eq_true rfl), (Nat.le_of_ble_eq_true rfl), (Nat.le_of_ble_eq_true rfl)⟩ pB_bl (pB_i2 hS (fun _ h => Or.inl h) hT hP hK hN) rfl hl.1 rfl (Nat.le_of_ble_eq_true rfl) dL_isCompared_276) hS (fun _ h => Or.inl h) (fun X hX => absurd (show 0 ≤ t ∧ t ≤ 4 from hcm.2.1) hX.2) (fun H_135 locs1 hB9 hz9 hk9 hS => ?_)
                                            replace hP : va_P D vwCl (xW a kk (ruG g b t n)) H_135 := hB9
                                            replace hP2 := hP2.un hk9 (x_un2 (ap_1 hAB))
                                            replace hz := Nat.le_trans hz hz9
                                            refine ri_bipush hx hb dL_isCompared_279 (by decide) ?_
                                            refine ri_icmp_gt (tgt := 300) hx hb (by omega) dL_isCompared_281 (by decide) (fun c_136 => ?_) (fun c_136 => ?_)
                                            · skip
                                              exfalso; omega
                                            · skip
                                              refine lv_aload_n hx hb dL_isCompared_284 rfl (lv_at hl 9 rfl) ?_
                                              refine lv_iload_n hx hb dL_isCompared_285 rfl (lv_at hl 11 rfl) ?_
                                              refine lv_iload_n hx hb dL_isCompared_286 rfl (lv_at hl 12 rfl) ?_
                                              refine ri_sipush hx hb dL_isCompared_287 (by decide) ?_
                                              refine ri_xi (ri_runVX (b := a 0) (As := [.int (iI b), .int (iI t), .int (iI 255)]) (rest := []) CF (k_X3_differences l D a kk (ruG g b t n) sa hst b t 255 hA hI3 (by omega) (by omega) (by omega)) gL_isCompared_X3_differences f_X3_differences rfl (va_recv hK hP (ci := 3) (q0 := 0) rfl rfl) ⟨rfl, rfl, (Nat.le_of_ble_eq_true rfl), (Nat.le_of_ble_eq_true rfl), (Nat.le_of_ble_eq_true rfl), (Nat.le_of_ble_eq_true rfl)⟩ pB_bl (pB_i2 hS (fun _ h => Or.inl h) hT hP hK hN) rfl hl.1 rfl (Nat.le_of_ble_eq_true rfl) dL_isCompared_290) hS (fun _ h => Or.inl h) (fun X hX => Or.elim hX (fun z => absurd hok5.1 z.2) (fun z => absurd hok5.2 z.2.2)) (fun H_137 locs1 hB9 hz9 hk9 hS => ?_)
                                              replace hP : va_P D vwCl (xW a kk (ruG g b t n)) H_137 := hB9
                                              replace hP2 := hP2.un hk9 (x_un2 (ap_1 hAB))
                                              replace hz := Nat.le_trans hz hz9
                                              refine ri_eq (y := 0) (cnt_255 hI3 hcm.1 ⟨hb4, ht4⟩) ?_
                                              refine ri_if_ne (tgt := 300) hx hb (by omega) dL_isCompared_293 (by decide) (fun c_138 => ?_) (fun c_138 => ?_)
                                              · skip
                                                exfalso; omega
                                              · skip
                                                refine ri_iconst hx hb dL_isCompared_296 ?_
                                                refine lv_goto (tgt := 301) hx hb dL_isCompared_297 (by decide) ?_
                                                refine W.widen (k := 20) (n := 120) (by omega) (by omega) ?_
                                                exact ri_zretW (A := bA a a2) (PP := (fun H => va_P D vwCl (xW a kk (ruG g b t n)) H ∧ va_P D vwCl (xW a2 kk (ruG g b t n)) H ∧ N ≤ H.size)) hx hb hr hlocks hS ⟨hP, hP2, hz⟩ (Or.inr rfl) dL_isCompared_301 rfl
                                      · skip
                                        refine lv_iload hx hb dL_isCompared_254 (lv_at hl 1 rfl) ?_
                                        refine ri_iconst hx hb dL_isCompared_256 ?_
                                        refine ri_iadd hx hb dL_isCompared_257 ?_
                                        refine lv_goto (tgt := 263) hx hb dL_isCompared_258 (by decide) ?_
                                        refine ri_icmp_ne (tgt := 300) hx hb (by omega) dL_isCompared_263 (by decide) (fun c_139 => ?_) (fun c_139 => ?_)
                                        · skip
                                          exfalso; omega
                                        · skip
                                          refine lv_aload_n hx hb dL_isCompared_266 rfl (lv_at hl 9 rfl) ?_
                                          refine lv_iload_n hx hb dL_isCompared_267 rfl (lv_at hl 12 rfl) ?_
                                          refine ri_xi (ri_runVX (b := a 0) (As := [.int (iI t)]) (rest := []) CF (k_X3_doubt l D a kk (ruG g b t n) sa hst t hA hI3 (by omega)) gL_isCompared_X3_doubt f_X3_doubt rfl (va_recv hK hP (ci := 3) (q0 := 0) rfl rfl) ⟨rfl, rfl, (Nat.le_of_ble_eq_true rfl), (Nat.le_of_ble_eq_true rfl), (Nat.le_of_ble_eq_true rfl), (Nat.le_of_ble_eq_true rfl)⟩ pB_bl (pB_i2 hS (fun _ h => Or.inl h) hT hP hK hN) rfl hl.1 rfl (Nat.le_of_ble_eq_true rfl) dL_isCompared_268) hS (fun _ h => Or.inl h) (fun X hX => absurd (show 0 ≤ t ∧ t ≤ 4 from hcm.2.1) hX.2) (fun H_140 locs1 hB9 hz9 hk9 hS => ?_)
                                          replace hP : va_P D vwCl (xW a kk (ruG g b t n)) H_140 := hB9
                                          replace hP2 := hP2.un hk9 (x_un2 (ap_1 hAB))
                                          replace hz := Nat.le_trans hz hz9
                                          refine ri_if_lt (tgt := 300) hx hb (by omega) dL_isCompared_271 (by decide) (fun c_141 => ?_) (fun c_141 => ?_)
                                          · skip
                                            exfalso; omega
                                          · skip
                                            refine lv_aload_n hx hb dL_isCompared_274 rfl (lv_at hl 9 rfl) ?_
                                            refine lv_iload_n hx hb dL_isCompared_275 rfl (lv_at hl 12 rfl) ?_
                                            refine ri_xi (ri_runVX (b := a 0) (As := [.int (iI t)]) (rest := []) CF (k_X3_doubt l D a kk (ruG g b t n) sa hst t hA hI3 (by omega)) gL_isCompared_X3_doubt f_X3_doubt rfl (va_recv hK hP (ci := 3) (q0 := 0) rfl rfl) ⟨rfl, rfl, (Nat.le_of_ble_eq_true rfl), (Nat.le_of_ble_eq_true rfl), (Nat.le_of_ble_eq_true rfl), (Nat.le_of_ble_eq_true rfl)⟩ pB_bl (pB_i2 hS (fun _ h => Or.inl h) hT hP hK hN) rfl hl.1 rfl (Nat.le_of_ble_eq_true rfl) dL_isCompared_276) hS (fun _ h => Or.inl h) (fun X hX => absurd (show 0 ≤ t ∧ t ≤ 4 from hcm.2.1) hX.2) (fun H_142 locs1 hB9 hz9 hk9 hS => ?_)
                                            replace hP : va_P D vwCl (xW a kk (ruG g b t n)) H_142 := hB9
                                            replace hP2 := hP2.un hk9 (x_un2 (ap_1 hAB))
                                            replace hz := Nat.le_trans hz hz9
                                            refine ri_bipush hx hb dL_isCompared_279 (by decide) ?_
                                            refine ri_icmp_gt (tgt := 300) hx hb (by omega) dL_isCompared_281 (by decide) (fun c_143 => ?_) (fun c_143 => ?_)
                                            · skip
                                              exfalso; omega
                                            · skip
                                              refine lv_aload_n hx hb dL_isCompared_284 rfl (lv_at hl 9 rfl) ?_
                                              refine lv_iload_n hx hb dL_isCompared_285 rfl (lv_at hl 11 rfl) ?_
                                              refine lv_iload_n hx hb dL_isCompared_286 rfl (lv_at hl 12 rfl) ?_
                                              refine ri_sipush hx hb dL_isCompared_287 (by decide) ?_
                                              refine ri_xi (ri_runVX (b := a 0) (As := [.int (iI b), .int (iI t), .int (iI 255)]) (rest := []) CF (k_X3_differences l D a kk (ruG g b t n) sa hst b t 255 hA hI3 (by omega) (by omega) (by omega)) gL_isCompared_X3_differences f_X3_differences rfl (va_recv hK hP (ci := 3) (q0 := 0) rfl rfl) ⟨rfl, rfl, (Nat.le_of_ble_eq_true rfl), (Nat.le_of_ble_eq_true rfl), (Nat.le_of_ble_eq_true rfl), (Nat.le_of_ble_eq_true rfl)⟩ pB_bl (pB_i2 hS (fun _ h => Or.inl h) hT hP hK hN) rfl hl.1 rfl (Nat.le_of_ble_eq_true rfl) dL_isCompared_290) hS (fun _ h => Or.inl h) (fun X hX => Or.elim hX (fun z => absurd hok5.1 z.2) (fun z => absurd hok5.2 z.2.2)) (fun H_144 locs1 hB9 hz9 hk9 hS => ?_)
                                              replace hP : va_P D vwCl (xW a kk (ruG g b t n)) H_144 := hB9
                                              replace hP2 := hP2.un hk9 (x_un2 (ap_1 hAB))
                                              replace hz := Nat.le_trans hz hz9
                                              refine ri_eq (y := 0) (cnt_255 hI3 hcm.1 ⟨hb4, ht4⟩) ?_
                                              refine ri_if_ne (tgt := 300) hx hb (by omega) dL_isCompared_293 (by decide) (fun c_145 => ?_) (fun c_145 => ?_)
                                              · skip
                                                exfalso; omega
                                              · skip
                                                refine ri_iconst hx hb dL_isCompared_296 ?_
                                                refine lv_goto (tgt := 301) hx hb dL_isCompared_297 (by decide) ?_
                                                refine W.widen (k := 20) (n := 120) (by omega) (by omega) ?_
                                                exact ri_zretW (A := bA a a2) (PP := (fun H => va_P D vwCl (xW a kk (ruG g b t n)) H ∧ va_P D vwCl (xW a2 kk (ruG g b t n)) H ∧ N ≤ H.size)) hx hb hr hlocks hS ⟨hP, hP2, hz⟩ (Or.inr rfl) dL_isCompared_301 rfl
          · skip
            refine ri_iconst hx hb dL_isCompared_122 ?_
            refine lv_goto (tgt := 127) hx hb dL_isCompared_123 (by decide) ?_
            refine ri_icmp_ne (tgt := 189) hx hb (by omega) dL_isCompared_127 (by decide) (fun c_146 => ?_) (fun c_146 => ?_)
            · skip
              exfalso; omega
            · skip
              refine lv_iload hx hb dL_isCompared_130 (lv_at hl 4 rfl) ?_
              refine ri_bipush hx hb dL_isCompared_132 (by decide) ?_
              refine ri_icmp_ge (tgt := 189) hx hb (by omega) dL_isCompared_134 (by decide) (fun c_147 => ?_) (fun c_147 => ?_)
              · skip
                exfalso; omega
              · skip
                refine lv_iload hx hb dL_isCompared_137 (lv_at hl 4 rfl) ?_
                refine lv_iload hx hb dL_isCompared_139 (lv_at hl 5 rfl) ?_
                refine ri_iadd hx hb dL_isCompared_141 ?_
                refine ri_bipush hx hb dL_isCompared_142 (by decide) ?_
                refine ri_icmp_gt (tgt := 189) hx hb (by omega) dL_isCompared_144 (by decide) (fun c_148 => ?_) (fun c_148 => ?_)
                · skip
                  exfalso; omega
                · skip
                  refine lv_iload hx hb dL_isCompared_147 (lv_at hl 2 rfl) ?_
                  refine ri_if_lt (tgt := 189) hx hb (by omega) dL_isCompared_149 (by decide) (fun c_149 => ?_) (fun c_149 => ?_)
                  · skip
                    exfalso; omega
                  · skip
                    refine lv_iload hx hb dL_isCompared_152 (lv_at hl 2 rfl) ?_
                    refine ri_bipush hx hb dL_isCompared_154 (by decide) ?_
                    refine ri_icmp_gt (tgt := 189) hx hb (by omega) dL_isCompared_156 (by decide) (fun c_150 => ?_) (fun c_150 => ?_)
                    · skip
                      exfalso; omega
                    · skip
                      refine lv_iload hx hb dL_isCompared_159 (lv_at hl 1 rfl) ?_
                      refine ri_bipush hx hb dL_isCompared_161 (by decide) ?_
                      refine ri_icmp_lt (tgt := 189) hx hb (by omega) dL_isCompared_163 (by decide) (fun c_151 => ?_) (fun c_151 => ?_)
                      · skip
                        exfalso; omega
                      · skip
                        refine lv_iload hx hb dL_isCompared_166 (lv_at hl 1 rfl) ?_
                        refine ri_iconst hx hb dL_isCompared_168 ?_
                        refine ri_icmp_gt (tgt := 189) hx hb (by omega) dL_isCompared_169 (by decide) (fun c_152 => ?_) (fun c_152 => ?_)
                        · skip
                          exfalso; omega
                        · skip
                          refine lv_iload hx hb dL_isCompared_172 (lv_at hl 0 rfl) ?_
                          refine ri_bipush hx hb dL_isCompared_174 (by decide) ?_
                          refine ri_icmp_lt (tgt := 189) hx hb (by omega) dL_isCompared_176 (by decide) (fun c_153 => ?_) (fun c_153 => ?_)
                          · skip
                            exfalso; omega
                          · skip
                            refine lv_iload hx hb dL_isCompared_179 (lv_at hl 0 rfl) ?_
                            refine ri_iconst hx hb dL_isCompared_181 ?_
                            refine ri_icmp_gt (tgt := 189) hx hb (by omega) dL_isCompared_182 (by decide) (fun c_154 => ?_) (fun c_154 => ?_)
                            · skip
                              exfalso; omega
                            · skip
                              refine ri_iconst hx hb dL_isCompared_185 ?_
                              refine lv_goto (tgt := 190) hx hb dL_isCompared_186 (by decide) ?_
                              refine lv_istore (lv' := [(11, .int (iI 1)), (10, .int (iI (((mvV g b t n) % 100) - 50))), (9, .int (iI (((mvV g b t n) / 100) - 50))), (8, .int (iI (sfV g b t n))), (7, .int (iI (mvV g b t n))), (6, .int (iI (fdE (CD g b t n)))), (5, .int (iI (dfR g b t n))), (0, .ref (a 0)), (1, .ref (a2 0)), (2, .int (iI b)), (3, .int (iI t)), (4, .int (iI n))]) hx hb dL_isCompared_190 hl (by decide) rfl (fun ls hl => ?_)
                              refine lv_aload_n hx hb dL_isCompared_192 rfl (lv_at hl 7 rfl) ?_
                              refine lv_iload_n hx hb dL_isCompared_193 rfl (lv_at hl 10 rfl) ?_
                              refine ri_xi (ri_runVX (b := a 0) (As := [.int (iI t)]) (rest := []) CF (k_X3_runs l D a kk g sa hst t hA hI (by omega)) gL_isCompared_X3_runs f_X3_runs rfl (va_recv hK hP (ci := 3) (q0 := 0) rfl rfl) ⟨rfl, rfl, (Nat.le_of_ble_eq_true rfl), (Nat.le_of_ble_eq_true rfl), (Nat.le_of_ble_eq_true rfl), (Nat.le_of_ble_eq_true rfl)⟩ pB_bl (pB_i2 hS (fun _ h => Or.inl h) hT hP hK hN) rfl hl.1 rfl (Nat.le_of_ble_eq_true rfl) dL_isCompared_194) hS (fun _ h => Or.inl h) (fun X hX => absurd (show 0 ≤ t ∧ t ≤ 4 from hcm.2.1) hX.2) (fun H_155 locs1 hB9 hz9 hk9 hS => ?_)
                              replace hP : va_P D vwCl (xW a kk (g)) H_155 := hB9
                              replace hP2 := hP2.un hk9 (x_un2 (ap_1 hAB))
                              replace hz := Nat.le_trans hz hz9
                              refine lv_istore (lv' := [(12, .int (iI (g 16 t.toNat))), (11, .int (iI 1)), (10, .int (iI (((mvV g b t n) % 100) - 50))), (9, .int (iI (((mvV g b t n) / 100) - 50))), (8, .int (iI (sfV g b t n))), (7, .int (iI (mvV g b t n))), (6, .int (iI (fdE (CD g b t n)))), (5, .int (iI (dfR g b t n))), (0, .ref (a 0)), (1, .ref (a2 0)), (2, .int (iI b)), (3, .int (iI t)), (4, .int (iI n))]) hx hb dL_isCompared_197 hl (by decide) rfl (fun ls hl => ?_)
                              refine lv_aload_n hx hb dL_isCompared_199 rfl (lv_at hl 8 rfl) ?_
                              refine lv_iload_n hx hb dL_isCompared_200 rfl (lv_at hl 10 rfl) ?_
                              refine lv_iload_n hx hb dL_isCompared_201 rfl (lv_at hl 11 rfl) ?_
                              refine lv_iload hx hb dL_isCompared_202 (lv_at hl 12 rfl) ?_
                              refine ri_wz (v := ruR g b t n) (PP := (fun H => va_P D vwCl (xW a kk (ruG g b t n)) H ∧ (H_155).size ≤ H.size)) (vx_runSW (As := [.ref (a 0), .int (iI b), .int (iI t), .int (iI n)]) (rest := []) CF (kL_run l D a kk g sa (H_155).size hst b t n hA hI (by omega) (by omega) (by omega)) (vx_cwSW 4 hts gL_isCompared_L_run rfl rfl rfl ⟨by decide +kernel, by decide +kernel, by decide +kernel⟩ ⟨(Nat.le_of_ble_eq_true rfl), (Nat.le_of_ble_eq_true rfl)⟩) ⟨Bl_pc qB_bl, fun U hU hW9 => ⟨rfl, qB_in hS (fun _ h => Or.inl h) hT hP hK hN hC (Nat.le_refl _) U hU hW9⟩⟩ rfl rfl hl.1 rfl (lv_room (Nat.le_of_ble_eq_true rfl)) dL_isCompared_204 ⟨(Nat.le_of_ble_eq_true rfl), (Nat.le_of_ble_eq_true rfl)⟩) hS (fun _ h => Or.inl h) (fun H_156 locs1 hB9 hz9 hk9 hS => ?_)
                              replace hP : va_P D vwCl (xW a kk (ruG g b t n)) H_156 := hB9.1
                              replace hP2 := hP2.un hk9 (x_un2 (ap_1 hAB))
                              replace hz := Nat.le_trans hz hz9
                              refine lv_istore (lv' := [(13, .int (iI (ruR g b t n))), (12, .int (iI (g 16 t.toNat))), (11, .int (iI 1)), (10, .int (iI (((mvV g b t n) % 100) - 50))), (9, .int (iI (((mvV g b t n) / 100) - 50))), (8, .int (iI (sfV g b t n))), (7, .int (iI (mvV g b t n))), (6, .int (iI (fdE (CD g b t n)))), (5, .int (iI (dfR g b t n))), (0, .ref (a 0)), (1, .ref (a2 0)), (2, .int (iI b)), (3, .int (iI t)), (4, .int (iI n))]) hx hb dL_isCompared_207 hl (by decide) rfl (fun ls hl => ?_)
                              refine lv_iload hx hb dL_isCompared_209 (lv_at hl 2 rfl) ?_
                              refine ri_if_eq (tgt := 300) hx hb (by omega) dL_isCompared_211 (by decide) (fun c_157 => ?_) (fun c_157 => ?_)
                              · skip
                                exfalso; omega
                              · skip
                                refine lv_iload hx hb dL_isCompared_214 (lv_at hl 0 rfl) ?_
                                refine lv_iload hx hb dL_isCompared_216 (lv_at hl 8 rfl) ?_
                                refine ri_if_ne (tgt := 225) hx hb (by omega) dL_isCompared_218 (by decide) (fun h218 => ?_) (fun h218 => ?_)
                                · skip
                                  refine ri_iconst hx hb dL_isCompared_225 ?_
                                  refine ri_icmp_ne (tgt := 300) hx hb (by omega) dL_isCompared_226 (by decide) (fun c_158 => ?_) (fun c_158 => ?_)
                                  · skip
                                    exfalso; omega
                                  · skip
                                    refine lv_aload_n hx hb dL_isCompared_229 rfl (lv_at hl 10 rfl) ?_
                                    refine lv_iload_n hx hb dL_isCompared_230 rfl (lv_at hl 11 rfl) ?_
                                    refine lv_iload_n hx hb dL_isCompared_231 rfl (lv_at hl 12 rfl) ?_
                                    refine lv_iload hx hb dL_isCompared_232 (lv_at hl 13 rfl) ?_
                                    refine ri_wz (v := ruR g b t n) (PP := (fun H => va_P D vwCl (xW a2 kk (ruG g b t n)) H ∧ (H_156).size ≤ H.size)) (vx_runSW (As := [.ref (a2 0), .int (iI b), .int (iI t), .int (iI n)]) (rest := []) CF (kL_run l D a2 kk g sa (H_156).size hst b t n hA2 hI (by omega) (by omega) (by omega)) (vx_cwSW 4 hts gL_isCompared_L_run rfl rfl rfl ⟨by decide +kernel, by decide +kernel, by decide +kernel⟩ ⟨(Nat.le_of_ble_eq_true rfl), (Nat.le_of_ble_eq_true rfl)⟩) ⟨Bl_pc qB_bl, fun U hU hW9 => ⟨rfl, qB_in hS (fun _ h => Or.inr h) hT hP2 hK hN hC (Nat.le_refl _) U hU hW9⟩⟩ rfl rfl hl.1 rfl (lv_room (Nat.le_of_ble_eq_true rfl)) dL_isCompared_234 ⟨(Nat.le_of_ble_eq_true rfl), (Nat.le_of_ble_eq_true rfl)⟩) hS (fun _ h => Or.inr h) (fun H_159 locs1 hB9 hz9 hk9 hS => ?_)
                                    replace hP2 : va_P D vwCl (xW a2 kk (ruG g b t n)) H_159 := hB9.1
                                    replace hP := hP.un hk9 (x_un2 (ap_2 hAB))
                                    replace hz := Nat.le_trans hz hz9
                                    refine lv_iload hx hb dL_isCompared_237 (lv_at hl 0 rfl) ?_
                                    refine ri_icmp_ne (tgt := 300) hx hb (by omega) dL_isCompared_239 (by decide) (fun h239 => ?_) (fun h239 => ?_)
                                    · skip
                                      exact absurd rfl h239
                                    · skip
                                      refine lv_aload_n hx hb dL_isCompared_242 rfl (lv_at hl 9 rfl) ?_
                                      refine lv_iload_n hx hb dL_isCompared_243 rfl (lv_at hl 12 rfl) ?_
                                      refine ri_xi (ri_runVX (b := a 0) (As := [.int (iI t)]) (rest := []) CF (k_X3_runs l D a kk (ruG g b t n) sa hst t hA hI3 (by omega)) gL_isCompared_X3_runs f_X3_runs rfl (va_recv hK hP (ci := 3) (q0 := 0) rfl rfl) ⟨rfl, rfl, (Nat.le_of_ble_eq_true rfl), (Nat.le_of_ble_eq_true rfl), (Nat.le_of_ble_eq_true rfl), (Nat.le_of_ble_eq_true rfl)⟩ pB_bl (pB_i2 hS (fun _ h => Or.inl h) hT hP hK hN) rfl hl.1 rfl (Nat.le_of_ble_eq_true rfl) dL_isCompared_244) hS (fun _ h => Or.inl h) (fun X hX => absurd (show 0 ≤ t ∧ t ≤ 4 from hcm.2.1) hX.2) (fun H_160 locs1 hB9 hz9 hk9 hS => ?_)
                                      replace hP : va_P D vwCl (xW a kk (ruG g b t n)) H_160 := hB9
                                      replace hP2 := hP2.un hk9 (x_un2 (ap_1 hAB))
                                      replace hz := Nat.le_trans hz hz9
                                      refine lv_iload hx hb dL_isCompared_247 (lv_at hl 1 rfl) ?_
                                      refine ri_bipush hx hb dL_isCompared_249 (by decide) ?_
                                      refine ri_icmp_ge (tgt := 261) hx hb (by omega) dL_isCompared_251 (by decide) (fun h251 => ?_) (fun h251 => ?_)
                                      · skip
                                        refine ri_bipush hx hb dL_isCompared_261 (by decide) ?_
                                        refine ri_icmp_ne (tgt := 300) hx hb (by omega) dL_isCompared_263 (by decide) (fun c_161 => ?_) (fun c_161 => ?_)
                                        · skip
                                          exfalso; omega
                                        · skip
                                          refine lv_aload_n hx hb dL_isCompared_266 rfl (lv_at hl 9 rfl) ?_
                                          refine lv_iload_n hx hb dL_isCompared_267 rfl (lv_at hl 12 rfl) ?_
                                          refine ri_xi (ri_runVX (b := a 0) (As := [.int (iI t)]) (rest := []) CF (k_X3_doubt l D a kk (ruG g b t n) sa hst t hA hI3 (by omega)) gL_isCompared_X3_doubt f_X3_doubt rfl (va_recv hK hP (ci := 3) (q0 := 0) rfl rfl) ⟨rfl, rfl, (Nat.le_of_ble_eq_true rfl), (Nat.le_of_ble_eq_true rfl), (Nat.le_of_ble_eq_true rfl), (Nat.le_of_ble_eq_true rfl)⟩ pB_bl (pB_i2 hS (fun _ h => Or.inl h) hT hP hK hN) rfl hl.1 rfl (Nat.le_of_ble_eq_true rfl) dL_isCompared_268) hS (fun _ h => Or.inl h) (fun X hX => absurd (show 0 ≤ t ∧ t ≤ 4 from hcm.2.1) hX.2) (fun H_162 locs1 hB9 hz9 hk9 hS => ?_)
                                          replace hP : va_P D vwCl (xW a kk (ruG g b t n)) H_162 := hB9
                                          replace hP2 := hP2.un hk9 (x_un2 (ap_1 hAB))
                                          replace hz := Nat.le_trans hz hz9
                                          refine ri_if_lt (tgt := 300) hx hb (by omega) dL_isCompared_271 (by decide) (fun c_163 => ?_) (fun c_163 => ?_)
                                          · skip
                                            exfalso; omega
                                          · skip
                                            refine lv_aload_n hx hb dL_isCompared_274 rfl (lv_at hl 9 rfl) ?_
                                            refine lv_iload_n hx hb dL_isCompared_275 rfl (lv_at hl 12 rfl) ?_
                                            refine ri_xi (ri_runVX (b := a 0) (As := [.int (iI t)]) (rest := []) CF (k_X3_doubt l D a kk (ruG g b t n) sa hst t hA hI3 (by omega)) gL_isCompared_X3_doubt f_X3_doubt rfl (va_recv hK hP (ci := 3) (q0 := 0) rfl rfl) ⟨rfl, rfl, (Nat.le_of_ble_eq_true rfl), (Nat.le_of_ble_eq_true rfl), (Nat.le_of_ble_eq_true rfl), (Nat.le_of_ble_eq_true rfl)⟩ pB_bl (pB_i2 hS (fun _ h => Or.inl h) hT hP hK hN) rfl hl.1 rfl (Nat.le_of_ble_eq_true rfl) dL_isCompared_276) hS (fun _ h => Or.inl h) (fun X hX => absurd (show 0 ≤ t ∧ t ≤ 4 from hcm.2.1) hX.2) (fun H_164 locs1 hB9 hz9 hk9 hS => ?_)
                                            replace hP : va_P D vwCl (xW a kk (ruG g b t n)) H_164 := hB9
                                            replace hP2 := hP2.un hk9 (x_un2 (ap_1 hAB))
                                            replace hz := Nat.le_trans hz hz9
                                            refine ri_bipush hx hb dL_isCompared_279 (by decide) ?_
                                            refine ri_icmp_gt (tgt := 300) hx hb (by omega) dL_isCompared_281 (by decide) (fun c_165 => ?_) (fun c_165 => ?_)
                                            · skip
                                              exfalso; omega
                                            · skip
                                              refine lv_aload_n hx hb dL_isCompared_284 rfl (lv_at hl 9 rfl) ?_
                                              refine lv_iload_n hx hb dL_isCompared_285 rfl (lv_at hl 11 rfl) ?_
                                              refine lv_iload_n hx hb dL_isCompared_286 rfl (lv_at hl 12 rfl) ?_
                                              refine ri_sipush hx hb dL_isCompared_287 (by decide) ?_
                                              refine ri_xi (ri_runVX (b := a 0) (As := [.int (iI b), .int (iI t), .int (iI 255)]) (rest := []) CF (k_X3_differences l D a kk (ruG g b t n) sa hst b t 255 hA hI3 (by omega) (by omega) (by omega)) gL_isCompared_X3_differences f_X3_differences rfl (va_recv hK hP (ci := 3) (q0 := 0) rfl rfl) ⟨rfl, rfl, (Nat.le_of_ble_eq_true rfl), (Nat.le_of_ble_eq_true rfl), (Nat.le_of_ble_eq_true rfl), (Nat.le_of_ble_eq_true rfl)⟩ pB_bl (pB_i2 hS (fun _ h => Or.inl h) hT hP hK hN) rfl hl.1 rfl (Nat.le_of_ble_eq_true rfl) dL_isCompared_290) hS (fun _ h => Or.inl h) (fun X hX => Or.elim hX (fun z => absurd hok5.1 z.2) (fun z => absurd hok5.2 z.2.2)) (fun H_166 locs1 hB9 hz9 hk9 hS => ?_)
                                              replace hP : va_P D vwCl (xW a kk (ruG g b t n)) H_166 := hB9
                                              replace hP2 := hP2.un hk9 (x_un2 (ap_1 hAB))
                                              replace hz := Nat.le_trans hz hz9
                                              refine ri_eq (y := 0) (cnt_255 hI3 hcm.1 ⟨hb4, ht4⟩) ?_
                                              refine ri_if_ne (tgt := 300) hx hb (by omega) dL_isCompared_293 (by decide) (fun c_167 => ?_) (fun c_167 => ?_)
                                              · skip
                                                exfalso; omega
                                              · skip
                                                refine ri_iconst hx hb dL_isCompared_296 ?_
                                                refine lv_goto (tgt := 301) hx hb dL_isCompared_297 (by decide) ?_
                                                refine W.widen (k := 20) (n := 120) (by omega) (by omega) ?_
                                                exact ri_zretW (A := bA a a2) (PP := (fun H => va_P D vwCl (xW a kk (ruG g b t n)) H ∧ va_P D vwCl (xW a2 kk (ruG g b t n)) H ∧ N ≤ H.size)) hx hb hr hlocks hS ⟨hP, hP2, hz⟩ (Or.inr rfl) dL_isCompared_301 rfl
                                      · skip
                                        refine lv_iload hx hb dL_isCompared_254 (lv_at hl 1 rfl) ?_
                                        refine ri_iconst hx hb dL_isCompared_256 ?_
                                        refine ri_iadd hx hb dL_isCompared_257 ?_
                                        refine lv_goto (tgt := 263) hx hb dL_isCompared_258 (by decide) ?_
                                        refine ri_icmp_ne (tgt := 300) hx hb (by omega) dL_isCompared_263 (by decide) (fun c_168 => ?_) (fun c_168 => ?_)
                                        · skip
                                          exfalso; omega
                                        · skip
                                          refine lv_aload_n hx hb dL_isCompared_266 rfl (lv_at hl 9 rfl) ?_
                                          refine lv_iload_n hx hb dL_isCompared_267 rfl (lv_at hl 12 rfl) ?_
                                          refine ri_xi (ri_runVX (b := a 0) (As := [.int (iI t)]) (rest := []) CF (k_X3_doubt l D a kk (ruG g b t n) sa hst t hA hI3 (by omega)) gL_isCompared_X3_doubt f_X3_doubt rfl (va_recv hK hP (ci := 3) (q0 := 0) rfl rfl) ⟨rfl, rfl, (Nat.le_of_ble_eq_true rfl), (Nat.le_of_ble_eq_true rfl), (Nat.le_of_ble_eq_true rfl), (Nat.le_of_ble_eq_true rfl)⟩ pB_bl (pB_i2 hS (fun _ h => Or.inl h) hT hP hK hN) rfl hl.1 rfl (Nat.le_of_ble_eq_true rfl) dL_isCompared_268) hS (fun _ h => Or.inl h) (fun X hX => absurd (show 0 ≤ t ∧ t ≤ 4 from hcm.2.1) hX.2) (fun H_169 locs1 hB9 hz9 hk9 hS => ?_)
                                          replace hP : va_P D vwCl (xW a kk (ruG g b t n)) H_169 := hB9
                                          replace hP2 := hP2.un hk9 (x_un2 (ap_1 hAB))
                                          replace hz := Nat.le_trans hz hz9
                                          refine ri_if_lt (tgt := 300) hx hb (by omega) dL_isCompared_271 (by decide) (fun c_170 => ?_) (fun c_170 => ?_)
                                          · skip
                                            exfalso; omega
                                          · skip
                                            refine lv_aload_n hx hb dL_isCompared_274 rfl (lv_at hl 9 rfl) ?_
                                            refine lv_iload_n hx hb dL_isCompared_275 rfl (lv_at hl 12 rfl) ?_
                                            refine ri_xi (ri_runVX (b := a 0) (As := [.int (iI t)]) (rest := []) CF (k_X3_doubt l D a kk (ruG g b t n) sa hst t hA hI3 (by omega)) gL_isCompared_X3_doubt f_X3_doubt rfl (va_recv hK hP (ci := 3) (q0 := 0) rfl rfl) ⟨rfl, rfl, (Nat.le_of_ble_eq_true rfl), (Nat.le_of_ble_eq_true rfl), (Nat.le_of_ble_eq_true rfl), (Nat.le_of_ble_eq_true rfl)⟩ pB_bl (pB_i2 hS (fun _ h => Or.inl h) hT hP hK hN) rfl hl.1 rfl (Nat.le_of_ble_eq_true rfl) dL_isCompared_276) hS (fun _ h => Or.inl h) (fun X hX => absurd (show 0 ≤ t ∧ t ≤ 4 from hcm.2.1) hX.2) (fun H_171 locs1 hB9 hz9 hk9 hS => ?_)
                                            replace hP : va_P D vwCl (xW a kk (ruG g b t n)) H_171 := hB9
                                            replace hP2 := hP2.un hk9 (x_un2 (ap_1 hAB))
                                            replace hz := Nat.le_trans hz hz9
                                            refine ri_bipush hx hb dL_isCompared_279 (by decide) ?_
                                            refine ri_icmp_gt (tgt := 300) hx hb (by omega) dL_isCompared_281 (by decide) (fun c_172 => ?_) (fun c_172 => ?_)
                                            · skip
                                              exfalso; omega
                                            · skip
                                              refine lv_aload_n hx hb dL_isCompared_284 rfl (lv_at hl 9 rfl) ?_
                                              refine lv_iload_n hx hb dL_isCompared_285 rfl (lv_at hl 11 rfl) ?_
                                              refine lv_iload_n hx hb dL_isCompared_286 rfl (lv_at hl 12 rfl) ?_
                                              refine ri_sipush hx hb dL_isCompared_287 (by decide) ?_
                                              refine ri_xi (ri_runVX (b := a 0) (As := [.int (iI b), .int (iI t), .int (iI 255)]) (rest := []) CF (k_X3_differences l D a kk (ruG g b t n) sa hst b t 255 hA hI3 (by omega) (by omega) (by omega)) gL_isCompared_X3_differences f_X3_differences rfl (va_recv hK hP (ci := 3) (q0 := 0) rfl rfl) ⟨rfl, rfl, (Nat.le_of_ble_eq_true rfl), (Nat.le_of_ble_eq_true rfl), (Nat.le_of_ble_eq_true rfl), (Nat.le_of_ble_eq_true rfl)⟩ pB_bl (pB_i2 hS (fun _ h => Or.inl h) hT hP hK hN) rfl hl.1 rfl (Nat.le_of_ble_eq_true rfl) dL_isCompared_290) hS (fun _ h => Or.inl h) (fun X hX => Or.elim hX (fun z => absurd hok5.1 z.2) (fun z => absurd hok5.2 z.2.2)) (fun H_173 locs1 hB9 hz9 hk9 hS => ?_)
                                              replace hP : va_P D vwCl (xW a kk (ruG g b t n)) H_173 := hB9
                                              replace hP2 := hP2.un hk9 (x_un2 (ap_1 hAB))
                                              replace hz := Nat.le_trans hz hz9
                                              refine ri_eq (y := 0) (cnt_255 hI3 hcm.1 ⟨hb4, ht4⟩) ?_
                                              refine ri_if_ne (tgt := 300) hx hb (by omega) dL_isCompared_293 (by decide) (fun c_174 => ?_) (fun c_174 => ?_)
                                              · skip
                                                exfalso; omega
                                              · skip
                                                refine ri_iconst hx hb dL_isCompared_296 ?_
                                                refine lv_goto (tgt := 301) hx hb dL_isCompared_297 (by decide) ?_
                                                refine W.widen (k := 20) (n := 120) (by omega) (by omega) ?_
                                                exact ri_zretW (A := bA a a2) (PP := (fun H => va_P D vwCl (xW a kk (ruG g b t n)) H ∧ va_P D vwCl (xW a2 kk (ruG g b t n)) H ∧ N ≤ H.size)) hx hb hr hlocks hS ⟨hP, hP2, hz⟩ (Or.inr rfl) dL_isCompared_301 rfl
                                · skip
                                  refine ri_iconst hx hb dL_isCompared_221 ?_
                                  refine lv_goto (tgt := 226) hx hb dL_isCompared_222 (by decide) ?_
                                  refine ri_icmp_ne (tgt := 300) hx hb (by omega) dL_isCompared_226 (by decide) (fun c_175 => ?_) (fun c_175 => ?_)
                                  · skip
                                    exfalso; omega
                                  · skip
                                    refine lv_aload_n hx hb dL_isCompared_229 rfl (lv_at hl 10 rfl) ?_
                                    refine lv_iload_n hx hb dL_isCompared_230 rfl (lv_at hl 11 rfl) ?_
                                    refine lv_iload_n hx hb dL_isCompared_231 rfl (lv_at hl 12 rfl) ?_
                                    refine lv_iload hx hb dL_isCompared_232 (lv_at hl 13 rfl) ?_
                                    refine ri_wz (v := ruR g b t n) (PP := (fun H => va_P D vwCl (xW a2 kk (ruG g b t n)) H ∧ (H_156).size ≤ H.size)) (vx_runSW (As := [.ref (a2 0), .int (iI b), .int (iI t), .int (iI n)]) (rest := []) CF (kL_run l D a2 kk g sa (H_156).size hst b t n hA2 hI (by omega) (by omega) (by omega)) (vx_cwSW 4 hts gL_isCompared_L_run rfl rfl rfl ⟨by decide +kernel, by decide +kernel, by decide +kernel⟩ ⟨(Nat.le_of_ble_eq_true rfl), (Nat.le_of_ble_eq_true rfl)⟩) ⟨Bl_pc qB_bl, fun U hU hW9 => ⟨rfl, qB_in hS (fun _ h => Or.inr h) hT hP2 hK hN hC (Nat.le_refl _) U hU hW9⟩⟩ rfl rfl hl.1 rfl (lv_room (Nat.le_of_ble_eq_true rfl)) dL_isCompared_234 ⟨(Nat.le_of_ble_eq_true rfl), (Nat.le_of_ble_eq_true rfl)⟩) hS (fun _ h => Or.inr h) (fun H_176 locs1 hB9 hz9 hk9 hS => ?_)
                                    replace hP2 : va_P D vwCl (xW a2 kk (ruG g b t n)) H_176 := hB9.1
                                    replace hP := hP.un hk9 (x_un2 (ap_2 hAB))
                                    replace hz := Nat.le_trans hz hz9
                                    refine lv_iload hx hb dL_isCompared_237 (lv_at hl 0 rfl) ?_
                                    refine ri_icmp_ne (tgt := 300) hx hb (by omega) dL_isCompared_239 (by decide) (fun h239 => ?_) (fun h239 => ?_)
                                    · skip
                                      exact absurd rfl h239
                                    · skip
                                      refine lv_aload_n hx hb dL_isCompared_242 rfl (lv_at hl 9 rfl) ?_
                                      refine lv_iload_n hx hb dL_isCompared_243 rfl (lv_at hl 12 rfl) ?_
                                      refine ri_xi (ri_runVX (b := a 0) (As := [.int (iI t)]) (rest := []) CF (k_X3_runs l D a kk (ruG g b t n) sa hst t hA hI3 (by omega)) gL_isCompared_X3_runs f_X3_runs rfl (va_recv hK hP (ci := 3) (q0 := 0) rfl rfl) ⟨rfl, rfl, (Nat.le_of_ble_eq_true rfl), (Nat.le_of_ble_eq_true rfl), (Nat.le_of_ble_eq_true rfl), (Nat.le_of_ble_eq_true rfl)⟩ pB_bl (pB_i2 hS (fun _ h => Or.inl h) hT hP hK hN) rfl hl.1 rfl (Nat.le_of_ble_eq_true rfl) dL_isCompared_244) hS (fun _ h => Or.inl h) (fun X hX => absurd (show 0 ≤ t ∧ t ≤ 4 from hcm.2.1) hX.2) (fun H_177 locs1 hB9 hz9 hk9 hS => ?_)
                                      replace hP : va_P D vwCl (xW a kk (ruG g b t n)) H_177 := hB9
                                      replace hP2 := hP2.un hk9 (x_un2 (ap_1 hAB))
                                      replace hz := Nat.le_trans hz hz9
                                      refine lv_iload hx hb dL_isCompared_247 (lv_at hl 1 rfl) ?_
                                      refine ri_bipush hx hb dL_isCompared_249 (by decide) ?_
                                      refine ri_icmp_ge (tgt := 261) hx hb (by omega) dL_isCompared_251 (by decide) (fun h251 => ?_) (fun h251 => ?_)
                                      · skip
                                        refine ri_bipush hx hb dL_isCompared_261 (by decide) ?_
                                        refine ri_icmp_ne (tgt := 300) hx hb (by omega) dL_isCompared_263 (by decide) (fun c_178 => ?_) (fun c_178 => ?_)
                                        · skip
                                          exfalso; omega
                                        · skip
                                          refine lv_aload_n hx hb dL_isCompared_266 rfl (lv_at hl 9 rfl) ?_
                                          refine lv_iload_n hx hb dL_isCompared_267 rfl (lv_at hl 12 rfl) ?_
                                          refine ri_xi (ri_runVX (b := a 0) (As := [.int (iI t)]) (rest := []) CF (k_X3_doubt l D a kk (ruG g b t n) sa hst t hA hI3 (by omega)) gL_isCompared_X3_doubt f_X3_doubt rfl (va_recv hK hP (ci := 3) (q0 := 0) rfl rfl) ⟨rfl, rfl, (Nat.le_of_ble_eq_true rfl), (Nat.le_of_ble_eq_true rfl), (Nat.le_of_ble_eq_true rfl), (Nat.le_of_ble_eq_true rfl)⟩ pB_bl (pB_i2 hS (fun _ h => Or.inl h) hT hP hK hN) rfl hl.1 rfl (Nat.le_of_ble_eq_true rfl) dL_isCompared_268) hS (fun _ h => Or.inl h) (fun X hX => absurd (show 0 ≤ t ∧ t ≤ 4 from hcm.2.1) hX.2) (fun H_179 locs1 hB9 hz9 hk9 hS => ?_)
                                          replace hP : va_P D vwCl (xW a kk (ruG g b t n)) H_179 := hB9
                                          replace hP2 := hP2.un hk9 (x_un2 (ap_1 hAB))
                                          replace hz := Nat.le_trans hz hz9
                                          refine ri_if_lt (tgt := 300) hx hb (by omega) dL_isCompared_271 (by decide) (fun c_180 => ?_) (fun c_180 => ?_)
                                          · skip
                                            exfalso; omega
                                          · skip
                                            refine lv_aload_n hx hb dL_isCompared_274 rfl (lv_at hl 9 rfl) ?_
                                            refine lv_iload_n hx hb dL_isCompared_275 rfl (lv_at hl 12 rfl) ?_
                                            refine ri_xi (ri_runVX (b := a 0) (As := [.int (iI t)]) (rest := []) CF (k_X3_doubt l D a kk (ruG g b t n) sa hst t hA hI3 (by omega)) gL_isCompared_X3_doubt f_X3_doubt rfl (va_recv hK hP (ci := 3) (q0 := 0) rfl rfl) ⟨rfl, rfl, (Nat.le_of_ble_eq_true rfl), (Nat.le_of_ble_eq_true rfl), (Nat.le_of_ble_eq_true rfl), (Nat.le_of_ble_eq_true rfl)⟩ pB_bl (pB_i2 hS (fun _ h => Or.inl h) hT hP hK hN) rfl hl.1 rfl (Nat.le_of_ble_eq_true rfl) dL_isCompared_276) hS (fun _ h => Or.inl h) (fun X hX => absurd (show 0 ≤ t ∧ t ≤ 4 from hcm.2.1) hX.2) (fun H_181 locs1 hB9 hz9 hk9 hS => ?_)
                                            replace hP : va_P D vwCl (xW a kk (ruG g b t n)) H_181 := hB9
                                            replace hP2 := hP2.un hk9 (x_un2 (ap_1 hAB))
                                            replace hz := Nat.le_trans hz hz9
                                            refine ri_bipush hx hb dL_isCompared_279 (by decide) ?_
                                            refine ri_icmp_gt (tgt := 300) hx hb (by omega) dL_isCompared_281 (by decide) (fun c_182 => ?_) (fun c_182 => ?_)
                                            · skip
                                              exfalso; omega
                                            · skip
                                              refine lv_aload_n hx hb dL_isCompared_284 rfl (lv_at hl 9 rfl) ?_
                                              refine lv_iload_n hx hb dL_isCompared_285 rfl (lv_at hl 11 rfl) ?_
                                              refine lv_iload_n hx hb dL_isCompared_286 rfl (lv_at hl 12 rfl) ?_
                                              refine ri_sipush hx hb dL_isCompared_287 (by decide) ?_
                                              refine ri_xi (ri_runVX (b := a 0) (As := [.int (iI b), .int (iI t), .int (iI 255)]) (rest := []) CF (k_X3_differences l D a kk (ruG g b t n) sa hst b t 255 hA hI3 (by omega) (by omega) (by omega)) gL_isCompared_X3_differences f_X3_differences rfl (va_recv hK hP (ci := 3) (q0 := 0) rfl rfl) ⟨rfl, rfl, (Nat.le_of_ble_eq_true rfl), (Nat.le_of_ble_eq_true rfl), (Nat.le_of_ble_eq_true rfl), (Nat.le_of_ble_eq_true rfl)⟩ pB_bl (pB_i2 hS (fun _ h => Or.inl h) hT hP hK hN) rfl hl.1 rfl (Nat.le_of_ble_eq_true rfl) dL_isCompared_290) hS (fun _ h => Or.inl h) (fun X hX => Or.elim hX (fun z => absurd hok5.1 z.2) (fun z => absurd hok5.2 z.2.2)) (fun H_183 locs1 hB9 hz9 hk9 hS => ?_)
                                              replace hP : va_P D vwCl (xW a kk (ruG g b t n)) H_183 := hB9
                                              replace hP2 := hP2.un hk9 (x_un2 (ap_1 hAB))
                                              replace hz := Nat.le_trans hz hz9
                                              refine ri_eq (y := 0) (cnt_255 hI3 hcm.1 ⟨hb4, ht4⟩) ?_
                                              refine ri_if_ne (tgt := 300) hx hb (by omega) dL_isCompared_293 (by decide) (fun c_184 => ?_) (fun c_184 => ?_)
                                              · skip
                                                exfalso; omega
                                              · skip
                                                refine ri_iconst hx hb dL_isCompared_296 ?_
                                                refine lv_goto (tgt := 301) hx hb dL_isCompared_297 (by decide) ?_
                                                refine W.widen (k := 20) (n := 120) (by omega) (by omega) ?_
                                                exact ri_zretW (A := bA a a2) (PP := (fun H => va_P D vwCl (xW a kk (ruG g b t n)) H ∧ va_P D vwCl (xW a2 kk (ruG g b t n)) H ∧ N ≤ H.size)) hx hb hr hlocks hS ⟨hP, hP2, hz⟩ (Or.inr rfl) dL_isCompared_301 rfl
                                      · skip
                                        refine lv_iload hx hb dL_isCompared_254 (lv_at hl 1 rfl) ?_
                                        refine ri_iconst hx hb dL_isCompared_256 ?_
                                        refine ri_iadd hx hb dL_isCompared_257 ?_
                                        refine lv_goto (tgt := 263) hx hb dL_isCompared_258 (by decide) ?_
                                        refine ri_icmp_ne (tgt := 300) hx hb (by omega) dL_isCompared_263 (by decide) (fun c_185 => ?_) (fun c_185 => ?_)
                                        · skip
                                          exfalso; omega
                                        · skip
                                          refine lv_aload_n hx hb dL_isCompared_266 rfl (lv_at hl 9 rfl) ?_
                                          refine lv_iload_n hx hb dL_isCompared_267 rfl (lv_at hl 12 rfl) ?_
                                          refine ri_xi (ri_runVX (b := a 0) (As := [.int (iI t)]) (rest := []) CF (k_X3_doubt l D a kk (ruG g b t n) sa hst t hA hI3 (by omega)) gL_isCompared_X3_doubt f_X3_doubt rfl (va_recv hK hP (ci := 3) (q0 := 0) rfl rfl) ⟨rfl, rfl, (Nat.le_of_ble_eq_true rfl), (Nat.le_of_ble_eq_true rfl), (Nat.le_of_ble_eq_true rfl), (Nat.le_of_ble_eq_true rfl)⟩ pB_bl (pB_i2 hS (fun _ h => Or.inl h) hT hP hK hN) rfl hl.1 rfl (Nat.le_of_ble_eq_true rfl) dL_isCompared_268) hS (fun _ h => Or.inl h) (fun X hX => absurd (show 0 ≤ t ∧ t ≤ 4 from hcm.2.1) hX.2) (fun H_186 locs1 hB9 hz9 hk9 hS => ?_)
                                          replace hP : va_P D vwCl (xW a kk (ruG g b t n)) H_186 := hB9
                                          replace hP2 := hP2.un hk9 (x_un2 (ap_1 hAB))
                                          replace hz := Nat.le_trans hz hz9
                                          refine ri_if_lt (tgt := 300) hx hb (by omega) dL_isCompared_271 (by decide) (fun c_187 => ?_) (fun c_187 => ?_)
                                          · skip
                                            exfalso; omega
                                          · skip
                                            refine lv_aload_n hx hb dL_isCompared_274 rfl (lv_at hl 9 rfl) ?_
                                            refine lv_iload_n hx hb dL_isCompared_275 rfl (lv_at hl 12 rfl) ?_
                                            refine ri_xi (ri_runVX (b := a 0) (As := [.int (iI t)]) (rest := []) CF (k_X3_doubt l D a kk (ruG g b t n) sa hst t hA hI3 (by omega)) gL_isCompared_X3_doubt f_X3_doubt rfl (va_recv hK hP (ci := 3) (q0 := 0) rfl rfl) ⟨rfl, rfl, (Nat.le_of_ble_eq_true rfl), (Nat.le_of_ble_eq_true rfl), (Nat.le_of_ble_eq_true rfl), (Nat.le_of_ble_eq_true rfl)⟩ pB_bl (pB_i2 hS (fun _ h => Or.inl h) hT hP hK hN) rfl hl.1 rfl (Nat.le_of_ble_eq_true rfl) dL_isCompared_276) hS (fun _ h => Or.inl h) (fun X hX => absurd (show 0 ≤ t ∧ t ≤ 4 from hcm.2.1) hX.2) (fun H_188 locs1 hB9 hz9 hk9 hS => ?_)
                                            replace hP : va_P D vwCl (xW a kk (ruG g b t n)) H_188 := hB9
                                            replace hP2 := hP2.un hk9 (x_un2 (ap_1 hAB))
                                            replace hz := Nat.le_trans hz hz9
                                            refine ri_bipush hx hb dL_isCompared_279 (by decide) ?_
                                            refine ri_icmp_gt (tgt := 300) hx hb (by omega) dL_isCompared_281 (by decide) (fun c_189 => ?_) (fun c_189 => ?_)
                                            · skip
                                              exfalso; omega
                                            · skip
                                              refine lv_aload_n hx hb dL_isCompared_284 rfl (lv_at hl 9 rfl) ?_
                                              refine lv_iload_n hx hb dL_isCompared_285 rfl (lv_at hl 11 rfl) ?_
                                              refine lv_iload_n hx hb dL_isCompared_286 rfl (lv_at hl 12 rfl) ?_
                                              refine ri_sipush hx hb dL_isCompared_287 (by decide) ?_
                                              refine ri_xi (ri_runVX (b := a 0) (As := [.int (iI b), .int (iI t), .int (iI 255)]) (rest := []) CF (k_X3_differences l D a kk (ruG g b t n) sa hst b t 255 hA hI3 (by omega) (by omega) (by omega)) gL_isCompared_X3_differences f_X3_differences rfl (va_recv hK hP (ci := 3) (q0 := 0) rfl rfl) ⟨rfl, rfl, (Nat.le_of_ble_eq_true rfl), (Nat.le_of_ble_eq_true rfl), (Nat.le_of_ble_eq_true rfl), (Nat.le_of_ble_eq_true rfl)⟩ pB_bl (pB_i2 hS (fun _ h => Or.inl h) hT hP hK hN) rfl hl.1 rfl (Nat.le_of_ble_eq_true rfl) dL_isCompared_290) hS (fun _ h => Or.inl h) (fun X hX => Or.elim hX (fun z => absurd hok5.1 z.2) (fun z => absurd hok5.2 z.2.2)) (fun H_190 locs1 hB9 hz9 hk9 hS => ?_)
                                              replace hP : va_P D vwCl (xW a kk (ruG g b t n)) H_190 := hB9
                                              replace hP2 := hP2.un hk9 (x_un2 (ap_1 hAB))
                                              replace hz := Nat.le_trans hz hz9
                                              refine ri_eq (y := 0) (cnt_255 hI3 hcm.1 ⟨hb4, ht4⟩) ?_
                                              refine ri_if_ne (tgt := 300) hx hb (by omega) dL_isCompared_293 (by decide) (fun c_191 => ?_) (fun c_191 => ?_)
                                              · skip
                                                exfalso; omega
                                              · skip
                                                refine ri_iconst hx hb dL_isCompared_296 ?_
                                                refine lv_goto (tgt := 301) hx hb dL_isCompared_297 (by decide) ?_
                                                refine W.widen (k := 20) (n := 120) (by omega) (by omega) ?_
                                                exact ri_zretW (A := bA a a2) (PP := (fun H => va_P D vwCl (xW a kk (ruG g b t n)) H ∧ va_P D vwCl (xW a2 kk (ruG g b t n)) H ∧ N ≤ H.size)) hx hb hr hlocks hS ⟨hP, hP2, hz⟩ (Or.inr rfl) dL_isCompared_301 rfl
  · skip
    have e5 := dfR_3 hcm h16
    have e6 := ruR_3 hcm h16
    refine lv_iload hx hb dL_isCompared_19 (lv_at hl 0 rfl) ?_
    refine ri_iconst hx hb dL_isCompared_21 ?_
    refine ri_icmp_ne (tgt := 42) hx hb (by omega) dL_isCompared_22 (by decide) (fun c_192 => ?_) (fun c_192 => ?_)
    · skip
      exfalso; omega
    · skip
      refine lv_aload_n hx hb dL_isCompared_25 rfl (lv_at hl 1 rfl) ?_
      refine lv_iload_n hx hb dL_isCompared_26 rfl (lv_at hl 3 rfl) ?_
      refine lv_iload_n hx hb dL_isCompared_27 rfl (lv_at hl 4 rfl) ?_
      refine lv_iload hx hb dL_isCompared_28 (lv_at hl 5 rfl) ?_
      refine ri_wz (v := ruR g b t n) (PP := (fun H => va_P D vwCl (xW a kk (ruG g b t n)) H ∧ (H_2).size ≤ H.size)) (vx_runSW (As := [.ref (a 0), .int (iI b), .int (iI t), .int (iI n)]) (rest := []) CF (kL_run l D a kk g sa (H_2).size hst b t n hA hI (by omega) (by omega) (by omega)) (vx_cwSW 4 hts gL_isCompared_L_run rfl rfl rfl ⟨by decide +kernel, by decide +kernel, by decide +kernel⟩ ⟨(Nat.le_of_ble_eq_true rfl), (Nat.le_of_ble_eq_true rfl)⟩) ⟨Bl_pc qB_bl, fun U hU hW9 => ⟨rfl, qB_in hS (fun _ h => Or.inl h) hT hP hK hN hC (Nat.le_refl _) U hU hW9⟩⟩ rfl rfl hl.1 rfl (lv_room (Nat.le_of_ble_eq_true rfl)) dL_isCompared_30 ⟨(Nat.le_of_ble_eq_true rfl), (Nat.le_of_ble_eq_true rfl)⟩) hS (fun _ h => Or.inl h) (fun H_193 locs1 hB9 hz9 hk9 hS => ?_)
      replace hP : va_P D vwCl (xW a kk (ruG g b t n)) H_193 := hB9.1
      replace hP2 := hP2.un hk9 (x_un2 (ap_1 hAB))
      replace hz := Nat.le_trans hz hz9
      refine lv_ldc (v := iI (-99998)) hx hb hown (hts _ (List.mem_of_getElem? (i := 1) rfl)) dL_isCompared_33 ?_
      refine ri_icmp_ne (tgt := 42) hx hb (by omega) dL_isCompared_35 (by decide) (fun c_194 => ?_) (fun c_194 => ?_)
      · skip
        exfalso; omega
      · skip
        refine ri_iconst hx hb dL_isCompared_38 ?_
        refine lv_goto (tgt := 43) hx hb dL_isCompared_39 (by decide) ?_
        refine W.widen (k := 20) (n := 120) (by omega) (by omega) ?_
        exact ri_zretW (A := bA a a2) (PP := (fun H => va_P D vwCl (xW a kk (ruG g b t n)) H ∧ va_P D vwCl (xW a2 kk (ruG g b t n)) H ∧ N ≤ H.size)) hx hb hr hlocks hS ⟨hP, by rw [ruG_f g b t n (fun q => h16 q.2)]; exact hP2, hz⟩ (Or.inr rfl) dL_isCompared_43 rfl

theorem f_L_isBranchSo : MF yL_isBranchSo wsL_isBranchSo cL_isBranchSo 8 (some .boolean) 4 := ⟨⟨_, rfl⟩, by decide +kernel, by decide +kernel, by decide +kernel⟩
set_option maxHeartbeats 4000000 in
set_option maxRecDepth 100000 in
theorem k_L_isBranchSo (l : Launch) (D : va_G) (a a2 : Nat → Nat) (kk : Nat → ClassId) (g : Nat → Nat → Int) (sa : Nat → Nat) (N : Nat) (hst : l.stackTraces = false) (b : Int) (t : Int) (hA : aDs 17 a) (hA2 : aDs 17 a2) (hAB : ∀ i j, i < 17 → j < 17 → a i ≠ a2 j) (hI : XInv g) (hbb : 1 ≤ b ∧ b ≤ 3) (ht : 0 ≤ t ∧ t ≤ 4) : WI l yL_isBranchSo wsL_isBranchSo ({ frames := 9, cells := 20, slots := 120, locals := 156 }) [.ref (a 0), .ref (a2 0), .int (iI b), .int (iI t)] (rB sa D a a2 kk g N) (1) (fun H => va_P D vwCl (xW a kk (b4G g b t)) H ∧ va_P D vwCl (xW a2 kk (b4G g b t)) H ∧ N ≤ H.size) (bA a a2) 20 120 := by
  refine ri_ent (cc := cL_isBranchSo) (maxL := 8) (ret := some .boolean) (by decide) rfl (Nat.le_of_ble_eq_true rfl) ?_
  intro zp ze s zm zb zt zc hx hb hr hts hown hlocks hml hin hB ls hl
  have hown : s.vm.findClass RL = some zm.cls := hown
  have CF : CallFix zp zm zc cL_isBranchSo 8 s ([.ref (a 0), .ref (a2 0), .int (iI b), .int (iI t)] : List Value).toArray wsL_isBranchSo RL := ⟨hx, hb, hml, hown, hts⟩
  obtain ⟨hT, hP, hP2, hK, hN, hC, hz⟩ := hB
  have hS : va_S (bA a a2) s.heap s.heap [] := va_S.rf
  have hl : lv_has ls 8 [(0, .ref (a 0)), (1, .ref (a2 0)), (2, .int (iI b)), (3, .int (iI t))] := hl
  have e0 : 5 + 0 * 5 + t = 5 + t := by omega
  have f1 : (b1G g b) 3 (5 + b * 5 + t).toNat = (b1G g b) 3 (5 + 0 * 5 + t).toNat := by rw [e0]; exact (b_1 g hbb ht).1.1
  have f2 : (b2G g b) 3 (5 + b * 5 + t).toNat = (b1G g b) 3 (5 + 0 * 5 + t).toNat := by rw [e0]; exact (b_2 g hbb ht).2.1.1
  have e1 : joR (b1G g b) b = 0 := by rw [joR_t (b1G g b) b hbb]; exact (b_2 g hbb ht).1
  obtain ⟨hI1, hI2, hI3, f3, f4, f7⟩ := b_3 hI hbb ht
  have e3 : joR (b3G g b t) b = 0 := by rw [joR_t (b3G g b t) b hbb]; exact f7
  obtain ⟨hI4, f5, f6⟩ := b_4 hI hbb ht
  have hok3 : cmpA b t 0 ∧ (b3G g b t) 3 (5 + b * 5 + t).toNat = 1 := ⟨⟨by omega, ht, by omega⟩, f4⟩
  have hok4 : cmpA 0 t 0 ∧ (b4G g b t) 3 (5 + 0 * 5 + t).toNat = 1 := ⟨⟨by omega, ht, by omega⟩, f6⟩
  refine lv_aload_n hx hb dL_isBranchSo_0 rfl (lv_at hl 0 rfl) ?_
  refine lv_iload_n hx hb dL_isBranchSo_1 rfl (lv_at hl 2 rfl) ?_
  refine ri_xi (ri_runVX (b := a 0) (As := [.int (iI b)]) (rest := []) CF (k_X3_begin l D a kk g sa hst b hA hI (by omega)) gL_isBranchSo_X3_begin f_X3_begin rfl (va_recv hK hP (ci := 3) (q0 := 0) rfl rfl) ⟨rfl, rfl, (Nat.le_of_ble_eq_true rfl), (Nat.le_of_ble_eq_true rfl), (Nat.le_of_ble_eq_true rfl), (Nat.le_of_ble_eq_true rfl)⟩ pB_bl (pB_i2 hS (fun _ h => Or.inl h) hT hP hK hN) rfl hl.1 rfl (Nat.le_of_ble_eq_true rfl) dL_isBranchSo_2) hS (fun _ h => Or.inl h) (fun X hX => absurd (show 1 ≤ b ∧ b ≤ 3 from hbb) hX.2) (fun H_1 locs1 hB9 hz9 hk9 hS => ?_)
  replace hP : va_P D vwCl (xW a kk (begG g b 5)) H_1 := hB9
  replace hP2 := hP2.un hk9 (x_un2 (ap_1 hAB))
  replace hz := Nat.le_trans hz hz9
  replace hP : va_P D vwCl (xW a kk (b1G g b)) H_1 := hP
  refine lv_istore (lv' := [(4, .int (iI (begC g b 5))), (0, .ref (a 0)), (1, .ref (a2 0)), (2, .int (iI b)), (3, .int (iI t))]) hx hb dL_isBranchSo_5 hl (by decide) rfl (fun ls hl => ?_)
  refine lv_aload_n hx hb dL_isBranchSo_7 rfl (lv_at hl 1 rfl) ?_
  refine ri_iconst hx hb dL_isBranchSo_8 ?_
  refine lv_iload_n hx hb dL_isBranchSo_9 rfl (lv_at hl 4 rfl) ?_
  refine ri_xi (ri_runVX (b := a 0) (As := [.int (iI 0), .int (iI t)]) (rest := []) CF (k_X3_isApproved l D a kk (b1G g b) sa hst 0 t hA hI1 (by omega) (by omega)) gL_isBranchSo_X3_isApproved f_X3_isApproved rfl (va_recv hK hP (ci := 3) (q0 := 0) rfl rfl) ⟨rfl, rfl, (Nat.le_of_ble_eq_true rfl), (Nat.le_of_ble_eq_true rfl), (Nat.le_of_ble_eq_true rfl), (Nat.le_of_ble_eq_true rfl)⟩ pB_bl (pB_i2 hS (fun _ h => Or.inl h) hT hP hK hN) rfl hl.1 rfl (Nat.le_of_ble_eq_true rfl) dL_isBranchSo_10) hS (fun _ h => Or.inl h) (fun X hX => absurd (show ((0 : Int) ≤ 0 ∧ (0 : Int) ≤ 3) ∧ (0 ≤ t ∧ t ≤ 4) from by omega) hX.2) (fun H_2 locs1 hB9 hz9 hk9 hS => ?_)
  replace hP : va_P D vwCl (xW a kk ((b1G g b))) H_2 := hB9
  replace hP2 := hP2.un hk9 (x_un2 (ap_1 hAB))
  replace hz := Nat.le_trans hz hz9
  refine lv_istore (lv' := [(5, .int (iI (bp ((b1G g b) 3 (5 + 0 * 5 + t).toNat = 1)))), (4, .int (iI (begC g b 5))), (0, .ref (a 0)), (1, .ref (a2 0)), (2, .int (iI b)), (3, .int (iI t))]) hx hb dL_isBranchSo_13 hl (by decide) rfl (fun ls hl => ?_)
  refine lv_iload hx hb dL_isBranchSo_15 (lv_at hl 1 rfl) ?_
  refine lv_aload_n hx hb dL_isBranchSo_17 rfl (lv_at hl 3 rfl) ?_
  refine lv_iload_n hx hb dL_isBranchSo_18 rfl (lv_at hl 4 rfl) ?_
  refine ri_xi (ri_runVX (b := a2 0) (As := [.int (iI b)]) (rest := [.int (iI (begC g b 5))]) CF (k_X3_begin l D a2 kk g sa hst b hA2 hI (by omega)) gL_isBranchSo_X3_begin f_X3_begin rfl (va_recv hK hP2 (ci := 3) (q0 := 0) rfl rfl) ⟨rfl, rfl, (Nat.le_of_ble_eq_true rfl), (Nat.le_of_ble_eq_true rfl), (Nat.le_of_ble_eq_true rfl), (Nat.le_of_ble_eq_true rfl)⟩ pB_bl (pB_i2 hS (fun _ h => Or.inr h) hT hP2 hK hN) rfl hl.1 rfl (Nat.le_of_ble_eq_true rfl) dL_isBranchSo_19) hS (fun _ h => Or.inr h) (fun X hX => absurd (show 1 ≤ b ∧ b ≤ 3 from hbb) hX.2) (fun H_3 locs1 hB9 hz9 hk9 hS => ?_)
  replace hP2 : va_P D vwCl (xW a2 kk (begG g b 5)) H_3 := hB9
  replace hP := hP.un hk9 (x_un2 (ap_2 hAB))
  replace hz := Nat.le_trans hz hz9
  replace hP2 : va_P D vwCl (xW a2 kk (b1G g b)) H_3 := hP2
  refine ri_icmp_ne (tgt := 52) hx hb (by have h9 := begC_r g b 5; omega) dL_isBranchSo_22 (by decide) (fun h22 => ?_) (fun h22 => ?_)
  · skip
    exact absurd rfl h22
  · skip
    refine lv_aload_n hx hb dL_isBranchSo_25 rfl (lv_at hl 2 rfl) ?_
    refine lv_iload_n hx hb dL_isBranchSo_26 rfl (lv_at hl 4 rfl) ?_
    refine lv_iload_n hx hb dL_isBranchSo_27 rfl (lv_at hl 5 rfl) ?_
    refine ri_xi (ri_runVX (b := a 0) (As := [.int (iI b), .int (iI t)]) (rest := []) CF (k_X3_isApproved l D a kk (b1G g b) sa hst b t hA hI1 (by omega) (by omega)) gL_isBranchSo_X3_isApproved f_X3_isApproved rfl (va_recv hK hP (ci := 3) (q0 := 0) rfl rfl) ⟨rfl, rfl, (Nat.le_of_ble_eq_true rfl), (Nat.le_of_ble_eq_true rfl), (Nat.le_of_ble_eq_true rfl), (Nat.le_of_ble_eq_true rfl)⟩ pB_bl (pB_i2 hS (fun _ h => Or.inl h) hT hP hK hN) rfl hl.1 rfl (Nat.le_of_ble_eq_true rfl) dL_isBranchSo_28) hS (fun _ h => Or.inl h) (fun X hX => absurd (show ((0 : Int) ≤ b ∧ (b : Int) ≤ 3) ∧ (0 ≤ t ∧ t ≤ 4) from by omega) hX.2) (fun H_4 locs1 hB9 hz9 hk9 hS => ?_)
    replace hP : va_P D vwCl (xW a kk ((b1G g b))) H_4 := hB9
    replace hP2 := hP2.un hk9 (x_un2 (ap_1 hAB))
    replace hz := Nat.le_trans hz hz9
    refine ri_eq (y := bp ((b1G g b) 3 (5 + 0 * 5 + t).toNat = 1)) (by rw [f1]) ?_
    refine lv_iload hx hb dL_isBranchSo_31 (lv_at hl 0 rfl) ?_
    refine ri_icmp_ne (tgt := 52) hx hb (by have h9 := bp_r ((b1G g b) 3 (5 + 0 * 5 + t).toNat = 1); omega) dL_isBranchSo_33 (by decide) (fun h33 => ?_) (fun h33 => ?_)
    · skip
      exact absurd rfl h33
    · skip
      refine lv_aload_n hx hb dL_isBranchSo_36 rfl (lv_at hl 2 rfl) ?_
      refine lv_iload_n hx hb dL_isBranchSo_37 rfl (lv_at hl 4 rfl) ?_
      refine ri_wz (v := joR (b1G g b) b) (PP := (fun H => va_P D vwCl (xW a kk (joG (b1G g b) b)) H ∧ (H_4).size ≤ H.size)) (vx_runSW (As := [.ref (a 0), .int (iI b)]) (rest := []) CF (kL_join l D a kk (b1G g b) sa (H_4).size hst b hA hI1 (by omega)) (vx_cwSW 2 hts gL_isBranchSo_L_join rfl rfl rfl ⟨by decide +kernel, by decide +kernel, by decide +kernel⟩ ⟨(Nat.le_of_ble_eq_true rfl), (Nat.le_of_ble_eq_true rfl)⟩) ⟨Bl_pc qB_bl, fun U hU hW9 => ⟨rfl, qB_in hS (fun _ h => Or.inl h) hT hP hK hN hC (Nat.le_refl _) U hU hW9⟩⟩ rfl rfl hl.1 rfl (lv_room (Nat.le_of_ble_eq_true rfl)) dL_isBranchSo_38 ⟨(Nat.le_of_ble_eq_true rfl), (Nat.le_of_ble_eq_true rfl)⟩) hS (fun _ h => Or.inl h) (fun H_5 locs1 hB9 hz9 hk9 hS => ?_)
      replace hP : va_P D vwCl (xW a kk (joG (b1G g b) b)) H_5 := hB9.1
      replace hP2 := hP2.un hk9 (x_un2 (ap_1 hAB))
      replace hz := Nat.le_trans hz hz9
      rw [joG_t (b1G g b) b hbb] at hP
      replace hP : va_P D vwCl (xW a kk (b2G g b)) H_5 := hP
      refine ri_if_ne (tgt := 52) hx hb (by omega) dL_isBranchSo_41 (by decide) (fun c_6 => ?_) (fun c_6 => ?_)
      · skip
        exfalso; omega
      · skip
        refine lv_aload_n hx hb dL_isBranchSo_44 rfl (lv_at hl 3 rfl) ?_
        refine lv_iload_n hx hb dL_isBranchSo_45 rfl (lv_at hl 4 rfl) ?_
        refine ri_wz (v := joR (b1G g b) b) (PP := (fun H => va_P D vwCl (xW a2 kk (joG (b1G g b) b)) H ∧ (H_5).size ≤ H.size)) (vx_runSW (As := [.ref (a2 0), .int (iI b)]) (rest := []) CF (kL_join l D a2 kk (b1G g b) sa (H_5).size hst b hA2 hI1 (by omega)) (vx_cwSW 2 hts gL_isBranchSo_L_join rfl rfl rfl ⟨by decide +kernel, by decide +kernel, by decide +kernel⟩ ⟨(Nat.le_of_ble_eq_true rfl), (Nat.le_of_ble_eq_true rfl)⟩) ⟨Bl_pc qB_bl, fun U hU hW9 => ⟨rfl, qB_in hS (fun _ h => Or.inr h) hT hP2 hK hN hC (Nat.le_refl _) U hU hW9⟩⟩ rfl rfl hl.1 rfl (lv_room (Nat.le_of_ble_eq_true rfl)) dL_isBranchSo_46 ⟨(Nat.le_of_ble_eq_true rfl), (Nat.le_of_ble_eq_true rfl)⟩) hS (fun _ h => Or.inr h) (fun H_7 locs1 hB9 hz9 hk9 hS => ?_)
        replace hP2 : va_P D vwCl (xW a2 kk (joG (b1G g b) b)) H_7 := hB9.1
        replace hP := hP.un hk9 (x_un2 (ap_2 hAB))
        replace hz := Nat.le_trans hz hz9
        rw [joG_t (b1G g b) b hbb] at hP2
        replace hP2 : va_P D vwCl (xW a2 kk (b2G g b)) H_7 := hP2
        refine ri_if_eq (tgt := 54) hx hb (by omega) dL_isBranchSo_49 (by decide) (fun c_8 => ?_) (fun c_8 => ?_)
        · skip
          refine lv_aload_n hx hb dL_isBranchSo_54 rfl (lv_at hl 2 rfl) ?_
          refine lv_iload_n hx hb dL_isBranchSo_55 rfl (lv_at hl 4 rfl) ?_
          refine lv_iload_n hx hb dL_isBranchSo_56 rfl (lv_at hl 5 rfl) ?_
          refine ri_xi (ri_runVX (b := a 0) (As := [.int (iI b), .int (iI t)]) (rest := []) CF (k_X3_approve l D a kk (b2G g b) sa hst b t hA hI2 (by omega) (by omega)) gL_isBranchSo_X3_approve f_X3_approve rfl (va_recv hK hP (ci := 3) (q0 := 0) rfl rfl) ⟨rfl, rfl, (Nat.le_of_ble_eq_true rfl), (Nat.le_of_ble_eq_true rfl), (Nat.le_of_ble_eq_true rfl), (Nat.le_of_ble_eq_true rfl)⟩ pB_bl (pB_i2 hS (fun _ h => Or.inl h) hT hP hK hN) rfl hl.1 rfl (Nat.le_of_ble_eq_true rfl) dL_isBranchSo_57) hS (fun _ h => Or.inl h) (fun X hX => absurd (show ((0 : Int) ≤ b ∧ (b : Int) ≤ 3) ∧ (0 ≤ t ∧ t ≤ 4) from by omega) hX.2) (fun H_9 locs1 hB9 hz9 hk9 hS => ?_)
          replace hP : va_P D vwCl (xW a kk (cpG (b2G g b) t (5 + b * 5 + t))) H_9 := hB9
          replace hP2 := hP2.un hk9 (x_un2 (ap_1 hAB))
          replace hz := Nat.le_trans hz hz9
          replace hP : va_P D vwCl (xW a kk (b3G g b t)) H_9 := hP
          refine ri_eq (y := bp ((b1G g b) 3 (5 + 0 * 5 + t).toNat = 1)) (by rw [f2]) ?_
          refine lv_istore (lv' := [(6, .int (iI (bp ((b1G g b) 3 (5 + 0 * 5 + t).toNat = 1)))), (5, .int (iI (bp ((b1G g b) 3 (5 + 0 * 5 + t).toNat = 1)))), (4, .int (iI (begC g b 5))), (0, .ref (a 0)), (1, .ref (a2 0)), (2, .int (iI b)), (3, .int (iI t))]) hx hb dL_isBranchSo_60 hl (by decide) rfl (fun ls hl => ?_)
          refine lv_iload hx hb dL_isBranchSo_62 (lv_at hl 0 rfl) ?_
          refine lv_iload hx hb dL_isBranchSo_64 (lv_at hl 1 rfl) ?_
          refine ri_icmp_ne (tgt := 107) hx hb (by have h9 := bp_r ((b1G g b) 3 (5 + 0 * 5 + t).toNat = 1); omega) dL_isBranchSo_66 (by decide) (fun h66 => ?_) (fun h66 => ?_)
          · skip
            exact absurd rfl h66
          · skip
            refine lv_aload_n hx hb dL_isBranchSo_69 rfl (lv_at hl 4 rfl) ?_
            refine lv_iload_n hx hb dL_isBranchSo_70 rfl (lv_at hl 5 rfl) ?_
            refine lv_iload_n hx hb dL_isBranchSo_71 rfl (lv_at hl 6 rfl) ?_
            refine ri_xi (ri_runVX (b := a2 0) (As := [.int (iI b), .int (iI t)]) (rest := []) CF (k_X3_approve l D a2 kk (b2G g b) sa hst b t hA2 hI2 (by omega) (by omega)) gL_isBranchSo_X3_approve f_X3_approve rfl (va_recv hK hP2 (ci := 3) (q0 := 0) rfl rfl) ⟨rfl, rfl, (Nat.le_of_ble_eq_true rfl), (Nat.le_of_ble_eq_true rfl), (Nat.le_of_ble_eq_true rfl), (Nat.le_of_ble_eq_true rfl)⟩ pB_bl (pB_i2 hS (fun _ h => Or.inr h) hT hP2 hK hN) rfl hl.1 rfl (Nat.le_of_ble_eq_true rfl) dL_isBranchSo_72) hS (fun _ h => Or.inr h) (fun X hX => absurd (show ((0 : Int) ≤ b ∧ (b : Int) ≤ 3) ∧ (0 ≤ t ∧ t ≤ 4) from by omega) hX.2) (fun H_10 locs1 hB9 hz9 hk9 hS => ?_)
            replace hP2 : va_P D vwCl (xW a2 kk (cpG (b2G g b) t (5 + b * 5 + t))) H_10 := hB9
            replace hP := hP.un hk9 (x_un2 (ap_2 hAB))
            replace hz := Nat.le_trans hz hz9
            replace hP2 : va_P D vwCl (xW a2 kk (b3G g b t)) H_10 := hP2
            refine ri_eq (y := bp ((b1G g b) 3 (5 + 0 * 5 + t).toNat = 1)) (by rw [f2]) ?_
            refine lv_iload hx hb dL_isBranchSo_75 (lv_at hl 0 rfl) ?_
            refine ri_icmp_ne (tgt := 107) hx hb (by have h9 := bp_r ((b1G g b) 3 (5 + 0 * 5 + t).toNat = 1); omega) dL_isBranchSo_77 (by decide) (fun h77 => ?_) (fun h77 => ?_)
            · skip
              exact absurd rfl h77
            · skip
              refine lv_aload_n hx hb dL_isBranchSo_80 rfl (lv_at hl 3 rfl) ?_
              refine lv_iload_n hx hb dL_isBranchSo_81 rfl (lv_at hl 5 rfl) ?_
              refine lv_iload_n hx hb dL_isBranchSo_82 rfl (lv_at hl 6 rfl) ?_
              refine ri_iconst hx hb dL_isBranchSo_83 ?_
              refine ri_xi (ri_runVX (b := a 0) (As := [.int (iI b), .int (iI t), .int (iI 0)]) (rest := []) CF (k_X3_differences l D a kk (b3G g b t) sa hst b t 0 hA hI3 (by omega) (by omega) (by omega)) gL_isBranchSo_X3_differences f_X3_differences rfl (va_recv hK hP (ci := 3) (q0 := 0) rfl rfl) ⟨rfl, rfl, (Nat.le_of_ble_eq_true rfl), (Nat.le_of_ble_eq_true rfl), (Nat.le_of_ble_eq_true rfl), (Nat.le_of_ble_eq_true rfl)⟩ pB_bl (pB_i2 hS (fun _ h => Or.inl h) hT hP hK hN) rfl hl.1 rfl (Nat.le_of_ble_eq_true rfl) dL_isBranchSo_84) hS (fun _ h => Or.inl h) (fun X hX => Or.elim hX (fun z => absurd hok3.1 z.2) (fun z => absurd hok3.2 z.2.2)) (fun H_11 locs1 hB9 hz9 hk9 hS => ?_)
              replace hP : va_P D vwCl (xW a kk ((b3G g b t))) H_11 := hB9
              replace hP2 := hP2.un hk9 (x_un2 (ap_1 hAB))
              replace hz := Nat.le_trans hz hz9
              refine ri_eq (y := 0) (cnt_eq f3 (by omega)) ?_
              refine ri_if_ne (tgt := 107) hx hb (by omega) dL_isBranchSo_87 (by decide) (fun c_12 => ?_) (fun c_12 => ?_)
              · skip
                exfalso; omega
              · skip
                refine lv_aload_n hx hb dL_isBranchSo_90 rfl (lv_at hl 3 rfl) ?_
                refine lv_iload_n hx hb dL_isBranchSo_91 rfl (lv_at hl 5 rfl) ?_
                refine lv_iload_n hx hb dL_isBranchSo_92 rfl (lv_at hl 6 rfl) ?_
                refine ri_iconst hx hb dL_isBranchSo_93 ?_
                refine ri_xi (ri_runVX (b := a 0) (As := [.int (iI b), .int (iI t), .int (iI 0)]) (rest := []) CF (k_X3_move l D a kk (b3G g b t) sa hst b t 0 hA hI3 (by omega) (by omega) (by omega)) gL_isBranchSo_X3_move f_X3_move rfl (va_recv hK hP (ci := 3) (q0 := 0) rfl rfl) ⟨rfl, rfl, (Nat.le_of_ble_eq_true rfl), (Nat.le_of_ble_eq_true rfl), (Nat.le_of_ble_eq_true rfl), (Nat.le_of_ble_eq_true rfl)⟩ pB_bl (pB_i2 hS (fun _ h => Or.inl h) hT hP hK hN) rfl hl.1 rfl (Nat.le_of_ble_eq_true rfl) dL_isBranchSo_94) hS (fun _ h => Or.inl h) (fun X hX => Or.elim hX (fun z => absurd hok3.1 z.2) (fun z => absurd hok3.2 z.2.2)) (fun H_13 locs1 hB9 hz9 hk9 hS => ?_)
                replace hP : va_P D vwCl (xW a kk ((b3G g b t))) H_13 := hB9
                replace hP2 := hP2.un hk9 (x_un2 (ap_1 hAB))
                replace hz := Nat.le_trans hz hz9
                refine ri_eq (y := 5050) (mv_eq hI3 f3 ht (by omega)) ?_
                refine ri_sipush hx hb dL_isBranchSo_97 (by decide) ?_
                refine ri_icmp_ne (tgt := 107) hx hb (by omega) dL_isBranchSo_100 (by decide) (fun c_14 => ?_) (fun c_14 => ?_)
                · skip
                  exfalso; omega
                · skip
                  refine ri_iconst hx hb dL_isBranchSo_103 ?_
                  refine lv_goto (tgt := 108) hx hb dL_isBranchSo_104 (by decide) ?_
                  refine lv_istore (lv' := [(7, .int (iI 1)), (6, .int (iI (bp ((b1G g b) 3 (5 + 0 * 5 + t).toNat = 1)))), (5, .int (iI (bp ((b1G g b) 3 (5 + 0 * 5 + t).toNat = 1)))), (4, .int (iI (begC g b 5))), (0, .ref (a 0)), (1, .ref (a2 0)), (2, .int (iI b)), (3, .int (iI t))]) hx hb dL_isBranchSo_108 hl (by decide) rfl (fun ls hl => ?_)
                  refine lv_iload hx hb dL_isBranchSo_110 (lv_at hl 0 rfl) ?_
                  refine ri_if_eq (tgt := 154) hx hb (by omega) dL_isBranchSo_112 (by decide) (fun c_15 => ?_) (fun c_15 => ?_)
                  · skip
                    exfalso; omega
                  · skip
                    refine lv_aload_n hx hb dL_isBranchSo_115 rfl (lv_at hl 4 rfl) ?_
                    refine lv_iload_n hx hb dL_isBranchSo_116 rfl (lv_at hl 6 rfl) ?_
                    refine ri_wz (v := joR (b3G g b t) b) (PP := (fun H => va_P D vwCl (xW a kk (joG (b3G g b t) b)) H ∧ (H_13).size ≤ H.size)) (vx_runSW (As := [.ref (a 0), .int (iI b)]) (rest := []) CF (kL_join l D a kk (b3G g b t) sa (H_13).size hst b hA hI3 (by omega)) (vx_cwSW 2 hts gL_isBranchSo_L_join rfl rfl rfl ⟨by decide +kernel, by decide +kernel, by decide +kernel⟩ ⟨(Nat.le_of_ble_eq_true rfl), (Nat.le_of_ble_eq_true rfl)⟩) ⟨Bl_pc qB_bl, fun U hU hW9 => ⟨rfl, qB_in hS (fun _ h => Or.inl h) hT hP hK hN hC (Nat.le_refl _) U hU hW9⟩⟩ rfl rfl hl.1 rfl (lv_room (Nat.le_of_ble_eq_true rfl)) dL_isBranchSo_117 ⟨(Nat.le_of_ble_eq_true rfl), (Nat.le_of_ble_eq_true rfl)⟩) hS (fun _ h => Or.inl h) (fun H_16 locs1 hB9 hz9 hk9 hS => ?_)
                    replace hP : va_P D vwCl (xW a kk (joG (b3G g b t) b)) H_16 := hB9.1
                    replace hP2 := hP2.un hk9 (x_un2 (ap_1 hAB))
                    replace hz := Nat.le_trans hz hz9
                    rw [joG_t (b3G g b t) b hbb] at hP
                    replace hP : va_P D vwCl (xW a kk (b4G g b t)) H_16 := hP
                    refine ri_if_ne (tgt := 154) hx hb (by omega) dL_isBranchSo_120 (by decide) (fun c_17 => ?_) (fun c_17 => ?_)
                    · skip
                      exfalso; omega
                    · skip
                      refine lv_aload_n hx hb dL_isBranchSo_123 rfl (lv_at hl 5 rfl) ?_
                      refine lv_iload_n hx hb dL_isBranchSo_124 rfl (lv_at hl 6 rfl) ?_
                      refine ri_wz (v := joR (b3G g b t) b) (PP := (fun H => va_P D vwCl (xW a2 kk (joG (b3G g b t) b)) H ∧ (H_16).size ≤ H.size)) (vx_runSW (As := [.ref (a2 0), .int (iI b)]) (rest := []) CF (kL_join l D a2 kk (b3G g b t) sa (H_16).size hst b hA2 hI3 (by omega)) (vx_cwSW 2 hts gL_isBranchSo_L_join rfl rfl rfl ⟨by decide +kernel, by decide +kernel, by decide +kernel⟩ ⟨(Nat.le_of_ble_eq_true rfl), (Nat.le_of_ble_eq_true rfl)⟩) ⟨Bl_pc qB_bl, fun U hU hW9 => ⟨rfl, qB_in hS (fun _ h => Or.inr h) hT hP2 hK hN hC (Nat.le_refl _) U hU hW9⟩⟩ rfl rfl hl.1 rfl (lv_room (Nat.le_of_ble_eq_true rfl)) dL_isBranchSo_125 ⟨(Nat.le_of_ble_eq_true rfl), (Nat.le_of_ble_eq_true rfl)⟩) hS (fun _ h => Or.inr h) (fun H_18 locs1 hB9 hz9 hk9 hS => ?_)
                      replace hP2 : va_P D vwCl (xW a2 kk (joG (b3G g b t) b)) H_18 := hB9.1
                      replace hP := hP.un hk9 (x_un2 (ap_2 hAB))
                      replace hz := Nat.le_trans hz hz9
                      rw [joG_t (b3G g b t) b hbb] at hP2
                      replace hP2 : va_P D vwCl (xW a2 kk (b4G g b t)) H_18 := hP2
                      refine ri_if_ne (tgt := 154) hx hb (by omega) dL_isBranchSo_128 (by decide) (fun c_19 => ?_) (fun c_19 => ?_)
                      · skip
                        exfalso; omega
                      · skip
                        refine lv_aload_n hx hb dL_isBranchSo_131 rfl (lv_at hl 4 rfl) ?_
                        refine ri_iconst hx hb dL_isBranchSo_132 ?_
                        refine lv_iload_n hx hb dL_isBranchSo_133 rfl (lv_at hl 7 rfl) ?_
                        refine ri_xi (ri_runVX (b := a 0) (As := [.int (iI 0), .int (iI t)]) (rest := []) CF (k_X3_isApproved l D a kk (b4G g b t) sa hst 0 t hA hI4 (by omega) (by omega)) gL_isBranchSo_X3_isApproved f_X3_isApproved rfl (va_recv hK hP (ci := 3) (q0 := 0) rfl rfl) ⟨rfl, rfl, (Nat.le_of_ble_eq_true rfl), (Nat.le_of_ble_eq_true rfl), (Nat.le_of_ble_eq_true rfl), (Nat.le_of_ble_eq_true rfl)⟩ pB_bl (pB_i2 hS (fun _ h => Or.inl h) hT hP hK hN) rfl hl.1 rfl (Nat.le_of_ble_eq_true rfl) dL_isBranchSo_134) hS (fun _ h => Or.inl h) (fun X hX => absurd (show ((0 : Int) ≤ 0 ∧ (0 : Int) ≤ 3) ∧ (0 ≤ t ∧ t ≤ 4) from by omega) hX.2) (fun H_20 locs1 hB9 hz9 hk9 hS => ?_)
                        replace hP : va_P D vwCl (xW a kk ((b4G g b t))) H_20 := hB9
                        replace hP2 := hP2.un hk9 (x_un2 (ap_1 hAB))
                        replace hz := Nat.le_trans hz hz9
                        refine ri_eq (y := 1) (bp_t f6) ?_
                        refine ri_if_eq (tgt := 154) hx hb (by omega) dL_isBranchSo_137 (by decide) (fun c_21 => ?_) (fun c_21 => ?_)
                        · skip
                          exfalso; omega
                        · skip
                          refine lv_aload_n hx hb dL_isBranchSo_140 rfl (lv_at hl 4 rfl) ?_
                          refine ri_iconst hx hb dL_isBranchSo_141 ?_
                          refine lv_iload_n hx hb dL_isBranchSo_142 rfl (lv_at hl 7 rfl) ?_
                          refine ri_iconst hx hb dL_isBranchSo_143 ?_
                          refine ri_xi (ri_runVX (b := a 0) (As := [.int (iI 0), .int (iI t), .int (iI 0)]) (rest := []) CF (k_X3_differences l D a kk (b4G g b t) sa hst 0 t 0 hA hI4 (by omega) (by omega) (by omega)) gL_isBranchSo_X3_differences f_X3_differences rfl (va_recv hK hP (ci := 3) (q0 := 0) rfl rfl) ⟨rfl, rfl, (Nat.le_of_ble_eq_true rfl), (Nat.le_of_ble_eq_true rfl), (Nat.le_of_ble_eq_true rfl), (Nat.le_of_ble_eq_true rfl)⟩ pB_bl (pB_i2 hS (fun _ h => Or.inl h) hT hP hK hN) rfl hl.1 rfl (Nat.le_of_ble_eq_true rfl) dL_isBranchSo_144) hS (fun _ h => Or.inl h) (fun X hX => Or.elim hX (fun z => absurd hok4.1 z.2) (fun z => absurd hok4.2 z.2.2)) (fun H_22 locs1 hB9 hz9 hk9 hS => ?_)
                          replace hP : va_P D vwCl (xW a kk ((b4G g b t))) H_22 := hB9
                          replace hP2 := hP2.un hk9 (x_un2 (ap_1 hAB))
                          replace hz := Nat.le_trans hz hz9
                          refine ri_eq (y := 0) (cnt_eq f5 (by omega)) ?_
                          refine ri_if_ne (tgt := 154) hx hb (by omega) dL_isBranchSo_147 (by decide) (fun c_23 => ?_) (fun c_23 => ?_)
                          · skip
                            exfalso; omega
                          · skip
                            refine ri_iconst hx hb dL_isBranchSo_150 ?_
                            refine lv_goto (tgt := 155) hx hb dL_isBranchSo_151 (by decide) ?_
                            refine W.widen (k := 20) (n := 120) (by omega) (by omega) ?_
                            exact ri_zretW (A := bA a a2) (PP := (fun H => va_P D vwCl (xW a kk (b4G g b t)) H ∧ va_P D vwCl (xW a2 kk (b4G g b t)) H ∧ N ≤ H.size)) hx hb hr hlocks hS ⟨hP, hP2, hz⟩ (Or.inr rfl) dL_isBranchSo_155 rfl
        · skip
          exfalso; omega
