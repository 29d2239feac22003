set_option maxHeartbeats 4000000 in
set_option maxRecDepth 100000 in
theorem lc_paint {p : Program} {l : Launch} {e : Env} {s : State} {m : MethodId} {below : List Frame} {meth : Method} {c : Code} {b L : Nat} {xs : Nat → Int32} {D : va_G} {kk : Nat → ClassId} {a a2 : Nat → Nat} {o : Nat} {sa : Nat → Nat} {g mm : Nat → Nat → Int} {f : Nat → Int64} {H : Heap} {locs : List Loc} {i : Int} {cells slots : Nat} {ls : Array Slot} {Q : State → Prop} (C0 : LCx p l s m meth c b L xs D kk a a2 o sa) (S0 : LSt s D kk a a2 o g mm f H locs) (hi : 0 ≤ i ∧ i + 7 ≤ (L : Int)) (hc : cells + 2 ≤ 1053 ∧ slots + 12 ≤ 13902) (hl : lv_has ls 7 [(0, .ref b), (1, .ref (a 0)), (2, .ref (a2 0)), (3, .ref o), (4, .int (iI i))]) (K : ∀ (g mm : Nat → Nat → Int) (f : Nat → Int64) (H : Heap) (locs : List Loc) (ls : Array Slot), LSt s D kk a a2 o g mm f H locs → lv_has ls 7 [(0, .ref b), (1, .ref (a 0)), (2, .ref (a2 0)), (3, .ref o), (4, .int (iI i))] → W p l e room_1 s m (#[Value.ref b] : Array Value) below meth c H locs (cells + 2) (slots + 12) Q (F0 m 1263 ls [])) : W p l e room_1 s m (#[Value.ref b] : Array Value) below meth c H locs cells slots Q (F0 m 116 ls []) := by
  obtain ⟨⟨hx, hb, hml, hown, hts, hX, hbl, hL⟩, ⟨hst, hK, hN, hT, hC⟩, ⟨hA, hA2, hO, hO2, hAB, hsa, hsa2, hso⟩⟩ := C0
  obtain ⟨hP, hW, hQ, hS, hR, hI, hMv⟩ := S0
  have hbA : ¬ (fun q : Nat => s.heap.size ≤ q) b := Nat.not_le.mpr hbl
  have CF : CallFix p m c cL_law 7 s (#[Value.ref b] : Array Value) wsL_law RL := ⟨hx, hb, hml, hown, hts⟩
  have hOA : ∀ q : Nat, oA a o q → s.heap.size ≤ q := fun q h => h.elim (fun ⟨k, hk, e9⟩ => by rw [e9]; exact hsa k hk) (fun e9 => by rw [e9]; exact hso)
  have hMA : ∀ q : Nat, aA 8 a2 q → s.heap.size ≤ q := fun q ⟨k, hk, e9⟩ => by rw [e9]; exact hsa2 k hk
  have hmo : ∀ j, j < 8 → ¬ oA a o (a2 j) := fun j hj z => z.elim (fun ⟨k, hk, e9⟩ => hAB k j hk hj e9.symm) (fun e9 => hO2 j hj e9)
  have hxm : ∀ j, j < 17 → ¬ aA 8 a2 (a j) := fun j hj ⟨k, hk, e9⟩ => hAB j k hj hk e9
  have hom : ¬ aA 8 a2 o := fun ⟨k, hk, e9⟩ => hO2 k hk e9.symm
  have hr1 := i32_r (xs (i + 1).toNat)
  have hr2 := i32_r (xs (i + 2).toNat)
  have hr3 := i32_r (xs (i + 3).toNat)
  have hr4 := i32_r (xs (i + 4).toNat)
  have hr5 := i32_r (xs (i + 5).toNat)
  have hr6 := i32_r (xs (i + 6).toNat)
  refine lv_aload_n hx hb dL_law_116 rfl (lv_at hl 1 rfl) ?_
  refine lv_aload_n hx hb dL_law_117 rfl (lv_at hl 0 rfl) ?_
  refine lv_iload hx hb dL_law_118 (lv_at hl 4 rfl) ?_
  refine ri_iconst hx hb dL_law_120 ?_
  refine ri_iadd hx hb dL_law_121 ?_
  refine ri_sld hx hb hX hbl hbA hS (by omega) (by omega) dL_law_122 ?_
  refine lv_aload_n hx hb dL_law_123 rfl (lv_at hl 0 rfl) ?_
  refine lv_iload hx hb dL_law_124 (lv_at hl 4 rfl) ?_
  refine ri_iconst hx hb dL_law_126 ?_
  refine ri_iadd hx hb dL_law_127 ?_
  refine ri_sld hx hb hX hbl hbA hS (by omega) (by omega) dL_law_128 ?_
  refine lv_aload_n hx hb dL_law_129 rfl (lv_at hl 0 rfl) ?_
  refine lv_iload hx hb dL_law_130 (lv_at hl 4 rfl) ?_
  refine ri_iconst hx hb dL_law_132 ?_
  refine ri_iadd hx hb dL_law_133 ?_
  refine ri_sld hx hb hX hbl hbA hS (by omega) (by omega) dL_law_134 ?_
  refine lv_aload_n hx hb dL_law_135 rfl (lv_at hl 0 rfl) ?_
  refine lv_iload hx hb dL_law_136 (lv_at hl 4 rfl) ?_
  refine ri_iconst hx hb dL_law_138 ?_
  refine ri_iadd hx hb dL_law_139 ?_
  refine ri_sld hx hb hX hbl hbA hS (by omega) (by omega) dL_law_140 ?_
  refine lv_aload_n hx hb dL_law_141 rfl (lv_at hl 0 rfl) ?_
  refine lv_iload hx hb dL_law_142 (lv_at hl 4 rfl) ?_
  refine ri_iconst hx hb dL_law_144 ?_
  refine ri_iadd hx hb dL_law_145 ?_
  refine ri_sld hx hb hX hbl hbA hS (by omega) (by omega) dL_law_146 ?_
  refine lv_aload_n hx hb dL_law_147 rfl (lv_at hl 0 rfl) ?_
  refine lv_iload hx hb dL_law_148 (lv_at hl 4 rfl) ?_
  refine ri_bipush hx hb dL_law_150 (by decide) ?_
  refine ri_iadd hx hb dL_law_152 ?_
  refine ri_sld hx hb hX hbl hbA hS (by omega) (by omega) dL_law_153 ?_
  refine lv_aload_n hx hb dL_law_154 rfl (lv_at hl 3 rfl) ?_
  generalize hq1 : (xs (i + 1).toNat).toInt = v_t at hr1 ⊢
  generalize hq2 : (xs (i + 2).toNat).toInt = v_c at hr2 ⊢
  generalize hq3 : (xs (i + 3).toNat).toInt = v_r at hr3 ⊢
  generalize hq4 : (xs (i + 4).toNat).toInt = v_w at hr4 ⊢
  generalize hq5 : (xs (i + 5).toNat).toInt = v_h at hr5 ⊢
  generalize hq6 : (xs (i + 6).toNat).toInt = v_sh at hr6 ⊢
  by_cases hok : (0 ≤ v_t ∧ v_t ≤ 4) ∧ (((0 ≤ v_c ∧ v_c ≤ 7) ∧ (0 ≤ v_r ∧ v_r ≤ 7)) ∧ (1 ≤ v_w ∧ v_w ≤ 8 - v_c) ∧ (1 ≤ v_h ∧ v_h ≤ 8 - v_r)) ∧ (0 ≤ v_sh ∧ v_sh ≤ 255)
  · skip
    refine ri_wi (v := 0) (PP := (fun H => va_P D vwCl (xW a kk (updG g 2 (pst (g 2) v_t v_c v_r v_w v_sh (v_w * v_h).toNat).1)) H ∧ va_P D vwCl (outW o kk (vp_updL f 0 (iI ((pst (g 2) v_t v_c v_r v_w v_sh (v_w * v_h).toNat).2)).toInt64)) H)) (vx_runSW (As := [.ref (a 0), .int (iI v_t), .int (iI v_c), .int (iI v_r), .int (iI v_w), .int (iI v_h), .int (iI v_sh), .ref o]) (rest := []) CF (kL_paint_ok l D a kk g sa o f hst v_t v_c v_r v_w v_h v_sh hA hO hI hr1 hr2 hr3 hr4 hr5 hr6 hok) (vx_cwSW 8 hts gL_law_L_paint rfl rfl rfl ⟨by decide +kernel, by decide +kernel, by decide +kernel⟩ ⟨(Nat.le_of_ble_eq_true rfl), (Nat.le_of_ble_eq_true rfl)⟩) ⟨Bl_pc lB_bl, fun U hU hW9 => ⟨rfl, lB_in hS hOA hT hP hW hK hN hC U hU hW9⟩⟩ rfl rfl hl.1 rfl (lv_room (Nat.le_of_ble_eq_true rfl)) dL_law_155 ⟨by show _ ≤ 1053; omega, by show _ ≤ 13902; omega⟩) hS hOA (fun H locs hB hk hS => ?_)
    obtain ⟨hP, hW⟩ := hB
    replace hQ : va_P D vwCl (mW a2 kk mm) H := hQ.un hk (m_un hmo)
    refine lv_istore (lv' := [(5, .int (iI 0)), (0, .ref b), (1, .ref (a 0)), (2, .ref (a2 0)), (3, .ref o), (4, .int (iI i))]) hx hb dL_law_158 hl (by decide) rfl (fun ls hl => ?_)
    refine lv_aload_n hx hb dL_law_160 rfl (lv_at hl 3 rfl) ?_
    refine lv_aload_n hx hb dL_law_161 rfl (lv_at hl 1 rfl) ?_
    refine lv_iload hx hb dL_law_162 (lv_at hl 5 rfl) ?_
    refine ri_iconst hx hb dL_law_164 ?_
    refine ri_iadd hx hb dL_law_165 ?_
    refine ri_sld hx hb hX hbl hbA hS (by omega) (by omega) dL_law_166 ?_
    refine ri_eq (y := v_t) hq1 ?_
    refine lv_aload_n hx hb dL_law_167 rfl (lv_at hl 1 rfl) ?_
    refine lv_iload hx hb dL_law_168 (lv_at hl 5 rfl) ?_
    refine ri_iconst hx hb dL_law_170 ?_
    refine ri_iadd hx hb dL_law_171 ?_
    refine ri_sld hx hb hX hbl hbA hS (by omega) (by omega) dL_law_172 ?_
    refine ri_eq (y := v_c) hq2 ?_
    refine lv_aload_n hx hb dL_law_173 rfl (lv_at hl 1 rfl) ?_
    refine lv_iload hx hb dL_law_174 (lv_at hl 5 rfl) ?_
    refine ri_iconst hx hb dL_law_176 ?_
    refine ri_iadd hx hb dL_law_177 ?_
    refine ri_sld hx hb hX hbl hbA hS (by omega) (by omega) dL_law_178 ?_
    refine ri_eq (y := v_r) hq3 ?_
    refine lv_aload_n hx hb dL_law_179 rfl (lv_at hl 1 rfl) ?_
    refine lv_iload hx hb dL_law_180 (lv_at hl 5 rfl) ?_
    refine ri_iconst hx hb dL_law_182 ?_
    refine ri_iadd hx hb dL_law_183 ?_
    refine ri_sld hx hb hX hbl hbA hS (by omega) (by omega) dL_law_184 ?_
    refine ri_eq (y := v_w) hq4 ?_
    refine lv_aload_n hx hb dL_law_185 rfl (lv_at hl 1 rfl) ?_
    refine lv_iload hx hb dL_law_186 (lv_at hl 5 rfl) ?_
    refine ri_iconst hx hb dL_law_188 ?_
    refine ri_iadd hx hb dL_law_189 ?_
    refine ri_sld hx hb hX hbl hbA hS (by omega) (by omega) dL_law_190 ?_
    refine ri_eq (y := v_h) hq5 ?_
    refine lv_aload_n hx hb dL_law_191 rfl (lv_at hl 1 rfl) ?_
    refine lv_iload hx hb dL_law_192 (lv_at hl 5 rfl) ?_
    refine ri_bipush hx hb dL_law_194 (by decide) ?_
    refine ri_iadd hx hb dL_law_196 ?_
    refine ri_sld hx hb hX hbl hbA hS (by omega) (by omega) dL_law_197 ?_
    refine ri_eq (y := v_sh) hq6 ?_
    have hokm : (0 ≤ v_t ∧ v_t ≤ 4) ∧ (((0 ≤ v_c ∧ v_c ≤ 7) ∧ (0 ≤ v_r ∧ v_r ≤ 7)) ∧ (1 ≤ v_w ∧ v_w ≤ 8 - v_c) ∧ (1 ≤ v_h ∧ v_h ≤ 8 - v_r)) ∧ (0 ≤ v_sh ∧ v_sh ≤ 255) := hok
    refine ri_wi (v := (pst (mm 1) v_t v_c v_r v_w v_sh (v_w * v_h).toNat).2) (PP := (fun H => va_P D vwCl (mW a2 kk (updG (thG mm 0) 1 (pst (mm 1) v_t v_c v_r v_w v_sh (v_w * v_h).toNat).1)) H)) (ri_runV (b := a2 0) (As := [.int (iI v_t), .int (iI v_c), .int (iI v_r), .int (iI v_w), .int (iI v_h), .int (iI v_sh)]) (rest := []) CF (k_X4_paint_ok l D a2 kk mm v_t v_c v_r v_w v_h v_sh hA2 hMv hr1 hr2 hr3 hr4 hr5 hr6 hokm) gL_law_X4_paint f_X4_paint rfl (va_recv hK hQ (ci := 4) (q0 := 0) rfl rfl) ⟨rfl, rfl, (Nat.le_of_ble_eq_true rfl), (Nat.le_of_ble_eq_true rfl), by show _ ≤ 1053; omega, by show _ ≤ 13902; omega⟩ wB_bl (wB_in hQ hK hN) rfl hl.1 rfl (Nat.le_of_ble_eq_true rfl) dL_law_198) hS hMA (fun H locs hQ hk hS => ?_)
    replace hQ : va_P D vwCl (mW a2 kk (updG (thG mm 0) 1 (pst (mm 1) v_t v_c v_r v_w v_sh (v_w * v_h).toNat).1)) H := hQ
    replace hP : va_P D vwCl (xW a kk (updG g 2 (pst (g 2) v_t v_c v_r v_w v_sh (v_w * v_h).toNat).1)) H := hP.un hk (x_un2 hxm)
    replace hW : va_P D vwCl (outW o kk (vp_updL f 0 (iI ((pst (g 2) v_t v_c v_r v_w v_sh (v_w * v_h).toNat).2)).toInt64)) H := hW.un hk (o_un2 hom)
    refine lv_istore (lv' := [(6, .int (iI ((pst (mm 1) v_t v_c v_r v_w v_sh (v_w * v_h).toNat).2))), (5, .int (iI 0)), (0, .ref b), (1, .ref (a 0)), (2, .ref (a2 0)), (3, .ref o), (4, .int (iI i))]) hx hb dL_law_201 hl (by decide) rfl (fun ls hl => ?_)
    refine lv_aload_n hx hb dL_law_203 rfl (lv_at hl 4 rfl) ?_
    refine ri_rd (ri_runV (b := a2 0) (As := []) (rest := []) CF (k_X4_thrown l D a2 kk (updG (thG mm 0) 1 (pst (mm 1) v_t v_c v_r v_w v_sh (v_w * v_h).toNat).1)) gL_law_X4_thrown f_X4_thrown rfl (va_recv hK hQ (ci := 4) (q0 := 0) rfl rfl) ⟨rfl, rfl, (Nat.le_of_ble_eq_true rfl), (Nat.le_of_ble_eq_true rfl), by show _ ≤ 1053; omega, by show _ ≤ 13902; omega⟩ wB_bl (wB_in hQ hK hN) rfl hl.1 rfl (Nat.le_of_ble_eq_true rfl) dL_law_204) ?_
    refine ri_eq (y := 0) (rfl) ?_
    refine lv_iload hx hb dL_law_207 (lv_at hl 1 rfl) ?_
    refine ri_icmp_eq (tgt := 214) hx hb (by omega) dL_law_209 (by decide) (fun _ => ?_) (fun z => absurd rfl z)
    refine lv_iload hx hb dL_law_214 (lv_at hl 1 rfl) ?_
    refine ri_if_ne (tgt := 231) hx hb (by omega) dL_law_216 (by decide) (fun z => absurd z (by omega)) (fun _ => ?_)
    refine lv_aload_n hx hb dL_law_219 rfl (lv_at hl 5 rfl) ?_
    refine ri_iconst hx hb dL_law_220 ?_
    refine va_lald hx hb hK hW 0 2 rfl rfl (iI_in (by decide) (by decide)) dL_law_221 ?_
    rw [show (vp_updL f 0 (iI ((pst (g 2) v_t v_c v_r v_w v_sh (v_w * v_h).toNat).2)).toInt64) (iI 0).toNatClampNeg = (iI ((pst (g 2) v_t v_c v_r v_w v_sh (v_w * v_h).toNat).2)).toInt64 from if_pos rfl, show (pst (g 2) v_t v_c v_r v_w v_sh (v_w * v_h).toNat).2 = (pst (mm 1) v_t v_c v_r v_w v_sh (v_w * v_h).toNat).2 from (Rel_pa hR hok).2]
    refine lv_iload hx hb dL_law_222 (lv_at hl 0 rfl) ?_
    refine lv_i2l (v := (iI ((pst (mm 1) v_t v_c v_r v_w v_sh (v_w * v_h).toNat).2)).toInt64) hx hb dL_law_224 rfl ?_
    refine W.lcmp hx hb dL_law_225 ?_
    rw [cmp_0]
    refine ri_if_eq (tgt := 231) hx hb (by omega) dL_law_226 (by decide) (fun _ => ?_) (fun z => absurd rfl z)
    refine lv_goto (tgt := 1263) hx hb dL_law_231 (by decide) ?_
    refine W.widen (k := cells + 2) (n := slots + 12) (by omega) (by omega) ?_
    exact K _ _ _ _ _ _ ⟨hP, hW, hQ, hS, (Rel_pa hR hok).1, XInv_pa hI hok.2.2 _, MInv_pa hMv hok.2.2 _⟩ (lv_sub hl [2, 3, 4, 5, 6] rfl)
  · skip
    refine ri_wi (v := 1) (PP := (fun H => va_P D vwCl (xW a kk g) H ∧ va_P D vwCl (outW o kk f) H)) (vx_runSW (As := [.ref (a 0), .int (iI v_t), .int (iI v_c), .int (iI v_r), .int (iI v_w), .int (iI v_h), .int (iI v_sh), .ref o]) (rest := []) CF (kL_paint_no l D a kk g sa o f hst v_t v_c v_r v_w v_h v_sh hA hO hI hr1 hr2 hr3 hr4 hr5 hr6 hok) (vx_cwSW 8 hts gL_law_L_paint rfl rfl rfl ⟨by decide +kernel, by decide +kernel, by decide +kernel⟩ ⟨(Nat.le_of_ble_eq_true rfl), (Nat.le_of_ble_eq_true rfl)⟩) ⟨Bl_pc lB_bl, fun U hU hW9 => ⟨rfl, lB_in hS hOA hT hP hW hK hN hC U hU hW9⟩⟩ rfl rfl hl.1 rfl (lv_room (Nat.le_of_ble_eq_true rfl)) dL_law_155 ⟨by show _ ≤ 1053; omega, by show _ ≤ 13902; omega⟩) hS hOA (fun H locs hB hk hS => ?_)
    obtain ⟨hP, hW⟩ := hB
    replace hQ : va_P D vwCl (mW a2 kk mm) H := hQ.un hk (m_un hmo)
    refine lv_istore (lv' := [(5, .int (iI 1)), (0, .ref b), (1, .ref (a 0)), (2, .ref (a2 0)), (3, .ref o), (4, .int (iI i))]) hx hb dL_law_158 hl (by decide) rfl (fun ls hl => ?_)
    refine lv_aload_n hx hb dL_law_160 rfl (lv_at hl 3 rfl) ?_
    refine lv_aload_n hx hb dL_law_161 rfl (lv_at hl 1 rfl) ?_
    refine lv_iload hx hb dL_law_162 (lv_at hl 5 rfl) ?_
    refine ri_iconst hx hb dL_law_164 ?_
    refine ri_iadd hx hb dL_law_165 ?_
    refine ri_sld hx hb hX hbl hbA hS (by omega) (by omega) dL_law_166 ?_
    refine ri_eq (y := v_t) hq1 ?_
    refine lv_aload_n hx hb dL_law_167 rfl (lv_at hl 1 rfl) ?_
    refine lv_iload hx hb dL_law_168 (lv_at hl 5 rfl) ?_
    refine ri_iconst hx hb dL_law_170 ?_
    refine ri_iadd hx hb dL_law_171 ?_
    refine ri_sld hx hb hX hbl hbA hS (by omega) (by omega) dL_law_172 ?_
    refine ri_eq (y := v_c) hq2 ?_
    refine lv_aload_n hx hb dL_law_173 rfl (lv_at hl 1 rfl) ?_
    refine lv_iload hx hb dL_law_174 (lv_at hl 5 rfl) ?_
    refine ri_iconst hx hb dL_law_176 ?_
    refine ri_iadd hx hb dL_law_177 ?_
    refine ri_sld hx hb hX hbl hbA hS (by omega) (by omega) dL_law_178 ?_
    refine ri_eq (y := v_r) hq3 ?_
    refine lv_aload_n hx hb dL_law_179 rfl (lv_at hl 1 rfl) ?_
    refine lv_iload hx hb dL_law_180 (lv_at hl 5 rfl) ?_
    refine ri_iconst hx hb dL_law_182 ?_
    refine ri_iadd hx hb dL_law_183 ?_
    refine ri_sld hx hb hX hbl hbA hS (by omega) (by omega) dL_law_184 ?_
    refine ri_eq (y := v_w) hq4 ?_
    refine lv_aload_n hx hb dL_law_185 rfl (lv_at hl 1 rfl) ?_
    refine lv_iload hx hb dL_law_186 (lv_at hl 5 rfl) ?_
    refine ri_iconst hx hb dL_law_188 ?_
    refine ri_iadd hx hb dL_law_189 ?_
    refine ri_sld hx hb hX hbl hbA hS (by omega) (by omega) dL_law_190 ?_
    refine ri_eq (y := v_h) hq5 ?_
    refine lv_aload_n hx hb dL_law_191 rfl (lv_at hl 1 rfl) ?_
    refine lv_iload hx hb dL_law_192 (lv_at hl 5 rfl) ?_
    refine ri_bipush hx hb dL_law_194 (by decide) ?_
    refine ri_iadd hx hb dL_law_196 ?_
    refine ri_sld hx hb hX hbl hbA hS (by omega) (by omega) dL_law_197 ?_
    refine ri_eq (y := v_sh) hq6 ?_
    refine ri_wi (v := 0) (PP := (fun H => va_P D vwCl (mW a2 kk (thG mm 1)) H)) (ri_runV (b := a2 0) (As := [.int (iI v_t), .int (iI v_c), .int (iI v_r), .int (iI v_w), .int (iI v_h), .int (iI v_sh)]) (rest := []) CF (k_X4_paint_no l D a2 kk mm v_t v_c v_r v_w v_h v_sh hA2 hMv hr1 hr2 hr3 hr4 hr5 hr6 hok) gL_law_X4_paint f_X4_paint rfl (va_recv hK hQ (ci := 4) (q0 := 0) rfl rfl) ⟨rfl, rfl, (Nat.le_of_ble_eq_true rfl), (Nat.le_of_ble_eq_true rfl), by show _ ≤ 1053; omega, by show _ ≤ 13902; omega⟩ wB_bl (wB_in hQ hK hN) rfl hl.1 rfl (Nat.le_of_ble_eq_true rfl) dL_law_198) hS hMA (fun H locs hQ hk hS => ?_)
    replace hQ : va_P D vwCl (mW a2 kk (thG mm 1)) H := hQ
    replace hP : va_P D vwCl (xW a kk (g)) H := hP.un hk (x_un2 hxm)
    replace hW : va_P D vwCl (outW o kk (f)) H := hW.un hk (o_un2 hom)
    refine lv_istore (lv' := [(6, .int (iI 0)), (5, .int (iI 1)), (0, .ref b), (1, .ref (a 0)), (2, .ref (a2 0)), (3, .ref o), (4, .int (iI i))]) hx hb dL_law_201 hl (by decide) rfl (fun ls hl => ?_)
    refine lv_aload_n hx hb dL_law_203 rfl (lv_at hl 4 rfl) ?_
    refine ri_rd (ri_runV (b := a2 0) (As := []) (rest := []) CF (k_X4_thrown l D a2 kk (thG mm 1)) gL_law_X4_thrown f_X4_thrown rfl (va_recv hK hQ (ci := 4) (q0 := 0) rfl rfl) ⟨rfl, rfl, (Nat.le_of_ble_eq_true rfl), (Nat.le_of_ble_eq_true rfl), by show _ ≤ 1053; omega, by show _ ≤ 13902; omega⟩ wB_bl (wB_in hQ hK hN) rfl hl.1 rfl (Nat.le_of_ble_eq_true rfl) dL_law_204) ?_
    refine ri_eq (y := 1) (rfl) ?_
    refine lv_iload hx hb dL_law_207 (lv_at hl 1 rfl) ?_
    refine ri_icmp_eq (tgt := 214) hx hb (by omega) dL_law_209 (by decide) (fun _ => ?_) (fun z => absurd rfl z)
    refine lv_iload hx hb dL_law_214 (lv_at hl 1 rfl) ?_
    refine ri_if_ne (tgt := 231) hx hb (by omega) dL_law_216 (by decide) (fun _ => ?_) (fun z => absurd z (by omega))
    refine lv_goto (tgt := 1263) hx hb dL_law_231 (by decide) ?_
    refine W.widen (k := cells + 2) (n := slots + 12) (by omega) (by omega) ?_
    exact K _ _ _ _ _ _ ⟨hP, hW, hQ, hS, Rel_th hR _, hI, MInv_th hMv _⟩ (lv_sub hl [2, 3, 4, 5, 6] rfl)

set_option maxHeartbeats 4000000 in
set_option maxRecDepth 100000 in
theorem lc_shade {p : Program} {l : Launch} {e : Env} {s : State} {m : MethodId} {below : List Frame} {meth : Method} {c : Code} {b L : Nat} {xs : Nat → Int32} {D : va_G} {kk : Nat → ClassId} {a a2 : Nat → Nat} {o : Nat} {sa : Nat → Nat} {g mm : Nat → Nat → Int} {f : Nat → Int64} {H : Heap} {locs : List Loc} {i : Int} {cells slots : Nat} {ls : Array Slot} {Q : State → Prop} (C0 : LCx p l s m meth c b L xs D kk a a2 o sa) (S0 : LSt s D kk a a2 o g mm f H locs) (hi : 0 ≤ i ∧ i + 7 ≤ (L : Int)) (hc : cells + 2 ≤ 1053 ∧ slots + 12 ≤ 13902) (hl : lv_has ls 7 [(0, .ref b), (1, .ref (a 0)), (2, .ref (a2 0)), (3, .ref o), (4, .int (iI i))]) (K : ∀ (g mm : Nat → Nat → Int) (f : Nat → Int64) (H : Heap) (locs : List Loc) (ls : Array Slot), LSt s D kk a a2 o g mm f H locs → lv_has ls 7 [(0, .ref b), (1, .ref (a 0)), (2, .ref (a2 0)), (3, .ref o), (4, .int (iI i))] → W p l e room_1 s m (#[Value.ref b] : Array Value) below meth c H locs (cells + 2) (slots + 12) Q (F0 m 1263 ls [])) : W p l e room_1 s m (#[Value.ref b] : Array Value) below meth c H locs cells slots Q (F0 m 234 ls []) := by
  obtain ⟨⟨hx, hb, hml, hown, hts, hX, hbl, hL⟩, ⟨hst, hK, hN, hT, hC⟩, ⟨hA, hA2, hO, hO2, hAB, hsa, hsa2, hso⟩⟩ := C0
  obtain ⟨hP, hW, hQ, hS, hR, hI, hMv⟩ := S0
  have hbA : ¬ (fun q : Nat => s.heap.size ≤ q) b := Nat.not_le.mpr hbl
  have CF : CallFix p m c cL_law 7 s (#[Value.ref b] : Array Value) wsL_law RL := ⟨hx, hb, hml, hown, hts⟩
  have hOA : ∀ q : Nat, oA a o q → s.heap.size ≤ q := fun q h => h.elim (fun ⟨k, hk, e9⟩ => by rw [e9]; exact hsa k hk) (fun e9 => by rw [e9]; exact hso)
  have hMA : ∀ q : Nat, aA 8 a2 q → s.heap.size ≤ q := fun q ⟨k, hk, e9⟩ => by rw [e9]; exact hsa2 k hk
  have hmo : ∀ j, j < 8 → ¬ oA a o (a2 j) := fun j hj z => z.elim (fun ⟨k, hk, e9⟩ => hAB k j hk hj e9.symm) (fun e9 => hO2 j hj e9)
  have hxm : ∀ j, j < 17 → ¬ aA 8 a2 (a j) := fun j hj ⟨k, hk, e9⟩ => hAB j k hj hk e9
  have hom : ¬ aA 8 a2 o := fun ⟨k, hk, e9⟩ => hO2 k hk e9.symm
  have hr1 := i32_r (xs (i + 1).toNat)
  have hr2 := i32_r (xs (i + 2).toNat)
  have hr3 := i32_r (xs (i + 3).toNat)
  refine lv_aload_n hx hb dL_law_234 rfl (lv_at hl 1 rfl) ?_
  refine lv_aload_n hx hb dL_law_235 rfl (lv_at hl 0 rfl) ?_
  refine lv_iload hx hb dL_law_236 (lv_at hl 4 rfl) ?_
  refine ri_iconst hx hb dL_law_238 ?_
  refine ri_iadd hx hb dL_law_239 ?_
  refine ri_sld hx hb hX hbl hbA hS (by omega) (by omega) dL_law_240 ?_
  refine lv_aload_n hx hb dL_law_241 rfl (lv_at hl 0 rfl) ?_
  refine lv_iload hx hb dL_law_242 (lv_at hl 4 rfl) ?_
  refine ri_iconst hx hb dL_law_244 ?_
  refine ri_iadd hx hb dL_law_245 ?_
  refine ri_sld hx hb hX hbl hbA hS (by omega) (by omega) dL_law_246 ?_
  refine lv_aload_n hx hb dL_law_247 rfl (lv_at hl 0 rfl) ?_
  refine lv_iload hx hb dL_law_248 (lv_at hl 4 rfl) ?_
  refine ri_iconst hx hb dL_law_250 ?_
  refine ri_iadd hx hb dL_law_251 ?_
  refine ri_sld hx hb hX hbl hbA hS (by omega) (by omega) dL_law_252 ?_
  refine lv_aload_n hx hb dL_law_253 rfl (lv_at hl 3 rfl) ?_
  generalize hq1 : (xs (i + 1).toNat).toInt = v_t at hr1 ⊢
  generalize hq2 : (xs (i + 2).toNat).toInt = v_c at hr2 ⊢
  generalize hq3 : (xs (i + 3).toNat).toInt = v_r at hr3 ⊢
  by_cases hok : (0 ≤ v_t ∧ v_t ≤ 4) ∧ ((0 ≤ v_c ∧ v_c ≤ 7) ∧ (0 ≤ v_r ∧ v_r ≤ 7))
  · skip
    refine ri_wi (v := 0) (PP := (fun H => va_P D vwCl (xW a kk (g)) H ∧ va_P D vwCl (outW o kk (vp_updL f 0 (iI (g 2 (v_t * 64 + v_r * 8 + v_c).toNat)).toInt64)) H)) (vx_runSW (As := [.ref (a 0), .int (iI v_t), .int (iI v_c), .int (iI v_r), .ref o]) (rest := []) CF (kL_shade_ok l D a kk g sa o f hst v_t v_c v_r hA hO hI hr1 hr2 hr3 hok) (vx_cwSW 5 hts gL_law_L_shade rfl rfl rfl ⟨by decide +kernel, by decide +kernel, by decide +kernel⟩ ⟨(Nat.le_of_ble_eq_true rfl), (Nat.le_of_ble_eq_true rfl)⟩) ⟨Bl_pc lB_bl, fun U hU hW9 => ⟨rfl, lB_in hS hOA hT hP hW hK hN hC U hU hW9⟩⟩ rfl rfl hl.1 rfl (lv_room (Nat.le_of_ble_eq_true rfl)) dL_law_254 ⟨by show _ ≤ 1053; omega, by show _ ≤ 13902; omega⟩) hS hOA (fun H locs hB hk hS => ?_)
    obtain ⟨hP, hW⟩ := hB
    replace hQ : va_P D vwCl (mW a2 kk mm) H := hQ.un hk (m_un hmo)
    refine lv_istore (lv' := [(5, .int (iI 0)), (0, .ref b), (1, .ref (a 0)), (2, .ref (a2 0)), (3, .ref o), (4, .int (iI i))]) hx hb dL_law_257 hl (by decide) rfl (fun ls hl => ?_)
    refine lv_aload_n hx hb dL_law_259 rfl (lv_at hl 3 rfl) ?_
    refine lv_aload_n hx hb dL_law_260 rfl (lv_at hl 1 rfl) ?_
    refine lv_iload hx hb dL_law_261 (lv_at hl 5 rfl) ?_
    refine ri_iconst hx hb dL_law_263 ?_
    refine ri_iadd hx hb dL_law_264 ?_
    refine ri_sld hx hb hX hbl hbA hS (by omega) (by omega) dL_law_265 ?_
    refine ri_eq (y := v_t) hq1 ?_
    refine lv_aload_n hx hb dL_law_266 rfl (lv_at hl 1 rfl) ?_
    refine lv_iload hx hb dL_law_267 (lv_at hl 5 rfl) ?_
    refine ri_iconst hx hb dL_law_269 ?_
    refine ri_iadd hx hb dL_law_270 ?_
    refine ri_sld hx hb hX hbl hbA hS (by omega) (by omega) dL_law_271 ?_
    refine ri_eq (y := v_c) hq2 ?_
    refine lv_aload_n hx hb dL_law_272 rfl (lv_at hl 1 rfl) ?_
    refine lv_iload hx hb dL_law_273 (lv_at hl 5 rfl) ?_
    refine ri_iconst hx hb dL_law_275 ?_
    refine ri_iadd hx hb dL_law_276 ?_
    refine ri_sld hx hb hX hbl hbA hS (by omega) (by omega) dL_law_277 ?_
    refine ri_eq (y := v_r) hq3 ?_
    have hokm : (0 ≤ v_t ∧ v_t ≤ 4) ∧ ((0 ≤ v_c ∧ v_c ≤ 7) ∧ (0 ≤ v_r ∧ v_r ≤ 7)) := hok
    refine ri_wi (v := mm 1 (v_t * 64 + v_r * 8 + v_c).toNat) (PP := (fun H => va_P D vwCl (mW a2 kk (thG mm 0)) H)) (ri_runV (b := a2 0) (As := [.int (iI v_t), .int (iI v_c), .int (iI v_r)]) (rest := []) CF (k_X4_shade_ok l D a2 kk mm v_t v_c v_r hA2 hMv hr1 hr2 hr3 hokm) gL_law_X4_shade f_X4_shade rfl (va_recv hK hQ (ci := 4) (q0 := 0) rfl rfl) ⟨rfl, rfl, (Nat.le_of_ble_eq_true rfl), (Nat.le_of_ble_eq_true rfl), by show _ ≤ 1053; omega, by show _ ≤ 13902; omega⟩ wB_bl (wB_in hQ hK hN) rfl hl.1 rfl (Nat.le_of_ble_eq_true rfl) dL_law_278) hS hMA (fun H locs hQ hk hS => ?_)
    replace hQ : va_P D vwCl (mW a2 kk (thG mm 0)) H := hQ
    replace hP : va_P D vwCl (xW a kk (g)) H := hP.un hk (x_un2 hxm)
    replace hW : va_P D vwCl (outW o kk (vp_updL f 0 (iI (g 2 (v_t * 64 + v_r * 8 + v_c).toNat)).toInt64)) H := hW.un hk (o_un2 hom)
    refine lv_istore (lv' := [(6, .int (iI (mm 1 (v_t * 64 + v_r * 8 + v_c).toNat))), (5, .int (iI 0)), (0, .ref b), (1, .ref (a 0)), (2, .ref (a2 0)), (3, .ref o), (4, .int (iI i))]) hx hb dL_law_281 hl (by decide) rfl (fun ls hl => ?_)
    refine lv_aload_n hx hb dL_law_283 rfl (lv_at hl 4 rfl) ?_
    refine ri_rd (ri_runV (b := a2 0) (As := []) (rest := []) CF (k_X4_thrown l D a2 kk (thG mm 0)) gL_law_X4_thrown f_X4_thrown rfl (va_recv hK hQ (ci := 4) (q0 := 0) rfl rfl) ⟨rfl, rfl, (Nat.le_of_ble_eq_true rfl), (Nat.le_of_ble_eq_true rfl), by show _ ≤ 1053; omega, by show _ ≤ 13902; omega⟩ wB_bl (wB_in hQ hK hN) rfl hl.1 rfl (Nat.le_of_ble_eq_true rfl) dL_law_284) ?_
    refine ri_eq (y := 0) (rfl) ?_
    refine lv_iload hx hb dL_law_287 (lv_at hl 1 rfl) ?_
    refine ri_icmp_eq (tgt := 294) hx hb (by omega) dL_law_289 (by decide) (fun _ => ?_) (fun z => absurd rfl z)
    refine lv_iload hx hb dL_law_294 (lv_at hl 1 rfl) ?_
    refine ri_if_ne (tgt := 311) hx hb (by omega) dL_law_296 (by decide) (fun z => absurd z (by omega)) (fun _ => ?_)
    refine lv_aload_n hx hb dL_law_299 rfl (lv_at hl 5 rfl) ?_
    refine ri_iconst hx hb dL_law_300 ?_
    refine va_lald hx hb hK hW 0 2 rfl rfl (iI_in (by decide) (by decide)) dL_law_301 ?_
    rw [show (vp_updL f 0 (iI (g 2 (v_t * 64 + v_r * 8 + v_c).toNat)).toInt64) (iI 0).toNatClampNeg = (iI (g 2 (v_t * 64 + v_r * 8 + v_c).toNat)).toInt64 from if_pos rfl, show g 2 (v_t * 64 + v_r * 8 + v_c).toNat = mm 1 (v_t * 64 + v_r * 8 + v_c).toNat from hR.1 _ (by omega)]
    refine lv_iload hx hb dL_law_302 (lv_at hl 0 rfl) ?_
    refine lv_i2l (v := (iI (mm 1 (v_t * 64 + v_r * 8 + v_c).toNat)).toInt64) hx hb dL_law_304 rfl ?_
    refine W.lcmp hx hb dL_law_305 ?_
    rw [cmp_0]
    refine ri_if_eq (tgt := 311) hx hb (by omega) dL_law_306 (by decide) (fun _ => ?_) (fun z => absurd rfl z)
    refine lv_goto (tgt := 1263) hx hb dL_law_311 (by decide) ?_
    refine W.widen (k := cells + 2) (n := slots + 12) (by omega) (by omega) ?_
    exact K _ _ _ _ _ _ ⟨hP, hW, hQ, hS, hR, hI, hMv⟩ (lv_sub hl [2, 3, 4, 5, 6] rfl)
  · skip
    refine ri_wi (v := 1) (PP := (fun H => va_P D vwCl (xW a kk g) H ∧ va_P D vwCl (outW o kk f) H)) (vx_runSW (As := [.ref (a 0), .int (iI v_t), .int (iI v_c), .int (iI v_r), .ref o]) (rest := []) CF (kL_shade_no l D a kk g sa o f hst v_t v_c v_r hA hO hI hr1 hr2 hr3 hok) (vx_cwSW 5 hts gL_law_L_shade rfl rfl rfl ⟨by decide +kernel, by decide +kernel, by decide +kernel⟩ ⟨(Nat.le_of_ble_eq_true rfl), (Nat.le_of_ble_eq_true rfl)⟩) ⟨Bl_pc lB_bl, fun U hU hW9 => ⟨rfl, lB_in hS hOA hT hP hW hK hN hC U hU hW9⟩⟩ rfl rfl hl.1 rfl (lv_room (Nat.le_of_ble_eq_true rfl)) dL_law_254 ⟨by show _ ≤ 1053; omega, by show _ ≤ 13902; omega⟩) hS hOA (fun H locs hB hk hS => ?_)
    obtain ⟨hP, hW⟩ := hB
    replace hQ : va_P D vwCl (mW a2 kk mm) H := hQ.un hk (m_un hmo)
    refine lv_istore (lv' := [(5, .int (iI 1)), (0, .ref b), (1, .ref (a 0)), (2, .ref (a2 0)), (3, .ref o), (4, .int (iI i))]) hx hb dL_law_257 hl (by decide) rfl (fun ls hl => ?_)
    refine lv_aload_n hx hb dL_law_259 rfl (lv_at hl 3 rfl) ?_
    refine lv_aload_n hx hb dL_law_260 rfl (lv_at hl 1 rfl) ?_
    refine lv_iload hx hb dL_law_261 (lv_at hl 5 rfl) ?_
    refine ri_iconst hx hb dL_law_263 ?_
    refine ri_iadd hx hb dL_law_264 ?_
    refine ri_sld hx hb hX hbl hbA hS (by omega) (by omega) dL_law_265 ?_
    refine ri_eq (y := v_t) hq1 ?_
    refine lv_aload_n hx hb dL_law_266 rfl (lv_at hl 1 rfl) ?_
    refine lv_iload hx hb dL_law_267 (lv_at hl 5 rfl) ?_
    refine ri_iconst hx hb dL_law_269 ?_
    refine ri_iadd hx hb dL_law_270 ?_
    refine ri_sld hx hb hX hbl hbA hS (by omega) (by omega) dL_law_271 ?_
    refine ri_eq (y := v_c) hq2 ?_
    refine lv_aload_n hx hb dL_law_272 rfl (lv_at hl 1 rfl) ?_
    refine lv_iload hx hb dL_law_273 (lv_at hl 5 rfl) ?_
    refine ri_iconst hx hb dL_law_275 ?_
    refine ri_iadd hx hb dL_law_276 ?_
    refine ri_sld hx hb hX hbl hbA hS (by omega) (by omega) dL_law_277 ?_
    refine ri_eq (y := v_r) hq3 ?_
    refine ri_wi (v := 0) (PP := (fun H => va_P D vwCl (mW a2 kk (thG mm 1)) H)) (ri_runV (b := a2 0) (As := [.int (iI v_t), .int (iI v_c), .int (iI v_r)]) (rest := []) CF (k_X4_shade_no l D a2 kk mm v_t v_c v_r hA2 hMv hr1 hr2 hr3 hok) gL_law_X4_shade f_X4_shade rfl (va_recv hK hQ (ci := 4) (q0 := 0) rfl rfl) ⟨rfl, rfl, (Nat.le_of_ble_eq_true rfl), (Nat.le_of_ble_eq_true rfl), by show _ ≤ 1053; omega, by show _ ≤ 13902; omega⟩ wB_bl (wB_in hQ hK hN) rfl hl.1 rfl (Nat.le_of_ble_eq_true rfl) dL_law_278) hS hMA (fun H locs hQ hk hS => ?_)
    replace hQ : va_P D vwCl (mW a2 kk (thG mm 1)) H := hQ
    replace hP : va_P D vwCl (xW a kk (g)) H := hP.un hk (x_un2 hxm)
    replace hW : va_P D vwCl (outW o kk (f)) H := hW.un hk (o_un2 hom)
    refine lv_istore (lv' := [(6, .int (iI 0)), (5, .int (iI 1)), (0, .ref b), (1, .ref (a 0)), (2, .ref (a2 0)), (3, .ref o), (4, .int (iI i))]) hx hb dL_law_281 hl (by decide) rfl (fun ls hl => ?_)
    refine lv_aload_n hx hb dL_law_283 rfl (lv_at hl 4 rfl) ?_
    refine ri_rd (ri_runV (b := a2 0) (As := []) (rest := []) CF (k_X4_thrown l D a2 kk (thG mm 1)) gL_law_X4_thrown f_X4_thrown rfl (va_recv hK hQ (ci := 4) (q0 := 0) rfl rfl) ⟨rfl, rfl, (Nat.le_of_ble_eq_true rfl), (Nat.le_of_ble_eq_true rfl), by show _ ≤ 1053; omega, by show _ ≤ 13902; omega⟩ wB_bl (wB_in hQ hK hN) rfl hl.1 rfl (Nat.le_of_ble_eq_true rfl) dL_law_284) ?_
    refine ri_eq (y := 1) (rfl) ?_
    refine lv_iload hx hb dL_law_287 (lv_at hl 1 rfl) ?_
    refine ri_icmp_eq (tgt := 294) hx hb (by omega) dL_law_289 (by decide) (fun _ => ?_) (fun z => absurd rfl z)
    refine lv_iload hx hb dL_law_294 (lv_at hl 1 rfl) ?_
    refine ri_if_ne (tgt := 311) hx hb (by omega) dL_law_296 (by decide) (fun _ => ?_) (fun z => absurd z (by omega))
    refine lv_goto (tgt := 1263) hx hb dL_law_311 (by decide) ?_
    refine W.widen (k := cells + 2) (n := slots + 12) (by omega) (by omega) ?_
    exact K _ _ _ _ _ _ ⟨hP, hW, hQ, hS, Rel_th hR _, hI, MInv_th hMv _⟩ (lv_sub hl [2, 3, 4, 5, 6] rfl)

set_option maxHeartbeats 4000000 in
set_option maxRecDepth 100000 in
theorem lc_setPart {p : Program} {l : Launch} {e : Env} {s : State} {m : MethodId} {below : List Frame} {meth : Method} {c : Code} {b L : Nat} {xs : Nat → Int32} {D : va_G} {kk : Nat → ClassId} {a a2 : Nat → Nat} {o : Nat} {sa : Nat → Nat} {g mm : Nat → Nat → Int} {f : Nat → Int64} {H : Heap} {locs : List Loc} {i : Int} {cells slots : Nat} {ls : Array Slot} {Q : State → Prop} (C0 : LCx p l s m meth c b L xs D kk a a2 o sa) (S0 : LSt s D kk a a2 o g mm f H locs) (hi : 0 ≤ i ∧ i + 7 ≤ (L : Int)) (hc : cells + 2 ≤ 1053 ∧ slots + 12 ≤ 13902) (hl : lv_has ls 7 [(0, .ref b), (1, .ref (a 0)), (2, .ref (a2 0)), (3, .ref o), (4, .int (iI i))]) (K : ∀ (g mm : Nat → Nat → Int) (f : Nat → Int64) (H : Heap) (locs : List Loc) (ls : Array Slot), LSt s D kk a a2 o g mm f H locs → lv_has ls 7 [(0, .ref b), (1, .ref (a 0)), (2, .ref (a2 0)), (3, .ref o), (4, .int (iI i))] → W p l e room_1 s m (#[Value.ref b] : Array Value) below meth c H locs (cells + 2) (slots + 12) Q (F0 m 1263 ls [])) : W p l e room_1 s m (#[Value.ref b] : Array Value) below meth c H locs cells slots Q (F0 m 314 ls []) := by
  obtain ⟨⟨hx, hb, hml, hown, hts, hX, hbl, hL⟩, ⟨hst, hK, hN, hT, hC⟩, ⟨hA, hA2, hO, hO2, hAB, hsa, hsa2, hso⟩⟩ := C0
  obtain ⟨hP, hW, hQ, hS, hR, hI, hMv⟩ := S0
  have hbA : ¬ (fun q : Nat => s.heap.size ≤ q) b := Nat.not_le.mpr hbl
  have CF : CallFix p m c cL_law 7 s (#[Value.ref b] : Array Value) wsL_law RL := ⟨hx, hb, hml, hown, hts⟩
  have hOA : ∀ q : Nat, oA a o q → s.heap.size ≤ q := fun q h => h.elim (fun ⟨k, hk, e9⟩ => by rw [e9]; exact hsa k hk) (fun e9 => by rw [e9]; exact hso)
  have hMA : ∀ q : Nat, aA 8 a2 q → s.heap.size ≤ q := fun q ⟨k, hk, e9⟩ => by rw [e9]; exact hsa2 k hk
  have hmo : ∀ j, j < 8 → ¬ oA a o (a2 j) := fun j hj z => z.elim (fun ⟨k, hk, e9⟩ => hAB k j hk hj e9.symm) (fun e9 => hO2 j hj e9)
  have hxm : ∀ j, j < 17 → ¬ aA 8 a2 (a j) := fun j hj ⟨k, hk, e9⟩ => hAB j k hj hk e9
  have hom : ¬ aA 8 a2 o := fun ⟨k, hk, e9⟩ => hO2 k hk e9.symm
  have hr1 := i32_r (xs (i + 1).toNat)
  have hr2 := i32_r (xs (i + 2).toNat)
  have hr3 := i32_r (xs (i + 3).toNat)
  have hr4 := i32_r (xs (i + 4).toNat)
  have hr5 := i32_r (xs (i + 5).toNat)
  refine lv_aload_n hx hb dL_law_314 rfl (lv_at hl 1 rfl) ?_
  refine lv_aload_n hx hb dL_law_315 rfl (lv_at hl 0 rfl) ?_
  refine lv_iload hx hb dL_law_316 (lv_at hl 4 rfl) ?_
  refine ri_iconst hx hb dL_law_318 ?_
  refine ri_iadd hx hb dL_law_319 ?_
  refine ri_sld hx hb hX hbl hbA hS (by omega) (by omega) dL_law_320 ?_
  refine lv_aload_n hx hb dL_law_321 rfl (lv_at hl 0 rfl) ?_
  refine lv_iload hx hb dL_law_322 (lv_at hl 4 rfl) ?_
  refine ri_iconst hx hb dL_law_324 ?_
  refine ri_iadd hx hb dL_law_325 ?_
  refine ri_sld hx hb hX hbl hbA hS (by omega) (by omega) dL_law_326 ?_
  refine lv_aload_n hx hb dL_law_327 rfl (lv_at hl 0 rfl) ?_
  refine lv_iload hx hb dL_law_328 (lv_at hl 4 rfl) ?_
  refine ri_iconst hx hb dL_law_330 ?_
  refine ri_iadd hx hb dL_law_331 ?_
  refine ri_sld hx hb hX hbl hbA hS (by omega) (by omega) dL_law_332 ?_
  refine lv_aload_n hx hb dL_law_333 rfl (lv_at hl 0 rfl) ?_
  refine lv_iload hx hb dL_law_334 (lv_at hl 4 rfl) ?_
  refine ri_iconst hx hb dL_law_336 ?_
  refine ri_iadd hx hb dL_law_337 ?_
  refine ri_sld hx hb hX hbl hbA hS (by omega) (by omega) dL_law_338 ?_
  refine lv_aload_n hx hb dL_law_339 rfl (lv_at hl 0 rfl) ?_
  refine lv_iload hx hb dL_law_340 (lv_at hl 4 rfl) ?_
  refine ri_iconst hx hb dL_law_342 ?_
  refine ri_iadd hx hb dL_law_343 ?_
  refine ri_sld hx hb hX hbl hbA hS (by omega) (by omega) dL_law_344 ?_
  generalize hq1 : (xs (i + 1).toNat).toInt = v_t at hr1 ⊢
  generalize hq2 : (xs (i + 2).toNat).toInt = v_c at hr2 ⊢
  generalize hq3 : (xs (i + 3).toNat).toInt = v_r at hr3 ⊢
  generalize hq4 : (xs (i + 4).toNat).toInt = v_w at hr4 ⊢
  generalize hq5 : (xs (i + 5).toNat).toInt = v_h at hr5 ⊢
  by_cases hok : (0 ≤ v_t ∧ v_t ≤ 4) ∧ ((0 ≤ v_c ∧ v_c ≤ 7) ∧ (0 ≤ v_r ∧ v_r ≤ 7)) ∧ (1 ≤ v_w ∧ v_w ≤ 8 - v_c) ∧ (1 ≤ v_h ∧ v_h ≤ 8 - v_r)
  · skip
    refine ri_wi (v := 0) (PP := (fun H => va_P D vwCl (xW a kk (putX 9 (putX 4 g v_t v_c v_r v_w v_h) v_t 0 0 0 0)) H ∧ va_P D vwCl (outW o kk (f)) H)) (vx_runSW (As := [.ref (a 0), .int (iI v_t), .int (iI v_c), .int (iI v_r), .int (iI v_w), .int (iI v_h)]) (rest := []) CF (kL_setPart_ok l D a kk g sa o f hst v_t v_c v_r v_w v_h hA hO hI hr1 hr2 hr3 hr4 hr5 hok) (vx_cwSW 6 hts gL_law_L_setPart rfl rfl rfl ⟨by decide +kernel, by decide +kernel, by decide +kernel⟩ ⟨(Nat.le_of_ble_eq_true rfl), (Nat.le_of_ble_eq_true rfl)⟩) ⟨Bl_pc lB_bl, fun U hU hW9 => ⟨rfl, lB_in hS hOA hT hP hW hK hN hC U hU hW9⟩⟩ rfl rfl hl.1 rfl (lv_room (Nat.le_of_ble_eq_true rfl)) dL_law_345 ⟨by show _ ≤ 1053; omega, by show _ ≤ 13902; omega⟩) hS hOA (fun H locs hB hk hS => ?_)
    obtain ⟨hP, hW⟩ := hB
    replace hQ : va_P D vwCl (mW a2 kk mm) H := hQ.un hk (m_un hmo)
    refine lv_istore (lv' := [(5, .int (iI 0)), (0, .ref b), (1, .ref (a 0)), (2, .ref (a2 0)), (3, .ref o), (4, .int (iI i))]) hx hb dL_law_348 hl (by decide) rfl (fun ls hl => ?_)
    refine lv_aload_n hx hb dL_law_350 rfl (lv_at hl 3 rfl) ?_
    refine lv_aload_n hx hb dL_law_351 rfl (lv_at hl 1 rfl) ?_
    refine lv_iload hx hb dL_law_352 (lv_at hl 5 rfl) ?_
    refine ri_iconst hx hb dL_law_354 ?_
    refine ri_iadd hx hb dL_law_355 ?_
    refine ri_sld hx hb hX hbl hbA hS (by omega) (by omega) dL_law_356 ?_
    refine ri_eq (y := v_t) hq1 ?_
    refine lv_aload_n hx hb dL_law_357 rfl (lv_at hl 1 rfl) ?_
    refine lv_iload hx hb dL_law_358 (lv_at hl 5 rfl) ?_
    refine ri_iconst hx hb dL_law_360 ?_
    refine ri_iadd hx hb dL_law_361 ?_
    refine ri_sld hx hb hX hbl hbA hS (by omega) (by omega) dL_law_362 ?_
    refine ri_eq (y := v_c) hq2 ?_
    refine lv_aload_n hx hb dL_law_363 rfl (lv_at hl 1 rfl) ?_
    refine lv_iload hx hb dL_law_364 (lv_at hl 5 rfl) ?_
    refine ri_iconst hx hb dL_law_366 ?_
    refine ri_iadd hx hb dL_law_367 ?_
    refine ri_sld hx hb hX hbl hbA hS (by omega) (by omega) dL_law_368 ?_
    refine ri_eq (y := v_r) hq3 ?_
    refine lv_aload_n hx hb dL_law_369 rfl (lv_at hl 1 rfl) ?_
    refine lv_iload hx hb dL_law_370 (lv_at hl 5 rfl) ?_
    refine ri_iconst hx hb dL_law_372 ?_
    refine ri_iadd hx hb dL_law_373 ?_
    refine ri_sld hx hb hX hbl hbA hS (by omega) (by omega) dL_law_374 ?_
    refine ri_eq (y := v_w) hq4 ?_
    refine lv_aload_n hx hb dL_law_375 rfl (lv_at hl 1 rfl) ?_
    refine lv_iload hx hb dL_law_376 (lv_at hl 5 rfl) ?_
    refine ri_iconst hx hb dL_law_378 ?_
    refine ri_iadd hx hb dL_law_379 ?_
    refine ri_sld hx hb hX hbl hbA hS (by omega) (by omega) dL_law_380 ?_
    refine ri_eq (y := v_h) hq5 ?_
    have hokm : (0 ≤ v_t ∧ v_t ≤ 4) ∧ ((0 ≤ v_c ∧ v_c ≤ 7) ∧ (0 ≤ v_r ∧ v_r ≤ 7)) ∧ (1 ≤ v_w ∧ v_w ≤ 8 - v_c) ∧ (1 ≤ v_h ∧ v_h ≤ 8 - v_r) := hok
    refine ri_wv (PP := (fun H => va_P D vwCl (mW a2 kk (spG (thG mm 0) v_t v_c v_r v_w v_h)) H)) (ri_runV (b := a2 0) (As := [.int (iI v_t), .int (iI v_c), .int (iI v_r), .int (iI v_w), .int (iI v_h)]) (rest := []) CF (k_X4_setPart_ok l D a2 kk mm v_t v_c v_r v_w v_h hA2 hMv hr1 hr2 hr3 hr4 hr5 hokm) gL_law_X4_setPart f_X4_setPart rfl (va_recv hK hQ (ci := 4) (q0 := 0) rfl rfl) ⟨rfl, rfl, (Nat.le_of_ble_eq_true rfl), (Nat.le_of_ble_eq_true rfl), by show _ ≤ 1053; omega, by show _ ≤ 13902; omega⟩ wB_bl (wB_in hQ hK hN) rfl hl.1 rfl (Nat.le_of_ble_eq_true rfl) dL_law_381) hS hMA (fun H locs hQ hk hS => ?_)
    replace hQ : va_P D vwCl (mW a2 kk (spG (thG mm 0) v_t v_c v_r v_w v_h)) H := hQ
    replace hP : va_P D vwCl (xW a kk (putX 9 (putX 4 g v_t v_c v_r v_w v_h) v_t 0 0 0 0)) H := hP.un hk (x_un2 hxm)
    replace hW : va_P D vwCl (outW o kk (f)) H := hW.un hk (o_un2 hom)
    refine lv_aload_n hx hb dL_law_384 rfl (lv_at hl 3 rfl) ?_
    refine ri_rd (ri_runV (b := a2 0) (As := []) (rest := []) CF (k_X4_thrown l D a2 kk (spG (thG mm 0) v_t v_c v_r v_w v_h)) gL_law_X4_thrown f_X4_thrown rfl (va_recv hK hQ (ci := 4) (q0 := 0) rfl rfl) ⟨rfl, rfl, (Nat.le_of_ble_eq_true rfl), (Nat.le_of_ble_eq_true rfl), by show _ ≤ 1053; omega, by show _ ≤ 13902; omega⟩ wB_bl (wB_in hQ hK hN) rfl hl.1 rfl (Nat.le_of_ble_eq_true rfl) dL_law_385) ?_
    refine ri_eq (y := 0) (rfl) ?_
    refine lv_iload hx hb dL_law_388 (lv_at hl 0 rfl) ?_
    refine ri_icmp_eq (tgt := 395) hx hb (by omega) dL_law_390 (by decide) (fun _ => ?_) (fun z => absurd rfl z)
    refine lv_goto (tgt := 1263) hx hb dL_law_395 (by decide) ?_
    refine W.widen (k := cells + 2) (n := slots + 12) (by omega) (by omega) ?_
    exact K _ _ _ _ _ _ ⟨hP, hW, hQ, hS, Rel_sp hR hok.1, XInv_p9 (XInv_p4 hI hok.1 (by omega) (by omega)) hok.1 (by omega) (by omega), MInv_sp hMv hok.1 hok.2.1 hok.2.2.1 hok.2.2.2⟩ (lv_sub hl [1, 2, 3, 4, 5] rfl)
  · skip
    refine ri_wi (v := 1) (PP := (fun H => va_P D vwCl (xW a kk g) H ∧ va_P D vwCl (outW o kk f) H)) (vx_runSW (As := [.ref (a 0), .int (iI v_t), .int (iI v_c), .int (iI v_r), .int (iI v_w), .int (iI v_h)]) (rest := []) CF (kL_setPart_no l D a kk g sa o f hst v_t v_c v_r v_w v_h hA hO hI hr1 hr2 hr3 hr4 hr5 hok) (vx_cwSW 6 hts gL_law_L_setPart rfl rfl rfl ⟨by decide +kernel, by decide +kernel, by decide +kernel⟩ ⟨(Nat.le_of_ble_eq_true rfl), (Nat.le_of_ble_eq_true rfl)⟩) ⟨Bl_pc lB_bl, fun U hU hW9 => ⟨rfl, lB_in hS hOA hT hP hW hK hN hC U hU hW9⟩⟩ rfl rfl hl.1 rfl (lv_room (Nat.le_of_ble_eq_true rfl)) dL_law_345 ⟨by show _ ≤ 1053; omega, by show _ ≤ 13902; omega⟩) hS hOA (fun H locs hB hk hS => ?_)
    obtain ⟨hP, hW⟩ := hB
    replace hQ : va_P D vwCl (mW a2 kk mm) H := hQ.un hk (m_un hmo)
    refine lv_istore (lv' := [(5, .int (iI 1)), (0, .ref b), (1, .ref (a 0)), (2, .ref (a2 0)), (3, .ref o), (4, .int (iI i))]) hx hb dL_law_348 hl (by decide) rfl (fun ls hl => ?_)
    refine lv_aload_n hx hb dL_law_350 rfl (lv_at hl 3 rfl) ?_
    refine lv_aload_n hx hb dL_law_351 rfl (lv_at hl 1 rfl) ?_
    refine lv_iload hx hb dL_law_352 (lv_at hl 5 rfl) ?_
    refine ri_iconst hx hb dL_law_354 ?_
    refine ri_iadd hx hb dL_law_355 ?_
    refine ri_sld hx hb hX hbl hbA hS (by omega) (by omega) dL_law_356 ?_
    refine ri_eq (y := v_t) hq1 ?_
    refine lv_aload_n hx hb dL_law_357 rfl (lv_at hl 1 rfl) ?_
    refine lv_iload hx hb dL_law_358 (lv_at hl 5 rfl) ?_
    refine ri_iconst hx hb dL_law_360 ?_
    refine ri_iadd hx hb dL_law_361 ?_
    refine ri_sld hx hb hX hbl hbA hS (by omega) (by omega) dL_law_362 ?_
    refine ri_eq (y := v_c) hq2 ?_
    refine lv_aload_n hx hb dL_law_363 rfl (lv_at hl 1 rfl) ?_
    refine lv_iload hx hb dL_law_364 (lv_at hl 5 rfl) ?_
    refine ri_iconst hx hb dL_law_366 ?_
    refine ri_iadd hx hb dL_law_367 ?_
    refine ri_sld hx hb hX hbl hbA hS (by omega) (by omega) dL_law_368 ?_
    refine ri_eq (y := v_r) hq3 ?_
    refine lv_aload_n hx hb dL_law_369 rfl (lv_at hl 1 rfl) ?_
    refine lv_iload hx hb dL_law_370 (lv_at hl 5 rfl) ?_
    refine ri_iconst hx hb dL_law_372 ?_
    refine ri_iadd hx hb dL_law_373 ?_
    refine ri_sld hx hb hX hbl hbA hS (by omega) (by omega) dL_law_374 ?_
    refine ri_eq (y := v_w) hq4 ?_
    refine lv_aload_n hx hb dL_law_375 rfl (lv_at hl 1 rfl) ?_
    refine lv_iload hx hb dL_law_376 (lv_at hl 5 rfl) ?_
    refine ri_iconst hx hb dL_law_378 ?_
    refine ri_iadd hx hb dL_law_379 ?_
    refine ri_sld hx hb hX hbl hbA hS (by omega) (by omega) dL_law_380 ?_
    refine ri_eq (y := v_h) hq5 ?_
    refine ri_wv (PP := (fun H => va_P D vwCl (mW a2 kk (thG mm 1)) H)) (ri_runV (b := a2 0) (As := [.int (iI v_t), .int (iI v_c), .int (iI v_r), .int (iI v_w), .int (iI v_h)]) (rest := []) CF (k_X4_setPart_no l D a2 kk mm v_t v_c v_r v_w v_h hA2 hMv hr1 hr2 hr3 hr4 hr5 hok) gL_law_X4_setPart f_X4_setPart rfl (va_recv hK hQ (ci := 4) (q0 := 0) rfl rfl) ⟨rfl, rfl, (Nat.le_of_ble_eq_true rfl), (Nat.le_of_ble_eq_true rfl), by show _ ≤ 1053; omega, by show _ ≤ 13902; omega⟩ wB_bl (wB_in hQ hK hN) rfl hl.1 rfl (Nat.le_of_ble_eq_true rfl) dL_law_381) hS hMA (fun H locs hQ hk hS => ?_)
    replace hQ : va_P D vwCl (mW a2 kk (thG mm 1)) H := hQ
    replace hP : va_P D vwCl (xW a kk (g)) H := hP.un hk (x_un2 hxm)
    replace hW : va_P D vwCl (outW o kk (f)) H := hW.un hk (o_un2 hom)
    refine lv_aload_n hx hb dL_law_384 rfl (lv_at hl 3 rfl) ?_
    refine ri_rd (ri_runV (b := a2 0) (As := []) (rest := []) CF (k_X4_thrown l D a2 kk (thG mm 1)) gL_law_X4_thrown f_X4_thrown rfl (va_recv hK hQ (ci := 4) (q0 := 0) rfl rfl) ⟨rfl, rfl, (Nat.le_of_ble_eq_true rfl), (Nat.le_of_ble_eq_true rfl), by show _ ≤ 1053; omega, by show _ ≤ 13902; omega⟩ wB_bl (wB_in hQ hK hN) rfl hl.1 rfl (Nat.le_of_ble_eq_true rfl) dL_law_385) ?_
    refine ri_eq (y := 1) (rfl) ?_
    refine lv_iload hx hb dL_law_388 (lv_at hl 0 rfl) ?_
    refine ri_icmp_eq (tgt := 395) hx hb (by omega) dL_law_390 (by decide) (fun _ => ?_) (fun z => absurd rfl z)
    refine lv_goto (tgt := 1263) hx hb dL_law_395 (by decide) ?_
    refine W.widen (k := cells + 2) (n := slots + 12) (by omega) (by omega) ?_
    exact K _ _ _ _ _ _ ⟨hP, hW, hQ, hS, Rel_th hR _, hI, MInv_th hMv _⟩ (lv_sub hl [1, 2, 3, 4, 5] rfl)

set_option maxHeartbeats 4000000 in
set_option maxRecDepth 100000 in
theorem lc_setMask {p : Program} {l : Launch} {e : Env} {s : State} {m : MethodId} {below : List Frame} {meth : Method} {c : Code} {b L : Nat} {xs : Nat → Int32} {D : va_G} {kk : Nat → ClassId} {a a2 : Nat → Nat} {o : Nat} {sa : Nat → Nat} {g mm : Nat → Nat → Int} {f : Nat → Int64} {H : Heap} {locs : List Loc} {i : Int} {cells slots : Nat} {ls : Array Slot} {Q : State → Prop} (C0 : LCx p l s m meth c b L xs D kk a a2 o sa) (S0 : LSt s D kk a a2 o g mm f H locs) (hi : 0 ≤ i ∧ i + 7 ≤ (L : Int)) (hc : cells + 2 ≤ 1053 ∧ slots + 12 ≤ 13902) (hl : lv_has ls 7 [(0, .ref b), (1, .ref (a 0)), (2, .ref (a2 0)), (3, .ref o), (4, .int (iI i))]) (K : ∀ (g mm : Nat → Nat → Int) (f : Nat → Int64) (H : Heap) (locs : List Loc) (ls : Array Slot), LSt s D kk a a2 o g mm f H locs → lv_has ls 7 [(0, .ref b), (1, .ref (a 0)), (2, .ref (a2 0)), (3, .ref o), (4, .int (iI i))] → W p l e room_1 s m (#[Value.ref b] : Array Value) below meth c H locs (cells + 2) (slots + 12) Q (F0 m 1263 ls [])) : W p l e room_1 s m (#[Value.ref b] : Array Value) below meth c H locs cells slots Q (F0 m 398 ls []) := by
  obtain ⟨⟨hx, hb, hml, hown, hts, hX, hbl, hL⟩, ⟨hst, hK, hN, hT, hC⟩, ⟨hA, hA2, hO, hO2, hAB, hsa, hsa2, hso⟩⟩ := C0
  obtain ⟨hP, hW, hQ, hS, hR, hI, hMv⟩ := S0
  have hbA : ¬ (fun q : Nat => s.heap.size ≤ q) b := Nat.not_le.mpr hbl
  have CF : CallFix p m c cL_law 7 s (#[Value.ref b] : Array Value) wsL_law RL := ⟨hx, hb, hml, hown, hts⟩
  have hOA : ∀ q : Nat, oA a o q → s.heap.size ≤ q := fun q h => h.elim (fun ⟨k, hk, e9⟩ => by rw [e9]; exact hsa k hk) (fun e9 => by rw [e9]; exact hso)
  have hMA : ∀ q : Nat, aA 8 a2 q → s.heap.size ≤ q := fun q ⟨k, hk, e9⟩ => by rw [e9]; exact hsa2 k hk
  have hmo : ∀ j, j < 8 → ¬ oA a o (a2 j) := fun j hj z => z.elim (fun ⟨k, hk, e9⟩ => hAB k j hk hj e9.symm) (fun e9 => hO2 j hj e9)
  have hxm : ∀ j, j < 17 → ¬ aA 8 a2 (a j) := fun j hj ⟨k, hk, e9⟩ => hAB j k hj hk e9
  have hom : ¬ aA 8 a2 o := fun ⟨k, hk, e9⟩ => hO2 k hk e9.symm
  have hr1 := i32_r (xs (i + 1).toNat)
  have hr2 := i32_r (xs (i + 2).toNat)
  have hr3 := i32_r (xs (i + 3).toNat)
  have hr4 := i32_r (xs (i + 4).toNat)
  have hr5 := i32_r (xs (i + 5).toNat)
  refine lv_aload_n hx hb dL_law_398 rfl (lv_at hl 1 rfl) ?_
  refine lv_aload_n hx hb dL_law_399 rfl (lv_at hl 0 rfl) ?_
  refine lv_iload hx hb dL_law_400 (lv_at hl 4 rfl) ?_
  refine ri_iconst hx hb dL_law_402 ?_
  refine ri_iadd hx hb dL_law_403 ?_
  refine ri_sld hx hb hX hbl hbA hS (by omega) (by omega) dL_law_404 ?_
  refine lv_aload_n hx hb dL_law_405 rfl (lv_at hl 0 rfl) ?_
  refine lv_iload hx hb dL_law_406 (lv_at hl 4 rfl) ?_
  refine ri_iconst hx hb dL_law_408 ?_
  refine ri_iadd hx hb dL_law_409 ?_
  refine ri_sld hx hb hX hbl hbA hS (by omega) (by omega) dL_law_410 ?_
  refine lv_aload_n hx hb dL_law_411 rfl (lv_at hl 0 rfl) ?_
  refine lv_iload hx hb dL_law_412 (lv_at hl 4 rfl) ?_
  refine ri_iconst hx hb dL_law_414 ?_
  refine ri_iadd hx hb dL_law_415 ?_
  refine ri_sld hx hb hX hbl hbA hS (by omega) (by omega) dL_law_416 ?_
  refine lv_aload_n hx hb dL_law_417 rfl (lv_at hl 0 rfl) ?_
  refine lv_iload hx hb dL_law_418 (lv_at hl 4 rfl) ?_
  refine ri_iconst hx hb dL_law_420 ?_
  refine ri_iadd hx hb dL_law_421 ?_
  refine ri_sld hx hb hX hbl hbA hS (by omega) (by omega) dL_law_422 ?_
  refine lv_aload_n hx hb dL_law_423 rfl (lv_at hl 0 rfl) ?_
  refine lv_iload hx hb dL_law_424 (lv_at hl 4 rfl) ?_
  refine ri_iconst hx hb dL_law_426 ?_
  refine ri_iadd hx hb dL_law_427 ?_
  refine ri_sld hx hb hX hbl hbA hS (by omega) (by omega) dL_law_428 ?_
  generalize hq1 : (xs (i + 1).toNat).toInt = v_t at hr1 ⊢
  generalize hq2 : (xs (i + 2).toNat).toInt = v_c at hr2 ⊢
  generalize hq3 : (xs (i + 3).toNat).toInt = v_r at hr3 ⊢
  generalize hq4 : (xs (i + 4).toNat).toInt = v_w at hr4 ⊢
  generalize hq5 : (xs (i + 5).toNat).toInt = v_h at hr5 ⊢
  by_cases hok : ((0 ≤ v_t ∧ v_t ≤ 4) ∧ (-8 ≤ v_c ∧ v_c ≤ 8) ∧ (-8 ≤ v_r ∧ v_r ≤ 8) ∧ (1 ≤ v_w ∧ v_w ≤ 8) ∧ (1 ≤ v_h ∧ v_h ≤ 8)) ∧ g 5 v_t.toNat < g 7 v_t.toNat
  · skip
    refine ri_wi (v := 0) (PP := (fun H => va_P D vwCl (xW a kk (putX 9 g v_t v_c v_r v_w v_h)) H ∧ va_P D vwCl (outW o kk (f)) H)) (vx_runSW (As := [.ref (a 0), .int (iI v_t), .int (iI v_c), .int (iI v_r), .int (iI v_w), .int (iI v_h)]) (rest := []) CF (kL_setMask_ok l D a kk g sa o f hst v_t v_c v_r v_w v_h hA hO hI hr1 hr2 hr3 hr4 hr5 hok) (vx_cwSW 6 hts gL_law_L_setMask rfl rfl rfl ⟨by decide +kernel, by decide +kernel, by decide +kernel⟩ ⟨(Nat.le_of_ble_eq_true rfl), (Nat.le_of_ble_eq_true rfl)⟩) ⟨Bl_pc lB_bl, fun U hU hW9 => ⟨rfl, lB_in hS hOA hT hP hW hK hN hC U hU hW9⟩⟩ rfl rfl hl.1 rfl (lv_room (Nat.le_of_ble_eq_true rfl)) dL_law_429 ⟨by show _ ≤ 1053; omega, by show _ ≤ 13902; omega⟩) hS hOA (fun H locs hB hk hS => ?_)
    obtain ⟨hP, hW⟩ := hB
    replace hQ : va_P D vwCl (mW a2 kk mm) H := hQ.un hk (m_un hmo)
    refine lv_istore (lv' := [(5, .int (iI 0)), (0, .ref b), (1, .ref (a 0)), (2, .ref (a2 0)), (3, .ref o), (4, .int (iI i))]) hx hb dL_law_432 hl (by decide) rfl (fun ls hl => ?_)
    refine lv_aload_n hx hb dL_law_434 rfl (lv_at hl 3 rfl) ?_
    refine lv_aload_n hx hb dL_law_435 rfl (lv_at hl 1 rfl) ?_
    refine lv_iload hx hb dL_law_436 (lv_at hl 5 rfl) ?_
    refine ri_iconst hx hb dL_law_438 ?_
    refine ri_iadd hx hb dL_law_439 ?_
    refine ri_sld hx hb hX hbl hbA hS (by omega) (by omega) dL_law_440 ?_
    refine ri_eq (y := v_t) hq1 ?_
    refine lv_aload_n hx hb dL_law_441 rfl (lv_at hl 1 rfl) ?_
    refine lv_iload hx hb dL_law_442 (lv_at hl 5 rfl) ?_
    refine ri_iconst hx hb dL_law_444 ?_
    refine ri_iadd hx hb dL_law_445 ?_
    refine ri_sld hx hb hX hbl hbA hS (by omega) (by omega) dL_law_446 ?_
    refine ri_eq (y := v_c) hq2 ?_
    refine lv_aload_n hx hb dL_law_447 rfl (lv_at hl 1 rfl) ?_
    refine lv_iload hx hb dL_law_448 (lv_at hl 5 rfl) ?_
    refine ri_iconst hx hb dL_law_450 ?_
    refine ri_iadd hx hb dL_law_451 ?_
    refine ri_sld hx hb hX hbl hbA hS (by omega) (by omega) dL_law_452 ?_
    refine ri_eq (y := v_r) hq3 ?_
    refine lv_aload_n hx hb dL_law_453 rfl (lv_at hl 1 rfl) ?_
    refine lv_iload hx hb dL_law_454 (lv_at hl 5 rfl) ?_
    refine ri_iconst hx hb dL_law_456 ?_
    refine ri_iadd hx hb dL_law_457 ?_
    refine ri_sld hx hb hX hbl hbA hS (by omega) (by omega) dL_law_458 ?_
    refine ri_eq (y := v_w) hq4 ?_
    refine lv_aload_n hx hb dL_law_459 rfl (lv_at hl 1 rfl) ?_
    refine lv_iload hx hb dL_law_460 (lv_at hl 5 rfl) ?_
    refine ri_iconst hx hb dL_law_462 ?_
    refine ri_iadd hx hb dL_law_463 ?_
    refine ri_sld hx hb hX hbl hbA hS (by omega) (by omega) dL_law_464 ?_
    refine ri_eq (y := v_h) hq5 ?_
    have hokm : ((0 ≤ v_t ∧ v_t ≤ 4) ∧ (-8 ≤ v_c ∧ v_c ≤ 8) ∧ (-8 ≤ v_r ∧ v_r ≤ 8) ∧ (1 ≤ v_w ∧ v_w ≤ 8) ∧ (1 ≤ v_h ∧ v_h ≤ 8)) ∧ ¬ mm 4 (4 * v_t + 2).toNat = 0 := ⟨hok.1, (Rel_part hR hMv hok.1.1).mp hok.2⟩
    refine ri_wv (PP := (fun H => va_P D vwCl (mW a2 kk (smG (thG mm 0) v_t v_c v_r v_w v_h)) H)) (ri_runV (b := a2 0) (As := [.int (iI v_t), .int (iI v_c), .int (iI v_r), .int (iI v_w), .int (iI v_h)]) (rest := []) CF (k_X4_setMask_ok l D a2 kk mm v_t v_c v_r v_w v_h hA2 hMv hr1 hr2 hr3 hr4 hr5 hokm) gL_law_X4_setMask f_X4_setMask rfl (va_recv hK hQ (ci := 4) (q0 := 0) rfl rfl) ⟨rfl, rfl, (Nat.le_of_ble_eq_true rfl), (Nat.le_of_ble_eq_true rfl), by show _ ≤ 1053; omega, by show _ ≤ 13902; omega⟩ wB_bl (wB_in hQ hK hN) rfl hl.1 rfl (Nat.le_of_ble_eq_true rfl) dL_law_465) hS hMA (fun H locs hQ hk hS => ?_)
    replace hQ : va_P D vwCl (mW a2 kk (smG (thG mm 0) v_t v_c v_r v_w v_h)) H := hQ
    replace hP : va_P D vwCl (xW a kk (putX 9 g v_t v_c v_r v_w v_h)) H := hP.un hk (x_un2 hxm)
    replace hW : va_P D vwCl (outW o kk (f)) H := hW.un hk (o_un2 hom)
    refine lv_aload_n hx hb dL_law_468 rfl (lv_at hl 3 rfl) ?_
    refine ri_rd (ri_runV (b := a2 0) (As := []) (rest := []) CF (k_X4_thrown l D a2 kk (smG (thG mm 0) v_t v_c v_r v_w v_h)) gL_law_X4_thrown f_X4_thrown rfl (va_recv hK hQ (ci := 4) (q0 := 0) rfl rfl) ⟨rfl, rfl, (Nat.le_of_ble_eq_true rfl), (Nat.le_of_ble_eq_true rfl), by show _ ≤ 1053; omega, by show _ ≤ 13902; omega⟩ wB_bl (wB_in hQ hK hN) rfl hl.1 rfl (Nat.le_of_ble_eq_true rfl) dL_law_469) ?_
    refine ri_eq (y := 0) (rfl) ?_
    refine lv_iload hx hb dL_law_472 (lv_at hl 0 rfl) ?_
    refine ri_icmp_eq (tgt := 479) hx hb (by omega) dL_law_474 (by decide) (fun _ => ?_) (fun z => absurd rfl z)
    refine lv_goto (tgt := 1263) hx hb dL_law_479 (by decide) ?_
    refine W.widen (k := cells + 2) (n := slots + 12) (by omega) (by omega) ?_
    exact K _ _ _ _ _ _ ⟨hP, hW, hQ, hS, Rel_sm hR hok.1.1, XInv_p9 hI hok.1.1 (by omega) (by omega), MInv_sm hMv hok.1.1 ⟨hok.1.2.1, hok.1.2.2.1⟩ hok.1.2.2.2.1 hok.1.2.2.2.2 ((Rel_part hR hMv hok.1.1).mp hok.2)⟩ (lv_sub hl [1, 2, 3, 4, 5] rfl)
  · skip
    obtain ⟨pl, hno⟩ : ∃ pl : Int, (pl = 1 ∧ ¬ ((0 ≤ v_t ∧ v_t ≤ 4) ∧ (-8 ≤ v_c ∧ v_c ≤ 8) ∧ (-8 ≤ v_r ∧ v_r ≤ 8) ∧ (1 ≤ v_w ∧ v_w ≤ 8) ∧ (1 ≤ v_h ∧ v_h ≤ 8))) ∨ (pl = 2 ∧ ((0 ≤ v_t ∧ v_t ≤ 4) ∧ (-8 ≤ v_c ∧ v_c ≤ 8) ∧ (-8 ≤ v_r ∧ v_r ≤ 8) ∧ (1 ≤ v_w ∧ v_w ≤ 8) ∧ (1 ≤ v_h ∧ v_h ≤ 8)) ∧ ¬ (g 5 v_t.toNat < g 7 v_t.toNat)) := by
      by_cases h9 : (0 ≤ v_t ∧ v_t ≤ 4) ∧ (-8 ≤ v_c ∧ v_c ≤ 8) ∧ (-8 ≤ v_r ∧ v_r ≤ 8) ∧ (1 ≤ v_w ∧ v_w ≤ 8) ∧ (1 ≤ v_h ∧ v_h ≤ 8)
      · exact ⟨2, Or.inr ⟨rfl, h9, fun z => hok ⟨h9, z⟩⟩⟩
      · exact ⟨1, Or.inl ⟨rfl, h9⟩⟩
    refine ri_wi (v := pl) (PP := (fun H => va_P D vwCl (xW a kk g) H ∧ va_P D vwCl (outW o kk f) H)) (vx_runSW (As := [.ref (a 0), .int (iI v_t), .int (iI v_c), .int (iI v_r), .int (iI v_w), .int (iI v_h)]) (rest := []) CF (kL_setMask_no l D a kk g sa o f hst v_t v_c v_r v_w v_h hA hO hI hr1 hr2 hr3 hr4 hr5 pl hno) (vx_cwSW 6 hts gL_law_L_setMask rfl rfl rfl ⟨by decide +kernel, by decide +kernel, by decide +kernel⟩ ⟨(Nat.le_of_ble_eq_true rfl), (Nat.le_of_ble_eq_true rfl)⟩) ⟨Bl_pc lB_bl, fun U hU hW9 => ⟨rfl, lB_in hS hOA hT hP hW hK hN hC U hU hW9⟩⟩ rfl rfl hl.1 rfl (lv_room (Nat.le_of_ble_eq_true rfl)) dL_law_429 ⟨by show _ ≤ 1053; omega, by show _ ≤ 13902; omega⟩) hS hOA (fun H locs hB hk hS => ?_)
    obtain ⟨hP, hW⟩ := hB
    replace hQ : va_P D vwCl (mW a2 kk mm) H := hQ.un hk (m_un hmo)
    refine lv_istore (lv' := [(5, .int (iI pl)), (0, .ref b), (1, .ref (a 0)), (2, .ref (a2 0)), (3, .ref o), (4, .int (iI i))]) hx hb dL_law_432 hl (by decide) rfl (fun ls hl => ?_)
    refine lv_aload_n hx hb dL_law_434 rfl (lv_at hl 3 rfl) ?_
    refine lv_aload_n hx hb dL_law_435 rfl (lv_at hl 1 rfl) ?_
    refine lv_iload hx hb dL_law_436 (lv_at hl 5 rfl) ?_
    refine ri_iconst hx hb dL_law_438 ?_
    refine ri_iadd hx hb dL_law_439 ?_
    refine ri_sld hx hb hX hbl hbA hS (by omega) (by omega) dL_law_440 ?_
    refine ri_eq (y := v_t) hq1 ?_
    refine lv_aload_n hx hb dL_law_441 rfl (lv_at hl 1 rfl) ?_
    refine lv_iload hx hb dL_law_442 (lv_at hl 5 rfl) ?_
    refine ri_iconst hx hb dL_law_444 ?_
    refine ri_iadd hx hb dL_law_445 ?_
    refine ri_sld hx hb hX hbl hbA hS (by omega) (by omega) dL_law_446 ?_
    refine ri_eq (y := v_c) hq2 ?_
    refine lv_aload_n hx hb dL_law_447 rfl (lv_at hl 1 rfl) ?_
    refine lv_iload hx hb dL_law_448 (lv_at hl 5 rfl) ?_
    refine ri_iconst hx hb dL_law_450 ?_
    refine ri_iadd hx hb dL_law_451 ?_
    refine ri_sld hx hb hX hbl hbA hS (by omega) (by omega) dL_law_452 ?_
    refine ri_eq (y := v_r) hq3 ?_
    refine lv_aload_n hx hb dL_law_453 rfl (lv_at hl 1 rfl) ?_
    refine lv_iload hx hb dL_law_454 (lv_at hl 5 rfl) ?_
    refine ri_iconst hx hb dL_law_456 ?_
    refine ri_iadd hx hb dL_law_457 ?_
    refine ri_sld hx hb hX hbl hbA hS (by omega) (by omega) dL_law_458 ?_
    refine ri_eq (y := v_w) hq4 ?_
    refine lv_aload_n hx hb dL_law_459 rfl (lv_at hl 1 rfl) ?_
    refine lv_iload hx hb dL_law_460 (lv_at hl 5 rfl) ?_
    refine ri_iconst hx hb dL_law_462 ?_
    refine ri_iadd hx hb dL_law_463 ?_
    refine ri_sld hx hb hX hbl hbA hS (by omega) (by omega) dL_law_464 ?_
    refine ri_eq (y := v_h) hq5 ?_
    have hnom : (pl = 1 ∧ ¬ ((0 ≤ v_t ∧ v_t ≤ 4) ∧ (-8 ≤ v_c ∧ v_c ≤ 8) ∧ (-8 ≤ v_r ∧ v_r ≤ 8) ∧ (1 ≤ v_w ∧ v_w ≤ 8) ∧ (1 ≤ v_h ∧ v_h ≤ 8))) ∨ (pl = 2 ∧ ((0 ≤ v_t ∧ v_t ≤ 4) ∧ (-8 ≤ v_c ∧ v_c ≤ 8) ∧ (-8 ≤ v_r ∧ v_r ≤ 8) ∧ (1 ≤ v_w ∧ v_w ≤ 8) ∧ (1 ≤ v_h ∧ v_h ≤ 8)) ∧ mm 4 (4 * v_t + 2).toNat = 0) := hno.elim Or.inl (fun z => Or.inr ⟨z.1, z.2.1, Decidable.byContradiction (fun y => z.2.2 ((Rel_part hR hMv z.2.1.1).mpr y))⟩)
    refine ri_wv (PP := (fun H => va_P D vwCl (mW a2 kk (thG mm pl)) H)) (ri_runV (b := a2 0) (As := [.int (iI v_t), .int (iI v_c), .int (iI v_r), .int (iI v_w), .int (iI v_h)]) (rest := []) CF (k_X4_setMask_no l D a2 kk mm pl v_t v_c v_r v_w v_h hA2 hMv hr1 hr2 hr3 hr4 hr5 hnom) gL_law_X4_setMask f_X4_setMask rfl (va_recv hK hQ (ci := 4) (q0 := 0) rfl rfl) ⟨rfl, rfl, (Nat.le_of_ble_eq_true rfl), (Nat.le_of_ble_eq_true rfl), by show _ ≤ 1053; omega, by show _ ≤ 13902; omega⟩ wB_bl (wB_in hQ hK hN) rfl hl.1 rfl (Nat.le_of_ble_eq_true rfl) dL_law_465) hS hMA (fun H locs hQ hk hS => ?_)
    replace hQ : va_P D vwCl (mW a2 kk (thG mm pl)) H := hQ
    replace hP : va_P D vwCl (xW a kk (g)) H := hP.un hk (x_un2 hxm)
    replace hW : va_P D vwCl (outW o kk (f)) H := hW.un hk (o_un2 hom)
    refine lv_aload_n hx hb dL_law_468 rfl (lv_at hl 3 rfl) ?_
    refine ri_rd (ri_runV (b := a2 0) (As := []) (rest := []) CF (k_X4_thrown l D a2 kk (thG mm pl)) gL_law_X4_thrown f_X4_thrown rfl (va_recv hK hQ (ci := 4) (q0 := 0) rfl rfl) ⟨rfl, rfl, (Nat.le_of_ble_eq_true rfl), (Nat.le_of_ble_eq_true rfl), by show _ ≤ 1053; omega, by show _ ≤ 13902; omega⟩ wB_bl (wB_in hQ hK hN) rfl hl.1 rfl (Nat.le_of_ble_eq_true rfl) dL_law_469) ?_
    refine ri_eq (y := pl) (rfl) ?_
    refine lv_iload hx hb dL_law_472 (lv_at hl 0 rfl) ?_
    refine ri_icmp_eq (tgt := 479) hx hb (by omega) dL_law_474 (by decide) (fun _ => ?_) (fun z => absurd rfl z)
    refine lv_goto (tgt := 1263) hx hb dL_law_479 (by decide) ?_
    refine W.widen (k := cells + 2) (n := slots + 12) (by omega) (by omega) ?_
    exact K _ _ _ _ _ _ ⟨hP, hW, hQ, hS, Rel_th hR _, hI, MInv_th hMv _⟩ (lv_sub hl [1, 2, 3, 4, 5] rfl)

set_option maxHeartbeats 4000000 in
set_option maxRecDepth 100000 in
theorem lc_approve {p : Program} {l : Launch} {e : Env} {s : State} {m : MethodId} {below : List Frame} {meth : Method} {c : Code} {b L : Nat} {xs : Nat → Int32} {D : va_G} {kk : Nat → ClassId} {a a2 : Nat → Nat} {o : Nat} {sa : Nat → Nat} {g mm : Nat → Nat → Int} {f : Nat → Int64} {H : Heap} {locs : List Loc} {i : Int} {cells slots : Nat} {ls : Array Slot} {Q : State → Prop} (C0 : LCx p l s m meth c b L xs D kk a a2 o sa) (S0 : LSt s D kk a a2 o g mm f H locs) (hi : 0 ≤ i ∧ i + 7 ≤ (L : Int)) (hc : cells + 2 ≤ 1053 ∧ slots + 12 ≤ 13902) (hl : lv_has ls 7 [(0, .ref b), (1, .ref (a 0)), (2, .ref (a2 0)), (3, .ref o), (4, .int (iI i))]) (K : ∀ (g mm : Nat → Nat → Int) (f : Nat → Int64) (H : Heap) (locs : List Loc) (ls : Array Slot), LSt s D kk a a2 o g mm f H locs → lv_has ls 7 [(0, .ref b), (1, .ref (a 0)), (2, .ref (a2 0)), (3, .ref o), (4, .int (iI i))] → W p l e room_1 s m (#[Value.ref b] : Array Value) below meth c H locs (cells + 2) (slots + 12) Q (F0 m 1263 ls [])) : W p l e room_1 s m (#[Value.ref b] : Array Value) below meth c H locs cells slots Q (F0 m 482 ls []) := by
  obtain ⟨⟨hx, hb, hml, hown, hts, hX, hbl, hL⟩, ⟨hst, hK, hN, hT, hC⟩, ⟨hA, hA2, hO, hO2, hAB, hsa, hsa2, hso⟩⟩ := C0
  obtain ⟨hP, hW, hQ, hS, hR, hI, hMv⟩ := S0
  have hbA : ¬ (fun q : Nat => s.heap.size ≤ q) b := Nat.not_le.mpr hbl
  have CF : CallFix p m c cL_law 7 s (#[Value.ref b] : Array Value) wsL_law RL := ⟨hx, hb, hml, hown, hts⟩
  have hOA : ∀ q : Nat, oA a o q → s.heap.size ≤ q := fun q h => h.elim (fun ⟨k, hk, e9⟩ => by rw [e9]; exact hsa k hk) (fun e9 => by rw [e9]; exact hso)
  have hMA : ∀ q : Nat, aA 8 a2 q → s.heap.size ≤ q := fun q ⟨k, hk, e9⟩ => by rw [e9]; exact hsa2 k hk
  have hmo : ∀ j, j < 8 → ¬ oA a o (a2 j) := fun j hj z => z.elim (fun ⟨k, hk, e9⟩ => hAB k j hk hj e9.symm) (fun e9 => hO2 j hj e9)
  have hxm : ∀ j, j < 17 → ¬ aA 8 a2 (a j) := fun j hj ⟨k, hk, e9⟩ => hAB j k hj hk e9
  have hom : ¬ aA 8 a2 o := fun ⟨k, hk, e9⟩ => hO2 k hk e9.symm
  have hr1 := i32_r (xs (i + 1).toNat)
  have hr2 := i32_r (xs (i + 2).toNat)
  refine lv_aload_n hx hb dL_law_482 rfl (lv_at hl 1 rfl) ?_
  refine lv_aload_n hx hb dL_law_483 rfl (lv_at hl 0 rfl) ?_
  refine lv_iload hx hb dL_law_484 (lv_at hl 4 rfl) ?_
  refine ri_iconst hx hb dL_law_486 ?_
  refine ri_iadd hx hb dL_law_487 ?_
  refine ri_sld hx hb hX hbl hbA hS (by omega) (by omega) dL_law_488 ?_
  refine lv_aload_n hx hb dL_law_489 rfl (lv_at hl 0 rfl) ?_
  refine lv_iload hx hb dL_law_490 (lv_at hl 4 rfl) ?_
  refine ri_iconst hx hb dL_law_492 ?_
  refine ri_iadd hx hb dL_law_493 ?_
  refine ri_sld hx hb hX hbl hbA hS (by omega) (by omega) dL_law_494 ?_
  refine lv_aload_n hx hb dL_law_495 rfl (lv_at hl 3 rfl) ?_
  generalize hq1 : (xs (i + 1).toNat).toInt = v_b at hr1 ⊢
  generalize hq2 : (xs (i + 2).toNat).toInt = v_t at hr2 ⊢
  by_cases hok : (0 ≤ v_b ∧ v_b ≤ 3) ∧ (0 ≤ v_t ∧ v_t ≤ 4)
  · skip
    refine ri_wi (v := 0) (PP := (fun H => va_P D vwCl (xW a kk (cpG g v_t (5 + v_b * 5 + v_t))) H ∧ va_P D vwCl (outW o kk (vp_updL f 0 (iI (bp (g 3 (5 + v_b * 5 + v_t).toNat = 1))).toInt64)) H)) (vx_runSW (As := [.ref (a 0), .int (iI v_b), .int (iI v_t), .ref o]) (rest := []) CF (kL_approve_ok l D a kk g sa o f hst v_b v_t hA hO hI hr1 hr2 hok) (vx_cwSW 4 hts gL_law_L_approve rfl rfl rfl ⟨by decide +kernel, by decide +kernel, by decide +kernel⟩ ⟨(Nat.le_of_ble_eq_true rfl), (Nat.le_of_ble_eq_true rfl)⟩) ⟨Bl_pc lB_bl, fun U hU hW9 => ⟨rfl, lB_in hS hOA hT hP hW hK hN hC U hU hW9⟩⟩ rfl rfl hl.1 rfl (lv_room (Nat.le_of_ble_eq_true rfl)) dL_law_496 ⟨by show _ ≤ 1053; omega, by show _ ≤ 13902; omega⟩) hS hOA (fun H locs hB hk hS => ?_)
    obtain ⟨hP, hW⟩ := hB
    replace hQ : va_P D vwCl (mW a2 kk mm) H := hQ.un hk (m_un hmo)
    refine lv_istore (lv' := [(5, .int (iI 0)), (0, .ref b), (1, .ref (a 0)), (2, .ref (a2 0)), (3, .ref o), (4, .int (iI i))]) hx hb dL_law_499 hl (by decide) rfl (fun ls hl => ?_)
    refine lv_aload_n hx hb dL_law_501 rfl (lv_at hl 3 rfl) ?_
    refine lv_aload_n hx hb dL_law_502 rfl (lv_at hl 1 rfl) ?_
    refine lv_iload hx hb dL_law_503 (lv_at hl 5 rfl) ?_
    refine ri_iconst hx hb dL_law_505 ?_
    refine ri_iadd hx hb dL_law_506 ?_
    refine ri_sld hx hb hX hbl hbA hS (by omega) (by omega) dL_law_507 ?_
    refine ri_eq (y := v_b) hq1 ?_
    refine lv_aload_n hx hb dL_law_508 rfl (lv_at hl 1 rfl) ?_
    refine lv_iload hx hb dL_law_509 (lv_at hl 5 rfl) ?_
    refine ri_iconst hx hb dL_law_511 ?_
    refine ri_iadd hx hb dL_law_512 ?_
    refine ri_sld hx hb hX hbl hbA hS (by omega) (by omega) dL_law_513 ?_
    refine ri_eq (y := v_t) hq2 ?_
    have hokm : (0 ≤ v_b ∧ v_b ≤ 3) ∧ (0 ≤ v_t ∧ v_t ≤ 4) := hok
    refine ri_wi (v := bp (mm 3 (5 * v_b + v_t).toNat = 1)) (PP := (fun H => va_P D vwCl (mW a2 kk (apG (thG mm 0) v_b v_t)) H)) (ri_runV (b := a2 0) (As := [.int (iI v_b), .int (iI v_t)]) (rest := []) CF (k_X4_approve_ok l D a2 kk mm v_b v_t hA2 hMv hr1 hr2 hokm) gL_law_X4_approve f_X4_approve rfl (va_recv hK hQ (ci := 4) (q0 := 0) rfl rfl) ⟨rfl, rfl, (Nat.le_of_ble_eq_true rfl), (Nat.le_of_ble_eq_true rfl), by show _ ≤ 1053; omega, by show _ ≤ 13902; omega⟩ wB_bl (wB_in hQ hK hN) rfl hl.1 rfl (Nat.le_of_ble_eq_true rfl) dL_law_514) hS hMA (fun H locs hQ hk hS => ?_)
    replace hQ : va_P D vwCl (mW a2 kk (apG (thG mm 0) v_b v_t)) H := hQ
    replace hP : va_P D vwCl (xW a kk (cpG g v_t (5 + v_b * 5 + v_t))) H := hP.un hk (x_un2 hxm)
    replace hW : va_P D vwCl (outW o kk (vp_updL f 0 (iI (bp (g 3 (5 + v_b * 5 + v_t).toNat = 1))).toInt64)) H := hW.un hk (o_un2 hom)
    refine lv_istore (lv' := [(6, .int (iI (bp (mm 3 (5 * v_b + v_t).toNat = 1)))), (5, .int (iI 0)), (0, .ref b), (1, .ref (a 0)), (2, .ref (a2 0)), (3, .ref o), (4, .int (iI i))]) hx hb dL_law_517 hl (by decide) rfl (fun ls hl => ?_)
    refine lv_aload_n hx hb dL_law_519 rfl (lv_at hl 4 rfl) ?_
    refine ri_rd (ri_runV (b := a2 0) (As := []) (rest := []) CF (k_X4_thrown l D a2 kk (apG (thG mm 0) v_b v_t)) gL_law_X4_thrown f_X4_thrown rfl (va_recv hK hQ (ci := 4) (q0 := 0) rfl rfl) ⟨rfl, rfl, (Nat.le_of_ble_eq_true rfl), (Nat.le_of_ble_eq_true rfl), by show _ ≤ 1053; omega, by show _ ≤ 13902; omega⟩ wB_bl (wB_in hQ hK hN) rfl hl.1 rfl (Nat.le_of_ble_eq_true rfl) dL_law_520) ?_
    refine ri_eq (y := 0) (rfl) ?_
    refine lv_iload hx hb dL_law_523 (lv_at hl 1 rfl) ?_
    refine ri_icmp_eq (tgt := 530) hx hb (by omega) dL_law_525 (by decide) (fun _ => ?_) (fun z => absurd rfl z)
    refine lv_iload hx hb dL_law_530 (lv_at hl 1 rfl) ?_
    refine ri_if_ne (tgt := 554) hx hb (by omega) dL_law_532 (by decide) (fun z => absurd z (by omega)) (fun _ => ?_)
    refine lv_aload_n hx hb dL_law_535 rfl (lv_at hl 5 rfl) ?_
    refine ri_iconst hx hb dL_law_536 ?_
    refine va_lald hx hb hK hW 0 2 rfl rfl (iI_in (by decide) (by decide)) dL_law_537 ?_
    rw [show (vp_updL f 0 (iI (bp (g 3 (5 + v_b * 5 + v_t).toNat = 1))).toInt64) (iI 0).toNatClampNeg = (iI (bp (g 3 (5 + v_b * 5 + v_t).toNat = 1))).toInt64 from if_pos rfl, show bp (g 3 (5 + v_b * 5 + v_t).toNat = 1) = bp (mm 3 (5 * v_b + v_t).toNat = 1) from by rw [Rel_hd hR hok.1 hok.2]]
    refine lv_iload hx hb dL_law_538 (lv_at hl 0 rfl) ?_
    refine ri_ifeq_b (tgt := 547) hx hb dL_law_540 (by decide) (fun hz => ?_) (fun hz => ?_)
    · rw [bp_f hz, show (iI 0).toInt64 = 0 from rfl]
      refine lv_lconst (v := 0) hx hb dL_law_547 rfl ?_
      refine W.lcmp hx hb dL_law_548 ?_
      rw [cmp_0]
      refine ri_if_eq (tgt := 554) hx hb (by omega) dL_law_549 (by decide) (fun _ => ?_) (fun z => absurd rfl z)
      refine lv_goto (tgt := 1263) hx hb dL_law_554 (by decide) ?_
      refine W.widen (k := cells + 2) (n := slots + 12) (by omega) (by omega) ?_
      exact K _ _ _ _ _ _ ⟨hP, hW, hQ, hS, Rel_ap hR hI hok.1 hok.2, XInv_cp hI (by omega) (by omega), MInv_ap hMv hok.1 hok.2⟩ (lv_sub hl [2, 3, 4, 5, 6] rfl)
    · rw [bp_t hz, show (iI 1).toInt64 = 1 from rfl]
      refine lv_lconst (v := 1) hx hb dL_law_543 rfl ?_
      refine lv_goto (tgt := 548) hx hb dL_law_544 (by decide) ?_
      refine W.lcmp hx hb dL_law_548 ?_
      rw [cmp_0]
      refine ri_if_eq (tgt := 554) hx hb (by omega) dL_law_549 (by decide) (fun _ => ?_) (fun z => absurd rfl z)
      refine lv_goto (tgt := 1263) hx hb dL_law_554 (by decide) ?_
      refine W.widen (k := cells + 2) (n := slots + 12) (by omega) (by omega) ?_
      exact K _ _ _ _ _ _ ⟨hP, hW, hQ, hS, Rel_ap hR hI hok.1 hok.2, XInv_cp hI (by omega) (by omega), MInv_ap hMv hok.1 hok.2⟩ (lv_sub hl [2, 3, 4, 5, 6] rfl)
  · skip
    refine ri_wi (v := 1) (PP := (fun H => va_P D vwCl (xW a kk g) H ∧ va_P D vwCl (outW o kk f) H)) (vx_runSW (As := [.ref (a 0), .int (iI v_b), .int (iI v_t), .ref o]) (rest := []) CF (kL_approve_no l D a kk g sa o f hst v_b v_t hA hO hI hr1 hr2 hok) (vx_cwSW 4 hts gL_law_L_approve rfl rfl rfl ⟨by decide +kernel, by decide +kernel, by decide +kernel⟩ ⟨(Nat.le_of_ble_eq_true rfl), (Nat.le_of_ble_eq_true rfl)⟩) ⟨Bl_pc lB_bl, fun U hU hW9 => ⟨rfl, lB_in hS hOA hT hP hW hK hN hC U hU hW9⟩⟩ rfl rfl hl.1 rfl (lv_room (Nat.le_of_ble_eq_true rfl)) dL_law_496 ⟨by show _ ≤ 1053; omega, by show _ ≤ 13902; omega⟩) hS hOA (fun H locs hB hk hS => ?_)
    obtain ⟨hP, hW⟩ := hB
    replace hQ : va_P D vwCl (mW a2 kk mm) H := hQ.un hk (m_un hmo)
    refine lv_istore (lv' := [(5, .int (iI 1)), (0, .ref b), (1, .ref (a 0)), (2, .ref (a2 0)), (3, .ref o), (4, .int (iI i))]) hx hb dL_law_499 hl (by decide) rfl (fun ls hl => ?_)
    refine lv_aload_n hx hb dL_law_501 rfl (lv_at hl 3 rfl) ?_
    refine lv_aload_n hx hb dL_law_502 rfl (lv_at hl 1 rfl) ?_
    refine lv_iload hx hb dL_law_503 (lv_at hl 5 rfl) ?_
    refine ri_iconst hx hb dL_law_505 ?_
    refine ri_iadd hx hb dL_law_506 ?_
    refine ri_sld hx hb hX hbl hbA hS (by omega) (by omega) dL_law_507 ?_
    refine ri_eq (y := v_b) hq1 ?_
    refine lv_aload_n hx hb dL_law_508 rfl (lv_at hl 1 rfl) ?_
    refine lv_iload hx hb dL_law_509 (lv_at hl 5 rfl) ?_
    refine ri_iconst hx hb dL_law_511 ?_
    refine ri_iadd hx hb dL_law_512 ?_
    refine ri_sld hx hb hX hbl hbA hS (by omega) (by omega) dL_law_513 ?_
    refine ri_eq (y := v_t) hq2 ?_
    refine ri_wi (v := 0) (PP := (fun H => va_P D vwCl (mW a2 kk (thG mm 1)) H)) (ri_runV (b := a2 0) (As := [.int (iI v_b), .int (iI v_t)]) (rest := []) CF (k_X4_approve_no l D a2 kk mm v_b v_t hA2 hMv hr1 hr2 hok) gL_law_X4_approve f_X4_approve rfl (va_recv hK hQ (ci := 4) (q0 := 0) rfl rfl) ⟨rfl, rfl, (Nat.le_of_ble_eq_true rfl), (Nat.le_of_ble_eq_true rfl), by show _ ≤ 1053; omega, by show _ ≤ 13902; omega⟩ wB_bl (wB_in hQ hK hN) rfl hl.1 rfl (Nat.le_of_ble_eq_true rfl) dL_law_514) hS hMA (fun H locs hQ hk hS => ?_)
    replace hQ : va_P D vwCl (mW a2 kk (thG mm 1)) H := hQ
    replace hP : va_P D vwCl (xW a kk (g)) H := hP.un hk (x_un2 hxm)
    replace hW : va_P D vwCl (outW o kk (f)) H := hW.un hk (o_un2 hom)
    refine lv_istore (lv' := [(6, .int (iI 0)), (5, .int (iI 1)), (0, .ref b), (1, .ref (a 0)), (2, .ref (a2 0)), (3, .ref o), (4, .int (iI i))]) hx hb dL_law_517 hl (by decide) rfl (fun ls hl => ?_)
    refine lv_aload_n hx hb dL_law_519 rfl (lv_at hl 4 rfl) ?_
    refine ri_rd (ri_runV (b := a2 0) (As := []) (rest := []) CF (k_X4_thrown l D a2 kk (thG mm 1)) gL_law_X4_thrown f_X4_thrown rfl (va_recv hK hQ (ci := 4) (q0 := 0) rfl rfl) ⟨rfl, rfl, (Nat.le_of_ble_eq_true rfl), (Nat.le_of_ble_eq_true rfl), by show _ ≤ 1053; omega, by show _ ≤ 13902; omega⟩ wB_bl (wB_in hQ hK hN) rfl hl.1 rfl (Nat.le_of_ble_eq_true rfl) dL_law_520) ?_
    refine ri_eq (y := 1) (rfl) ?_
    refine lv_iload hx hb dL_law_523 (lv_at hl 1 rfl) ?_
    refine ri_icmp_eq (tgt := 530) hx hb (by omega) dL_law_525 (by decide) (fun _ => ?_) (fun z => absurd rfl z)
    refine lv_iload hx hb dL_law_530 (lv_at hl 1 rfl) ?_
    refine ri_if_ne (tgt := 554) hx hb (by omega) dL_law_532 (by decide) (fun _ => ?_) (fun z => absurd z (by omega))
    refine lv_goto (tgt := 1263) hx hb dL_law_554 (by decide) ?_
    refine W.widen (k := cells + 2) (n := slots + 12) (by omega) (by omega) ?_
    exact K _ _ _ _ _ _ ⟨hP, hW, hQ, hS, Rel_th hR _, hI, MInv_th hMv _⟩ (lv_sub hl [2, 3, 4, 5, 6] rfl)

set_option maxHeartbeats 4000000 in
set_option maxRecDepth 100000 in
theorem lc_begin {p : Program} {l : Launch} {e : Env} {s : State} {m : MethodId} {below : List Frame} {meth : Method} {c : Code} {b L : Nat} {xs : Nat → Int32} {D : va_G} {kk : Nat → ClassId} {a a2 : Nat → Nat} {o : Nat} {sa : Nat → Nat} {g mm : Nat → Nat → Int} {f : Nat → Int64} {H : Heap} {locs : List Loc} {i : Int} {cells slots : Nat} {ls : Array Slot} {Q : State → Prop} (C0 : LCx p l s m meth c b L xs D kk a a2 o sa) (S0 : LSt s D kk a a2 o g mm f H locs) (hi : 0 ≤ i ∧ i + 7 ≤ (L : Int)) (hc : cells + 2 ≤ 1053 ∧ slots + 12 ≤ 13902) (hl : lv_has ls 7 [(0, .ref b), (1, .ref (a 0)), (2, .ref (a2 0)), (3, .ref o), (4, .int (iI i))]) (K : ∀ (g mm : Nat → Nat → Int) (f : Nat → Int64) (H : Heap) (locs : List Loc) (ls : Array Slot), LSt s D kk a a2 o g mm f H locs → lv_has ls 7 [(0, .ref b), (1, .ref (a 0)), (2, .ref (a2 0)), (3, .ref o), (4, .int (iI i))] → W p l e room_1 s m (#[Value.ref b] : Array Value) below meth c H locs (cells + 2) (slots + 12) Q (F0 m 1263 ls [])) : W p l e room_1 s m (#[Value.ref b] : Array Value) below meth c H locs cells slots Q (F0 m 557 ls []) := by
  obtain ⟨⟨hx, hb, hml, hown, hts, hX, hbl, hL⟩, ⟨hst, hK, hN, hT, hC⟩, ⟨hA, hA2, hO, hO2, hAB, hsa, hsa2, hso⟩⟩ := C0
  obtain ⟨hP, hW, hQ, hS, hR, hI, hMv⟩ := S0
  have hbA : ¬ (fun q : Nat => s.heap.size ≤ q) b := Nat.not_le.mpr hbl
  have CF : CallFix p m c cL_law 7 s (#[Value.ref b] : Array Value) wsL_law RL := ⟨hx, hb, hml, hown, hts⟩
  have hOA : ∀ q : Nat, oA a o q → s.heap.size ≤ q := fun q h => h.elim (fun ⟨k, hk, e9⟩ => by rw [e9]; exact hsa k hk) (fun e9 => by rw [e9]; exact hso)
  have hMA : ∀ q : Nat, aA 8 a2 q → s.heap.size ≤ q := fun q ⟨k, hk, e9⟩ => by rw [e9]; exact hsa2 k hk
  have hmo : ∀ j, j < 8 → ¬ oA a o (a2 j) := fun j hj z => z.elim (fun ⟨k, hk, e9⟩ => hAB k j hk hj e9.symm) (fun e9 => hO2 j hj e9)
  have hxm : ∀ j, j < 17 → ¬ aA 8 a2 (a j) := fun j hj ⟨k, hk, e9⟩ => hAB j k hj hk e9
  have hom : ¬ aA 8 a2 o := fun ⟨k, hk, e9⟩ => hO2 k hk e9.symm
  have hr1 := i32_r (xs (i + 1).toNat)
  refine lv_aload_n hx hb dL_law_557 rfl (lv_at hl 1 rfl) ?_
  refine lv_aload_n hx hb dL_law_558 rfl (lv_at hl 0 rfl) ?_
  refine lv_iload hx hb dL_law_559 (lv_at hl 4 rfl) ?_
  refine ri_iconst hx hb dL_law_561 ?_
  refine ri_iadd hx hb dL_law_562 ?_
  refine ri_sld hx hb hX hbl hbA hS (by omega) (by omega) dL_law_563 ?_
  refine lv_aload_n hx hb dL_law_564 rfl (lv_at hl 3 rfl) ?_
  generalize hq1 : (xs (i + 1).toNat).toInt = v_b at hr1 ⊢
  by_cases hok : 1 ≤ v_b ∧ v_b ≤ 3
  · skip
    refine ri_wi (v := 0) (PP := (fun H => va_P D vwCl (xW a kk (begG g v_b 5)) H ∧ va_P D vwCl (outW o kk (vp_updL f 0 (iI (begC g v_b 5)).toInt64)) H)) (vx_runSW (As := [.ref (a 0), .int (iI v_b), .ref o]) (rest := []) CF (kL_begin_ok l D a kk g sa o f hst v_b hA hO hI hr1 hok) (vx_cwSW 3 hts gL_law_L_begin rfl rfl rfl ⟨by decide +kernel, by decide +kernel, by decide +kernel⟩ ⟨(Nat.le_of_ble_eq_true rfl), (Nat.le_of_ble_eq_true rfl)⟩) ⟨Bl_pc lB_bl, fun U hU hW9 => ⟨rfl, lB_in hS hOA hT hP hW hK hN hC U hU hW9⟩⟩ rfl rfl hl.1 rfl (lv_room (Nat.le_of_ble_eq_true rfl)) dL_law_565 ⟨by show _ ≤ 1053; omega, by show _ ≤ 13902; omega⟩) hS hOA (fun H locs hB hk hS => ?_)
    obtain ⟨hP, hW⟩ := hB
    replace hQ : va_P D vwCl (mW a2 kk mm) H := hQ.un hk (m_un hmo)
    refine lv_istore (lv' := [(5, .int (iI 0)), (0, .ref b), (1, .ref (a 0)), (2, .ref (a2 0)), (3, .ref o), (4, .int (iI i))]) hx hb dL_law_568 hl (by decide) rfl (fun ls hl => ?_)
    refine lv_aload_n hx hb dL_law_570 rfl (lv_at hl 3 rfl) ?_
    refine lv_aload_n hx hb dL_law_571 rfl (lv_at hl 1 rfl) ?_
    refine lv_iload hx hb dL_law_572 (lv_at hl 5 rfl) ?_
    refine ri_iconst hx hb dL_law_574 ?_
    refine ri_iadd hx hb dL_law_575 ?_
    refine ri_sld hx hb hX hbl hbA hS (by omega) (by omega) dL_law_576 ?_
    refine ri_eq (y := v_b) hq1 ?_
    have hokm : 1 ≤ v_b ∧ v_b ≤ 3 := hok
    refine ri_wi (v := mbC (thG mm 0) v_b 5) (PP := (fun H => va_P D vwCl (mW a2 kk (mbG (thG mm 0) v_b 5)) H)) (ri_runV (b := a2 0) (As := [.int (iI v_b)]) (rest := []) CF (k_X4_begin_ok l D a2 kk mm v_b hA2 hMv hr1 hokm) gL_law_X4_begin f_X4_begin rfl (va_recv hK hQ (ci := 4) (q0 := 0) rfl rfl) ⟨rfl, rfl, (Nat.le_of_ble_eq_true rfl), (Nat.le_of_ble_eq_true rfl), by show _ ≤ 1053; omega, by show _ ≤ 13902; omega⟩ wB_bl (wB_in hQ hK hN) rfl hl.1 rfl (Nat.le_of_ble_eq_true rfl) dL_law_577) hS hMA (fun H locs hQ hk hS => ?_)
    replace hQ : va_P D vwCl (mW a2 kk (mbG (thG mm 0) v_b 5)) H := hQ
    replace hP : va_P D vwCl (xW a kk (begG g v_b 5)) H := hP.un hk (x_un2 hxm)
    replace hW : va_P D vwCl (outW o kk (vp_updL f 0 (iI (begC g v_b 5)).toInt64)) H := hW.un hk (o_un2 hom)
    refine lv_istore (lv' := [(6, .int (iI (mbC (thG mm 0) v_b 5))), (5, .int (iI 0)), (0, .ref b), (1, .ref (a 0)), (2, .ref (a2 0)), (3, .ref o), (4, .int (iI i))]) hx hb dL_law_580 hl (by decide) rfl (fun ls hl => ?_)
    refine lv_aload_n hx hb dL_law_582 rfl (lv_at hl 4 rfl) ?_
    refine ri_rd (ri_runV (b := a2 0) (As := []) (rest := []) CF (k_X4_thrown l D a2 kk (mbG (thG mm 0) v_b 5)) gL_law_X4_thrown f_X4_thrown rfl (va_recv hK hQ (ci := 4) (q0 := 0) rfl rfl) ⟨rfl, rfl, (Nat.le_of_ble_eq_true rfl), (Nat.le_of_ble_eq_true rfl), by show _ ≤ 1053; omega, by show _ ≤ 13902; omega⟩ wB_bl (wB_in hQ hK hN) rfl hl.1 rfl (Nat.le_of_ble_eq_true rfl) dL_law_583) ?_
    refine ri_eq (y := 0) (rfl) ?_
    refine lv_iload hx hb dL_law_586 (lv_at hl 1 rfl) ?_
    refine ri_icmp_eq (tgt := 593) hx hb (by omega) dL_law_588 (by decide) (fun _ => ?_) (fun z => absurd rfl z)
    refine lv_iload hx hb dL_law_593 (lv_at hl 1 rfl) ?_
    refine ri_if_ne (tgt := 610) hx hb (by omega) dL_law_595 (by decide) (fun z => absurd z (by omega)) (fun _ => ?_)
    refine lv_aload_n hx hb dL_law_598 rfl (lv_at hl 5 rfl) ?_
    refine ri_iconst hx hb dL_law_599 ?_
    refine va_lald hx hb hK hW 0 2 rfl rfl (iI_in (by decide) (by decide)) dL_law_600 ?_
    rw [show (vp_updL f 0 (iI (begC g v_b 5)).toInt64) (iI 0).toNatClampNeg = (iI (begC g v_b 5)).toInt64 from if_pos rfl, show begC g v_b 5 = mbC (thG mm 0) v_b 5 from (Rel_be (Rel_th hR 0) hok 5 (by decide)).2]
    refine lv_iload hx hb dL_law_601 (lv_at hl 0 rfl) ?_
    refine lv_i2l (v := (iI (mbC (thG mm 0) v_b 5)).toInt64) hx hb dL_law_603 rfl ?_
    refine W.lcmp hx hb dL_law_604 ?_
    rw [cmp_0]
    refine ri_if_eq (tgt := 610) hx hb (by omega) dL_law_605 (by decide) (fun _ => ?_) (fun z => absurd rfl z)
    refine lv_goto (tgt := 1263) hx hb dL_law_610 (by decide) ?_
    refine W.widen (k := cells + 2) (n := slots + 12) (by omega) (by omega) ?_
    exact K _ _ _ _ _ _ ⟨hP, hW, hQ, hS, (Rel_be (Rel_th hR 0) hok 5 (by decide)).1, XInv_be hI (by omega) 5 (by decide), MInv_mb (MInv_th hMv 0) hok 5 (by decide)⟩ (lv_sub hl [2, 3, 4, 5, 6] rfl)
  · skip
    refine ri_wi (v := 1) (PP := (fun H => va_P D vwCl (xW a kk g) H ∧ va_P D vwCl (outW o kk f) H)) (vx_runSW (As := [.ref (a 0), .int (iI v_b), .ref o]) (rest := []) CF (kL_begin_no l D a kk g sa o f hst v_b hA hO hI hr1 hok) (vx_cwSW 3 hts gL_law_L_begin rfl rfl rfl ⟨by decide +kernel, by decide +kernel, by decide +kernel⟩ ⟨(Nat.le_of_ble_eq_true rfl), (Nat.le_of_ble_eq_true rfl)⟩) ⟨Bl_pc lB_bl, fun U hU hW9 => ⟨rfl, lB_in hS hOA hT hP hW hK hN hC U hU hW9⟩⟩ rfl rfl hl.1 rfl (lv_room (Nat.le_of_ble_eq_true rfl)) dL_law_565 ⟨by show _ ≤ 1053; omega, by show _ ≤ 13902; omega⟩) hS hOA (fun H locs hB hk hS => ?_)
    obtain ⟨hP, hW⟩ := hB
    replace hQ : va_P D vwCl (mW a2 kk mm) H := hQ.un hk (m_un hmo)
    refine lv_istore (lv' := [(5, .int (iI 1)), (0, .ref b), (1, .ref (a 0)), (2, .ref (a2 0)), (3, .ref o), (4, .int (iI i))]) hx hb dL_law_568 hl (by decide) rfl (fun ls hl => ?_)
    refine lv_aload_n hx hb dL_law_570 rfl (lv_at hl 3 rfl) ?_
    refine lv_aload_n hx hb dL_law_571 rfl (lv_at hl 1 rfl) ?_
    refine lv_iload hx hb dL_law_572 (lv_at hl 5 rfl) ?_
    refine ri_iconst hx hb dL_law_574 ?_
    refine ri_iadd hx hb dL_law_575 ?_
    refine ri_sld hx hb hX hbl hbA hS (by omega) (by omega) dL_law_576 ?_
    refine ri_eq (y := v_b) hq1 ?_
    refine ri_wi (v := 0) (PP := (fun H => va_P D vwCl (mW a2 kk (thG mm 1)) H)) (ri_runV (b := a2 0) (As := [.int (iI v_b)]) (rest := []) CF (k_X4_begin_no l D a2 kk mm v_b hA2 hMv hr1 hok) gL_law_X4_begin f_X4_begin rfl (va_recv hK hQ (ci := 4) (q0 := 0) rfl rfl) ⟨rfl, rfl, (Nat.le_of_ble_eq_true rfl), (Nat.le_of_ble_eq_true rfl), by show _ ≤ 1053; omega, by show _ ≤ 13902; omega⟩ wB_bl (wB_in hQ hK hN) rfl hl.1 rfl (Nat.le_of_ble_eq_true rfl) dL_law_577) hS hMA (fun H locs hQ hk hS => ?_)
    replace hQ : va_P D vwCl (mW a2 kk (thG mm 1)) H := hQ
    replace hP : va_P D vwCl (xW a kk (g)) H := hP.un hk (x_un2 hxm)
    replace hW : va_P D vwCl (outW o kk (f)) H := hW.un hk (o_un2 hom)
    refine lv_istore (lv' := [(6, .int (iI 0)), (5, .int (iI 1)), (0, .ref b), (1, .ref (a 0)), (2, .ref (a2 0)), (3, .ref o), (4, .int (iI i))]) hx hb dL_law_580 hl (by decide) rfl (fun ls hl => ?_)
    refine lv_aload_n hx hb dL_law_582 rfl (lv_at hl 4 rfl) ?_
    refine ri_rd (ri_runV (b := a2 0) (As := []) (rest := []) CF (k_X4_thrown l D a2 kk (thG mm 1)) gL_law_X4_thrown f_X4_thrown rfl (va_recv hK hQ (ci := 4) (q0 := 0) rfl rfl) ⟨rfl, rfl, (Nat.le_of_ble_eq_true rfl), (Nat.le_of_ble_eq_true rfl), by show _ ≤ 1053; omega, by show _ ≤ 13902; omega⟩ wB_bl (wB_in hQ hK hN) rfl hl.1 rfl (Nat.le_of_ble_eq_true rfl) dL_law_583) ?_
    refine ri_eq (y := 1) (rfl) ?_
    refine lv_iload hx hb dL_law_586 (lv_at hl 1 rfl) ?_
    refine ri_icmp_eq (tgt := 593) hx hb (by omega) dL_law_588 (by decide) (fun _ => ?_) (fun z => absurd rfl z)
    refine lv_iload hx hb dL_law_593 (lv_at hl 1 rfl) ?_
    refine ri_if_ne (tgt := 610) hx hb (by omega) dL_law_595 (by decide) (fun _ => ?_) (fun z => absurd z (by omega))
    refine lv_goto (tgt := 1263) hx hb dL_law_610 (by decide) ?_
    refine W.widen (k := cells + 2) (n := slots + 12) (by omega) (by omega) ?_
    exact K _ _ _ _ _ _ ⟨hP, hW, hQ, hS, Rel_th hR _, hI, MInv_th hMv _⟩ (lv_sub hl [2, 3, 4, 5, 6] rfl)

set_option maxHeartbeats 4000000 in
set_option maxRecDepth 100000 in
theorem lc_join {p : Program} {l : Launch} {e : Env} {s : State} {m : MethodId} {below : List Frame} {meth : Method} {c : Code} {b L : Nat} {xs : Nat → Int32} {D : va_G} {kk : Nat → ClassId} {a a2 : Nat → Nat} {o : Nat} {sa : Nat → Nat} {g mm : Nat → Nat → Int} {f : Nat → Int64} {H : Heap} {locs : List Loc} {i : Int} {cells slots : Nat} {ls : Array Slot} {Q : State → Prop} (C0 : LCx p l s m meth c b L xs D kk a a2 o sa) (S0 : LSt s D kk a a2 o g mm f H locs) (hi : 0 ≤ i ∧ i + 7 ≤ (L : Int)) (hc : cells + 2 ≤ 1053 ∧ slots + 12 ≤ 13902) (hl : lv_has ls 7 [(0, .ref b), (1, .ref (a 0)), (2, .ref (a2 0)), (3, .ref o), (4, .int (iI i))]) (K : ∀ (g mm : Nat → Nat → Int) (f : Nat → Int64) (H : Heap) (locs : List Loc) (ls : Array Slot), LSt s D kk a a2 o g mm f H locs → lv_has ls 7 [(0, .ref b), (1, .ref (a 0)), (2, .ref (a2 0)), (3, .ref o), (4, .int (iI i))] → W p l e room_1 s m (#[Value.ref b] : Array Value) below meth c H locs (cells + 2) (slots + 12) Q (F0 m 1263 ls [])) : W p l e room_1 s m (#[Value.ref b] : Array Value) below meth c H locs cells slots Q (F0 m 613 ls []) := by
  obtain ⟨⟨hx, hb, hml, hown, hts, hX, hbl, hL⟩, ⟨hst, hK, hN, hT, hC⟩, ⟨hA, hA2, hO, hO2, hAB, hsa, hsa2, hso⟩⟩ := C0
  obtain ⟨hP, hW, hQ, hS, hR, hI, hMv⟩ := S0
  have hbA : ¬ (fun q : Nat => s.heap.size ≤ q) b := Nat.not_le.mpr hbl
  have CF : CallFix p m c cL_law 7 s (#[Value.ref b] : Array Value) wsL_law RL := ⟨hx, hb, hml, hown, hts⟩
  have hOA : ∀ q : Nat, oA a o q → s.heap.size ≤ q := fun q h => h.elim (fun ⟨k, hk, e9⟩ => by rw [e9]; exact hsa k hk) (fun e9 => by rw [e9]; exact hso)
  have hMA : ∀ q : Nat, aA 8 a2 q → s.heap.size ≤ q := fun q ⟨k, hk, e9⟩ => by rw [e9]; exact hsa2 k hk
  have hmo : ∀ j, j < 8 → ¬ oA a o (a2 j) := fun j hj z => z.elim (fun ⟨k, hk, e9⟩ => hAB k j hk hj e9.symm) (fun e9 => hO2 j hj e9)
  have hxm : ∀ j, j < 17 → ¬ aA 8 a2 (a j) := fun j hj ⟨k, hk, e9⟩ => hAB j k hj hk e9
  have hom : ¬ aA 8 a2 o := fun ⟨k, hk, e9⟩ => hO2 k hk e9.symm
  have hr1 := i32_r (xs (i + 1).toNat)
  refine lv_aload_n hx hb dL_law_613 rfl (lv_at hl 1 rfl) ?_
  refine lv_aload_n hx hb dL_law_614 rfl (lv_at hl 0 rfl) ?_
  refine lv_iload hx hb dL_law_615 (lv_at hl 4 rfl) ?_
  refine ri_iconst hx hb dL_law_617 ?_
  refine ri_iadd hx hb dL_law_618 ?_
  refine ri_sld hx hb hX hbl hbA hS (by omega) (by omega) dL_law_619 ?_
  refine lv_aload_n hx hb dL_law_620 rfl (lv_at hl 3 rfl) ?_
  generalize hq1 : (xs (i + 1).toNat).toInt = v_b at hr1 ⊢
  by_cases hok : 1 ≤ v_b ∧ v_b ≤ 3
  · skip
    refine ri_wi (v := 0) (PP := (fun H => va_P D vwCl (xW a kk (joiG g v_b 5)) H ∧ va_P D vwCl (outW o kk (vp_updL f 0 (iI (joiC g v_b 5)).toInt64)) H)) (vx_runSW (As := [.ref (a 0), .int (iI v_b), .ref o]) (rest := []) CF (kL_join_ok l D a kk g sa o f hst v_b hA hO hI hr1 hok) (vx_cwSW 3 hts gL_law_L_join rfl rfl rfl ⟨by decide +kernel, by decide +kernel, by decide +kernel⟩ ⟨(Nat.le_of_ble_eq_true rfl), (Nat.le_of_ble_eq_true rfl)⟩) ⟨Bl_pc lB_bl, fun U hU hW9 => ⟨rfl, lB_in hS hOA hT hP hW hK hN hC U hU hW9⟩⟩ rfl rfl hl.1 rfl (lv_room (Nat.le_of_ble_eq_true rfl)) dL_law_621 ⟨by show _ ≤ 1053; omega, by show _ ≤ 13902; omega⟩) hS hOA (fun H locs hB hk hS => ?_)
    obtain ⟨hP, hW⟩ := hB
    replace hQ : va_P D vwCl (mW a2 kk mm) H := hQ.un hk (m_un hmo)
    refine lv_istore (lv' := [(5, .int (iI 0)), (0, .ref b), (1, .ref (a 0)), (2, .ref (a2 0)), (3, .ref o), (4, .int (iI i))]) hx hb dL_law_624 hl (by decide) rfl (fun ls hl => ?_)
    refine lv_aload_n hx hb dL_law_626 rfl (lv_at hl 3 rfl) ?_
    refine lv_aload_n hx hb dL_law_627 rfl (lv_at hl 1 rfl) ?_
    refine lv_iload hx hb dL_law_628 (lv_at hl 5 rfl) ?_
    refine ri_iconst hx hb dL_law_630 ?_
    refine ri_iadd hx hb dL_law_631 ?_
    refine ri_sld hx hb hX hbl hbA hS (by omega) (by omega) dL_law_632 ?_
    refine ri_eq (y := v_b) hq1 ?_
    have hokm : 1 ≤ v_b ∧ v_b ≤ 3 := hok
    refine ri_wi (v := mjC (thG mm 0) v_b 5) (PP := (fun H => va_P D vwCl (mW a2 kk (mjG (thG mm 0) v_b 5)) H)) (ri_runV (b := a2 0) (As := [.int (iI v_b)]) (rest := []) CF (k_X4_join_ok l D a2 kk mm v_b hA2 hMv hr1 hokm) gL_law_X4_join f_X4_join rfl (va_recv hK hQ (ci := 4) (q0 := 0) rfl rfl) ⟨rfl, rfl, (Nat.le_of_ble_eq_true rfl), (Nat.le_of_ble_eq_true rfl), by show _ ≤ 1053; omega, by show _ ≤ 13902; omega⟩ wB_bl (wB_in hQ hK hN) rfl hl.1 rfl (Nat.le_of_ble_eq_true rfl) dL_law_633) hS hMA (fun H locs hQ hk hS => ?_)
    replace hQ : va_P D vwCl (mW a2 kk (mjG (thG mm 0) v_b 5)) H := hQ
    replace hP : va_P D vwCl (xW a kk (joiG g v_b 5)) H := hP.un hk (x_un2 hxm)
    replace hW : va_P D vwCl (outW o kk (vp_updL f 0 (iI (joiC g v_b 5)).toInt64)) H := hW.un hk (o_un2 hom)
    refine lv_istore (lv' := [(6, .int (iI (mjC (thG mm 0) v_b 5))), (5, .int (iI 0)), (0, .ref b), (1, .ref (a 0)), (2, .ref (a2 0)), (3, .ref o), (4, .int (iI i))]) hx hb dL_law_636 hl (by decide) rfl (fun ls hl => ?_)
    refine lv_aload_n hx hb dL_law_638 rfl (lv_at hl 4 rfl) ?_
    refine ri_rd (ri_runV (b := a2 0) (As := []) (rest := []) CF (k_X4_thrown l D a2 kk (mjG (thG mm 0) v_b 5)) gL_law_X4_thrown f_X4_thrown rfl (va_recv hK hQ (ci := 4) (q0 := 0) rfl rfl) ⟨rfl, rfl, (Nat.le_of_ble_eq_true rfl), (Nat.le_of_ble_eq_true rfl), by show _ ≤ 1053; omega, by show _ ≤ 13902; omega⟩ wB_bl (wB_in hQ hK hN) rfl hl.1 rfl (Nat.le_of_ble_eq_true rfl) dL_law_639) ?_
    refine ri_eq (y := 0) (congrFun (mj_00 _ _ _) 0) ?_
    refine lv_iload hx hb dL_law_642 (lv_at hl 1 rfl) ?_
    refine ri_icmp_eq (tgt := 649) hx hb (by omega) dL_law_644 (by decide) (fun _ => ?_) (fun z => absurd rfl z)
    refine lv_iload hx hb dL_law_649 (lv_at hl 1 rfl) ?_
    refine ri_if_ne (tgt := 666) hx hb (by omega) dL_law_651 (by decide) (fun z => absurd z (by omega)) (fun _ => ?_)
    refine lv_aload_n hx hb dL_law_654 rfl (lv_at hl 5 rfl) ?_
    refine ri_iconst hx hb dL_law_655 ?_
    refine va_lald hx hb hK hW 0 2 rfl rfl (iI_in (by decide) (by decide)) dL_law_656 ?_
    rw [show (vp_updL f 0 (iI (joiC g v_b 5)).toInt64) (iI 0).toNatClampNeg = (iI (joiC g v_b 5)).toInt64 from if_pos rfl, show joiC g v_b 5 = mjC (thG mm 0) v_b 5 from (Rel_jo (Rel_th hR 0) (MInv_th hMv 0) hok 5 (by decide)).2]
    refine lv_iload hx hb dL_law_657 (lv_at hl 0 rfl) ?_
    refine lv_i2l (v := (iI (mjC (thG mm 0) v_b 5)).toInt64) hx hb dL_law_659 rfl ?_
    refine W.lcmp hx hb dL_law_660 ?_
    rw [cmp_0]
    refine ri_if_eq (tgt := 666) hx hb (by omega) dL_law_661 (by decide) (fun _ => ?_) (fun z => absurd rfl z)
    refine lv_goto (tgt := 1263) hx hb dL_law_666 (by decide) ?_
    refine W.widen (k := cells + 2) (n := slots + 12) (by omega) (by omega) ?_
    exact K _ _ _ _ _ _ ⟨hP, hW, hQ, hS, (Rel_jo (Rel_th hR 0) (MInv_th hMv 0) hok 5 (by decide)).1, XInv_jo hI (by omega) 5 (by decide), MInv_mj (MInv_th hMv 0) hok 5 (by decide)⟩ (lv_sub hl [2, 3, 4, 5, 6] rfl)
  · skip
    refine ri_wi (v := 1) (PP := (fun H => va_P D vwCl (xW a kk g) H ∧ va_P D vwCl (outW o kk f) H)) (vx_runSW (As := [.ref (a 0), .int (iI v_b), .ref o]) (rest := []) CF (kL_join_no l D a kk g sa o f hst v_b hA hO hI hr1 hok) (vx_cwSW 3 hts gL_law_L_join rfl rfl rfl ⟨by decide +kernel, by decide +kernel, by decide +kernel⟩ ⟨(Nat.le_of_ble_eq_true rfl), (Nat.le_of_ble_eq_true rfl)⟩) ⟨Bl_pc lB_bl, fun U hU hW9 => ⟨rfl, lB_in hS hOA hT hP hW hK hN hC U hU hW9⟩⟩ rfl rfl hl.1 rfl (lv_room (Nat.le_of_ble_eq_true rfl)) dL_law_621 ⟨by show _ ≤ 1053; omega, by show _ ≤ 13902; omega⟩) hS hOA (fun H locs hB hk hS => ?_)
    obtain ⟨hP, hW⟩ := hB
    replace hQ : va_P D vwCl (mW a2 kk mm) H := hQ.un hk (m_un hmo)
    refine lv_istore (lv' := [(5, .int (iI 1)), (0, .ref b), (1, .ref (a 0)), (2, .ref (a2 0)), (3, .ref o), (4, .int (iI i))]) hx hb dL_law_624 hl (by decide) rfl (fun ls hl => ?_)
    refine lv_aload_n hx hb dL_law_626 rfl (lv_at hl 3 rfl) ?_
    refine lv_aload_n hx hb dL_law_627 rfl (lv_at hl 1 rfl) ?_
    refine lv_iload hx hb dL_law_628 (lv_at hl 5 rfl) ?_
    refine ri_iconst hx hb dL_law_630 ?_
    refine ri_iadd hx hb dL_law_631 ?_
    refine ri_sld hx hb hX hbl hbA hS (by omega) (by omega) dL_law_632 ?_
    refine ri_eq (y := v_b) hq1 ?_
    refine ri_wi (v := 0) (PP := (fun H => va_P D vwCl (mW a2 kk (thG mm 1)) H)) (ri_runV (b := a2 0) (As := [.int (iI v_b)]) (rest := []) CF (k_X4_join_no l D a2 kk mm v_b hA2 hMv hr1 hok) gL_law_X4_join f_X4_join rfl (va_recv hK hQ (ci := 4) (q0 := 0) rfl rfl) ⟨rfl, rfl, (Nat.le_of_ble_eq_true rfl), (Nat.le_of_ble_eq_true rfl), by show _ ≤ 1053; omega, by show _ ≤ 13902; omega⟩ wB_bl (wB_in hQ hK hN) rfl hl.1 rfl (Nat.le_of_ble_eq_true rfl) dL_law_633) hS hMA (fun H locs hQ hk hS => ?_)
    replace hQ : va_P D vwCl (mW a2 kk (thG mm 1)) H := hQ
    replace hP : va_P D vwCl (xW a kk (g)) H := hP.un hk (x_un2 hxm)
    replace hW : va_P D vwCl (outW o kk (f)) H := hW.un hk (o_un2 hom)
    refine lv_istore (lv' := [(6, .int (iI 0)), (5, .int (iI 1)), (0, .ref b), (1, .ref (a 0)), (2, .ref (a2 0)), (3, .ref o), (4, .int (iI i))]) hx hb dL_law_636 hl (by decide) rfl (fun ls hl => ?_)
    refine lv_aload_n hx hb dL_law_638 rfl (lv_at hl 4 rfl) ?_
    refine ri_rd (ri_runV (b := a2 0) (As := []) (rest := []) CF (k_X4_thrown l D a2 kk (thG mm 1)) gL_law_X4_thrown f_X4_thrown rfl (va_recv hK hQ (ci := 4) (q0 := 0) rfl rfl) ⟨rfl, rfl, (Nat.le_of_ble_eq_true rfl), (Nat.le_of_ble_eq_true rfl), by show _ ≤ 1053; omega, by show _ ≤ 13902; omega⟩ wB_bl (wB_in hQ hK hN) rfl hl.1 rfl (Nat.le_of_ble_eq_true rfl) dL_law_639) ?_
    refine ri_eq (y := 1) (rfl) ?_
    refine lv_iload hx hb dL_law_642 (lv_at hl 1 rfl) ?_
    refine ri_icmp_eq (tgt := 649) hx hb (by omega) dL_law_644 (by decide) (fun _ => ?_) (fun z => absurd rfl z)
    refine lv_iload hx hb dL_law_649 (lv_at hl 1 rfl) ?_
    refine ri_if_ne (tgt := 666) hx hb (by omega) dL_law_651 (by decide) (fun _ => ?_) (fun z => absurd z (by omega))
    refine lv_goto (tgt := 1263) hx hb dL_law_666 (by decide) ?_
    refine W.widen (k := cells + 2) (n := slots + 12) (by omega) (by omega) ?_
    exact K _ _ _ _ _ _ ⟨hP, hW, hQ, hS, Rel_th hR _, hI, MInv_th hMv _⟩ (lv_sub hl [2, 3, 4, 5, 6] rfl)

set_option maxHeartbeats 4000000 in
set_option maxRecDepth 100000 in
theorem lc_isApproved {p : Program} {l : Launch} {e : Env} {s : State} {m : MethodId} {below : List Frame} {meth : Method} {c : Code} {b L : Nat} {xs : Nat → Int32} {D : va_G} {kk : Nat → ClassId} {a a2 : Nat → Nat} {o : Nat} {sa : Nat → Nat} {g mm : Nat → Nat → Int} {f : Nat → Int64} {H : Heap} {locs : List Loc} {i : Int} {cells slots : Nat} {ls : Array Slot} {Q : State → Prop} (C0 : LCx p l s m meth c b L xs D kk a a2 o sa) (S0 : LSt s D kk a a2 o g mm f H locs) (hi : 0 ≤ i ∧ i + 7 ≤ (L : Int)) (hc : cells + 2 ≤ 1053 ∧ slots + 12 ≤ 13902) (hl : lv_has ls 7 [(0, .ref b), (1, .ref (a 0)), (2, .ref (a2 0)), (3, .ref o), (4, .int (iI i))]) (K : ∀ (g mm : Nat → Nat → Int) (f : Nat → Int64) (H : Heap) (locs : List Loc) (ls : Array Slot), LSt s D kk a a2 o g mm f H locs → lv_has ls 7 [(0, .ref b), (1, .ref (a 0)), (2, .ref (a2 0)), (3, .ref o), (4, .int (iI i))] → W p l e room_1 s m (#[Value.ref b] : Array Value) below meth c H locs (cells + 2) (slots + 12) Q (F0 m 1263 ls [])) : W p l e room_1 s m (#[Value.ref b] : Array Value) below meth c H locs cells slots Q (F0 m 669 ls []) := by
  obtain ⟨⟨hx, hb, hml, hown, hts, hX, hbl, hL⟩, ⟨hst, hK, hN, hT, hC⟩, ⟨hA, hA2, hO, hO2, hAB, hsa, hsa2, hso⟩⟩ := C0
  obtain ⟨hP, hW, hQ, hS, hR, hI, hMv⟩ := S0
  have hbA : ¬ (fun q : Nat => s.heap.size ≤ q) b := Nat.not_le.mpr hbl
  have CF : CallFix p m c cL_law 7 s (#[Value.ref b] : Array Value) wsL_law RL := ⟨hx, hb, hml, hown, hts⟩
  have hOA : ∀ q : Nat, oA a o q → s.heap.size ≤ q := fun q h => h.elim (fun ⟨k, hk, e9⟩ => by rw [e9]; exact hsa k hk) (fun e9 => by rw [e9]; exact hso)
  have hMA : ∀ q : Nat, aA 8 a2 q → s.heap.size ≤ q := fun q ⟨k, hk, e9⟩ => by rw [e9]; exact hsa2 k hk
  have hmo : ∀ j, j < 8 → ¬ oA a o (a2 j) := fun j hj z => z.elim (fun ⟨k, hk, e9⟩ => hAB k j hk hj e9.symm) (fun e9 => hO2 j hj e9)
  have hxm : ∀ j, j < 17 → ¬ aA 8 a2 (a j) := fun j hj ⟨k, hk, e9⟩ => hAB j k hj hk e9
  have hom : ¬ aA 8 a2 o := fun ⟨k, hk, e9⟩ => hO2 k hk e9.symm
  have hr1 := i32_r (xs (i + 1).toNat)
  have hr2 := i32_r (xs (i + 2).toNat)
  refine lv_aload_n hx hb dL_law_669 rfl (lv_at hl 1 rfl) ?_
  refine lv_aload_n hx hb dL_law_670 rfl (lv_at hl 0 rfl) ?_
  refine lv_iload hx hb dL_law_671 (lv_at hl 4 rfl) ?_
  refine ri_iconst hx hb dL_law_673 ?_
  refine ri_iadd hx hb dL_law_674 ?_
  refine ri_sld hx hb hX hbl hbA hS (by omega) (by omega) dL_law_675 ?_
  refine lv_aload_n hx hb dL_law_676 rfl (lv_at hl 0 rfl) ?_
  refine lv_iload hx hb dL_law_677 (lv_at hl 4 rfl) ?_
  refine ri_iconst hx hb dL_law_679 ?_
  refine ri_iadd hx hb dL_law_680 ?_
  refine ri_sld hx hb hX hbl hbA hS (by omega) (by omega) dL_law_681 ?_
  refine lv_aload_n hx hb dL_law_682 rfl (lv_at hl 3 rfl) ?_
  generalize hq1 : (xs (i + 1).toNat).toInt = v_b at hr1 ⊢
  generalize hq2 : (xs (i + 2).toNat).toInt = v_t at hr2 ⊢
  by_cases hok : (0 ≤ v_b ∧ v_b ≤ 3) ∧ (0 ≤ v_t ∧ v_t ≤ 4)
  · skip
    refine ri_wi (v := 0) (PP := (fun H => va_P D vwCl (xW a kk (g)) H ∧ va_P D vwCl (outW o kk (vp_updL f 0 (iI (bp (g 3 (5 + v_b * 5 + v_t).toNat = 1))).toInt64)) H)) (vx_runSW (As := [.ref (a 0), .int (iI v_b), .int (iI v_t), .ref o]) (rest := []) CF (kL_isApproved_ok l D a kk g sa o f hst v_b v_t hA hO hI hr1 hr2 hok) (vx_cwSW 4 hts gL_law_L_isApproved rfl rfl rfl ⟨by decide +kernel, by decide +kernel, by decide +kernel⟩ ⟨(Nat.le_of_ble_eq_true rfl), (Nat.le_of_ble_eq_true rfl)⟩) ⟨Bl_pc lB_bl, fun U hU hW9 => ⟨rfl, lB_in hS hOA hT hP hW hK hN hC U hU hW9⟩⟩ rfl rfl hl.1 rfl (lv_room (Nat.le_of_ble_eq_true rfl)) dL_law_683 ⟨by show _ ≤ 1053; omega, by show _ ≤ 13902; omega⟩) hS hOA (fun H locs hB hk hS => ?_)
    obtain ⟨hP, hW⟩ := hB
    replace hQ : va_P D vwCl (mW a2 kk mm) H := hQ.un hk (m_un hmo)
    refine lv_istore (lv' := [(5, .int (iI 0)), (0, .ref b), (1, .ref (a 0)), (2, .ref (a2 0)), (3, .ref o), (4, .int (iI i))]) hx hb dL_law_686 hl (by decide) rfl (fun ls hl => ?_)
    refine lv_aload_n hx hb dL_law_688 rfl (lv_at hl 3 rfl) ?_
    refine lv_aload_n hx hb dL_law_689 rfl (lv_at hl 1 rfl) ?_
    refine lv_iload hx hb dL_law_690 (lv_at hl 5 rfl) ?_
    refine ri_iconst hx hb dL_law_692 ?_
    refine ri_iadd hx hb dL_law_693 ?_
    refine ri_sld hx hb hX hbl hbA hS (by omega) (by omega) dL_law_694 ?_
    refine ri_eq (y := v_b) hq1 ?_
    refine lv_aload_n hx hb dL_law_695 rfl (lv_at hl 1 rfl) ?_
    refine lv_iload hx hb dL_law_696 (lv_at hl 5 rfl) ?_
    refine ri_iconst hx hb dL_law_698 ?_
    refine ri_iadd hx hb dL_law_699 ?_
    refine ri_sld hx hb hX hbl hbA hS (by omega) (by omega) dL_law_700 ?_
    refine ri_eq (y := v_t) hq2 ?_
    have hokm : (0 ≤ v_b ∧ v_b ≤ 3) ∧ (0 ≤ v_t ∧ v_t ≤ 4) := hok
    refine ri_wi (v := bp (mm 3 (5 * v_b + v_t).toNat = 1)) (PP := (fun H => va_P D vwCl (mW a2 kk (thG mm 0)) H)) (ri_runV (b := a2 0) (As := [.int (iI v_b), .int (iI v_t)]) (rest := []) CF (k_X4_isApproved_ok l D a2 kk mm v_b v_t hA2 hMv hr1 hr2 hokm) gL_law_X4_isApproved f_X4_isApproved rfl (va_recv hK hQ (ci := 4) (q0 := 0) rfl rfl) ⟨rfl, rfl, (Nat.le_of_ble_eq_true rfl), (Nat.le_of_ble_eq_true rfl), by show _ ≤ 1053; omega, by show _ ≤ 13902; omega⟩ wB_bl (wB_in hQ hK hN) rfl hl.1 rfl (Nat.le_of_ble_eq_true rfl) dL_law_701) hS hMA (fun H locs hQ hk hS => ?_)
    replace hQ : va_P D vwCl (mW a2 kk (thG mm 0)) H := hQ
    replace hP : va_P D vwCl (xW a kk (g)) H := hP.un hk (x_un2 hxm)
    replace hW : va_P D vwCl (outW o kk (vp_updL f 0 (iI (bp (g 3 (5 + v_b * 5 + v_t).toNat = 1))).toInt64)) H := hW.un hk (o_un2 hom)
    refine lv_istore (lv' := [(6, .int (iI (bp (mm 3 (5 * v_b + v_t).toNat = 1)))), (5, .int (iI 0)), (0, .ref b), (1, .ref (a 0)), (2, .ref (a2 0)), (3, .ref o), (4, .int (iI i))]) hx hb dL_law_704 hl (by decide) rfl (fun ls hl => ?_)
    refine lv_aload_n hx hb dL_law_706 rfl (lv_at hl 4 rfl) ?_
    refine ri_rd (ri_runV (b := a2 0) (As := []) (rest := []) CF (k_X4_thrown l D a2 kk (thG mm 0)) gL_law_X4_thrown f_X4_thrown rfl (va_recv hK hQ (ci := 4) (q0 := 0) rfl rfl) ⟨rfl, rfl, (Nat.le_of_ble_eq_true rfl), (Nat.le_of_ble_eq_true rfl), by show _ ≤ 1053; omega, by show _ ≤ 13902; omega⟩ wB_bl (wB_in hQ hK hN) rfl hl.1 rfl (Nat.le_of_ble_eq_true rfl) dL_law_707) ?_
    refine ri_eq (y := 0) (rfl) ?_
    refine lv_iload hx hb dL_law_710 (lv_at hl 1 rfl) ?_
    refine ri_icmp_eq (tgt := 717) hx hb (by omega) dL_law_712 (by decide) (fun _ => ?_) (fun z => absurd rfl z)
    refine lv_iload hx hb dL_law_717 (lv_at hl 1 rfl) ?_
    refine ri_if_ne (tgt := 741) hx hb (by omega) dL_law_719 (by decide) (fun z => absurd z (by omega)) (fun _ => ?_)
    refine lv_aload_n hx hb dL_law_722 rfl (lv_at hl 5 rfl) ?_
    refine ri_iconst hx hb dL_law_723 ?_
    refine va_lald hx hb hK hW 0 2 rfl rfl (iI_in (by decide) (by decide)) dL_law_724 ?_
    rw [show (vp_updL f 0 (iI (bp (g 3 (5 + v_b * 5 + v_t).toNat = 1))).toInt64) (iI 0).toNatClampNeg = (iI (bp (g 3 (5 + v_b * 5 + v_t).toNat = 1))).toInt64 from if_pos rfl, show bp (g 3 (5 + v_b * 5 + v_t).toNat = 1) = bp (mm 3 (5 * v_b + v_t).toNat = 1) from by rw [Rel_hd hR hok.1 hok.2]]
    refine lv_iload hx hb dL_law_725 (lv_at hl 0 rfl) ?_
    refine ri_ifeq_b (tgt := 734) hx hb dL_law_727 (by decide) (fun hz => ?_) (fun hz => ?_)
    · rw [bp_f hz, show (iI 0).toInt64 = 0 from rfl]
      refine lv_lconst (v := 0) hx hb dL_law_734 rfl ?_
      refine W.lcmp hx hb dL_law_735 ?_
      rw [cmp_0]
      refine ri_if_eq (tgt := 741) hx hb (by omega) dL_law_736 (by decide) (fun _ => ?_) (fun z => absurd rfl z)
      refine lv_goto (tgt := 1263) hx hb dL_law_741 (by decide) ?_
      refine W.widen (k := cells + 2) (n := slots + 12) (by omega) (by omega) ?_
      exact K _ _ _ _ _ _ ⟨hP, hW, hQ, hS, hR, hI, hMv⟩ (lv_sub hl [2, 3, 4, 5, 6] rfl)
    · rw [bp_t hz, show (iI 1).toInt64 = 1 from rfl]
      refine lv_lconst (v := 1) hx hb dL_law_730 rfl ?_
      refine lv_goto (tgt := 735) hx hb dL_law_731 (by decide) ?_
      refine W.lcmp hx hb dL_law_735 ?_
      rw [cmp_0]
      refine ri_if_eq (tgt := 741) hx hb (by omega) dL_law_736 (by decide) (fun _ => ?_) (fun z => absurd rfl z)
      refine lv_goto (tgt := 1263) hx hb dL_law_741 (by decide) ?_
      refine W.widen (k := cells + 2) (n := slots + 12) (by omega) (by omega) ?_
      exact K _ _ _ _ _ _ ⟨hP, hW, hQ, hS, hR, hI, hMv⟩ (lv_sub hl [2, 3, 4, 5, 6] rfl)
  · skip
    refine ri_wi (v := 1) (PP := (fun H => va_P D vwCl (xW a kk g) H ∧ va_P D vwCl (outW o kk f) H)) (vx_runSW (As := [.ref (a 0), .int (iI v_b), .int (iI v_t), .ref o]) (rest := []) CF (kL_isApproved_no l D a kk g sa o f hst v_b v_t hA hO hI hr1 hr2 hok) (vx_cwSW 4 hts gL_law_L_isApproved rfl rfl rfl ⟨by decide +kernel, by decide +kernel, by decide +kernel⟩ ⟨(Nat.le_of_ble_eq_true rfl), (Nat.le_of_ble_eq_true rfl)⟩) ⟨Bl_pc lB_bl, fun U hU hW9 => ⟨rfl, lB_in hS hOA hT hP hW hK hN hC U hU hW9⟩⟩ rfl rfl hl.1 rfl (lv_room (Nat.le_of_ble_eq_true rfl)) dL_law_683 ⟨by show _ ≤ 1053; omega, by show _ ≤ 13902; omega⟩) hS hOA (fun H locs hB hk hS => ?_)
    obtain ⟨hP, hW⟩ := hB
    replace hQ : va_P D vwCl (mW a2 kk mm) H := hQ.un hk (m_un hmo)
    refine lv_istore (lv' := [(5, .int (iI 1)), (0, .ref b), (1, .ref (a 0)), (2, .ref (a2 0)), (3, .ref o), (4, .int (iI i))]) hx hb dL_law_686 hl (by decide) rfl (fun ls hl => ?_)
    refine lv_aload_n hx hb dL_law_688 rfl (lv_at hl 3 rfl) ?_
    refine lv_aload_n hx hb dL_law_689 rfl (lv_at hl 1 rfl) ?_
    refine lv_iload hx hb dL_law_690 (lv_at hl 5 rfl) ?_
    refine ri_iconst hx hb dL_law_692 ?_
    refine ri_iadd hx hb dL_law_693 ?_
    refine ri_sld hx hb hX hbl hbA hS (by omega) (by omega) dL_law_694 ?_
    refine ri_eq (y := v_b) hq1 ?_
    refine lv_aload_n hx hb dL_law_695 rfl (lv_at hl 1 rfl) ?_
    refine lv_iload hx hb dL_law_696 (lv_at hl 5 rfl) ?_
    refine ri_iconst hx hb dL_law_698 ?_
    refine ri_iadd hx hb dL_law_699 ?_
    refine ri_sld hx hb hX hbl hbA hS (by omega) (by omega) dL_law_700 ?_
    refine ri_eq (y := v_t) hq2 ?_
    refine ri_wi (v := 0) (PP := (fun H => va_P D vwCl (mW a2 kk (thG mm 1)) H)) (ri_runV (b := a2 0) (As := [.int (iI v_b), .int (iI v_t)]) (rest := []) CF (k_X4_isApproved_no l D a2 kk mm v_b v_t hA2 hMv hr1 hr2 hok) gL_law_X4_isApproved f_X4_isApproved rfl (va_recv hK hQ (ci := 4) (q0 := 0) rfl rfl) ⟨rfl, rfl, (Nat.le_of_ble_eq_true rfl), (Nat.le_of_ble_eq_true rfl), by show _ ≤ 1053; omega, by show _ ≤ 13902; omega⟩ wB_bl (wB_in hQ hK hN) rfl hl.1 rfl (Nat.le_of_ble_eq_true rfl) dL_law_701) hS hMA (fun H locs hQ hk hS => ?_)
    replace hQ : va_P D vwCl (mW a2 kk (thG mm 1)) H := hQ
    replace hP : va_P D vwCl (xW a kk (g)) H := hP.un hk (x_un2 hxm)
    replace hW : va_P D vwCl (outW o kk (f)) H := hW.un hk (o_un2 hom)
    refine lv_istore (lv' := [(6, .int (iI 0)), (5, .int (iI 1)), (0, .ref b), (1, .ref (a 0)), (2, .ref (a2 0)), (3, .ref o), (4, .int (iI i))]) hx hb dL_law_704 hl (by decide) rfl (fun ls hl => ?_)
    refine lv_aload_n hx hb dL_law_706 rfl (lv_at hl 4 rfl) ?_
    refine ri_rd (ri_runV (b := a2 0) (As := []) (rest := []) CF (k_X4_thrown l D a2 kk (thG mm 1)) gL_law_X4_thrown f_X4_thrown rfl (va_recv hK hQ (ci := 4) (q0 := 0) rfl rfl) ⟨rfl, rfl, (Nat.le_of_ble_eq_true rfl), (Nat.le_of_ble_eq_true rfl), by show _ ≤ 1053; omega, by show _ ≤ 13902; omega⟩ wB_bl (wB_in hQ hK hN) rfl hl.1 rfl (Nat.le_of_ble_eq_true rfl) dL_law_707) ?_
    refine ri_eq (y := 1) (rfl) ?_
    refine lv_iload hx hb dL_law_710 (lv_at hl 1 rfl) ?_
    refine ri_icmp_eq (tgt := 717) hx hb (by omega) dL_law_712 (by decide) (fun _ => ?_) (fun z => absurd rfl z)
    refine lv_iload hx hb dL_law_717 (lv_at hl 1 rfl) ?_
    refine ri_if_ne (tgt := 741) hx hb (by omega) dL_law_719 (by decide) (fun _ => ?_) (fun z => absurd z (by omega))
    refine lv_goto (tgt := 1263) hx hb dL_law_741 (by decide) ?_
    refine W.widen (k := cells + 2) (n := slots + 12) (by omega) (by omega) ?_
    exact K _ _ _ _ _ _ ⟨hP, hW, hQ, hS, Rel_th hR _, hI, MInv_th hMv _⟩ (lv_sub hl [2, 3, 4, 5, 6] rfl)

set_option maxHeartbeats 4000000 in
set_option maxRecDepth 100000 in
theorem lc_differences {p : Program} {l : Launch} {e : Env} {s : State} {m : MethodId} {below : List Frame} {meth : Method} {c : Code} {b L : Nat} {xs : Nat → Int32} {D : va_G} {kk : Nat → ClassId} {a a2 : Nat → Nat} {o : Nat} {sa : Nat → Nat} {g mm : Nat → Nat → Int} {f : Nat → Int64} {H : Heap} {locs : List Loc} {i : Int} {cells slots : Nat} {ls : Array Slot} {Q : State → Prop} (C0 : LCx p l s m meth c b L xs D kk a a2 o sa) (S0 : LSt s D kk a a2 o g mm f H locs) (hi : 0 ≤ i ∧ i + 7 ≤ (L : Int)) (hc : cells + 2 ≤ 1053 ∧ slots + 12 ≤ 13902) (hl : lv_has ls 7 [(0, .ref b), (1, .ref (a 0)), (2, .ref (a2 0)), (3, .ref o), (4, .int (iI i))]) (K : ∀ (g mm : Nat → Nat → Int) (f : Nat → Int64) (H : Heap) (locs : List Loc) (ls : Array Slot), LSt s D kk a a2 o g mm f H locs → lv_has ls 7 [(0, .ref b), (1, .ref (a 0)), (2, .ref (a2 0)), (3, .ref o), (4, .int (iI i))] → W p l e room_1 s m (#[Value.ref b] : Array Value) below meth c H locs (cells + 2) (slots + 12) Q (F0 m 1263 ls [])) : W p l e room_1 s m (#[Value.ref b] : Array Value) below meth c H locs cells slots Q (F0 m 744 ls []) := by
  obtain ⟨⟨hx, hb, hml, hown, hts, hX, hbl, hL⟩, ⟨hst, hK, hN, hT, hC⟩, ⟨hA, hA2, hO, hO2, hAB, hsa, hsa2, hso⟩⟩ := C0
  obtain ⟨hP, hW, hQ, hS, hR, hI, hMv⟩ := S0
  have hbA : ¬ (fun q : Nat => s.heap.size ≤ q) b := Nat.not_le.mpr hbl
  have CF : CallFix p m c cL_law 7 s (#[Value.ref b] : Array Value) wsL_law RL := ⟨hx, hb, hml, hown, hts⟩
  have hOA : ∀ q : Nat, oA a o q → s.heap.size ≤ q := fun q h => h.elim (fun ⟨k, hk, e9⟩ => by rw [e9]; exact hsa k hk) (fun e9 => by rw [e9]; exact hso)
  have hMA : ∀ q : Nat, aA 8 a2 q → s.heap.size ≤ q := fun q ⟨k, hk, e9⟩ => by rw [e9]; exact hsa2 k hk
  have hmo : ∀ j, j < 8 → ¬ oA a o (a2 j) := fun j hj z => z.elim (fun ⟨k, hk, e9⟩ => hAB k j hk hj e9.symm) (fun e9 => hO2 j hj e9)
  have hxm : ∀ j, j < 17 → ¬ aA 8 a2 (a j) := fun j hj ⟨k, hk, e9⟩ => hAB j k hj hk e9
  have hom : ¬ aA 8 a2 o := fun ⟨k, hk, e9⟩ => hO2 k hk e9.symm
  have hr1 := i32_r (xs (i + 1).toNat)
  have hr2 := i32_r (xs (i + 2).toNat)
  have hr3 := i32_r (xs (i + 3).toNat)
  refine lv_aload_n hx hb dL_law_744 rfl (lv_at hl 1 rfl) ?_
  refine lv_aload_n hx hb dL_law_745 rfl (lv_at hl 0 rfl) ?_
  refine lv_iload hx hb dL_law_746 (lv_at hl 4 rfl) ?_
  refine ri_iconst hx hb dL_law_748 ?_
  refine ri_iadd hx hb dL_law_749 ?_
  refine ri_sld hx hb hX hbl hbA hS (by omega) (by omega) dL_law_750 ?_
  refine lv_aload_n hx hb dL_law_751 rfl (lv_at hl 0 rfl) ?_
  refine lv_iload hx hb dL_law_752 (lv_at hl 4 rfl) ?_
  refine ri_iconst hx hb dL_law_754 ?_
  refine ri_iadd hx hb dL_law_755 ?_
  refine ri_sld hx hb hX hbl hbA hS (by omega) (by omega) dL_law_756 ?_
  refine lv_aload_n hx hb dL_law_757 rfl (lv_at hl 0 rfl) ?_
  refine lv_iload hx hb dL_law_758 (lv_at hl 4 rfl) ?_
  refine ri_iconst hx hb dL_law_760 ?_
  refine ri_iadd hx hb dL_law_761 ?_
  refine ri_sld hx hb hX hbl hbA hS (by omega) (by omega) dL_law_762 ?_
  refine lv_aload_n hx hb dL_law_763 rfl (lv_at hl 3 rfl) ?_
  generalize hq1 : (xs (i + 1).toNat).toInt = v_b at hr1 ⊢
  generalize hq2 : (xs (i + 2).toNat).toInt = v_t at hr2 ⊢
  generalize hq3 : (xs (i + 3).toNat).toInt = v_n at hr3 ⊢
  by_cases hok : cmpA v_b v_t v_n ∧ g 3 (5 + v_b * 5 + v_t).toNat = 1
  · skip
    refine ri_wi (v := 0) (PP := (fun H => va_P D vwCl (xW a kk (g)) H ∧ va_P D vwCl (outW o kk (vp_updL f 0 (iI (cntE (cmpD (px (g 2) v_t) (px (g 2) (5 + v_b * 5 + v_t)) v_n (g 5 v_t.toNat) (g 6 v_t.toNat) (g 7 v_t.toNat) (g 8 v_t.toNat) (g 10 v_t.toNat) (g 11 v_t.toNat) (g 12 v_t.toNat) (g 13 v_t.toNat)) 64)).toInt64)) H)) (vx_runSW (As := [.ref (a 0), .int (iI v_b), .int (iI v_t), .int (iI v_n), .ref o]) (rest := []) CF (kL_differences_ok l D a kk g sa o f hst v_b v_t v_n hA hO hI hr1 hr2 hr3 hok) (vx_cwSW 5 hts gL_law_L_differences rfl rfl rfl ⟨by decide +kernel, by decide +kernel, by decide +kernel⟩ ⟨(Nat.le_of_ble_eq_true rfl), (Nat.le_of_ble_eq_true rfl)⟩) ⟨Bl_pc lB_bl, fun U hU hW9 => ⟨rfl, lB_in hS hOA hT hP hW hK hN hC U hU hW9⟩⟩ rfl rfl hl.1 rfl (lv_room (Nat.le_of_ble_eq_true rfl)) dL_law_764 ⟨by show _ ≤ 1053; omega, by show _ ≤ 13902; omega⟩) hS hOA (fun H locs hB hk hS => ?_)
    obtain ⟨hP, hW⟩ := hB
    replace hQ : va_P D vwCl (mW a2 kk mm) H := hQ.un hk (m_un hmo)
    refine lv_istore (lv' := [(5, .int (iI 0)), (0, .ref b), (1, .ref (a 0)), (2, .ref (a2 0)), (3, .ref o), (4, .int (iI i))]) hx hb dL_law_767 hl (by decide) rfl (fun ls hl => ?_)
    refine lv_aload_n hx hb dL_law_769 rfl (lv_at hl 3 rfl) ?_
    refine lv_aload_n hx hb dL_law_770 rfl (lv_at hl 1 rfl) ?_
    refine lv_iload hx hb dL_law_771 (lv_at hl 5 rfl) ?_
    refine ri_iconst hx hb dL_law_773 ?_
    refine ri_iadd hx hb dL_law_774 ?_
    refine ri_sld hx hb hX hbl hbA hS (by omega) (by omega) dL_law_775 ?_
    refine ri_eq (y := v_b) hq1 ?_
    refine lv_aload_n hx hb dL_law_776 rfl (lv_at hl 1 rfl) ?_
    refine lv_iload hx hb dL_law_777 (lv_at hl 5 rfl) ?_
    refine ri_iconst hx hb dL_law_779 ?_
    refine ri_iadd hx hb dL_law_780 ?_
    refine ri_sld hx hb hX hbl hbA hS (by omega) (by omega) dL_law_781 ?_
    refine ri_eq (y := v_t) hq2 ?_
    refine lv_aload_n hx hb dL_law_782 rfl (lv_at hl 1 rfl) ?_
    refine lv_iload hx hb dL_law_783 (lv_at hl 5 rfl) ?_
    refine ri_iconst hx hb dL_law_785 ?_
    refine ri_iadd hx hb dL_law_786 ?_
    refine ri_sld hx hb hX hbl hbA hS (by omega) (by omega) dL_law_787 ?_
    refine ri_eq (y := v_n) hq3 ?_
    have hokm : ((0 ≤ v_b ∧ v_b ≤ 3) ∧ (0 ≤ v_t ∧ v_t ≤ 4) ∧ (0 ≤ v_n ∧ v_n ≤ 255)) ∧ mm 3 (5 * v_b + v_t).toNat = 1 := ⟨hok.1, ((Rel_hd hR hok.1.1 hok.1.2.1).symm.trans hok.2)⟩
    refine ri_wi (v := cntE (cmpD (px (mm 1) v_t) (px (mm 2) (5 * v_b + v_t)) v_n (mm 4 (4 * v_t).toNat) (mm 4 (4 * v_t + 1).toNat) (mm 4 (4 * v_t).toNat + mm 4 (4 * v_t + 2).toNat) (mm 4 (4 * v_t + 1).toNat + mm 4 (4 * v_t + 3).toNat) (mm 5 (4 * v_t).toNat) (mm 5 (4 * v_t + 1).toNat) (mm 5 (4 * v_t).toNat + mm 5 (4 * v_t + 2).toNat) (mm 5 (4 * v_t + 1).toNat + mm 5 (4 * v_t + 3).toNat)) 64) (PP := (fun H => va_P D vwCl (mW a2 kk (mvG (thG mm 0) (fitP (px (mm 1) v_t) (px (mm 2) (5 * v_b + v_t)) v_n (mm 4 (4 * v_t).toNat) (mm 4 (4 * v_t + 1).toNat) (mm 4 (4 * v_t).toNat + mm 4 (4 * v_t + 2).toNat) (mm 4 (4 * v_t + 1).toNat + mm 4 (4 * v_t + 3).toNat)))) H)) (ri_runV (b := a2 0) (As := [.int (iI v_b), .int (iI v_t), .int (iI v_n)]) (rest := []) CF (k_X4_differences_ok l D a2 kk mm v_b v_t v_n hA2 hMv hr1 hr2 hr3 hokm) gL_law_X4_differences f_X4_differences rfl (va_recv hK hQ (ci := 4) (q0 := 0) rfl rfl) ⟨rfl, rfl, (Nat.le_of_ble_eq_true rfl), (Nat.le_of_ble_eq_true rfl), by show _ ≤ 1053; omega, by show _ ≤ 13902; omega⟩ wB_bl (wB_in hQ hK hN) rfl hl.1 rfl (Nat.le_of_ble_eq_true rfl) dL_law_788) hS hMA (fun H locs hQ hk hS => ?_)
    replace hQ : va_P D vwCl (mW a2 kk (mvG (thG mm 0) (fitP (px (mm 1) v_t) (px (mm 2) (5 * v_b + v_t)) v_n (mm 4 (4 * v_t).toNat) (mm 4 (4 * v_t + 1).toNat) (mm 4 (4 * v_t).toNat + mm 4 (4 * v_t + 2).toNat) (mm 4 (4 * v_t + 1).toNat + mm 4 (4 * v_t + 3).toNat)))) H := hQ
    replace hP : va_P D vwCl (xW a kk (g)) H := hP.un hk (x_un2 hxm)
    replace hW : va_P D vwCl (outW o kk (vp_updL f 0 (iI (cntE (cmpD (px (g 2) v_t) (px (g 2) (5 + v_b * 5 + v_t)) v_n (g 5 v_t.toNat) (g 6 v_t.toNat) (g 7 v_t.toNat) (g 8 v_t.toNat) (g 10 v_t.toNat) (g 11 v_t.toNat) (g 12 v_t.toNat) (g 13 v_t.toNat)) 64)).toInt64)) H := hW.un hk (o_un2 hom)
    refine lv_istore (lv' := [(6, .int (iI (cntE (cmpD (px (mm 1) v_t) (px (mm 2) (5 * v_b + v_t)) v_n (mm 4 (4 * v_t).toNat) (mm 4 (4 * v_t + 1).toNat) (mm 4 (4 * v_t).toNat + mm 4 (4 * v_t + 2).toNat) (mm 4 (4 * v_t + 1).toNat + mm 4 (4 * v_t + 3).toNat) (mm 5 (4 * v_t).toNat) (mm 5 (4 * v_t + 1).toNat) (mm 5 (4 * v_t).toNat + mm 5 (4 * v_t + 2).toNat) (mm 5 (4 * v_t + 1).toNat + mm 5 (4 * v_t + 3).toNat)) 64))), (5, .int (iI 0)), (0, .ref b), (1, .ref (a 0)), (2, .ref (a2 0)), (3, .ref o), (4, .int (iI i))]) hx hb dL_law_791 hl (by decide) rfl (fun ls hl => ?_)
    refine lv_aload_n hx hb dL_law_793 rfl (lv_at hl 4 rfl) ?_
    refine ri_rd (ri_runV (b := a2 0) (As := []) (rest := []) CF (k_X4_thrown l D a2 kk (mvG (thG mm 0) (fitP (px (mm 1) v_t) (px (mm 2) (5 * v_b + v_t)) v_n (mm 4 (4 * v_t).toNat) (mm 4 (4 * v_t + 1).toNat) (mm 4 (4 * v_t).toNat + mm 4 (4 * v_t + 2).toNat) (mm 4 (4 * v_t + 1).toNat + mm 4 (4 * v_t + 3).toNat)))) gL_law_X4_thrown f_X4_thrown rfl (va_recv hK hQ (ci := 4) (q0 := 0) rfl rfl) ⟨rfl, rfl, (Nat.le_of_ble_eq_true rfl), (Nat.le_of_ble_eq_true rfl), by show _ ≤ 1053; omega, by show _ ≤ 13902; omega⟩ wB_bl (wB_in hQ hK hN) rfl hl.1 rfl (Nat.le_of_ble_eq_true rfl) dL_law_794) ?_
    refine ri_eq (y := 0) (rfl) ?_
    refine lv_iload hx hb dL_law_797 (lv_at hl 1 rfl) ?_
    refine ri_icmp_eq (tgt := 804) hx hb (by omega) dL_law_799 (by decide) (fun _ => ?_) (fun z => absurd rfl z)
    refine lv_iload hx hb dL_law_804 (lv_at hl 1 rfl) ?_
    refine ri_if_ne (tgt := 821) hx hb (by omega) dL_law_806 (by decide) (fun z => absurd z (by omega)) (fun _ => ?_)
    refine lv_aload_n hx hb dL_law_809 rfl (lv_at hl 5 rfl) ?_
    refine ri_iconst hx hb dL_law_810 ?_
    refine va_lald hx hb hK hW 0 2 rfl rfl (iI_in (by decide) (by decide)) dL_law_811 ?_
    rw [show (vp_updL f 0 (iI (cntE (cmpD (px (g 2) v_t) (px (g 2) (5 + v_b * 5 + v_t)) v_n (g 5 v_t.toNat) (g 6 v_t.toNat) (g 7 v_t.toNat) (g 8 v_t.toNat) (g 10 v_t.toNat) (g 11 v_t.toNat) (g 12 v_t.toNat) (g 13 v_t.toNat)) 64)).toInt64) (iI 0).toNatClampNeg = (iI (cntE (cmpD (px (g 2) v_t) (px (g 2) (5 + v_b * 5 + v_t)) v_n (g 5 v_t.toNat) (g 6 v_t.toNat) (g 7 v_t.toNat) (g 8 v_t.toNat) (g 10 v_t.toNat) (g 11 v_t.toNat) (g 12 v_t.toNat) (g 13 v_t.toNat)) 64)).toInt64 from if_pos rfl, show cntE (cmpD (px (g 2) v_t) (px (g 2) (5 + v_b * 5 + v_t)) v_n (g 5 v_t.toNat) (g 6 v_t.toNat) (g 7 v_t.toNat) (g 8 v_t.toNat) (g 10 v_t.toNat) (g 11 v_t.toNat) (g 12 v_t.toNat) (g 13 v_t.toNat)) 64 = cntE (cmpD (px (mm 1) v_t) (px (mm 2) (5 * v_b + v_t)) v_n (mm 4 (4 * v_t).toNat) (mm 4 (4 * v_t + 1).toNat) (mm 4 (4 * v_t).toNat + mm 4 (4 * v_t + 2).toNat) (mm 4 (4 * v_t + 1).toNat + mm 4 (4 * v_t + 3).toNat) (mm 5 (4 * v_t).toNat) (mm 5 (4 * v_t + 1).toNat) (mm 5 (4 * v_t).toNat + mm 5 (4 * v_t + 2).toNat) (mm 5 (4 * v_t + 1).toNat + mm 5 (4 * v_t + 3).toNat)) 64 from cntE_c (Rel_D hR hMv hok.1.1 hok.1.2.1 ((Rel_hd hR hok.1.1 hok.1.2.1).symm.trans hok.2)) 64 (Nat.le_refl _)]
    refine lv_iload hx hb dL_law_812 (lv_at hl 0 rfl) ?_
    refine lv_i2l (v := (iI (cntE (cmpD (px (mm 1) v_t) (px (mm 2) (5 * v_b + v_t)) v_n (mm 4 (4 * v_t).toNat) (mm 4 (4 * v_t + 1).toNat) (mm 4 (4 * v_t).toNat + mm 4 (4 * v_t + 2).toNat) (mm 4 (4 * v_t + 1).toNat + mm 4 (4 * v_t + 3).toNat) (mm 5 (4 * v_t).toNat) (mm 5 (4 * v_t + 1).toNat) (mm 5 (4 * v_t).toNat + mm 5 (4 * v_t + 2).toNat) (mm 5 (4 * v_t + 1).toNat + mm 5 (4 * v_t + 3).toNat)) 64)).toInt64) hx hb dL_law_814 rfl ?_
    refine W.lcmp hx hb dL_law_815 ?_
    rw [cmp_0]
    refine ri_if_eq (tgt := 821) hx hb (by omega) dL_law_816 (by decide) (fun _ => ?_) (fun z => absurd rfl z)
    refine lv_goto (tgt := 1263) hx hb dL_law_821 (by decide) ?_
    refine W.widen (k := cells + 2) (n := slots + 12) (by omega) (by omega) ?_
    exact K _ _ _ _ _ _ ⟨hP, hW, hQ, hS, Rel_mv (Rel_th hR 0) _, hI, MInv_mv _ (MInv_th hMv 0)⟩ (lv_sub hl [2, 3, 4, 5, 6] rfl)
  · skip
    obtain ⟨pl, hno⟩ : ∃ pl : Int, (pl = 1 ∧ ¬ (cmpA v_b v_t v_n)) ∨ (pl = 2 ∧ (cmpA v_b v_t v_n) ∧ ¬ (g 3 (5 + v_b * 5 + v_t).toNat = 1)) := by
      by_cases h9 : cmpA v_b v_t v_n
      · exact ⟨2, Or.inr ⟨rfl, h9, fun z => hok ⟨h9, z⟩⟩⟩
      · exact ⟨1, Or.inl ⟨rfl, h9⟩⟩
    refine ri_wi (v := pl) (PP := (fun H => va_P D vwCl (xW a kk g) H ∧ va_P D vwCl (outW o kk f) H)) (vx_runSW (As := [.ref (a 0), .int (iI v_b), .int (iI v_t), .int (iI v_n), .ref o]) (rest := []) CF (kL_differences_no l D a kk g sa o f hst v_b v_t v_n hA hO hI hr1 hr2 hr3 pl hno) (vx_cwSW 5 hts gL_law_L_differences rfl rfl rfl ⟨by decide +kernel, by decide +kernel, by decide +kernel⟩ ⟨(Nat.le_of_ble_eq_true rfl), (Nat.le_of_ble_eq_true rfl)⟩) ⟨Bl_pc lB_bl, fun U hU hW9 => ⟨rfl, lB_in hS hOA hT hP hW hK hN hC U hU hW9⟩⟩ rfl rfl hl.1 rfl (lv_room (Nat.le_of_ble_eq_true rfl)) dL_law_764 ⟨by show _ ≤ 1053; omega, by show _ ≤ 13902; omega⟩) hS hOA (fun H locs hB hk hS => ?_)
    obtain ⟨hP, hW⟩ := hB
    replace hQ : va_P D vwCl (mW a2 kk mm) H := hQ.un hk (m_un hmo)
    refine lv_istore (lv' := [(5, .int (iI pl)), (0, .ref b), (1, .ref (a 0)), (2, .ref (a2 0)), (3, .ref o), (4, .int (iI i))]) hx hb dL_law_767 hl (by decide) rfl (fun ls hl => ?_)
    refine lv_aload_n hx hb dL_law_769 rfl (lv_at hl 3 rfl) ?_
    refine lv_aload_n hx hb dL_law_770 rfl (lv_at hl 1 rfl) ?_
    refine lv_iload hx hb dL_law_771 (lv_at hl 5 rfl) ?_
    refine ri_iconst hx hb dL_law_773 ?_
    refine ri_iadd hx hb dL_law_774 ?_
    refine ri_sld hx hb hX hbl hbA hS (by omega) (by omega) dL_law_775 ?_
    refine ri_eq (y := v_b) hq1 ?_
    refine lv_aload_n hx hb dL_law_776 rfl (lv_at hl 1 rfl) ?_
    refine lv_iload hx hb dL_law_777 (lv_at hl 5 rfl) ?_
    refine ri_iconst hx hb dL_law_779 ?_
    refine ri_iadd hx hb dL_law_780 ?_
    refine ri_sld hx hb hX hbl hbA hS (by omega) (by omega) dL_law_781 ?_
    refine ri_eq (y := v_t) hq2 ?_
    refine lv_aload_n hx hb dL_law_782 rfl (lv_at hl 1 rfl) ?_
    refine lv_iload hx hb dL_law_783 (lv_at hl 5 rfl) ?_
    refine ri_iconst hx hb dL_law_785 ?_
    refine ri_iadd hx hb dL_law_786 ?_
    refine ri_sld hx hb hX hbl hbA hS (by omega) (by omega) dL_law_787 ?_
    refine ri_eq (y := v_n) hq3 ?_
    have hnom : (pl = 1 ∧ ¬ ((0 ≤ v_b ∧ v_b ≤ 3) ∧ (0 ≤ v_t ∧ v_t ≤ 4) ∧ (0 ≤ v_n ∧ v_n ≤ 255))) ∨ (pl = 2 ∧ ((0 ≤ v_b ∧ v_b ≤ 3) ∧ (0 ≤ v_t ∧ v_t ≤ 4) ∧ (0 ≤ v_n ∧ v_n ≤ 255)) ∧ ¬ mm 3 (5 * v_b + v_t).toNat = 1) := hno.elim Or.inl (fun z => Or.inr ⟨z.1, z.2.1, fun y => z.2.2 ((Rel_hd hR z.2.1.1 z.2.1.2.1).trans y)⟩)
    refine ri_wi (v := 0) (PP := (fun H => va_P D vwCl (mW a2 kk (thG mm pl)) H)) (ri_runV (b := a2 0) (As := [.int (iI v_b), .int (iI v_t), .int (iI v_n)]) (rest := []) CF (k_X4_differences_no l D a2 kk mm pl v_b v_t v_n hA2 hMv hr1 hr2 hr3 hnom) gL_law_X4_differences f_X4_differences rfl (va_recv hK hQ (ci := 4) (q0 := 0) rfl rfl) ⟨rfl, rfl, (Nat.le_of_ble_eq_true rfl), (Nat.le_of_ble_eq_true rfl), by show _ ≤ 1053; omega, by show _ ≤ 13902; omega⟩ wB_bl (wB_in hQ hK hN) rfl hl.1 rfl (Nat.le_of_ble_eq_true rfl) dL_law_788) hS hMA (fun H locs hQ hk hS => ?_)
    replace hQ : va_P D vwCl (mW a2 kk (thG mm pl)) H := hQ
    replace hP : va_P D vwCl (xW a kk (g)) H := hP.un hk (x_un2 hxm)
    replace hW : va_P D vwCl (outW o kk (f)) H := hW.un hk (o_un2 hom)
    refine lv_istore (lv' := [(6, .int (iI 0)), (5, .int (iI pl)), (0, .ref b), (1, .ref (a 0)), (2, .ref (a2 0)), (3, .ref o), (4, .int (iI i))]) hx hb dL_law_791 hl (by decide) rfl (fun ls hl => ?_)
    refine lv_aload_n hx hb dL_law_793 rfl (lv_at hl 4 rfl) ?_
    refine ri_rd (ri_runV (b := a2 0) (As := []) (rest := []) CF (k_X4_thrown l D a2 kk (thG mm pl)) gL_law_X4_thrown f_X4_thrown rfl (va_recv hK hQ (ci := 4) (q0 := 0) rfl rfl) ⟨rfl, rfl, (Nat.le_of_ble_eq_true rfl), (Nat.le_of_ble_eq_true rfl), by show _ ≤ 1053; omega, by show _ ≤ 13902; omega⟩ wB_bl (wB_in hQ hK hN) rfl hl.1 rfl (Nat.le_of_ble_eq_true rfl) dL_law_794) ?_
    refine ri_eq (y := pl) (rfl) ?_
    refine lv_iload hx hb dL_law_797 (lv_at hl 1 rfl) ?_
    refine ri_icmp_eq (tgt := 804) hx hb (by omega) dL_law_799 (by decide) (fun _ => ?_) (fun z => absurd rfl z)
    refine lv_iload hx hb dL_law_804 (lv_at hl 1 rfl) ?_
    refine ri_if_ne (tgt := 821) hx hb (by omega) dL_law_806 (by decide) (fun _ => ?_) (fun z => absurd z (by omega))
    refine lv_goto (tgt := 1263) hx hb dL_law_821 (by decide) ?_
    refine W.widen (k := cells + 2) (n := slots + 12) (by omega) (by omega) ?_
    exact K _ _ _ _ _ _ ⟨hP, hW, hQ, hS, Rel_th hR _, hI, MInv_th hMv _⟩ (lv_sub hl [2, 3, 4, 5, 6] rfl)

set_option maxHeartbeats 4000000 in
set_option maxRecDepth 100000 in
theorem lc_firstDifference {p : Program} {l : Launch} {e : Env} {s : State} {m : MethodId} {below : List Frame} {meth : Method} {c : Code} {b L : Nat} {xs : Nat → Int32} {D : va_G} {kk : Nat → ClassId} {a a2 : Nat → Nat} {o : Nat} {sa : Nat → Nat} {g mm : Nat → Nat → Int} {f : Nat → Int64} {H : Heap} {locs : List Loc} {i : Int} {cells slots : Nat} {ls : Array Slot} {Q : State → Prop} (C0 : LCx p l s m meth c b L xs D kk a a2 o sa) (S0 : LSt s D kk a a2 o g mm f H locs) (hi : 0 ≤ i ∧ i + 7 ≤ (L : Int)) (hc : cells + 2 ≤ 1053 ∧ slots + 12 ≤ 13902) (hl : lv_has ls 7 [(0, .ref b), (1, .ref (a 0)), (2, .ref (a2 0)), (3, .ref o), (4, .int (iI i))]) (K : ∀ (g mm : Nat → Nat → Int) (f : Nat → Int64) (H : Heap) (locs : List Loc) (ls : Array Slot), LSt s D kk a a2 o g mm f H locs → lv_has ls 7 [(0, .ref b), (1, .ref (a 0)), (2, .ref (a2 0)), (3, .ref o), (4, .int (iI i))] → W p l e room_1 s m (#[Value.ref b] : Array Value) below meth c H locs (cells + 2) (slots + 12) Q (F0 m 1263 ls [])) : W p l e room_1 s m (#[Value.ref b] : Array Value) below meth c H locs cells slots Q (F0 m 824 ls []) := by
  obtain ⟨⟨hx, hb, hml, hown, hts, hX, hbl, hL⟩, ⟨hst, hK, hN, hT, hC⟩, ⟨hA, hA2, hO, hO2, hAB, hsa, hsa2, hso⟩⟩ := C0
  obtain ⟨hP, hW, hQ, hS, hR, hI, hMv⟩ := S0
  have hbA : ¬ (fun q : Nat => s.heap.size ≤ q) b := Nat.not_le.mpr hbl
  have CF : CallFix p m c cL_law 7 s (#[Value.ref b] : Array Value) wsL_law RL := ⟨hx, hb, hml, hown, hts⟩
  have hOA : ∀ q : Nat, oA a o q → s.heap.size ≤ q := fun q h => h.elim (fun ⟨k, hk, e9⟩ => by rw [e9]; exact hsa k hk) (fun e9 => by rw [e9]; exact hso)
  have hMA : ∀ q : Nat, aA 8 a2 q → s.heap.size ≤ q := fun q ⟨k, hk, e9⟩ => by rw [e9]; exact hsa2 k hk
  have hmo : ∀ j, j < 8 → ¬ oA a o (a2 j) := fun j hj z => z.elim (fun ⟨k, hk, e9⟩ => hAB k j hk hj e9.symm) (fun e9 => hO2 j hj e9)
  have hxm : ∀ j, j < 17 → ¬ aA 8 a2 (a j) := fun j hj ⟨k, hk, e9⟩ => hAB j k hj hk e9
  have hom : ¬ aA 8 a2 o := fun ⟨k, hk, e9⟩ => hO2 k hk e9.symm
  have hr1 := i32_r (xs (i + 1).toNat)
  have hr2 := i32_r (xs (i + 2).toNat)
  have hr3 := i32_r (xs (i + 3).toNat)
  refine lv_aload_n hx hb dL_law_824 rfl (lv_at hl 1 rfl) ?_
  refine lv_aload_n hx hb dL_law_825 rfl (lv_at hl 0 rfl) ?_
  refine lv_iload hx hb dL_law_826 (lv_at hl 4 rfl) ?_
  refine ri_iconst hx hb dL_law_828 ?_
  refine ri_iadd hx hb dL_law_829 ?_
  refine ri_sld hx hb hX hbl hbA hS (by omega) (by omega) dL_law_830 ?_
  refine lv_aload_n hx hb dL_law_831 rfl (lv_at hl 0 rfl) ?_
  refine lv_iload hx hb dL_law_832 (lv_at hl 4 rfl) ?_
  refine ri_iconst hx hb dL_law_834 ?_
  refine ri_iadd hx hb dL_law_835 ?_
  refine ri_sld hx hb hX hbl hbA hS (by omega) (by omega) dL_law_836 ?_
  refine lv_aload_n hx hb dL_law_837 rfl (lv_at hl 0 rfl) ?_
  refine lv_iload hx hb dL_law_838 (lv_at hl 4 rfl) ?_
  refine ri_iconst hx hb dL_law_840 ?_
  refine ri_iadd hx hb dL_law_841 ?_
  refine ri_sld hx hb hX hbl hbA hS (by omega) (by omega) dL_law_842 ?_
  refine lv_aload_n hx hb dL_law_843 rfl (lv_at hl 3 rfl) ?_
  generalize hq1 : (xs (i + 1).toNat).toInt = v_b at hr1 ⊢
  generalize hq2 : (xs (i + 2).toNat).toInt = v_t at hr2 ⊢
  generalize hq3 : (xs (i + 3).toNat).toInt = v_n at hr3 ⊢
  by_cases hok : cmpA v_b v_t v_n ∧ g 3 (5 + v_b * 5 + v_t).toNat = 1
  · skip
    refine ri_wi (v := 0) (PP := (fun H => va_P D vwCl (xW a kk (g)) H ∧ va_P D vwCl (outW o kk (vp_updL f 0 (iI (fdE (cmpD (px (g 2) v_t) (px (g 2) (5 + v_b * 5 + v_t)) v_n (g 5 v_t.toNat) (g 6 v_t.toNat) (g 7 v_t.toNat) (g 8 v_t.toNat) (g 10 v_t.toNat) (g 11 v_t.toNat) (g 12 v_t.toNat) (g 13 v_t.toNat)))).toInt64)) H)) (vx_runSW (As := [.ref (a 0), .int (iI v_b), .int (iI v_t), .int (iI v_n), .ref o]) (rest := []) CF (kL_firstDifference_ok l D a kk g sa o f hst v_b v_t v_n hA hO hI hr1 hr2 hr3 hok) (vx_cwSW 5 hts gL_law_L_firstDifference rfl rfl rfl ⟨by decide +kernel, by decide +kernel, by decide +kernel⟩ ⟨(Nat.le_of_ble_eq_true rfl), (Nat.le_of_ble_eq_true rfl)⟩) ⟨Bl_pc lB_bl, fun U hU hW9 => ⟨rfl, lB_in hS hOA hT hP hW hK hN hC U hU hW9⟩⟩ rfl rfl hl.1 rfl (lv_room (Nat.le_of_ble_eq_true rfl)) dL_law_844 ⟨by show _ ≤ 1053; omega, by show _ ≤ 13902; omega⟩) hS hOA (fun H locs hB hk hS => ?_)
    obtain ⟨hP, hW⟩ := hB
    replace hQ : va_P D vwCl (mW a2 kk mm) H := hQ.un hk (m_un hmo)
    refine lv_istore (lv' := [(5, .int (iI 0)), (0, .ref b), (1, .ref (a 0)), (2, .ref (a2 0)), (3, .ref o), (4, .int (iI i))]) hx hb dL_law_847 hl (by decide) rfl (fun ls hl => ?_)
    refine lv_aload_n hx hb dL_law_849 rfl (lv_at hl 3 rfl) ?_
    refine lv_aload_n hx hb dL_law_850 rfl (lv_at hl 1 rfl) ?_
    refine lv_iload hx hb dL_law_851 (lv_at hl 5 rfl) ?_
    refine ri_iconst hx hb dL_law_853 ?_
    refine ri_iadd hx hb dL_law_854 ?_
    refine ri_sld hx hb hX hbl hbA hS (by omega) (by omega) dL_law_855 ?_
    refine ri_eq (y := v_b) hq1 ?_
    refine lv_aload_n hx hb dL_law_856 rfl (lv_at hl 1 rfl) ?_
    refine lv_iload hx hb dL_law_857 (lv_at hl 5 rfl) ?_
    refine ri_iconst hx hb dL_law_859 ?_
    refine ri_iadd hx hb dL_law_860 ?_
    refine ri_sld hx hb hX hbl hbA hS (by omega) (by omega) dL_law_861 ?_
    refine ri_eq (y := v_t) hq2 ?_
    refine lv_aload_n hx hb dL_law_862 rfl (lv_at hl 1 rfl) ?_
    refine lv_iload hx hb dL_law_863 (lv_at hl 5 rfl) ?_
    refine ri_iconst hx hb dL_law_865 ?_
    refine ri_iadd hx hb dL_law_866 ?_
    refine ri_sld hx hb hX hbl hbA hS (by omega) (by omega) dL_law_867 ?_
    refine ri_eq (y := v_n) hq3 ?_
    have hokm : ((0 ≤ v_b ∧ v_b ≤ 3) ∧ (0 ≤ v_t ∧ v_t ≤ 4) ∧ (0 ≤ v_n ∧ v_n ≤ 255)) ∧ mm 3 (5 * v_b + v_t).toNat = 1 := ⟨hok.1, ((Rel_hd hR hok.1.1 hok.1.2.1).symm.trans hok.2)⟩
    refine ri_wi (v := fdE (cmpD (px (mm 1) v_t) (px (mm 2) (5 * v_b + v_t)) v_n (mm 4 (4 * v_t).toNat) (mm 4 (4 * v_t + 1).toNat) (mm 4 (4 * v_t).toNat + mm 4 (4 * v_t + 2).toNat) (mm 4 (4 * v_t + 1).toNat + mm 4 (4 * v_t + 3).toNat) (mm 5 (4 * v_t).toNat) (mm 5 (4 * v_t + 1).toNat) (mm 5 (4 * v_t).toNat + mm 5 (4 * v_t + 2).toNat) (mm 5 (4 * v_t + 1).toNat + mm 5 (4 * v_t + 3).toNat))) (PP := (fun H => va_P D vwCl (mW a2 kk (mvG (thG mm 0) (fitP (px (mm 1) v_t) (px (mm 2) (5 * v_b + v_t)) v_n (mm 4 (4 * v_t).toNat) (mm 4 (4 * v_t + 1).toNat) (mm 4 (4 * v_t).toNat + mm 4 (4 * v_t + 2).toNat) (mm 4 (4 * v_t + 1).toNat + mm 4 (4 * v_t + 3).toNat)))) H)) (ri_runV (b := a2 0) (As := [.int (iI v_b), .int (iI v_t), .int (iI v_n)]) (rest := []) CF (k_X4_firstDifference_ok l D a2 kk mm v_b v_t v_n hA2 hMv hr1 hr2 hr3 hokm) gL_law_X4_firstDifference f_X4_firstDifference rfl (va_recv hK hQ (ci := 4) (q0 := 0) rfl rfl) ⟨rfl, rfl, (Nat.le_of_ble_eq_true rfl), (Nat.le_of_ble_eq_true rfl), by show _ ≤ 1053; omega, by show _ ≤ 13902; omega⟩ wB_bl (wB_in hQ hK hN) rfl hl.1 rfl (Nat.le_of_ble_eq_true rfl) dL_law_868) hS hMA (fun H locs hQ hk hS => ?_)
    replace hQ : va_P D vwCl (mW a2 kk (mvG (thG mm 0) (fitP (px (mm 1) v_t) (px (mm 2) (5 * v_b + v_t)) v_n (mm 4 (4 * v_t).toNat) (mm 4 (4 * v_t + 1).toNat) (mm 4 (4 * v_t).toNat + mm 4 (4 * v_t + 2).toNat) (mm 4 (4 * v_t + 1).toNat + mm 4 (4 * v_t + 3).toNat)))) H := hQ
    replace hP : va_P D vwCl (xW a kk (g)) H := hP.un hk (x_un2 hxm)
    replace hW : va_P D vwCl (outW o kk (vp_updL f 0 (iI (fdE (cmpD (px (g 2) v_t) (px (g 2) (5 + v_b * 5 + v_t)) v_n (g 5 v_t.toNat) (g 6 v_t.toNat) (g 7 v_t.toNat) (g 8 v_t.toNat) (g 10 v_t.toNat) (g 11 v_t.toNat) (g 12 v_t.toNat) (g 13 v_t.toNat)))).toInt64)) H := hW.un hk (o_un2 hom)
    refine lv_istore (lv' := [(6, .int (iI (fdE (cmpD (px (mm 1) v_t) (px (mm 2) (5 * v_b + v_t)) v_n (mm 4 (4 * v_t).toNat) (mm 4 (4 * v_t + 1).toNat) (mm 4 (4 * v_t).toNat + mm 4 (4 * v_t + 2).toNat) (mm 4 (4 * v_t + 1).toNat + mm 4 (4 * v_t + 3).toNat) (mm 5 (4 * v_t).toNat) (mm 5 (4 * v_t + 1).toNat) (mm 5 (4 * v_t).toNat + mm 5 (4 * v_t + 2).toNat) (mm 5 (4 * v_t + 1).toNat + mm 5 (4 * v_t + 3).toNat))))), (5, .int (iI 0)), (0, .ref b), (1, .ref (a 0)), (2, .ref (a2 0)), (3, .ref o), (4, .int (iI i))]) hx hb dL_law_871 hl (by decide) rfl (fun ls hl => ?_)
    refine lv_aload_n hx hb dL_law_873 rfl (lv_at hl 4 rfl) ?_
    refine ri_rd (ri_runV (b := a2 0) (As := []) (rest := []) CF (k_X4_thrown l D a2 kk (mvG (thG mm 0) (fitP (px (mm 1) v_t) (px (mm 2) (5 * v_b + v_t)) v_n (mm 4 (4 * v_t).toNat) (mm 4 (4 * v_t + 1).toNat) (mm 4 (4 * v_t).toNat + mm 4 (4 * v_t + 2).toNat) (mm 4 (4 * v_t + 1).toNat + mm 4 (4 * v_t + 3).toNat)))) gL_law_X4_thrown f_X4_thrown rfl (va_recv hK hQ (ci := 4) (q0 := 0) rfl rfl) ⟨rfl, rfl, (Nat.le_of_ble_eq_true rfl), (Nat.le_of_ble_eq_true rfl), by show _ ≤ 1053; omega, by show _ ≤ 13902; omega⟩ wB_bl (wB_in hQ hK hN) rfl hl.1 rfl (Nat.le_of_ble_eq_true rfl) dL_law_874) ?_
    refine ri_eq (y := 0) (rfl) ?_
    refine lv_iload hx hb dL_law_877 (lv_at hl 1 rfl) ?_
    refine ri_icmp_eq (tgt := 884) hx hb (by omega) dL_law_879 (by decide) (fun _ => ?_) (fun z => absurd rfl z)
    refine lv_iload hx hb dL_law_884 (lv_at hl 1 rfl) ?_
    refine ri_if_ne (tgt := 901) hx hb (by omega) dL_law_886 (by decide) (fun z => absurd z (by omega)) (fun _ => ?_)
    refine lv_aload_n hx hb dL_law_889 rfl (lv_at hl 5 rfl) ?_
    refine ri_iconst hx hb dL_law_890 ?_
    refine va_lald hx hb hK hW 0 2 rfl rfl (iI_in (by decide) (by decide)) dL_law_891 ?_
    rw [show (vp_updL f 0 (iI (fdE (cmpD (px (g 2) v_t) (px (g 2) (5 + v_b * 5 + v_t)) v_n (g 5 v_t.toNat) (g 6 v_t.toNat) (g 7 v_t.toNat) (g 8 v_t.toNat) (g 10 v_t.toNat) (g 11 v_t.toNat) (g 12 v_t.toNat) (g 13 v_t.toNat)))).toInt64) (iI 0).toNatClampNeg = (iI (fdE (cmpD (px (g 2) v_t) (px (g 2) (5 + v_b * 5 + v_t)) v_n (g 5 v_t.toNat) (g 6 v_t.toNat) (g 7 v_t.toNat) (g 8 v_t.toNat) (g 10 v_t.toNat) (g 11 v_t.toNat) (g 12 v_t.toNat) (g 13 v_t.toNat)))).toInt64 from if_pos rfl, show fdE (cmpD (px (g 2) v_t) (px (g 2) (5 + v_b * 5 + v_t)) v_n (g 5 v_t.toNat) (g 6 v_t.toNat) (g 7 v_t.toNat) (g 8 v_t.toNat) (g 10 v_t.toNat) (g 11 v_t.toNat) (g 12 v_t.toNat) (g 13 v_t.toNat)) = fdE (cmpD (px (mm 1) v_t) (px (mm 2) (5 * v_b + v_t)) v_n (mm 4 (4 * v_t).toNat) (mm 4 (4 * v_t + 1).toNat) (mm 4 (4 * v_t).toNat + mm 4 (4 * v_t + 2).toNat) (mm 4 (4 * v_t + 1).toNat + mm 4 (4 * v_t + 3).toNat) (mm 5 (4 * v_t).toNat) (mm 5 (4 * v_t + 1).toNat) (mm 5 (4 * v_t).toNat + mm 5 (4 * v_t + 2).toNat) (mm 5 (4 * v_t + 1).toNat + mm 5 (4 * v_t + 3).toNat)) from fdE_c (Rel_D hR hMv hok.1.1 hok.1.2.1 ((Rel_hd hR hok.1.1 hok.1.2.1).symm.trans hok.2))]
    refine lv_iload hx hb dL_law_892 (lv_at hl 0 rfl) ?_
    refine lv_i2l (v := (iI (fdE (cmpD (px (mm 1) v_t) (px (mm 2) (5 * v_b + v_t)) v_n (mm 4 (4 * v_t).toNat) (mm 4 (4 * v_t + 1).toNat) (mm 4 (4 * v_t).toNat + mm 4 (4 * v_t + 2).toNat) (mm 4 (4 * v_t + 1).toNat + mm 4 (4 * v_t + 3).toNat) (mm 5 (4 * v_t).toNat) (mm 5 (4 * v_t + 1).toNat) (mm 5 (4 * v_t).toNat + mm 5 (4 * v_t + 2).toNat) (mm 5 (4 * v_t + 1).toNat + mm 5 (4 * v_t + 3).toNat)))).toInt64) hx hb dL_law_894 rfl ?_
    refine W.lcmp hx hb dL_law_895 ?_
    rw [cmp_0]
    refine ri_if_eq (tgt := 901) hx hb (by omega) dL_law_896 (by decide) (fun _ => ?_) (fun z => absurd rfl z)
    refine lv_goto (tgt := 1263) hx hb dL_law_901 (by decide) ?_
    refine W.widen (k := cells + 2) (n := slots + 12) (by omega) (by omega) ?_
    exact K _ _ _ _ _ _ ⟨hP, hW, hQ, hS, Rel_mv (Rel_th hR 0) _, hI, MInv_mv _ (MInv_th hMv 0)⟩ (lv_sub hl [2, 3, 4, 5, 6] rfl)
  · skip
    obtain ⟨pl, hno⟩ : ∃ pl : Int, (pl = 1 ∧ ¬ (cmpA v_b v_t v_n)) ∨ (pl = 2 ∧ (cmpA v_b v_t v_n) ∧ ¬ (g 3 (5 + v_b * 5 + v_t).toNat = 1)) := by
      by_cases h9 : cmpA v_b v_t v_n
      · exact ⟨2, Or.inr ⟨rfl, h9, fun z => hok ⟨h9, z⟩⟩⟩
      · exact ⟨1, Or.inl ⟨rfl, h9⟩⟩
    refine ri_wi (v := pl) (PP := (fun H => va_P D vwCl (xW a kk g) H ∧ va_P D vwCl (outW o kk f) H)) (vx_runSW (As := [.ref (a 0), .int (iI v_b), .int (iI v_t), .int (iI v_n), .ref o]) (rest := []) CF (kL_firstDifference_no l D a kk g sa o f hst v_b v_t v_n hA hO hI hr1 hr2 hr3 pl hno) (vx_cwSW 5 hts gL_law_L_firstDifference rfl rfl rfl ⟨by decide +kernel, by decide +kernel, by decide +kernel⟩ ⟨(Nat.le_of_ble_eq_true rfl), (Nat.le_of_ble_eq_true rfl)⟩) ⟨Bl_pc lB_bl, fun U hU hW9 => ⟨rfl, lB_in hS hOA hT hP hW hK hN hC U hU hW9⟩⟩ rfl rfl hl.1 rfl (lv_room (Nat.le_of_ble_eq_true rfl)) dL_law_844 ⟨by show _ ≤ 1053; omega, by show _ ≤ 13902; omega⟩) hS hOA (fun H locs hB hk hS => ?_)
    obtain ⟨hP, hW⟩ := hB
    replace hQ : va_P D vwCl (mW a2 kk mm) H := hQ.un hk (m_un hmo)
    refine lv_istore (lv' := [(5, .int (iI pl)), (0, .ref b), (1, .ref (a 0)), (2, .ref (a2 0)), (3, .ref o), (4, .int (iI i))]) hx hb dL_law_847 hl (by decide) rfl (fun ls hl => ?_)
    refine lv_aload_n hx hb dL_law_849 rfl (lv_at hl 3 rfl) ?_
    refine lv_aload_n hx hb dL_law_850 rfl (lv_at hl 1 rfl) ?_
    refine lv_iload hx hb dL_law_851 (lv_at hl 5 rfl) ?_
    refine ri_iconst hx hb dL_law_853 ?_
    refine ri_iadd hx hb dL_law_854 ?_
    refine ri_sld hx hb hX hbl hbA hS (by omega) (by omega) dL_law_855 ?_
    refine ri_eq (y := v_b) hq1 ?_
    refine lv_aload_n hx hb dL_law_856 rfl (lv_at hl 1 rfl) ?_
    refine lv_iload hx hb dL_law_857 (lv_at hl 5 rfl) ?_
    refine ri_iconst hx hb dL_law_859 ?_
    refine ri_iadd hx hb dL_law_860 ?_
    refine ri_sld hx hb hX hbl hbA hS (by omega) (by omega) dL_law_861 ?_
    refine ri_eq (y := v_t) hq2 ?_
    refine lv_aload_n hx hb dL_law_862 rfl (lv_at hl 1 rfl) ?_
    refine lv_iload hx hb dL_law_863 (lv_at hl 5 rfl) ?_
    refine ri_iconst hx hb dL_law_865 ?_
    refine ri_iadd hx hb dL_law_866 ?_
    refine ri_sld hx hb hX hbl hbA hS (by omega) (by omega) dL_law_867 ?_
    refine ri_eq (y := v_n) hq3 ?_
    have hnom : (pl = 1 ∧ ¬ ((0 ≤ v_b ∧ v_b ≤ 3) ∧ (0 ≤ v_t ∧ v_t ≤ 4) ∧ (0 ≤ v_n ∧ v_n ≤ 255))) ∨ (pl = 2 ∧ ((0 ≤ v_b ∧ v_b ≤ 3) ∧ (0 ≤ v_t ∧ v_t ≤ 4) ∧ (0 ≤ v_n ∧ v_n ≤ 255)) ∧ ¬ mm 3 (5 * v_b + v_t).toNat = 1) := hno.elim Or.inl (fun z => Or.inr ⟨z.1, z.2.1, fun y => z.2.2 ((Rel_hd hR z.2.1.1 z.2.1.2.1).trans y)⟩)
    refine ri_wi (v := 0) (PP := (fun H => va_P D vwCl (mW a2 kk (thG mm pl)) H)) (ri_runV (b := a2 0) (As := [.int (iI v_b), .int (iI v_t), .int (iI v_n)]) (rest := []) CF (k_X4_firstDifference_no l D a2 kk mm pl v_b v_t v_n hA2 hMv hr1 hr2 hr3 hnom) gL_law_X4_firstDifference f_X4_firstDifference rfl (va_recv hK hQ (ci := 4) (q0 := 0) rfl rfl) ⟨rfl, rfl, (Nat.le_of_ble_eq_true rfl), (Nat.le_of_ble_eq_true rfl), by show _ ≤ 1053; omega, by show _ ≤ 13902; omega⟩ wB_bl (wB_in hQ hK hN) rfl hl.1 rfl (Nat.le_of_ble_eq_true rfl) dL_law_868) hS hMA (fun H locs hQ hk hS => ?_)
    replace hQ : va_P D vwCl (mW a2 kk (thG mm pl)) H := hQ
    replace hP : va_P D vwCl (xW a kk (g)) H := hP.un hk (x_un2 hxm)
    replace hW : va_P D vwCl (outW o kk (f)) H := hW.un hk (o_un2 hom)
    refine lv_istore (lv' := [(6, .int (iI 0)), (5, .int (iI pl)), (0, .ref b), (1, .ref (a 0)), (2, .ref (a2 0)), (3, .ref o), (4, .int (iI i))]) hx hb dL_law_871 hl (by decide) rfl (fun ls hl => ?_)
    refine lv_aload_n hx hb dL_law_873 rfl (lv_at hl 4 rfl) ?_
    refine ri_rd (ri_runV (b := a2 0) (As := []) (rest := []) CF (k_X4_thrown l D a2 kk (thG mm pl)) gL_law_X4_thrown f_X4_thrown rfl (va_recv hK hQ (ci := 4) (q0 := 0) rfl rfl) ⟨rfl, rfl, (Nat.le_of_ble_eq_true rfl), (Nat.le_of_ble_eq_true rfl), by show _ ≤ 1053; omega, by show _ ≤ 13902; omega⟩ wB_bl (wB_in hQ hK hN) rfl hl.1 rfl (Nat.le_of_ble_eq_true rfl) dL_law_874) ?_
    refine ri_eq (y := pl) (rfl) ?_
    refine lv_iload hx hb dL_law_877 (lv_at hl 1 rfl) ?_
    refine ri_icmp_eq (tgt := 884) hx hb (by omega) dL_law_879 (by decide) (fun _ => ?_) (fun z => absurd rfl z)
    refine lv_iload hx hb dL_law_884 (lv_at hl 1 rfl) ?_
    refine ri_if_ne (tgt := 901) hx hb (by omega) dL_law_886 (by decide) (fun _ => ?_) (fun z => absurd z (by omega))
    refine lv_goto (tgt := 1263) hx hb dL_law_901 (by decide) ?_
    refine W.widen (k := cells + 2) (n := slots + 12) (by omega) (by omega) ?_
    exact K _ _ _ _ _ _ ⟨hP, hW, hQ, hS, Rel_th hR _, hI, MInv_th hMv _⟩ (lv_sub hl [2, 3, 4, 5, 6] rfl)

set_option maxHeartbeats 4000000 in
set_option maxRecDepth 100000 in
theorem lc_move {p : Program} {l : Launch} {e : Env} {s : State} {m : MethodId} {below : List Frame} {meth : Method} {c : Code} {b L : Nat} {xs : Nat → Int32} {D : va_G} {kk : Nat → ClassId} {a a2 : Nat → Nat} {o : Nat} {sa : Nat → Nat} {g mm : Nat → Nat → Int} {f : Nat → Int64} {H : Heap} {locs : List Loc} {i : Int} {cells slots : Nat} {ls : Array Slot} {Q : State → Prop} (C0 : LCx p l s m meth c b L xs D kk a a2 o sa) (S0 : LSt s D kk a a2 o g mm f H locs) (hi : 0 ≤ i ∧ i + 7 ≤ (L : Int)) (hc : cells + 2 ≤ 1053 ∧ slots + 12 ≤ 13902) (hl : lv_has ls 7 [(0, .ref b), (1, .ref (a 0)), (2, .ref (a2 0)), (3, .ref o), (4, .int (iI i))]) (K : ∀ (g mm : Nat → Nat → Int) (f : Nat → Int64) (H : Heap) (locs : List Loc) (ls : Array Slot), LSt s D kk a a2 o g mm f H locs → lv_has ls 7 [(0, .ref b), (1, .ref (a 0)), (2, .ref (a2 0)), (3, .ref o), (4, .int (iI i))] → W p l e room_1 s m (#[Value.ref b] : Array Value) below meth c H locs (cells + 2) (slots + 12) Q (F0 m 1263 ls [])) : W p l e room_1 s m (#[Value.ref b] : Array Value) below meth c H locs cells slots Q (F0 m 904 ls []) := by
  obtain ⟨⟨hx, hb, hml, hown, hts, hX, hbl, hL⟩, ⟨hst, hK, hN, hT, hC⟩, ⟨hA, hA2, hO, hO2, hAB, hsa, hsa2, hso⟩⟩ := C0
  obtain ⟨hP, hW, hQ, hS, hR, hI, hMv⟩ := S0
  have hbA : ¬ (fun q : Nat => s.heap.size ≤ q) b := Nat.not_le.mpr hbl
  have CF : CallFix p m c cL_law 7 s (#[Value.ref b] : Array Value) wsL_law RL := ⟨hx, hb, hml, hown, hts⟩
  have hOA : ∀ q : Nat, oA a o q → s.heap.size ≤ q := fun q h => h.elim (fun ⟨k, hk, e9⟩ => by rw [e9]; exact hsa k hk) (fun e9 => by rw [e9]; exact hso)
  have hMA : ∀ q : Nat, aA 8 a2 q → s.heap.size ≤ q := fun q ⟨k, hk, e9⟩ => by rw [e9]; exact hsa2 k hk
  have hmo : ∀ j, j < 8 → ¬ oA a o (a2 j) := fun j hj z => z.elim (fun ⟨k, hk, e9⟩ => hAB k j hk hj e9.symm) (fun e9 => hO2 j hj e9)
  have hxm : ∀ j, j < 17 → ¬ aA 8 a2 (a j) := fun j hj ⟨k, hk, e9⟩ => hAB j k hj hk e9
  have hom : ¬ aA 8 a2 o := fun ⟨k, hk, e9⟩ => hO2 k hk e9.symm
  have hr1 := i32_r (xs (i + 1).toNat)
  have hr2 := i32_r (xs (i + 2).toNat)
  have hr3 := i32_r (xs (i + 3).toNat)
  refine lv_aload_n hx hb dL_law_904 rfl (lv_at hl 1 rfl) ?_
  refine lv_aload_n hx hb dL_law_905 rfl (lv_at hl 0 rfl) ?_
  refine lv_iload hx hb dL_law_906 (lv_at hl 4 rfl) ?_
  refine ri_iconst hx hb dL_law_908 ?_
  refine ri_iadd hx hb dL_law_909 ?_
  refine ri_sld hx hb hX hbl hbA hS (by omega) (by omega) dL_law_910 ?_
  refine lv_aload_n hx hb dL_law_911 rfl (lv_at hl 0 rfl) ?_
  refine lv_iload hx hb dL_law_912 (lv_at hl 4 rfl) ?_
  refine ri_iconst hx hb dL_law_914 ?_
  refine ri_iadd hx hb dL_law_915 ?_
  refine ri_sld hx hb hX hbl hbA hS (by omega) (by omega) dL_law_916 ?_
  refine lv_aload_n hx hb dL_law_917 rfl (lv_at hl 0 rfl) ?_
  refine lv_iload hx hb dL_law_918 (lv_at hl 4 rfl) ?_
  refine ri_iconst hx hb dL_law_920 ?_
  refine ri_iadd hx hb dL_law_921 ?_
  refine ri_sld hx hb hX hbl hbA hS (by omega) (by omega) dL_law_922 ?_
  refine lv_aload_n hx hb dL_law_923 rfl (lv_at hl 3 rfl) ?_
  generalize hq1 : (xs (i + 1).toNat).toInt = v_b at hr1 ⊢
  generalize hq2 : (xs (i + 2).toNat).toInt = v_t at hr2 ⊢
  generalize hq3 : (xs (i + 3).toNat).toInt = v_n at hr3 ⊢
  by_cases hok : cmpA v_b v_t v_n ∧ g 3 (5 + v_b * 5 + v_t).toNat = 1
  · skip
    refine ri_wi (v := 0) (PP := (fun H => va_P D vwCl (xW a kk (g)) H ∧ va_P D vwCl (outW o kk (vp_updL f 0 (iI (mvN (fitP (px (g 2) v_t) (px (g 2) (5 + v_b * 5 + v_t)) v_n (g 5 v_t.toNat) (g 6 v_t.toNat) (g 7 v_t.toNat) (g 8 v_t.toNat)))).toInt64)) H)) (vx_runSW (As := [.ref (a 0), .int (iI v_b), .int (iI v_t), .int (iI v_n), .ref o]) (rest := []) CF (kL_move_ok l D a kk g sa o f hst v_b v_t v_n hA hO hI hr1 hr2 hr3 hok) (vx_cwSW 5 hts gL_law_L_move rfl rfl rfl ⟨by decide +kernel, by decide +kernel, by decide +kernel⟩ ⟨(Nat.le_of_ble_eq_true rfl), (Nat.le_of_ble_eq_true rfl)⟩) ⟨Bl_pc lB_bl, fun U hU hW9 => ⟨rfl, lB_in hS hOA hT hP hW hK hN hC U hU hW9⟩⟩ rfl rfl hl.1 rfl (lv_room (Nat.le_of_ble_eq_true rfl)) dL_law_924 ⟨by show _ ≤ 1053; omega, by show _ ≤ 13902; omega⟩) hS hOA (fun H locs hB hk hS => ?_)
    obtain ⟨hP, hW⟩ := hB
    replace hQ : va_P D vwCl (mW a2 kk mm) H := hQ.un hk (m_un hmo)
    refine lv_istore (lv' := [(5, .int (iI 0)), (0, .ref b), (1, .ref (a 0)), (2, .ref (a2 0)), (3, .ref o), (4, .int (iI i))]) hx hb dL_law_927 hl (by decide) rfl (fun ls hl => ?_)
    refine lv_aload_n hx hb dL_law_929 rfl (lv_at hl 3 rfl) ?_
    refine lv_aload_n hx hb dL_law_930 rfl (lv_at hl 1 rfl) ?_
    refine lv_iload hx hb dL_law_931 (lv_at hl 5 rfl) ?_
    refine ri_iconst hx hb dL_law_933 ?_
    refine ri_iadd hx hb dL_law_934 ?_
    refine ri_sld hx hb hX hbl hbA hS (by omega) (by omega) dL_law_935 ?_
    refine ri_eq (y := v_b) hq1 ?_
    refine lv_aload_n hx hb dL_law_936 rfl (lv_at hl 1 rfl) ?_
    refine lv_iload hx hb dL_law_937 (lv_at hl 5 rfl) ?_
    refine ri_iconst hx hb dL_law_939 ?_
    refine ri_iadd hx hb dL_law_940 ?_
    refine ri_sld hx hb hX hbl hbA hS (by omega) (by omega) dL_law_941 ?_
    refine ri_eq (y := v_t) hq2 ?_
    refine lv_aload_n hx hb dL_law_942 rfl (lv_at hl 1 rfl) ?_
    refine lv_iload hx hb dL_law_943 (lv_at hl 5 rfl) ?_
    refine ri_iconst hx hb dL_law_945 ?_
    refine ri_iadd hx hb dL_law_946 ?_
    refine ri_sld hx hb hX hbl hbA hS (by omega) (by omega) dL_law_947 ?_
    refine ri_eq (y := v_n) hq3 ?_
    have hokm : ((0 ≤ v_b ∧ v_b ≤ 3) ∧ (0 ≤ v_t ∧ v_t ≤ 4) ∧ (0 ≤ v_n ∧ v_n ≤ 255)) ∧ mm 3 (5 * v_b + v_t).toNat = 1 := ⟨hok.1, ((Rel_hd hR hok.1.1 hok.1.2.1).symm.trans hok.2)⟩
    refine ri_wi (v := mvN (fitP (px (mm 1) v_t) (px (mm 2) (5 * v_b + v_t)) v_n (mm 4 (4 * v_t).toNat) (mm 4 (4 * v_t + 1).toNat) (mm 4 (4 * v_t).toNat + mm 4 (4 * v_t + 2).toNat) (mm 4 (4 * v_t + 1).toNat + mm 4 (4 * v_t + 3).toNat))) (PP := (fun H => va_P D vwCl (mW a2 kk (mvG (thG mm 0) (fitP (px (mm 1) v_t) (px (mm 2) (5 * v_b + v_t)) v_n (mm 4 (4 * v_t).toNat) (mm 4 (4 * v_t + 1).toNat) (mm 4 (4 * v_t).toNat + mm 4 (4 * v_t + 2).toNat) (mm 4 (4 * v_t + 1).toNat + mm 4 (4 * v_t + 3).toNat)))) H)) (ri_runV (b := a2 0) (As := [.int (iI v_b), .int (iI v_t), .int (iI v_n)]) (rest := []) CF (k_X4_move_ok l D a2 kk mm v_b v_t v_n hA2 hMv hr1 hr2 hr3 hokm) gL_law_X4_move f_X4_move rfl (va_recv hK hQ (ci := 4) (q0 := 0) rfl rfl) ⟨rfl, rfl, (Nat.le_of_ble_eq_true rfl), (Nat.le_of_ble_eq_true rfl), by show _ ≤ 1053; omega, by show _ ≤ 13902; omega⟩ wB_bl (wB_in hQ hK hN) rfl hl.1 rfl (Nat.le_of_ble_eq_true rfl) dL_law_948) hS hMA (fun H locs hQ hk hS => ?_)
    replace hQ : va_P D vwCl (mW a2 kk (mvG (thG mm 0) (fitP (px (mm 1) v_t) (px (mm 2) (5 * v_b + v_t)) v_n (mm 4 (4 * v_t).toNat) (mm 4 (4 * v_t + 1).toNat) (mm 4 (4 * v_t).toNat + mm 4 (4 * v_t + 2).toNat) (mm 4 (4 * v_t + 1).toNat + mm 4 (4 * v_t + 3).toNat)))) H := hQ
    replace hP : va_P D vwCl (xW a kk (g)) H := hP.un hk (x_un2 hxm)
    replace hW : va_P D vwCl (outW o kk (vp_updL f 0 (iI (mvN (fitP (px (g 2) v_t) (px (g 2) (5 + v_b * 5 + v_t)) v_n (g 5 v_t.toNat) (g 6 v_t.toNat) (g 7 v_t.toNat) (g 8 v_t.toNat)))).toInt64)) H := hW.un hk (o_un2 hom)
    refine lv_istore (lv' := [(6, .int (iI (mvN (fitP (px (mm 1) v_t) (px (mm 2) (5 * v_b + v_t)) v_n (mm 4 (4 * v_t).toNat) (mm 4 (4 * v_t + 1).toNat) (mm 4 (4 * v_t).toNat + mm 4 (4 * v_t + 2).toNat) (mm 4 (4 * v_t + 1).toNat + mm 4 (4 * v_t + 3).toNat))))), (5, .int (iI 0)), (0, .ref b), (1, .ref (a 0)), (2, .ref (a2 0)), (3, .ref o), (4, .int (iI i))]) hx hb dL_law_951 hl (by decide) rfl (fun ls hl => ?_)
    refine lv_aload_n hx hb dL_law_953 rfl (lv_at hl 4 rfl) ?_
    refine ri_rd (ri_runV (b := a2 0) (As := []) (rest := []) CF (k_X4_thrown l D a2 kk (mvG (thG mm 0) (fitP (px (mm 1) v_t) (px (mm 2) (5 * v_b + v_t)) v_n (mm 4 (4 * v_t).toNat) (mm 4 (4 * v_t + 1).toNat) (mm 4 (4 * v_t).toNat + mm 4 (4 * v_t + 2).toNat) (mm 4 (4 * v_t + 1).toNat + mm 4 (4 * v_t + 3).toNat)))) gL_law_X4_thrown f_X4_thrown rfl (va_recv hK hQ (ci := 4) (q0 := 0) rfl rfl) ⟨rfl, rfl, (Nat.le_of_ble_eq_true rfl), (Nat.le_of_ble_eq_true rfl), by show _ ≤ 1053; omega, by show _ ≤ 13902; omega⟩ wB_bl (wB_in hQ hK hN) rfl hl.1 rfl (Nat.le_of_ble_eq_true rfl) dL_law_954) ?_
    refine ri_eq (y := 0) (rfl) ?_
    refine lv_iload hx hb dL_law_957 (lv_at hl 1 rfl) ?_
    refine ri_icmp_eq (tgt := 964) hx hb (by omega) dL_law_959 (by decide) (fun _ => ?_) (fun z => absurd rfl z)
    refine lv_iload hx hb dL_law_964 (lv_at hl 1 rfl) ?_
    refine ri_if_ne (tgt := 981) hx hb (by omega) dL_law_966 (by decide) (fun z => absurd z (by omega)) (fun _ => ?_)
    refine lv_aload_n hx hb dL_law_969 rfl (lv_at hl 5 rfl) ?_
    refine ri_iconst hx hb dL_law_970 ?_
    refine va_lald hx hb hK hW 0 2 rfl rfl (iI_in (by decide) (by decide)) dL_law_971 ?_
    rw [show (vp_updL f 0 (iI (mvN (fitP (px (g 2) v_t) (px (g 2) (5 + v_b * 5 + v_t)) v_n (g 5 v_t.toNat) (g 6 v_t.toNat) (g 7 v_t.toNat) (g 8 v_t.toNat)))).toInt64) (iI 0).toNatClampNeg = (iI (mvN (fitP (px (g 2) v_t) (px (g 2) (5 + v_b * 5 + v_t)) v_n (g 5 v_t.toNat) (g 6 v_t.toNat) (g 7 v_t.toNat) (g 8 v_t.toNat)))).toInt64 from if_pos rfl, show mvN (fitP (px (g 2) v_t) (px (g 2) (5 + v_b * 5 + v_t)) v_n (g 5 v_t.toNat) (g 6 v_t.toNat) (g 7 v_t.toNat) (g 8 v_t.toNat)) = mvN (fitP (px (mm 1) v_t) (px (mm 2) (5 * v_b + v_t)) v_n (mm 4 (4 * v_t).toNat) (mm 4 (4 * v_t + 1).toNat) (mm 4 (4 * v_t).toNat + mm 4 (4 * v_t + 2).toNat) (mm 4 (4 * v_t + 1).toNat + mm 4 (4 * v_t + 3).toNat)) from congrArg mvN (Rel_F hR hMv hok.1.1 hok.1.2.1 ((Rel_hd hR hok.1.1 hok.1.2.1).symm.trans hok.2))]
    refine lv_iload hx hb dL_law_972 (lv_at hl 0 rfl) ?_
    refine lv_i2l (v := (iI (mvN (fitP (px (mm 1) v_t) (px (mm 2) (5 * v_b + v_t)) v_n (mm 4 (4 * v_t).toNat) (mm 4 (4 * v_t + 1).toNat) (mm 4 (4 * v_t).toNat + mm 4 (4 * v_t + 2).toNat) (mm 4 (4 * v_t + 1).toNat + mm 4 (4 * v_t + 3).toNat)))).toInt64) hx hb dL_law_974 rfl ?_
    refine W.lcmp hx hb dL_law_975 ?_
    rw [cmp_0]
    refine ri_if_eq (tgt := 981) hx hb (by omega) dL_law_976 (by decide) (fun _ => ?_) (fun z => absurd rfl z)
    refine lv_goto (tgt := 1263) hx hb dL_law_981 (by decide) ?_
    refine W.widen (k := cells + 2) (n := slots + 12) (by omega) (by omega) ?_
    exact K _ _ _ _ _ _ ⟨hP, hW, hQ, hS, Rel_mv (Rel_th hR 0) _, hI, MInv_mv _ (MInv_th hMv 0)⟩ (lv_sub hl [2, 3, 4, 5, 6] rfl)
  · skip
    obtain ⟨pl, hno⟩ : ∃ pl : Int, (pl = 1 ∧ ¬ (cmpA v_b v_t v_n)) ∨ (pl = 2 ∧ (cmpA v_b v_t v_n) ∧ ¬ (g 3 (5 + v_b * 5 + v_t).toNat = 1)) := by
      by_cases h9 : cmpA v_b v_t v_n
      · exact ⟨2, Or.inr ⟨rfl, h9, fun z => hok ⟨h9, z⟩⟩⟩
      · exact ⟨1, Or.inl ⟨rfl, h9⟩⟩
    refine ri_wi (v := pl) (PP := (fun H => va_P D vwCl (xW a kk g) H ∧ va_P D vwCl (outW o kk f) H)) (vx_runSW (As := [.ref (a 0), .int (iI v_b), .int (iI v_t), .int (iI v_n), .ref o]) (rest := []) CF (kL_move_no l D a kk g sa o f hst v_b v_t v_n hA hO hI hr1 hr2 hr3 pl hno) (vx_cwSW 5 hts gL_law_L_move rfl rfl rfl ⟨by decide +kernel, by decide +kernel, by decide +kernel⟩ ⟨(Nat.le_of_ble_eq_true rfl), (Nat.le_of_ble_eq_true rfl)⟩) ⟨Bl_pc lB_bl, fun U hU hW9 => ⟨rfl, lB_in hS hOA hT hP hW hK hN hC U hU hW9⟩⟩ rfl rfl hl.1 rfl (lv_room (Nat.le_of_ble_eq_true rfl)) dL_law_924 ⟨by show _ ≤ 1053; omega, by show _ ≤ 13902; omega⟩) hS hOA (fun H locs hB hk hS => ?_)
    obtain ⟨hP, hW⟩ := hB
    replace hQ : va_P D vwCl (mW a2 kk mm) H := hQ.un hk (m_un hmo)
    refine lv_istore (lv' := [(5, .int (iI pl)), (0, .ref b), (1, .ref (a 0)), (2, .ref (a2 0)), (3, .ref o), (4, .int (iI i))]) hx hb dL_law_927 hl (by decide) rfl (fun ls hl => ?_)
    refine lv_aload_n hx hb dL_law_929 rfl (lv_at hl 3 rfl) ?_
    refine lv_aload_n hx hb dL_law_930 rfl (lv_at hl 1 rfl) ?_
    refine lv_iload hx hb dL_law_931 (lv_at hl 5 rfl) ?_
    refine ri_iconst hx hb dL_law_933 ?_
    refine ri_iadd hx hb dL_law_934 ?_
    refine ri_sld hx hb hX hbl hbA hS (by omega) (by omega) dL_law_935 ?_
    refine ri_eq (y := v_b) hq1 ?_
    refine lv_aload_n hx hb dL_law_936 rfl (lv_at hl 1 rfl) ?_
    refine lv_iload hx hb dL_law_937 (lv_at hl 5 rfl) ?_
    refine ri_iconst hx hb dL_law_939 ?_
    refine ri_iadd hx hb dL_law_940 ?_
    refine ri_sld hx hb hX hbl hbA hS (by omega) (by omega) dL_law_941 ?_
    refine ri_eq (y := v_t) hq2 ?_
    refine lv_aload_n hx hb dL_law_942 rfl (lv_at hl 1 rfl) ?_
    refine lv_iload hx hb dL_law_943 (lv_at hl 5 rfl) ?_
    refine ri_iconst hx hb dL_law_945 ?_
    refine ri_iadd hx hb dL_law_946 ?_
    refine ri_sld hx hb hX hbl hbA hS (by omega) (by omega) dL_law_947 ?_
    refine ri_eq (y := v_n) hq3 ?_
    have hnom : (pl = 1 ∧ ¬ ((0 ≤ v_b ∧ v_b ≤ 3) ∧ (0 ≤ v_t ∧ v_t ≤ 4) ∧ (0 ≤ v_n ∧ v_n ≤ 255))) ∨ (pl = 2 ∧ ((0 ≤ v_b ∧ v_b ≤ 3) ∧ (0 ≤ v_t ∧ v_t ≤ 4) ∧ (0 ≤ v_n ∧ v_n ≤ 255)) ∧ ¬ mm 3 (5 * v_b + v_t).toNat = 1) := hno.elim Or.inl (fun z => Or.inr ⟨z.1, z.2.1, fun y => z.2.2 ((Rel_hd hR z.2.1.1 z.2.1.2.1).trans y)⟩)
    refine ri_wi (v := 0) (PP := (fun H => va_P D vwCl (mW a2 kk (thG mm pl)) H)) (ri_runV (b := a2 0) (As := [.int (iI v_b), .int (iI v_t), .int (iI v_n)]) (rest := []) CF (k_X4_move_no l D a2 kk mm pl v_b v_t v_n hA2 hMv hr1 hr2 hr3 hnom) gL_law_X4_move f_X4_move rfl (va_recv hK hQ (ci := 4) (q0 := 0) rfl rfl) ⟨rfl, rfl, (Nat.le_of_ble_eq_true rfl), (Nat.le_of_ble_eq_true rfl), by show _ ≤ 1053; omega, by show _ ≤ 13902; omega⟩ wB_bl (wB_in hQ hK hN) rfl hl.1 rfl (Nat.le_of_ble_eq_true rfl) dL_law_948) hS hMA (fun H locs hQ hk hS => ?_)
    replace hQ : va_P D vwCl (mW a2 kk (thG mm pl)) H := hQ
    replace hP : va_P D vwCl (xW a kk (g)) H := hP.un hk (x_un2 hxm)
    replace hW : va_P D vwCl (outW o kk (f)) H := hW.un hk (o_un2 hom)
    refine lv_istore (lv' := [(6, .int (iI 0)), (5, .int (iI pl)), (0, .ref b), (1, .ref (a 0)), (2, .ref (a2 0)), (3, .ref o), (4, .int (iI i))]) hx hb dL_law_951 hl (by decide) rfl (fun ls hl => ?_)
    refine lv_aload_n hx hb dL_law_953 rfl (lv_at hl 4 rfl) ?_
    refine ri_rd (ri_runV (b := a2 0) (As := []) (rest := []) CF (k_X4_thrown l D a2 kk (thG mm pl)) gL_law_X4_thrown f_X4_thrown rfl (va_recv hK hQ (ci := 4) (q0 := 0) rfl rfl) ⟨rfl, rfl, (Nat.le_of_ble_eq_true rfl), (Nat.le_of_ble_eq_true rfl), by show _ ≤ 1053; omega, by show _ ≤ 13902; omega⟩ wB_bl (wB_in hQ hK hN) rfl hl.1 rfl (Nat.le_of_ble_eq_true rfl) dL_law_954) ?_
    refine ri_eq (y := pl) (rfl) ?_
    refine lv_iload hx hb dL_law_957 (lv_at hl 1 rfl) ?_
    refine ri_icmp_eq (tgt := 964) hx hb (by omega) dL_law_959 (by decide) (fun _ => ?_) (fun z => absurd rfl z)
    refine lv_iload hx hb dL_law_964 (lv_at hl 1 rfl) ?_
    refine ri_if_ne (tgt := 981) hx hb (by omega) dL_law_966 (by decide) (fun _ => ?_) (fun z => absurd z (by omega))
    refine lv_goto (tgt := 1263) hx hb dL_law_981 (by decide) ?_
    refine W.widen (k := cells + 2) (n := slots + 12) (by omega) (by omega) ?_
    exact K _ _ _ _ _ _ ⟨hP, hW, hQ, hS, Rel_th hR _, hI, MInv_th hMv _⟩ (lv_sub hl [2, 3, 4, 5, 6] rfl)

set_option maxHeartbeats 4000000 in
set_option maxRecDepth 100000 in
theorem lc_soft {p : Program} {l : Launch} {e : Env} {s : State} {m : MethodId} {below : List Frame} {meth : Method} {c : Code} {b L : Nat} {xs : Nat → Int32} {D : va_G} {kk : Nat → ClassId} {a a2 : Nat → Nat} {o : Nat} {sa : Nat → Nat} {g mm : Nat → Nat → Int} {f : Nat → Int64} {H : Heap} {locs : List Loc} {i : Int} {cells slots : Nat} {ls : Array Slot} {Q : State → Prop} (C0 : LCx p l s m meth c b L xs D kk a a2 o sa) (S0 : LSt s D kk a a2 o g mm f H locs) (hi : 0 ≤ i ∧ i + 7 ≤ (L : Int)) (hc : cells + 2 ≤ 1053 ∧ slots + 12 ≤ 13902) (hl : lv_has ls 7 [(0, .ref b), (1, .ref (a 0)), (2, .ref (a2 0)), (3, .ref o), (4, .int (iI i))]) (K : ∀ (g mm : Nat → Nat → Int) (f : Nat → Int64) (H : Heap) (locs : List Loc) (ls : Array Slot), LSt s D kk a a2 o g mm f H locs → lv_has ls 7 [(0, .ref b), (1, .ref (a 0)), (2, .ref (a2 0)), (3, .ref o), (4, .int (iI i))] → W p l e room_1 s m (#[Value.ref b] : Array Value) below meth c H locs (cells + 2) (slots + 12) Q (F0 m 1263 ls [])) : W p l e room_1 s m (#[Value.ref b] : Array Value) below meth c H locs cells slots Q (F0 m 984 ls []) := by
  obtain ⟨⟨hx, hb, hml, hown, hts, hX, hbl, hL⟩, ⟨hst, hK, hN, hT, hC⟩, ⟨hA, hA2, hO, hO2, hAB, hsa, hsa2, hso⟩⟩ := C0
  obtain ⟨hP, hW, hQ, hS, hR, hI, hMv⟩ := S0
  have hbA : ¬ (fun q : Nat => s.heap.size ≤ q) b := Nat.not_le.mpr hbl
  have CF : CallFix p m c cL_law 7 s (#[Value.ref b] : Array Value) wsL_law RL := ⟨hx, hb, hml, hown, hts⟩
  have hOA : ∀ q : Nat, oA a o q → s.heap.size ≤ q := fun q h => h.elim (fun ⟨k, hk, e9⟩ => by rw [e9]; exact hsa k hk) (fun e9 => by rw [e9]; exact hso)
  have hMA : ∀ q : Nat, aA 8 a2 q → s.heap.size ≤ q := fun q ⟨k, hk, e9⟩ => by rw [e9]; exact hsa2 k hk
  have hmo : ∀ j, j < 8 → ¬ oA a o (a2 j) := fun j hj z => z.elim (fun ⟨k, hk, e9⟩ => hAB k j hk hj e9.symm) (fun e9 => hO2 j hj e9)
  have hxm : ∀ j, j < 17 → ¬ aA 8 a2 (a j) := fun j hj ⟨k, hk, e9⟩ => hAB j k hj hk e9
  have hom : ¬ aA 8 a2 o := fun ⟨k, hk, e9⟩ => hO2 k hk e9.symm
  have hr1 := i32_r (xs (i + 1).toNat)
  have hr2 := i32_r (xs (i + 2).toNat)
  have hr3 := i32_r (xs (i + 3).toNat)
  refine lv_aload_n hx hb dL_law_984 rfl (lv_at hl 1 rfl) ?_
  refine lv_aload_n hx hb dL_law_985 rfl (lv_at hl 0 rfl) ?_
  refine lv_iload hx hb dL_law_986 (lv_at hl 4 rfl) ?_
  refine ri_iconst hx hb dL_law_988 ?_
  refine ri_iadd hx hb dL_law_989 ?_
  refine ri_sld hx hb hX hbl hbA hS (by omega) (by omega) dL_law_990 ?_
  refine lv_aload_n hx hb dL_law_991 rfl (lv_at hl 0 rfl) ?_
  refine lv_iload hx hb dL_law_992 (lv_at hl 4 rfl) ?_
  refine ri_iconst hx hb dL_law_994 ?_
  refine ri_iadd hx hb dL_law_995 ?_
  refine ri_sld hx hb hX hbl hbA hS (by omega) (by omega) dL_law_996 ?_
  refine lv_aload_n hx hb dL_law_997 rfl (lv_at hl 0 rfl) ?_
  refine lv_iload hx hb dL_law_998 (lv_at hl 4 rfl) ?_
  refine ri_iconst hx hb dL_law_1000 ?_
  refine ri_iadd hx hb dL_law_1001 ?_
  refine ri_sld hx hb hX hbl hbA hS (by omega) (by omega) dL_law_1002 ?_
  refine lv_aload_n hx hb dL_law_1003 rfl (lv_at hl 3 rfl) ?_
  generalize hq1 : (xs (i + 1).toNat).toInt = v_b at hr1 ⊢
  generalize hq2 : (xs (i + 2).toNat).toInt = v_t at hr2 ⊢
  generalize hq3 : (xs (i + 3).toNat).toInt = v_n at hr3 ⊢
  by_cases hok : cmpA v_b v_t v_n ∧ g 3 (5 + v_b * 5 + v_t).toNat = 1
  · skip
    refine ri_wi (v := 0) (PP := (fun H => va_P D vwCl (xW a kk (g)) H ∧ va_P D vwCl (outW o kk (vp_updL f 0 (iI (cntE (sofD (px (g 2) v_t) (px (g 2) (5 + v_b * 5 + v_t)) v_n) 64)).toInt64)) H)) (vx_runSW (As := [.ref (a 0), .int (iI v_b), .int (iI v_t), .int (iI v_n), .ref o]) (rest := []) CF (kL_soft_ok l D a kk g sa o f hst v_b v_t v_n hA hO hI hr1 hr2 hr3 hok) (vx_cwSW 5 hts gL_law_L_soft rfl rfl rfl ⟨by decide +kernel, by decide +kernel, by decide +kernel⟩ ⟨(Nat.le_of_ble_eq_true rfl), (Nat.le_of_ble_eq_true rfl)⟩) ⟨Bl_pc lB_bl, fun U hU hW9 => ⟨rfl, lB_in hS hOA hT hP hW hK hN hC U hU hW9⟩⟩ rfl rfl hl.1 rfl (lv_room (Nat.le_of_ble_eq_true rfl)) dL_law_1004 ⟨by show _ ≤ 1053; omega, by show _ ≤ 13902; omega⟩) hS hOA (fun H locs hB hk hS => ?_)
    obtain ⟨hP, hW⟩ := hB
    replace hQ : va_P D vwCl (mW a2 kk mm) H := hQ.un hk (m_un hmo)
    refine lv_istore (lv' := [(5, .int (iI 0)), (0, .ref b), (1, .ref (a 0)), (2, .ref (a2 0)), (3, .ref o), (4, .int (iI i))]) hx hb dL_law_1007 hl (by decide) rfl (fun ls hl => ?_)
    refine lv_aload_n hx hb dL_law_1009 rfl (lv_at hl 3 rfl) ?_
    refine lv_aload_n hx hb dL_law_1010 rfl (lv_at hl 1 rfl) ?_
    refine lv_iload hx hb dL_law_1011 (lv_at hl 5 rfl) ?_
    refine ri_iconst hx hb dL_law_1013 ?_
    refine ri_iadd hx hb dL_law_1014 ?_
    refine ri_sld hx hb hX hbl hbA hS (by omega) (by omega) dL_law_1015 ?_
    refine ri_eq (y := v_b) hq1 ?_
    refine lv_aload_n hx hb dL_law_1016 rfl (lv_at hl 1 rfl) ?_
    refine lv_iload hx hb dL_law_1017 (lv_at hl 5 rfl) ?_
    refine ri_iconst hx hb dL_law_1019 ?_
    refine ri_iadd hx hb dL_law_1020 ?_
    refine ri_sld hx hb hX hbl hbA hS (by omega) (by omega) dL_law_1021 ?_
    refine ri_eq (y := v_t) hq2 ?_
    refine lv_aload_n hx hb dL_law_1022 rfl (lv_at hl 1 rfl) ?_
    refine lv_iload hx hb dL_law_1023 (lv_at hl 5 rfl) ?_
    refine ri_iconst hx hb dL_law_1025 ?_
    refine ri_iadd hx hb dL_law_1026 ?_
    refine ri_sld hx hb hX hbl hbA hS (by omega) (by omega) dL_law_1027 ?_
    refine ri_eq (y := v_n) hq3 ?_
    have hokm : ((0 ≤ v_b ∧ v_b ≤ 3) ∧ (0 ≤ v_t ∧ v_t ≤ 4) ∧ (0 ≤ v_n ∧ v_n ≤ 255)) ∧ mm 3 (5 * v_b + v_t).toNat = 1 := ⟨hok.1, ((Rel_hd hR hok.1.1 hok.1.2.1).symm.trans hok.2)⟩
    refine ri_wi (v := cntE (sofD (px (mm 1) v_t) (px (mm 2) (5 * v_b + v_t)) v_n) 64) (PP := (fun H => va_P D vwCl (mW a2 kk (mvG (thG mm 0) (fitP (px (mm 1) v_t) (px (mm 2) (5 * v_b + v_t)) v_n (mm 4 (4 * v_t).toNat) (mm 4 (4 * v_t + 1).toNat) (mm 4 (4 * v_t).toNat + mm 4 (4 * v_t + 2).toNat) (mm 4 (4 * v_t + 1).toNat + mm 4 (4 * v_t + 3).toNat)))) H)) (ri_runV (b := a2 0) (As := [.int (iI v_b), .int (iI v_t), .int (iI v_n)]) (rest := []) CF (k_X4_soft_ok l D a2 kk mm v_b v_t v_n hA2 hMv hr1 hr2 hr3 hokm) gL_law_X4_soft f_X4_soft rfl (va_recv hK hQ (ci := 4) (q0 := 0) rfl rfl) ⟨rfl, rfl, (Nat.le_of_ble_eq_true rfl), (Nat.le_of_ble_eq_true rfl), by show _ ≤ 1053; omega, by show _ ≤ 13902; omega⟩ wB_bl (wB_in hQ hK hN) rfl hl.1 rfl (Nat.le_of_ble_eq_true rfl) dL_law_1028) hS hMA (fun H locs hQ hk hS => ?_)
    replace hQ : va_P D vwCl (mW a2 kk (mvG (thG mm 0) (fitP (px (mm 1) v_t) (px (mm 2) (5 * v_b + v_t)) v_n (mm 4 (4 * v_t).toNat) (mm 4 (4 * v_t + 1).toNat) (mm 4 (4 * v_t).toNat + mm 4 (4 * v_t + 2).toNat) (mm 4 (4 * v_t + 1).toNat + mm 4 (4 * v_t + 3).toNat)))) H := hQ
    replace hP : va_P D vwCl (xW a kk (g)) H := hP.un hk (x_un2 hxm)
    replace hW : va_P D vwCl (outW o kk (vp_updL f 0 (iI (cntE (sofD (px (g 2) v_t) (px (g 2) (5 + v_b * 5 + v_t)) v_n) 64)).toInt64)) H := hW.un hk (o_un2 hom)
    refine lv_istore (lv' := [(6, .int (iI (cntE (sofD (px (mm 1) v_t) (px (mm 2) (5 * v_b + v_t)) v_n) 64))), (5, .int (iI 0)), (0, .ref b), (1, .ref (a 0)), (2, .ref (a2 0)), (3, .ref o), (4, .int (iI i))]) hx hb dL_law_1031 hl (by decide) rfl (fun ls hl => ?_)
    refine lv_aload_n hx hb dL_law_1033 rfl (lv_at hl 4 rfl) ?_
    refine ri_rd (ri_runV (b := a2 0) (As := []) (rest := []) CF (k_X4_thrown l D a2 kk (mvG (thG mm 0) (fitP (px (mm 1) v_t) (px (mm 2) (5 * v_b + v_t)) v_n (mm 4 (4 * v_t).toNat) (mm 4 (4 * v_t + 1).toNat) (mm 4 (4 * v_t).toNat + mm 4 (4 * v_t + 2).toNat) (mm 4 (4 * v_t + 1).toNat + mm 4 (4 * v_t + 3).toNat)))) gL_law_X4_thrown f_X4_thrown rfl (va_recv hK hQ (ci := 4) (q0 := 0) rfl rfl) ⟨rfl, rfl, (Nat.le_of_ble_eq_true rfl), (Nat.le_of_ble_eq_true rfl), by show _ ≤ 1053; omega, by show _ ≤ 13902; omega⟩ wB_bl (wB_in hQ hK hN) rfl hl.1 rfl (Nat.le_of_ble_eq_true rfl) dL_law_1034) ?_
    refine ri_eq (y := 0) (rfl) ?_
    refine lv_iload hx hb dL_law_1037 (lv_at hl 1 rfl) ?_
    refine ri_icmp_eq (tgt := 1044) hx hb (by omega) dL_law_1039 (by decide) (fun _ => ?_) (fun z => absurd rfl z)
    refine lv_iload hx hb dL_law_1044 (lv_at hl 1 rfl) ?_
    refine ri_if_ne (tgt := 1061) hx hb (by omega) dL_law_1046 (by decide) (fun z => absurd z (by omega)) (fun _ => ?_)
    refine lv_aload_n hx hb dL_law_1049 rfl (lv_at hl 5 rfl) ?_
    refine ri_iconst hx hb dL_law_1050 ?_
    refine va_lald hx hb hK hW 0 2 rfl rfl (iI_in (by decide) (by decide)) dL_law_1051 ?_
    rw [show (vp_updL f 0 (iI (cntE (sofD (px (g 2) v_t) (px (g 2) (5 + v_b * 5 + v_t)) v_n) 64)).toInt64) (iI 0).toNatClampNeg = (iI (cntE (sofD (px (g 2) v_t) (px (g 2) (5 + v_b * 5 + v_t)) v_n) 64)).toInt64 from if_pos rfl, show cntE (sofD (px (g 2) v_t) (px (g 2) (5 + v_b * 5 + v_t)) v_n) 64 = cntE (sofD (px (mm 1) v_t) (px (mm 2) (5 * v_b + v_t)) v_n) 64 from cntE_c (Rel_S hR hok.1.1 hok.1.2.1 ((Rel_hd hR hok.1.1 hok.1.2.1).symm.trans hok.2)) 64 (Nat.le_refl _)]
    refine lv_iload hx hb dL_law_1052 (lv_at hl 0 rfl) ?_
    refine lv_i2l (v := (iI (cntE (sofD (px (mm 1) v_t) (px (mm 2) (5 * v_b + v_t)) v_n) 64)).toInt64) hx hb dL_law_1054 rfl ?_
    refine W.lcmp hx hb dL_law_1055 ?_
    rw [cmp_0]
    refine ri_if_eq (tgt := 1061) hx hb (by omega) dL_law_1056 (by decide) (fun _ => ?_) (fun z => absurd rfl z)
    refine lv_goto (tgt := 1263) hx hb dL_law_1061 (by decide) ?_
    refine W.widen (k := cells + 2) (n := slots + 12) (by omega) (by omega) ?_
    exact K _ _ _ _ _ _ ⟨hP, hW, hQ, hS, Rel_mv (Rel_th hR 0) _, hI, MInv_mv _ (MInv_th hMv 0)⟩ (lv_sub hl [2, 3, 4, 5, 6] rfl)
  · skip
    obtain ⟨pl, hno⟩ : ∃ pl : Int, (pl = 1 ∧ ¬ (cmpA v_b v_t v_n)) ∨ (pl = 2 ∧ (cmpA v_b v_t v_n) ∧ ¬ (g 3 (5 + v_b * 5 + v_t).toNat = 1)) := by
      by_cases h9 : cmpA v_b v_t v_n
      · exact ⟨2, Or.inr ⟨rfl, h9, fun z => hok ⟨h9, z⟩⟩⟩
      · exact ⟨1, Or.inl ⟨rfl, h9⟩⟩
    refine ri_wi (v := pl) (PP := (fun H => va_P D vwCl (xW a kk g) H ∧ va_P D vwCl (outW o kk f) H)) (vx_runSW (As := [.ref (a 0), .int (iI v_b), .int (iI v_t), .int (iI v_n), .ref o]) (rest := []) CF (kL_soft_no l D a kk g sa o f hst v_b v_t v_n hA hO hI hr1 hr2 hr3 pl hno) (vx_cwSW 5 hts gL_law_L_soft rfl rfl rfl ⟨by decide +kernel, by decide +kernel, by decide +kernel⟩ ⟨(Nat.le_of_ble_eq_true rfl), (Nat.le_of_ble_eq_true rfl)⟩) ⟨Bl_pc lB_bl, fun U hU hW9 => ⟨rfl, lB_in hS hOA hT hP hW hK hN hC U hU hW9⟩⟩ rfl rfl hl.1 rfl (lv_room (Nat.le_of_ble_eq_true rfl)) dL_law_1004 ⟨by show _ ≤ 1053; omega, by show _ ≤ 13902; omega⟩) hS hOA (fun H locs hB hk hS => ?_)
    obtain ⟨hP, hW⟩ := hB
    replace hQ : va_P D vwCl (mW a2 kk mm) H := hQ.un hk (m_un hmo)
    refine lv_istore (lv' := [(5, .int (iI pl)), (0, .ref b), (1, .ref (a 0)), (2, .ref (a2 0)), (3, .ref o), (4, .int (iI i))]) hx hb dL_law_1007 hl (by decide) rfl (fun ls hl => ?_)
    refine lv_aload_n hx hb dL_law_1009 rfl (lv_at hl 3 rfl) ?_
    refine lv_aload_n hx hb dL_law_1010 rfl (lv_at hl 1 rfl) ?_
    refine lv_iload hx hb dL_law_1011 (lv_at hl 5 rfl) ?_
    refine ri_iconst hx hb dL_law_1013 ?_
    refine ri_iadd hx hb dL_law_1014 ?_
    refine ri_sld hx hb hX hbl hbA hS (by omega) (by omega) dL_law_1015 ?_
    refine ri_eq (y := v_b) hq1 ?_
    refine lv_aload_n hx hb dL_law_1016 rfl (lv_at hl 1 rfl) ?_
    refine lv_iload hx hb dL_law_1017 (lv_at hl 5 rfl) ?_
    refine ri_iconst hx hb dL_law_1019 ?_
    refine ri_iadd hx hb dL_law_1020 ?_
    refine ri_sld hx hb hX hbl hbA hS (by omega) (by omega) dL_law_1021 ?_
    refine ri_eq (y := v_t) hq2 ?_
    refine lv_aload_n hx hb dL_law_1022 rfl (lv_at hl 1 rfl) ?_
    refine lv_iload hx hb dL_law_1023 (lv_at hl 5 rfl) ?_
    refine ri_iconst hx hb dL_law_1025 ?_
    refine ri_iadd hx hb dL_law_1026 ?_
    refine ri_sld hx hb hX hbl hbA hS (by omega) (by omega) dL_law_1027 ?_
    refine ri_eq (y := v_n) hq3 ?_
    have hnom : (pl = 1 ∧ ¬ ((0 ≤ v_b ∧ v_b ≤ 3) ∧ (0 ≤ v_t ∧ v_t ≤ 4) ∧ (0 ≤ v_n ∧ v_n ≤ 255))) ∨ (pl = 2 ∧ ((0 ≤ v_b ∧ v_b ≤ 3) ∧ (0 ≤ v_t ∧ v_t ≤ 4) ∧ (0 ≤ v_n ∧ v_n ≤ 255)) ∧ ¬ mm 3 (5 * v_b + v_t).toNat = 1) := hno.elim Or.inl (fun z => Or.inr ⟨z.1, z.2.1, fun y => z.2.2 ((Rel_hd hR z.2.1.1 z.2.1.2.1).trans y)⟩)
    refine ri_wi (v := 0) (PP := (fun H => va_P D vwCl (mW a2 kk (thG mm pl)) H)) (ri_runV (b := a2 0) (As := [.int (iI v_b), .int (iI v_t), .int (iI v_n)]) (rest := []) CF (k_X4_soft_no l D a2 kk mm pl v_b v_t v_n hA2 hMv hr1 hr2 hr3 hnom) gL_law_X4_soft f_X4_soft rfl (va_recv hK hQ (ci := 4) (q0 := 0) rfl rfl) ⟨rfl, rfl, (Nat.le_of_ble_eq_true rfl), (Nat.le_of_ble_eq_true rfl), by show _ ≤ 1053; omega, by show _ ≤ 13902; omega⟩ wB_bl (wB_in hQ hK hN) rfl hl.1 rfl (Nat.le_of_ble_eq_true rfl) dL_law_1028) hS hMA (fun H locs hQ hk hS => ?_)
    replace hQ : va_P D vwCl (mW a2 kk (thG mm pl)) H := hQ
    replace hP : va_P D vwCl (xW a kk (g)) H := hP.un hk (x_un2 hxm)
    replace hW : va_P D vwCl (outW o kk (f)) H := hW.un hk (o_un2 hom)
    refine lv_istore (lv' := [(6, .int (iI 0)), (5, .int (iI pl)), (0, .ref b), (1, .ref (a 0)), (2, .ref (a2 0)), (3, .ref o), (4, .int (iI i))]) hx hb dL_law_1031 hl (by decide) rfl (fun ls hl => ?_)
    refine lv_aload_n hx hb dL_law_1033 rfl (lv_at hl 4 rfl) ?_
    refine ri_rd (ri_runV (b := a2 0) (As := []) (rest := []) CF (k_X4_thrown l D a2 kk (thG mm pl)) gL_law_X4_thrown f_X4_thrown rfl (va_recv hK hQ (ci := 4) (q0 := 0) rfl rfl) ⟨rfl, rfl, (Nat.le_of_ble_eq_true rfl), (Nat.le_of_ble_eq_true rfl), by show _ ≤ 1053; omega, by show _ ≤ 13902; omega⟩ wB_bl (wB_in hQ hK hN) rfl hl.1 rfl (Nat.le_of_ble_eq_true rfl) dL_law_1034) ?_
    refine ri_eq (y := pl) (rfl) ?_
    refine lv_iload hx hb dL_law_1037 (lv_at hl 1 rfl) ?_
    refine ri_icmp_eq (tgt := 1044) hx hb (by omega) dL_law_1039 (by decide) (fun _ => ?_) (fun z => absurd rfl z)
    refine lv_iload hx hb dL_law_1044 (lv_at hl 1 rfl) ?_
    refine ri_if_ne (tgt := 1061) hx hb (by omega) dL_law_1046 (by decide) (fun _ => ?_) (fun z => absurd z (by omega))
    refine lv_goto (tgt := 1263) hx hb dL_law_1061 (by decide) ?_
    refine W.widen (k := cells + 2) (n := slots + 12) (by omega) (by omega) ?_
    exact K _ _ _ _ _ _ ⟨hP, hW, hQ, hS, Rel_th hR _, hI, MInv_th hMv _⟩ (lv_sub hl [2, 3, 4, 5, 6] rfl)

set_option maxHeartbeats 4000000 in
set_option maxRecDepth 100000 in
theorem lc_run {p : Program} {l : Launch} {e : Env} {s : State} {m : MethodId} {below : List Frame} {meth : Method} {c : Code} {b L : Nat} {xs : Nat → Int32} {D : va_G} {kk : Nat → ClassId} {a a2 : Nat → Nat} {o : Nat} {sa : Nat → Nat} {g mm : Nat → Nat → Int} {f : Nat → Int64} {H : Heap} {locs : List Loc} {i : Int} {cells slots : Nat} {ls : Array Slot} {Q : State → Prop} (C0 : LCx p l s m meth c b L xs D kk a a2 o sa) (S0 : LSt s D kk a a2 o g mm f H locs) (hi : 0 ≤ i ∧ i + 7 ≤ (L : Int)) (hc : cells + 2 ≤ 1053 ∧ slots + 12 ≤ 13902) (hl : lv_has ls 7 [(0, .ref b), (1, .ref (a 0)), (2, .ref (a2 0)), (3, .ref o), (4, .int (iI i))]) (K : ∀ (g mm : Nat → Nat → Int) (f : Nat → Int64) (H : Heap) (locs : List Loc) (ls : Array Slot), LSt s D kk a a2 o g mm f H locs → lv_has ls 7 [(0, .ref b), (1, .ref (a 0)), (2, .ref (a2 0)), (3, .ref o), (4, .int (iI i))] → W p l e room_1 s m (#[Value.ref b] : Array Value) below meth c H locs (cells + 2) (slots + 12) Q (F0 m 1263 ls [])) : W p l e room_1 s m (#[Value.ref b] : Array Value) below meth c H locs cells slots Q (F0 m 1064 ls []) := by
  obtain ⟨⟨hx, hb, hml, hown, hts, hX, hbl, hL⟩, ⟨hst, hK, hN, hT, hC⟩, ⟨hA, hA2, hO, hO2, hAB, hsa, hsa2, hso⟩⟩ := C0
  obtain ⟨hP, hW, hQ, hS, hR, hI, hMv⟩ := S0
  have hbA : ¬ (fun q : Nat => s.heap.size ≤ q) b := Nat.not_le.mpr hbl
  have CF : CallFix p m c cL_law 7 s (#[Value.ref b] : Array Value) wsL_law RL := ⟨hx, hb, hml, hown, hts⟩
  have hOA : ∀ q : Nat, oA a o q → s.heap.size ≤ q := fun q h => h.elim (fun ⟨k, hk, e9⟩ => by rw [e9]; exact hsa k hk) (fun e9 => by rw [e9]; exact hso)
  have hMA : ∀ q : Nat, aA 8 a2 q → s.heap.size ≤ q := fun q ⟨k, hk, e9⟩ => by rw [e9]; exact hsa2 k hk
  have hmo : ∀ j, j < 8 → ¬ oA a o (a2 j) := fun j hj z => z.elim (fun ⟨k, hk, e9⟩ => hAB k j hk hj e9.symm) (fun e9 => hO2 j hj e9)
  have hxm : ∀ j, j < 17 → ¬ aA 8 a2 (a j) := fun j hj ⟨k, hk, e9⟩ => hAB j k hj hk e9
  have hom : ¬ aA 8 a2 o := fun ⟨k, hk, e9⟩ => hO2 k hk e9.symm
  have hr1 := i32_r (xs (i + 1).toNat)
  have hr2 := i32_r (xs (i + 2).toNat)
  have hr3 := i32_r (xs (i + 3).toNat)
  refine lv_aload_n hx hb dL_law_1064 rfl (lv_at hl 1 rfl) ?_
  refine lv_aload_n hx hb dL_law_1065 rfl (lv_at hl 0 rfl) ?_
  refine lv_iload hx hb dL_law_1066 (lv_at hl 4 rfl) ?_
  refine ri_iconst hx hb dL_law_1068 ?_
  refine ri_iadd hx hb dL_law_1069 ?_
  refine ri_sld hx hb hX hbl hbA hS (by omega) (by omega) dL_law_1070 ?_
  refine lv_aload_n hx hb dL_law_1071 rfl (lv_at hl 0 rfl) ?_
  refine lv_iload hx hb dL_law_1072 (lv_at hl 4 rfl) ?_
  refine ri_iconst hx hb dL_law_1074 ?_
  refine ri_iadd hx hb dL_law_1075 ?_
  refine ri_sld hx hb hX hbl hbA hS (by omega) (by omega) dL_law_1076 ?_
  refine lv_aload_n hx hb dL_law_1077 rfl (lv_at hl 0 rfl) ?_
  refine lv_iload hx hb dL_law_1078 (lv_at hl 4 rfl) ?_
  refine ri_iconst hx hb dL_law_1080 ?_
  refine ri_iadd hx hb dL_law_1081 ?_
  refine ri_sld hx hb hX hbl hbA hS (by omega) (by omega) dL_law_1082 ?_
  refine lv_aload_n hx hb dL_law_1083 rfl (lv_at hl 3 rfl) ?_
  generalize hq1 : (xs (i + 1).toNat).toInt = v_b at hr1 ⊢
  generalize hq2 : (xs (i + 2).toNat).toInt = v_t at hr2 ⊢
  generalize hq3 : (xs (i + 3).toNat).toInt = v_n at hr3 ⊢
  by_cases hok : cmpA v_b v_t v_n ∧ g 3 (5 + v_b * 5 + v_t).toNat = 1
  · skip
    refine ri_wi (v := 0) (PP := (fun H => va_P D vwCl (xW a kk (hisG g v_t (bp (fdE (cmpD (px (g 2) v_t) (px (g 2) (5 + v_b * 5 + v_t)) v_n (g 5 v_t.toNat) (g 6 v_t.toNat) (g 7 v_t.toNat) (g 8 v_t.toNat) (g 10 v_t.toNat) (g 11 v_t.toNat) (g 12 v_t.toNat) (g 13 v_t.toNat)) < 0)))) H ∧ va_P D vwCl (outW o kk (vp_updL f 0 (iI (bp (fdE (cmpD (px (g 2) v_t) (px (g 2) (5 + v_b * 5 + v_t)) v_n (g 5 v_t.toNat) (g 6 v_t.toNat) (g 7 v_t.toNat) (g 8 v_t.toNat) (g 10 v_t.toNat) (g 11 v_t.toNat) (g 12 v_t.toNat) (g 13 v_t.toNat)) < 0))).toInt64)) H)) (vx_runSW (As := [.ref (a 0), .int (iI v_b), .int (iI v_t), .int (iI v_n), .ref o]) (rest := []) CF (kL_run_ok l D a kk g sa o f hst v_b v_t v_n hA hO hI hr1 hr2 hr3 hok) (vx_cwSW 5 hts gL_law_L_run rfl rfl rfl ⟨by decide +kernel, by decide +kernel, by decide +kernel⟩ ⟨(Nat.le_of_ble_eq_true rfl), (Nat.le_of_ble_eq_true rfl)⟩) ⟨Bl_pc lB_bl, fun U hU hW9 => ⟨rfl, lB_in hS hOA hT hP hW hK hN hC U hU hW9⟩⟩ rfl rfl hl.1 rfl (lv_room (Nat.le_of_ble_eq_true rfl)) dL_law_1084 ⟨by show _ ≤ 1053; omega, by show _ ≤ 13902; omega⟩) hS hOA (fun H locs hB hk hS => ?_)
    obtain ⟨hP, hW⟩ := hB
    replace hQ : va_P D vwCl (mW a2 kk mm) H := hQ.un hk (m_un hmo)
    refine lv_istore (lv' := [(5, .int (iI 0)), (0, .ref b), (1, .ref (a 0)), (2, .ref (a2 0)), (3, .ref o), (4, .int (iI i))]) hx hb dL_law_1087 hl (by decide) rfl (fun ls hl => ?_)
    refine lv_aload_n hx hb dL_law_1089 rfl (lv_at hl 3 rfl) ?_
    refine lv_aload_n hx hb dL_law_1090 rfl (lv_at hl 1 rfl) ?_
    refine lv_iload hx hb dL_law_1091 (lv_at hl 5 rfl) ?_
    refine ri_iconst hx hb dL_law_1093 ?_
    refine ri_iadd hx hb dL_law_1094 ?_
    refine ri_sld hx hb hX hbl hbA hS (by omega) (by omega) dL_law_1095 ?_
    refine ri_eq (y := v_b) hq1 ?_
    refine lv_aload_n hx hb dL_law_1096 rfl (lv_at hl 1 rfl) ?_
    refine lv_iload hx hb dL_law_1097 (lv_at hl 5 rfl) ?_
    refine ri_iconst hx hb dL_law_1099 ?_
    refine ri_iadd hx hb dL_law_1100 ?_
    refine ri_sld hx hb hX hbl hbA hS (by omega) (by omega) dL_law_1101 ?_
    refine ri_eq (y := v_t) hq2 ?_
    refine lv_aload_n hx hb dL_law_1102 rfl (lv_at hl 1 rfl) ?_
    refine lv_iload hx hb dL_law_1103 (lv_at hl 5 rfl) ?_
    refine ri_iconst hx hb dL_law_1105 ?_
    refine ri_iadd hx hb dL_law_1106 ?_
    refine ri_sld hx hb hX hbl hbA hS (by omega) (by omega) dL_law_1107 ?_
    refine ri_eq (y := v_n) hq3 ?_
    have hokm : ((0 ≤ v_b ∧ v_b ≤ 3) ∧ (0 ≤ v_t ∧ v_t ≤ 4) ∧ (0 ≤ v_n ∧ v_n ≤ 255)) ∧ mm 3 (5 * v_b + v_t).toNat = 1 := ⟨hok.1, ((Rel_hd hR hok.1.1 hok.1.2.1).symm.trans hok.2)⟩
    refine ri_wi (v := bp (fdE (cmpD (px (mm 1) v_t) (px (mm 2) (5 * v_b + v_t)) v_n (mm 4 (4 * v_t).toNat) (mm 4 (4 * v_t + 1).toNat) (mm 4 (4 * v_t).toNat + mm 4 (4 * v_t + 2).toNat) (mm 4 (4 * v_t + 1).toNat + mm 4 (4 * v_t + 3).toNat) (mm 5 (4 * v_t).toNat) (mm 5 (4 * v_t + 1).toNat) (mm 5 (4 * v_t).toNat + mm 5 (4 * v_t + 2).toNat) (mm 5 (4 * v_t + 1).toNat + mm 5 (4 * v_t + 3).toNat)) = -1)) (PP := (fun H => va_P D vwCl (mW a2 kk (mhG (mvG (thG mm 0) (fitP (px (mm 1) v_t) (px (mm 2) (5 * v_b + v_t)) v_n (mm 4 (4 * v_t).toNat) (mm 4 (4 * v_t + 1).toNat) (mm 4 (4 * v_t).toNat + mm 4 (4 * v_t + 2).toNat) (mm 4 (4 * v_t + 1).toNat + mm 4 (4 * v_t + 3).toNat))) v_t (bp (fdE (cmpD (px (mm 1) v_t) (px (mm 2) (5 * v_b + v_t)) v_n (mm 4 (4 * v_t).toNat) (mm 4 (4 * v_t + 1).toNat) (mm 4 (4 * v_t).toNat + mm 4 (4 * v_t + 2).toNat) (mm 4 (4 * v_t + 1).toNat + mm 4 (4 * v_t + 3).toNat) (mm 5 (4 * v_t).toNat) (mm 5 (4 * v_t + 1).toNat) (mm 5 (4 * v_t).toNat + mm 5 (4 * v_t + 2).toNat) (mm 5 (4 * v_t + 1).toNat + mm 5 (4 * v_t + 3).toNat)) = -1)))) H)) (ri_runV (b := a2 0) (As := [.int (iI v_b), .int (iI v_t), .int (iI v_n)]) (rest := []) CF (k_X4_run_ok l D a2 kk mm v_b v_t v_n hA2 hMv hr1 hr2 hr3 hokm) gL_law_X4_run f_X4_run rfl (va_recv hK hQ (ci := 4) (q0 := 0) rfl rfl) ⟨rfl, rfl, (Nat.le_of_ble_eq_true rfl), (Nat.le_of_ble_eq_true rfl), by show _ ≤ 1053; omega, by show _ ≤ 13902; omega⟩ wB_bl (wB_in hQ hK hN) rfl hl.1 rfl (Nat.le_of_ble_eq_true rfl) dL_law_1108) hS hMA (fun H locs hQ hk hS => ?_)
    replace hQ : va_P D vwCl (mW a2 kk (mhG (mvG (thG mm 0) (fitP (px (mm 1) v_t) (px (mm 2) (5 * v_b + v_t)) v_n (mm 4 (4 * v_t).toNat) (mm 4 (4 * v_t + 1).toNat) (mm 4 (4 * v_t).toNat + mm 4 (4 * v_t + 2).toNat) (mm 4 (4 * v_t + 1).toNat + mm 4 (4 * v_t + 3).toNat))) v_t (bp (fdE (cmpD (px (mm 1) v_t) (px (mm 2) (5 * v_b + v_t)) v_n (mm 4 (4 * v_t).toNat) (mm 4 (4 * v_t + 1).toNat) (mm 4 (4 * v_t).toNat + mm 4 (4 * v_t + 2).toNat) (mm 4 (4 * v_t + 1).toNat + mm 4 (4 * v_t + 3).toNat) (mm 5 (4 * v_t).toNat) (mm 5 (4 * v_t + 1).toNat) (mm 5 (4 * v_t).toNat + mm 5 (4 * v_t + 2).toNat) (mm 5 (4 * v_t + 1).toNat + mm 5 (4 * v_t + 3).toNat)) = -1)))) H := hQ
    replace hP : va_P D vwCl (xW a kk (hisG g v_t (bp (fdE (cmpD (px (g 2) v_t) (px (g 2) (5 + v_b * 5 + v_t)) v_n (g 5 v_t.toNat) (g 6 v_t.toNat) (g 7 v_t.toNat) (g 8 v_t.toNat) (g 10 v_t.toNat) (g 11 v_t.toNat) (g 12 v_t.toNat) (g 13 v_t.toNat)) < 0)))) H := hP.un hk (x_un2 hxm)
    replace hW : va_P D vwCl (outW o kk (vp_updL f 0 (iI (bp (fdE (cmpD (px (g 2) v_t) (px (g 2) (5 + v_b * 5 + v_t)) v_n (g 5 v_t.toNat) (g 6 v_t.toNat) (g 7 v_t.toNat) (g 8 v_t.toNat) (g 10 v_t.toNat) (g 11 v_t.toNat) (g 12 v_t.toNat) (g 13 v_t.toNat)) < 0))).toInt64)) H := hW.un hk (o_un2 hom)
    refine lv_istore (lv' := [(6, .int (iI (bp (fdE (cmpD (px (mm 1) v_t) (px (mm 2) (5 * v_b + v_t)) v_n (mm 4 (4 * v_t).toNat) (mm 4 (4 * v_t + 1).toNat) (mm 4 (4 * v_t).toNat + mm 4 (4 * v_t + 2).toNat) (mm 4 (4 * v_t + 1).toNat + mm 4 (4 * v_t + 3).toNat) (mm 5 (4 * v_t).toNat) (mm 5 (4 * v_t + 1).toNat) (mm 5 (4 * v_t).toNat + mm 5 (4 * v_t + 2).toNat) (mm 5 (4 * v_t + 1).toNat + mm 5 (4 * v_t + 3).toNat)) = -1)))), (5, .int (iI 0)), (0, .ref b), (1, .ref (a 0)), (2, .ref (a2 0)), (3, .ref o), (4, .int (iI i))]) hx hb dL_law_1111 hl (by decide) rfl (fun ls hl => ?_)
    refine lv_aload_n hx hb dL_law_1113 rfl (lv_at hl 4 rfl) ?_
    refine ri_rd (ri_runV (b := a2 0) (As := []) (rest := []) CF (k_X4_thrown l D a2 kk (mhG (mvG (thG mm 0) (fitP (px (mm 1) v_t) (px (mm 2) (5 * v_b + v_t)) v_n (mm 4 (4 * v_t).toNat) (mm 4 (4 * v_t + 1).toNat) (mm 4 (4 * v_t).toNat + mm 4 (4 * v_t + 2).toNat) (mm 4 (4 * v_t + 1).toNat + mm 4 (4 * v_t + 3).toNat))) v_t (bp (fdE (cmpD (px (mm 1) v_t) (px (mm 2) (5 * v_b + v_t)) v_n (mm 4 (4 * v_t).toNat) (mm 4 (4 * v_t + 1).toNat) (mm 4 (4 * v_t).toNat + mm 4 (4 * v_t + 2).toNat) (mm 4 (4 * v_t + 1).toNat + mm 4 (4 * v_t + 3).toNat) (mm 5 (4 * v_t).toNat) (mm 5 (4 * v_t + 1).toNat) (mm 5 (4 * v_t).toNat + mm 5 (4 * v_t + 2).toNat) (mm 5 (4 * v_t + 1).toNat + mm 5 (4 * v_t + 3).toNat)) = -1)))) gL_law_X4_thrown f_X4_thrown rfl (va_recv hK hQ (ci := 4) (q0 := 0) rfl rfl) ⟨rfl, rfl, (Nat.le_of_ble_eq_true rfl), (Nat.le_of_ble_eq_true rfl), by show _ ≤ 1053; omega, by show _ ≤ 13902; omega⟩ wB_bl (wB_in hQ hK hN) rfl hl.1 rfl (Nat.le_of_ble_eq_true rfl) dL_law_1114) ?_
    refine ri_eq (y := 0) (mh_0 _ _ _) ?_
    refine lv_iload hx hb dL_law_1117 (lv_at hl 1 rfl) ?_
    refine ri_icmp_eq (tgt := 1124) hx hb (by omega) dL_law_1119 (by decide) (fun _ => ?_) (fun z => absurd rfl z)
    refine lv_iload hx hb dL_law_1124 (lv_at hl 1 rfl) ?_
    refine ri_if_ne (tgt := 1148) hx hb (by omega) dL_law_1126 (by decide) (fun z => absurd z (by omega)) (fun _ => ?_)
    refine lv_aload_n hx hb dL_law_1129 rfl (lv_at hl 5 rfl) ?_
    refine ri_iconst hx hb dL_law_1130 ?_
    refine va_lald hx hb hK hW 0 2 rfl rfl (iI_in (by decide) (by decide)) dL_law_1131 ?_
    rw [show (vp_updL f 0 (iI (bp (fdE (cmpD (px (g 2) v_t) (px (g 2) (5 + v_b * 5 + v_t)) v_n (g 5 v_t.toNat) (g 6 v_t.toNat) (g 7 v_t.toNat) (g 8 v_t.toNat) (g 10 v_t.toNat) (g 11 v_t.toNat) (g 12 v_t.toNat) (g 13 v_t.toNat)) < 0))).toInt64) (iI 0).toNatClampNeg = (iI (bp (fdE (cmpD (px (g 2) v_t) (px (g 2) (5 + v_b * 5 + v_t)) v_n (g 5 v_t.toNat) (g 6 v_t.toNat) (g 7 v_t.toNat) (g 8 v_t.toNat) (g 10 v_t.toNat) (g 11 v_t.toNat) (g 12 v_t.toNat) (g 13 v_t.toNat)) < 0))).toInt64 from if_pos rfl, show bp (fdE (cmpD (px (g 2) v_t) (px (g 2) (5 + v_b * 5 + v_t)) v_n (g 5 v_t.toNat) (g 6 v_t.toNat) (g 7 v_t.toNat) (g 8 v_t.toNat) (g 10 v_t.toNat) (g 11 v_t.toNat) (g 12 v_t.toNat) (g 13 v_t.toNat)) < 0) = bp (fdE (cmpD (px (mm 1) v_t) (px (mm 2) (5 * v_b + v_t)) v_n (mm 4 (4 * v_t).toNat) (mm 4 (4 * v_t + 1).toNat) (mm 4 (4 * v_t).toNat + mm 4 (4 * v_t + 2).toNat) (mm 4 (4 * v_t + 1).toNat + mm 4 (4 * v_t + 3).toNat) (mm 5 (4 * v_t).toNat) (mm 5 (4 * v_t + 1).toNat) (mm 5 (4 * v_t).toNat + mm 5 (4 * v_t + 2).toNat) (mm 5 (4 * v_t + 1).toNat + mm 5 (4 * v_t + 3).toNat)) = -1) from bp_c ((fd_neg _).trans (by rw [fdE_c (Rel_D hR hMv hok.1.1 hok.1.2.1 ((Rel_hd hR hok.1.1 hok.1.2.1).symm.trans hok.2))]))]
    refine lv_iload hx hb dL_law_1132 (lv_at hl 0 rfl) ?_
    refine ri_ifeq_b (tgt := 1141) hx hb dL_law_1134 (by decide) (fun hz => ?_) (fun hz => ?_)
    · rw [bp_f hz, show (iI 0).toInt64 = 0 from rfl]
      refine lv_lconst (v := 0) hx hb dL_law_1141 rfl ?_
      refine W.lcmp hx hb dL_law_1142 ?_
      rw [cmp_0]
      refine ri_if_eq (tgt := 1148) hx hb (by omega) dL_law_1143 (by decide) (fun _ => ?_) (fun z => absurd rfl z)
      refine lv_goto (tgt := 1263) hx hb dL_law_1148 (by decide) ?_
      refine W.widen (k := cells + 2) (n := slots + 12) (by omega) (by omega) ?_
      exact K _ _ _ _ _ _ ⟨hP, hW, hQ, hS, run_R hR hMv hok, XInv_hi hI hok.1.2.1, MInv_hi (MInv_mv _ (MInv_th hMv 0)) hok.1.2.1 (bp_01 _)⟩ (lv_sub hl [2, 3, 4, 5, 6] rfl)
    · rw [bp_t hz, show (iI 1).toInt64 = 1 from rfl]
      refine lv_lconst (v := 1) hx hb dL_law_1137 rfl ?_
      refine lv_goto (tgt := 1142) hx hb dL_law_1138 (by decide) ?_
      refine W.lcmp hx hb dL_law_1142 ?_
      rw [cmp_0]
      refine ri_if_eq (tgt := 1148) hx hb (by omega) dL_law_1143 (by decide) (fun _ => ?_) (fun z => absurd rfl z)
      refine lv_goto (tgt := 1263) hx hb dL_law_1148 (by decide) ?_
      refine W.widen (k := cells + 2) (n := slots + 12) (by omega) (by omega) ?_
      exact K _ _ _ _ _ _ ⟨hP, hW, hQ, hS, run_R hR hMv hok, XInv_hi hI hok.1.2.1, MInv_hi (MInv_mv _ (MInv_th hMv 0)) hok.1.2.1 (bp_01 _)⟩ (lv_sub hl [2, 3, 4, 5, 6] rfl)
  · skip
    obtain ⟨pl, hno⟩ : ∃ pl : Int, (pl = 1 ∧ ¬ (cmpA v_b v_t v_n)) ∨ (pl = 2 ∧ (cmpA v_b v_t v_n) ∧ ¬ (g 3 (5 + v_b * 5 + v_t).toNat = 1)) := by
      by_cases h9 : cmpA v_b v_t v_n
      · exact ⟨2, Or.inr ⟨rfl, h9, fun z => hok ⟨h9, z⟩⟩⟩
      · exact ⟨1, Or.inl ⟨rfl, h9⟩⟩
    refine ri_wi (v := pl) (PP := (fun H => va_P D vwCl (xW a kk g) H ∧ va_P D vwCl (outW o kk f) H)) (vx_runSW (As := [.ref (a 0), .int (iI v_b), .int (iI v_t), .int (iI v_n), .ref o]) (rest := []) CF (kL_run_no l D a kk g sa o f hst v_b v_t v_n hA hO hI hr1 hr2 hr3 pl hno) (vx_cwSW 5 hts gL_law_L_run rfl rfl rfl ⟨by decide +kernel, by decide +kernel, by decide +kernel⟩ ⟨(Nat.le_of_ble_eq_true rfl), (Nat.le_of_ble_eq_true rfl)⟩) ⟨Bl_pc lB_bl, fun U hU hW9 => ⟨rfl, lB_in hS hOA hT hP hW hK hN hC U hU hW9⟩⟩ rfl rfl hl.1 rfl (lv_room (Nat.le_of_ble_eq_true rfl)) dL_law_1084 ⟨by show _ ≤ 1053; omega, by show _ ≤ 13902; omega⟩) hS hOA (fun H locs hB hk hS => ?_)
    obtain ⟨hP, hW⟩ := hB
    replace hQ : va_P D vwCl (mW a2 kk mm) H := hQ.un hk (m_un hmo)
    refine lv_istore (lv' := [(5, .int (iI pl)), (0, .ref b), (1, .ref (a 0)), (2, .ref (a2 0)), (3, .ref o), (4, .int (iI i))]) hx hb dL_law_1087 hl (by decide) rfl (fun ls hl => ?_)
    refine lv_aload_n hx hb dL_law_1089 rfl (lv_at hl 3 rfl) ?_
    refine lv_aload_n hx hb dL_law_1090 rfl (lv_at hl 1 rfl) ?_
    refine lv_iload hx hb dL_law_1091 (lv_at hl 5 rfl) ?_
    refine ri_iconst hx hb dL_law_1093 ?_
    refine ri_iadd hx hb dL_law_1094 ?_
    refine ri_sld hx hb hX hbl hbA hS (by omega) (by omega) dL_law_1095 ?_
    refine ri_eq (y := v_b) hq1 ?_
    refine lv_aload_n hx hb dL_law_1096 rfl (lv_at hl 1 rfl) ?_
    refine lv_iload hx hb dL_law_1097 (lv_at hl 5 rfl) ?_
    refine ri_iconst hx hb dL_law_1099 ?_
    refine ri_iadd hx hb dL_law_1100 ?_
    refine ri_sld hx hb hX hbl hbA hS (by omega) (by omega) dL_law_1101 ?_
    refine ri_eq (y := v_t) hq2 ?_
    refine lv_aload_n hx hb dL_law_1102 rfl (lv_at hl 1 rfl) ?_
    refine lv_iload hx hb dL_law_1103 (lv_at hl 5 rfl) ?_
    refine ri_iconst hx hb dL_law_1105 ?_
    refine ri_iadd hx hb dL_law_1106 ?_
    refine ri_sld hx hb hX hbl hbA hS (by omega) (by omega) dL_law_1107 ?_
    refine ri_eq (y := v_n) hq3 ?_
    have hnom : (pl = 1 ∧ ¬ ((0 ≤ v_b ∧ v_b ≤ 3) ∧ (0 ≤ v_t ∧ v_t ≤ 4) ∧ (0 ≤ v_n ∧ v_n ≤ 255))) ∨ (pl = 2 ∧ ((0 ≤ v_b ∧ v_b ≤ 3) ∧ (0 ≤ v_t ∧ v_t ≤ 4) ∧ (0 ≤ v_n ∧ v_n ≤ 255)) ∧ ¬ mm 3 (5 * v_b + v_t).toNat = 1) := hno.elim Or.inl (fun z => Or.inr ⟨z.1, z.2.1, fun y => z.2.2 ((Rel_hd hR z.2.1.1 z.2.1.2.1).trans y)⟩)
    refine ri_wi (v := 0) (PP := (fun H => va_P D vwCl (mW a2 kk (thG mm pl)) H)) (ri_runV (b := a2 0) (As := [.int (iI v_b), .int (iI v_t), .int (iI v_n)]) (rest := []) CF (k_X4_run_no l D a2 kk mm pl v_b v_t v_n hA2 hMv hr1 hr2 hr3 hnom) gL_law_X4_run f_X4_run rfl (va_recv hK hQ (ci := 4) (q0 := 0) rfl rfl) ⟨rfl, rfl, (Nat.le_of_ble_eq_true rfl), (Nat.le_of_ble_eq_true rfl), by show _ ≤ 1053; omega, by show _ ≤ 13902; omega⟩ wB_bl (wB_in hQ hK hN) rfl hl.1 rfl (Nat.le_of_ble_eq_true rfl) dL_law_1108) hS hMA (fun H locs hQ hk hS => ?_)
    replace hQ : va_P D vwCl (mW a2 kk (thG mm pl)) H := hQ
    replace hP : va_P D vwCl (xW a kk (g)) H := hP.un hk (x_un2 hxm)
    replace hW : va_P D vwCl (outW o kk (f)) H := hW.un hk (o_un2 hom)
    refine lv_istore (lv' := [(6, .int (iI 0)), (5, .int (iI pl)), (0, .ref b), (1, .ref (a 0)), (2, .ref (a2 0)), (3, .ref o), (4, .int (iI i))]) hx hb dL_law_1111 hl (by decide) rfl (fun ls hl => ?_)
    refine lv_aload_n hx hb dL_law_1113 rfl (lv_at hl 4 rfl) ?_
    refine ri_rd (ri_runV (b := a2 0) (As := []) (rest := []) CF (k_X4_thrown l D a2 kk (thG mm pl)) gL_law_X4_thrown f_X4_thrown rfl (va_recv hK hQ (ci := 4) (q0 := 0) rfl rfl) ⟨rfl, rfl, (Nat.le_of_ble_eq_true rfl), (Nat.le_of_ble_eq_true rfl), by show _ ≤ 1053; omega, by show _ ≤ 13902; omega⟩ wB_bl (wB_in hQ hK hN) rfl hl.1 rfl (Nat.le_of_ble_eq_true rfl) dL_law_1114) ?_
    refine ri_eq (y := pl) (rfl) ?_
    refine lv_iload hx hb dL_law_1117 (lv_at hl 1 rfl) ?_
    refine ri_icmp_eq (tgt := 1124) hx hb (by omega) dL_law_1119 (by decide) (fun _ => ?_) (fun z => absurd rfl z)
    refine lv_iload hx hb dL_law_1124 (lv_at hl 1 rfl) ?_
    refine ri_if_ne (tgt := 1148) hx hb (by omega) dL_law_1126 (by decide) (fun _ => ?_) (fun z => absurd z (by omega))
    refine lv_goto (tgt := 1263) hx hb dL_law_1148 (by decide) ?_
    refine W.widen (k := cells + 2) (n := slots + 12) (by omega) (by omega) ?_
    exact K _ _ _ _ _ _ ⟨hP, hW, hQ, hS, Rel_th hR _, hI, MInv_th hMv _⟩ (lv_sub hl [2, 3, 4, 5, 6] rfl)

set_option maxHeartbeats 4000000 in
set_option maxRecDepth 100000 in
theorem lc_runs {p : Program} {l : Launch} {e : Env} {s : State} {m : MethodId} {below : List Frame} {meth : Method} {c : Code} {b L : Nat} {xs : Nat → Int32} {D : va_G} {kk : Nat → ClassId} {a a2 : Nat → Nat} {o : Nat} {sa : Nat → Nat} {g mm : Nat → Nat → Int} {f : Nat → Int64} {H : Heap} {locs : List Loc} {i : Int} {cells slots : Nat} {ls : Array Slot} {Q : State → Prop} (C0 : LCx p l s m meth c b L xs D kk a a2 o sa) (S0 : LSt s D kk a a2 o g mm f H locs) (hi : 0 ≤ i ∧ i + 7 ≤ (L : Int)) (hc : cells + 2 ≤ 1053 ∧ slots + 12 ≤ 13902) (hl : lv_has ls 7 [(0, .ref b), (1, .ref (a 0)), (2, .ref (a2 0)), (3, .ref o), (4, .int (iI i))]) (K : ∀ (g mm : Nat → Nat → Int) (f : Nat → Int64) (H : Heap) (locs : List Loc) (ls : Array Slot), LSt s D kk a a2 o g mm f H locs → lv_has ls 7 [(0, .ref b), (1, .ref (a 0)), (2, .ref (a2 0)), (3, .ref o), (4, .int (iI i))] → W p l e room_1 s m (#[Value.ref b] : Array Value) below meth c H locs (cells + 2) (slots + 12) Q (F0 m 1263 ls [])) : W p l e room_1 s m (#[Value.ref b] : Array Value) below meth c H locs cells slots Q (F0 m 1151 ls []) := by
  obtain ⟨⟨hx, hb, hml, hown, hts, hX, hbl, hL⟩, ⟨hst, hK, hN, hT, hC⟩, ⟨hA, hA2, hO, hO2, hAB, hsa, hsa2, hso⟩⟩ := C0
  obtain ⟨hP, hW, hQ, hS, hR, hI, hMv⟩ := S0
  have hbA : ¬ (fun q : Nat => s.heap.size ≤ q) b := Nat.not_le.mpr hbl
  have CF : CallFix p m c cL_law 7 s (#[Value.ref b] : Array Value) wsL_law RL := ⟨hx, hb, hml, hown, hts⟩
  have hOA : ∀ q : Nat, oA a o q → s.heap.size ≤ q := fun q h => h.elim (fun ⟨k, hk, e9⟩ => by rw [e9]; exact hsa k hk) (fun e9 => by rw [e9]; exact hso)
  have hMA : ∀ q : Nat, aA 8 a2 q → s.heap.size ≤ q := fun q ⟨k, hk, e9⟩ => by rw [e9]; exact hsa2 k hk
  have hmo : ∀ j, j < 8 → ¬ oA a o (a2 j) := fun j hj z => z.elim (fun ⟨k, hk, e9⟩ => hAB k j hk hj e9.symm) (fun e9 => hO2 j hj e9)
  have hxm : ∀ j, j < 17 → ¬ aA 8 a2 (a j) := fun j hj ⟨k, hk, e9⟩ => hAB j k hj hk e9
  have hom : ¬ aA 8 a2 o := fun ⟨k, hk, e9⟩ => hO2 k hk e9.symm
  have hr1 := i32_r (xs (i + 1).toNat)
  refine lv_aload_n hx hb dL_law_1151 rfl (lv_at hl 1 rfl) ?_
  refine lv_aload_n hx hb dL_law_1152 rfl (lv_at hl 0 rfl) ?_
  refine lv_iload hx hb dL_law_1153 (lv_at hl 4 rfl) ?_
  refine ri_iconst hx hb dL_law_1155 ?_
  refine ri_iadd hx hb dL_law_1156 ?_
  refine ri_sld hx hb hX hbl hbA hS (by omega) (by omega) dL_law_1157 ?_
  refine lv_aload_n hx hb dL_law_1158 rfl (lv_at hl 3 rfl) ?_
  generalize hq1 : (xs (i + 1).toNat).toInt = v_t at hr1 ⊢
  by_cases hok : 0 ≤ v_t ∧ v_t ≤ 4
  · skip
    refine ri_wi (v := 0) (PP := (fun H => va_P D vwCl (xW a kk (g)) H ∧ va_P D vwCl (outW o kk (vp_updL f 0 (iI (g 16 v_t.toNat)).toInt64)) H)) (vx_runSW (As := [.ref (a 0), .int (iI v_t), .ref o]) (rest := []) CF (kL_runs_ok l D a kk g sa o f hst v_t hA hO hI hr1 hok) (vx_cwSW 3 hts gL_law_L_runs rfl rfl rfl ⟨by decide +kernel, by decide +kernel, by decide +kernel⟩ ⟨(Nat.le_of_ble_eq_true rfl), (Nat.le_of_ble_eq_true rfl)⟩) ⟨Bl_pc lB_bl, fun U hU hW9 => ⟨rfl, lB_in hS hOA hT hP hW hK hN hC U hU hW9⟩⟩ rfl rfl hl.1 rfl (lv_room (Nat.le_of_ble_eq_true rfl)) dL_law_1159 ⟨by show _ ≤ 1053; omega, by show _ ≤ 13902; omega⟩) hS hOA (fun H locs hB hk hS => ?_)
    obtain ⟨hP, hW⟩ := hB
    replace hQ : va_P D vwCl (mW a2 kk mm) H := hQ.un hk (m_un hmo)
    refine lv_istore (lv' := [(5, .int (iI 0)), (0, .ref b), (1, .ref (a 0)), (2, .ref (a2 0)), (3, .ref o), (4, .int (iI i))]) hx hb dL_law_1162 hl (by decide) rfl (fun ls hl => ?_)
    refine lv_aload_n hx hb dL_law_1164 rfl (lv_at hl 3 rfl) ?_
    refine lv_aload_n hx hb dL_law_1165 rfl (lv_at hl 1 rfl) ?_
    refine lv_iload hx hb dL_law_1166 (lv_at hl 5 rfl) ?_
    refine ri_iconst hx hb dL_law_1168 ?_
    refine ri_iadd hx hb dL_law_1169 ?_
    refine ri_sld hx hb hX hbl hbA hS (by omega) (by omega) dL_law_1170 ?_
    refine ri_eq (y := v_t) hq1 ?_
    have hokm : 0 ≤ v_t ∧ v_t ≤ 4 := hok
    refine ri_wi (v := mm 7 v_t.toNat) (PP := (fun H => va_P D vwCl (mW a2 kk (thG mm 0)) H)) (ri_runV (b := a2 0) (As := [.int (iI v_t)]) (rest := []) CF (k_X4_runs_ok l D a2 kk mm v_t hA2 hMv hr1 hokm) gL_law_X4_runs f_X4_runs rfl (va_recv hK hQ (ci := 4) (q0 := 0) rfl rfl) ⟨rfl, rfl, (Nat.le_of_ble_eq_true rfl), (Nat.le_of_ble_eq_true rfl), by show _ ≤ 1053; omega, by show _ ≤ 13902; omega⟩ wB_bl (wB_in hQ hK hN) rfl hl.1 rfl (Nat.le_of_ble_eq_true rfl) dL_law_1171) hS hMA (fun H locs hQ hk hS => ?_)
    replace hQ : va_P D vwCl (mW a2 kk (thG mm 0)) H := hQ
    replace hP : va_P D vwCl (xW a kk (g)) H := hP.un hk (x_un2 hxm)
    replace hW : va_P D vwCl (outW o kk (vp_updL f 0 (iI (g 16 v_t.toNat)).toInt64)) H := hW.un hk (o_un2 hom)
    refine lv_istore (lv' := [(6, .int (iI (mm 7 v_t.toNat))), (5, .int (iI 0)), (0, .ref b), (1, .ref (a 0)), (2, .ref (a2 0)), (3, .ref o), (4, .int (iI i))]) hx hb dL_law_1174 hl (by decide) rfl (fun ls hl => ?_)
    refine lv_aload_n hx hb dL_law_1176 rfl (lv_at hl 4 rfl) ?_
    refine ri_rd (ri_runV (b := a2 0) (As := []) (rest := []) CF (k_X4_thrown l D a2 kk (thG mm 0)) gL_law_X4_thrown f_X4_thrown rfl (va_recv hK hQ (ci := 4) (q0 := 0) rfl rfl) ⟨rfl, rfl, (Nat.le_of_ble_eq_true rfl), (Nat.le_of_ble_eq_true rfl), by show _ ≤ 1053; omega, by show _ ≤ 13902; omega⟩ wB_bl (wB_in hQ hK hN) rfl hl.1 rfl (Nat.le_of_ble_eq_true rfl) dL_law_1177) ?_
    refine ri_eq (y := 0) (rfl) ?_
    refine lv_iload hx hb dL_law_1180 (lv_at hl 1 rfl) ?_
    refine ri_icmp_eq (tgt := 1187) hx hb (by omega) dL_law_1182 (by decide) (fun _ => ?_) (fun z => absurd rfl z)
    refine lv_iload hx hb dL_law_1187 (lv_at hl 1 rfl) ?_
    refine ri_if_ne (tgt := 1204) hx hb (by omega) dL_law_1189 (by decide) (fun z => absurd z (by omega)) (fun _ => ?_)
    refine lv_aload_n hx hb dL_law_1192 rfl (lv_at hl 5 rfl) ?_
    refine ri_iconst hx hb dL_law_1193 ?_
    refine va_lald hx hb hK hW 0 2 rfl rfl (iI_in (by decide) (by decide)) dL_law_1194 ?_
    rw [show (vp_updL f 0 (iI (g 16 v_t.toNat)).toInt64) (iI 0).toNatClampNeg = (iI (g 16 v_t.toNat)).toInt64 from if_pos rfl, show g 16 v_t.toNat = mm 7 v_t.toNat from (hR.2.2.2.2.2 _ hok).1]
    refine lv_iload hx hb dL_law_1195 (lv_at hl 0 rfl) ?_
    refine lv_i2l (v := (iI (mm 7 v_t.toNat)).toInt64) hx hb dL_law_1197 rfl ?_
    refine W.lcmp hx hb dL_law_1198 ?_
    rw [cmp_0]
    refine ri_if_eq (tgt := 1204) hx hb (by omega) dL_law_1199 (by decide) (fun _ => ?_) (fun z => absurd rfl z)
    refine lv_goto (tgt := 1263) hx hb dL_law_1204 (by decide) ?_
    refine W.widen (k := cells + 2) (n := slots + 12) (by omega) (by omega) ?_
    exact K _ _ _ _ _ _ ⟨hP, hW, hQ, hS, hR, hI, hMv⟩ (lv_sub hl [2, 3, 4, 5, 6] rfl)
  · skip
    refine ri_wi (v := 1) (PP := (fun H => va_P D vwCl (xW a kk g) H ∧ va_P D vwCl (outW o kk f) H)) (vx_runSW (As := [.ref (a 0), .int (iI v_t), .ref o]) (rest := []) CF (kL_runs_no l D a kk g sa o f hst v_t hA hO hI hr1 hok) (vx_cwSW 3 hts gL_law_L_runs rfl rfl rfl ⟨by decide +kernel, by decide +kernel, by decide +kernel⟩ ⟨(Nat.le_of_ble_eq_true rfl), (Nat.le_of_ble_eq_true rfl)⟩) ⟨Bl_pc lB_bl, fun U hU hW9 => ⟨rfl, lB_in hS hOA hT hP hW hK hN hC U hU hW9⟩⟩ rfl rfl hl.1 rfl (lv_room (Nat.le_of_ble_eq_true rfl)) dL_law_1159 ⟨by show _ ≤ 1053; omega, by show _ ≤ 13902; omega⟩) hS hOA (fun H locs hB hk hS => ?_)
    obtain ⟨hP, hW⟩ := hB
    replace hQ : va_P D vwCl (mW a2 kk mm) H := hQ.un hk (m_un hmo)
    refine lv_istore (lv' := [(5, .int (iI 1)), (0, .ref b), (1, .ref (a 0)), (2, .ref (a2 0)), (3, .ref o), (4, .int (iI i))]) hx hb dL_law_1162 hl (by decide) rfl (fun ls hl => ?_)
    refine lv_aload_n hx hb dL_law_1164 rfl (lv_at hl 3 rfl) ?_
    refine lv_aload_n hx hb dL_law_1165 rfl (lv_at hl 1 rfl) ?_
    refine lv_iload hx hb dL_law_1166 (lv_at hl 5 rfl) ?_
    refine ri_iconst hx hb dL_law_1168 ?_
    refine ri_iadd hx hb dL_law_1169 ?_
    refine ri_sld hx hb hX hbl hbA hS (by omega) (by omega) dL_law_1170 ?_
    refine ri_eq (y := v_t) hq1 ?_
    refine ri_wi (v := 0) (PP := (fun H => va_P D vwCl (mW a2 kk (thG mm 1)) H)) (ri_runV (b := a2 0) (As := [.int (iI v_t)]) (rest := []) CF (k_X4_runs_no l D a2 kk mm v_t hA2 hMv hr1 hok) gL_law_X4_runs f_X4_runs rfl (va_recv hK hQ (ci := 4) (q0 := 0) rfl rfl) ⟨rfl, rfl, (Nat.le_of_ble_eq_true rfl), (Nat.le_of_ble_eq_true rfl), by show _ ≤ 1053; omega, by show _ ≤ 13902; omega⟩ wB_bl (wB_in hQ hK hN) rfl hl.1 rfl (Nat.le_of_ble_eq_true rfl) dL_law_1171) hS hMA (fun H locs hQ hk hS => ?_)
    replace hQ : va_P D vwCl (mW a2 kk (thG mm 1)) H := hQ
    replace hP : va_P D vwCl (xW a kk (g)) H := hP.un hk (x_un2 hxm)
    replace hW : va_P D vwCl (outW o kk (f)) H := hW.un hk (o_un2 hom)
    refine lv_istore (lv' := [(6, .int (iI 0)), (5, .int (iI 1)), (0, .ref b), (1, .ref (a 0)), (2, .ref (a2 0)), (3, .ref o), (4, .int (iI i))]) hx hb dL_law_1174 hl (by decide) rfl (fun ls hl => ?_)
    refine lv_aload_n hx hb dL_law_1176 rfl (lv_at hl 4 rfl) ?_
    refine ri_rd (ri_runV (b := a2 0) (As := []) (rest := []) CF (k_X4_thrown l D a2 kk (thG mm 1)) gL_law_X4_thrown f_X4_thrown rfl (va_recv hK hQ (ci := 4) (q0 := 0) rfl rfl) ⟨rfl, rfl, (Nat.le_of_ble_eq_true rfl), (Nat.le_of_ble_eq_true rfl), by show _ ≤ 1053; omega, by show _ ≤ 13902; omega⟩ wB_bl (wB_in hQ hK hN) rfl hl.1 rfl (Nat.le_of_ble_eq_true rfl) dL_law_1177) ?_
    refine ri_eq (y := 1) (rfl) ?_
    refine lv_iload hx hb dL_law_1180 (lv_at hl 1 rfl) ?_
    refine ri_icmp_eq (tgt := 1187) hx hb (by omega) dL_law_1182 (by decide) (fun _ => ?_) (fun z => absurd rfl z)
    refine lv_iload hx hb dL_law_1187 (lv_at hl 1 rfl) ?_
    refine ri_if_ne (tgt := 1204) hx hb (by omega) dL_law_1189 (by decide) (fun _ => ?_) (fun z => absurd z (by omega))
    refine lv_goto (tgt := 1263) hx hb dL_law_1204 (by decide) ?_
    refine W.widen (k := cells + 2) (n := slots + 12) (by omega) (by omega) ?_
    exact K _ _ _ _ _ _ ⟨hP, hW, hQ, hS, Rel_th hR _, hI, MInv_th hMv _⟩ (lv_sub hl [2, 3, 4, 5, 6] rfl)

set_option maxHeartbeats 4000000 in
set_option maxRecDepth 100000 in
theorem lc_doubt {p : Program} {l : Launch} {e : Env} {s : State} {m : MethodId} {below : List Frame} {meth : Method} {c : Code} {b L : Nat} {xs : Nat → Int32} {D : va_G} {kk : Nat → ClassId} {a a2 : Nat → Nat} {o : Nat} {sa : Nat → Nat} {g mm : Nat → Nat → Int} {f : Nat → Int64} {H : Heap} {locs : List Loc} {i : Int} {cells slots : Nat} {ls : Array Slot} {Q : State → Prop} (C0 : LCx p l s m meth c b L xs D kk a a2 o sa) (S0 : LSt s D kk a a2 o g mm f H locs) (hi : 0 ≤ i ∧ i + 7 ≤ (L : Int)) (hc : cells + 2 ≤ 1053 ∧ slots + 12 ≤ 13902) (hl : lv_has ls 7 [(0, .ref b), (1, .ref (a 0)), (2, .ref (a2 0)), (3, .ref o), (4, .int (iI i))]) (K : ∀ (g mm : Nat → Nat → Int) (f : Nat → Int64) (H : Heap) (locs : List Loc) (ls : Array Slot), LSt s D kk a a2 o g mm f H locs → lv_has ls 7 [(0, .ref b), (1, .ref (a 0)), (2, .ref (a2 0)), (3, .ref o), (4, .int (iI i))] → W p l e room_1 s m (#[Value.ref b] : Array Value) below meth c H locs (cells + 2) (slots + 12) Q (F0 m 1263 ls [])) : W p l e room_1 s m (#[Value.ref b] : Array Value) below meth c H locs cells slots Q (F0 m 1207 ls []) := by
  obtain ⟨⟨hx, hb, hml, hown, hts, hX, hbl, hL⟩, ⟨hst, hK, hN, hT, hC⟩, ⟨hA, hA2, hO, hO2, hAB, hsa, hsa2, hso⟩⟩ := C0
  obtain ⟨hP, hW, hQ, hS, hR, hI, hMv⟩ := S0
  have hbA : ¬ (fun q : Nat => s.heap.size ≤ q) b := Nat.not_le.mpr hbl
  have CF : CallFix p m c cL_law 7 s (#[Value.ref b] : Array Value) wsL_law RL := ⟨hx, hb, hml, hown, hts⟩
  have hOA : ∀ q : Nat, oA a o q → s.heap.size ≤ q := fun q h => h.elim (fun ⟨k, hk, e9⟩ => by rw [e9]; exact hsa k hk) (fun e9 => by rw [e9]; exact hso)
  have hMA : ∀ q : Nat, aA 8 a2 q → s.heap.size ≤ q := fun q ⟨k, hk, e9⟩ => by rw [e9]; exact hsa2 k hk
  have hmo : ∀ j, j < 8 → ¬ oA a o (a2 j) := fun j hj z => z.elim (fun ⟨k, hk, e9⟩ => hAB k j hk hj e9.symm) (fun e9 => hO2 j hj e9)
  have hxm : ∀ j, j < 17 → ¬ aA 8 a2 (a j) := fun j hj ⟨k, hk, e9⟩ => hAB j k hj hk e9
  have hom : ¬ aA 8 a2 o := fun ⟨k, hk, e9⟩ => hO2 k hk e9.symm
  have hr1 := i32_r (xs (i + 1).toNat)
  refine lv_aload_n hx hb dL_law_1207 rfl (lv_at hl 1 rfl) ?_
  refine lv_aload_n hx hb dL_law_1208 rfl (lv_at hl 0 rfl) ?_
  refine lv_iload hx hb dL_law_1209 (lv_at hl 4 rfl) ?_
  refine ri_iconst hx hb dL_law_1211 ?_
  refine ri_iadd hx hb dL_law_1212 ?_
  refine ri_sld hx hb hX hbl hbA hS (by omega) (by omega) dL_law_1213 ?_
  refine lv_aload_n hx hb dL_law_1214 rfl (lv_at hl 3 rfl) ?_
  generalize hq1 : (xs (i + 1).toNat).toInt = v_t at hr1 ⊢
  by_cases hok : 0 ≤ v_t ∧ v_t ≤ 4
  · skip
    refine ri_wi (v := 0) (PP := (fun H => va_P D vwCl (xW a kk (g)) H ∧ va_P D vwCl (outW o kk (vp_updL f 0 (iI (dbt (g 15 v_t.toNat) (g 16 v_t.toNat))).toInt64)) H)) (vx_runSW (As := [.ref (a 0), .int (iI v_t), .ref o]) (rest := []) CF (kL_doubt_ok l D a kk g sa o f hst v_t hA hO hI hr1 hok) (vx_cwSW 3 hts gL_law_L_doubt rfl rfl rfl ⟨by decide +kernel, by decide +kernel, by decide +kernel⟩ ⟨(Nat.le_of_ble_eq_true rfl), (Nat.le_of_ble_eq_true rfl)⟩) ⟨Bl_pc lB_bl, fun U hU hW9 => ⟨rfl, lB_in hS hOA hT hP hW hK hN hC U hU hW9⟩⟩ rfl rfl hl.1 rfl (lv_room (Nat.le_of_ble_eq_true rfl)) dL_law_1215 ⟨by show _ ≤ 1053; omega, by show _ ≤ 13902; omega⟩) hS hOA (fun H locs hB hk hS => ?_)
    obtain ⟨hP, hW⟩ := hB
    replace hQ : va_P D vwCl (mW a2 kk mm) H := hQ.un hk (m_un hmo)
    refine lv_istore (lv' := [(5, .int (iI 0)), (0, .ref b), (1, .ref (a 0)), (2, .ref (a2 0)), (3, .ref o), (4, .int (iI i))]) hx hb dL_law_1218 hl (by decide) rfl (fun ls hl => ?_)
    refine lv_aload_n hx hb dL_law_1220 rfl (lv_at hl 3 rfl) ?_
    refine lv_aload_n hx hb dL_law_1221 rfl (lv_at hl 1 rfl) ?_
    refine lv_iload hx hb dL_law_1222 (lv_at hl 5 rfl) ?_
    refine ri_iconst hx hb dL_law_1224 ?_
    refine ri_iadd hx hb dL_law_1225 ?_
    refine ri_sld hx hb hX hbl hbA hS (by omega) (by omega) dL_law_1226 ?_
    refine ri_eq (y := v_t) hq1 ?_
    have hokm : 0 ≤ v_t ∧ v_t ≤ 4 := hok
    refine ri_wi (v := mdb (mm 6) v_t (mm 7 v_t.toNat)) (PP := (fun H => va_P D vwCl (mW a2 kk (thG mm 0)) H)) (ri_runV (b := a2 0) (As := [.int (iI v_t)]) (rest := []) CF (k_X4_doubt_ok l D a2 kk mm v_t hA2 hMv hr1 hokm) gL_law_X4_doubt f_X4_doubt rfl (va_recv hK hQ (ci := 4) (q0 := 0) rfl rfl) ⟨rfl, rfl, (Nat.le_of_ble_eq_true rfl), (Nat.le_of_ble_eq_true rfl), by show _ ≤ 1053; omega, by show _ ≤ 13902; omega⟩ wB_bl (wB_in hQ hK hN) rfl hl.1 rfl (Nat.le_of_ble_eq_true rfl) dL_law_1227) hS hMA (fun H locs hQ hk hS => ?_)
    replace hQ : va_P D vwCl (mW a2 kk (thG mm 0)) H := hQ
    replace hP : va_P D vwCl (xW a kk (g)) H := hP.un hk (x_un2 hxm)
    replace hW : va_P D vwCl (outW o kk (vp_updL f 0 (iI (dbt (g 15 v_t.toNat) (g 16 v_t.toNat))).toInt64)) H := hW.un hk (o_un2 hom)
    refine lv_istore (lv' := [(6, .int (iI (mdb (mm 6) v_t (mm 7 v_t.toNat)))), (5, .int (iI 0)), (0, .ref b), (1, .ref (a 0)), (2, .ref (a2 0)), (3, .ref o), (4, .int (iI i))]) hx hb dL_law_1230 hl (by decide) rfl (fun ls hl => ?_)
    refine lv_aload_n hx hb dL_law_1232 rfl (lv_at hl 4 rfl) ?_
    refine ri_rd (ri_runV (b := a2 0) (As := []) (rest := []) CF (k_X4_thrown l D a2 kk (thG mm 0)) gL_law_X4_thrown f_X4_thrown rfl (va_recv hK hQ (ci := 4) (q0 := 0) rfl rfl) ⟨rfl, rfl, (Nat.le_of_ble_eq_true rfl), (Nat.le_of_ble_eq_true rfl), by show _ ≤ 1053; omega, by show _ ≤ 13902; omega⟩ wB_bl (wB_in hQ hK hN) rfl hl.1 rfl (Nat.le_of_ble_eq_true rfl) dL_law_1233) ?_
    refine ri_eq (y := 0) (rfl) ?_
    refine lv_iload hx hb dL_law_1236 (lv_at hl 1 rfl) ?_
    refine ri_icmp_eq (tgt := 1243) hx hb (by omega) dL_law_1238 (by decide) (fun _ => ?_) (fun z => absurd rfl z)
    refine lv_iload hx hb dL_law_1243 (lv_at hl 1 rfl) ?_
    refine ri_if_ne (tgt := 1260) hx hb (by omega) dL_law_1245 (by decide) (fun z => absurd z (by omega)) (fun _ => ?_)
    refine lv_aload_n hx hb dL_law_1248 rfl (lv_at hl 5 rfl) ?_
    refine ri_iconst hx hb dL_law_1249 ?_
    refine va_lald hx hb hK hW 0 2 rfl rfl (iI_in (by decide) (by decide)) dL_law_1250 ?_
    rw [show (vp_updL f 0 (iI (dbt (g 15 v_t.toNat) (g 16 v_t.toNat))).toInt64) (iI 0).toNatClampNeg = (iI (dbt (g 15 v_t.toNat) (g 16 v_t.toNat))).toInt64 from if_pos rfl, show dbt (g 15 v_t.toNat) (g 16 v_t.toNat) = mdb (mm 6) v_t (mm 7 v_t.toNat) from Rel_db hR hMv hok]
    refine lv_iload hx hb dL_law_1251 (lv_at hl 0 rfl) ?_
    refine lv_i2l (v := (iI (mdb (mm 6) v_t (mm 7 v_t.toNat))).toInt64) hx hb dL_law_1253 rfl ?_
    refine W.lcmp hx hb dL_law_1254 ?_
    rw [cmp_0]
    refine ri_if_eq (tgt := 1260) hx hb (by omega) dL_law_1255 (by decide) (fun _ => ?_) (fun z => absurd rfl z)
    refine lv_goto (tgt := 1263) hx hb dL_law_1260 (by decide) ?_
    refine W.widen (k := cells + 2) (n := slots + 12) (by omega) (by omega) ?_
    exact K _ _ _ _ _ _ ⟨hP, hW, hQ, hS, hR, hI, hMv⟩ (lv_sub hl [2, 3, 4, 5, 6] rfl)
  · skip
    refine ri_wi (v := 1) (PP := (fun H => va_P D vwCl (xW a kk g) H ∧ va_P D vwCl (outW o kk f) H)) (vx_runSW (As := [.ref (a 0), .int (iI v_t), .ref o]) (rest := []) CF (kL_doubt_no l D a kk g sa o f hst v_t hA hO hI hr1 hok) (vx_cwSW 3 hts gL_law_L_doubt rfl rfl rfl ⟨by decide +kernel, by decide +kernel, by decide +kernel⟩ ⟨(Nat.le_of_ble_eq_true rfl), (Nat.le_of_ble_eq_true rfl)⟩) ⟨Bl_pc lB_bl, fun U hU hW9 => ⟨rfl, lB_in hS hOA hT hP hW hK hN hC U hU hW9⟩⟩ rfl rfl hl.1 rfl (lv_room (Nat.le_of_ble_eq_true rfl)) dL_law_1215 ⟨by show _ ≤ 1053; omega, by show _ ≤ 13902; omega⟩) hS hOA (fun H locs hB hk hS => ?_)
    obtain ⟨hP, hW⟩ := hB
    replace hQ : va_P D vwCl (mW a2 kk mm) H := hQ.un hk (m_un hmo)
    refine lv_istore (lv' := [(5, .int (iI 1)), (0, .ref b), (1, .ref (a 0)), (2, .ref (a2 0)), (3, .ref o), (4, .int (iI i))]) hx hb dL_law_1218 hl (by decide) rfl (fun ls hl => ?_)
    refine lv_aload_n hx hb dL_law_1220 rfl (lv_at hl 3 rfl) ?_
    refine lv_aload_n hx hb dL_law_1221 rfl (lv_at hl 1 rfl) ?_
    refine lv_iload hx hb dL_law_1222 (lv_at hl 5 rfl) ?_
    refine ri_iconst hx hb dL_law_1224 ?_
    refine ri_iadd hx hb dL_law_1225 ?_
    refine ri_sld hx hb hX hbl hbA hS (by omega) (by omega) dL_law_1226 ?_
    refine ri_eq (y := v_t) hq1 ?_
    refine ri_wi (v := 0) (PP := (fun H => va_P D vwCl (mW a2 kk (thG mm 1)) H)) (ri_runV (b := a2 0) (As := [.int (iI v_t)]) (rest := []) CF (k_X4_doubt_no l D a2 kk mm v_t hA2 hMv hr1 hok) gL_law_X4_doubt f_X4_doubt rfl (va_recv hK hQ (ci := 4) (q0 := 0) rfl rfl) ⟨rfl, rfl, (Nat.le_of_ble_eq_true rfl), (Nat.le_of_ble_eq_true rfl), by show _ ≤ 1053; omega, by show _ ≤ 13902; omega⟩ wB_bl (wB_in hQ hK hN) rfl hl.1 rfl (Nat.le_of_ble_eq_true rfl) dL_law_1227) hS hMA (fun H locs hQ hk hS => ?_)
    replace hQ : va_P D vwCl (mW a2 kk (thG mm 1)) H := hQ
    replace hP : va_P D vwCl (xW a kk (g)) H := hP.un hk (x_un2 hxm)
    replace hW : va_P D vwCl (outW o kk (f)) H := hW.un hk (o_un2 hom)
    refine lv_istore (lv' := [(6, .int (iI 0)), (5, .int (iI 1)), (0, .ref b), (1, .ref (a 0)), (2, .ref (a2 0)), (3, .ref o), (4, .int (iI i))]) hx hb dL_law_1230 hl (by decide) rfl (fun ls hl => ?_)
    refine lv_aload_n hx hb dL_law_1232 rfl (lv_at hl 4 rfl) ?_
    refine ri_rd (ri_runV (b := a2 0) (As := []) (rest := []) CF (k_X4_thrown l D a2 kk (thG mm 1)) gL_law_X4_thrown f_X4_thrown rfl (va_recv hK hQ (ci := 4) (q0 := 0) rfl rfl) ⟨rfl, rfl, (Nat.le_of_ble_eq_true rfl), (Nat.le_of_ble_eq_true rfl), by show _ ≤ 1053; omega, by show _ ≤ 13902; omega⟩ wB_bl (wB_in hQ hK hN) rfl hl.1 rfl (Nat.le_of_ble_eq_true rfl) dL_law_1233) ?_
    refine ri_eq (y := 1) (rfl) ?_
    refine lv_iload hx hb dL_law_1236 (lv_at hl 1 rfl) ?_
    refine ri_icmp_eq (tgt := 1243) hx hb (by omega) dL_law_1238 (by decide) (fun _ => ?_) (fun z => absurd rfl z)
    refine lv_iload hx hb dL_law_1243 (lv_at hl 1 rfl) ?_
    refine ri_if_ne (tgt := 1260) hx hb (by omega) dL_law_1245 (by decide) (fun _ => ?_) (fun z => absurd z (by omega))
    refine lv_goto (tgt := 1263) hx hb dL_law_1260 (by decide) ?_
    refine W.widen (k := cells + 2) (n := slots + 12) (by omega) (by omega) ?_
    exact K _ _ _ _ _ _ ⟨hP, hW, hQ, hS, Rel_th hR _, hI, MInv_th hMv _⟩ (lv_sub hl [2, 3, 4, 5, 6] rfl)
