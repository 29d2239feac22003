set_option maxHeartbeats 4000000 in
set_option maxRecDepth 100000 in
theorem lc_paint {p : Program} {l : Launch} {e : Env} {s : State} {m : MethodId} {below : List Frame} {meth : Method} {c : Code} {b L : Nat} {xs : Nat → Int32} {D : va_G} {kk : Nat → ClassId} {a a2 : Nat → Nat} {o : Nat} {sa : Nat → Nat} {g mm : Nat → Nat → Int} {f : Nat → Int64} {H : Heap} {locs : List Loc} {i : Int} {cells slots : Nat} {ls : Array Slot} {Q : State → Prop} (C0 : LCx p l s m meth c b L xs D kk a a2 o sa) (S0 : LSt s D kk a a2 o g mm f H locs) (hi : 0 ≤ i ∧ i + 7 ≤ (L : Int)) (hc : cells + 2 ≤ 1053 ∧ slots + 12 ≤ 13902) (hl : lv_has ls 7 [(0, .ref b), (1, .ref (a 0)), (2, .ref (a2 0)), (3, .ref o), (4, .int (iI i))]) (K : ∀ (g mm : Nat → Nat → Int) (f : Nat → Int64) (H : Heap) (locs : List Loc) (ls : Array Slot), LSt s D kk a a2 o g mm f H locs → lv_has ls 7 [(0, .ref b), (1, .ref (a 0)), (2, .ref (a2 0)), (3, .ref o), (4, .int (iI i))] → W p l e room_1 s m (#[Value.ref b] : Array Value) below meth c H locs (cells + 2) (slots + 12) Q (F0 m 1263 ls [])) : W p l e room_1 s m (#[Value.ref b] : Array Value) below meth c H locs cells slots Q (F0 m 116 ls []) := by
  obtain ⟨⟨hx, hb, hml, hown, hts, hX, hbl, hL⟩, ⟨hst, hK, hN, hT, hC⟩, ⟨hA, hA2, hO, hO2, hAB, hsa, hsa2, hso⟩⟩ := C0
  obtain ⟨hP, hW, hQ, hS, hR, hI, hMv⟩ := S0
  have hbA : ¬ (fun q : Nat => s.heap.size ≤ q) b := Nat.not_le.mpr hbl
  have CF : CallFix p m c cL_law 7 s (#[Value.ref b] : Array Value) wsL_law RL := ⟨hx, hb, hml, hown, hts⟩
  have hOA : ∀ q : Nat, oA a o q → s.heap.size ≤ q := fun q h => h.elim (fun ⟨k, hk, e9⟩ => by rw [e9]; exact hsa k hk) (fun e9 => by rw [e9]; exact hso)
  have hMA : ∀ q : Nat, aA 8 a2 q → s.heap.size ≤ q := fun q ⟨k, hk, e9⟩ => by rw [e9]; exact hsa2 k hk
  have hmo : ∀ j, j < 8 → ¬ oA a o (a2 j) := fun j hj z => z.elim (fun ⟨k, hk, e9⟩ => hAB k j hk hj e9.symm) (fun e9 => hO2 j hj e9)
  have hxm : ∀ j, j < 17 → ¬ aA 8 a2 (a j) := fun j hj ⟨k, hk, e9⟩ => hAB j k hj hk e9
  have hom : ¬ aA 8 a2 o := fun ⟨k, hk, e9⟩ => hO2 k hk e9.symm
  have hr1 := i32_r (xs (i + 1).toNat)
  have hr2 := i32_r (xs (i + 2).toNat)
  have hr3 := i32_r (xs (i + 3).toNat)
  have hr4 := i32_r (xs (i + 4).toNat)
  have hr5 := i32_r (xs (i + 5).toNat)
  have hr6 := i32_r (xs (i + 6).toNat)
  refine lv_aload_n hx hb dL_law_116 rfl (lv_at hl 1 rfl) ?_
  refine lv_aload_n hx hb dL_law_117 rfl (lv_at hl 0 rfl) ?_
  refine lv_iload hx hb dL_law_118 (lv_at hl 4 rfl) ?_
  refine ri_iconst hx hb dL_law_120 ?_
  refine ri_iadd hx hb dL_law_121 ?_
  refine ri_sld hx hb hX hbl hbA hS (by omega) (by omega) dL_law_122 ?_
  refine lv_aload_n hx hb dL_law_123 rfl (lv_at hl 0 rfl) ?_
  refine lv_iload hx hb dL_law_124 (lv_at hl 4 rfl) ?_
  refine ri_iconst hx hb dL_law_126 ?_
  refine ri_iadd hx hb dL_law_127 ?_
  refine ri_sld hx hb hX hbl hbA hS (by omega) (by omega) dL_law_128 ?_
  refine lv_aload_n hx hb dL_law_129 rfl (lv_at hl 0 rfl) ?_
  refine lv_iload hx hb dL_law_130 (lv_at hl 4 rfl) ?_
  refine ri_iconst hx hb dL_law_132 ?_
  refine ri_iadd hx hb dL_law_133 ?_
  refine ri_sld hx hb hX hbl hbA hS (by omega) (by omega) dL_law_134 ?_
  refine lv_aload_n hx hb dL_law_135 rfl (lv_at hl 0 rfl) ?_
  refine lv_iload hx hb dL_law_136 (lv_at hl 4 rfl) ?_
  refine ri_iconst hx hb dL_law_138 ?_
  refine ri_iadd hx hb dL_law_139 ?_
  refine ri_sld hx hb hX hbl hbA hS (by omega) (by omega) dL_law_140 ?_
  refine lv_aload_n hx hb dL_law_141 rfl (lv_at hl 0 rfl) ?_
  refine lv_iload hx hb dL_law_142 (lv_at hl 4 rfl) ?_
  refine ri_iconst hx hb dL_law_144 ?_
  refine ri_iadd hx hb dL_law_145 ?_
  refine ri_sld hx hb hX hbl hbA hS (by omega) (by omega) dL_law_146 ?_
  refine lv_aload_n hx hb dL_law_147 rfl (lv_at hl 0 rfl) ?_
  refine lv_iload hx hb dL_law_148 (lv_at hl 4 rfl) ?_
  refine ri_bipush hx hb dL_law_150 (by decide) ?_
  refine ri_iadd hx hb dL_law_152 ?_
  refine ri_sld hx hb hX hbl hbA hS (by omega) (by omega) dL_law_153 ?_
  refine lv_aload_n hx hb dL_law_154 rfl (lv_at hl 3 rfl) ?_
  generalize hq1 : (xs (i + 1).toNat).toInt = v_t at hr1 ⊢
  generalize hq2 : (xs (i + 2).toNat).toInt = v_c at hr2 ⊢
  generalize hq3 : (xs (i + 3).toNat).toInt = v_r at hr3 ⊢
  generalize hq4 : (xs (i + 4).toNat).toInt = v_w at hr4 ⊢
  generalize hq5 : (xs (i + 5).toNat).toInt = v_h at hr5 ⊢
  generalize hq6 : (xs (i + 6).toNat).toInt = v_sh at hr6 ⊢
  by_cases hok : (0 ≤ v_t ∧ v_t ≤ 4) ∧ (((0 ≤ v_c ∧ v_c ≤ 7) ∧ (0 ≤ v_r ∧ v_r ≤ 7)) ∧ (1 ≤ v_w ∧ v_w ≤ 8 - v_c) ∧ (1 ≤ v_h ∧ v_h ≤ 8 - v_r)) ∧ (0 ≤ v_sh ∧ v_sh ≤ 255)
  · skip
    refine ri_wi (v := 0) (PP := (fun H => va_P D vwCl (xW a kk (updG g 2 (pst (g 2) v_t v_c v_r v_w v_sh (v_w * v_h).toNat).1)) H ∧ va_P D vwCl (outW o kk (vp_updL f 0 (iI ((pst (g 2) v_t v_c v_r v_w v_sh (v_w * v_h).toNat).2)).toInt64)) H)) (vx_runSW (As := [.ref (a 0), .int (iI v_t), .int (iI v_c), .int (iI v_r), .int (iI v_w), .int (iI v_h), .int (iI v_sh), .ref o]) (rest := []) CF (kL_paint_ok l D a kk g sa o f hst v_t v_c v_r v_w v_h v_sh hA hO hI hr1 hr2 hr3 hr4 hr5 hr6 hok) (vx_cwSW 8 hts gL_law_L_paint rfl rfl rfl ⟨by decide +kernel, by decide +kernel, by decide +kernel⟩ ⟨(Nat.le_of_ble_eq_true rfl), (Nat.le_of_ble_eq_true rfl)⟩) ⟨Bl_pc lB_bl, fun U hU hW9 => ⟨rfl, lB_in hS hOA hT hP hW hK hN hC U hU hW9⟩⟩ rfl rfl hl.1 rfl (lv_room (Nat.le_of_ble_eq_true rfl)) dL_law_155 ⟨by show _ ≤ 1053; omega, by show _ ≤ 13902; omega⟩) hS hOA (fun H locs hB hk hS => ?_)
    obtain ⟨hP, hW⟩ := hB
    replace hQ : va_P D vwCl (mW a2 kk mm) H := hQ.un hk (m_un hmo)
    refine lv_istore (lv' := [(5, .int (iI 0)), (0, .ref b), (1, .ref (a 0)), (2, .ref (a2 0)), (3, .ref o), (4, .int (iI i))]) hx hb dL_law_158 hl (by decide) rfl (fun ls hl => ?_)
    refine lv_aload_n hx hb dL_law_160 rfl (lv_at hl 3 rfl) ?_
    refine lv_aload_n hx hb dL_law_161 rfl (lv_at hl 1 rfl) ?_
    refine lv_iload hx hb dL_law_162 (lv_at hl 5 rfl) ?_
    refine ri_iconst hx hb dL_law_164 ?_
    refine ri_iadd hx hb dL_law_165 ?_
    refine ri_sld hx hb hX hbl hbA hS (by omega) (by omega) dL_law_166 ?_
    refine ri_eq (y := v_t) hq1 ?_
    refine lv_aload_n hx hb dL_law_167 rfl (lv_at hl 1 rfl) ?_
    refine lv_iload hx hb dL_law_168 (lv_at hl 5 rfl) ?_
    refine ri_iconst hx hb dL_law_170 ?_
    refine ri_iadd hx hb dL_law_171 ?_
    refine ri_sld hx hb hX hbl hbA hS (by omega) (by omega) dL_law_172 ?_
    refine ri_eq (y := v_c) hq2 ?_
    refine lv_aload_n hx hb dL_law_173 rfl (lv_at hl 1 rfl) ?_
    refine lv_iload hx hb dL_law_174 (lv_at hl 5 rfl) ?_
    refine ri_iconst hx hb dL_law_176 ?_
    refine ri_iadd hx hb dL_law_177 ?_
    refine ri_sld hx hb hX hbl hbA hS (by omega) (by omega) dL_law_178 ?_
    refine ri_eq (y := v_r) hq3 ?_
    refine lv_aload_n hx hb dL_law_179 rfl (lv_at hl 1 rfl) ?_
    refine lv_iload hx hb dL_law_180 (lv_at hl 5 rfl) ?_
    refine ri_iconst hx hb dL_law_182 ?_
    refine ri_iadd hx hb dL_law_183 ?_
    refine ri_sld hx hb hX hbl hbA hS (by omega) (by omega) dL_law_184 ?_
    refine ri_eq (y := v_w) hq4 ?_
    refine lv_aload_n hx hb dL_law_185 rfl (lv_at hl 1 rfl) ?_
    refine lv_iload hx hb dL_law_186 (lv_at hl 5 rfl) ?_
    refine ri_iconst hx hb dL_law_188 ?_
    refine ri_iadd hx hb dL_law_189 ?_
    refine ri_sld hx hb hX hbl hbA hS (by omega) (by omega) dL_law_190 ?_
    refine ri_eq (y := v_h) hq5 ?_
    refine lv_aload_n hx hb dL_law_191 rfl (lv_at hl 1 rfl) ?_
    refine lv_iload hx hb dL_law_192 (lv_at hl 5 rfl) ?_
    refine ri_bipush hx hb dL_law_194 (by decide) ?_
    refine ri_iadd hx hb dL_law_196 ?_
    refine ri_sld hx hb hX hbl hbA hS (by omega) (by omega) dL_law_197 ?_
    refine ri_eq (y := v_sh) hq6 ?_
    have hokm : (0 ≤ v_t ∧ v_t ≤ 4) ∧ (((0 ≤ v_c ∧ v_c ≤ 7) ∧ (0 ≤ v_r ∧ v_r ≤ 7)) ∧ (1 ≤ v_w ∧ v_w ≤ 8 - v_c) ∧ (1 ≤ v_h ∧ v_h ≤ 8 - v_r)) ∧ (0 ≤ v_sh ∧ v_sh ≤ 255) := hok
    refine ri_wi (v := (pst (mm 1) v_t v_c v_r v_w v_sh (v_w * v_h).toNat).2) (PP := (fun H => va_P D vwCl (mW a2 kk (updG (thG mm 0) 1 (pst (mm 1) v_t v_c v_r v_w v_sh (v_w * v_h).toNat).1)) H)) (ri_runV (b := a2 0) (As := [.int (iI v_t), .int (iI v_c), .int (iI v_r), .int (iI v_w), .int (iI v_h), .int (iI v_sh)]) (rest := []) CF (k_X4_paint_ok l D a2 kk mm v_t v_c v_r v_w v_h v_sh hA2 hMv hr1 hr2 hr3 hr4 hr5 hr6 hokm) gL_law_X4_paint f_X4_paint rfl (va_recv hK hQ (ci := 4) (q0 := 0) rfl rfl) ⟨rfl, rfl, (Nat.le_of_ble_eq_true rfl), (Nat.le_of_ble_eq_true rfl), by show _ ≤ 1053; omega, by show _ ≤ 13902; omega⟩ wB_bl (wB_in hQ hK hN) rfl hl.1 rfl (Nat.le_of_ble_eq_true rfl) dL_law_198) hS hMA (fun H locs hQ hk hS => ?_)
    replace hQ : va_P D vwCl (mW a2 kk (updG (thG mm 0) 1 (pst (mm 1) v_t v_c v_r v_w v_sh (v_w * v_h).toNat).1)) H := hQ
    replace hP : va_P D vwCl (xW a kk (updG g 2 (pst (g 2) v_t v_c v_r v_w v_sh (v_w * v_h).toNat).1)) H := hP.un hk (x_un2 hxm)
    replace hW : va_P D vwCl (outW o kk (vp_updL f 0 (iI ((pst (g 2) v_t v_c v_r v_w v_sh (v_w * v_h).toNat).2)).toInt64)) H := hW.un hk (o_un2 hom)
    refine lv_istore (lv' := [(6, .int (iI ((pst (mm 1) v_t v_c v_r v_w v_sh (v_w * v_h).toNat).2))), (5, .int (iI 0)), (0, .ref b), (1, .ref (a 0)), (2, .ref (a2 0)), (3, .ref o), (4, .int (iI i))]) hx hb dL_law_201 hl (by decide) rfl (fun ls hl => ?_)
    refine lv_aload_n hx hb dL_law_203 rfl (lv_at hl 4 rfl) ?_
    refine ri_rd (ri_runV (b := a2 0) (As := []) (rest := []) CF (k_X4_thrown l D a2 kk (updG (thG mm 0) 1 (pst (mm 1) v_t v_c v_r v_w v_sh (v_w * v_h).toNat).1)) gL_law_X4_thrown f_X4_thrown rfl (va_recv hK hQ (ci := 4) (q0 := 0) rfl rfl) ⟨rfl, rfl, (Nat.le_of_ble_eq_true rfl), (Nat.le_of_ble_eq_true rfl), by show _ ≤ 1053; omega, by show _ ≤ 13902; omega⟩ wB_bl (wB_in hQ hK hN) rfl hl.1 rfl (Nat.le_of_ble_eq_true rfl) dL_law_204) ?_
    refine ri_eq (y := 0) (rfl) ?_
    refine lv_iload hx hb dL_law_207 (lv_at hl 1 rfl) ?_
    refine ri_icmp_eq (tgt := 214) hx hb (by omega) dL_law_209 (by decide) (fun _ => ?_) (fun z => absurd rfl z)
    refine lv_iload hx hb dL_law_214 (lv_at hl 1 rfl) ?_
    refine ri_if_ne (tgt := 231) hx hb (by omega) dL_law_216 (by decide) (fun z => absurd z (by omega)) (fun _ => ?_)
    refine lv_aload_n hx hb dL_law_219 rfl (lv_at hl 5 rfl) ?_
    refine ri_iconst hx hb dL_law_220 ?_
    refine va_lald hx hb hK hW 0 2 rfl rfl (iI_in (by decide) (by decide)) dL_law_221 ?_
    rw [show (vp_updL f 0 (iI ((pst (g 2) v_t v_c v_r v_w v_sh (v_w * v_h).toNat).2)).toInt64) (iI 0).toNatClampNeg = (iI ((pst (g 2) v_t v_c v_r v_w v_sh (v_w * v_h).toNat).2)).toInt64 from if_pos rfl, show (pst (g 2) v_t v_c v_r v_w v_sh (v_w * v_h).toNat).2 = (pst (mm 1) v_t v_c v_r v_w v_sh (v_w * v_h).toNat).2 from (Rel_pa hR hok).2]
    refine lv_iload hx hb dL_law_222 (lv_at hl 0 rfl) ?_
    refine lv_i2l (v := (iI ((pst (mm 1) v_t v_c v_r v_w v_sh (v_w * v_h).toNat).2)).toInt64) hx hb dL_law_224 rfl ?_
    refine W.lcmp hx hb dL_law_225 ?_
    rw [cmp_0]
    refine ri_if_eq (tgt := 231) hx hb (by omega) dL_law_226 (by decide) (fun _ => ?_) (fun z => absurd rfl z)
    refine lv_goto (tgt := 1263) hx hb dL_law_231 (by decide) ?_
    refine W.widen (k := cells + 2) (n := slots + 12) (by omega) (by omega) ?_
    exact K _ _ _ _ _ _ ⟨hP, hW, hQ, hS, (Rel_pa hR hok).1, XInv_pa hI hok.2.2 _, MInv_pa hMv hok.2.2 _⟩ (lv_sub hl [2, 3, 4, 5, 6] rfl)
  · skip
    refine ri_wi (v := 1) (PP := (fun H => va_P D vwCl (xW a kk g) H ∧ va_P D vwCl (outW o kk f) H)) (vx_runSW (As := [.ref (a 0), .int (iI v_t), .int (iI v_c), .int (iI v_r), .int (iI v_w), .int (iI v_h), .int (iI v_sh), .ref o]) (rest := []) CF (kL_paint_no l D a kk g sa o f hst v_t v_c v_r v_w v_h v_sh hA hO hI hr1 hr2 hr3 hr4 hr5 hr6 hok) (vx_cwSW 8 hts gL_law_L_paint rfl rfl rfl ⟨by decide +kernel, by decide +kernel, by decide +kernel⟩ ⟨(Nat.le_of_ble_eq_true rfl), (Nat.le_of_ble_eq_true rfl)⟩) ⟨Bl_pc lB_bl, fun U hU hW9 => ⟨rfl, lB_in hS hOA hT hP hW hK hN hC U hU hW9⟩⟩ rfl rfl hl.1 rfl (lv_room (Nat.le_of_ble_eq_true rfl)) dL_law_155 ⟨by show _ ≤ 1053; omega, by show _ ≤ 13902; omega⟩) hS hOA (fun H locs hB hk hS => ?_)
    obtain ⟨hP, hW⟩ := hB
    replace hQ : va_P D vwCl (mW a2 kk mm) H := hQ.un hk (m_un hmo)
    refine lv_istore (lv' := [(5, .int (iI 1)), (0, .ref b), (1, .ref (a 0)), (2, .ref (a2 0)), (3, .ref o), (4, .int (iI i))]) hx hb dL_law_158 hl (by decide) rfl (fun ls hl => ?_)
    refine lv_aload_n hx hb dL_law_160 rfl (lv_at hl 3 rfl) ?_
    refine lv_aload_n hx hb dL_law_161 rfl (lv_at hl 1 rfl) ?_
    refine lv_iload hx hb dL_law_162 (lv_at hl 5 rfl) ?_
    refine ri_iconst hx hb dL_law_164 ?_
    refine ri_iadd hx hb dL_law_165 ?_
    refine ri_sld hx hb hX hbl hbA hS (by omega) (by omega) dL_law_166 ?_
    refine ri_eq (y := v_t) hq1 ?_
    refine lv_aload_n hx hb dL_law_167 rfl (lv_at hl 1 rfl) ?_
    refine lv_iload hx hb dL_law_168 (lv_at hl 5 rfl) ?_
    refine ri_iconst hx hb dL_law_170 ?_
    refine ri_iadd hx hb dL_law_171 ?_
    refine ri_sld hx hb hX hbl hbA hS (by omega) (by omega) dL_law_172 ?_
    refine ri_eq (y := v_c) hq2 ?_
    refine lv_aload_n hx hb dL_law_173 rfl (lv_at hl 1 rfl) ?_
    refine lv_iload hx hb dL_law_174 (lv_at hl 5 rfl) ?_
    refine ri_iconst hx hb dL_law_176 ?_
    refine ri_iadd hx hb dL_law_177 ?_
    refine ri_sld hx hb hX hbl hbA hS (by omega) (by omega) dL_law_178 ?_
    refine ri_eq (y := v_r) hq3 ?_
    refine lv_aload_n hx hb dL_law_179 rfl (lv_at hl 1 rfl) ?_
    refine lv_iload hx hb dL_law_180 (lv_at hl 5 rfl) ?_
    refine ri_iconst hx hb dL_law_182 ?_
    refine ri_iadd hx hb dL_law_183 ?_
    refine ri_sld hx hb hX hbl hbA hS (by omega) (by omega) dL_law_184 ?_
    refine ri_eq (y := v_w) hq4 ?_
    refine lv_aload_n hx hb dL_law_185 rfl (lv_at hl 1 rfl) ?_
    refine lv_iload hx hb dL_law_186 (lv_at hl 5 rfl) ?_
    refine ri_iconst hx hb dL_law_188 ?_
    refine ri_iadd hx hb dL_law_189 ?_
    refine ri_sld hx hb hX hbl hbA hS (by omega) (by omega) dL_law_190 ?_
    refine ri_eq (y := v_h) hq5 ?_
    refine lv_aload_n hx hb dL_law_191 rfl (lv_at hl 1 rfl) ?_
    refine lv_iload hx hb dL_law_192 (lv_at hl 5 rfl) ?_
    refine ri_bipush hx hb dL_law_194 (by decide) ?_
    refine ri_iadd hx hb dL_law_196 ?_
    refine ri_sld hx hb hX hbl hbA hS (by omega) (by omega) dL_law_197 ?_
    refine ri_eq (y := v_sh) hq6 ?_
    refine ri_wi (v := 0) (PP := (fun H => va_P D vwCl (mW a2 kk (thG mm 1)) H)) (ri_runV (b := a2 0) (As := [.int (iI v_t), .int (iI v_c), .int (iI v_r), .int (iI v_w), .int (iI v_h), .int (iI v_sh)]) (rest := []) CF (k_X4_paint_no l D a2 kk mm v_t v_c v_r v_w v_h v_sh hA2 hMv hr1 hr2 hr3 hr4 hr5 hr6 hok) gL_law_X4_paint f_X4_paint rfl (va_recv hK hQ (ci := 4) (q0 := 0) rfl rfl) ⟨rfl, rfl, (Nat.le_of_ble_eq_true rfl), (Nat.le_of_ble_eq_true rfl), by show _ ≤ 1053; omega, by show _ ≤ 13902; omega⟩ wB_bl (wB_in hQ hK hN) rfl hl.1 rfl (Nat.le_of_ble_eq_true rfl) dL_law_198) hS hMA (fun H locs hQ hk hS => ?_)
    replace hQ : va_P D vwCl (mW a2 kk (thG mm 1)) H := hQ
    replace hP : va_P D vwCl (xW a kk (g)) H := hP.un hk (x_un2 hxm)
    replace hW : va_P D vwCl (outW o kk (f)) H := hW.un hk (o_un2 hom)
    refine lv_istore (lv' := [(6, .int (iI 0)), (5, .int (iI 1)), (0, .ref b), (1, .ref (a 0)), (2, .ref (a2 0)), (3, .ref o), (4, .int (iI i))]) hx hb dL_law_201 hl (by decide) rfl (fun ls hl => ?_)
    refine lv_aload_n hx hb dL_law_203 rfl (lv_at hl 4 rfl) ?_
    refine ri_rd (ri_runV (b := a2 0) (As := []) (rest := []) CF (k_X4_thrown l D a2 kk (thG mm 1)) gL_law_X4_thrown f_X4_thrown rfl (va_recv hK hQ (ci := 4) (q0 := 0) rfl rfl) ⟨rfl, rfl, (Nat.le_of_ble_eq_true rfl), (Nat.le_of_ble_eq_true rfl), by show _ ≤ 1053; omega, by show _ ≤ 13902; omega⟩ wB_bl (wB_in hQ hK hN) rfl hl.1 rfl (Nat.le_of_ble_eq_true rfl) dL_law_204) ?_
    refine ri_eq (y := 1) (rfl) ?_
    refine lv_iload hx hb dL_law_207 (lv_at hl 1 rfl) ?_
    refine ri_icmp_eq (tgt := 214) hx hb (by omega) dL_law_209 (by decide) (fun _ => ?_) (fun z => absurd rfl z)
    refine lv_iload hx hb dL_law_214 (lv_at hl 1 rfl) ?_
    refine ri_if_ne (tgt := 231) hx hb (by omega) dL_law_216 (by decide) (fun _ => ?_) (fun z => absurd z (by omega))
    refine lv_goto (tgt := 1263) hx hb dL_law_231 (by decide) ?_
    refine W.widen (k := cells + 2) (n := slots + 12) (by omega) (by omega) ?_
    exact K _ _ _ _ _ _ ⟨hP, hW, hQ, hS, Rel_th hR _, hI, MInv_th hMv _⟩ (lv_sub hl [2, 3, 4, 5, 6] rfl)

set_option maxHeartbeats 4000000 in
set_option maxRecDepth 100000 in
theorem lc_setPart {p : Program} {l : Launch} {e : Env} {s : State} {m : MethodId} {below : List Frame} {meth : Method} {c : Code} {b L : Nat} {xs : Nat → Int32} {D : va_G} {kk : Nat → ClassId} {a a2 : Nat → Nat} {o : Nat} {sa : Nat → Nat} {g mm : Nat → Nat → Int} {f : Nat → Int64} {H : Heap} {locs : List Loc} {i : Int} {cells slots : Nat} {ls : Array Slot} {Q : State → Prop} (C0 : LCx p l s m meth c b L xs D kk a a2 o sa) (S0 : LSt s D kk a a2 o g mm f H locs) (hi : 0 ≤ i ∧ i + 7 ≤ (L : Int)) (hc : cells + 2 ≤ 1053 ∧ slots + 12 ≤ 13902) (hl : lv_has ls 7 [(0, .ref b), (1, .ref (a 0)), (2, .ref (a2 0)), (3, .ref o), (4, .int (iI i))]) (K : ∀ (g mm : Nat → Nat → Int) (f : Nat → Int64) (H : Heap) (locs : List Loc) (ls : Array Slot), LSt s D kk a a2 o g mm f H locs → lv_has ls 7 [(0, .ref b), (1, .ref (a 0)), (2, .ref (a2 0)), (3, .ref o), (4, .int (iI i))] → W p l e room_1 s m (#[Value.ref b] : Array Value) below meth c H locs (cells + 2) (slots + 12) Q (F0 m 1263 ls [])) : W p l e room_1 s m (#[Value.ref b] : Array Value) below meth c H locs cells slots Q (F0 m 314 ls []) := by
  obtain ⟨⟨hx, hb, hml, hown, hts, hX, hbl, hL⟩, ⟨hst, hK, hN, hT, hC⟩, ⟨hA, hA2, hO, hO2, hAB, hsa, hsa2, hso⟩⟩ := C0
  obtain ⟨hP, hW, hQ, hS, hR, hI, hMv⟩ := S0
  have hbA : ¬ (fun q : Nat => s.heap.size ≤ q) b := Nat.not_le.mpr hbl
  have CF : CallFix p m c cL_law 7 s (#[Value.ref b] : Array Value) wsL_law RL := ⟨hx, hb, hml, hown, hts⟩
  have hOA : ∀ q : Nat, oA a o q → s.heap.size ≤ q := fun q h => h.elim (fun ⟨k, hk, e9⟩ => by rw [e9]; exact hsa k hk) (fun e9 => by rw [e9]; exact hso)
  have hMA : ∀ q : Nat, aA 8 a2 q → s.heap.size ≤ q := fun q ⟨k, hk, e9⟩ => by rw [e9]; exact hsa2 k hk
  have hmo : ∀ j, j < 8 → ¬ oA a o (a2 j) := fun j hj z => z.elim (fun ⟨k, hk, e9⟩ => hAB k j hk hj e9.symm) (fun e9 => hO2 j hj e9)
  have hxm : ∀ j, j < 17 → ¬ aA 8 a2 (a j) := fun j hj ⟨k, hk, e9⟩ => hAB j k hj hk e9
  have hom : ¬ aA 8 a2 o := fun ⟨k, hk, e9⟩ => hO2 k hk e9.symm
  have hr1 := i32_r (xs (i + 1).toNat)
  have hr2 := i32_r (xs (i + 2).toNat)
  have hr3 := i32_r (xs (i + 3).toNat)
  have hr4 := i32_r (xs (i + 4).toNat)
  have hr5 := i32_r (xs (i + 5).toNat)
  refine lv_aload_n hx hb dL_law_314 rfl (lv_at hl 1 rfl) ?_
  refine lv_aload_n hx hb dL_law_315 rfl (lv_at hl 0 rfl) ?_
  refine lv_iload hx hb dL_law_316 (lv_at hl 4 rfl) ?_
  refine ri_iconst hx hb dL_law_318 ?_
  refine ri_iadd hx hb dL_law_319 ?_
  refine ri_sld hx hb hX hbl hbA hS (by omega) (by omega) dL_law_320 ?_
  refine lv_aload_n hx hb dL_law_321 rfl (lv_at hl 0 rfl) ?_
  refine lv_iload hx hb dL_law_322 (lv_at hl 4 rfl) ?_
  refine ri_iconst hx hb dL_law_324 ?_
  refine ri_iadd hx hb dL_law_325 ?_
  refine ri_sld hx hb hX hbl hbA hS (by omega) (by omega) dL_law_326 ?_
  refine lv_aload_n hx hb dL_law_327 rfl (lv_at hl 0 rfl) ?_
  refine lv_iload hx hb dL_law_328 (lv_at hl 4 rfl) ?_
  refine ri_iconst hx hb dL_law_330 ?_
  refine ri_iadd hx hb dL_law_331 ?_
  refine ri_sld hx hb hX hbl hbA hS (by omega) (by omega) dL_law_332 ?_
  refine lv_aload_n hx hb dL_law_333 rfl (lv_at hl 0 rfl) ?_
  refine lv_iload hx hb dL_law_334 (lv_at hl 4 rfl) ?_
  refine ri_iconst hx hb dL_law_336 ?_
  refine ri_iadd hx hb dL_law_337 ?_
  refine ri_sld hx hb hX hbl hbA hS (by omega) (by omega) dL_law_338 ?_
  refine lv_aload_n hx hb dL_law_339 rfl (lv_at hl 0 rfl) ?_
  refine lv_iload hx hb dL_law_340 (lv_at hl 4 rfl) ?_
  refine ri_iconst hx hb dL_law_342 ?_
  refine ri_iadd hx hb dL_law_343 ?_
  refine ri_sld hx hb hX hbl hbA hS (by omega) (by omega) dL_law_344 ?_
  generalize hq1 : (xs (i + 1).toNat).toInt = v_t at hr1 ⊢
  generalize hq2 : (xs (i + 2).toNat).toInt = v_c at hr2 ⊢
  generalize hq3 : (xs (i + 3).toNat).toInt = v_r at hr3 ⊢
  generalize hq4 : (xs (i + 4).toNat).toInt = v_w at hr4 ⊢
  generalize hq5 : (xs (i + 5).toNat).toInt = v_h at hr5 ⊢
  by_cases hok : (0 ≤ v_t ∧ v_t ≤ 4) ∧ ((0 ≤ v_c ∧ v_c ≤ 7) ∧ (0 ≤ v_r ∧ v_r ≤ 7)) ∧ (1 ≤ v_w ∧ v_w ≤ 8 - v_c) ∧ (1 ≤ v_h ∧ v_h ≤ 8 - v_r)
  · skip
    refine ri_wi (v := 0) (PP := (fun H => va_P D vwCl (xW a kk (putX 9 (putX 4 g v_t v_c v_r v_w v_h) v_t 0 0 0 0)) H ∧ va_P D vwCl (outW o kk (f)) H)) (vx_runSW (As := [.ref (a 0), .int (iI v_t), .int (iI v_c), .int (iI v_r), .int (iI v_w), .int (iI v_h)]) (rest := []) CF (kL_setPart_ok l D a kk g sa o f hst v_t v_c v_r v_w v_h hA hO hI hr1 hr2 hr3 hr4 hr5 hok) (vx_cwSW 6 hts gL_law_L_setPart rfl rfl rfl ⟨by decide +kernel, by decide +kernel, by decide +kernel⟩ ⟨(Nat.le_of_ble_eq_true rfl), (Nat.le_of_ble_eq_true rfl)⟩) ⟨Bl_pc lB_bl, fun U hU hW9 => ⟨rfl, lB_in hS hOA hT hP hW hK hN hC U hU hW9⟩⟩ rfl rfl hl.1 rfl (lv_room (Nat.le_of_ble_eq_true rfl)) dL_law_345 ⟨by show _ ≤ 1053; omega, by show _ ≤ 13902; omega⟩) hS hOA (fun H locs hB hk hS => ?_)
    obtain ⟨hP, hW⟩ := hB
    replace hQ : va_P D vwCl (mW a2 kk mm) H := hQ.un hk (m_un hmo)
    refine lv_istore (lv' := [(5, .int (iI 0)), (0, .ref b), (1, .ref (a 0)), (2, .ref (a2 0)), (3, .ref o), (4, .int (iI i))]) hx hb dL_law_348 hl (by decide) rfl (fun ls hl => ?_)
    refine lv_aload_n hx hb dL_law_350 rfl (lv_at hl 3 rfl) ?_
    refine lv_aload_n hx hb dL_law_351 rfl (lv_at hl 1 rfl) ?_
    refine lv_iload hx hb dL_law_352 (lv_at hl 5 rfl) ?_
    refine ri_iconst hx hb dL_law_354 ?_
    refine ri_iadd hx hb dL_law_355 ?_
    refine ri_sld hx hb hX hbl hbA hS (by omega) (by omega) dL_law_356 ?_
    refine ri_eq (y := v_t) hq1 ?_
    refine lv_aload_n hx hb dL_law_357 rfl (lv_at hl 1 rfl) ?_
    refine lv_iload hx hb dL_law_358 (lv_at hl 5 rfl) ?_
    refine ri_iconst hx hb dL_law_360 ?_
    refine ri_iadd hx hb dL_law_361 ?_
    refine ri_sld hx hb hX hbl hbA hS (by omega) (by omega) dL_law_362 ?_
    refine ri_eq (y := v_c) hq2 ?_
    refine lv_aload_n hx hb dL_law_363 rfl (lv_at hl 1 rfl) ?_
    refine lv_iload hx hb dL_law_364 (lv_at hl 5 rfl) ?_
    refine ri_iconst hx hb dL_law_366 ?_
    refine ri_iadd hx hb dL_law_367 ?_
    refine ri_sld hx hb hX hbl hbA hS (by omega) (by omega) dL_law_368 ?_
    refine ri_eq (y := v_r) hq3 ?_
    refine lv_aload_n hx hb dL_law_369 rfl (lv_at hl 1 rfl) ?_
    refine lv_iload hx hb dL_law_370 (lv_at hl 5 rfl) ?_
    refine ri_iconst hx hb dL_law_372 ?_
    refine ri_iadd hx hb dL_law_373 ?_
    refine ri_sld hx hb hX hbl hbA hS (by omega) (by omega) dL_law_374 ?_
    refine ri_eq (y := v_w) hq4 ?_
    refine lv_aload_n hx hb dL_law_375 rfl (lv_at hl 1 rfl) ?_
    refine lv_iload hx hb dL_law_376 (lv_at hl 5 rfl) ?_
    refine ri_iconst hx hb dL_law_378 ?_
    refine ri_iadd hx hb dL_law_379 ?_
    refine ri_sld hx hb hX hbl hbA hS (by omega) (by omega) dL_law_380 ?_
    refine ri_eq (y := v_h) hq5 ?_
    have hokm : (0 ≤ v_t ∧ v_t ≤ 4) ∧ ((0 ≤ v_c ∧ v_c ≤ 7) ∧ (0 ≤ v_r ∧ v_r ≤ 7)) ∧ (1 ≤ v_w ∧ v_w ≤ 8 - v_c) ∧ (1 ≤ v_h ∧ v_h ≤ 8 - v_r) := hok
    refine ri_wv (PP := (fun H => va_P D vwCl (mW a2 kk (spG (thG mm 0) v_t v_c v_r v_w v_h)) H)) (ri_runV (b := a2 0) (As := [.int (iI v_t), .int (iI v_c), .int (iI v_r), .int (iI v_w), .int (iI v_h)]) (rest := []) CF (k_X4_setPart_ok l D a2 kk mm v_t v_c v_r v_w v_h hA2 hMv hr1 hr2 hr3 hr4 hr5 hokm) gL_law_X4_setPart f_X4_setPart rfl (va_recv hK hQ (ci := 4) (q0 := 0) rfl rfl) ⟨rfl, rfl, (Nat.le_of_ble_eq_true rfl), (Nat.le_of_ble_eq_true rfl), by show _ ≤ 1053; omega, by show _ ≤ 13902; omega⟩ wB_bl (wB_in hQ hK hN) rfl hl.1 rfl (Nat.le_of_ble_eq_true rfl) dL_law_381) hS hMA (fun H locs hQ hk hS => ?_)
    replace hQ : va_P D vwCl (mW a2 kk (spG (thG mm 0) v_t v_c v_r v_w v_h)) H := hQ
    replace hP : va_P D vwCl (xW a kk (putX 9 (putX 4 g v_t v_c v_r v_w v_h) v_t 0 0 0 0)) H := hP.un hk (x_un2 hxm)
    replace hW : va_P D vwCl (outW o kk (f)) H := hW.un hk (o_un2 hom)
    refine lv_aload_n hx hb dL_law_384 rfl (lv_at hl 3 rfl) ?_
    refine ri_rd (ri_runV (b := a2 0) (As := []) (rest := []) CF (k_X4_thrown l D a2 kk (spG (thG mm 0) v_t v_c v_r v_w v_h)) gL_law_X4_thrown f_X4_thrown rfl (va_recv hK hQ (ci := 4) (q0 := 0) rfl rfl) ⟨rfl, rfl, (Nat.le_of_ble_eq_true rfl), (Nat.le_of_ble_eq_true rfl), by show _ ≤ 1053; omega, by show _ ≤ 13902; omega⟩ wB_bl (wB_in hQ hK hN) rfl hl.1 rfl (Nat.le_of_ble_eq_true rfl) dL_law_385) ?_
    refine ri_eq (y := 0) (rfl) ?_
    refine lv_iload hx hb dL_law_388 (lv_at hl 0 rfl) ?_
    refine ri_icmp_eq (tgt := 395) hx hb (by omega) dL_law_390 (by decide) (fun _ => ?_) (fun z => absurd rfl z)
    refine lv_goto (tgt := 1263) hx hb dL_law_395 (by decide) ?_
    refine W.widen (k := cells + 2) (n := slots + 12) (by omega) (by omega) ?_
    exact K _ _ _ _ _ _ ⟨hP, hW, hQ, hS, Rel_sp hR hok.1, XInv_p9 (XInv_p4 hI hok.1 (by omega) (by omega)) hok.1 (by omega) (by omega), MInv_sp hMv hok.1 hok.2.1 hok.2.2.1 hok.2.2.2⟩ (lv_sub hl [1, 2, 3, 4, 5] rfl)
  · skip
    refine ri_wi (v := 1) (PP := (fun H => va_P D vwCl (xW a kk g) H ∧ va_P D vwCl (outW o kk f) H)) (vx_runSW (As := [.ref (a 0), .int (iI v_t), .int (iI v_c), .int (iI v_r), .int (iI v_w), .int (iI v_h)]) (rest := []) CF (kL_setPart_no l D a kk g sa o f hst v_t v_c v_r v_w v_h hA hO hI hr1 hr2 hr3 hr4 hr5 hok) (vx_cwSW 6 hts gL_law_L_setPart rfl rfl rfl ⟨by decide +kernel, by decide +kernel, by decide +kernel⟩ ⟨(Nat.le_of_ble_eq_true rfl), (Nat.le_of_ble_eq_true rfl)⟩) ⟨Bl_pc lB_bl, fun U hU hW9 => ⟨rfl, lB_in hS hOA hT hP hW hK hN hC U hU hW9⟩⟩ rfl rfl hl.1 rfl (lv_room (Nat.le_of_ble_eq_true rfl)) dL_law_345 ⟨by show _ ≤ 1053; omega, by show _ ≤ 13902; omega⟩) hS hOA (fun H locs hB hk hS => ?_)
    obtain ⟨hP, hW⟩ := hB
    replace hQ : va_P D vwCl (mW a2 kk mm) H := hQ.un hk (m_un hmo)
    refine lv_istore (lv' := [(5, .int (iI 1)), (0, .ref b), (1, .ref (a 0)), (2, .ref (a2 0)), (3, .ref o), (4, .int (iI i))]) hx hb dL_law_348 hl (by decide) rfl (fun ls hl => ?_)
    refine lv_aload_n hx hb dL_law_350 rfl (lv_at hl 3 rfl) ?_
    refine lv_aload_n hx hb dL_law_351 rfl (lv_at hl 1 rfl) ?_
    refine lv_iload hx hb dL_law_352 (lv_at hl 5 rfl) ?_
    refine ri_iconst hx hb dL_law_354 ?_
    refine ri_iadd hx hb dL_law_355 ?_
    refine ri_sld hx hb hX hbl hbA hS (by omega) (by omega) dL_law_356 ?_
    refine ri_eq (y := v_t) hq1 ?_
    refine lv_aload_n hx hb dL_law_357 rfl (lv_at hl 1 rfl) ?_
    refine lv_iload hx hb dL_law_358 (lv_at hl 5 rfl) ?_
    refine ri_iconst hx hb dL_law_360 ?_
    refine ri_iadd hx hb dL_law_361 ?_
    refine ri_sld hx hb hX hbl hbA hS (by omega) (by omega) dL_law_362 ?_
    refine ri_eq (y := v_c) hq2 ?_
    refine lv_aload_n hx hb dL_law_363 rfl (lv_at hl 1 rfl) ?_
    refine lv_iload hx hb dL_law_364 (lv_at hl 5 rfl) ?_
    refine ri_iconst hx hb dL_law_366 ?_
    refine ri_iadd hx hb dL_law_367 ?_
    refine ri_sld hx hb hX hbl hbA hS (by omega) (by omega) dL_law_368 ?_
    refine ri_eq (y := v_r) hq3 ?_
    refine lv_aload_n hx hb dL_law_369 rfl (lv_at hl 1 rfl) ?_
    refine lv_iload hx hb dL_law_370 (lv_at hl 5 rfl) ?_
    refine ri_iconst hx hb dL_law_372 ?_
    refine ri_iadd hx hb dL_law_373 ?_
    refine ri_sld hx hb hX hbl hbA hS (by omega) (by omega) dL_law_374 ?_
    refine ri_eq (y := v_w) hq4 ?_
    refine lv_aload_n hx hb dL_law_375 rfl (lv_at hl 1 rfl) ?_
    refine lv_iload hx hb dL_law_376 (lv_at hl 5 rfl) ?_
    refine ri_iconst hx hb dL_law_378 ?_
    refine ri_iadd hx hb dL_law_379 ?_
    refine ri_sld hx hb hX hbl hbA hS (by omega) (by omega) dL_law_380 ?_
    refine ri_eq (y := v_h) hq5 ?_
    refine ri_wv (PP := (fun H => va_P D vwCl (mW a2 kk (thG mm 1)) H)) (ri_runV (b := a2 0) (As := [.int (iI v_t), .int (iI v_c), .int (iI v_r), .int (iI v_w), .int (iI v_h)]) (rest := []) CF (k_X4_setPart_no l D a2 kk mm v_t v_c v_r v_w v_h hA2 hMv hr1 hr2 hr3 hr4 hr5 hok) gL_law_X4_setPart f_X4_setPart rfl (va_recv hK hQ (ci := 4) (q0 := 0) rfl rfl) ⟨rfl, rfl, (Nat.le_of_ble_eq_true rfl), (Nat.le_of_ble_eq_true rfl), by show _ ≤ 1053; omega, by show _ ≤ 13902; omega⟩ wB_bl (wB_in hQ hK hN) rfl hl.1 rfl (Nat.le_of_ble_eq_true rfl) dL_law_381) hS hMA (fun H locs hQ hk hS => ?_)
    replace hQ : va_P D vwCl (mW a2 kk (thG mm 1)) H := hQ
    replace hP : va_P D vwCl (xW a kk (g)) H := hP.un hk (x_un2 hxm)
    replace hW : va_P D vwCl (outW o kk (f)) H := hW.un hk (o_un2 hom)
    refine lv_aload_n hx hb dL_law_384 rfl (lv_at hl 3 rfl) ?_
    refine ri_rd (ri_runV (b := a2 0) (As := []) (rest := []) CF (k_X4_thrown l D a2 kk (thG mm 1)) gL_law_X4_thrown f_X4_thrown rfl (va_recv hK hQ (ci := 4) (q0 := 0) rfl rfl) ⟨rfl, rfl, (Nat.le_of_ble_eq_true rfl), (Nat.le_of_ble_eq_true rfl), by show _ ≤ 1053; omega, by show _ ≤ 13902; omega⟩ wB_bl (wB_in hQ hK hN) rfl hl.1 rfl (Nat.le_of_ble_eq_true rfl) dL_law_385) ?_
    refine ri_eq (y := 1) (rfl) ?_
    refine lv_iload hx hb dL_law_388 (lv_at hl 0 rfl) ?_
    refine ri_icmp_eq (tgt := 395) hx hb (by omega) dL_law_390 (by decide) (fun _ => ?_) (fun z => absurd rfl z)
    refine lv_goto (tgt := 1263) hx hb dL_law_395 (by decide) ?_
    refine W.widen (k := cells + 2) (n := slots + 12) (by omega) (by omega) ?_
    exact K _ _ _ _ _ _ ⟨hP, hW, hQ, hS, Rel_th hR _, hI, MInv_th hMv _⟩ (lv_sub hl [1, 2, 3, 4, 5] rfl)
