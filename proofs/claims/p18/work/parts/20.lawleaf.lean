/-! ===== the law's own methods around the class's ===== -/
theorem paR_t (g : Nat → Nat → Int) (t c r w h sh : Int) (h9 : okP t c r w h sh) : paR g t c r w h sh = (pst (g 2) t c r w sh (w * h).toNat).2 := by unfold paR; exact iteI_t h9
theorem paR_f (g : Nat → Nat → Int) (t c r w h sh : Int) (h9 : ¬ okP t c r w h sh) : paR g t c r w h sh = (-99999) := by unfold paR; exact iteI_f h9
theorem paG_t (g : Nat → Nat → Int) (t c r w h sh : Int) (h9 : okP t c r w h sh) : paG g t c r w h sh = updG g 2 (pst (g 2) t c r w sh (w * h).toNat).1 := by unfold paG; exact iteG_t h9
theorem paG_f (g : Nat → Nat → Int) (t c r w h sh : Int) (h9 : ¬ okP t c r w h sh) : paG g t c r w h sh = g := by unfold paG; exact iteG_f h9
theorem spR_t (t c r w h : Int) (h9 : okS t c r w h) : spR t c r w h = 0 := by unfold spR; exact iteI_t h9
theorem spR_f (t c r w h : Int) (h9 : ¬ okS t c r w h) : spR t c r w h = (-99999) := by unfold spR; exact iteI_f h9
theorem spG_t (g : Nat → Nat → Int) (t c r w h : Int) (h9 : okS t c r w h) : spG g t c r w h = putX 9 (putX 4 g t c r w h) t 0 0 0 0 := by unfold spG; exact iteG_t h9
theorem spG_f (g : Nat → Nat → Int) (t c r w h : Int) (h9 : ¬ okS t c r w h) : spG g t c r w h = g := by unfold spG; exact iteG_f h9
theorem smR_t (g : Nat → Nat → Int) (t c r w h : Int) (h9 : okM g t c r w h) : smR g t c r w h = 0 := by unfold smR; exact iteI_t h9
theorem smR_f (g : Nat → Nat → Int) (t c r w h : Int) (h9 : ¬ okM g t c r w h) : smR g t c r w h = (-99999) := by unfold smR; exact iteI_f h9
theorem smG_t (g : Nat → Nat → Int) (t c r w h : Int) (h9 : okM g t c r w h) : smG g t c r w h = putX 9 g t c r w h := by unfold smG; exact iteG_t h9
theorem smG_f (g : Nat → Nat → Int) (t c r w h : Int) (h9 : ¬ okM g t c r w h) : smG g t c r w h = g := by unfold smG; exact iteG_f h9
theorem apR_t (g : Nat → Nat → Int) (b t : Int) (h9 : okA b t) : apR g b t = bp (g 3 (5 + b * 5 + t).toNat = 1) := by unfold apR; exact iteI_t h9
theorem apR_f (g : Nat → Nat → Int) (b t : Int) (h9 : ¬ okA b t) : apR g b t = (-99999) := by unfold apR; exact iteI_f h9
theorem apG_t (g : Nat → Nat → Int) (b t : Int) (h9 : okA b t) : apG g b t = cpG g t (5 + b * 5 + t) := by unfold apG; exact iteG_t h9
theorem apG_f (g : Nat → Nat → Int) (b t : Int) (h9 : ¬ okA b t) : apG g b t = g := by unfold apG; exact iteG_f h9
theorem beR_t (g : Nat → Nat → Int) (b : Int) (h9 : (1 ≤ b ∧ b ≤ 3)) : beR g b = begC g b 5 := by unfold beR; exact iteI_t h9
theorem beR_f (g : Nat → Nat → Int) (b : Int) (h9 : ¬ (1 ≤ b ∧ b ≤ 3)) : beR g b = (-99999) := by unfold beR; exact iteI_f h9
theorem beG_t (g : Nat → Nat → Int) (b : Int) (h9 : (1 ≤ b ∧ b ≤ 3)) : beG g b = begG g b 5 := by unfold beG; exact iteG_t h9
theorem beG_f (g : Nat → Nat → Int) (b : Int) (h9 : ¬ (1 ≤ b ∧ b ≤ 3)) : beG g b = g := by unfold beG; exact iteG_f h9
theorem joR_t (g : Nat → Nat → Int) (b : Int) (h9 : (1 ≤ b ∧ b ≤ 3)) : joR g b = joiC g b 5 := by unfold joR; exact iteI_t h9
theorem joR_f (g : Nat → Nat → Int) (b : Int) (h9 : ¬ (1 ≤ b ∧ b ≤ 3)) : joR g b = (-99999) := by unfold joR; exact iteI_f h9
theorem joG_t (g : Nat → Nat → Int) (b : Int) (h9 : (1 ≤ b ∧ b ≤ 3)) : joG g b = joiG g b 5 := by unfold joG; exact iteG_t h9
theorem joG_f (g : Nat → Nat → Int) (b : Int) (h9 : ¬ (1 ≤ b ∧ b ≤ 3)) : joG g b = g := by unfold joG; exact iteG_f h9
theorem ruG_t (g : Nat → Nat → Int) (b t n : Int) (h9 : okC g b t n) : ruG g b t n = hisG g t (bp (fdE (CD g b t n) < 0)) := by unfold ruG; exact iteG_t h9
theorem ruG_f (g : Nat → Nat → Int) (b t n : Int) (h9 : ¬ okC g b t n) : ruG g b t n = g := by unfold ruG; exact iteG_f h9

set_option maxHeartbeats 4000000 in
set_option maxRecDepth 100000 in
theorem kL_paint (l : Launch) (D : va_G) (a : Nat → Nat) (kk : Nat → ClassId) (g : Nat → Nat → Int) (sa : Nat → Nat) (N : Nat) (hst : l.stackTraces = false) (t : Int) (c : Int) (r : Int) (w : Int) (h : Int) (sh : Int) (hA : aDs 17 a) (hI : XInv g) (yt : -2147483648 ≤ t ∧ t < 2147483648) (yc : -2147483648 ≤ c ∧ c < 2147483648) (yr : -2147483648 ≤ r ∧ r < 2147483648) (yw : -2147483648 ≤ w ∧ w < 2147483648) (yh : -2147483648 ≤ h ∧ h < 2147483648) (ysh : -2147483648 ≤ sh ∧ sh < 2147483648) : WI l yL_paint wsL_paint ({ frames := 8, cells := 1, slots := 6, locals := 133 }) [.ref (a 0), .int (iI t), .int (iI c), .int (iI r), .int (iI w), .int (iI h), .int (iI sh)] (qB sa D a kk g N) (paR g t c r w h sh) (fun H => va_P D vwCl (xW a kk (paG g t c r w h sh)) H ∧ N ≤ H.size) (aA 17 a) 1 6 := by
  refine va_MetW (cc := cL_paint) (maxL := 8) (ret := some .int) (hh := [(0, 13, 14, 14)]) (by decide) rfl ?_
  intro zp ze s zm av zb zt zc s₁ B hml hv
  obtain ⟨rfl, hT, hP, hK, hN, hC, hz0⟩ := hv
  have hx := B.exec
  have hb := B.bytes
  have hr := B.returns
  have hts := atoms_spec (ws := wsL_paint) B.pre
  have hown : s.vm.findClass RL = some zm.cls := findClass_of_methodNamed B.named
  have hlocks := B.notSynchronized
  have hxt := vx_table (x := yL_paint) B (hts (.codeWith yL_paint cL_paint 8 (some .int) [(0, 13, 14, 14)]) (List.mem_of_getElem? (i := 0) rfl))
  have hS : va_S (aA 17 a) s.heap s.heap [] := va_S.rf
  have CF : CallFix zp zm zc cL_paint 8 s ([.ref (a 0), .int (iI t), .int (iI c), .int (iI r), .int (iI w), .int (iI h), .int (iI sh)] : List Value).toArray wsL_paint RL := ⟨hx, hb, hml, hown, hts⟩
  have hl := lv_entry ([.ref (a 0), .int (iI t), .int (iI c), .int (iI r), .int (iI w), .int (iI h), .int (iI sh)] : List Value) (n := 8) (Nat.le_of_ble_eq_true rfl)
  rw [lg_entry_eq]
  generalize (lg_sl ([.ref (a 0), .int (iI t), .int (iI c), .int (iI r), .int (iI w), .int (iI h), .int (iI sh)] : List Value) ++ List.replicate (8 - (lg_sl ([.ref (a 0), .int (iI t), .int (iI c), .int (iI r), .int (iI w), .int (iI h), .int (iI sh)] : List Value)).length) Slot.unset).toArray = ls at hl ⊢
  have hl : lv_has ls 8 [(0, .ref (a 0)), (1, .int (iI t)), (2, .int (iI c)), (3, .int (iI r)), (4, .int (iI w)), (5, .int (iI h)), (6, .int (iI sh))] := hl
  refine lv_aload_n hx hb dL_paint_0 rfl (lv_at hl 0 rfl) ?_
  refine lv_iload_n hx hb dL_paint_1 rfl (lv_at hl 1 rfl) ?_
  refine lv_iload_n hx hb dL_paint_2 rfl (lv_at hl 2 rfl) ?_
  refine lv_iload_n hx hb dL_paint_3 rfl (lv_at hl 3 rfl) ?_
  refine lv_iload hx hb dL_paint_4 (lv_at hl 4 rfl) ?_
  refine lv_iload hx hb dL_paint_6 (lv_at hl 5 rfl) ?_
  refine lv_iload hx hb dL_paint_8 (lv_at hl 6 rfl) ?_
  refine vx_calli (ri_runVX (b := a 0) (As := [.int (iI t), .int (iI c), .int (iI r), .int (iI w), .int (iI h), .int (iI sh)]) (rest := []) CF (k_X3_paint l D a kk g sa hst t c r w h sh hA hI yt yc yr yw yh ysh) gL_paint_X3_paint f_X3_paint rfl (va_recv hK hP (ci := 3) (q0 := 0) rfl rfl) ⟨rfl, rfl, (Nat.le_of_ble_eq_true rfl), (Nat.le_of_ble_eq_true rfl), (Nat.le_of_ble_eq_true rfl), (Nat.le_of_ble_eq_true rfl)⟩ pB_bl (pB_i2 hS (fun _ h => h) hT hP hK hN) rfl hl.1 rfl (Nat.le_of_ble_eq_true rfl) dL_paint_10) hS (fun q _ h => h) (fun q h => h) (fun _ _ h => h.elim) (fun X ce q9 _ tz H1 locs1 ht hvm _ hB hz hk hS1 hce hcv hcl => ?_) (fun rz _ tz H1 locs1 ht hvm hp hB hz hk hS => ?_)
  · have hP1 := hP.un hk (fun _ _ _ z => z)
    obtain ⟨hX, hB⟩ := hB
    subst hX
    refine vx_catch hown [] ⟨0, 13, 14, 14⟩ [] hxt (fun z hz => absurd hz List.not_mem_nil) rfl (by decide) ((hts _ (List.mem_of_getElem? (i := 1) rfl))) (va_Nw.use rfl hT.2.2.2.2.2.2.2.2.1) hce hcv hcl ?_
    refine lv_astore (lv' := (7, .ref q9) :: [(0, .ref (a 0)), (1, .int (iI t)), (2, .int (iI c)), (3, .int (iI r)), (4, .int (iI w)), (5, .int (iI h)), (6, .int (iI sh))]) hx hb dL_paint_14 hl (by decide) rfl (fun ls hl => ?_)
    refine lv_ldc (v := iI (-99999)) hx hb hown (hts _ (List.mem_of_getElem? (i := 2) rfl)) dL_paint_16 ?_
    exact ri_iretW (A := aA 17 a) (PP := (fun H => va_P D vwCl (xW a kk (paG g t c r w h sh)) H ∧ N ≤ H.size)) hx hb hr hlocks hS1 ⟨by rw [paG_f g t c r w h sh hB]; exact hP1, Nat.le_trans hz0 hz⟩ dL_paint_18 (paR_f g t c r w h sh hB).symm
  · have hP2 : va_P D vwCl (xW a kk (updG g 2 (pst (g 2) t c r w sh (w * h).toNat).1)) H1 := ht ▸ hB
    have hok := hp.1
    obtain ⟨_, hpr⟩ := hp
    subst hpr
    have hz2 := Nat.le_trans hz0 hz
    exact ri_iretW (A := aA 17 a) (PP := (fun H => va_P D vwCl (xW a kk (paG g t c r w h sh)) H ∧ N ≤ H.size)) hx hb hr hlocks hS ⟨by rw [paG_t g t c r w h sh hok]; exact hP2, hz2⟩ dL_paint_13 (paR_t g t c r w h sh hok).symm

set_option maxHeartbeats 4000000 in
set_option maxRecDepth 100000 in
theorem kL_setPart (l : Launch) (D : va_G) (a : Nat → Nat) (kk : Nat → ClassId) (g : Nat → Nat → Int) (sa : Nat → Nat) (N : Nat) (hst : l.stackTraces = false) (t : Int) (c : Int) (r : Int) (w : Int) (h : Int) (hA : aDs 17 a) (hI : XInv g) (yt : -2147483648 ≤ t ∧ t < 2147483648) (yc : -2147483648 ≤ c ∧ c < 2147483648) (yr : -2147483648 ≤ r ∧ r < 2147483648) (yw : -2147483648 ≤ w ∧ w < 2147483648) (yh : -2147483648 ≤ h ∧ h < 2147483648) : WI l yL_setPart wsL_setPart ({ frames := 8, cells := 1, slots := 6, locals := 129 }) [.ref (a 0), .int (iI t), .int (iI c), .int (iI r), .int (iI w), .int (iI h)] (qB sa D a kk g N) (spR t c r w h) (fun H => va_P D vwCl (xW a kk (spG g t c r w h)) H ∧ N ≤ H.size) (aA 17 a) 1 6 := by
  refine va_MetW (cc := cL_setPart) (maxL := 7) (ret := some .int) (hh := [(0, 12, 13, 14)]) (by decide) rfl ?_
  intro zp ze s zm av zb zt zc s₁ B hml hv
  obtain ⟨rfl, hT, hP, hK, hN, hC, hz0⟩ := hv
  have hx := B.exec
  have hb := B.bytes
  have hr := B.returns
  have hts := atoms_spec (ws := wsL_setPart) B.pre
  have hown : s.vm.findClass RL = some zm.cls := findClass_of_methodNamed B.named
  have hlocks := B.notSynchronized
  have hxt := vx_table (x := yL_setPart) B (hts (.codeWith yL_setPart cL_setPart 7 (some .int) [(0, 12, 13, 14)]) (List.mem_of_getElem? (i := 0) rfl))
  have hS : va_S (aA 17 a) s.heap s.heap [] := va_S.rf
  have CF : CallFix zp zm zc cL_setPart 7 s ([.ref (a 0), .int (iI t), .int (iI c), .int (iI r), .int (iI w), .int (iI h)] : List Value).toArray wsL_setPart RL := ⟨hx, hb, hml, hown, hts⟩
  have hl := lv_entry ([.ref (a 0), .int (iI t), .int (iI c), .int (iI r), .int (iI w), .int (iI h)] : List Value) (n := 7) (Nat.le_of_ble_eq_true rfl)
  rw [lg_entry_eq]
  generalize (lg_sl ([.ref (a 0), .int (iI t), .int (iI c), .int (iI r), .int (iI w), .int (iI h)] : List Value) ++ List.replicate (7 - (lg_sl ([.ref (a 0), .int (iI t), .int (iI c), .int (iI r), .int (iI w), .int (iI h)] : List Value)).length) Slot.unset).toArray = ls at hl ⊢
  have hl : lv_has ls 7 [(0, .ref (a 0)), (1, .int (iI t)), (2, .int (iI c)), (3, .int (iI r)), (4, .int (iI w)), (5, .int (iI h))] := hl
  refine lv_aload_n hx hb dL_setPart_0 rfl (lv_at hl 0 rfl) ?_
  refine lv_iload_n hx hb dL_setPart_1 rfl (lv_at hl 1 rfl) ?_
  refine lv_iload_n hx hb dL_setPart_2 rfl (lv_at hl 2 rfl) ?_
  refine lv_iload_n hx hb dL_setPart_3 rfl (lv_at hl 3 rfl) ?_
  refine lv_iload hx hb dL_setPart_4 (lv_at hl 4 rfl) ?_
  refine lv_iload hx hb dL_setPart_6 (lv_at hl 5 rfl) ?_
  refine vx_callv (ri_runVX (b := a 0) (As := [.int (iI t), .int (iI c), .int (iI r), .int (iI w), .int (iI h)]) (rest := []) CF (k_X3_setPart l D a kk g sa hst t c r w h hA hI yt yc yr yw yh) gL_setPart_X3_setPart f_X3_setPart rfl (va_recv hK hP (ci := 3) (q0 := 0) rfl rfl) ⟨rfl, rfl, (Nat.le_of_ble_eq_true rfl), (Nat.le_of_ble_eq_true rfl), (Nat.le_of_ble_eq_true rfl), (Nat.le_of_ble_eq_true rfl)⟩ pB_bl (pB_i2 hS (fun _ h => h) hT hP hK hN) rfl hl.1 rfl (Nat.le_of_ble_eq_true rfl) dL_setPart_8) hS (fun q _ h => h) (fun q h => h) (fun _ _ h => h.elim) (fun X ce q9 _ tz H1 locs1 ht hvm _ hB hz hk hS1 hce hcv hcl => ?_) (fun _ tz H1 locs1 ht hvm hp hB hz hk hS => ?_)
  · have hP1 := hP.un hk (fun _ _ _ z => z)
    obtain ⟨hX, hB⟩ := hB
    subst hX
    refine vx_catch hown [] ⟨0, 12, 13, 14⟩ [] hxt (fun z hz => absurd hz List.not_mem_nil) rfl (by decide) ((hts _ (List.mem_of_getElem? (i := 1) rfl))) (va_Nw.use rfl hT.2.2.2.2.2.2.2.2.1) hce hcv hcl ?_
    refine lv_astore (lv' := (6, .ref q9) :: [(0, .ref (a 0)), (1, .int (iI t)), (2, .int (iI c)), (3, .int (iI r)), (4, .int (iI w)), (5, .int (iI h))]) hx hb dL_setPart_13 hl (by decide) rfl (fun ls hl => ?_)
    refine lv_ldc (v := iI (-99999)) hx hb hown (hts _ (List.mem_of_getElem? (i := 2) rfl)) dL_setPart_15 ?_
    exact ri_iretW (A := aA 17 a) (PP := (fun H => va_P D vwCl (xW a kk (spG g t c r w h)) H ∧ N ≤ H.size)) hx hb hr hlocks hS1 ⟨by rw [spG_f g t c r w h hB]; exact hP1, Nat.le_trans hz0 hz⟩ dL_setPart_17 (spR_f t c r w h hB).symm
  · have hP2 : va_P D vwCl (xW a kk (putX 9 (putX 4 g t c r w h) t 0 0 0 0)) H1 := ht ▸ hB
    have hok := hp
    have hz2 := Nat.le_trans hz0 hz
    refine ri_iconst hx hb dL_setPart_11 ?_
    exact ri_iretW (A := aA 17 a) (PP := (fun H => va_P D vwCl (xW a kk (spG g t c r w h)) H ∧ N ≤ H.size)) hx hb hr hlocks hS ⟨by rw [spG_t g t c r w h hok]; exact hP2, hz2⟩ dL_setPart_12 (spR_t t c r w h hok).symm

set_option maxHeartbeats 4000000 in
set_option maxRecDepth 100000 in
theorem kL_setMask (l : Launch) (D : va_G) (a : Nat → Nat) (kk : Nat → ClassId) (g : Nat → Nat → Int) (sa : Nat → Nat) (N : Nat) (hst : l.stackTraces = false) (t : Int) (c : Int) (r : Int) (w : Int) (h : Int) (hA : aDs 17 a) (hI : XInv g) (yt : -2147483648 ≤ t ∧ t < 2147483648) (yc : -2147483648 ≤ c ∧ c < 2147483648) (yr : -2147483648 ≤ r ∧ r < 2147483648) (yw : -2147483648 ≤ w ∧ w < 2147483648) (yh : -2147483648 ≤ h ∧ h < 2147483648) : WI l yL_setMask wsL_setMask ({ frames := 8, cells := 2, slots := 12, locals := 129 }) [.ref (a 0), .int (iI t), .int (iI c), .int (iI r), .int (iI w), .int (iI h)] (qB sa D a kk g N) (smR g t c r w h) (fun H => va_P D vwCl (xW a kk (smG g t c r w h)) H ∧ N ≤ H.size) (aA 17 a) 2 12 := by
  refine va_MetW (cc := cL_setMask) (maxL := 7) (ret := some .int) (hh := [(0, 12, 13, 14), (0, 12, 18, 24)]) (by decide) rfl ?_
  intro zp ze s zm av zb zt zc s₁ B hml hv
  obtain ⟨rfl, hT, hP, hK, hN, hC, hz0⟩ := hv
  have hx := B.exec
  have hb := B.bytes
  have hr := B.returns
  have hts := atoms_spec (ws := wsL_setMask) B.pre
  have hown : s.vm.findClass RL = some zm.cls := findClass_of_methodNamed B.named
  have hlocks := B.notSynchronized
  have hxt := vx_table (x := yL_setMask) B (hts (.codeWith yL_setMask cL_setMask 7 (some .int) [(0, 12, 13, 14), (0, 12, 18, 24)]) (List.mem_of_getElem? (i := 0) rfl))
  have hS : va_S (aA 17 a) s.heap s.heap [] := va_S.rf
  have CF : CallFix zp zm zc cL_setMask 7 s ([.ref (a 0), .int (iI t), .int (iI c), .int (iI r), .int (iI w), .int (iI h)] : List Value).toArray wsL_setMask RL := ⟨hx, hb, hml, hown, hts⟩
  have hl := lv_entry ([.ref (a 0), .int (iI t), .int (iI c), .int (iI r), .int (iI w), .int (iI h)] : List Value) (n := 7) (Nat.le_of_ble_eq_true rfl)
  rw [lg_entry_eq]
  generalize (lg_sl ([.ref (a 0), .int (iI t), .int (iI c), .int (iI r), .int (iI w), .int (iI h)] : List Value) ++ List.replicate (7 - (lg_sl ([.ref (a 0), .int (iI t), .int (iI c), .int (iI r), .int (iI w), .int (iI h)] : List Value)).length) Slot.unset).toArray = ls at hl ⊢
  have hl : lv_has ls 7 [(0, .ref (a 0)), (1, .int (iI t)), (2, .int (iI c)), (3, .int (iI r)), (4, .int (iI w)), (5, .int (iI h))] := hl
  refine lv_aload_n hx hb dL_setMask_0 rfl (lv_at hl 0 rfl) ?_
  refine lv_iload_n hx hb dL_setMask_1 rfl (lv_at hl 1 rfl) ?_
  refine lv_iload_n hx hb dL_setMask_2 rfl (lv_at hl 2 rfl) ?_
  refine lv_iload_n hx hb dL_setMask_3 rfl (lv_at hl 3 rfl) ?_
  refine lv_iload hx hb dL_setMask_4 (lv_at hl 4 rfl) ?_
  refine lv_iload hx hb dL_setMask_6 (lv_at hl 5 rfl) ?_
  refine vx_callv (ri_runVX (b := a 0) (As := [.int (iI t), .int (iI c), .int (iI r), .int (iI w), .int (iI h)]) (rest := []) CF (k_X3_setMask l D a kk g sa hst t c r w h hA hI yt yc yr yw yh) gL_setMask_X3_setMask f_X3_setMask rfl (va_recv hK hP (ci := 3) (q0 := 0) rfl rfl) ⟨rfl, rfl, (Nat.le_of_ble_eq_true rfl), (Nat.le_of_ble_eq_true rfl), (Nat.le_of_ble_eq_true rfl), (Nat.le_of_ble_eq_true rfl)⟩ pB_bl (pB_i2 hS (fun _ h => h) hT hP hK hN) rfl hl.1 rfl (Nat.le_of_ble_eq_true rfl) dL_setMask_8) hS (fun q _ h => h) (fun q h => h) (fun _ _ h => h.elim) (fun X ce q9 _ tz H1 locs1 ht hvm _ hB hz hk hS1 hce hcv hcl => ?_) (fun _ tz H1 locs1 ht hvm hp hB hz hk hS => ?_)
  · have hP1 := hP.un hk (fun _ _ _ z => z)
    rcases (show _ ∨ _ from hB) with ⟨hX, hB9⟩ | ⟨hX, hB9, hB8⟩
    · subst hX
      refine vx_catch hown [] ⟨0, 12, 13, 14⟩ [⟨0, 12, 18, 24⟩] hxt (fun z hz => absurd hz List.not_mem_nil) rfl (by decide) ((hts _ (List.mem_of_getElem? (i := 1) rfl))) (va_Nw.use rfl hT.2.2.2.2.2.2.2.2.1) hce hcv hcl ?_
      refine lv_astore (lv' := (6, .ref q9) :: [(0, .ref (a 0)), (1, .int (iI t)), (2, .int (iI c)), (3, .int (iI r)), (4, .int (iI w)), (5, .int (iI h))]) hx hb dL_setMask_13 hl (by decide) rfl (fun ls hl => ?_)
      refine lv_ldc (v := iI (-99999)) hx hb hown (hts _ (List.mem_of_getElem? (i := 3) rfl)) dL_setMask_15 ?_
      exact ri_iretW (A := aA 17 a) (PP := (fun H => va_P D vwCl (xW a kk (smG g t c r w h)) H ∧ N ≤ H.size)) hx hb hr hlocks hS1 ⟨by rw [smG_f g t c r w h (fun q => hB9 q.1)]; exact hP1, Nat.le_trans hz0 hz⟩ dL_setMask_17 (smR_f g t c r w h (fun q => hB9 q.1)).symm
    · subst hX
      refine vx_catch hown [⟨0, 12, 13, 14⟩] ⟨0, 12, 18, 24⟩ [] hxt (fun z hz => by rw [List.mem_singleton.mp hz]; exact Or.inr ⟨by decide, "java/lang/IllegalArgumentException", (hts _ (List.mem_of_getElem? (i := 1) rfl)), hC⟩) rfl (by decide) ((hts _ (List.mem_of_getElem? (i := 2) rfl))) (va_Nw.use rfl hT.2.2.2.2.2.2.2.2.2) hce hcv hcl ?_
      refine lv_astore (lv' := (6, .ref q9) :: [(0, .ref (a 0)), (1, .int (iI t)), (2, .int (iI c)), (3, .int (iI r)), (4, .int (iI w)), (5, .int (iI h))]) hx hb dL_setMask_18 hl (by decide) rfl (fun ls hl => ?_)
      refine lv_ldc (v := iI (-99999)) hx hb hown (hts _ (List.mem_of_getElem? (i := 3) rfl)) dL_setMask_20 ?_
      exact ri_iretW (A := aA 17 a) (PP := (fun H => va_P D vwCl (xW a kk (smG g t c r w h)) H ∧ N ≤ H.size)) hx hb hr hlocks hS1 ⟨by rw [smG_f g t c r w h (fun q => hB8 q.2)]; exact hP1, Nat.le_trans hz0 hz⟩ dL_setMask_22 (smR_f g t c r w h (fun q => hB8 q.2)).symm
  · have hP2 : va_P D vwCl (xW a kk (putX 9 g t c r w h)) H1 := ht ▸ hB
    have hok := hp
    have hz2 := Nat.le_trans hz0 hz
    refine ri_iconst hx hb dL_setMask_11 ?_
    exact ri_iretW (A := aA 17 a) (PP := (fun H => va_P D vwCl (xW a kk (smG g t c r w h)) H ∧ N ≤ H.size)) hx hb hr hlocks hS ⟨by rw [smG_t g t c r w h hok]; exact hP2, hz2⟩ dL_setMask_12 (smR_t g t c r w h hok).symm

set_option maxHeartbeats 4000000 in
set_option maxRecDepth 100000 in
theorem kL_approve (l : Launch) (D : va_G) (a : Nat → Nat) (kk : Nat → ClassId) (g : Nat → Nat → Int) (sa : Nat → Nat) (N : Nat) (hst : l.stackTraces = false) (b : Int) (t : Int) (hA : aDs 17 a) (hI : XInv g) (yb : -2147483648 ≤ b ∧ b < 2147483648) (yt : -2147483648 ≤ t ∧ t < 2147483648) : WI l yL_approve wsL_approve ({ frames := 8, cells := 1, slots := 6, locals := 128 }) [.ref (a 0), .int (iI b), .int (iI t)] (qB sa D a kk g N) (apR g b t) (fun H => va_P D vwCl (xW a kk (apG g b t)) H ∧ N ≤ H.size) (aA 17 a) 1 6 := by
  refine va_MetW (cc := cL_approve) (maxL := 4) (ret := some .int) (hh := [(0, 14, 15, 14)]) (by decide) rfl ?_
  intro zp ze s zm av zb zt zc s₁ B hml hv
  obtain ⟨rfl, hT, hP, hK, hN, hC, hz0⟩ := hv
  have hx := B.exec
  have hb := B.bytes
  have hr := B.returns
  have hts := atoms_spec (ws := wsL_approve) B.pre
  have hown : s.vm.findClass RL = some zm.cls := findClass_of_methodNamed B.named
  have hlocks := B.notSynchronized
  have hxt := vx_table (x := yL_approve) B (hts (.codeWith yL_approve cL_approve 4 (some .int) [(0, 14, 15, 14)]) (List.mem_of_getElem? (i := 0) rfl))
  have hS : va_S (aA 17 a) s.heap s.heap [] := va_S.rf
  have CF : CallFix zp zm zc cL_approve 4 s ([.ref (a 0), .int (iI b), .int (iI t)] : List Value).toArray wsL_approve RL := ⟨hx, hb, hml, hown, hts⟩
  have hl := lv_entry ([.ref (a 0), .int (iI b), .int (iI t)] : List Value) (n := 4) (Nat.le_of_ble_eq_true rfl)
  rw [lg_entry_eq]
  generalize (lg_sl ([.ref (a 0), .int (iI b), .int (iI t)] : List Value) ++ List.replicate (4 - (lg_sl ([.ref (a 0), .int (iI b), .int (iI t)] : List Value)).length) Slot.unset).toArray = ls at hl ⊢
  have hl : lv_has ls 4 [(0, .ref (a 0)), (1, .int (iI b)), (2, .int (iI t))] := hl
  refine lv_aload_n hx hb dL_approve_0 rfl (lv_at hl 0 rfl) ?_
  refine lv_iload_n hx hb dL_approve_1 rfl (lv_at hl 1 rfl) ?_
  refine lv_iload_n hx hb dL_approve_2 rfl (lv_at hl 2 rfl) ?_
  refine vx_calli (ri_runVX (b := a 0) (As := [.int (iI b), .int (iI t)]) (rest := []) CF (k_X3_approve l D a kk g sa hst b t hA hI yb yt) gL_approve_X3_approve f_X3_approve rfl (va_recv hK hP (ci := 3) (q0 := 0) rfl rfl) ⟨rfl, rfl, (Nat.le_of_ble_eq_true rfl), (Nat.le_of_ble_eq_true rfl), (Nat.le_of_ble_eq_true rfl), (Nat.le_of_ble_eq_true rfl)⟩ pB_bl (pB_i2 hS (fun _ h => h) hT hP hK hN) rfl hl.1 rfl (Nat.le_of_ble_eq_true rfl) dL_approve_3) hS (fun q _ h => h) (fun q h => h) (fun _ _ h => h.elim) (fun X ce q9 _ tz H1 locs1 ht hvm _ hB hz hk hS1 hce hcv hcl => ?_) (fun rz _ tz H1 locs1 ht hvm hp hB hz hk hS => ?_)
  · have hP1 := hP.un hk (fun _ _ _ z => z)
    obtain ⟨hX, hB⟩ := hB
    subst hX
    refine vx_catch hown [] ⟨0, 14, 15, 14⟩ [] hxt (fun z hz => absurd hz List.not_mem_nil) rfl (by decide) ((hts _ (List.mem_of_getElem? (i := 1) rfl))) (va_Nw.use rfl hT.2.2.2.2.2.2.2.2.1) hce hcv hcl ?_
    refine lv_astore_n (lv' := (3, .ref q9) :: [(0, .ref (a 0)), (1, .int (iI b)), (2, .int (iI t))]) hx hb dL_approve_15 rfl hl (by decide) rfl (fun ls hl => ?_)
    refine lv_ldc (v := iI (-99999)) hx hb hown (hts _ (List.mem_of_getElem? (i := 2) rfl)) dL_approve_16 ?_
    exact ri_iretW (A := aA 17 a) (PP := (fun H => va_P D vwCl (xW a kk (apG g b t)) H ∧ N ≤ H.size)) hx hb hr hlocks hS1 ⟨by rw [apG_f g b t hB]; exact hP1, Nat.le_trans hz0 hz⟩ dL_approve_18 (apR_f g b t hB).symm
  · have hP2 : va_P D vwCl (xW a kk (cpG g t (5 + b * 5 + t))) H1 := ht ▸ hB
    have hok := hp.1
    obtain ⟨_, hpr⟩ := hp
    subst hpr
    have hz2 := Nat.le_trans hz0 hz
    refine ri_ifeq_b (tgt := 13) hx hb dL_approve_6 (by decide) (fun hq => ?_) (fun hq => ?_)
    · refine ri_iconst hx hb dL_approve_13 ?_
      exact ri_iretW (A := aA 17 a) (PP := (fun H => va_P D vwCl (xW a kk (apG g b t)) H ∧ N ≤ H.size)) hx hb hr hlocks hS ⟨by rw [apG_t g b t hok]; exact hP2, hz2⟩ dL_approve_14 (((apR_t g b t hok).trans (bp_f hq)).symm)
    · refine ri_iconst hx hb dL_approve_9 ?_
      refine lv_goto (tgt := 14) hx hb dL_approve_10 (by decide) ?_
      exact ri_iretW (A := aA 17 a) (PP := (fun H => va_P D vwCl (xW a kk (apG g b t)) H ∧ N ≤ H.size)) hx hb hr hlocks hS ⟨by rw [apG_t g b t hok]; exact hP2, hz2⟩ dL_approve_14 (((apR_t g b t hok).trans (bp_t hq)).symm)

set_option maxHeartbeats 4000000 in
set_option maxRecDepth 100000 in
theorem kL_begin (l : Launch) (D : va_G) (a : Nat → Nat) (kk : Nat → ClassId) (g : Nat → Nat → Int) (sa : Nat → Nat) (N : Nat) (hst : l.stackTraces = false) (b : Int) (hA : aDs 17 a) (hI : XInv g) (yb : -2147483648 ≤ b ∧ b < 2147483648) : WI l yL_begin wsL_begin ({ frames := 8, cells := 1, slots := 6, locals := 127 }) [.ref (a 0), .int (iI b)] (qB sa D a kk g N) (beR g b) (fun H => va_P D vwCl (xW a kk (beG g b)) H ∧ N ≤ H.size) (aA 17 a) 1 6 := by
  refine va_MetW (cc := cL_begin) (maxL := 3) (ret := some .int) (hh := [(0, 5, 6, 14)]) (by decide) rfl ?_
  intro zp ze s zm av zb zt zc s₁ B hml hv
  obtain ⟨rfl, hT, hP, hK, hN, hC, hz0⟩ := hv
  have hx := B.exec
  have hb := B.bytes
  have hr := B.returns
  have hts := atoms_spec (ws := wsL_begin) B.pre
  have hown : s.vm.findClass RL = some zm.cls := findClass_of_methodNamed B.named
  have hlocks := B.notSynchronized
  have hxt := vx_table (x := yL_begin) B (hts (.codeWith yL_begin cL_begin 3 (some .int) [(0, 5, 6, 14)]) (List.mem_of_getElem? (i := 0) rfl))
  have hS : va_S (aA 17 a) s.heap s.heap [] := va_S.rf
  have CF : CallFix zp zm zc cL_begin 3 s ([.ref (a 0), .int (iI b)] : List Value).toArray wsL_begin RL := ⟨hx, hb, hml, hown, hts⟩
  have hl := lv_entry ([.ref (a 0), .int (iI b)] : List Value) (n := 3) (Nat.le_of_ble_eq_true rfl)
  rw [lg_entry_eq]
  generalize (lg_sl ([.ref (a 0), .int (iI b)] : List Value) ++ List.replicate (3 - (lg_sl ([.ref (a 0), .int (iI b)] : List Value)).length) Slot.unset).toArray = ls at hl ⊢
  have hl : lv_has ls 3 [(0, .ref (a 0)), (1, .int (iI b))] := hl
  refine lv_aload_n hx hb dL_begin_0 rfl (lv_at hl 0 rfl) ?_
  refine lv_iload_n hx hb dL_begin_1 rfl (lv_at hl 1 rfl) ?_
  refine vx_calli (ri_runVX (b := a 0) (As := [.int (iI b)]) (rest := []) CF (k_X3_begin l D a kk g sa hst b hA hI yb) gL_begin_X3_begin f_X3_begin rfl (va_recv hK hP (ci := 3) (q0 := 0) rfl rfl) ⟨rfl, rfl, (Nat.le_of_ble_eq_true rfl), (Nat.le_of_ble_eq_true rfl), (Nat.le_of_ble_eq_true rfl), (Nat.le_of_ble_eq_true rfl)⟩ pB_bl (pB_i2 hS (fun _ h => h) hT hP hK hN) rfl hl.1 rfl (Nat.le_of_ble_eq_true rfl) dL_begin_2) hS (fun q _ h => h) (fun q h => h) (fun _ _ h => h.elim) (fun X ce q9 _ tz H1 locs1 ht hvm _ hB hz hk hS1 hce hcv hcl => ?_) (fun rz _ tz H1 locs1 ht hvm hp hB hz hk hS => ?_)
  · have hP1 := hP.un hk (fun _ _ _ z => z)
    obtain ⟨hX, hB⟩ := hB
    subst hX
    refine vx_catch hown [] ⟨0, 5, 6, 14⟩ [] hxt (fun z hz => absurd hz List.not_mem_nil) rfl (by decide) ((hts _ (List.mem_of_getElem? (i := 1) rfl))) (va_Nw.use rfl hT.2.2.2.2.2.2.2.2.1) hce hcv hcl ?_
    refine lv_astore_n (lv' := (2, .ref q9) :: [(0, .ref (a 0)), (1, .int (iI b))]) hx hb dL_begin_6 rfl hl (by decide) rfl (fun ls hl => ?_)
    refine lv_ldc (v := iI (-99999)) hx hb hown (hts _ (List.mem_of_getElem? (i := 2) rfl)) dL_begin_7 ?_
    exact ri_iretW (A := aA 17 a) (PP := (fun H => va_P D vwCl (xW a kk (beG g b)) H ∧ N ≤ H.size)) hx hb hr hlocks hS1 ⟨by rw [beG_f g b hB]; exact hP1, Nat.le_trans hz0 hz⟩ dL_begin_9 (beR_f g b hB).symm
  · have hP2 : va_P D vwCl (xW a kk (begG g b 5)) H1 := ht ▸ hB
    have hok := hp.1
    obtain ⟨_, hpr⟩ := hp
    subst hpr
    have hz2 := Nat.le_trans hz0 hz
    exact ri_iretW (A := aA 17 a) (PP := (fun H => va_P D vwCl (xW a kk (beG g b)) H ∧ N ≤ H.size)) hx hb hr hlocks hS ⟨by rw [beG_t g b hok]; exact hP2, hz2⟩ dL_begin_5 (beR_t g b hok).symm

set_option maxHeartbeats 4000000 in
set_option maxRecDepth 100000 in
theorem kL_join (l : Launch) (D : va_G) (a : Nat → Nat) (kk : Nat → ClassId) (g : Nat → Nat → Int) (sa : Nat → Nat) (N : Nat) (hst : l.stackTraces = false) (b : Int) (hA : aDs 17 a) (hI : XInv g) (yb : -2147483648 ≤ b ∧ b < 2147483648) : WI l yL_join wsL_join ({ frames := 8, cells := 1, slots := 6, locals := 134 }) [.ref (a 0), .int (iI b)] (qB sa D a kk g N) (joR g b) (fun H => va_P D vwCl (xW a kk (joG g b)) H ∧ N ≤ H.size) (aA 17 a) 1 6 := by
  refine va_MetW (cc := cL_join) (maxL := 3) (ret := some .int) (hh := [(0, 5, 6, 14)]) (by decide) rfl ?_
  intro zp ze s zm av zb zt zc s₁ B hml hv
  obtain ⟨rfl, hT, hP, hK, hN, hC, hz0⟩ := hv
  have hx := B.exec
  have hb := B.bytes
  have hr := B.returns
  have hts := atoms_spec (ws := wsL_join) B.pre
  have hown : s.vm.findClass RL = some zm.cls := findClass_of_methodNamed B.named
  have hlocks := B.notSynchronized
  have hxt := vx_table (x := yL_join) B (hts (.codeWith yL_join cL_join 3 (some .int) [(0, 5, 6, 14)]) (List.mem_of_getElem? (i := 0) rfl))
  have hS : va_S (aA 17 a) s.heap s.heap [] := va_S.rf
  have CF : CallFix zp zm zc cL_join 3 s ([.ref (a 0), .int (iI b)] : List Value).toArray wsL_join RL := ⟨hx, hb, hml, hown, hts⟩
  have hl := lv_entry ([.ref (a 0), .int (iI b)] : List Value) (n := 3) (Nat.le_of_ble_eq_true rfl)
  rw [lg_entry_eq]
  generalize (lg_sl ([.ref (a 0), .int (iI b)] : List Value) ++ List.replicate (3 - (lg_sl ([.ref (a 0), .int (iI b)] : List Value)).length) Slot.unset).toArray = ls at hl ⊢
  have hl : lv_has ls 3 [(0, .ref (a 0)), (1, .int (iI b))] := hl
  refine lv_aload_n hx hb dL_join_0 rfl (lv_at hl 0 rfl) ?_
  refine lv_iload_n hx hb dL_join_1 rfl (lv_at hl 1 rfl) ?_
  refine vx_calli (ri_runVX (b := a 0) (As := [.int (iI b)]) (rest := []) CF (k_X3_join l D a kk g sa hst b hA hI yb) gL_join_X3_join f_X3_join rfl (va_recv hK hP (ci := 3) (q0 := 0) rfl rfl) ⟨rfl, rfl, (Nat.le_of_ble_eq_true rfl), (Nat.le_of_ble_eq_true rfl), (Nat.le_of_ble_eq_true rfl), (Nat.le_of_ble_eq_true rfl)⟩ pB_bl (pB_i2 hS (fun _ h => h) hT hP hK hN) rfl hl.1 rfl (Nat.le_of_ble_eq_true rfl) dL_join_2) hS (fun q _ h => h) (fun q h => h) (fun _ _ h => h.elim) (fun X ce q9 _ tz H1 locs1 ht hvm _ hB hz hk hS1 hce hcv hcl => ?_) (fun rz _ tz H1 locs1 ht hvm hp hB hz hk hS => ?_)
  · have hP1 := hP.un hk (fun _ _ _ z => z)
    obtain ⟨hX, hB⟩ := hB
    subst hX
    refine vx_catch hown [] ⟨0, 5, 6, 14⟩ [] hxt (fun z hz => absurd hz List.not_mem_nil) rfl (by decide) ((hts _ (List.mem_of_getElem? (i := 1) rfl))) (va_Nw.use rfl hT.2.2.2.2.2.2.2.2.1) hce hcv hcl ?_
    refine lv_astore_n (lv' := (2, .ref q9) :: [(0, .ref (a 0)), (1, .int (iI b))]) hx hb dL_join_6 rfl hl (by decide) rfl (fun ls hl => ?_)
    refine lv_ldc (v := iI (-99999)) hx hb hown (hts _ (List.mem_of_getElem? (i := 2) rfl)) dL_join_7 ?_
    exact ri_iretW (A := aA 17 a) (PP := (fun H => va_P D vwCl (xW a kk (joG g b)) H ∧ N ≤ H.size)) hx hb hr hlocks hS1 ⟨by rw [joG_f g b hB]; exact hP1, Nat.le_trans hz0 hz⟩ dL_join_9 (joR_f g b hB).symm
  · have hP2 : va_P D vwCl (xW a kk (joiG g b 5)) H1 := ht ▸ hB
    have hok := hp.1
    obtain ⟨_, hpr⟩ := hp
    subst hpr
    have hz2 := Nat.le_trans hz0 hz
    exact ri_iretW (A := aA 17 a) (PP := (fun H => va_P D vwCl (xW a kk (joG g b)) H ∧ N ≤ H.size)) hx hb hr hlocks hS ⟨by rw [joG_t g b hok]; exact hP2, hz2⟩ dL_join_5 (joR_t g b hok).symm

set_option maxHeartbeats 4000000 in
set_option maxRecDepth 100000 in
theorem kL_run (l : Launch) (D : va_G) (a : Nat → Nat) (kk : Nat → ClassId) (g : Nat → Nat → Int) (sa : Nat → Nat) (N : Nat) (hst : l.stackTraces = false) (b : Int) (t : Int) (n : Int) (hA : aDs 17 a) (hI : XInv g) (yb : -2147483648 ≤ b ∧ b < 2147483648) (yt : -2147483648 ≤ t ∧ t < 2147483648) (yn : -2147483648 ≤ n ∧ n < 2147483648) : WI l yL_run wsL_run ({ frames := 9, cells := 2, slots := 12, locals := 176 }) [.ref (a 0), .int (iI b), .int (iI t), .int (iI n)] (qB sa D a kk g N) (ruR g b t n) (fun H => va_P D vwCl (xW a kk (ruG g b t n)) H ∧ N ≤ H.size) (aA 17 a) 2 12 := by
  refine va_MetW (cc := cL_run) (maxL := 5) (ret := some .int) (hh := [(0, 15, 16, 14), (0, 15, 21, 24)]) (by decide) rfl ?_
  intro zp ze s zm av zb zt zc s₁ B hml hv
  obtain ⟨rfl, hT, hP, hK, hN, hC, hz0⟩ := hv
  have hx := B.exec
  have hb := B.bytes
  have hr := B.returns
  have hts := atoms_spec (ws := wsL_run) B.pre
  have hown : s.vm.findClass RL = some zm.cls := findClass_of_methodNamed B.named
  have hlocks := B.notSynchronized
  have hxt := vx_table (x := yL_run) B (hts (.codeWith yL_run cL_run 5 (some .int) [(0, 15, 16, 14), (0, 15, 21, 24)]) (List.mem_of_getElem? (i := 0) rfl))
  have hS : va_S (aA 17 a) s.heap s.heap [] := va_S.rf
  have CF : CallFix zp zm zc cL_run 5 s ([.ref (a 0), .int (iI b), .int (iI t), .int (iI n)] : List Value).toArray wsL_run RL := ⟨hx, hb, hml, hown, hts⟩
  have hl := lv_entry ([.ref (a 0), .int (iI b), .int (iI t), .int (iI n)] : List Value) (n := 5) (Nat.le_of_ble_eq_true rfl)
  rw [lg_entry_eq]
  generalize (lg_sl ([.ref (a 0), .int (iI b), .int (iI t), .int (iI n)] : List Value) ++ List.replicate (5 - (lg_sl ([.ref (a 0), .int (iI b), .int (iI t), .int (iI n)] : List Value)).length) Slot.unset).toArray = ls at hl ⊢
  have hl : lv_has ls 5 [(0, .ref (a 0)), (1, .int (iI b)), (2, .int (iI t)), (3, .int (iI n))] := hl
  refine lv_aload_n hx hb dL_run_0 rfl (lv_at hl 0 rfl) ?_
  refine lv_iload_n hx hb dL_run_1 rfl (lv_at hl 1 rfl) ?_
  refine lv_iload_n hx hb dL_run_2 rfl (lv_at hl 2 rfl) ?_
  refine lv_iload_n hx hb dL_run_3 rfl (lv_at hl 3 rfl) ?_
  refine vx_calli (ri_runVX (b := a 0) (As := [.int (iI b), .int (iI t), .int (iI n)]) (rest := []) CF (k_X3_run l D a kk g sa hst b t n hA hI yb yt yn) gL_run_X3_run f_X3_run rfl (va_recv hK hP (ci := 3) (q0 := 0) rfl rfl) ⟨rfl, rfl, (Nat.le_of_ble_eq_true rfl), (Nat.le_of_ble_eq_true rfl), (Nat.le_of_ble_eq_true rfl), (Nat.le_of_ble_eq_true rfl)⟩ pB_bl (pB_i2 hS (fun _ h => h) hT hP hK hN) rfl hl.1 rfl (Nat.le_of_ble_eq_true rfl) dL_run_4) hS (fun q _ h => h) (fun q h => h) (fun _ _ h => h.elim) (fun X ce q9 _ tz H1 locs1 ht hvm _ hB hz hk hS1 hce hcv hcl => ?_) (fun rz _ tz H1 locs1 ht hvm hp hB hz hk hS => ?_)
  · have hP1 := hP.un hk (fun _ _ _ z => z)
    rcases (show _ ∨ _ from hB) with ⟨hX, hB9⟩ | ⟨hX, hB9, hB8⟩
    · subst hX
      refine vx_catch hown [] ⟨0, 15, 16, 14⟩ [⟨0, 15, 21, 24⟩] hxt (fun z hz => absurd hz List.not_mem_nil) rfl (by decide) ((hts _ (List.mem_of_getElem? (i := 1) rfl))) (va_Nw.use rfl hT.2.2.2.2.2.2.2.2.1) hce hcv hcl ?_
      refine lv_astore (lv' := (4, .ref q9) :: [(0, .ref (a 0)), (1, .int (iI b)), (2, .int (iI t)), (3, .int (iI n))]) hx hb dL_run_16 hl (by decide) rfl (fun ls hl => ?_)
      refine lv_ldc (v := iI (-99999)) hx hb hown (hts _ (List.mem_of_getElem? (i := 3) rfl)) dL_run_18 ?_
      exact ri_iretW (A := aA 17 a) (PP := (fun H => va_P D vwCl (xW a kk (ruG g b t n)) H ∧ N ≤ H.size)) hx hb hr hlocks hS1 ⟨by rw [ruG_f g b t n (fun q => hB9 q.1)]; exact hP1, Nat.le_trans hz0 hz⟩ dL_run_20 (ruR_2 hB9).symm
    · subst hX
      refine vx_catch hown [⟨0, 15, 16, 14⟩] ⟨0, 15, 21, 24⟩ [] hxt (fun z hz => by rw [List.mem_singleton.mp hz]; exact Or.inr ⟨by decide, "java/lang/IllegalArgumentException", (hts _ (List.mem_of_getElem? (i := 1) rfl)), hC⟩) rfl (by decide) ((hts _ (List.mem_of_getElem? (i := 2) rfl))) (va_Nw.use rfl hT.2.2.2.2.2.2.2.2.2) hce hcv hcl ?_
      refine lv_astore (lv' := (4, .ref q9) :: [(0, .ref (a 0)), (1, .int (iI b)), (2, .int (iI t)), (3, .int (iI n))]) hx hb dL_run_21 hl (by decide) rfl (fun ls hl => ?_)
      refine lv_ldc (v := iI (-99998)) hx hb hown (hts _ (List.mem_of_getElem? (i := 4) rfl)) dL_run_23 ?_
      exact ri_iretW (A := aA 17 a) (PP := (fun H => va_P D vwCl (xW a kk (ruG g b t n)) H ∧ N ≤ H.size)) hx hb hr hlocks hS1 ⟨by rw [ruG_f g b t n (fun q => hB8 q.2)]; exact hP1, Nat.le_trans hz0 hz⟩ dL_run_25 (ruR_3 hB9 hB8).symm
  · have hP2 : va_P D vwCl (xW a kk (hisG g t (bp (fdE (cmpD (px (g 2) t) (px (g 2) (5 + b * 5 + t)) n (g 5 t.toNat) (g 6 t.toNat) (g 7 t.toNat) (g 8 t.toNat) (g 10 t.toNat) (g 11 t.toNat) (g 12 t.toNat) (g 13 t.toNat)) < 0)))) H1 := ht ▸ hB
    have hok := hp.1
    obtain ⟨_, hpr⟩ := hp
    subst hpr
    have hz2 := Nat.le_trans hz0 hz
    refine ri_ifeq_b (tgt := 14) hx hb dL_run_7 (by decide) (fun hq => ?_) (fun hq => ?_)
    · refine ri_iconst hx hb dL_run_14 ?_
      exact ri_iretW (A := aA 17 a) (PP := (fun H => va_P D vwCl (xW a kk (ruG g b t n)) H ∧ N ≤ H.size)) hx hb hr hlocks hS ⟨by rw [ruG_t g b t n hok]; exact hP2, hz2⟩ dL_run_15 (((ruR_1 hok).trans (bp_f hq)).symm)
    · refine ri_iconst hx hb dL_run_10 ?_
      refine lv_goto (tgt := 15) hx hb dL_run_11 (by decide) ?_
      exact ri_iretW (A := aA 17 a) (PP := (fun H => va_P D vwCl (xW a kk (ruG g b t n)) H ∧ N ≤ H.size)) hx hb hr hlocks hS ⟨by rw [ruG_t g b t n hok]; exact hP2, hz2⟩ dL_run_15 (((ruR_1 hok).trans (bp_t hq)).symm)

set_option maxHeartbeats 4000000 in
set_option maxRecDepth 100000 in
theorem kL_differences_0 (l : Launch) (D : va_G) (a : Nat → Nat) (kk : Nat → ClassId) (g : Nat → Nat → Int) (sa : Nat → Nat) (N : Nat) (hst : l.stackTraces = false) (b : Int) (t : Int) (n : Int) (hA : aDs 17 a) (hI : XInv g) (yb : -2147483648 ≤ b ∧ b < 2147483648) (yt : -2147483648 ≤ t ∧ t < 2147483648) (yn : -2147483648 ≤ n ∧ n < 2147483648) (hno : ¬ (cmpA b t n ∧ ¬ g 3 (5 + b * 5 + t).toNat = 1)) : WI l yL_differences wsL_differences ({ frames := 9, cells := 2, slots := 12, locals := 154 }) [.ref (a 0), .int (iI b), .int (iI t), .int (iI n)] (qB sa D a kk g N) (dfR g b t n) (fun H => va_P D vwCl (xW a kk (g)) H ∧ N ≤ H.size ∧ (cmpA b t n ∧ ¬ g 3 (5 + b * 5 + t).toNat = 1 → N + 1 ≤ H.size)) (aA 17 a) 2 12 := by
  refine va_MetW (cc := cL_differences) (maxL := 5) (ret := some .int) (hh := [(0, 7, 8, 14), (0, 7, 13, 24)]) (by decide) rfl ?_
  intro zp ze s zm av zb zt zc s₁ B hml hv
  obtain ⟨rfl, hT, hP, hK, hN, hC, hz0⟩ := hv
  have hx := B.exec
  have hb := B.bytes
  have hr := B.returns
  have hts := atoms_spec (ws := wsL_differences) B.pre
  have hown : s.vm.findClass RL = some zm.cls := findClass_of_methodNamed B.named
  have hlocks := B.notSynchronized
  have hxt := vx_table (x := yL_differences) B (hts (.codeWith yL_differences cL_differences 5 (some .int) [(0, 7, 8, 14), (0, 7, 13, 24)]) (List.mem_of_getElem? (i := 0) rfl))
  have hS : va_S (aA 17 a) s.heap s.heap [] := va_S.rf
  have CF : CallFix zp zm zc cL_differences 5 s ([.ref (a 0), .int (iI b), .int (iI t), .int (iI n)] : List Value).toArray wsL_differences RL := ⟨hx, hb, hml, hown, hts⟩
  have hl := lv_entry ([.ref (a 0), .int (iI b), .int (iI t), .int (iI n)] : List Value) (n := 5) (Nat.le_of_ble_eq_true rfl)
  rw [lg_entry_eq]
  generalize (lg_sl ([.ref (a 0), .int (iI b), .int (iI t), .int (iI n)] : List Value) ++ List.replicate (5 - (lg_sl ([.ref (a 0), .int (iI b), .int (iI t), .int (iI n)] : List Value)).length) Slot.unset).toArray = ls at hl ⊢
  have hl : lv_has ls 5 [(0, .ref (a 0)), (1, .int (iI b)), (2, .int (iI t)), (3, .int (iI n))] := hl
  refine lv_aload_n hx hb dL_differences_0 rfl (lv_at hl 0 rfl) ?_
  refine lv_iload_n hx hb dL_differences_1 rfl (lv_at hl 1 rfl) ?_
  refine lv_iload_n hx hb dL_differences_2 rfl (lv_at hl 2 rfl) ?_
  refine lv_iload_n hx hb dL_differences_3 rfl (lv_at hl 3 rfl) ?_
  refine vx_calli (ri_runVX (b := a 0) (As := [.int (iI b), .int (iI t), .int (iI n)]) (rest := []) CF (k_X3_differences l D a kk g sa hst b t n hA hI yb yt yn) gL_differences_X3_differences f_X3_differences rfl (va_recv hK hP (ci := 3) (q0 := 0) rfl rfl) ⟨rfl, rfl, (Nat.le_of_ble_eq_true rfl), (Nat.le_of_ble_eq_true rfl), (Nat.le_of_ble_eq_true rfl), (Nat.le_of_ble_eq_true rfl)⟩ pB_bl (pB_i2 hS (fun _ h => h) hT hP hK hN) rfl hl.1 rfl (Nat.le_of_ble_eq_true rfl) dL_differences_4) hS (fun q _ h => h) (fun q h => h) (fun _ _ h => h.elim) (fun X ce q9 _ tz H1 locs1 ht hvm _ hB hz hk hS1 hce hcv hcl => ?_) (fun rz _ tz H1 locs1 ht hvm hp hB hz hk hS => ?_)
  · have hP1 := hP.un hk (fun _ _ _ z => z)
    rcases (show _ ∨ _ from hB) with ⟨hX, hB9⟩ | ⟨hX, hB9, hB8⟩
    · subst hX
      refine vx_catch hown [] ⟨0, 7, 8, 14⟩ [⟨0, 7, 13, 24⟩] hxt (fun z hz => absurd hz List.not_mem_nil) rfl (by decide) ((hts _ (List.mem_of_getElem? (i := 1) rfl))) (va_Nw.use rfl hT.2.2.2.2.2.2.2.2.1) hce hcv hcl ?_
      refine lv_astore (lv' := (4, .ref q9) :: [(0, .ref (a 0)), (1, .int (iI b)), (2, .int (iI t)), (3, .int (iI n))]) hx hb dL_differences_8 hl (by decide) rfl (fun ls hl => ?_)
      refine lv_ldc (v := iI (-99999)) hx hb hown (hts _ (List.mem_of_getElem? (i := 3) rfl)) dL_differences_10 ?_
      exact ri_iretW (A := aA 17 a) (PP := (fun H => va_P D vwCl (xW a kk (g)) H ∧ N ≤ H.size ∧ (cmpA b t n ∧ ¬ g 3 (5 + b * 5 + t).toNat = 1 → N + 1 ≤ H.size))) hx hb hr hlocks hS1 ⟨hP1, Nat.le_trans hz0 hz, fun q => absurd q.1 hB9⟩ dL_differences_12 (dfR_2 hB9).symm
    · subst hX
      refine vx_catch hown [⟨0, 7, 8, 14⟩] ⟨0, 7, 13, 24⟩ [] hxt (fun z hz => by rw [List.mem_singleton.mp hz]; exact Or.inr ⟨by decide, "java/lang/IllegalArgumentException", (hts _ (List.mem_of_getElem? (i := 1) rfl)), hC⟩) rfl (by decide) ((hts _ (List.mem_of_getElem? (i := 2) rfl))) (va_Nw.use rfl hT.2.2.2.2.2.2.2.2.2) hce hcv hcl ?_
      refine lv_astore (lv' := (4, .ref q9) :: [(0, .ref (a 0)), (1, .int (iI b)), (2, .int (iI t)), (3, .int (iI n))]) hx hb dL_differences_13 hl (by decide) rfl (fun ls hl => ?_)
      refine ri_iconst hx hb dL_differences_15 ?_
      exact ri_iretW (A := aA 17 a) (PP := (fun H => va_P D vwCl (xW a kk (g)) H ∧ N ≤ H.size ∧ (cmpA b t n ∧ ¬ g 3 (5 + b * 5 + t).toNat = 1 → N + 1 ≤ H.size))) hx hb hr hlocks hS1 ⟨hP1, Nat.le_trans hz0 hz, fun q => absurd q hno⟩ dL_differences_16 (dfR_3 hB9 hB8).symm
  · have hP2 : va_P D vwCl (xW a kk (g)) H1 := ht ▸ hB
    have hok := hp.1
    obtain ⟨_, hpr⟩ := hp
    subst hpr
    have hz2 := Nat.le_trans hz0 hz
    exact ri_iretW (A := aA 17 a) (PP := (fun H => va_P D vwCl (xW a kk (g)) H ∧ N ≤ H.size ∧ (cmpA b t n ∧ ¬ g 3 (5 + b * 5 + t).toNat = 1 → N + 1 ≤ H.size))) hx hb hr hlocks hS ⟨hP2, hz2, fun q => absurd hok.2 q.2⟩ dL_differences_7 (dfR_1 hok).symm

set_option maxHeartbeats 4000000 in
set_option maxRecDepth 100000 in
theorem kL_differences_g (l : Launch) (D : va_G) (a : Nat → Nat) (kk : Nat → ClassId) (g : Nat → Nat → Int) (sa : Nat → Nat) (N : Nat) (hst : l.stackTraces = false) (b : Int) (t : Int) (n : Int) (hA : aDs 17 a) (hI : XInv g) (yb : -2147483648 ≤ b ∧ b < 2147483648) (yt : -2147483648 ≤ t ∧ t < 2147483648) (yn : -2147483648 ≤ n ∧ n < 2147483648) (hcm : cmpA b t n) (hng : ¬ g 3 (5 + b * 5 + t).toNat = 1) : WI l yL_differences wsL_differences ({ frames := 9, cells := 2, slots := 12, locals := 154 }) [.ref (a 0), .int (iI b), .int (iI t), .int (iI n)] (qB sa D a kk g N) (dfR g b t n) (fun H => va_P D vwCl (xW a kk (g)) H ∧ N ≤ H.size ∧ (cmpA b t n ∧ ¬ g 3 (5 + b * 5 + t).toNat = 1 → N + 1 ≤ H.size)) (aA 17 a) 2 12 := by
  refine va_MetW (cc := cL_differences) (maxL := 5) (ret := some .int) (hh := [(0, 7, 8, 14), (0, 7, 13, 24)]) (by decide) rfl ?_
  intro zp ze s zm av zb zt zc s₁ B hml hv
  obtain ⟨rfl, hT, hP, hK, hN, hC, hz0⟩ := hv
  have hx := B.exec
  have hb := B.bytes
  have hr := B.returns
  have hts := atoms_spec (ws := wsL_differences) B.pre
  have hown : s.vm.findClass RL = some zm.cls := findClass_of_methodNamed B.named
  have hlocks := B.notSynchronized
  have hxt := vx_table (x := yL_differences) B (hts (.codeWith yL_differences cL_differences 5 (some .int) [(0, 7, 8, 14), (0, 7, 13, 24)]) (List.mem_of_getElem? (i := 0) rfl))
  have hS : va_S (aA 17 a) s.heap s.heap [] := va_S.rf
  have CF : CallFix zp zm zc cL_differences 5 s ([.ref (a 0), .int (iI b), .int (iI t), .int (iI n)] : List Value).toArray wsL_differences RL := ⟨hx, hb, hml, hown, hts⟩
  have hl := lv_entry ([.ref (a 0), .int (iI b), .int (iI t), .int (iI n)] : List Value) (n := 5) (Nat.le_of_ble_eq_true rfl)
  rw [lg_entry_eq]
  generalize (lg_sl ([.ref (a 0), .int (iI b), .int (iI t), .int (iI n)] : List Value) ++ List.replicate (5 - (lg_sl ([.ref (a 0), .int (iI b), .int (iI t), .int (iI n)] : List Value)).length) Slot.unset).toArray = ls at hl ⊢
  have hl : lv_has ls 5 [(0, .ref (a 0)), (1, .int (iI b)), (2, .int (iI t)), (3, .int (iI n))] := hl
  refine lv_aload_n hx hb dL_differences_0 rfl (lv_at hl 0 rfl) ?_
  refine lv_iload_n hx hb dL_differences_1 rfl (lv_at hl 1 rfl) ?_
  refine lv_iload_n hx hb dL_differences_2 rfl (lv_at hl 2 rfl) ?_
  refine lv_iload_n hx hb dL_differences_3 rfl (lv_at hl 3 rfl) ?_
  refine vx_calli (ri_runVX (b := a 0) (As := [.int (iI b), .int (iI t), .int (iI n)]) (rest := []) CF (kg_X3_differences l D a kk g sa s.heap hst b t n hI hcm hng) gL_differences_X3_differences f_X3_differences rfl (va_recv hK hP (ci := 3) (q0 := 0) rfl rfl) ⟨rfl, rfl, (Nat.le_of_ble_eq_true rfl), (Nat.le_of_ble_eq_true rfl), (Nat.le_of_ble_eq_true rfl), (Nat.le_of_ble_eq_true rfl)⟩ (fun U g9 mk a9 h => ⟨h.1, pB_bl U g9 mk a9 h.2⟩) (fun U hU hW9 => ⟨hU, pB_i2 hS (fun _ h => h) hT hP hK hN U hU hW9⟩) rfl hl.1 rfl (Nat.le_of_ble_eq_true rfl) dL_differences_4) hS (fun q _ h => h) (fun q h => h) (fun _ _ h => h.elim) (fun X ce q9 _ tz H1 locs1 ht hvm _ hB hz hk hS1 hce hcv hcl => ?_) (fun rz _ tz H1 locs1 ht hvm hp hB hz hk hS => hp.elim)
  have hP1 := hP.un hk (fun _ _ _ z => z)
  obtain ⟨hX, hB⟩ := hB
  subst hX
  refine vx_catch hown [⟨0, 7, 8, 14⟩] ⟨0, 7, 13, 24⟩ [] hxt (fun z hz => by rw [List.mem_singleton.mp hz]; exact Or.inr ⟨by decide, "java/lang/IllegalArgumentException", (hts _ (List.mem_of_getElem? (i := 1) rfl)), hC⟩) rfl (by decide) ((hts _ (List.mem_of_getElem? (i := 2) rfl))) (va_Nw.use rfl hT.2.2.2.2.2.2.2.2.2) hce hcv hcl ?_
  refine lv_astore (lv' := (4, .ref q9) :: [(0, .ref (a 0)), (1, .int (iI b)), (2, .int (iI t)), (3, .int (iI n))]) hx hb dL_differences_13 hl (by decide) rfl (fun ls hl => ?_)
  refine ri_iconst hx hb dL_differences_15 ?_
  exact ri_iretW (A := aA 17 a) (PP := (fun H => va_P D vwCl (xW a kk (g)) H ∧ N ≤ H.size ∧ (cmpA b t n ∧ ¬ g 3 (5 + b * 5 + t).toNat = 1 → N + 1 ≤ H.size))) hx hb hr hlocks hS1 ⟨hP1, Nat.le_trans hz0 hz, fun _ => by rw [← ht]; exact Nat.le_trans (Nat.succ_le_succ hz0) hB⟩ dL_differences_16 (dfR_3 hcm hng).symm

theorem kL_differences (l : Launch) (D : va_G) (a : Nat → Nat) (kk : Nat → ClassId) (g : Nat → Nat → Int) (sa : Nat → Nat) (N : Nat) (hst : l.stackTraces = false) (b : Int) (t : Int) (n : Int) (hA : aDs 17 a) (hI : XInv g) (yb : -2147483648 ≤ b ∧ b < 2147483648) (yt : -2147483648 ≤ t ∧ t < 2147483648) (yn : -2147483648 ≤ n ∧ n < 2147483648) : WI l yL_differences wsL_differences ({ frames := 9, cells := 2, slots := 12, locals := 154 }) [.ref (a 0), .int (iI b), .int (iI t), .int (iI n)] (qB sa D a kk g N) (dfR g b t n) (fun H => va_P D vwCl (xW a kk (g)) H ∧ N ≤ H.size ∧ (cmpA b t n ∧ ¬ g 3 (5 + b * 5 + t).toNat = 1 → N + 1 ≤ H.size)) (aA 17 a) 2 12 := by
  by_cases h : cmpA b t n ∧ ¬ g 3 (5 + b * 5 + t).toNat = 1
  · exact kL_differences_g l D a kk g sa N hst b t n hA hI yb yt yn h.1 h.2
  · exact kL_differences_0 l D a kk g sa N hst b t n hA hI yb yt yn h
