/-! ===== a turn of the law ===== -/
theorem f_L_act : MF yL_act wsL_act cL_act 9 (some .int) 2 := ⟨⟨_, rfl⟩, by decide +kernel, by decide +kernel, by decide +kernel⟩
theorem pst_c (f : Nat → Int) (t c r w sh : Int) (k : Nat) : 0 ≤ (pst f t c r w sh k).2 ∧ (pst f t c r w sh k).2 ≤ (k : Int) := by
  induction k with
  | zero => exact ⟨Int.le_refl _, Int.le_refl _⟩
  | succ k ih =>
    have h := bp_r (¬ (pst f t c r w sh k).1 (t * 64 + (r + (k : Int) / w) * 8 + (c + (k : Int) % w)).toNat = sh)
    show 0 ≤ (pst f t c r w sh k).2 + bp _ ∧ (pst f t c r w sh k).2 + bp _ ≤ ((k + 1 : Nat) : Int)
    omega
theorem mul64 {w h : Int} (hw : 1 ≤ w ∧ w ≤ 8) (hh : 1 ≤ h ∧ h ≤ 8) : 0 ≤ w * h ∧ w * h ≤ 64 := by
  refine ⟨Int.mul_nonneg (by omega) (by omega), ?_⟩
  have h1 : w * h ≤ 8 * 8 := Int.mul_le_mul hw.2 hh.2 (by omega) (by omega)
  omega
theorem paR_r (g : Nat → Nat → Int) (t c r w h sh : Int) : (paR g t c r w h sh = -99999 ∧ paG g t c r w h sh = g) ∨ (0 ≤ paR g t c r w h sh ∧ paR g t c r w h sh ≤ 64) := by
  by_cases q : okP t c r w h sh
  · obtain ⟨-, ⟨⟨q1, q2⟩, q3, q4⟩, -⟩ := id q
    have h1 := pst_c (g 2) t c r w sh (w * h).toNat
    have h2 := mul64 (w := w) (h := h) (by omega) (by omega)
    rw [paR_t g t c r w h sh q]
    omega
  · exact Or.inl ⟨paR_f g t c r w h sh q, paG_f g t c r w h sh q⟩
theorem act_r (g : Nat → Nat → Int) (v : Int) : (actR g v ≤ -99998 ∧ actG g v = g ∧ -99999 ≤ actR g v) ∨ (0 ≤ actR g v ∧ actR g v ≤ 64) := by
  have r14 := lwF_r v (n := 14) (by omega)
  rcases (show lwF v 14 ≤ 1 ∨ lwF v 14 = 2 ∨ lwF v 14 = 3 ∨ lwF v 14 = 4 ∨ lwF v 14 = 5 ∨ (6 ≤ lwF v 14 ∧ lwF v 14 ≤ 7) ∨ 8 ≤ lwF v 14 by omega) with hk | hk | hk | hk | hk | hk | hk
  · rw [(act_0 g hk).1, (act_0 g hk).2]
    by_cases q : okA (acB v) (acT v)
    · have := bp_r (g 3 (5 + acB v * 5 + acT v).toNat = 1)
      rw [apR_t g _ _ q]; omega
    · rw [apR_f g _ _ q, apG_f g _ _ q]; exact Or.inl ⟨by omega, rfl, by omega⟩
  · rw [(act_2 g hk).1, (act_2 g hk).2]
    by_cases q : 1 ≤ acB v ∧ acB v ≤ 3
    · have := begC_r g (acB v) 5
      rw [beR_t g _ q]; omega
    · rw [beR_f g _ q, beG_f g _ q]; exact Or.inl ⟨by omega, rfl, by omega⟩
  · rw [(act_3 g hk).1, (act_3 g hk).2]
    by_cases q : 1 ≤ acB v ∧ acB v ≤ 3
    · have h1 := joiC_r g (acB v) 5
      have h2 : p2 ((5 : Nat) : Int) = 32 := rfl
      rw [joR_t g _ q]; omega
    · rw [joR_f g _ q, joG_f g _ q]; exact Or.inl ⟨by omega, rfl, by omega⟩
  · rw [(act_4 g hk).1, (act_4 g hk).2]
    by_cases q : okS (acT v) (acC v) (acR v) (acW v) (acH v)
    · rw [spR_t _ _ _ _ _ q]; omega
    · rw [spR_f _ _ _ _ _ q, spG_f g _ _ _ _ _ q]; exact Or.inl ⟨by omega, rfl, by omega⟩
  · rw [(act_5 g hk).1, (act_5 g hk).2]
    by_cases q : okM g (acT v) (acC v - 4) (acR v - 4) (acW v) (acH v)
    · rw [smR_t g _ _ _ _ _ q]; omega
    · rw [smR_f g _ _ _ _ _ q, smG_f g _ _ _ _ _ q]; exact Or.inl ⟨by omega, rfl, by omega⟩
  · rw [(act_6 g hk).1, (act_6 g hk).2]
    by_cases q : cmpA (acB v) (acT v) (acN v)
    · by_cases q2 : g 3 (5 + acB v * 5 + acT v).toNat = 1
      · have := bp_r (fdE (CD g (acB v) (acT v) (acN v)) < 0)
        rw [ruR_1 ⟨q, q2⟩]; omega
      · rw [ruR_3 q q2, ruG_f g _ _ _ (fun z => q2 z.2)]; exact Or.inl ⟨by omega, rfl, by omega⟩
    · rw [ruR_2 q, ruG_f g _ _ _ (fun z => q z.1)]; exact Or.inl ⟨by omega, rfl, by omega⟩
  · rw [(act_8 g hk).1, (act_8 g hk).2]
    rcases paR_r g (acT v) (acC v) (acR v) (acW v) (acH v) (acS v) with ⟨h1, h2⟩ | h
    · exact Or.inl ⟨by omega, h2, by omega⟩
    · exact Or.inr h
theorem act_le {g : Nat → Nat → Int} {v : Int} (h : actR g v ≤ -99998) : actG g v = g := by
  rcases act_r g v with h1 | h1
  · exact h1.2.1
  · omega
theorem act_rr (g : Nat → Nat → Int) (v : Int) : -99999 ≤ actR g v ∧ actR g v ≤ 64 := by
  rcases act_r g v with h1 | h1 <;> omega
theorem XInv_act {g : Nat → Nat → Int} (hI : XInv g) (v : Int) : XInv (actG g v) := by
  have r14 := lwF_r v (n := 14) (by omega)
  rcases (show lwF v 14 ≤ 1 ∨ lwF v 14 = 2 ∨ lwF v 14 = 3 ∨ lwF v 14 = 4 ∨ lwF v 14 = 5 ∨ (6 ≤ lwF v 14 ∧ lwF v 14 ≤ 7) ∨ 8 ≤ lwF v 14 by omega) with hk | hk | hk | hk | hk | hk | hk
  · rw [(act_0 g hk).2]
    by_cases q : okA (acB v) (acT v)
    · obtain ⟨q1, q2⟩ := id q
      rw [apG_t g _ _ q]; exact XInv_cp hI (by omega) (by omega)
    · rw [apG_f g _ _ q]; exact hI
  · rw [(act_2 g hk).2]
    by_cases q : 1 ≤ acB v ∧ acB v ≤ 3
    · rw [beG_t g _ q]; exact XInv_be hI (by omega) 5 (by omega)
    · rw [beG_f g _ q]; exact hI
  · rw [(act_3 g hk).2]
    by_cases q : 1 ≤ acB v ∧ acB v ≤ 3
    · rw [joG_t g _ q]; exact XInv_jo hI (by omega) 5 (by omega)
    · rw [joG_f g _ q]; exact hI
  · rw [(act_4 g hk).2]
    by_cases q : okS (acT v) (acC v) (acR v) (acW v) (acH v)
    · obtain ⟨q1, ⟨q2, q3⟩, q4, q5⟩ := id q
      rw [spG_t g _ _ _ _ _ q]; exact XInv_p9 (XInv_p4 hI q1 (by omega) (by omega)) q1 (by omega) (by omega)
    · rw [spG_f g _ _ _ _ _ q]; exact hI
  · rw [(act_5 g hk).2]
    by_cases q : okM g (acT v) (acC v - 4) (acR v - 4) (acW v) (acH v)
    · obtain ⟨⟨q1, q2, q3, q4, q5⟩, q6⟩ := id q
      rw [smG_t g _ _ _ _ _ q]; exact XInv_p9 hI q1 (by omega) (by omega)
    · rw [smG_f g _ _ _ _ _ q]; exact hI
  · rw [(act_6 g hk).2]
    by_cases q : okC g (acB v) (acT v) (acN v)
    · exact XInv_ru hI _ _ q.1.2.1
    · rw [ruG_f g _ _ _ q]; exact hI
  · rw [(act_8 g hk).2]
    by_cases q : okP (acT v) (acC v) (acR v) (acW v) (acH v) (acS v)
    · obtain ⟨q1, q2, q3⟩ := id q
      rw [paG_t g _ _ _ _ _ _ q]; exact XInv_2 hI (pst_b hI.1 q3 _)
    · rw [paG_f g _ _ _ _ _ _ q]; exact hI
theorem XInv_z1 : XInv z1 := by
  refine ⟨fun j hj => ?_, fun j hj => ?_, fun j hj => ?_, fun j hj => ?_, fun j hj => ?_, fun j hj => ?_⟩
  · show 0 ≤ (if 2 = 3 ∧ j < 5 then 1 else 0 : Int) ∧ (if 2 = 3 ∧ j < 5 then 1 else 0 : Int) ≤ 255
    rw [if_neg (by omega)]; omega
  · show (if 3 = 3 ∧ j < 5 then 1 else 0 : Int) = 0 ∨ (if 3 = 3 ∧ j < 5 then 1 else 0 : Int) = 1
    split <;> omega
  · show (if 3 = 3 ∧ j < 5 then 1 else 0 : Int) = 1
    rw [if_pos ⟨rfl, hj⟩]
  · have z : ∀ n, n ≠ 3 → z1 n j = 0 := fun n h => by unfold z1; rw [if_neg (fun q => h q.1)]
    rw [z 5 (by decide), z 6 (by decide), z 7 (by decide), z 8 (by decide)]; omega
  · have z : ∀ n, n ≠ 3 → z1 n j = 0 := fun n h => by unfold z1; rw [if_neg (fun q => h q.1)]
    rw [z 10 (by decide), z 11 (by decide), z 12 (by decide), z 13 (by decide)]; omega
  · have z : ∀ n, n ≠ 3 → z1 n j = 0 := fun n h => by unfold z1; rw [if_neg (fun q => h q.1)]
    rw [z 16 (by decide)]; omega
theorem z1_no (b t : Int) (hb : 0 ≤ b) (ht : 0 ≤ t) : ¬ z1 3 (5 + b * 5 + t).toNat = 1 := by
  unfold z1
  rw [if_neg (by omega)]
  omega
theorem z1_U : U01 z1 := fun b t hb ht => z1_no b t hb.1 ht.1
theorem z1_ru (b t n : Int) : ruG z1 b t n = z1 := by
  by_cases q : okC z1 b t n
  · exact absurd q.2 (z1_no b t q.1.1.1 q.1.2.1.1)
  · exact ruG_f z1 b t n q
theorem acB_6 : acB 6 = -1 := by
  have h : acO 6 := (by decide : (6 : Int) / 16777216 % 2147483648 % 9 = 0)
  unfold acB
  rw [iteI_t h, iteI_t h]
  rfl
theorem act_z1 : actR z1 6 = -99999 ∧ actG z1 6 = z1 := by
  have h0 : lwF 6 14 = 6 := rfl
  have h1 := act_6 z1 (v := 6) (by omega)
  have h2 : ruR z1 (acB 6) (acT 6) (acN 6) = -99999 := ruR_2 (fun q => by have := q.1.1; rw [acB_6] at this; omega)
  refine ⟨h1.1.trans h2, act_le ?_⟩
  rw [h1.1, h2]
  omega
/-- a room that is large enough -/
def bigR : Room := { frames := 13, cells := 17000, slots := 110000, locals := 504 }
/-- what holds all along -/
def LCx (p : Program) (l : Launch) (s : State) (m : MethodId) (meth : Method) (c : Code) (b L : Nat) (xs : Nat → Int32) (D : va_G) (kk : Nat → ClassId) (a a2 : Nat → Nat) (sa : Nat → Nat) : Prop :=
  (p.tables.exec = Jvm.exec ∧ c.code = cL_law ∧ c.maxLocals = 6 ∧ s.vm.findClass RL = some m.cls ∧ (∀ w ∈ wsL_law, w.before (#[Value.ref b] : Array Value) s = true) ∧ (∀ w ∈ lw_tbl, w.before (#[Value.ref b] : Array Value) s = true) ∧ va_X b L xs s s.heap ∧ b < s.heap.size ∧ L ≤ 260) ∧
  (l.stackTraces = false ∧ va_K D vwCl (TY kk) s ∧ xN s ∧ tX sa (fun q => s.heap.size ≤ q) s ∧ va_Nc "java/lang/IllegalStateException" "java/lang/IllegalArgumentException" s) ∧
  (aDs 17 a ∧ aDs 17 a2 ∧ (∀ i j, i < 17 → j < 17 → a i ≠ a2 j) ∧ (∀ i, i < 17 → s.heap.size ≤ a i) ∧ (∀ j, j < 17 → s.heap.size ≤ a2 j))
/-- the script begins with seven times 6 -/
def Z7 (L : Nat) (xs : Nat → Int32) : Prop := 7 ≤ L ∧ ∀ j, j < 7 → xs j = 6
/-- how many cells there are at the least, then -/
def GR (s : State) (L : Nat) (xs : Nat → Int32) (k : Nat) (g : Nat → Nat → Int) (n : Nat) (H : Heap) : Prop := Z7 L xs → (k ≤ 6 → g = z1) ∧ s.heap.size + 16 * min n 7 ≤ H.size
def LSt (s : State) (L : Nat) (xs : Nat → Int32) (D : va_G) (kk : Nat → ClassId) (a a2 : Nat → Nat) (k n : Nat) (g : Nat → Nat → Int) (H : Heap) (locs : List Loc) : Prop :=
  va_P D vwCl (xW a kk g) H ∧ va_P D vwCl (xW a2 kk g) H ∧ va_S (fun q => s.heap.size ≤ q) s.heap H locs ∧ XInv g ∧ GR s L xs k g n H
theorem GR.up {s : State} {L : Nat} {xs : Nat → Int32} {k n : Nat} {g : Nat → Nat → Int} {H H1 : Heap} (h : GR s L xs k g n H) (hz : H.size ≤ H1.size) : GR s L xs k g n H1 := fun z => ⟨(h z).1, Nat.le_trans (h z).2 hz⟩

set_option maxHeartbeats 4000000 in
set_option maxRecDepth 100000 in
theorem lt_109 {p : Program} {l : Launch} {e : Env} {s : State} {m : MethodId} {below : List Frame} {meth : Method} {c : Code} {b L : Nat} {xs : Nat → Int32} {D : va_G} {kk : Nat → ClassId} {a a2 : Nat → Nat} {sa : Nat → Nat} {Q : State → Prop} (C0 : LCx p l s m meth c b L xs D kk a a2 sa) {k : Nat} {v : Int} {g : Nat → Nat → Int} {H : Heap} {locs : List Loc} {ls : Array Slot} (hv : -2147483648 ≤ v ∧ v < 2147483648) (hk : k < 80) (S0 : LSt s L xs D kk a a2 k (k + 1) g H locs) (hl : lv_has ls 6 [(0, .ref b), (1, .ref (a 0)), (2, .ref (a2 0)), (3, .int (iI (k : Int))), (4, .int (iI v))]) (K : ∀ (g : Nat → Nat → Int) (H : Heap) (locs : List Loc) (ls : Array Slot), LSt s L xs D kk a a2 (k + 1) (k + 1) g H locs → lv_has ls 6 [(0, .ref b), (1, .ref (a 0)), (2, .ref (a2 0)), (3, .int (iI (k : Int)))] → W p l e bigR s m (#[Value.ref b] : Array Value) below meth c H locs (34 + 200 * k + 200) (5982 + 1200 * k + 1200) Q (F0 m 147 ls [])) : W p l e bigR s m (#[Value.ref b] : Array Value) below meth c H locs (34 + 200 * k + 170) (5982 + 1200 * k + 1020) Q (F0 m 109 ls []) := by
  obtain ⟨⟨hx, hb, hml, hown, hts, htb, hX, hbl, hL⟩, ⟨hst, hK, hN, hT, hC⟩, ⟨hA, hA2, hAB, hsa, hsa2⟩⟩ := C0
  obtain ⟨hP, hP2, hS, hI, hG⟩ := S0
  have hbA0 : ¬ (fun q : Nat => s.heap.size ≤ q) b := Nat.not_le.mpr hbl
  have CF : CallFix p m c cL_law 6 s (#[Value.ref b] : Array Value) wsL_law RL := ⟨hx, hb, hml, hown, hts⟩
  have hA0 : ∀ q : Nat, aA 17 a q → s.heap.size ≤ q := fun q ⟨j, hj, e9⟩ => by rw [e9]; exact hsa j hj
  have hA1 : ∀ q : Nat, aA 17 a2 q → s.heap.size ≤ q := fun q ⟨j, hj, e9⟩ => by rw [e9]; exact hsa2 j hj
  have hbA : ∀ q : Nat, bA a a2 q → s.heap.size ≤ q := fun q h => h.elim (hA0 q) (hA1 q)
  refine lv_iload_n hx hb dL_law_109 rfl (lv_at hl 3 rfl) ?_
  refine ri_bipush hx hb dL_law_110 (by decide) ?_
  refine ri_irem hx hb (by omega) dL_law_112 ?_
  refine ri_bipush hx hb dL_law_113 (by decide) ?_
  refine ri_icmp_ne (tgt := 147) hx hb (by omega) dL_law_115 (by decide) (fun h115 => ?_) (fun h115 => ?_)
  · skip
    refine W.widen (k := 34 + 200 * k + 200) (n := 5982 + 1200 * k + 1200) (by omega) (by omega) ?_
    exact K _ _ _ ls ⟨hP, hP2, hS, hI, fun z => ⟨fun h => (hG z).1 (by omega), (hG z).2⟩⟩ (lv_sub hl [0, 1, 2, 3] rfl)
  · skip
    refine lv_aload_n hx hb dL_law_118 rfl (lv_at hl 1 rfl) ?_
    refine lv_aload_n hx hb dL_law_119 rfl (lv_at hl 2 rfl) ?_
    refine ri_iconst hx hb dL_law_120 ?_
    refine lv_iload hx hb dL_law_121 (lv_at hl 4 rfl) ?_
    refine ri_iconst hx hb dL_law_123 ?_
    refine ri_ishr hx hb (by omega) 5 (d := 32) (by decide) (by decide) dL_law_124 ?_
    refine ri_iconst hx hb dL_law_125 ?_
    refine ri_rd (ri_runS (As := [.int (iI (v / 32)), .int (iI 3)]) (rest := [.int (iI 1), .ref (a2 0), .ref (a 0)]) CF (k_L_low l (v / 32) 3 (by omega) (by omega)) gL_law_L_low f_L_low ⟨rfl, rfl, (Nat.le_of_ble_eq_true rfl), (Nat.le_of_ble_eq_true rfl), (by show _ ≤ 17000; omega), (by show _ ≤ 110000; omega)⟩ tB_bl tB_in rfl hl.1 rfl (Nat.le_of_ble_eq_true rfl) dL_law_126) ?_
    have f_1 := lwF_r (v / 32) (n := 3) (by omega)
    refine ri_iadd hx hb dL_law_129 ?_
    refine lv_iload hx hb dL_law_130 (lv_at hl 4 rfl) ?_
    refine ri_bipush hx hb dL_law_132 (by decide) ?_
    refine ri_ishr hx hb (by omega) 8 (d := 256) (by decide) (by decide) dL_law_134 ?_
    refine ri_iconst hx hb dL_law_135 ?_
    refine ri_rd (ri_runS (As := [.int (iI (v / 256)), .int (iI 5)]) (rest := [.int (iI (1 + (lwF (v / 32) 3))), .ref (a2 0), .ref (a 0)]) CF (k_L_low l (v / 256) 5 (by omega) (by omega)) gL_law_L_low f_L_low ⟨rfl, rfl, (Nat.le_of_ble_eq_true rfl), (Nat.le_of_ble_eq_true rfl), (by show _ ≤ 17000; omega), (by show _ ≤ 110000; omega)⟩ tB_bl tB_in rfl hl.1 rfl (Nat.le_of_ble_eq_true rfl) dL_law_136) ?_
    have f_2 := lwF_r (v / 256) (n := 5) (by omega)
    refine ri_wz (v := 1) (PP := (fun H9 => va_P D vwCl (xW a kk (b4G g (1 + (lwF (v / 32) 3)) (lwF (v / 256) 5))) H9 ∧ va_P D vwCl (xW a2 kk (b4G g (1 + (lwF (v / 32) 3)) (lwF (v / 256) 5))) H9 ∧ (H).size ≤ H9.size)) (ri_runS (As := [.ref (a 0), .ref (a2 0), .int (iI (1 + (lwF (v / 32) 3))), .int (iI (lwF (v / 256) 5))]) (rest := []) CF (k_L_isBranchSo l D a a2 kk g sa (H).size hst (1 + (lwF (v / 32) 3)) (lwF (v / 256) 5) hA hA2 hAB hI (by omega) (by omega)) gL_law_L_isBranchSo f_L_isBranchSo ⟨rfl, rfl, (Nat.le_of_ble_eq_true rfl), (Nat.le_of_ble_eq_true rfl), (by show _ ≤ 17000; omega), (by show _ ≤ 110000; omega)⟩ rB_bl (rB_in hS hbA hT hP hP2 hK hN hC (Nat.le_refl _)) rfl hl.1 rfl (Nat.le_of_ble_eq_true rfl) dL_law_139) hS hbA (fun H_3 locs hB9 hz9 hk9 hS => ?_)
    replace hP : va_P D vwCl (xW a kk (b4G g (1 + (lwF (v / 32) 3)) (lwF (v / 256) 5))) H_3 := hB9.1
    replace hP2 : va_P D vwCl (xW a2 kk (b4G g (1 + (lwF (v / 32) 3)) (lwF (v / 256) 5))) H_3 := hB9.2.1
    refine ri_if_ne (tgt := 147) hx hb (by omega) dL_law_142 (by decide) (fun c_4 => ?_) (fun c_4 => ?_)
    · skip
      refine W.widen (k := 34 + 200 * k + 200) (n := 5982 + 1200 * k + 1200) (by omega) (by omega) ?_
      exact K _ _ _ ls ⟨hP, hP2, hS, (b_4 hI (by omega) (by omega)).1, fun z => ⟨fun h => absurd h (by omega), Nat.le_trans (hG z).2 hz9⟩⟩ (lv_sub hl [0, 1, 2, 3] rfl)
    · skip
      exfalso; omega

set_option maxHeartbeats 4000000 in
set_option maxRecDepth 100000 in
theorem lt_57 {p : Program} {l : Launch} {e : Env} {s : State} {m : MethodId} {below : List Frame} {meth : Method} {c : Code} {b L : Nat} {xs : Nat → Int32} {D : va_G} {kk : Nat → ClassId} {a a2 : Nat → Nat} {sa : Nat → Nat} {Q : State → Prop} (C0 : LCx p l s m meth c b L xs D kk a a2 sa) {k : Nat} {v : Int} {g : Nat → Nat → Int} {H : Heap} {locs : List Loc} {ls : Array Slot} (hv : -2147483648 ≤ v ∧ v < 2147483648) (hk : k < 80) (S0 : LSt s L xs D kk a a2 k k g H locs) (hl : lv_has ls 6 [(0, .ref b), (1, .ref (a 0)), (2, .ref (a2 0)), (3, .int (iI (k : Int))), (4, .int (iI v))]) (K : ∀ (g : Nat → Nat → Int) (H : Heap) (locs : List Loc) (ls : Array Slot), LSt s L xs D kk a a2 (k + 1) (k + 1) g H locs → lv_has ls 6 [(0, .ref b), (1, .ref (a 0)), (2, .ref (a2 0)), (3, .int (iI (k : Int)))] → W p l e bigR s m (#[Value.ref b] : Array Value) below meth c H locs (34 + 200 * k + 200) (5982 + 1200 * k + 1200) Q (F0 m 147 ls [])) : W p l e bigR s m (#[Value.ref b] : Array Value) below meth c H locs (34 + 200 * k + 4) (5982 + 1200 * k + 24) Q (F0 m 57 ls []) := by
  have C9 := C0
  obtain ⟨⟨hx, hb, hml, hown, hts, htb, hX, hbl, hL⟩, ⟨hst, hK, hN, hT, hC⟩, ⟨hA, hA2, hAB, hsa, hsa2⟩⟩ := C0
  obtain ⟨hP, hP2, hS, hI, hG⟩ := S0
  have hbA0 : ¬ (fun q : Nat => s.heap.size ≤ q) b := Nat.not_le.mpr hbl
  have CF : CallFix p m c cL_law 6 s (#[Value.ref b] : Array Value) wsL_law RL := ⟨hx, hb, hml, hown, hts⟩
  have hA0 : ∀ q : Nat, aA 17 a q → s.heap.size ≤ q := fun q ⟨j, hj, e9⟩ => by rw [e9]; exact hsa j hj
  have hA1 : ∀ q : Nat, aA 17 a2 q → s.heap.size ≤ q := fun q ⟨j, hj, e9⟩ => by rw [e9]; exact hsa2 j hj
  have hbA : ∀ q : Nat, bA a a2 q → s.heap.size ≤ q := fun q h => h.elim (hA0 q) (hA1 q)
  refine lv_aload_n hx hb dL_law_57 rfl (lv_at hl 1 rfl) ?_
  refine lv_aload_n hx hb dL_law_58 rfl (lv_at hl 2 rfl) ?_
  refine ri_wz (v := 1) (PP := (fun H9 => va_P D vwCl (xW a kk g) H9 ∧ va_P D vwCl (xW a2 kk g) H9 ∧ (H).size ≤ H9.size ∧ (U01 g → (H).size + 16 ≤ H9.size))) (ri_runS (As := [.ref (a 0), .ref (a2 0)]) (rest := []) CF (k_L_areAlike l D a a2 kk g sa (H).size hst  hA hA2 hAB hI ) gL_law_L_areAlike f_L_areAlike ⟨rfl, rfl, (Nat.le_of_ble_eq_true rfl), (Nat.le_of_ble_eq_true rfl), (by show _ ≤ 17000; omega), (by show _ ≤ 110000; omega)⟩ rB_bl (rB_in hS hbA hT hP hP2 hK hN hC (Nat.le_refl _)) rfl hl.1 rfl (Nat.le_of_ble_eq_true rfl) dL_law_59) hS hbA (fun H_1 locs hB9 hz9 hk9 hS => ?_)
  replace hP := hB9.1
  replace hP2 := hB9.2.1
  replace hG : GR s L xs k g (k + 1) H_1 := fun z => ⟨(hG z).1, by
    by_cases h6 : k ≤ 6
    · have h9 := hB9.2.2.2 (by rw [(hG z).1 h6]; exact z1_U)
      have h8 := (hG z).2
      omega
    · have h8 := Nat.le_trans (hG z).2 hz9
      omega⟩
  refine ri_if_ne (tgt := 67) hx hb (by omega) dL_law_62 (by decide) (fun c_2 => ?_) (fun c_2 => ?_)
  · skip
    refine lv_iload_n hx hb dL_law_67 rfl (lv_at hl 3 rfl) ?_
    refine ri_iconst hx hb dL_law_68 ?_
    refine ri_irem hx hb (by omega) dL_law_69 ?_
    refine ri_iconst hx hb dL_law_70 ?_
    refine ri_icmp_ne (tgt := 109) hx hb (by omega) dL_law_71 (by decide) (fun h71 => ?_) (fun h71 => ?_)
    · skip
      refine W.widen (k := 34 + 200 * k + 170) (n := 5982 + 1200 * k + 1020) (by omega) (by omega) ?_
      exact lt_109 C9 hv hk ⟨hP, hP2, hS, hI, hG⟩ (lv_sub hl [0, 1, 2, 3, 4] rfl) K
    · skip
      refine lv_aload_n hx hb dL_law_74 rfl (lv_at hl 1 rfl) ?_
      refine lv_aload_n hx hb dL_law_75 rfl (lv_at hl 2 rfl) ?_
      refine lv_iload hx hb dL_law_76 (lv_at hl 4 rfl) ?_
      refine ri_iconst hx hb dL_law_78 ?_
      refine ri_ishr hx hb (by omega) 5 (d := 32) (by decide) (by decide) dL_law_79 ?_
      refine ri_iconst hx hb dL_law_80 ?_
      refine ri_rd (ri_runS (As := [.int (iI (v / 32)), .int (iI 4)]) (rest := [.ref (a2 0), .ref (a 0)]) CF (k_L_low l (v / 32) 4 (by omega) (by omega)) gL_law_L_low f_L_low ⟨rfl, rfl, (Nat.le_of_ble_eq_true rfl), (Nat.le_of_ble_eq_true rfl), (by show _ ≤ 17000; omega), (by show _ ≤ 110000; omega)⟩ tB_bl tB_in rfl hl.1 rfl (Nat.le_of_ble_eq_true rfl) dL_law_81) ?_
      have f_3 := lwF_r (v / 32) (n := 4) (by omega)
      refine lv_iload hx hb dL_law_84 (lv_at hl 4 rfl) ?_
      refine ri_bipush hx hb dL_law_86 (by decide) ?_
      refine ri_ishr hx hb (by omega) 8 (d := 256) (by decide) (by decide) dL_law_88 ?_
      refine ri_iconst hx hb dL_law_89 ?_
      refine ri_rd (ri_runS (As := [.int (iI (v / 256)), .int (iI 2)]) (rest := [.int (iI (lwF (v / 32) 4)), .ref (a2 0), .ref (a 0)]) CF (k_L_low l (v / 256) 2 (by omega) (by omega)) gL_law_L_low f_L_low ⟨rfl, rfl, (Nat.le_of_ble_eq_true rfl), (Nat.le_of_ble_eq_true rfl), (by show _ ≤ 17000; omega), (by show _ ≤ 110000; omega)⟩ tB_bl tB_in rfl hl.1 rfl (Nat.le_of_ble_eq_true rfl) dL_law_90) ?_
      have f_4 := lwF_r (v / 256) (n := 2) (by omega)
      refine lv_iload hx hb dL_law_93 (lv_at hl 4 rfl) ?_
      refine ri_bipush hx hb dL_law_95 (by decide) ?_
      refine ri_ishr hx hb (by omega) 10 (d := 1024) (by decide) (by decide) dL_law_97 ?_
      refine ri_bipush hx hb dL_law_98 (by decide) ?_
      refine ri_rd (ri_runS (As := [.int (iI (v / 1024)), .int (iI 60)]) (rest := [.int (iI (lwF (v / 256) 2)), .int (iI (lwF (v / 32) 4)), .ref (a2 0), .ref (a 0)]) CF (k_L_low l (v / 1024) 60 (by omega) (by omega)) gL_law_L_low f_L_low ⟨rfl, rfl, (Nat.le_of_ble_eq_true rfl), (Nat.le_of_ble_eq_true rfl), (by show _ ≤ 17000; omega), (by show _ ≤ 110000; omega)⟩ tB_bl tB_in rfl hl.1 rfl (Nat.le_of_ble_eq_true rfl) dL_law_100) ?_
      have f_5 := lwF_r (v / 1024) (n := 60) (by omega)
      refine ri_wz (v := 1) (PP := (fun H9 => va_P D vwCl (xW a kk (ruG g (lwF (v / 32) 4) (lwF (v / 256) 2) (lwF (v / 1024) 60))) H9 ∧ va_P D vwCl (xW a2 kk (ruG g (lwF (v / 32) 4) (lwF (v / 256) 2) (lwF (v / 1024) 60))) H9 ∧ (H_1).size ≤ H9.size)) (ri_runS (As := [.ref (a 0), .ref (a2 0), .int (iI (lwF (v / 32) 4)), .int (iI (lwF (v / 256) 2)), .int (iI (lwF (v / 1024) 60))]) (rest := []) CF (k_L_isCompared l D a a2 kk g sa (H_1).size hst (lwF (v / 32) 4) (lwF (v / 256) 2) (lwF (v / 1024) 60) hA hA2 hAB hI ⟨by omega, by omega, by omega⟩) gL_law_L_isCompared f_L_isCompared ⟨rfl, rfl, (Nat.le_of_ble_eq_true rfl), (Nat.le_of_ble_eq_true rfl), (by show _ ≤ 17000; omega), (by show _ ≤ 110000; omega)⟩ rB_bl (rB_in hS hbA hT hP hP2 hK hN hC (Nat.le_refl _)) rfl hl.1 rfl (Nat.le_of_ble_eq_true rfl) dL_law_103) hS hbA (fun H_6 locs hB9 hz9 hk9 hS => ?_)
      replace hP := hB9.1
      replace hP2 := hB9.2.1
      replace hG : GR s L xs k (ruG g (lwF (v / 32) 4) (lwF (v / 256) 2) (lwF (v / 1024) 60)) (k + 1) H_6 := fun z => ⟨fun h6 => by rw [(hG z).1 h6]; exact z1_ru _ _ _, Nat.le_trans (hG z).2 hz9⟩
      refine ri_if_eq (tgt := 145) hx hb (by omega) dL_law_106 (by decide) (fun c_7 => ?_) (fun c_7 => ?_)
      · skip
        exfalso; omega
      · skip
        refine W.widen (k := 34 + 200 * k + 170) (n := 5982 + 1200 * k + 1020) (by omega) (by omega) ?_
        exact lt_109 C9 hv hk ⟨hP, hP2, hS, (XInv_ru hI (lwF (v / 32) 4) (lwF (v / 1024) 60) (by omega)), hG⟩ (lv_sub hl [0, 1, 2, 3, 4] rfl) K
  · skip
    exfalso; omega

set_option maxHeartbeats 4000000 in
set_option maxRecDepth 100000 in
theorem lt_24 {p : Program} {l : Launch} {e : Env} {s : State} {m : MethodId} {below : List Frame} {meth : Method} {c : Code} {b L : Nat} {xs : Nat → Int32} {D : va_G} {kk : Nat → ClassId} {a a2 : Nat → Nat} {sa : Nat → Nat} {Q : State → Prop} (C0 : LCx p l s m meth c b L xs D kk a a2 sa) {k : Nat} {g : Nat → Nat → Int} {H : Heap} {locs : List Loc} {ls : Array Slot} (hk : k < 80) (S0 : LSt s L xs D kk a a2 k k g H locs) (hl : lv_has ls 6 [(0, .ref b), (1, .ref (a 0)), (2, .ref (a2 0)), (3, .int (iI (k : Int)))]) (K : ∀ (g : Nat → Nat → Int) (H : Heap) (locs : List Loc) (ls : Array Slot), LSt s L xs D kk a a2 (k + 1) (k + 1) g H locs → lv_has ls 6 [(0, .ref b), (1, .ref (a 0)), (2, .ref (a2 0)), (3, .int (iI (k : Int)))] → W p l e bigR s m (#[Value.ref b] : Array Value) below meth c H locs (34 + 200 * k + 200) (5982 + 1200 * k + 1200) Q (F0 m 147 ls [])) : W p l e bigR s m (#[Value.ref b] : Array Value) below meth c H locs (34 + 200 * k) (5982 + 1200 * k) Q (F0 m 24 ls []) := by
  have C9 := C0
  obtain ⟨⟨hx, hb, hml, hown, hts, htb, hX, hbl, hL⟩, ⟨hst, hK, hN, hT, hC⟩, ⟨hA, hA2, hAB, hsa, hsa2⟩⟩ := C0
  obtain ⟨hP, hP2, hS, hI, hG⟩ := S0
  have hbA0 : ¬ (fun q : Nat => s.heap.size ≤ q) b := Nat.not_le.mpr hbl
  have CF : CallFix p m c cL_law 6 s (#[Value.ref b] : Array Value) wsL_law RL := ⟨hx, hb, hml, hown, hts⟩
  have hA0 : ∀ q : Nat, aA 17 a q → s.heap.size ≤ q := fun q ⟨j, hj, e9⟩ => by rw [e9]; exact hsa j hj
  have hA1 : ∀ q : Nat, aA 17 a2 q → s.heap.size ≤ q := fun q ⟨j, hj, e9⟩ => by rw [e9]; exact hsa2 j hj
  have hbA : ∀ q : Nat, bA a a2 q → s.heap.size ≤ q := fun q h => h.elim (hA0 q) (hA1 q)
  refine lv_aload_n hx hb dL_law_24 rfl (lv_at hl 0 rfl) ?_
  refine lv_iload_n hx hb dL_law_25 rfl (lv_at hl 3 rfl) ?_
  refine ri_rd (ri_runS (As := [.ref b, .int (iI (k : Int))]) (rest := []) CF (k_L_cell l b L xs (k : Int) (by omega) hL) gL_law_L_cell f_L_cell ⟨rfl, rfl, (Nat.le_of_ble_eq_true rfl), (Nat.le_of_ble_eq_true rfl), (by show _ ≤ 17000; omega), (by show _ ≤ 110000; omega)⟩ xB_bl (xB_in hS hX hbl hbA0) rfl hl.1 rfl (Nat.le_of_ble_eq_true rfl) dL_law_26) ?_
  have hv := clV_r L xs (k : Int)
  obtain ⟨v, hcv⟩ : ∃ v, clV L xs (k : Int) = v := ⟨_, rfl⟩
  rw [hcv] at hv
  have hv6 : Z7 L xs → k ≤ 6 → v = 6 := fun z h6 => by
    rw [← hcv]
    unfold clV
    rw [if_pos (by have := z.1; omega), z.2 _ (by omega)]
    rfl
  refine ri_eq (y := v) hcv ?_
  refine lv_istore (lv' := [(4, .int (iI v)), (0, .ref b), (1, .ref (a 0)), (2, .ref (a2 0)), (3, .int (iI (k : Int)))]) hx hb dL_law_29 hl (by decide) rfl (fun ls hl => ?_)
  refine lv_aload_n hx hb dL_law_31 rfl (lv_at hl 2 rfl) ?_
  refine lv_iload hx hb dL_law_32 (lv_at hl 0 rfl) ?_
  refine ri_wz (v := actR g v) (PP := fun H9 => va_P D vwCl (xW a kk (actG g v)) H9 ∧ 0 ≤ H9.size) (ri_runS (As := [.ref (a 0), .int (iI v)]) (rest := []) CF (k_L_act l D a kk g sa 0 hst v hA hI hv) gL_law_L_act f_L_act ⟨rfl, rfl, (Nat.le_of_ble_eq_true rfl), (Nat.le_of_ble_eq_true rfl), (by show _ ≤ 17000; omega), (by show _ ≤ 110000; omega)⟩ qB_bl (qB_in hS hA0 hT hP hK hN hC (Nat.zero_le _)) rfl hl.1 rfl (Nat.le_of_ble_eq_true rfl) dL_law_34) hS hA0 (fun H_1 locs hB9 hz9 hk9 hS => ?_)
  replace hP : va_P D vwCl (xW a kk (actG g v)) H_1 := hB9.1
  replace hP2 := hP2.un hk9 (x_un2 (ap_1 hAB))
  replace hG := hG.up hz9
  refine lv_istore (lv' := [(5, .int (iI (actR g v))), (4, .int (iI v)), (0, .ref b), (1, .ref (a 0)), (2, .ref (a2 0)), (3, .int (iI (k : Int)))]) hx hb dL_law_37 hl (by decide) rfl (fun ls hl => ?_)
  refine lv_iload hx hb dL_law_39 (lv_at hl 0 rfl) ?_
  refine lv_ldc (v := iI (-99998)) hx hb hown (htb (.constant RL 41 (iI (-99998))) (List.mem_append_right _ (List.mem_of_getElem? (i := 392) (by decide +kernel)))) dL_law_41 ?_
  refine ri_icmp_le (tgt := 57) hx hb (by have h9 := act_rr g v; omega) dL_law_43 (by decide) (fun h43 => ?_) (fun h43 => ?_)
  · skip
    have e9 := act_le h43
    replace hP2 : va_P D vwCl (xW a2 kk (actG g v)) H_1 := by rw [e9]; exact hP2
    refine W.widen (k := 34 + 200 * k + 4) (n := 5982 + 1200 * k + 24) (by omega) (by omega) ?_
    exact lt_57 C9 hv hk ⟨hP, hP2, hS, XInv_act hI v, fun z => ⟨fun h6 => by rw [(hG z).1 h6, hv6 z h6]; exact act_z1.2, (hG z).2⟩⟩ (lv_sub hl [2, 3, 4, 5, 1] rfl) K
  · skip
    refine lv_aload_n hx hb dL_law_46 rfl (lv_at hl 4 rfl) ?_
    refine lv_iload hx hb dL_law_47 (lv_at hl 1 rfl) ?_
    refine ri_wz (v := actR g v) (PP := fun H9 => va_P D vwCl (xW a2 kk (actG g v)) H9 ∧ 0 ≤ H9.size) (ri_runS (As := [.ref (a2 0), .int (iI v)]) (rest := []) CF (k_L_act l D a2 kk g sa 0 hst v hA2 hI hv) gL_law_L_act f_L_act ⟨rfl, rfl, (Nat.le_of_ble_eq_true rfl), (Nat.le_of_ble_eq_true rfl), (by show _ ≤ 17000; omega), (by show _ ≤ 110000; omega)⟩ qB_bl (qB_in hS hA1 hT hP2 hK hN hC (Nat.zero_le _)) rfl hl.1 rfl (Nat.le_of_ble_eq_true rfl) dL_law_49) hS hA1 (fun H_2 locs hB9 hz9 hk9 hS => ?_)
    replace hP2 : va_P D vwCl (xW a2 kk (actG g v)) H_2 := hB9.1
    replace hP := hP.un hk9 (x_un2 (ap_2 hAB))
    replace hG := hG.up hz9
    refine lv_iload hx hb dL_law_52 (lv_at hl 0 rfl) ?_
    refine ri_icmp_ne (tgt := 65) hx hb (by have h9 := act_rr g v; omega) dL_law_54 (by decide) (fun h54 => ?_) (fun h54 => ?_)
    · skip
      exact absurd rfl h54
    · skip
      exact lt_57 C9 hv hk ⟨hP, hP2, hS, XInv_act hI v, fun z => ⟨fun h6 => by rw [(hG z).1 h6, hv6 z h6]; exact act_z1.2, (hG z).2⟩⟩ (lv_sub hl [2, 3, 4, 5, 1] rfl) K

set_option maxHeartbeats 4000000 in
set_option maxRecDepth 100000 in
theorem law_loop {p : Program} {l : Launch} {e : Env} {s : State} {m : MethodId} {below : List Frame} {meth : Method} {c : Code} {b L : Nat} {xs : Nat → Int32} {D : va_G} {kk : Nat → ClassId} {a a2 : Nat → Nat} {sa : Nat → Nat} {Q : State → Prop} (C0 : LCx p l s m meth c b L xs D kk a a2 sa) (E : ∀ (H : Heap) (ls : Array Slot), (Z7 L xs → s.heap.size + 112 ≤ H.size) → W p l e bigR s m (#[Value.ref b] : Array Value) below meth c H [] 17000 110000 Q (F0 m 158 ls [.int (iI 1)])) : ∀ (n k : Nat), k ≤ 80 → 80 - k < n → ∀ (g : Nat → Nat → Int) (H : Heap) (locs : List Loc) (ls : Array Slot), LSt s L xs D kk a a2 k k g H locs → lv_has ls 6 [(0, .ref b), (1, .ref (a 0)), (2, .ref (a2 0)), (3, .int (iI (k : Int)))] → W p l e bigR s m (#[Value.ref b] : Array Value) below meth c H locs (34 + 200 * k) (5982 + 1200 * k) Q (F0 m 18 ls []) := by
  have C9 := C0
  obtain ⟨⟨hx, hb, hml, hown, hts, htb, hX, hbl, hL⟩, ⟨hst, hK, hN, hT, hC⟩, ⟨hA, hA2, hAB, hsa, hsa2⟩⟩ := C0
  have hbA0 : ¬ (fun q : Nat => s.heap.size ≤ q) b := Nat.not_le.mpr hbl
  have CF : CallFix p m c cL_law 6 s (#[Value.ref b] : Array Value) wsL_law RL := ⟨hx, hb, hml, hown, hts⟩
  have hA0 : ∀ q : Nat, aA 17 a q → s.heap.size ≤ q := fun q ⟨j, hj, e9⟩ => by rw [e9]; exact hsa j hj
  have hA1 : ∀ q : Nat, aA 17 a2 q → s.heap.size ≤ q := fun q ⟨j, hj, e9⟩ => by rw [e9]; exact hsa2 j hj
  have hbA : ∀ q : Nat, bA a a2 q → s.heap.size ≤ q := fun q h => h.elim (hA0 q) (hA1 q)
  intro n
  induction n with
  | zero => intro k _ hm; exact absurd hm (Nat.not_lt_zero _)
  | succ n ih =>
    intro k hk hm g H locs ls S0 hl
    obtain ⟨hP, hP2, hS, hI, hG⟩ := S0
    refine lv_iload_n hx hb dL_law_18 rfl (lv_at hl 3 rfl) ?_
    refine ri_bipush hx hb dL_law_19 (by decide) ?_
    refine ri_icmp_ge (tgt := 153) hx hb (by omega) dL_law_21 (by decide) (fun h21 => ?_) (fun h21 => ?_)
    · skip
      refine lv_aload_n hx hb dL_law_153 rfl (lv_at hl 1 rfl) ?_
      refine lv_aload_n hx hb dL_law_154 rfl (lv_at hl 2 rfl) ?_
      refine ri_wz (v := 1) (PP := (fun H9 => va_P D vwCl (xW a kk g) H9 ∧ va_P D vwCl (xW a2 kk g) H9 ∧ (H).size ≤ H9.size ∧ (U01 g → (H).size + 16 ≤ H9.size))) (ri_runS (As := [.ref (a 0), .ref (a2 0)]) (rest := []) CF (k_L_areAlike l D a a2 kk g sa (H).size hst  hA hA2 hAB hI ) gL_law_L_areAlike f_L_areAlike ⟨rfl, rfl, (Nat.le_of_ble_eq_true rfl), (Nat.le_of_ble_eq_true rfl), (by show _ ≤ 17000; omega), (by show _ ≤ 110000; omega)⟩ rB_bl (rB_in hS hbA hT hP hP2 hK hN hC (Nat.le_refl _)) rfl hl.1 rfl (Nat.le_of_ble_eq_true rfl) dL_law_155) hS hbA (fun H_1 locs hB9 hz9 hk9 hS => ?_)
      refine va_forget (fun q hq => hS.2.2 q hq) ?_
      refine W.widen (k := 17000) (n := 110000) (by omega) (by omega) ?_
      exact E _ _ (fun z => by have h8 := Nat.le_trans (hG z).2 hz9; omega)
    · skip
      refine lt_24 C9 (by omega) ⟨hP, hP2, hS, hI, hG⟩ hl (fun g H locs ls S1 hl => ?_)
      refine ri_iinc (lv' := [(3, .int (iI ((k : Int) + 1))), (0, .ref b), (1, .ref (a 0)), (2, .ref (a2 0))]) hx hb dL_law_147 hl (k := 3) rfl (by decide) rfl (fun ls hl => ?_)
      refine lv_goto (tgt := 18) hx hb dL_law_150 (by decide) ?_
      rw [show (k : Int) + 1 = ((k + 1 : Nat) : Int) by omega] at hl
      have h9 := ih (k + 1) (by omega) (by omega) g H locs ls S1 (lv_sub hl [1, 2, 3, 0] rfl)
      rw [show 34 + 200 * (k + 1) = 34 + 200 * k + 200 by omega, show 5982 + 1200 * (k + 1) = 5982 + 1200 * k + 1200 by omega] at h9
      exact h9
