/-! ===== the law's loop over tests and branches ===== -/
theorem k_L_act (l : Launch) (D : va_G) (a : Nat → Nat) (kk : Nat → ClassId) (g : Nat → Nat → Int) (sa : Nat → Nat) (N : Nat) (hst : l.stackTraces = false) (v : Int) (hA : aDs 17 a) (hI : XInv g) (yv : -2147483648 ≤ v ∧ v < 2147483648) : WI l yL_act wsL_act ({ frames := 10, cells := 2, slots := 12, locals := 200 }) [.ref (a 0), .int (iI v)] (qB sa D a kk g N) (actR g v) (fun H => va_P D vwCl (xW a kk (actG g v)) H ∧ N ≤ H.size) (aA 17 a) 2 12 := by
  by_cases ho : acO v
  · exact k_L_act_o l D a kk g sa N hst v hA hI yv ho
  · exact k_L_act_e l D a kk g sa N hst v hA hI yv ho
/-- no picture is approved for the tests 0 and 1 -/
def U01 (g : Nat → Nat → Int) : Prop := ∀ b t : Int, (0 ≤ b ∧ b ≤ 3) → (0 ≤ t ∧ t ≤ 1) → ¬ g 3 (5 + b * 5 + t).toNat = 1
/-- so many exceptions at the least, behind t tests and b branches -/
def grN (t b : Nat) : Nat := if t ≤ 1 then 8 * t + 2 * b else 16
theorem grN_0 (t : Nat) : grN (t + 1) 0 ≤ grN t 4 := by unfold grN; split <;> split <;> omega
theorem grN_5 : grN 5 0 = 16 := rfl
theorem grN_2 {t : Nat} (b : Nat) (h : 2 ≤ t) : grN t b = 16 := by unfold grN; rw [if_neg (by omega)]
theorem grN_1 {t : Nat} (b : Nat) (h : t ≤ 1) : grN t (b + 1) = grN t b + 2 := by unfold grN; rw [if_pos h, if_pos h]; omega
theorem cnt_cd (g : Nat → Nat → Int) (b t n : Int) : 0 ≤ cntE (CD g b t n) 64 ∧ cntE (CD g b t n) 64 ≤ 64 := by have := cntE_r (CD g b t n) 64; omega
theorem dfR_r (g : Nat → Nat → Int) (b t n : Int) : -99999 ≤ dfR g b t n ∧ dfR g b t n ≤ 64 := by
  have := cnt_cd g b t n
  unfold dfR
  by_cases h : cmpA b t n
  · rw [iteI_t h]
    by_cases h2 : g 3 (5 + b * 5 + t).toNat = 1
    · rw [iteI_t h2]; omega
    · rw [iteI_f h2]; omega
  · rw [iteI_f h]; omega
theorem popc_le : ∀ m : Nat, m < 10 → ∀ y : Nat, y < 2 ^ m → popc y ≤ (m : Int) := by decide +kernel
theorem chg_le (x : Int) {n : Int} (h : 2 ≤ n ∧ n ≤ 10) : 0 ≤ chg x n ∧ chg x n ≤ n - 1 := by
  refine ⟨(chg_r x n).1, ?_⟩
  have h1 : ((x % 4294967296).toNat ^^^ (x % 4294967296).toNat / 2) % 2 ^ (n - 1).toNat < 2 ^ (n - 1).toNat := Nat.mod_lt _ (Nat.two_pow_pos _)
  have h2 := popc_le (n - 1).toNat (by omega) (chY x (n - 1)).toNat (by unfold chY; rw [Int.toNat_natCast]; exact h1)
  have h3 : chg x n = popc (chY x (n - 1)).toNat := rfl
  omega
theorem dbt_r (x : Int) {n : Int} (h : 0 ≤ n ∧ n ≤ 10) : 0 ≤ dbt x n ∧ dbt x n ≤ 100 := by
  unfold dbt
  split
  · omega
  · have h1 := chg_le x (n := n) (by omega)
    refine ⟨Int.ediv_nonneg (by omega) (by omega), ?_⟩
    have h2 : 100 * chg x n ≤ 100 * (n - 1) := by omega
    have h3 : 100 * chg x n / (n - 1) ≤ 100 * (n - 1) / (n - 1) := Int.ediv_le_ediv (by omega) h2
    rw [Int.mul_ediv_cancel _ (by omega)] at h3
    exact h3

theorem f_L_areAlike : MF yL_areAlike wsL_areAlike cL_areAlike 5 (some .boolean) 2 := ⟨⟨_, rfl⟩, by decide +kernel, by decide +kernel, by decide +kernel⟩
set_option maxHeartbeats 4000000 in
set_option maxRecDepth 100000 in
theorem k_L_areAlike (l : Launch) (D : va_G) (a a2 : Nat → Nat) (kk : Nat → ClassId) (g : Nat → Nat → Int) (sa : Nat → Nat) (N : Nat) (hst : l.stackTraces = false) (hA : aDs 17 a) (hA2 : aDs 17 a2) (hAB : ∀ i j, i < 17 → j < 17 → a i ≠ a2 j) (hI : XInv g) : WI l yL_areAlike wsL_areAlike ({ frames := 10, cells := 140, slots := 840, locals := 178 }) [.ref (a 0), .ref (a2 0)] (rB sa D a a2 kk g N) (1) (fun H => va_P D vwCl (xW a kk g) H ∧ va_P D vwCl (xW a2 kk g) H ∧ N ≤ H.size ∧ (U01 g → N + 16 ≤ H.size)) (bA a a2) 140 840 := by
  refine ri_ent (cc := cL_areAlike) (maxL := 5) (ret := some .boolean) (by decide) rfl (Nat.le_of_ble_eq_true rfl) ?_
  intro zp ze s zm zb zt zc hx hb hr hts hown hlocks hml hin hB ls hl
  have hown : s.vm.findClass RL = some zm.cls := hown
  have CF : CallFix zp zm zc cL_areAlike 5 s ([.ref (a 0), .ref (a2 0)] : List Value).toArray wsL_areAlike RL := ⟨hx, hb, hml, hown, hts⟩
  obtain ⟨hT, hP, hP2, hK, hN, hC, hz⟩ := hB
  have hS : va_S (bA a a2) s.heap s.heap [] := va_S.rf
  have hl : lv_has ls 5 [(0, .ref (a 0)), (1, .ref (a2 0))] := hl
  have hst := hst
  have L2 : ∀ (n t : Nat), t ≤ 5 → 5 - t < n → ∀ (H : Heap) (locs : List Loc), va_P D vwCl (xW a kk g) H → va_P D vwCl (xW a2 kk g) H → N ≤ H.size → (U01 g → N + grN t 0 ≤ H.size) → va_S (bA a a2) s.heap H locs → ∀ ls : Array Slot, lv_has ls 5 [(0, .ref (a 0)), (1, .ref (a2 0)), (2, .int (iI (t : Int)))] → W zp l ze ({ frames := 10, cells := 140, slots := 840, locals := 178 }) s zm ([.ref (a 0), .ref (a2 0)] : List Value).toArray zb zt zc H locs (28 * t) (168 * t) (MQ zb (va_Qi (fun (r9 : Int32) (_ : Unit) => r9 = iI (1)) (fun _ t9 => (fun H => va_P D vwCl (xW a kk g) H ∧ va_P D vwCl (xW a2 kk g) H ∧ N ≤ H.size ∧ (U01 g → N + 16 ≤ H.size)) t9.heap) (bA a a2)) ([.ref (a 0), .ref (a2 0)] : List Value).toArray s 140 840 (bA a a2)) (F0 zm 2 ls []) := by
    intro n
    induction n with
    | zero => intro t _ hm; exact absurd hm (Nat.not_lt_zero _)
    | succ n ih =>
      intro t ht hm H locs hP hP2 hz hg hS ls hl
      refine lv_iload_n hx hb dL_areAlike_2 rfl (lv_at hl 2 rfl) ?_
      refine ri_iconst hx hb dL_areAlike_3 ?_
      refine ri_icmp_ge (tgt := 119) hx hb (by omega) dL_areAlike_4 (by decide) (fun h4 => ?_) (fun h4 => ?_)
      · skip
        refine W.widen (k := 140) (n := 840) (by omega) (by omega) ?_
        refine ri_iconst hx hb dL_areAlike_119 ?_
        exact ri_zretW (A := bA a a2) (PP := (fun H => va_P D vwCl (xW a kk g) H ∧ va_P D vwCl (xW a2 kk g) H ∧ N ≤ H.size ∧ (U01 g → N + 16 ≤ H.size))) hx hb hr hlocks hS ⟨hP, hP2, hz, fun u => by have h9 := hg u; rw [show t = 5 by omega, grN_5] at h9; exact h9⟩ (Or.inr rfl) dL_areAlike_120 rfl
      · skip
        have hr16 := hI.2.2.2.2.2 ((t : Int)).toNat (by omega)
        have hrd := dbt_r (g 15 ((t : Int)).toNat) hr16
        refine lv_aload_n hx hb dL_areAlike_7 rfl (lv_at hl 0 rfl) ?_
        refine lv_iload_n hx hb dL_areAlike_8 rfl (lv_at hl 2 rfl) ?_
        refine ri_xi (ri_runVX (b := a 0) (As := [.int (iI (t : Int))]) (rest := []) CF (k_X3_runs l D a kk g sa hst (t : Int) hA hI (by omega)) gL_areAlike_X3_runs f_X3_runs rfl (va_recv hK hP (ci := 3) (q0 := 0) rfl rfl) ⟨rfl, rfl, (Nat.le_of_ble_eq_true rfl), (Nat.le_of_ble_eq_true rfl), (by show _ ≤ 140; omega), (by show _ ≤ 840; omega)⟩ pB_bl (pB_i2 hS (fun _ h => Or.inl h) hT hP hK hN) rfl hl.1 rfl (Nat.le_of_ble_eq_true rfl) dL_areAlike_9) hS (fun _ h => Or.inl h) (fun X hX => absurd (show 0 ≤ (t : Int) ∧ (t : Int) ≤ 4 from by omega) hX.2) (fun H_1 locs1 hB9 hz9 hk9 hS => ?_)
        replace hP : va_P D vwCl (xW a kk (g)) H_1 := hB9
        replace hP2 := hP2.un hk9 (x_un2 (ap_1 hAB))
        replace hz := Nat.le_trans hz hz9
        replace hg := fun u => Nat.le_trans (hg u) hz9
        refine lv_aload_n hx hb dL_areAlike_12 rfl (lv_at hl 1 rfl) ?_
        refine lv_iload_n hx hb dL_areAlike_13 rfl (lv_at hl 2 rfl) ?_
        refine ri_xi (ri_runVX (b := a2 0) (As := [.int (iI (t : Int))]) (rest := [.int (iI (g 16 (t : Int).toNat))]) CF (k_X3_runs l D a2 kk g sa hst (t : Int) hA2 hI (by omega)) gL_areAlike_X3_runs f_X3_runs rfl (va_recv hK hP2 (ci := 3) (q0 := 0) rfl rfl) ⟨rfl, rfl, (Nat.le_of_ble_eq_true rfl), (Nat.le_of_ble_eq_true rfl), (by show _ ≤ 140; omega), (by show _ ≤ 840; omega)⟩ pB_bl (pB_i2 hS (fun _ h => Or.inr h) hT hP2 hK hN) rfl hl.1 rfl (Nat.le_of_ble_eq_true rfl) dL_areAlike_14) hS (fun _ h => Or.inr h) (fun X hX => absurd (show 0 ≤ (t : Int) ∧ (t : Int) ≤ 4 from by omega) hX.2) (fun H_2 locs1 hB9 hz9 hk9 hS => ?_)
        replace hP2 : va_P D vwCl (xW a2 kk (g)) H_2 := hB9
        replace hP := hP.un hk9 (x_un2 (ap_2 hAB))
        replace hz := Nat.le_trans hz hz9
        replace hg := fun u => Nat.le_trans (hg u) hz9
        refine ri_icmp_ne (tgt := 37) hx hb (by omega) dL_areAlike_17 (by decide) (fun h17 => ?_) (fun h17 => ?_)
        · skip
          exact absurd rfl h17
        · skip
          refine lv_aload_n hx hb dL_areAlike_20 rfl (lv_at hl 0 rfl) ?_
          refine lv_iload_n hx hb dL_areAlike_21 rfl (lv_at hl 2 rfl) ?_
          refine ri_xi (ri_runVX (b := a 0) (As := [.int (iI (t : Int))]) (rest := []) CF (k_X3_doubt l D a kk g sa hst (t : Int) hA hI (by omega)) gL_areAlike_X3_doubt f_X3_doubt rfl (va_recv hK hP (ci := 3) (q0 := 0) rfl rfl) ⟨rfl, rfl, (Nat.le_of_ble_eq_true rfl), (Nat.le_of_ble_eq_true rfl), (by show _ ≤ 140; omega), (by show _ ≤ 840; omega)⟩ pB_bl (pB_i2 hS (fun _ h => Or.inl h) hT hP hK hN) rfl hl.1 rfl (Nat.le_of_ble_eq_true rfl) dL_areAlike_22) hS (fun _ h => Or.inl h) (fun X hX => absurd (show 0 ≤ (t : Int) ∧ (t : Int) ≤ 4 from by omega) hX.2) (fun H_3 locs1 hB9 hz9 hk9 hS => ?_)
          replace hP : va_P D vwCl (xW a kk (g)) H_3 := hB9
          replace hP2 := hP2.un hk9 (x_un2 (ap_1 hAB))
          replace hz := Nat.le_trans hz hz9
          replace hg := fun u => Nat.le_trans (hg u) hz9
          refine lv_aload_n hx hb dL_areAlike_25 rfl (lv_at hl 1 rfl) ?_
          refine lv_iload_n hx hb dL_areAlike_26 rfl (lv_at hl 2 rfl) ?_
          refine ri_xi (ri_runVX (b := a2 0) (As := [.int (iI (t : Int))]) (rest := [.int (iI (dbt (g 15 (t : Int).toNat) (g 16 (t : Int).toNat)))]) CF (k_X3_doubt l D a2 kk g sa hst (t : Int) hA2 hI (by omega)) gL_areAlike_X3_doubt f_X3_doubt rfl (va_recv hK hP2 (ci := 3) (q0 := 0) rfl rfl) ⟨rfl, rfl, (Nat.le_of_ble_eq_true rfl), (Nat.le_of_ble_eq_true rfl), (by show _ ≤ 140; omega), (by show _ ≤ 840; omega)⟩ pB_bl (pB_i2 hS (fun _ h => Or.inr h) hT hP2 hK hN) rfl hl.1 rfl (Nat.le_of_ble_eq_true rfl) dL_areAlike_27) hS (fun _ h => Or.inr h) (fun X hX => absurd (show 0 ≤ (t : Int) ∧ (t : Int) ≤ 4 from by omega) hX.2) (fun H_4 locs1 hB9 hz9 hk9 hS => ?_)
          replace hP2 : va_P D vwCl (xW a2 kk (g)) H_4 := hB9
          replace hP := hP.un hk9 (x_un2 (ap_2 hAB))
          replace hz := Nat.le_trans hz hz9
          replace hg := fun u => Nat.le_trans (hg u) hz9
          refine ri_icmp_ne (tgt := 37) hx hb (by omega) dL_areAlike_30 (by decide) (fun h30 => ?_) (fun h30 => ?_)
          · skip
            exact absurd rfl h30
          · skip
            refine ri_iconst hx hb dL_areAlike_33 ?_
            refine lv_goto (tgt := 38) hx hb dL_areAlike_34 (by decide) ?_
            refine lv_istore_n (lv' := [(3, .int (iI 1)), (0, .ref (a 0)), (1, .ref (a2 0)), (2, .int (iI (t : Int)))]) hx hb dL_areAlike_38 rfl hl (by decide) rfl (fun ls hl => ?_)
            refine ri_iconst hx hb dL_areAlike_39 ?_
            refine lv_istore (lv' := [(4, .int (iI 0)), (3, .int (iI 1)), (0, .ref (a 0)), (1, .ref (a2 0)), (2, .int (iI (t : Int)))]) hx hb dL_areAlike_40 hl (by decide) rfl (fun ls hl => ?_)
            have L42 : ∀ (m b : Nat), b ≤ 4 → 4 - b < m → ∀ (H : Heap) (locs : List Loc), va_P D vwCl (xW a kk g) H → va_P D vwCl (xW a2 kk g) H → N ≤ H.size → (U01 g → N + grN t b ≤ H.size) → va_S (bA a a2) s.heap H locs → ∀ ls : Array Slot, lv_has ls 5 [(0, .ref (a 0)), (1, .ref (a2 0)), (2, .int (iI (t : Int))), (3, .int (iI 1)), (4, .int (iI (b : Int)))] → W zp l ze ({ frames := 10, cells := 140, slots := 840, locals := 178 }) s zm ([.ref (a 0), .ref (a2 0)] : List Value).toArray zb zt zc H locs (28 * t + 4 + 6 * b) (168 * t + 24 + 36 * b) (MQ zb (va_Qi (fun (r9 : Int32) (_ : Unit) => r9 = iI (1)) (fun _ t9 => (fun H => va_P D vwCl (xW a kk g) H ∧ va_P D vwCl (xW a2 kk g) H ∧ N ≤ H.size ∧ (U01 g → N + 16 ≤ H.size)) t9.heap) (bA a a2)) ([.ref (a 0), .ref (a2 0)] : List Value).toArray s 140 840 (bA a a2)) (F0 zm 42 ls []) := by
              intro m
              induction m with
              | zero => intro b _ hm; exact absurd hm (Nat.not_lt_zero _)
              | succ m ih2 =>
                intro b hb4 hm2 H locs hP hP2 hz hg hS ls hl
                refine lv_iload hx hb dL_areAlike_42 (lv_at hl 4 rfl) ?_
                refine ri_iconst hx hb dL_areAlike_44 ?_
                refine ri_icmp_ge (tgt := 107) hx hb (by omega) dL_areAlike_45 (by decide) (fun h45 => ?_) (fun h45 => ?_)
                · skip
                  refine lv_iload_n hx hb dL_areAlike_107 rfl (lv_at hl 3 rfl) ?_
                  refine ri_if_ne (tgt := 113) hx hb (by omega) dL_areAlike_108 (by decide) (fun c_5 => ?_) (fun c_5 => ?_)
                  · skip
                    refine ri_iinc (lv' := [(2, .int (iI ((t : Int) + 1))), (0, .ref (a 0)), (1, .ref (a2 0)), (3, .int (iI 1)), (4, .int (iI (b : Int)))]) hx hb dL_areAlike_113 hl (k := 2) rfl (by decide) rfl (fun ls hl => ?_)
                    refine lv_goto (tgt := 2) hx hb dL_areAlike_116 (by decide) ?_
                    have hb9 : b = 4 := by omega
                    subst hb9
                    have h9 := ih (t + 1) (by omega) (by omega) _ _ hP hP2 hz (fun u => Nat.le_trans (Nat.add_le_add_left (grN_0 t) N) (hg u)) hS ls (lv_sub hl [1, 2, 0] rfl)
                    rw [show 28 * (t + 1) = 28 * t + 4 + 6 * 4 by omega, show 168 * (t + 1) = 168 * t + 24 + 36 * 4 by omega] at h9
                    exact h9
                  · skip
                    exfalso; omega
                · skip
                  refine lv_iload_n hx hb dL_areAlike_48 rfl (lv_at hl 3 rfl) ?_
                  refine ri_if_eq (tgt := 107) hx hb (by omega) dL_areAlike_49 (by decide) (fun c_6 => ?_) (fun c_6 => ?_)
                  · skip
                    exfalso; omega
                  · skip
                    refine lv_aload_n hx hb dL_areAlike_52 rfl (lv_at hl 0 rfl) ?_
                    refine lv_iload hx hb dL_areAlike_53 (lv_at hl 4 rfl) ?_
                    refine lv_iload_n hx hb dL_areAlike_55 rfl (lv_at hl 2 rfl) ?_
                    refine ri_xi (ri_runVX (b := a 0) (As := [.int (iI (b : Int)), .int (iI (t : Int))]) (rest := []) CF (k_X3_isApproved l D a kk g sa hst (b : Int) (t : Int) hA hI (by omega) (by omega)) gL_areAlike_X3_isApproved f_X3_isApproved rfl (va_recv hK hP (ci := 3) (q0 := 0) rfl rfl) ⟨rfl, rfl, (Nat.le_of_ble_eq_true rfl), (Nat.le_of_ble_eq_true rfl), (by show _ ≤ 140; omega), (by show _ ≤ 840; omega)⟩ pB_bl (pB_i2 hS (fun _ h => Or.inl h) hT hP hK hN) rfl hl.1 rfl (Nat.le_of_ble_eq_true rfl) dL_areAlike_56) hS (fun _ h => Or.inl h) (fun X hX => absurd (show (0 ≤ (b : Int) ∧ (b : Int) ≤ 3) ∧ (0 ≤ (t : Int) ∧ (t : Int) ≤ 4) from by omega) hX.2) (fun H_7 locs1 hB9 hz9 hk9 hS => ?_)
                    replace hP : va_P D vwCl (xW a kk (g)) H_7 := hB9
                    replace hP2 := hP2.un hk9 (x_un2 (ap_1 hAB))
                    replace hz := Nat.le_trans hz hz9
                    replace hg := fun u => Nat.le_trans (hg u) hz9
                    refine lv_aload_n hx hb dL_areAlike_59 rfl (lv_at hl 1 rfl) ?_
                    refine lv_iload hx hb dL_areAlike_60 (lv_at hl 4 rfl) ?_
                    refine lv_iload_n hx hb dL_areAlike_62 rfl (lv_at hl 2 rfl) ?_
                    refine ri_xi (ri_runVX (b := a2 0) (As := [.int (iI (b : Int)), .int (iI (t : Int))]) (rest := [.int (iI (bp (g 3 (5 + (b : Int) * 5 + (t : Int)).toNat = 1)))]) CF (k_X3_isApproved l D a2 kk g sa hst (b : Int) (t : Int) hA2 hI (by omega) (by omega)) gL_areAlike_X3_isApproved f_X3_isApproved rfl (va_recv hK hP2 (ci := 3) (q0 := 0) rfl rfl) ⟨rfl, rfl, (Nat.le_of_ble_eq_true rfl), (Nat.le_of_ble_eq_true rfl), (by show _ ≤ 140; omega), (by show _ ≤ 840; omega)⟩ pB_bl (pB_i2 hS (fun _ h => Or.inr h) hT hP2 hK hN) rfl hl.1 rfl (Nat.le_of_ble_eq_true rfl) dL_areAlike_63) hS (fun _ h => Or.inr h) (fun X hX => absurd (show (0 ≤ (b : Int) ∧ (b : Int) ≤ 3) ∧ (0 ≤ (t : Int) ∧ (t : Int) ≤ 4) from by omega) hX.2) (fun H_8 locs1 hB9 hz9 hk9 hS => ?_)
                    replace hP2 : va_P D vwCl (xW a2 kk (g)) H_8 := hB9
                    replace hP := hP.un hk9 (x_un2 (ap_2 hAB))
                    replace hz := Nat.le_trans hz hz9
                    replace hg := fun u => Nat.le_trans (hg u) hz9
                    refine ri_icmp_ne (tgt := 99) hx hb (by have h9 := bp_r (g 3 (5 + (b : Int) * 5 + (t : Int)).toNat = 1); omega) dL_areAlike_66 (by decide) (fun h66 => ?_) (fun h66 => ?_)
                    · skip
                      exact absurd rfl h66
                    · skip
                      refine lv_iload_n hx hb dL_areAlike_69 rfl (lv_at hl 2 rfl) ?_
                      refine ri_iconst hx hb dL_areAlike_70 ?_
                      refine ri_icmp_gt (tgt := 95) hx hb (by omega) dL_areAlike_71 (by decide) (fun h71 => ?_) (fun h71 => ?_)
                      · skip
                        have hg3 : U01 g → N + grN t (b + 1) ≤ H_8.size := fun u => by have h9 := hg u; rw [grN_2 b (by omega)] at h9; rw [grN_2 (b + 1) (by omega)]; exact h9
                        refine W.widen (k := 28 * t + 4 + 6 * b + 6) (n := 168 * t + 24 + 36 * b + 36) (by omega) (by omega) ?_
                        refine ri_iconst hx hb dL_areAlike_95 ?_
                        refine lv_goto (tgt := 100) hx hb dL_areAlike_96 (by decide) ?_
                        refine lv_istore_n (lv' := [(3, .int (iI 1)), (0, .ref (a 0)), (1, .ref (a2 0)), (2, .int (iI (t : Int))), (4, .int (iI (b : Int)))]) hx hb dL_areAlike_100 rfl hl (by decide) rfl (fun ls hl => ?_)
                        refine ri_iinc (lv' := [(4, .int (iI ((b : Int) + 1))), (3, .int (iI 1)), (0, .ref (a 0)), (1, .ref (a2 0)), (2, .int (iI (t : Int)))]) hx hb dL_areAlike_101 hl (k := 4) rfl (by decide) rfl (fun ls hl => ?_)
                        refine lv_goto (tgt := 42) hx hb dL_areAlike_104 (by decide) ?_
                        have h9 := ih2 (b + 1) (by omega) (by omega) _ _ hP hP2 hz hg3 hS ls (lv_sub hl [2, 3, 4, 1, 0] rfl)
                        rw [show 28 * t + 4 + 6 * (b + 1) = 28 * t + 4 + 6 * b + 6 by omega, show 168 * t + 24 + 36 * (b + 1) = 168 * t + 24 + 36 * b + 36 by omega] at h9
                        exact h9
                      · skip
                        refine lv_aload_n hx hb dL_areAlike_74 rfl (lv_at hl 0 rfl) ?_
                        refine lv_iload hx hb dL_areAlike_75 (lv_at hl 4 rfl) ?_
                        refine lv_iload_n hx hb dL_areAlike_77 rfl (lv_at hl 2 rfl) ?_
                        refine ri_bipush hx hb dL_areAlike_78 (by decide) ?_
                        refine ri_wz (v := dfR g (b : Int) (t : Int) 9) (PP := (fun H => va_P D vwCl (xW a kk (g)) H ∧ (H_8).size ≤ H.size ∧ (cmpA (b : Int) (t : Int) 9 ∧ ¬ g 3 (5 + (b : Int) * 5 + (t : Int)).toNat = 1 → (H_8).size + 1 ≤ H.size))) (vx_runSW (As := [.ref (a 0), .int (iI (b : Int)), .int (iI (t : Int)), .int (iI 9)]) (rest := []) CF (kL_differences l D a kk g sa (H_8).size hst (b : Int) (t : Int) 9 hA hI (by omega) (by omega) (by omega)) (vx_cwSW 4 hts gL_areAlike_L_differences rfl rfl rfl ⟨by decide +kernel, by decide +kernel, by decide +kernel⟩ ⟨(Nat.le_of_ble_eq_true rfl), (Nat.le_of_ble_eq_true rfl)⟩) ⟨Bl_pc qB_bl, fun U hU hW9 => ⟨rfl, qB_in hS (fun _ h => Or.inl h) hT hP hK hN hC (Nat.le_refl _) U hU hW9⟩⟩ rfl rfl hl.1 rfl (lv_room (Nat.le_of_ble_eq_true rfl)) dL_areAlike_80 ⟨(by show _ ≤ 140; omega), (by show _ ≤ 840; omega)⟩) hS (fun _ h => Or.inl h) (fun H_9 locs1 hB9 hz9 hk9 hS => ?_)
                        replace hP : va_P D vwCl (xW a kk (g)) H_9 := hB9.1
                        replace hP2 := hP2.un hk9 (x_un2 (ap_1 hAB))
                        replace hz := Nat.le_trans hz hz9
                        have hg1 : U01 g → N + grN t b + 1 ≤ H_9.size := fun u => Nat.le_trans (Nat.succ_le_succ (hg u)) (hB9.2.2 ⟨⟨by omega, by omega, by omega⟩, u _ _ (by omega) (by omega)⟩)
                        refine lv_aload_n hx hb dL_areAlike_83 rfl (lv_at hl 1 rfl) ?_
                        refine lv_iload hx hb dL_areAlike_84 (lv_at hl 4 rfl) ?_
                        refine lv_iload_n hx hb dL_areAlike_86 rfl (lv_at hl 2 rfl) ?_
                        refine ri_bipush hx hb dL_areAlike_87 (by decide) ?_
                        refine ri_wz (v := dfR g (b : Int) (t : Int) 9) (PP := (fun H => va_P D vwCl (xW a2 kk (g)) H ∧ (H_9).size ≤ H.size ∧ (cmpA (b : Int) (t : Int) 9 ∧ ¬ g 3 (5 + (b : Int) * 5 + (t : Int)).toNat = 1 → (H_9).size + 1 ≤ H.size))) (vx_runSW (As := [.ref (a2 0), .int (iI (b : Int)), .int (iI (t : Int)), .int (iI 9)]) (rest := [.int (iI (dfR g (b : Int) (t : Int) 9))]) CF (kL_differences l D a2 kk g sa (H_9).size hst (b : Int) (t : Int) 9 hA2 hI (by omega) (by omega) (by omega)) (vx_cwSW 4 hts gL_areAlike_L_differences rfl rfl rfl ⟨by decide +kernel, by decide +kernel, by decide +kernel⟩ ⟨(Nat.le_of_ble_eq_true rfl), (Nat.le_of_ble_eq_true rfl)⟩) ⟨Bl_pc qB_bl, fun U hU hW9 => ⟨rfl, qB_in hS (fun _ h => Or.inr h) hT hP2 hK hN hC (Nat.le_refl _) U hU hW9⟩⟩ rfl rfl hl.1 rfl (lv_room (Nat.le_of_ble_eq_true rfl)) dL_areAlike_89 ⟨(by show _ ≤ 140; omega), (by show _ ≤ 840; omega)⟩) hS (fun _ h => Or.inr h) (fun H_10 locs1 hB9 hz9 hk9 hS => ?_)
                        replace hP2 : va_P D vwCl (xW a2 kk (g)) H_10 := hB9.1
                        replace hP := hP.un hk9 (x_un2 (ap_2 hAB))
                        replace hz := Nat.le_trans hz hz9
                        have hg2 : U01 g → N + grN t b + 2 ≤ H_10.size := fun u => Nat.le_trans (Nat.succ_le_succ (hg1 u)) (hB9.2.2 ⟨⟨by omega, by omega, by omega⟩, u _ _ (by omega) (by omega)⟩)
                        refine ri_icmp_ne (tgt := 99) hx hb (by have h9 := dfR_r g (b : Int) (t : Int) 9; omega) dL_areAlike_92 (by decide) (fun h92 => ?_) (fun h92 => ?_)
                        · skip
                          exact absurd rfl h92
                        · skip
                          have hg3 : U01 g → N + grN t (b + 1) ≤ H_10.size := fun u => by have h9 := hg2 u; rw [grN_1 b (by omega)]; omega
                          refine W.widen (k := 28 * t + 4 + 6 * b + 6) (n := 168 * t + 24 + 36 * b + 36) (by omega) (by omega) ?_
                          refine ri_iconst hx hb dL_areAlike_95 ?_
                          refine lv_goto (tgt := 100) hx hb dL_areAlike_96 (by decide) ?_
                          refine lv_istore_n (lv' := [(3, .int (iI 1)), (0, .ref (a 0)), (1, .ref (a2 0)), (2, .int (iI (t : Int))), (4, .int (iI (b : Int)))]) hx hb dL_areAlike_100 rfl hl (by decide) rfl (fun ls hl => ?_)
                          refine ri_iinc (lv' := [(4, .int (iI ((b : Int) + 1))), (3, .int (iI 1)), (0, .ref (a 0)), (1, .ref (a2 0)), (2, .int (iI (t : Int)))]) hx hb dL_areAlike_101 hl (k := 4) rfl (by decide) rfl (fun ls hl => ?_)
                          refine lv_goto (tgt := 42) hx hb dL_areAlike_104 (by decide) ?_
                          have h9 := ih2 (b + 1) (by omega) (by omega) _ _ hP hP2 hz hg3 hS ls (lv_sub hl [2, 3, 4, 1, 0] rfl)
                          rw [show 28 * t + 4 + 6 * (b + 1) = 28 * t + 4 + 6 * b + 6 by omega, show 168 * t + 24 + 36 * (b + 1) = 168 * t + 24 + 36 * b + 36 by omega] at h9
                          exact h9
            refine W.widen (k := 28 * t + 4 + 6 * 0) (n := 168 * t + 24 + 36 * 0) (by omega) (by omega) ?_
            exact L42 5 0 (by omega) (by omega) _ _ hP hP2 hz hg hS ls (lv_sub hl [2, 3, 4, 1, 0] rfl)
  refine ri_iconst hx hb dL_areAlike_0 ?_
  refine lv_istore_n (lv' := [(2, .int (iI 0)), (0, .ref (a 0)), (1, .ref (a2 0))]) hx hb dL_areAlike_1 rfl hl (by decide) rfl (fun ls hl => ?_)
  exact L2 6 0 (by omega) (by omega) _ _ hP hP2 hz (fun _ => hz) hS ls (lv_sub hl [1, 2, 0] rfl)
