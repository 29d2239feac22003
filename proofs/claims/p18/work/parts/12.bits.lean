/-! ===== bits: the history, counting ones ===== -/
theorem iI_mod {x y : Int} (h : (x - y) % 4294967296 = 0) : iI x = iI y := by
  apply Int32.toBitVec_inj.1
  show BitVec.ofInt 32 x = BitVec.ofInt 32 y
  apply BitVec.eq_of_toNat_eq
  rw [BitVec.toNat_ofInt, BitVec.toNat_ofInt]
  congr 1
  omega
theorem iI_bv (x : Int) : (iI x).toBitVec.toNat = (x % 4294967296).toNat := by
  show (BitVec.ofInt 32 x).toNat = _
  rw [BitVec.toNat_ofInt]
  rfl
theorem wb_or_sum {a k : Nat} (b : Nat) (h : a < 2 ^ k) : nI (2 ^ k * b) ||| nI a = nI (2 ^ k * b + a) := by
  have e : nI (2 ^ k * b) ||| nI a = nI (2 ^ k * b ||| a) := by
    apply Int32.toBitVec_inj.1
    show BitVec.ofNat 32 (2 ^ k * b) ||| BitVec.ofNat 32 a = BitVec.ofNat 32 (2 ^ k * b ||| a)
    apply BitVec.eq_of_getLsbD_eq
    intro i hi
    simp [hi]
  rw [e, Nat.two_pow_add_eq_or_of_lt h]
theorem sh_x (x : Int) : iI x <<< (iI 1 &&& 31) = iI (2 * x) := by
  apply Int32.toBitVec_inj.1
  apply BitVec.eq_of_toNat_eq
  rw [pk_shl (iI x) (iI 1 &&& 31) 1 (by decide), iI_bv, iI_bv]
  omega
theorem or_b (x : Int) {b : Int} (h : b = 0 ∨ b = 1) : iI (2 * x) ||| iI b = iI (2 * x + b) := by
  have e1 : iI (2 * x) = nI (2 ^ 1 * (x % 2147483648).toNat) := by
    rw [iI_nI]
    exact iI_mod (by omega)
  have e2 : iI b = nI b.toNat := iI_nat (by omega)
  rw [e1, e2, wb_or_sum _ (show b.toNat < 2 ^ 1 by omega), iI_nI]
  exact iI_mod (by omega)
def p2 (n : Int) : Int := ((2 ^ n.toNat : Nat) : Int)
theorem sh_1N : ∀ n : Nat, n < 10 → iI 1 <<< (iI (n : Int) &&& 31) = iI ((2 ^ n : Nat) : Int) := by decide +kernel
theorem sh_1 {n : Int} (h : 0 ≤ n ∧ n < 10) : iI 1 <<< (iI n &&& 31) = iI (p2 n) := by
  have h1 := sh_1N n.toNat (by omega)
  rw [show ((n.toNat : Nat) : Int) = n by omega] at h1
  exact h1
/-- the changes in the last n + 1 bits of x, as a number -/
def chY (x : Int) (n : Int) : Int := ((((x % 4294967296).toNat ^^^ (x % 4294967296).toNat / 2) % 2 ^ n.toNat : Nat) : Int)
theorem chY_r (x : Int) {n : Int} (h : 0 ≤ n ∧ n < 10) : 0 ≤ chY x n ∧ chY x n ≤ 511 := by
  unfold chY
  have h1 : ((x % 4294967296).toNat ^^^ (x % 4294967296).toNat / 2) % 2 ^ n.toNat < 2 ^ n.toNat := Nat.mod_lt _ (Nat.two_pow_pos _)
  have h2 : (2 : Nat) ^ n.toNat ≤ 2 ^ 9 := Nat.pow_le_pow_right (by decide) (by omega)
  omega
theorem ch_low (x : Int) {n : Int} (h : 0 ≤ n ∧ n < 10) : (iI x ^^^ (iI x >>> (iI 1 &&& 31))) &&& iI (p2 n - 1) = iI (chY x n) := by
  have hp : (2 : Nat) ^ n.toNat ≤ 2 ^ 9 := Nat.pow_le_pow_right (by decide) (by omega)
  have hp0 : 0 < (2 : Nat) ^ n.toNat := Nat.two_pow_pos _
  have em : (iI (p2 n - 1)).toBitVec.toNat = 2 ^ n.toNat - 1 := by
    rw [iI_bv]
    unfold p2
    omega
  rw [pk_and _ n.toNat em, iI_nI]
  congr 1
  unfold chY
  congr 1
  have e1 : (iI x ^^^ (iI x >>> (iI 1 &&& 31))).toBitVec.toNat = (iI x).toBitVec.toNat ^^^ (iI x >>> (iI 1 &&& 31)).toBitVec.toNat := by
    show ((iI x).toBitVec ^^^ (iI x >>> (iI 1 &&& 31)).toBitVec).toNat = _
    rw [BitVec.toNat_xor]
  rw [e1, Nat.xor_mod_two_pow, Nat.xor_mod_two_pow, iI_bv]
  congr 1
  have e2 : (iI x >>> (iI 1 &&& 31)).toInt = (iI x).toInt >>> 1 := pk_shr (iI x) (iI 1 &&& 31) 1 (by decide)
  have e3 : (iI x >>> (iI 1 &&& 31)).toInt = if 2 * (iI x >>> (iI 1 &&& 31)).toBitVec.toNat < 2 ^ 32 then ((iI x >>> (iI 1 &&& 31)).toBitVec.toNat : Int) else ((iI x >>> (iI 1 &&& 31)).toBitVec.toNat : Int) - (2 ^ 32 : Nat) := BitVec.toInt_eq_toNat_cond _
  have e4 : (iI x).toInt = if 2 * (iI x).toBitVec.toNat < 2 ^ 32 then ((iI x).toBitVec.toNat : Int) else ((iI x).toBitVec.toNat : Int) - (2 ^ 32 : Nat) := BitVec.toInt_eq_toNat_cond _
  rw [iI_bv] at e4
  rw [Int.shiftRight_eq_div_pow] at e2
  have hw32 : (iI x >>> (iI 1 &&& 31)).toBitVec.toNat < 2 ^ 32 := (iI x >>> (iI 1 &&& 31)).toBitVec.isLt
  have hu32 : (x % 4294967296).toNat < 4294967296 := by omega
  generalize (iI x >>> (iI 1 &&& 31)).toBitVec.toNat = w at *
  generalize (iI x >>> (iI 1 &&& 31)).toInt = wi at *
  generalize (iI x).toInt = xi at *
  generalize (x % 4294967296).toNat = u at *
  have hu : u / 2 ≤ w ∧ (w - u / 2) % 2147483648 = 0 ∧ True := by
    refine ⟨?_, ?_, trivial⟩ <;> (split at e3 <;> split at e4 <;> omega)
  obtain ⟨h1, h2, -⟩ := hu
  obtain ⟨j, hj⟩ : ∃ j, w = u / 2 + 2 ^ n.toNat * j := by
    refine ⟨(w - u / 2) / 2147483648 * 2 ^ (31 - n.toNat), ?_⟩
    have e5 : (2 : Nat) ^ n.toNat * ((w - u / 2) / 2147483648 * 2 ^ (31 - n.toNat)) = (w - u / 2) / 2147483648 * (2 ^ n.toNat * 2 ^ (31 - n.toNat)) := by
      rw [Nat.mul_left_comm]
    rw [e5, ← Nat.pow_add, show n.toNat + (31 - n.toNat) = 31 by omega]
    omega
  rw [hj, Nat.add_mul_mod_self_left]
def us (x y : Int32) : Int32 := (x.toUInt32 >>> (y.toUInt32 &&& Int32.toUInt32 31)).toInt32
def bc1 (x : Int32) : Int32 := x - (us x 1 &&& 1431655765)
def bc2 (x : Int32) : Int32 := (x &&& 858993459) + (us x 2 &&& 858993459)
def bc3 (x : Int32) : Int32 := (x + us x 4) &&& 252645135
def bc4 (x : Int32) : Int32 := x + us x 8
def bc5 (x : Int32) : Int32 := x + us x 16
def bcF (x : Int32) : Int32 := bc5 (bc4 (bc3 (bc2 (bc1 x)))) &&& 63
/-- how many ones are among the last nine bits -/
def popc (y : Nat) : Int := ((y % 2 + y / 2 % 2 + y / 4 % 2 + y / 8 % 2 + y / 16 % 2 + y / 32 % 2 + y / 64 % 2 + y / 128 % 2 + y / 256 % 2 : Nat) : Int)
theorem bc_pop : ∀ n : Nat, n < 512 → bcF (iI (n : Int)) = iI (popc n) := by decide +kernel
/-- how often the last n results change -/
def chg (x n : Int) : Int := popc (chY x (n - 1)).toNat
section RIB
variable {p : Program} {l : Launch} {e : Env} {R : Room} {s : State} {m : MethodId} {args : Array Value} {below : List Frame} {meth : Method} {c : Code} {H : Heap} {locs : List Loc} {cells slots : Nat} {Q : State → Prop}
variable {cc : ByteArray} {pc : Nat} {ls : Array Slot} {rest : List Value}
theorem ri_rw {E : Int32} {y : Int} (h : E = iI y) (k : W p l e R s m args below meth c H locs cells slots Q (F0 m pc ls (.int (iI y) :: rest))) : W p l e R s m args below meth c H locs cells slots Q (F0 m pc ls (.int E :: rest)) := by rw [h]; exact k
/-- System.arraycopy of sixty-four ints within one array -/
def cpyI (f : Nat → Int) (sp dp : Nat) : Nat → Int := fun j => if dp ≤ j ∧ j < dp + 64 then f (sp + (j - dp)) else f j
theorem ri_copy {D : va_G} {cl : List vw_C} {tys : List (ClassId × FieldType)} {ws : va_W} {a : Nat} {A : Nat → Prop} {H0 : Heap} (hexec : p.tables.exec = Jvm.exec) (hb : c.code = cc) (hml : c.maxLocals = ls.size) {own : String} {index : Nat} (hown : s.vm.findClass own = some m.cls) (hlink : (Cond.methodLink own index arraycopyName).before args s = true) (hnat : (Cond.native arraycopyName).before args s = true) (hstat : (Cond.static arraycopyName).before args s = true) (hini : (Cond.initialized "java/lang/System").before args s = true)
    (hK : va_K D cl tys s) (hP : va_P D cl ws H) (hD : va_D A ws) (hS : va_S A H0 H locs) (q0 t0 : Nat) {cA : ClassId} {n : Nat} {f : Nat → Int} (ha : ws[q0]? = some (a, .inl (cA, n, .inl (fun j => iI (f j))))) (ht : tys[t0]? = some (cA, .int)) {sp dp : Int} (hs : 0 ≤ sp ∧ sp + 64 ≤ (n : Int)) (hd : 0 ≤ dp ∧ dp + 64 ≤ (n : Int)) (hn : n < 2147483648) (hframes : 1 ≤ R.frames) (hlocals : (rest.map fun v => v.category).sum + (nativeFrameWords "java/lang/System" "arraycopy" 5 + 11) ≤ R.locals) (hdg : decode cc pc = .ok (.invokestatic index, 3))
    (kk : ∀ (H1 : Heap) (locs1 : List Loc), va_P D cl (ws.set q0 (a, .inl (cA, n, .inl (fun j => iI (cpyI f sp.toNat dp.toNat j))))) H1 → va_S A H0 H1 locs1 → W p l e R s m args below meth c H1 locs1 cells slots Q (F0 m (pc + 3) ls rest)) : W p l e R s m args below meth c H locs cells slots Q (F0 m pc ls (.int (iI 64) :: .int (iI dp) :: .ref a :: .int (iI sp) :: .ref a :: rest)) := by
  have c64 : (iI 64).toNatClampNeg = 64 := iI_cl (by omega)
  have csp : (iI sp).toNatClampNeg = sp.toNat := iI_cl (by omega)
  have cdp : (iI dp).toNatClampNeg = dp.toNat := iI_cl (by omega)
  have neg : ∀ z : Int, (0 ≤ z ∧ z < 2147483648) → ¬ iI z < 0 := fun z hz q => by
    have h1 : iI z < iI 0 := q
    rw [iI_lt (by omega) (by omega)] at h1
    omega
  refine va_copyi hexec hb hml hown hlink hnat hstat hini hK hP hD hS q0 q0 t0 t0 ha ha ht ht rfl (neg sp (by omega)) (neg dp (by omega)) (neg 64 (by omega)) (by rw [c64, csp]; omega) (by rw [c64, cdp]; omega) (fun _ _ => rfl) hframes hlocals hdg (fun H1 locs1 h1 _ h3 => kk H1 locs1 ?_ h3)
  rw [c64, csp, cdp] at h1
  have e : (va_cpy (fun j => iI (f j)) (fun j => iI (f j)) sp.toNat dp.toNat 64) = (fun j => iI (cpyI f sp.toNat dp.toNat j)) := by
    funext j
    unfold va_cpy cpyI
    split <;> rfl
  rw [e] at h1
  exact h1
end RIB
/-! ===== what a writing leaves ===== -/
/-- behind System.arraycopy and held[..] = .. -/
def cpG (g : Nat → Nat → Int) (fr to : Int) : Nat → Nat → Int := updG (updG g 2 (cpyI (g 2) (fr * 64).toNat (to * 64).toNat)) 3 (updI (g 3) to.toNat (g 3 fr.toNat))
/-- behind Rectangles.put -/
def putR (g : Nat → Nat → Int) (t lf tp w h : Int) : Nat → Nat → Int := updG (updG (updG (updG g 1 (updI (g 1) t.toNat lf)) 2 (updI (g 2) t.toNat tp)) 3 (updI (g 3) t.toNat (lf + w))) 4 (updI (g 4) t.toNat (tp + h))
/-- .. of the parts (n = 4), of the masks (n = 9) -/
def putX (n : Nat) (g : Nat → Nat → Int) (t lf tp w h : Int) : Nat → Nat → Int := updG (updG (updG (updG g (n + 1) (updI (g (n + 1)) t.toNat lf)) (n + 2) (updI (g (n + 2)) t.toNat tp)) (n + 3) (updI (g (n + 3)) t.toNat (lf + w))) (n + 4) (updI (g (n + 4)) t.toNat (tp + h))
/-- behind Histories.add -/
def hisG (g : Nat → Nat → Int) (t v : Int) : Nat → Nat → Int := updG (updG g 15 (updI (g 15) t.toNat (2 * g 15 t.toNat + v))) 16 (updI (g 16) t.toNat (min (g 16 t.toNat + 1) 10))
theorem aA_sub {a : Nat → Nat} (n : Nat) (hn : n + 5 ≤ 17) : ∀ q, aA 5 (fun i => a (n + i)) q → aA 17 a q := fun q ⟨k, hk, e⟩ => ⟨n + k, by omega, e⟩
theorem x_pj4 {D : va_G} {a : Nat → Nat} {kk : Nat → ClassId} {g f : Nat → Nat → Int} {H H1 : Heap} (hA : aDs 17 a) (hP : va_P D vwCl (xW a kk g) H) (h1 : va_P D vwCl (rW (fun i => a (4 + i)) kk f) H1) (hk : ∀ q : Nat, q < H.size → ¬ aA 5 (fun i => a (4 + i)) q → H1[q]? = H[q]?) : va_P D vwCl (xW a kk (updG (updG (updG (updG g 5 (f 1)) 6 (f 2)) 7 (f 3)) 8 (f 4))) H1 := by
  have keep : ∀ (k : Nat) (q : Nat × va_E), k < 17 → ¬ (4 ≤ k ∧ k < 9) → (xW a kk g)[k]? = some q → q.1 = a k → va_at D vwCl q H1 := fun k q hk17 hn hq he => (hP k q hq).kept (hk q.1 (hP k q hq).lt (fun ⟨i, hi, ei⟩ => by have h9 := hA k (4 + i) hk17 (by omega) (he.symm.trans ei); omega))
  intro k q hq
  match k, hq with
  | 0, hq => exact keep 0 q (by omega) (by omega) hq (by cases hq; rfl)
  | 1, hq => exact keep 1 q (by omega) (by omega) hq (by cases hq; rfl)
  | 2, hq => exact keep 2 q (by omega) (by omega) hq (by cases hq; rfl)
  | 3, hq => exact keep 3 q (by omega) (by omega) hq (by cases hq; rfl)
  | 4, hq => exact h1 0 q hq
  | 5, hq => exact h1 1 q hq
  | 6, hq => exact h1 2 q hq
  | 7, hq => exact h1 3 q hq
  | 8, hq => exact h1 4 q hq
  | 9, hq => exact keep 9 q (by omega) (by omega) hq (by cases hq; rfl)
  | 10, hq => exact keep 10 q (by omega) (by omega) hq (by cases hq; rfl)
  | 11, hq => exact keep 11 q (by omega) (by omega) hq (by cases hq; rfl)
  | 12, hq => exact keep 12 q (by omega) (by omega) hq (by cases hq; rfl)
  | 13, hq => exact keep 13 q (by omega) (by omega) hq (by cases hq; rfl)
  | 14, hq => exact keep 14 q (by omega) (by omega) hq (by cases hq; rfl)
  | 15, hq => exact keep 15 q (by omega) (by omega) hq (by cases hq; rfl)
  | 16, hq => exact keep 16 q (by omega) (by omega) hq (by cases hq; rfl)
  | n + 17, hq => cases hq
theorem x_pj9 {D : va_G} {a : Nat → Nat} {kk : Nat → ClassId} {g f : Nat → Nat → Int} {H H1 : Heap} (hA : aDs 17 a) (hP : va_P D vwCl (xW a kk g) H) (h1 : va_P D vwCl (rW (fun i => a (9 + i)) kk f) H1) (hk : ∀ q : Nat, q < H.size → ¬ aA 5 (fun i => a (9 + i)) q → H1[q]? = H[q]?) : va_P D vwCl (xW a kk (updG (updG (updG (updG g 10 (f 1)) 11 (f 2)) 12 (f 3)) 13 (f 4))) H1 := by
  have keep : ∀ (k : Nat) (q : Nat × va_E), k < 17 → ¬ (9 ≤ k ∧ k < 14) → (xW a kk g)[k]? = some q → q.1 = a k → va_at D vwCl q H1 := fun k q hk17 hn hq he => (hP k q hq).kept (hk q.1 (hP k q hq).lt (fun ⟨i, hi, ei⟩ => by have h9 := hA k (9 + i) hk17 (by omega) (he.symm.trans ei); omega))
  intro k q hq
  match k, hq with
  | 0, hq => exact keep 0 q (by omega) (by omega) hq (by cases hq; rfl)
  | 1, hq => exact keep 1 q (by omega) (by omega) hq (by cases hq; rfl)
  | 2, hq => exact keep 2 q (by omega) (by omega) hq (by cases hq; rfl)
  | 3, hq => exact keep 3 q (by omega) (by omega) hq (by cases hq; rfl)
  | 4, hq => exact keep 4 q (by omega) (by omega) hq (by cases hq; rfl)
  | 5, hq => exact keep 5 q (by omega) (by omega) hq (by cases hq; rfl)
  | 6, hq => exact keep 6 q (by omega) (by omega) hq (by cases hq; rfl)
  | 7, hq => exact keep 7 q (by omega) (by omega) hq (by cases hq; rfl)
  | 8, hq => exact keep 8 q (by omega) (by omega) hq (by cases hq; rfl)
  | 9, hq => exact h1 0 q hq
  | 10, hq => exact h1 1 q hq
  | 11, hq => exact h1 2 q hq
  | 12, hq => exact h1 3 q hq
  | 13, hq => exact h1 4 q hq
  | 14, hq => exact keep 14 q (by omega) (by omega) hq (by cases hq; rfl)
  | 15, hq => exact keep 15 q (by omega) (by omega) hq (by cases hq; rfl)
  | 16, hq => exact keep 16 q (by omega) (by omega) hq (by cases hq; rfl)
  | n + 17, hq => cases hq
/-! ===== throwing: what it finds, and the two checks ===== -/
def iaE : String := "java/lang/IllegalArgumentException"
def isE : String := "java/lang/IllegalStateException"
abbrev xcN : List String := ["java/lang/RuntimeException", "java/lang/Exception"]
def dcl (n : String) : Cond := .declares ⟨n, "<init>", "(Ljava/lang/String;)V"⟩
/-- Throwable's two statics lie outside A; the three texts; what the tables say of the exceptions' classes -/
def tX (sa : Nat → Nat) (A : Nat → Prop) (U : State) : Prop := vx_Zq Bundle.tN "UNASSIGNED_STACK" Bundle.steD A U U.heap ∧ vx_Zq Bundle.tN "SUPPRESSED_SENTINEL" Bundle.listD A U U.heap ∧
  vk_R RX3 143 "an argument is out of range" (sa 0) U ∧ vk_R RX3 79 "the test has no part" (sa 1) U ∧ vk_R RX3 146 "there is no approved picture" (sa 2) U ∧
  va_Nw (dcl "java/lang/RuntimeException") U ∧ va_Nw (dcl "java/lang/Exception") U ∧ va_Nw (dcl "java/lang/Throwable") U ∧ va_Nw (.castable "java/lang/IllegalArgumentException" "java/lang/IllegalArgumentException") U ∧ va_Nw (.castable "java/lang/IllegalStateException" "java/lang/IllegalStateException") U
theorem tX_bl {sa : Nat → Nat} {A : Nat → Prop} : Bl (tX sa A) := fun U g mk a h => ⟨vx_Zq.moved (u := U) (U := U.calling g mk a) (Vm.Alike.refl U.vm) h.1, vx_Zq.moved (u := U) (U := U.calling g mk a) (Vm.Alike.refl U.vm) h.2.1, vk_R.same rfl h.2.2.1, vk_R.same rfl h.2.2.2.1, vk_R.same rfl h.2.2.2.2.1, va_Nw.same rfl rfl h.2.2.2.2.2.1, va_Nw.same rfl rfl h.2.2.2.2.2.2.1, va_Nw.same rfl rfl h.2.2.2.2.2.2.2.1, va_Nw.same rfl rfl h.2.2.2.2.2.2.2.2.1, va_Nw.same rfl rfl h.2.2.2.2.2.2.2.2.2⟩
theorem tX_in {sa : Nat → Nat} {A B : Nat → Prop} {s : State} {H : Heap} {locs : List Loc} (hS : va_S A s.heap H locs) (hAB : ∀ q, B q → A q) (h : tX sa A s) : ∀ U : State, U.heap = H → s.WarmedH U.vm → tX sa B U := fun U hU hW =>
  ⟨by rw [hU]; exact vx_Zq.narrow (vx_Zq.moved hW.alike (h.1.kept hS.2.1)) hAB, by rw [hU]; exact vx_Zq.narrow (vx_Zq.moved hW.alike (h.2.1.kept hS.2.1)) hAB, vk_R.warm hW h.2.2.1, vk_R.warm hW h.2.2.2.1, vk_R.warm hW h.2.2.2.2.1, va_Nw.warmD hW h.2.2.2.2.2.1, va_Nw.warmD hW h.2.2.2.2.2.2.1, va_Nw.warmD hW h.2.2.2.2.2.2.2.1, va_Nw.warmC hW h.2.2.2.2.2.2.2.2.1, va_Nw.warmC hW h.2.2.2.2.2.2.2.2.2⟩
theorem tX_hatA {args : Array Value} {s : State} {sa : Nat → Nat} {A : Nat → Prop} (h1 : ∀ w ∈ (vx_atS RX3 145 "java/lang/IllegalArgumentException" ["java/lang/RuntimeException", "java/lang/Exception"]).filter goodWord, w.before args s = true) (h : tX sa A s) : ∀ w ∈ vx_atS RX3 145 "java/lang/IllegalArgumentException" ["java/lang/RuntimeException", "java/lang/Exception"], w.before args s = true :=
  vx_hat (B := [dcl "java/lang/RuntimeException", dcl "java/lang/Exception", dcl "java/lang/Throwable", .castable "java/lang/IllegalArgumentException" "java/lang/IllegalArgumentException"]) h1 (by decide +kernel) (vx_c (va_Nw.use rfl h.2.2.2.2.2.1) (vx_c (va_Nw.use rfl h.2.2.2.2.2.2.1) (vx_c (va_Nw.use rfl h.2.2.2.2.2.2.2.1) (vx_c (va_Nw.use rfl h.2.2.2.2.2.2.2.2.1) vx_n))))
theorem tX_hatS {args : Array Value} {s : State} {sa : Nat → Nat} {A : Nat → Prop} (h1 : ∀ w ∈ (vx_atS RX3 81 "java/lang/IllegalStateException" ["java/lang/RuntimeException", "java/lang/Exception"]).filter goodWord, w.before args s = true) (h : tX sa A s) : ∀ w ∈ vx_atS RX3 81 "java/lang/IllegalStateException" ["java/lang/RuntimeException", "java/lang/Exception"], w.before args s = true :=
  vx_hat (B := [dcl "java/lang/RuntimeException", dcl "java/lang/Exception", dcl "java/lang/Throwable", .castable "java/lang/IllegalStateException" "java/lang/IllegalStateException"]) h1 (by decide +kernel) (vx_c (va_Nw.use rfl h.2.2.2.2.2.1) (vx_c (va_Nw.use rfl h.2.2.2.2.2.2.1) (vx_c (va_Nw.use rfl h.2.2.2.2.2.2.2.1) (vx_c (va_Nw.use rfl h.2.2.2.2.2.2.2.2.2) vx_n))))
theorem tX_goodA (ik : Nat) : ∀ w ∈ Cond.classLink RX3 ik "java/lang/IllegalArgumentException" :: Cond.initialized "java/lang/IllegalArgumentException" :: vx_atS RX3 145 "java/lang/IllegalArgumentException" ["java/lang/RuntimeException", "java/lang/Exception"], vx_ot w = true :=
  List.forall_mem_cons.mpr ⟨rfl, List.forall_mem_cons.mpr ⟨rfl, by decide +kernel⟩⟩
theorem tX_goodS (ik : Nat) : ∀ w ∈ Cond.classLink RX3 ik "java/lang/IllegalStateException" :: Cond.initialized "java/lang/IllegalStateException" :: vx_atS RX3 81 "java/lang/IllegalStateException" ["java/lang/RuntimeException", "java/lang/Exception"], vx_ot w = true :=
  List.forall_mem_cons.mpr ⟨rfl, List.forall_mem_cons.mpr ⟨rfl, by decide +kernel⟩⟩
section RIX
variable {p : Program} {l : Launch} {e : Env} {R : Room} {s : State} {m : MethodId} {args : Array Value} {below : List Frame} {meth : Method} {c : Code} {H : Heap} {locs : List Loc} {cells slots : Nat} {Q : State → Prop}
variable {cc : ByteArray} {pc : Nat} {ls : Array Slot} {rest : List Value}
variable {Ts ws : List Cond} {bytes : ByteArray} {nL maxL index n mc ms : Nat} {own C : String} {y : MethodName} {ret : Option FieldType} {rm : Room} {B : State → Prop} {b : Addr} {As stk st0 : List Value} {v : Int} {A A0 : Nat → Prop} {H0 : Heap} {a : Array Value} {ok : Prop} {E E2 : String → Prop}
/-- a static callee that may throw -/
theorem ri_runSX {Qc : Array Value → State → Outcome → State → Prop} {XC : String → State → State → Prop} {free : Addr → Prop} (CF : CallFix p m c cc nL s args Ts own) (hM : vx_Met l y ws rm (va_Pc As B) Qc XC mc ms free) (hG : GoodIn Ts (va_wsS own index y ws)) (hF : MF y ws bytes maxL ret n) (hrm : RmOk rm R maxL mc ms cells slots) (hbl : Bl B) (hB : ∀ U : State, U.heap = H → s.WarmedH U.vm → B U) (hn : As.length = n) (hsz : ls.size = nL) (hst : stk = As.reverse ++ rest) (hr : (rest.map fun v => v.category).sum ≤ 8) (hdg : decode cc pc = .ok (.invokestatic index, 3)) :
    vx_Run p l e R s m args below meth c H locs cells slots mc ms (F0 m pc ls stk) rest (Qc As.toArray) XC free := by
  obtain ⟨⟨ws', hw⟩, h1, h2, h3⟩ := hF
  exact vx_runS CF hM (va_cwS n CF.2.2.2.2 hG hw hrm.1 hrm.2.1 ⟨h1, h2, h3⟩ ⟨hrm.2.2.1, hrm.2.2.2.1⟩) ⟨Bl_pc hbl, fun U hU hW => ⟨rfl, hB U hU hW⟩⟩ rfl hn hsz hst (lv_room hr) hdg hrm.2.2.2.2
theorem ri_runVX {Qc : Array Value → State → Outcome → State → Prop} {XC : String → State → State → Prop} {free : Addr → Prop} (CF : CallFix p m c cc nL s args Ts own) (hM : vx_Met l y ws rm (va_Pc (.ref b :: As) B) Qc XC mc ms free) (hG : GoodIn Ts (wsV own index C y ws)) (hF : MF y ws bytes maxL ret n) (hC : y.cls = C) (hrec : ∃ cellB : Cell, H[b]? = some cellB ∧ cellB.vm.isStatics = false ∧ s.vm.findClass C = some cellB.cls) (hrm : RmOk rm R maxL mc ms cells slots) (hbl : Bl B) (hB : ∀ U : State, U.heap = H → s.WarmedH U.vm → B U) (hn : As.length = n) (hsz : ls.size = nL) (hst : stk = As.reverse ++ .ref b :: rest) (hr : (rest.map fun v => v.category).sum ≤ 8) (hdg : decode cc pc = .ok (.invokevirtual index, 3)) :
    vx_Run p l e R s m args below meth c H locs cells slots mc ms (F0 m pc ls stk) rest (Qc (Value.ref b :: As).toArray) XC free := by
  obtain ⟨⟨ws', hw⟩, h1, h2, h3⟩ := hF
  exact vx_runV CF hM (cwV n CF.2.2.2.2 hG hw hrm.1 hrm.2.1 ⟨hC, h1, h2, h3⟩ ⟨hrm.2.2.1, hrm.2.2.2.1⟩) ⟨Bl_pc hbl, hrec, fun U hU hW => ⟨rfl, hB U hU hW⟩⟩ rfl hn hsz hst (lv_room hr) hdg hrm.2.2.2.2
/-- behind a check: it returned, nothing has changed; or it has thrown, and the caller throws that on (nothing was written before) -/
theorem ri_chk {Qc : Array Value → State → Outcome → State → Prop} {free : Addr → Prop} {kc ks : Nat} (hr : vx_Run p l e R s m args below meth c s.heap locs cells slots mc ms (F0 m pc ls st0) rest (va_Qv (fun _ : Unit => ok) (fun _ t => t.heap = s.heap) (fun _ => False) a) (vx_X (fun _ : Unit => True) (fun X _ _ => E X) (fun _ => False)) (fun _ => False)) (hS : va_S A s.heap s.heap locs) (hE : ∀ X, E X → E2 X) (hxt : ∀ x ∈ c.exceptionTable.toList, False) (hlocks : meth.locks = false) (hf : ∀ q, A q → free q) (hc : cells + mc ≤ kc) (hs : slots + ms ≤ ks)
    (kk : ∀ locs1 : List Loc, ok → va_S A s.heap s.heap locs1 → W p l e R s m args below meth c s.heap locs1 (cells + mc) (slots + ms) (vx_MQ below Qc (vx_X (fun _ : Unit => True) (fun X _ _ => E2 X) (fun _ => False)) args s kc ks free) (F0 m (pc + 3) ls rest)) : W p l e R s m args below meth c s.heap locs cells slots (vx_MQ below Qc (vx_X (fun _ : Unit => True) (fun X _ _ => E2 X) (fun _ => False)) args s kc ks free) (F0 m pc ls st0) :=
  vx_callv hr hS (fun _ _ h => h.elim) (fun _ h => h.elim) (fun _ _ h => h.elim)
    (fun X ce q9 _ t H1 locs1 ht hvm _ hB hz hk hS1 hce hcv hcl => vx_out (fun x hx => (hxt x hx).elim) hlocks hce hcv hcl (fun t2 ht2 _ => ⟨(), trivial, hE X hB, by rw [ht2]; exact hz, fun q h1 h2 => by rw [ht2]; exact hk q h1 (fun z => z)⟩) (fun z hz2 => hf _ (hS1.2.2 z hz2)) hc hs)
    (fun _ t H1 locs1 ht _ hp hB _ _ hS1 => by
      have e : H1 = s.heap := ht.symm.trans hB
      subst e
      exact kk locs1 hp hS1)
end RIX
