/-! ===== the worlds: the class's seventeen cells, the reference's eight ===== -/
/-- the arrays' classes: int, boolean, long -/
def TY (kk : Nat → ClassId) : List (ClassId × FieldType) := [(kk 0, .int), (kk 1, .boolean)]
/-- the class: 0 itself, 1 pictures (2 shades, 3 held), 4 parts (5 lefts .. 8 bottoms), 9 masks (10 .. 13), 14 histories (15 results, 16 lengths); g n: what the array n holds -/
def xW (a : Nat → Nat) (kk : Nat → ClassId) (g : Nat → Nat → Int) : va_W := [(a 0, .inr (3, [.ref (a 1), .ref (a 4), .ref (a 9), .ref (a 14)])), (a 1, .inr (1, [.ref (a 2), .ref (a 3)])), (a 2, .inl (kk 0, 2880, .inl (fun j => iI (g 2 j)))), (a 3, .inl (kk 1, 45, .inl (fun j => iI (g 3 j)))),
  (a 4, .inr (2, [.ref (a 5), .ref (a 6), .ref (a 7), .ref (a 8)])), (a 5, .inl (kk 0, 5, .inl (fun j => iI (g 5 j)))), (a 6, .inl (kk 0, 5, .inl (fun j => iI (g 6 j)))), (a 7, .inl (kk 0, 5, .inl (fun j => iI (g 7 j)))), (a 8, .inl (kk 0, 5, .inl (fun j => iI (g 8 j)))),
  (a 9, .inr (2, [.ref (a 10), .ref (a 11), .ref (a 12), .ref (a 13)])), (a 10, .inl (kk 0, 5, .inl (fun j => iI (g 10 j)))), (a 11, .inl (kk 0, 5, .inl (fun j => iI (g 11 j)))), (a 12, .inl (kk 0, 5, .inl (fun j => iI (g 12 j)))), (a 13, .inl (kk 0, 5, .inl (fun j => iI (g 13 j)))),
  (a 14, .inr (0, [.ref (a 15), .ref (a 16)])), (a 15, .inl (kk 0, 5, .inl (fun j => iI (g 15 j)))), (a 16, .inl (kk 0, 5, .inl (fun j => iI (g 16 j))))]
/-- a Rectangles alone: 0 itself, 1 lefts, 2 tops, 3 rights, 4 bottoms -/
def rW (a : Nat → Nat) (kk : Nat → ClassId) (g : Nat → Nat → Int) : va_W := [(a 0, .inr (2, [.ref (a 1), .ref (a 2), .ref (a 3), .ref (a 4)])), (a 1, .inl (kk 0, 5, .inl (fun j => iI (g 1 j)))), (a 2, .inl (kk 0, 5, .inl (fun j => iI (g 2 j)))), (a 3, .inl (kk 0, 5, .inl (fun j => iI (g 3 j)))), (a 4, .inl (kk 0, 5, .inl (fun j => iI (g 4 j))))]
/-- the reference: 0 itself (g 0: its numbers, by the fields' places), 1 pictures, 2 kept, 3 isKept, 4 parts, 5 masks, 6 results, 7 many -/
def mW (a : Nat → Nat) (kk : Nat → ClassId) (g : Nat → Nat → Int) : va_W := [(a 0, .inr (4, [.int (iI (g 0 0)), .ref (a 1), .ref (a 2), .ref (a 3), .ref (a 4), .ref (a 5), .ref (a 6), .ref (a 7), .int (iI (g 0 8)), .int (iI (g 0 9))])), (a 1, .inl (kk 0, 320, .inl (fun j => iI (g 1 j)))), (a 2, .inl (kk 0, 2240, .inl (fun j => iI (g 2 j)))), (a 3, .inl (kk 1, 35, .inl (fun j => iI (g 3 j)))),
  (a 4, .inl (kk 0, 20, .inl (fun j => iI (g 4 j)))), (a 5, .inl (kk 0, 20, .inl (fun j => iI (g 5 j)))), (a 6, .inl (kk 0, 50, .inl (fun j => iI (g 6 j)))), (a 7, .inl (kk 0, 5, .inl (fun j => iI (g 7 j))))]
def aA (n : Nat) (a : Nat → Nat) : Nat → Prop := fun q => ∃ k, k < n ∧ q = a k
def aDs (n : Nat) (a : Nat → Nat) : Prop := ∀ i j, i < n → j < n → a i = a j → i = j
theorem aD_of {n : Nat} {a : Nat → Nat} {ws : va_W} (hw : ws.map Prod.fst = (List.range n).map a) (h : aDs n a) : va_D (aA n a) ws := by
  have key : ∀ (k : Nat) (q : Nat × va_E), ws[k]? = some q → k < n ∧ q.1 = a k := by
    intro k q hq
    have h1 : (ws.map Prod.fst)[k]? = some q.1 := by rw [List.getElem?_map, hq]; rfl
    rw [hw, List.getElem?_map] at h1
    rcases Nat.lt_or_ge k n with hk | hk
    · rw [List.getElem?_range hk] at h1
      exact ⟨hk, (Option.some.inj h1).symm⟩
    · rw [List.getElem?_eq_none (by rw [List.length_range]; exact hk)] at h1
      cases h1
  refine ⟨fun i j p q hi hj hpq => ?_, fun k q hq => ⟨k, (key k q hq).1, (key k q hq).2⟩⟩
  obtain ⟨h1, h2⟩ := key i p hi
  obtain ⟨h3, h4⟩ := key j q hj
  exact h i j h1 h3 (by rw [← h2, ← h4]; exact hpq)
theorem xD {a : Nat → Nat} {kk : Nat → ClassId} {g : Nat → Nat → Int} (h : aDs 17 a) : va_D (aA 17 a) (xW a kk g) := aD_of rfl h
theorem mD {a : Nat → Nat} {kk : Nat → ClassId} {g : Nat → Nat → Int} (h : aDs 8 a) : va_D (aA 8 a) (mW a kk g) := aD_of rfl h
theorem rD {a : Nat → Nat} {kk : Nat → ClassId} {g : Nat → Nat → Int} (h : aDs 5 a) : va_D (aA 5 a) (rW a kk g) := aD_of rfl h
/-- the words of the class's private members that another of its classes calls -/
def xN (U : State) : Prop := va_Nw (.methodLinkNest RX0 18 yX3_isTest RX3) U ∧ va_Nw (.methodLinkNest RX1 19 yX3_isWithin RX3) U ∧ va_Nw (.methodLinkNest RX1 27 yX3_isCell RX3) U ∧ va_Nw (.methodLinkNest RX2 24 yX3_isTest RX3) U ∧ va_Nw (.methodLinkNest RX3 18 yX2_init RX3) U ∧ va_Nw (.methodLinkNest RX3 28 yX0_init RX3) U
theorem xN_bl : Bl xN := fun U g mk a h => ⟨va_Nw.same rfl rfl h.1, va_Nw.same rfl rfl h.2.1, va_Nw.same rfl rfl h.2.2.1, va_Nw.same rfl rfl h.2.2.2.1, va_Nw.same rfl rfl h.2.2.2.2.1, va_Nw.same rfl rfl h.2.2.2.2.2⟩
theorem xN_warm {s U : State} (hW : s.WarmedH U.vm) (h : xN s) : xN U := ⟨va_Nw.warmM hW h.1, va_Nw.warmM hW h.2.1, va_Nw.warmM hW h.2.2.1, va_Nw.warmM hW h.2.2.2.1, va_Nw.warmM hW h.2.2.2.2.1, va_Nw.warmM hW h.2.2.2.2.2⟩
def tB (_ : State) : Prop := True
theorem tB_bl : Bl tB := fun _ _ _ _ h => h
theorem tB_in {s : State} {H : Heap} : ∀ U : State, U.heap = H → s.WarmedH U.vm → tB U := fun _ _ _ => trivial
theorem nB_in {s : State} {H : Heap} (h : xN s) : ∀ U : State, U.heap = H → s.WarmedH U.vm → xN U := fun _ _ hW => xN_warm hW h
/-- what a method finds: its world ws, the classes, the words between nest mates -/
def wB (D : va_G) (kk : Nat → ClassId) (ws : va_W) (U : State) : Prop := va_P D vwCl ws U.heap ∧ va_K D vwCl (TY kk) U ∧ xN U
theorem wB_bl {D : va_G} {kk : Nat → ClassId} {ws : va_W} : Bl (wB D kk ws) := fun U g mk a h => ⟨h.1, va_K.moved (u := U) (U := U.calling g mk a) (Vm.Alike.refl U.vm) h.2.1, xN_bl U g mk a h.2.2⟩
theorem wB_in {D : va_G} {kk : Nat → ClassId} {ws : va_W} {s : State} {H : Heap} (hP : va_P D vwCl ws H) (hK : va_K D vwCl (TY kk) s) (hN : xN s) : ∀ U : State, U.heap = H → s.WarmedH U.vm → wB D kk ws U := fun U hU hW => ⟨by rw [hU]; exact hP, va_K.moved hW.alike hK, xN_warm hW hN⟩
theorem x_parts {D : va_G} {a : Nat → Nat} {kk : Nat → ClassId} {g : Nat → Nat → Int} {H : Heap} (h : va_P D vwCl (xW a kk g) H) : va_P D vwCl (rW (fun i => a (4 + i)) kk (fun i => g (4 + i))) H := h.sub [4, 5, 6, 7, 8] rfl
theorem x_masks {D : va_G} {a : Nat → Nat} {kk : Nat → ClassId} {g : Nat → Nat → Int} {H : Heap} (h : va_P D vwCl (xW a kk g) H) : va_P D vwCl (rW (fun i => a (9 + i)) kk (fun i => g (9 + i))) H := h.sub [9, 10, 11, 12, 13] rfl
/-! writing a cell of an array -/
theorem xS {D : va_G} {a : Nat → Nat} {kk : Nat → ClassId} {g : Nat → Nat → Int} {H : Heap} {f : Nat → Int} :
    (va_P D vwCl ((xW a kk g).set 2 (a 2, .inl (kk 0, 2880, .inl (fun j => iI (f j))))) H → va_P D vwCl (xW a kk (updG g 2 f)) H) ∧
    (va_P D vwCl ((xW a kk g).set 3 (a 3, .inl (kk 1, 45, .inl (fun j => iI (f j))))) H → va_P D vwCl (xW a kk (updG g 3 f)) H) ∧
    (va_P D vwCl ((xW a kk g).set 15 (a 15, .inl (kk 0, 5, .inl (fun j => iI (f j))))) H → va_P D vwCl (xW a kk (updG g 15 f)) H) ∧
    (va_P D vwCl ((xW a kk g).set 16 (a 16, .inl (kk 0, 5, .inl (fun j => iI (f j))))) H → va_P D vwCl (xW a kk (updG g 16 f)) H) := ⟨fun h => h, fun h => h, fun h => h, fun h => h⟩
theorem rS {D : va_G} {a : Nat → Nat} {kk : Nat → ClassId} {g : Nat → Nat → Int} {H : Heap} {f : Nat → Int} :
    (va_P D vwCl ((rW a kk g).set 1 (a 1, .inl (kk 0, 5, .inl (fun j => iI (f j))))) H → va_P D vwCl (rW a kk (updG g 1 f)) H) ∧
    (va_P D vwCl ((rW a kk g).set 2 (a 2, .inl (kk 0, 5, .inl (fun j => iI (f j))))) H → va_P D vwCl (rW a kk (updG g 2 f)) H) ∧
    (va_P D vwCl ((rW a kk g).set 3 (a 3, .inl (kk 0, 5, .inl (fun j => iI (f j))))) H → va_P D vwCl (rW a kk (updG g 3 f)) H) ∧
    (va_P D vwCl ((rW a kk g).set 4 (a 4, .inl (kk 0, 5, .inl (fun j => iI (f j))))) H → va_P D vwCl (rW a kk (updG g 4 f)) H) := ⟨fun h => h, fun h => h, fun h => h, fun h => h⟩
theorem mS {D : va_G} {a : Nat → Nat} {kk : Nat → ClassId} {g : Nat → Nat → Int} {H : Heap} {f : Nat → Int} :
    (va_P D vwCl ((mW a kk g).set 1 (a 1, .inl (kk 0, 320, .inl (fun j => iI (f j))))) H → va_P D vwCl (mW a kk (updG g 1 f)) H) ∧
    (va_P D vwCl ((mW a kk g).set 2 (a 2, .inl (kk 0, 2240, .inl (fun j => iI (f j))))) H → va_P D vwCl (mW a kk (updG g 2 f)) H) ∧
    (va_P D vwCl ((mW a kk g).set 3 (a 3, .inl (kk 1, 35, .inl (fun j => iI (f j))))) H → va_P D vwCl (mW a kk (updG g 3 f)) H) ∧
    (va_P D vwCl ((mW a kk g).set 4 (a 4, .inl (kk 0, 20, .inl (fun j => iI (f j))))) H → va_P D vwCl (mW a kk (updG g 4 f)) H) ∧
    (va_P D vwCl ((mW a kk g).set 5 (a 5, .inl (kk 0, 20, .inl (fun j => iI (f j))))) H → va_P D vwCl (mW a kk (updG g 5 f)) H) ∧
    (va_P D vwCl ((mW a kk g).set 6 (a 6, .inl (kk 0, 50, .inl (fun j => iI (f j))))) H → va_P D vwCl (mW a kk (updG g 6 f)) H) ∧
    (va_P D vwCl ((mW a kk g).set 7 (a 7, .inl (kk 0, 5, .inl (fun j => iI (f j))))) H → va_P D vwCl (mW a kk (updG g 7 f)) H) := ⟨fun h => h, fun h => h, fun h => h, fun h => h, fun h => h, fun h => h, fun h => h⟩
theorem mF0 {D : va_G} {a : Nat → Nat} {kk : Nat → ClassId} {g : Nat → Nat → Int} {H : Heap} {v : Int} (h : va_P D vwCl ((mW a kk g).set 0 (a 0, .inr (4, [.int (iI v), .ref (a 1), .ref (a 2), .ref (a 3), .ref (a 4), .ref (a 5), .ref (a 6), .ref (a 7), .int (iI (g 0 8)), .int (iI (g 0 9))]))) H) : va_P D vwCl (mW a kk (updG g 0 (updI (g 0) 0 v))) H := h
theorem mF8 {D : va_G} {a : Nat → Nat} {kk : Nat → ClassId} {g : Nat → Nat → Int} {H : Heap} {v : Int} (h : va_P D vwCl ((mW a kk g).set 0 (a 0, .inr (4, [.int (iI (g 0 0)), .ref (a 1), .ref (a 2), .ref (a 3), .ref (a 4), .ref (a 5), .ref (a 6), .ref (a 7), .int (iI v), .int (iI (g 0 9))]))) H) : va_P D vwCl (mW a kk (updG g 0 (updI (g 0) 8 v))) H := h
theorem mF9 {D : va_G} {a : Nat → Nat} {kk : Nat → ClassId} {g : Nat → Nat → Int} {H : Heap} {v : Int} (h : va_P D vwCl ((mW a kk g).set 0 (a 0, .inr (4, [.int (iI (g 0 0)), .ref (a 1), .ref (a 2), .ref (a 3), .ref (a 4), .ref (a 5), .ref (a 6), .ref (a 7), .int (iI (g 0 8)), .int (iI v)]))) H) : va_P D vwCl (mW a kk (updG g 0 (updI (g 0) 9 v))) H := h
