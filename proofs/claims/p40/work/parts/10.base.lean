
/-! the worlds: a class's cells and the reference's, by number; what is held in them: σ cell place -/
abbrev St : Type := Nat → Nat → Int32
def us (σ : St) (k : Nat) (f : Nat → Int32) : St := fun j => if j = k then f else σ j
def wd (n : Nat) (ad : Nat → Nat) (cel : Nat → (Nat → Int32) → va_E) (σ : St) : va_W := (List.range n).map (fun k => (ad k, cel k (σ k)))
theorem wd_at {n : Nat} {ad : Nat → Nat} {cel : Nat → (Nat → Int32) → va_E} {σ : St} {k : Nat} (hk : k < n) : (wd n ad cel σ)[k]? = some (ad k, cel k (σ k)) := by
  simp [wd, hk]
theorem wd_set {n : Nat} {ad : Nat → Nat} {cel : Nat → (Nat → Int32) → va_E} {σ : St} {k : Nat} {f : Nat → Int32} : (wd n ad cel σ).set k (ad k, cel k f) = wd n ad cel (us σ k f) := by
  apply List.ext_getElem?
  intro i
  rw [List.getElem?_set]
  by_cases h : k = i
  · subst h
    by_cases hn : k < n
    · simp [wd, hn, us]
    · simp [wd, hn]
  · rw [if_neg h]
    by_cases hn : i < n
    · rw [wd_at hn, wd_at hn]
      simp [us, Ne.symm h]
    · simp [wd, hn]
def AA (n : Nat) (ad : Nat → Nat) (sz : Nat) : Nat → Prop := fun q => (∃ k, k < n ∧ ad k = q) ∨ sz ≤ q
def Inj (n : Nat) (ad : Nat → Nat) : Prop := ∀ i j, i < n → j < n → ad i = ad j → i = j
theorem wd_D {n : Nat} {ad : Nat → Nat} {cel : Nat → (Nat → Int32) → va_E} {σ : St} {s : State} (hi : Inj n ad) : va_D (AA n ad s.heap.size) (wd n ad cel σ) := by
  have hl : ∀ {i : Nat} {q : Nat × va_E}, (wd n ad cel σ)[i]? = some q → i < n ∧ q = (ad i, cel i (σ i)) := by
    intro i q h
    by_cases hn : i < n
    · rw [wd_at hn] at h
      exact ⟨hn, (Option.some.inj h).symm⟩
    · simp [wd, hn] at h
  refine ⟨fun i j p q h1 h2 e => ?_, fun k q h => ?_⟩
  · obtain ⟨g1, rfl⟩ := hl h1
    obtain ⟨g2, rfl⟩ := hl h2
    exact hi i j g1 g2 e
  · obtain ⟨g1, rfl⟩ := hl h
    exact Or.inl ⟨k, g1, rfl⟩
def lg2 (a b : Int32) : Int64 := ⟨⟨(a.toBitVec ++ b.toBitVec : BitVec 64)⟩⟩
def lgh (x : Int64) : Int32 := ⟨⟨x.toBitVec.extractLsb' 32 32⟩⟩
def lgl (x : Int64) : Int32 := ⟨⟨x.toBitVec.extractLsb' 0 32⟩⟩
theorem lg2_hl (x : Int64) : lg2 (lgh x) (lgl x) = x := by
  apply Int64.toBitVec_inj.mp
  show (x.toBitVec.extractLsb' 32 32 ++ x.toBitVec.extractLsb' 0 32 : BitVec 64) = x.toBitVec
  apply BitVec.eq_of_getLsbD_eq
  intro i hi
  rw [BitVec.getLsbD_append]
  by_cases h : i < 32
  · simp [h]
  · have h2 : 32 + (i - 32) = i := by omega
    simp [h, h2]
    omega
theorem vp_in_of_dec {i : Int32} {n : Nat} (h : ¬ (i < 0 ∨ n ≤ i.toNatClampNeg)) : vp_in i n := h
def isSt (h : Nat) : Prop := h = 2 ∨ h = 20 ∨ h = 38 ∨ h = 56 ∨ h = 72
def isSc (h : Nat) : Prop := h = 1 ∨ h = 19 ∨ h = 37
def isPa (h : Nat) : Prop := h = 11 ∨ h = 29 ∨ h = 47
def isRo (h : Nat) : Prop := h = 13 ∨ h = 15 ∨ h = 17 ∨ h = 31 ∨ h = 33 ∨ h = 35 ∨ h = 49 ∨ h = 51 ∨ h = 53
def tabC (ad : Nat → Nat) (cA : ClassId) : List ((Nat → Int32) → va_E) := [fun f => .inr (9, [.ref (ad 1), .ref (ad 19), .ref (ad 37), .ref (ad 55), .ref (ad 65), .ref (ad 67), .ref (ad 69), .int (f 7), .int (f 8), .int (f 9), .int (f 10), .int (f 11), .int (f 12)]),
  fun f => .inr (6, [.ref (ad 2), .ref (ad 11), .ref (ad 13), .ref (ad 15), .ref (ad 17)]),
  fun f => .inr (7, [.ref (ad 3), .ref (ad 4), .ref (ad 5), .ref (ad 6), .ref (ad 7), .ref (ad 8), .ref (ad 9), .ref (ad 10), .int (f 8), .int (f 9), .int (f 10), .int (f 11)]),
  fun f => .inl (cA, 6, .inl f),
  fun f => .inl (cA, 8, .inl f),
  fun f => .inl (cA, 8, .inl f),
  fun f => .inl (cA, 8, .inl f),
  fun f => .inl (cA, 3, .inl f),
  fun f => .inl (cA, 3, .inl f),
  fun f => .inl (cA, 24, .inl f),
  fun f => .inl (cA, 3, .inl f),
  fun f => .inr (3, [.ref (ad 12), .int (f 1)]),
  fun f => .inl (cA, 72, .inl f),
  fun f => .inr (5, [.ref (ad 14), .int (f 1), .int (f 2), .int (f 3)]),
  fun f => .inl (cA, 24, .inl f),
  fun f => .inr (5, [.ref (ad 16), .int (f 1), .int (f 2), .int (f 3)]),
  fun f => .inl (cA, 24, .inl f),
  fun f => .inr (5, [.ref (ad 18), .int (f 1), .int (f 2), .int (f 3)]),
  fun f => .inl (cA, 24, .inl f),
  fun f => .inr (6, [.ref (ad 20), .ref (ad 29), .ref (ad 31), .ref (ad 33), .ref (ad 35)]),
  fun f => .inr (7, [.ref (ad 21), .ref (ad 22), .ref (ad 23), .ref (ad 24), .ref (ad 25), .ref (ad 26), .ref (ad 27), .ref (ad 28), .int (f 8), .int (f 9), .int (f 10), .int (f 11)]),
  fun f => .inl (cA, 6, .inl f),
  fun f => .inl (cA, 8, .inl f),
  fun f => .inl (cA, 8, .inl f),
  fun f => .inl (cA, 8, .inl f),
  fun f => .inl (cA, 3, .inl f),
  fun f => .inl (cA, 3, .inl f),
  fun f => .inl (cA, 24, .inl f),
  fun f => .inl (cA, 3, .inl f),
  fun f => .inr (3, [.ref (ad 30), .int (f 1)]),
  fun f => .inl (cA, 72, .inl f),
  fun f => .inr (5, [.ref (ad 32), .int (f 1), .int (f 2), .int (f 3)]),
  fun f => .inl (cA, 24, .inl f),
  fun f => .inr (5, [.ref (ad 34), .int (f 1), .int (f 2), .int (f 3)]),
  fun f => .inl (cA, 24, .inl f),
  fun f => .inr (5, [.ref (ad 36), .int (f 1), .int (f 2), .int (f 3)]),
  fun f => .inl (cA, 24, .inl f),
  fun f => .inr (6, [.ref (ad 38), .ref (ad 47), .ref (ad 49), .ref (ad 51), .ref (ad 53)]),
  fun f => .inr (7, [.ref (ad 39), .ref (ad 40), .ref (ad 41), .ref (ad 42), .ref (ad 43), .ref (ad 44), .ref (ad 45), .ref (ad 46), .int (f 8), .int (f 9), .int (f 10), .int (f 11)]),
  fun f => .inl (cA, 6, .inl f),
  fun f => .inl (cA, 8, .inl f),
  fun f => .inl (cA, 8, .inl f),
  fun f => .inl (cA, 8, .inl f),
  fun f => .inl (cA, 3, .inl f),
  fun f => .inl (cA, 3, .inl f),
  fun f => .inl (cA, 24, .inl f),
  fun f => .inl (cA, 3, .inl f),
  fun f => .inr (3, [.ref (ad 48), .int (f 1)]),
  fun f => .inl (cA, 72, .inl f),
  fun f => .inr (5, [.ref (ad 50), .int (f 1), .int (f 2), .int (f 3)]),
  fun f => .inl (cA, 24, .inl f),
  fun f => .inr (5, [.ref (ad 52), .int (f 1), .int (f 2), .int (f 3)]),
  fun f => .inl (cA, 24, .inl f),
  fun f => .inr (5, [.ref (ad 54), .int (f 1), .int (f 2), .int (f 3)]),
  fun f => .inl (cA, 24, .inl f),
  fun f => .inr (0, [.ref (ad 56), .int (f 1), .int (f 2), .int (f 3)]),
  fun f => .inr (7, [.ref (ad 57), .ref (ad 58), .ref (ad 59), .ref (ad 60), .ref (ad 61), .ref (ad 62), .ref (ad 63), .ref (ad 64), .int (f 8), .int (f 9), .int (f 10), .int (f 11)]),
  fun f => .inl (cA, 6, .inl f),
  fun f => .inl (cA, 8, .inl f),
  fun f => .inl (cA, 8, .inl f),
  fun f => .inl (cA, 8, .inl f),
  fun f => .inl (cA, 3, .inl f),
  fun f => .inl (cA, 3, .inl f),
  fun f => .inl (cA, 24, .inl f),
  fun f => .inl (cA, 3, .inl f),
  fun f => .inr (1, [.ref (ad 66), .int (f 1)]),
  fun f => .inl (cA, 128, .inl f),
  fun f => .inr (2, [.ref (ad 68), .int (f 1), .int (f 2), .int (f 3)]),
  fun f => .inl (cA, 24, .inl f),
  fun f => .inr (4, [.ref (ad 70), .ref (ad 72)]),
  fun f => .inr (8, [.ref (ad 71), .int (f 1), .int (f 2), .int (f 3), .int (f 4), .int (f 5)]),
  fun f => .inl (cA, 150, .inl f),
  fun f => .inr (7, [.ref (ad 73), .ref (ad 74), .ref (ad 75), .ref (ad 76), .ref (ad 77), .ref (ad 78), .ref (ad 79), .ref (ad 80), .int (f 8), .int (f 9), .int (f 10), .int (f 11)]),
  fun f => .inl (cA, 6, .inl f),
  fun f => .inl (cA, 8, .inl f),
  fun f => .inl (cA, 8, .inl f),
  fun f => .inl (cA, 8, .inl f),
  fun f => .inl (cA, 3, .inl f),
  fun f => .inl (cA, 3, .inl f),
  fun f => .inl (cA, 24, .inl f),
  fun f => .inl (cA, 3, .inl f)]
def celC (ad : Nat → Nat) (cA : ClassId) (k : Nat) (f : Nat → Int32) : va_E := (tabC ad cA).getD k (fun _ => .inr (0, [])) f
def tabM (ad : Nat → Nat) (cA cZ : ClassId) : List ((Nat → Int32) → va_E) := [fun f => .inr (10, [.ref (ad 1), .ref (ad 2), .ref (ad 3), .ref (ad 4), .long (lg2 (f 28) (f 29)), .long (lg2 (f 30) (f 31)), .ref (ad 5), .ref (ad 6), .ref (ad 7), .ref (ad 8), .ref (ad 9), .int (f 11), .int (f 12), .int (f 13), .int (f 14), .int (f 15), .ref (ad 10), .ref (ad 11)]),
  fun f => .inl (cA, 181, .inl f),
  fun f => .inl (cA, 362, .inl f),
  fun f => .inl (cZ, 2, .inl f),
  fun f => .inl (cA, 3, .inl f),
  fun f => .inl (cA, 43, .inl f),
  fun f => .inl (cA, 128, .inl f),
  fun f => .inl (cA, 7, .inl f),
  fun f => .inl (cA, 6, .inl f),
  fun f => .inl (cA, 150, .inl f),
  fun f => .inl (cA, 101, .inl f),
  fun f => .inl (cA, 3, .inl f)]
def celM (ad : Nat → Nat) (cA cZ : ClassId) (k : Nat) (f : Nat → Int32) : va_E := (tabM ad cA cZ).getD k (fun _ => .inr (0, [])) f
section LAY
variable {ad : Nat → Nat} {cA cZ : ClassId} {h : Nat}
theorem ceSt_0 (hh : isSt h) (f : Nat → Int32) : celC ad cA h f = .inr (7, [.ref (ad (h + 1)), .ref (ad (h + 2)), .ref (ad (h + 3)), .ref (ad (h + 4)), .ref (ad (h + 5)), .ref (ad (h + 6)), .ref (ad (h + 7)), .ref (ad (h + 8)), .int (f 8), .int (f 9), .int (f 10), .int (f 11)]) := by rcases hh with rfl | rfl | rfl | rfl | rfl <;> rfl
theorem ltSt_0 (hh : isSt h) : h < 81 := by rcases hh with rfl | rfl | rfl | rfl | rfl <;> decide
theorem ceSt_1 (hh : isSt h) (f : Nat → Int32) : celC ad cA (h + 1) f = .inl (cA, 6, .inl f) := by rcases hh with rfl | rfl | rfl | rfl | rfl <;> rfl
theorem ltSt_1 (hh : isSt h) : h + 1 < 81 := by rcases hh with rfl | rfl | rfl | rfl | rfl <;> decide
theorem ceSt_2 (hh : isSt h) (f : Nat → Int32) : celC ad cA (h + 2) f = .inl (cA, 8, .inl f) := by rcases hh with rfl | rfl | rfl | rfl | rfl <;> rfl
theorem ltSt_2 (hh : isSt h) : h + 2 < 81 := by rcases hh with rfl | rfl | rfl | rfl | rfl <;> decide
theorem ceSt_3 (hh : isSt h) (f : Nat → Int32) : celC ad cA (h + 3) f = .inl (cA, 8, .inl f) := by rcases hh with rfl | rfl | rfl | rfl | rfl <;> rfl
theorem ltSt_3 (hh : isSt h) : h + 3 < 81 := by rcases hh with rfl | rfl | rfl | rfl | rfl <;> decide
theorem ceSt_4 (hh : isSt h) (f : Nat → Int32) : celC ad cA (h + 4) f = .inl (cA, 8, .inl f) := by rcases hh with rfl | rfl | rfl | rfl | rfl <;> rfl
theorem ltSt_4 (hh : isSt h) : h + 4 < 81 := by rcases hh with rfl | rfl | rfl | rfl | rfl <;> decide
theorem ceSt_5 (hh : isSt h) (f : Nat → Int32) : celC ad cA (h + 5) f = .inl (cA, 3, .inl f) := by rcases hh with rfl | rfl | rfl | rfl | rfl <;> rfl
theorem ltSt_5 (hh : isSt h) : h + 5 < 81 := by rcases hh with rfl | rfl | rfl | rfl | rfl <;> decide
theorem ceSt_6 (hh : isSt h) (f : Nat → Int32) : celC ad cA (h + 6) f = .inl (cA, 3, .inl f) := by rcases hh with rfl | rfl | rfl | rfl | rfl <;> rfl
theorem ltSt_6 (hh : isSt h) : h + 6 < 81 := by rcases hh with rfl | rfl | rfl | rfl | rfl <;> decide
theorem ceSt_7 (hh : isSt h) (f : Nat → Int32) : celC ad cA (h + 7) f = .inl (cA, 24, .inl f) := by rcases hh with rfl | rfl | rfl | rfl | rfl <;> rfl
theorem ltSt_7 (hh : isSt h) : h + 7 < 81 := by rcases hh with rfl | rfl | rfl | rfl | rfl <;> decide
theorem ceSt_8 (hh : isSt h) (f : Nat → Int32) : celC ad cA (h + 8) f = .inl (cA, 3, .inl f) := by rcases hh with rfl | rfl | rfl | rfl | rfl <;> rfl
theorem ltSt_8 (hh : isSt h) : h + 8 < 81 := by rcases hh with rfl | rfl | rfl | rfl | rfl <;> decide
theorem cePa_0 (hh : isPa h) (f : Nat → Int32) : celC ad cA h f = .inr (3, [.ref (ad (h + 1)), .int (f 1)]) := by rcases hh with rfl | rfl | rfl <;> rfl
theorem ltPa_0 (hh : isPa h) : h < 81 := by rcases hh with rfl | rfl | rfl <;> decide
theorem cePa_1 (hh : isPa h) (f : Nat → Int32) : celC ad cA (h + 1) f = .inl (cA, 72, .inl f) := by rcases hh with rfl | rfl | rfl <;> rfl
theorem ltPa_1 (hh : isPa h) : h + 1 < 81 := by rcases hh with rfl | rfl | rfl <;> decide
theorem ceRo_0 (hh : isRo h) (f : Nat → Int32) : celC ad cA h f = .inr (5, [.ref (ad (h + 1)), .int (f 1), .int (f 2), .int (f 3)]) := by rcases hh with rfl | rfl | rfl | rfl | rfl | rfl | rfl | rfl | rfl <;> rfl
theorem ltRo_0 (hh : isRo h) : h < 81 := by rcases hh with rfl | rfl | rfl | rfl | rfl | rfl | rfl | rfl | rfl <;> decide
theorem ceRo_1 (hh : isRo h) (f : Nat → Int32) : celC ad cA (h + 1) f = .inl (cA, 24, .inl f) := by rcases hh with rfl | rfl | rfl | rfl | rfl | rfl | rfl | rfl | rfl <;> rfl
theorem ltRo_1 (hh : isRo h) : h + 1 < 81 := by rcases hh with rfl | rfl | rfl | rfl | rfl | rfl | rfl | rfl | rfl <;> decide
theorem ceSc_0 (hh : isSc h) (f : Nat → Int32) : celC ad cA h f = .inr (6, [.ref (ad (h + 1)), .ref (ad (h + 10)), .ref (ad (h + 12)), .ref (ad (h + 14)), .ref (ad (h + 16))]) := by rcases hh with rfl | rfl | rfl <;> rfl
theorem ltSc_0 (hh : isSc h) : h < 81 := by rcases hh with rfl | rfl | rfl <;> decide
theorem vSc1 (hh : isSc h) : isSt (h + 1) := by rcases hh with rfl | rfl | rfl <;> unfold isSt <;> decide
theorem vSc10 (hh : isSc h) : isPa (h + 10) := by rcases hh with rfl | rfl | rfl <;> unfold isPa <;> decide
theorem vSc12 (hh : isSc h) : isRo (h + 12) := by rcases hh with rfl | rfl | rfl <;> unfold isRo <;> decide
theorem vSc14 (hh : isSc h) : isRo (h + 14) := by rcases hh with rfl | rfl | rfl <;> unfold isRo <;> decide
theorem vSc16 (hh : isSc h) : isRo (h + 16) := by rcases hh with rfl | rfl | rfl <;> unfold isRo <;> decide
theorem ceFo_0 (f : Nat → Int32) : celC ad cA 55 f = .inr (0, [.ref (ad 56), .int (f 1), .int (f 2), .int (f 3)]) := rfl
theorem cePg_0 (f : Nat → Int32) : celC ad cA 65 f = .inr (1, [.ref (ad 66), .int (f 1)]) := rfl
theorem cePg_1 (f : Nat → Int32) : celC ad cA 66 f = .inl (cA, 128, .inl f) := rfl
theorem cePt_0 (f : Nat → Int32) : celC ad cA 67 f = .inr (2, [.ref (ad 68), .int (f 1), .int (f 2), .int (f 3)]) := rfl
theorem cePt_1 (f : Nat → Int32) : celC ad cA 68 f = .inl (cA, 24, .inl f) := rfl
theorem ceRe_0 (f : Nat → Int32) : celC ad cA 69 f = .inr (4, [.ref (ad 70), .ref (ad 72)]) := rfl
theorem ceTo_0 (f : Nat → Int32) : celC ad cA 70 f = .inr (8, [.ref (ad 71), .int (f 1), .int (f 2), .int (f 3), .int (f 4), .int (f 5)]) := rfl
theorem ceTo_1 (f : Nat → Int32) : celC ad cA 71 f = .inl (cA, 150, .inl f) := rfl
theorem ceGR_0 (f : Nat → Int32) : celC ad cA 0 f = .inr (9, [.ref (ad 1), .ref (ad 19), .ref (ad 37), .ref (ad 55), .ref (ad 65), .ref (ad 67), .ref (ad 69), .int (f 7), .int (f 8), .int (f 9), .int (f 10), .int (f 11), .int (f 12)]) := rfl
theorem ceMo_0 (f : Nat → Int32) : celM ad cA cZ 0 f = .inr (10, [.ref (ad 1), .ref (ad 2), .ref (ad 3), .ref (ad 4), .long (lg2 (f 28) (f 29)), .long (lg2 (f 30) (f 31)), .ref (ad 5), .ref (ad 6), .ref (ad 7), .ref (ad 8), .ref (ad 9), .int (f 11), .int (f 12), .int (f 13), .int (f 14), .int (f 15), .ref (ad 10), .ref (ad 11)]) := rfl
theorem ceMo_1 (f : Nat → Int32) : celM ad cA cZ 1 f = .inl (cA, 181, .inl f) := rfl
theorem ceMo_2 (f : Nat → Int32) : celM ad cA cZ 2 f = .inl (cA, 362, .inl f) := rfl
theorem ceMo_3 (f : Nat → Int32) : celM ad cA cZ 3 f = .inl (cZ, 2, .inl f) := rfl
theorem ceMo_4 (f : Nat → Int32) : celM ad cA cZ 4 f = .inl (cA, 3, .inl f) := rfl
theorem ceMo_5 (f : Nat → Int32) : celM ad cA cZ 5 f = .inl (cA, 43, .inl f) := rfl
theorem ceMo_6 (f : Nat → Int32) : celM ad cA cZ 6 f = .inl (cA, 128, .inl f) := rfl
theorem ceMo_7 (f : Nat → Int32) : celM ad cA cZ 7 f = .inl (cA, 7, .inl f) := rfl
theorem ceMo_8 (f : Nat → Int32) : celM ad cA cZ 8 f = .inl (cA, 6, .inl f) := rfl
theorem ceMo_9 (f : Nat → Int32) : celM ad cA cZ 9 f = .inl (cA, 150, .inl f) := rfl
theorem ceMo_10 (f : Nat → Int32) : celM ad cA cZ 10 f = .inl (cA, 101, .inl f) := rfl
theorem ceMo_11 (f : Nat → Int32) : celM ad cA cZ 11 f = .inl (cA, 3, .inl f) := rfl
end LAY
theorem vSt_2 : isSt 2 := by unfold isSt; decide
theorem vSt_20 : isSt 20 := by unfold isSt; decide
theorem vSt_38 : isSt 38 := by unfold isSt; decide
theorem vSt_56 : isSt 56 := by unfold isSt; decide
theorem vSt_72 : isSt 72 := by unfold isSt; decide
theorem vSc_1 : isSc 1 := by unfold isSc; decide
theorem vSc_19 : isSc 19 := by unfold isSc; decide
theorem vSc_37 : isSc 37 := by unfold isSc; decide
theorem vPa_11 : isPa 11 := by unfold isPa; decide
theorem vPa_29 : isPa 29 := by unfold isPa; decide
theorem vPa_47 : isPa 47 := by unfold isPa; decide
theorem vRo_13 : isRo 13 := by unfold isRo; decide
theorem vRo_15 : isRo 15 := by unfold isRo; decide
theorem vRo_17 : isRo 17 := by unfold isRo; decide
theorem vRo_31 : isRo 31 := by unfold isRo; decide
theorem vRo_33 : isRo 33 := by unfold isRo; decide
theorem vRo_35 : isRo 35 := by unfold isRo; decide
theorem vRo_49 : isRo 49 := by unfold isRo; decide
theorem vRo_51 : isRo 51 := by unfold isRo; decide
theorem vRo_53 : isRo 53 := by unfold isRo; decide
def isAr (k n : Nat) : Prop := k < 12 ∧ ∀ (ad : Nat → Nat) (cA cZ : ClassId) (f : Nat → Int32), celM ad cA cZ k f = .inl (cA, n, .inl f)
theorem arM_1 : isAr 1 181 := ⟨by decide, fun _ _ _ _ => rfl⟩
theorem arM_2 : isAr 2 362 := ⟨by decide, fun _ _ _ _ => rfl⟩
theorem arM_4 : isAr 4 3 := ⟨by decide, fun _ _ _ _ => rfl⟩
theorem arM_5 : isAr 5 43 := ⟨by decide, fun _ _ _ _ => rfl⟩
theorem arM_6 : isAr 6 128 := ⟨by decide, fun _ _ _ _ => rfl⟩
theorem arM_7 : isAr 7 7 := ⟨by decide, fun _ _ _ _ => rfl⟩
theorem arM_8 : isAr 8 6 := ⟨by decide, fun _ _ _ _ => rfl⟩
theorem arM_9 : isAr 9 150 := ⟨by decide, fun _ _ _ _ => rfl⟩
theorem arM_10 : isAr 10 101 := ⟨by decide, fun _ _ _ _ => rfl⟩
theorem arM_11 : isAr 11 3 := ⟨by decide, fun _ _ _ _ => rfl⟩

/-! the least predicate that a body closes -/
abbrev PY : Type := Nat → List Int32 → List Int64 → St → Prop
def Fx (B : PY → PY) : PY := fun P xs ys σ => ∀ X : PY, (∀ P xs ys σ, (∃ Y : PY, (∀ P xs ys σ, Y P xs ys σ → X P xs ys σ) ∧ B Y P xs ys σ) → X P xs ys σ) → X P xs ys σ
theorem Fx.intro {B : PY → PY} {P : Nat} {xs : List Int32} {ys : List Int64} {σ : St} (h : B (Fx B) P xs ys σ) : Fx B P xs ys σ := fun X hX => hX P xs ys σ ⟨Fx B, fun _ _ _ _ h => h X hX, h⟩
theorem Fx.elim {B : PY → PY} (X : PY) (hX : ∀ (P : Nat) (xs : List Int32) (ys : List Int64) (σ : St) (Y : PY), (∀ P xs ys σ, Y P xs ys σ → X P xs ys σ) → B Y P xs ys σ → X P xs ys σ) : ∀ P xs ys σ, Fx B P xs ys σ → X P xs ys σ := fun P xs ys σ h => h X (fun P xs ys σ ⟨Y, h1, h2⟩ => hX P xs ys σ Y h1 h2)
/-! what all walks stand on -/
def KK (dC : Nat → ClassId) (dI : Nat → Nat → Nat) (cA cZ : ClassId) (U : State) : Prop := va_K (dC, dI) vwCl [(cA, .int)] U ∧ va_Nw (.methodLinkNest RX8 55 yX10_within "GloveRail") U ∧ True
theorem KK.warm {dC : Nat → ClassId} {dI : Nat → Nat → Nat} {cA cZ : ClassId} {s U : State} (hW : s.WarmedH U.vm) (h : KK dC dI cA cZ s) : KK dC dI cA cZ U := ⟨va_K.moved hW.alike h.1, va_Nw.warmM hW h.2.1, trivial⟩
theorem KK.call {dC : Nat → ClassId} {dI : Nat → Nat → Nat} {cA cZ : ClassId} {U : State} {g : JFrame} {mk : MethodId} {a : Array Value} (h : KK dC dI cA cZ U) : KK dC dI cA cZ (U.calling g mk a) := ⟨va_K.moved (u := U) (U := U.calling g mk a) (Vm.Alike.refl U.vm) h.1, va_Nw.same rfl (u := U) (U := U.calling g mk a) rfl h.2.1, trivial⟩
def PW (dC : Nat → ClassId) (dI : Nat → Nat → Nat) (ad : Nat → Nat) (cA cZ : ClassId) (n : Nat) (cel : Nat → (Nat → Int32) → va_E) (sz : Nat) (σ : St) : State → Prop := fun U => U.heap.size = sz ∧ va_P (dC, dI) vwCl (wd n ad cel σ) U.heap ∧ KK dC dI cA cZ U
theorem pre_blind {dC : Nat → ClassId} {dI : Nat → Nat → Nat} {ad : Nat → Nat} {cA cZ : ClassId} {n : Nat} {cel : Nat → (Nat → Int32) → va_E} {sz : Nat} {σ : St} {av : List Value} : FrameBlind (va_Pc av (PW dC dI ad cA cZ n cel sz σ)) := fun a U g mk q => by
  obtain ⟨q0, q1, q2, q3⟩ := q
  exact ⟨q0, q1, q2, q3.call⟩
theorem pre_of {dC : Nat → ClassId} {dI : Nat → Nat → Nat} {ad : Nat → Nat} {cA cZ : ClassId} {n : Nat} {cel : Nat → (Nat → Int32) → va_E} {σ : St} {H : Heap} {s : State} {av : List Value} (hP : va_P (dC, dI) vwCl (wd n ad cel σ) H) (hK : KK dC dI cA cZ s) : ∀ U : State, U.heap = H → s.WarmedH U.vm → va_Pc av (PW dC dI ad cA cZ n cel H.size σ) av.toArray U := fun U hU hW => ⟨rfl, by rw [hU], by rw [hU]; exact hP, hK.warm hW⟩
def Cx (cc : ByteArray) (own : String) (Ts : List Cond) (nL : Nat) (ret : Option FieldType) (p : Program) (s : State) (m : MethodId) (args : Array Value) (meth : Method) (c : Code) : Prop := p.tables.exec = Jvm.exec ∧ c.code = cc ∧ c.maxLocals = nL ∧ s.vm.findClass own = some m.cls ∧ (∀ w ∈ Ts, w.before args s = true) ∧ meth.sig.returnType = ret ∧ meth.locks = false
def XX (p : Program) (l : Launch) (e : Env) (R : Room) (s : State) (m : MethodId) (args : Array Value) (below : List Frame) (meth : Method) (c : Code) (D : va_G) (n : Nat) (ad : Nat → Nat) (cel : Nat → (Nat → Int32) → va_E) (nL : Nat) (Z : State → Prop) (lay : Nat → List Int32 → List Int64 → Option (List (Nat × Value) × List Value)) : PY := fun P xs ys σ => ∀ lv st, lay P xs ys = some (lv, st) → ∀ (H : Heap) (locs : List Loc) (ls : Array Slot), va_P D vwCl (wd n ad cel σ) H → va_S (AA n ad s.heap.size) s.heap H locs → lv_has ls nL lv → W p l e R s m args below meth c H locs 0 0 Z (F0 m P ls st)
abbrev ZI (below : List Frame) (args : Array Value) (s : State) (D : va_G) (n : Nat) (ad : Nat → Nat) (cel : Nat → (Nat → Int32) → va_E) (Q : Int32 → St → Prop) : State → Prop := MQ below (va_Qi Q (fun u t => va_P D vwCl (wd n ad cel u) t.heap) (AA n ad s.heap.size)) args s 0 0 (AA n ad s.heap.size)
abbrev ZZ (below : List Frame) (args : Array Value) (s : State) (D : va_G) (n : Nat) (ad : Nat → Nat) (cel : Nat → (Nat → Int32) → va_E) (Q : Int32 → St → Prop) : State → Prop := MQ below (va_Qi (fun r u => (r = 0 ∨ r = 1) ∧ Q r u) (fun u t => va_P D vwCl (wd n ad cel u) t.heap) (AA n ad s.heap.size)) args s 0 0 (AA n ad s.heap.size)
abbrev ZL (below : List Frame) (args : Array Value) (s : State) (D : va_G) (n : Nat) (ad : Nat → Nat) (cel : Nat → (Nat → Int32) → va_E) (Q : Int64 → St → Prop) : State → Prop := MQ below (va_Ql Q (fun u t => va_P D vwCl (wd n ad cel u) t.heap) (AA n ad s.heap.size)) args s 0 0 (AA n ad s.heap.size)
abbrev ZV (below : List Frame) (args : Array Value) (s : State) (D : va_G) (n : Nat) (ad : Nat → Nat) (cel : Nat → (Nat → Int32) → va_E) (Q : St → Prop) : State → Prop := MQ below (va_Qv Q (fun u t => va_P D vwCl (wd n ad cel u) t.heap) (AA n ad s.heap.size)) args s 0 0 (AA n ad s.heap.size)
def qR (Q : Nat → St → Prop) : Nat × St → Prop := fun u => isSc u.1 ∧ Q u.1 u.2
abbrev ZR (below : List Frame) (args : Array Value) (s : State) (D : va_G) (n : Nat) (ad : Nat → Nat) (cel : Nat → (Nat → Int32) → va_E) (Q : Nat → St → Prop) : State → Prop := MQ below (va_Qr (qR Q) (fun u a t => a = ad u.1 ∧ va_P D vwCl (wd n ad cel u.2) t.heap) (AA n ad s.heap.size)) args s 0 0 (AA n ad s.heap.size)
section RR
variable {p : Program} {l : Launch} {e : Env} {R : Room} {s : State} {m : MethodId} {args : Array Value} {below : List Frame} {meth : Method} {c : Code} {H : Heap} {locs : List Loc} {cells slots : Nat} {Z : State → Prop}
variable {cc : ByteArray} {pc : Nat} {ls : Array Slot} {rest st0 : List Value} {D : va_G} {n : Nat} {ad : Nat → Nat} {cel : Nat → (Nat → Int32) → va_E} {σ : St} {tys : List (ClassId × FieldType)} {A : Nat → Prop} {H0 : Heap} {cA cZ : ClassId}
theorem r_recv (hK : va_K D vwCl tys s) (hP : va_P D vwCl (wd n ad cel σ) H) (k : Nat) (hk : k < n) {ci : Nat} {fs : List Value} (he : cel k (σ k) = .inr (ci, fs)) {q : vw_C} (hc : vwCl[ci]? = some q) : ∃ cell : Cell, H[ad k]? = some cell ∧ cell.vm.isStatics = false ∧ s.vm.findClass q.1 = some cell.cls := va_recv hK hP hc (q0 := k) (by rw [wd_at hk, he])
theorem r_get (hx : p.tables.exec = Jvm.exec) (hb : c.code = cc) {own C : String} {T : u_T} {N ci index : Nat} {Ts : List Cond} (hts : ∀ w ∈ Ts, w.before args s = true) (hin : ∀ w ∈ u_ws C T N, w ∈ Ts) (hown : s.vm.findClass own = some m.cls) (hK : va_K D vwCl tys s) (hP : va_P D vwCl (wd n ad cel σ) H) (k : Nat) (hk : k < n) {fs : List Value} (he : cel k (σ k) = .inr (ci, fs)) (hc : vwCl[ci]? = some (C, T, N)) (j : Nat) (hj : j < N) (hlink : (Cond.fieldLink own index (T j).1 (T j).2.1 (T j).2.2.1).before args s = true) {v : Value} (hv : fs[j]? = some v) (hdg : decode cc pc = .ok (.getfield index, 3))
    (kk : W p l e R s m args below meth c H locs cells slots Z (F0 m (pc + 3) ls (v :: rest))) : W p l e R s m args below meth c H locs cells slots Z (F0 m pc ls (.ref (ad k) :: rest)) :=
  va_get hx hb hts hin hown hK hP k (by rw [wd_at hk, he]) hc j hj hlink (fun _ h => h) hv hdg kk
theorem r_put (hx : p.tables.exec = Jvm.exec) (hb : c.code = cc) {own C : String} {T : u_T} {N ci index : Nat} {Ts : List Cond} (hts : ∀ w ∈ Ts, w.before args s = true) (hin : ∀ w ∈ u_ws C T N, w ∈ Ts) (ty0 : Nat → FieldType) (hty : ∀ k, k < N → parseFieldDescriptor (T k).2.2.1 = some (ty0 k)) (hnm : ∀ a, a < N → ∀ b, b < N → a ≠ b → (T a).2.1 ≠ (T b).2.1) (hown : s.vm.findClass own = some m.cls) (hK : va_K D vwCl tys s) (hP : va_P D vwCl (wd n ad cel σ) H) (hD : va_D A (wd n ad cel σ)) (hS0 : va_S A H0 H locs) (k : Nat) (hk : k < n) {fs : List Value} (he : cel k (σ k) = .inr (ci, fs)) (hc : vwCl[ci]? = some (C, T, N)) (j : Nat) (hj : j < N) (hlink : (Cond.fieldLink own index (T j).1 (T j).2.1 (T j).2.2.1).before args s = true) (hfin : (T j).2.2.2 = false) {ty : FieldType} {v : Value} (hd : parseFieldDescriptor (T j).2.2.1 = some ty) (hn : narrow ty v = v) (hfit : fits ty v = true) (hl : j < fs.length) {row : Nat → Int32} (hrow : cel k row = .inr (ci, fs.set j v)) (hdg : decode cc pc = .ok (.putfield index, 3))
    (kk : ∀ (H1 : Heap) (locs1 : List Loc) (σ1 : St), σ1 = us σ k row → va_P D vwCl (wd n ad cel σ1) H1 → va_D A (wd n ad cel σ1) → va_S A H0 H1 locs1 → W p l e R s m args below meth c H1 locs1 cells slots Z (F0 m (pc + 3) ls rest)) : W p l e R s m args below meth c H locs cells slots Z (F0 m pc ls (v :: .ref (ad k) :: rest)) := by
  refine va_put hx hb hts hin ty0 hty hnm hown hK hP hD hS0 k (by rw [wd_at hk, he]) hc j hj hlink (fun _ h => h) hfin hd hn hfit hl hdg (fun H1 locs1 hP1 hD1 hS1 => ?_)
  rw [← hrow, wd_set] at hP1 hD1
  exact kk H1 locs1 _ rfl hP1 hD1 hS1
theorem r_iald (hx : p.tables.exec = Jvm.exec) (hb : c.code = cc) (hK : va_K D vwCl [(cA, .int)] s) (hP : va_P D vwCl (wd n ad cel σ) H) (k : Nat) (hk : k < n) {N : Nat} (he : cel k (σ k) = .inl (cA, N, .inl (σ k))) {i : Int32} (hin : vp_in i N) (hdg : decode cc pc = .ok (.iaload, 1))
    (kk : W p l e R s m args below meth c H locs cells slots Z (F0 m (pc + 1) ls (.int (σ k i.toNatClampNeg) :: rest))) : W p l e R s m args below meth c H locs cells slots Z (F0 m pc ls (.int i :: .ref (ad k) :: rest)) :=
  va_iald hx hb hK hP k 0 (by rw [wd_at hk, he]) rfl hin hdg kk
theorem r_iast (hx : p.tables.exec = Jvm.exec) (hb : c.code = cc) (hK : va_K D vwCl [(cA, .int)] s) (hP : va_P D vwCl (wd n ad cel σ) H) (hD : va_D A (wd n ad cel σ)) (hS : va_S A H0 H locs) (k : Nat) (hk : k < n) {N : Nat} (he : cel k (σ k) = .inl (cA, N, .inl (σ k))) {i : Int32} {x : Int32} (he2 : cel k (upd (σ k) i.toNatClampNeg x) = .inl (cA, N, .inl (upd (σ k) i.toNatClampNeg x))) (hin : vp_in i N) (hdg : decode cc pc = .ok (.iastore, 1))
    (kk : ∀ (H1 : Heap) (locs1 : List Loc) (σ1 : St), σ1 = us σ k (upd (σ k) i.toNatClampNeg x) → va_P D vwCl (wd n ad cel σ1) H1 → va_D A (wd n ad cel σ1) → va_S A H0 H1 locs1 → W p l e R s m args below meth c H1 locs1 cells slots Z (F0 m (pc + 1) ls rest)) : W p l e R s m args below meth c H locs cells slots Z (F0 m pc ls (.int x :: .int i :: .ref (ad k) :: rest)) := by
  refine va_iast hx hb hK hP hD hS k 0 (by rw [wd_at hk, he]) rfl hin hdg (fun H1 locs1 hP1 hD1 hS1 => ?_)
  rw [← he2, wd_set] at hP1 hD1
  exact kk H1 locs1 _ rfl hP1 hD1 hS1
theorem r_alen (hx : p.tables.exec = Jvm.exec) (hb : c.code = cc) (hK : va_K D vwCl [(cA, .int)] s) (hP : va_P D vwCl (wd n ad cel σ) H) (k : Nat) (hk : k < n) {N : Nat} (he : cel k (σ k) = .inl (cA, N, .inl (σ k))) {v : Int32} (hv : Int32.ofNat N = v) (hdg : decode cc pc = .ok (.arraylength, 1))
    (kk : W p l e R s m args below meth c H locs cells slots Z (F0 m (pc + 1) ls (.int v :: rest))) : W p l e R s m args below meth c H locs cells slots Z (F0 m pc ls (.ref (ad k) :: rest)) :=
  va_alen hx hb hK hP k 0 (x := (N, .inl (σ k))) (by rw [wd_at hk, he]) (ty := .int) rfl hv hdg kk
theorem r_copy (hx : p.tables.exec = Jvm.exec) (hb : c.code = cc) (hml : c.maxLocals = ls.size) {own : String} {index : Nat} (hown : s.vm.findClass own = some m.cls) (hlink : (Cond.methodLink own index arraycopyName).before args s = true) (hnat : (Cond.native arraycopyName).before args s = true) (hstat : (Cond.static arraycopyName).before args s = true) (hini : (Cond.initialized "java/lang/System").before args s = true) (hK : va_K D vwCl [(cA, .int)] s) (hP : va_P D vwCl (wd n ad cel σ) H) (hD : va_D A (wd n ad cel σ)) (hS : va_S A H0 H locs) (k0 k1 : Nat) (hk0 : k0 < n) (hk1 : k1 < n) {N0 N1 : Nat} (he0 : cel k0 (σ k0) = .inl (cA, N0, .inl (σ k0))) (he1 : cel k1 (σ k1) = .inl (cA, N1, .inl (σ k1)))
    {sp dp z : Int32} {sp' dp' n' : Nat} (he2 : cel k1 (va_cpy (σ k0) (σ k1) sp' dp' n') = .inl (cA, N1, .inl (va_cpy (σ k0) (σ k1) sp' dp' n'))) (h1 : ¬ sp < 0) (h2 : ¬ dp < 0) (h3 : ¬ z < 0) (e1 : sp.toNatClampNeg = sp') (e2 : dp.toNatClampNeg = dp') (e3 : z.toNatClampNeg = n') (h4 : sp' + n' ≤ N0) (h5 : dp' + n' ≤ N1)
    (hframes : 1 ≤ R.frames) (hlocals : (rest.map fun v => v.category).sum + (nativeFrameWords "java/lang/System" "arraycopy" 5 + 11) ≤ R.locals) (hdg : decode cc pc = .ok (.invokestatic index, 3))
    (kk : ∀ (H1 : Heap) (locs1 : List Loc) (σ1 : St), σ1 = us σ k1 (va_cpy (σ k0) (σ k1) sp' dp' n') → va_P D vwCl (wd n ad cel σ1) H1 → va_D A (wd n ad cel σ1) → va_S A H0 H1 locs1 → W p l e R s m args below meth c H1 locs1 cells slots Z (F0 m (pc + 3) ls rest)) : W p l e R s m args below meth c H locs cells slots Z (F0 m pc ls (.int z :: .int dp :: .ref (ad k1) :: .int sp :: .ref (ad k0) :: rest)) := by
  subst e1 e2 e3
  refine va_copyi hx hb hml hown hlink hnat hstat hini hK hP hD hS k0 k1 0 0 (ty := .int) (by rw [wd_at hk0, he0]) (by rw [wd_at hk1, he1]) rfl rfl rfl h1 h2 h3 h4 h5 (fun _ _ => rfl) hframes hlocals hdg (fun H1 locs1 hP1 hD1 hS1 => ?_)
  rw [← he2, wd_set] at hP1 hD1
  exact kk H1 locs1 _ rfl hP1 hD1 hS1
theorem aa_in {q : Nat} {sz : Nat} (hz : H0.size ≤ sz) (h : AA n ad sz q) : AA n ad H0.size q := h.elim Or.inl (fun h => Or.inr (Nat.le_trans hz h))
theorem r_ci {Q : Int32 → St → Prop} {a : Array Value} (hr : va_Run p l e R s m args below meth c H locs cells slots 0 0 (F0 m pc ls st0) rest (va_Qi Q (fun u t => va_P D vwCl (wd n ad cel u) t.heap) (AA n ad H.size) a) (AA n ad H.size)) (hS : va_S (AA n ad H0.size) H0 H locs)
    (kk : ∀ (r : Int32) (u : St) (H1 : Heap) (locs1 : List Loc), Q r u → va_P D vwCl (wd n ad cel u) H1 → va_S (AA n ad H0.size) H0 H1 locs1 → W p l e R s m args below meth c H1 locs1 cells slots Z (F0 m (pc + 3) ls (.int r :: rest))) : W p l e R s m args below meth c H locs cells slots Z (F0 m pc ls st0) :=
  va_calli hr hS (fun q _ h => aa_in hS.1 h) (fun q h => aa_in hS.1 h) (fun r u t H1 locs1 ht _ hw hB _ _ hS1 => kk r u H1 locs1 hw (by rw [← ht]; exact hB) hS1)
theorem r_cl {Q : Int64 → St → Prop} {a : Array Value} (hr : va_Run p l e R s m args below meth c H locs cells slots 0 0 (F0 m pc ls st0) rest (va_Ql Q (fun u t => va_P D vwCl (wd n ad cel u) t.heap) (AA n ad H.size) a) (AA n ad H.size)) (hS : va_S (AA n ad H0.size) H0 H locs)
    (kk : ∀ (r : Int64) (u : St) (H1 : Heap) (locs1 : List Loc), Q r u → va_P D vwCl (wd n ad cel u) H1 → va_S (AA n ad H0.size) H0 H1 locs1 → W p l e R s m args below meth c H1 locs1 cells slots Z (F0 m (pc + 3) ls (.long r :: rest))) : W p l e R s m args below meth c H locs cells slots Z (F0 m pc ls st0) :=
  va_calll hr hS (fun q _ h => aa_in hS.1 h) (fun q h => aa_in hS.1 h) (fun r u t H1 locs1 ht _ hw hB _ _ hS1 => kk r u H1 locs1 hw (by rw [← ht]; exact hB) hS1)
theorem r_cv {Q : St → Prop} {a : Array Value} (hr : va_Run p l e R s m args below meth c H locs cells slots 0 0 (F0 m pc ls st0) rest (va_Qv Q (fun u t => va_P D vwCl (wd n ad cel u) t.heap) (AA n ad H.size) a) (AA n ad H.size)) (hS : va_S (AA n ad H0.size) H0 H locs)
    (kk : ∀ (u : St) (H1 : Heap) (locs1 : List Loc), Q u → va_P D vwCl (wd n ad cel u) H1 → va_S (AA n ad H0.size) H0 H1 locs1 → W p l e R s m args below meth c H1 locs1 cells slots Z (F0 m (pc + 3) ls rest)) : W p l e R s m args below meth c H locs cells slots Z (F0 m pc ls st0) :=
  va_callv hr hS (fun q _ h => aa_in hS.1 h) (fun q h => aa_in hS.1 h) (fun u t H1 locs1 ht _ hw hB _ _ hS1 => kk u H1 locs1 hw (by rw [← ht]; exact hB) hS1)
theorem r_cr {Q : Nat → St → Prop} {a : Array Value} (hr : va_Run p l e R s m args below meth c H locs cells slots 0 0 (F0 m pc ls st0) rest (va_Qr (qR Q) (fun u a t => a = ad u.1 ∧ va_P D vwCl (wd n ad cel u.2) t.heap) (AA n ad H.size) a) (AA n ad H.size)) (hS : va_S (AA n ad H0.size) H0 H locs)
    (kk : ∀ (r : Nat) (u : St) (H1 : Heap) (locs1 : List Loc), isSc r → Q r u → va_P D vwCl (wd n ad cel u) H1 → va_S (AA n ad H0.size) H0 H1 locs1 → W p l e R s m args below meth c H1 locs1 cells slots Z (F0 m (pc + 3) ls (.ref (ad r) :: rest))) : W p l e R s m args below meth c H locs cells slots Z (F0 m pc ls st0) :=
  va_callr hr hS (fun q _ h => aa_in hS.1 h) (fun q h => aa_in hS.1 h) (fun u ra t H1 locs1 ht _ hw hB _ _ hS1 => by
    obtain ⟨rfl, hB⟩ := hB
    have hw : isSc u.1 ∧ Q u.1 u.2 := hw
    exact kk u.1 u.2 H1 locs1 hw.1 hw.2 (by rw [← ht]; exact hB) hS1)
theorem r_iret (hx : p.tables.exec = Jvm.exec) (hb : c.code = cc) (hr : meth.sig.returnType = some .int) (hlocks : meth.locks = false) {Q : Int32 → St → Prop} {v : Int32} (hv : Q v σ) (hP : va_P D vwCl (wd n ad cel σ) H) (hS : va_S (AA n ad s.heap.size) s.heap H locs) (hdg : decode cc pc = .ok (.ireturn, 1)) : W p l e R s m args below meth c H locs 0 0 (ZI below args s D n ad cel Q) (F0 m pc ls [.int v]) :=
  W.iret hx hb hr (fun t ht _ => ⟨⟨v, σ, rfl, hv, by show va_P _ _ _ t.heap; rw [ht]; exact hP⟩, hS.F ht⟩) hS.2.2 hdg hlocks
theorem r_zret (hx : p.tables.exec = Jvm.exec) (hb : c.code = cc) (hr : meth.sig.returnType = some .boolean) (hlocks : meth.locks = false) {Q : Int32 → St → Prop} {v : Int32} (hz : v = 0 ∨ v = 1) (hv : Q v σ) (hP : va_P D vwCl (wd n ad cel σ) H) (hS : va_S (AA n ad s.heap.size) s.heap H locs) (hdg : decode cc pc = .ok (.ireturn, 1)) : W p l e R s m args below meth c H locs 0 0 (ZZ below args s D n ad cel Q) (F0 m pc ls [.int v]) :=
  W.zret hx hb hr (by rcases hz with rfl | rfl <;> rfl) (fun t ht _ => ⟨⟨v, σ, rfl, ⟨hz, hv⟩, by show va_P _ _ _ t.heap; rw [ht]; exact hP⟩, hS.F ht⟩) hS.2.2 hdg hlocks
theorem r_lret (hx : p.tables.exec = Jvm.exec) (hb : c.code = cc) (hr : meth.sig.returnType = some .long) (hlocks : meth.locks = false) {Q : Int64 → St → Prop} {v : Int64} (hv : Q v σ) (hP : va_P D vwCl (wd n ad cel σ) H) (hS : va_S (AA n ad s.heap.size) s.heap H locs) (hdg : decode cc pc = .ok (.lreturn, 1)) : W p l e R s m args below meth c H locs 0 0 (ZL below args s D n ad cel Q) (F0 m pc ls [.long v]) :=
  W.lret hx hb hr (fun t ht _ => ⟨⟨v, σ, rfl, hv, by show va_P _ _ _ t.heap; rw [ht]; exact hP⟩, hS.F ht⟩) hS.2.2 hdg hlocks
theorem r_vret (hx : p.tables.exec = Jvm.exec) (hb : c.code = cc) (hr : meth.sig.returnType = none) (hlocks : meth.locks = false) {Q : St → Prop} (hv : Q σ) (hP : va_P D vwCl (wd n ad cel σ) H) (hS : va_S (AA n ad s.heap.size) s.heap H locs) (hdg : decode cc pc = .ok (.return_, 1)) : W p l e R s m args below meth c H locs 0 0 (ZV below args s D n ad cel Q) (F0 m pc ls []) :=
  W.vret hx hb hr (fun t ht _ => ⟨⟨σ, rfl, hv, by show va_P _ _ _ t.heap; rw [ht]; exact hP⟩, hS.F ht⟩) hS.2.2 hdg hlocks
theorem r_aret (hx : p.tables.exec = Jvm.exec) (hb : c.code = cc) {rt : FieldType} (hr : meth.sig.returnType = some rt) (hlocks : meth.locks = false) (hrt : (∃ n, rt = .object n) ∨ ∃ t, rt = .array t) {Q : Nat → St → Prop} {k : Nat} (hk : isSc k) (hv : Q k σ) (hP : va_P D vwCl (wd n ad cel σ) H) (hS : va_S (AA n ad s.heap.size) s.heap H locs) (hdg : decode cc pc = .ok (.areturn, 1)) : W p l e R s m args below meth c H locs 0 0 (ZR below args s D n ad cel Q) (F0 m pc ls [.ref (ad k)]) :=
  W.aret hx hb hr hrt (Or.inr ⟨_, rfl⟩) (fun t ht _ => ⟨⟨(k, σ), ad k, rfl, (show isSc k ∧ Q k σ from ⟨hk, hv⟩), rfl, by show va_P _ _ _ t.heap; rw [ht]; exact hP⟩, hS.F ht⟩) hS.2.2 hdg hlocks
end RR
