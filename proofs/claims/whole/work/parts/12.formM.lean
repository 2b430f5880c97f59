/-- what is to hold at the entry of X11_in -/
def B_X11_in_e (a0 : Int64) (a2 : Int64) (a4 : Int64) (Q : Int32 → St → Prop) (Y : Nat → List Int32 → List Int64 → St → Prop)  (s0 : St) : Prop :=
  ((lg_cmp a0 a2) < 0 → (Q 0 s0)) ∧ (¬ (lg_cmp a0 a2) < 0 → ((0 < (lg_cmp a0 a4) → (Q 0 s0)) ∧ (¬ 0 < (lg_cmp a0 a4) → (Q 1 s0))))
def T_X11_in (a0 : Int64) (a2 : Int64) (a4 : Int64) (Q : Int32 → St → Prop) (Y : Nat → List Int32 → List Int64 → St → Prop) (P : Nat) (xs : List Int32) (ys : List Int64) (s0 : St) : Prop :=
  False
def R_X11_in (a0 : Int64) (a2 : Int64) (a4 : Int64) (Q : Int32 → St → Prop) : Nat → List Int32 → List Int64 → St → Prop := Fx (T_X11_in a0 a2 a4 Q)
def V_X11_in (a0 : Int64) (a2 : Int64) (a4 : Int64) (s0 : St) (Q : Int32 → St → Prop) : Prop := B_X11_in_e a0 a2 a4 Q (R_X11_in a0 a2 a4 Q)  s0
theorem kX11_bad_1 : Cond.fieldLink RX11 20 "GloveRailModel" "refused" "[I" ∈ wsX11_bad := List.mem_of_getElem? (i := 1) rfl
theorem iwX11_bad_X11 : ∀ w ∈ wsX110, w ∈ wsX11_bad := fun _ h => List.mem_cons_of_mem _ (List.mem_append_right _ h)
/-- what is to hold at the entry of X11_bad -/
def B_X11_bad_e (a1 : Int32) (Q : Int32 → St → Prop) (Y : Nat → List Int32 → List Int64 → St → Prop)  (s0 : St) : Prop :=
  ∀ s1, s1 = us s0 4 (upd (s0 4) 0 ((s0 4 0) + 1)) → (Q a1 s1)
def T_X11_bad (a1 : Int32) (Q : Int32 → St → Prop) (Y : Nat → List Int32 → List Int64 → St → Prop) (P : Nat) (xs : List Int32) (ys : List Int64) (s0 : St) : Prop :=
  False
def R_X11_bad (a1 : Int32) (Q : Int32 → St → Prop) : Nat → List Int32 → List Int64 → St → Prop := Fx (T_X11_bad a1 Q)
def V_X11_bad (a1 : Int32) (s0 : St) (Q : Int32 → St → Prop) : Prop := B_X11_bad_e a1 Q (R_X11_bad a1 Q)  s0
theorem kX11_no_1 : Cond.fieldLink RX11 20 "GloveRailModel" "refused" "[I" ∈ wsX11_no := List.mem_of_getElem? (i := 1) rfl
theorem iwX11_no_X11 : ∀ w ∈ wsX110, w ∈ wsX11_no := fun _ h => List.mem_cons_of_mem _ (List.mem_append_right _ h)
/-- what is to hold at the entry of X11_no -/
def B_X11_no_e  (Q : Int32 → St → Prop) (Y : Nat → List Int32 → List Int64 → St → Prop)  (s0 : St) : Prop :=
  ∀ s1, s1 = us s0 4 (upd (s0 4) 1 ((s0 4 1) + 1)) → (Q ((-3)) s1)
def T_X11_no  (Q : Int32 → St → Prop) (Y : Nat → List Int32 → List Int64 → St → Prop) (P : Nat) (xs : List Int32) (ys : List Int64) (s0 : St) : Prop :=
  False
def R_X11_no  (Q : Int32 → St → Prop) : Nat → List Int32 → List Int64 → St → Prop := Fx (T_X11_no  Q)
def V_X11_no  (s0 : St) (Q : Int32 → St → Prop) : Prop := B_X11_no_e  Q (R_X11_no  Q)  s0
theorem kX11_full_1 : Cond.fieldLink RX11 20 "GloveRailModel" "refused" "[I" ∈ wsX11_full := List.mem_of_getElem? (i := 1) rfl
theorem iwX11_full_X11 : ∀ w ∈ wsX110, w ∈ wsX11_full := fun _ h => List.mem_cons_of_mem _ (List.mem_append_right _ h)
/-- what is to hold at the entry of X11_full -/
def B_X11_full_e  (Q : Int32 → St → Prop) (Y : Nat → List Int32 → List Int64 → St → Prop)  (s0 : St) : Prop :=
  ∀ s1, s1 = us s0 4 (upd (s0 4) 2 ((s0 4 2) + 1)) → (Q ((-4)) s1)
def T_X11_full  (Q : Int32 → St → Prop) (Y : Nat → List Int32 → List Int64 → St → Prop) (P : Nat) (xs : List Int32) (ys : List Int64) (s0 : St) : Prop :=
  False
def R_X11_full  (Q : Int32 → St → Prop) : Nat → List Int32 → List Int64 → St → Prop := Fx (T_X11_full  Q)
def V_X11_full  (s0 : St) (Q : Int32 → St → Prop) : Prop := B_X11_full_e  Q (R_X11_full  Q)  s0
/-- what is to hold at the entry of X11_has -/
def B_X11_has_e (a0 : Int32) (a1 : Int32) (Q : Int32 → St → Prop) (Y : Nat → List Int32 → List Int64 → St → Prop)  (s0 : St) : Prop :=
  (¬ ((a0 >>> (a1 &&& 31)) &&& 1) = 1 → (Q 0 s0)) ∧ (((a0 >>> (a1 &&& 31)) &&& 1) = 1 → (Q 1 s0))
def T_X11_has (a0 : Int32) (a1 : Int32) (Q : Int32 → St → Prop) (Y : Nat → List Int32 → List Int64 → St → Prop) (P : Nat) (xs : List Int32) (ys : List Int64) (s0 : St) : Prop :=
  False
def R_X11_has (a0 : Int32) (a1 : Int32) (Q : Int32 → St → Prop) : Nat → List Int32 → List Int64 → St → Prop := Fx (T_X11_has a0 a1 Q)
def V_X11_has (a0 : Int32) (a1 : Int32) (s0 : St) (Q : Int32 → St → Prop) : Prop := B_X11_has_e a0 a1 Q (R_X11_has a0 a1 Q)  s0
/-- what is to hold at the entry of X11_bits -/
def B_X11_bits_e (a0 : Int32) (Q : Int32 → St → Prop) (Y : Nat → List Int32 → List Int64 → St → Prop)  (s0 : St) : Prop :=
  Y 4 [0, a0] [] s0
/-- what is to hold at 4 of X11_bits -/
def B_X11_bits_4 (a0 : Int32) (Q : Int32 → St → Prop) (Y : Nat → List Int32 → List Int64 → St → Prop) (x1 : Int32) (x2 : Int32) (s0 : St) : Prop :=
  (x2 ≤ 0 → (Q x1 s0)) ∧ (¬ x2 ≤ 0 → (∀ v1, v1 = x2 >>> ((1 : Int32) &&& 31) → (Y 4 [x1 + (x2 &&& 1), v1] [] s0)))
def T_X11_bits (a0 : Int32) (Q : Int32 → St → Prop) (Y : Nat → List Int32 → List Int64 → St → Prop) (P : Nat) (xs : List Int32) (ys : List Int64) (s0 : St) : Prop :=
  (P = 4 ∧ ∃ (x1 : Int32) (x2 : Int32), xs = [x1, x2] ∧ ys = [] ∧ B_X11_bits_4 a0 Q Y x1 x2 s0)
def R_X11_bits (a0 : Int32) (Q : Int32 → St → Prop) : Nat → List Int32 → List Int64 → St → Prop := Fx (T_X11_bits a0 Q)
theorem i_X11_bits_4 (a0 : Int32) (Q : Int32 → St → Prop) (x1 : Int32) (x2 : Int32) (s0 : St) (h : B_X11_bits_4 a0 Q (R_X11_bits a0 Q) x1 x2 s0) : R_X11_bits a0 Q 4 [x1, x2] [] s0 := Fx.intro (⟨rfl, x1, x2, rfl, rfl, h⟩)
def V_X11_bits (a0 : Int32) (s0 : St) (Q : Int32 → St → Prop) : Prop := B_X11_bits_e a0 Q (R_X11_bits a0 Q)  s0
/-- what is to hold at the entry of X11_begin -/
def B_X11_begin_e (h0 : Nat) (n0 : Nat) (Q : St → Prop) (Y : Nat → List Int32 → List Int64 → St → Prop)  (s0 : St) : Prop :=
  Y 2 [0] [] s0
/-- what is to hold at 2 of X11_begin -/
def B_X11_begin_2 (h0 : Nat) (n0 : Nat) (Q : St → Prop) (Y : Nat → List Int32 → List Int64 → St → Prop) (x1 : Int32) (s0 : St) : Prop :=
  (101 ≤ x1 → (Q s0)) ∧ (¬ 101 ≤ x1 → (vp_in x1 n0 ∧ (∀ s1, s1 = us s0 h0 (upd (s0 h0) x1.toNatClampNeg 0) → (Y 2 [x1 + 1] [] s1))))
def T_X11_begin (h0 : Nat) (n0 : Nat) (Q : St → Prop) (Y : Nat → List Int32 → List Int64 → St → Prop) (P : Nat) (xs : List Int32) (ys : List Int64) (s0 : St) : Prop :=
  (P = 2 ∧ ∃ (x1 : Int32), xs = [x1] ∧ ys = [] ∧ B_X11_begin_2 h0 n0 Q Y x1 s0)
def R_X11_begin (h0 : Nat) (n0 : Nat) (Q : St → Prop) : Nat → List Int32 → List Int64 → St → Prop := Fx (T_X11_begin h0 n0 Q)
theorem i_X11_begin_2 (h0 : Nat) (n0 : Nat) (Q : St → Prop) (x1 : Int32) (s0 : St) (h : B_X11_begin_2 h0 n0 Q (R_X11_begin h0 n0 Q) x1 s0) : R_X11_begin h0 n0 Q 2 [x1] [] s0 := Fx.intro (⟨rfl, x1, rfl, rfl, h⟩)
def V_X11_begin (h0 : Nat) (n0 : Nat) (s0 : St) (Q : St → Prop) : Prop := B_X11_begin_e h0 n0 Q (R_X11_begin h0 n0 Q)  s0
theorem kX11_many_1 : Cond.fieldLink RX11 7 "GloveRailModel" "all" "[I" ∈ wsX11_many := List.mem_of_getElem? (i := 1) rfl
theorem iwX11_many_X11 : ∀ w ∈ wsX110, w ∈ wsX11_many := fun _ h => List.mem_cons_of_mem _ (List.mem_append_right _ h)
/-- what is to hold at the entry of X11_many -/
def B_X11_many_e  (Q : Int32 → St → Prop) (Y : Nat → List Int32 → List Int64 → St → Prop)  (s0 : St) : Prop :=
  Q (s0 1 0) s0
def T_X11_many  (Q : Int32 → St → Prop) (Y : Nat → List Int32 → List Int64 → St → Prop) (P : Nat) (xs : List Int32) (ys : List Int64) (s0 : St) : Prop :=
  False
def R_X11_many  (Q : Int32 → St → Prop) : Nat → List Int32 → List Int64 → St → Prop := Fx (T_X11_many  Q)
def V_X11_many  (s0 : St) (Q : Int32 → St → Prop) : Prop := B_X11_many_e  Q (R_X11_many  Q)  s0
/-- what is to hold at the entry of X11_isGlove -/
def B_X11_isGlove_e (a1 : Int32) (Q : Int32 → St → Prop) (Y : Nat → List Int32 → List Int64 → St → Prop)  (s0 : St) : Prop :=
  V_X11_many  s0 (fun r1 s1 => V_X11_in a1.toInt64 0 ((r1 - 1).toInt64) s1 (fun r2 s2 => Q r2 s2))
def T_X11_isGlove (a1 : Int32) (Q : Int32 → St → Prop) (Y : Nat → List Int32 → List Int64 → St → Prop) (P : Nat) (xs : List Int32) (ys : List Int64) (s0 : St) : Prop :=
  False
def R_X11_isGlove (a1 : Int32) (Q : Int32 → St → Prop) : Nat → List Int32 → List Int64 → St → Prop := Fx (T_X11_isGlove a1 Q)
def V_X11_isGlove (a1 : Int32) (s0 : St) (Q : Int32 → St → Prop) : Prop := B_X11_isGlove_e a1 Q (R_X11_isGlove a1 Q)  s0
theorem kX11_isCrossing_1 : Cond.fieldLink RX11 7 "GloveRailModel" "all" "[I" ∈ wsX11_isCrossing := List.mem_of_getElem? (i := 1) rfl
theorem iwX11_isCrossing_X11 : ∀ w ∈ wsX110, w ∈ wsX11_isCrossing := fun _ h => List.mem_cons_of_mem _ (List.mem_append_right _ h)
/-- what is to hold at the entry of X11_isCrossing -/
def B_X11_isCrossing_e (a1 : Int32) (Q : Int32 → St → Prop) (Y : Nat → List Int32 → List Int64 → St → Prop)  (s0 : St) : Prop :=
  V_X11_in a1.toInt64 0 (((s0 1 1) - 1).toInt64) s0 (fun r1 s1 => Q r1 s1)
def T_X11_isCrossing (a1 : Int32) (Q : Int32 → St → Prop) (Y : Nat → List Int32 → List Int64 → St → Prop) (P : Nat) (xs : List Int32) (ys : List Int64) (s0 : St) : Prop :=
  False
def R_X11_isCrossing (a1 : Int32) (Q : Int32 → St → Prop) : Nat → List Int32 → List Int64 → St → Prop := Fx (T_X11_isCrossing a1 Q)
def V_X11_isCrossing (a1 : Int32) (s0 : St) (Q : Int32 → St → Prop) : Prop := B_X11_isCrossing_e a1 Q (R_X11_isCrossing a1 Q)  s0
theorem kX11_isKind_1 : Cond.constantLong RX11 60 (5) ∈ wsX11_isKind := List.mem_of_getElem? (i := 1) rfl
/-- what is to hold at the entry of X11_isKind -/
def B_X11_isKind_e (a0 : Int32) (Q : Int32 → St → Prop) (Y : Nat → List Int32 → List Int64 → St → Prop)  (s0 : St) : Prop :=
  V_X11_in a0.toInt64 0 5 s0 (fun r1 s1 => Q r1 s1)
def T_X11_isKind (a0 : Int32) (Q : Int32 → St → Prop) (Y : Nat → List Int32 → List Int64 → St → Prop) (P : Nat) (xs : List Int32) (ys : List Int64) (s0 : St) : Prop :=
  False
def R_X11_isKind (a0 : Int32) (Q : Int32 → St → Prop) : Nat → List Int32 → List Int64 → St → Prop := Fx (T_X11_isKind a0 Q)
def V_X11_isKind (a0 : Int32) (s0 : St) (Q : Int32 → St → Prop) : Prop := B_X11_isKind_e a0 Q (R_X11_isKind a0 Q)  s0
theorem kX11_isWet_1 : Cond.constantLong RX11 62 (4) ∈ wsX11_isWet := List.mem_of_getElem? (i := 1) rfl
/-- what is to hold at the entry of X11_isWet -/
def B_X11_isWet_e (a0 : Int32) (Q : Int32 → St → Prop) (Y : Nat → List Int32 → List Int64 → St → Prop)  (s0 : St) : Prop :=
  V_X11_in a0.toInt64 0 4 s0 (fun r1 s1 => Q r1 s1)
def T_X11_isWet (a0 : Int32) (Q : Int32 → St → Prop) (Y : Nat → List Int32 → List Int64 → St → Prop) (P : Nat) (xs : List Int32) (ys : List Int64) (s0 : St) : Prop :=
  False
def R_X11_isWet (a0 : Int32) (Q : Int32 → St → Prop) : Nat → List Int32 → List Int64 → St → Prop := Fx (T_X11_isWet a0 Q)
def V_X11_isWet (a0 : Int32) (s0 : St) (Q : Int32 → St → Prop) : Prop := B_X11_isWet_e a0 Q (R_X11_isWet a0 Q)  s0
theorem kX11_isMark_1 : Cond.constantLong RX11 64 (9) ∈ wsX11_isMark := List.mem_of_getElem? (i := 1) rfl
/-- what is to hold at the entry of X11_isMark -/
def B_X11_isMark_e (a0 : Int32) (Q : Int32 → St → Prop) (Y : Nat → List Int32 → List Int64 → St → Prop)  (s0 : St) : Prop :=
  V_X11_in a0.toInt64 1 9 s0 (fun r1 s1 => Q r1 s1)
def T_X11_isMark (a0 : Int32) (Q : Int32 → St → Prop) (Y : Nat → List Int32 → List Int64 → St → Prop) (P : Nat) (xs : List Int32) (ys : List Int64) (s0 : St) : Prop :=
  False
def R_X11_isMark (a0 : Int32) (Q : Int32 → St → Prop) : Nat → List Int32 → List Int64 → St → Prop := Fx (T_X11_isMark a0 Q)
def V_X11_isMark (a0 : Int32) (s0 : St) (Q : Int32 → St → Prop) : Prop := B_X11_isMark_e a0 Q (R_X11_isMark a0 Q)  s0
/-- what is to hold at the entry of X11_behind -/
def B_X11_behind_e (h0 : Nat) (n0 : Nat) (a1 : Int32) (Q : Int32 → St → Prop) (Y : Nat → List Int32 → List Int64 → St → Prop)  (s0 : St) : Prop :=
  Y 2 [0] [] s0
/-- what is to hold at 2 of X11_behind -/
def B_X11_behind_2 (h0 : Nat) (n0 : Nat) (a1 : Int32) (Q : Int32 → St → Prop) (Y : Nat → List Int32 → List Int64 → St → Prop) (x2 : Int32) (s0 : St) : Prop :=
  vp_in 1 n0 ∧ (((s0 h0 1) ≤ x2 → (Q ((-1)) s0)) ∧ (¬ (s0 h0 1) ≤ x2 → (vp_in (40 + x2) n0 ∧ ((¬ (s0 h0 (40 + x2).toNatClampNeg) = a1 → (Y 2 [x2 + 1] [] s0)) ∧ ((s0 h0 (40 + x2).toNatClampNeg) = a1 → (Q x2 s0))))))
def T_X11_behind (h0 : Nat) (n0 : Nat) (a1 : Int32) (Q : Int32 → St → Prop) (Y : Nat → List Int32 → List Int64 → St → Prop) (P : Nat) (xs : List Int32) (ys : List Int64) (s0 : St) : Prop :=
  (P = 2 ∧ ∃ (x2 : Int32), xs = [x2] ∧ ys = [] ∧ B_X11_behind_2 h0 n0 a1 Q Y x2 s0)
def R_X11_behind (h0 : Nat) (n0 : Nat) (a1 : Int32) (Q : Int32 → St → Prop) : Nat → List Int32 → List Int64 → St → Prop := Fx (T_X11_behind h0 n0 a1 Q)
theorem i_X11_behind_2 (h0 : Nat) (n0 : Nat) (a1 : Int32) (Q : Int32 → St → Prop) (x2 : Int32) (s0 : St) (h : B_X11_behind_2 h0 n0 a1 Q (R_X11_behind h0 n0 a1 Q) x2 s0) : R_X11_behind h0 n0 a1 Q 2 [x2] [] s0 := Fx.intro (⟨rfl, x2, rfl, rfl, h⟩)
def V_X11_behind (h0 : Nat) (n0 : Nat) (a1 : Int32) (s0 : St) (Q : Int32 → St → Prop) : Prop := B_X11_behind_e h0 n0 a1 Q (R_X11_behind h0 n0 a1 Q)  s0
theorem kX11_street_1 : Cond.fieldLink RX11 7 "GloveRailModel" "all" "[I" ∈ wsX11_street := List.mem_of_getElem? (i := 1) rfl
theorem iwX11_street_X11 : ∀ w ∈ wsX110, w ∈ wsX11_street := fun _ h => List.mem_cons_of_mem _ (List.mem_append_right _ h)
/-- what is to hold at the entry of X11_street -/
def B_X11_street_e  (Q : Int32 → St → Prop) (Y : Nat → List Int32 → List Int64 → St → Prop)  (s0 : St) : Prop :=
  V_X11_many  s0 (fun r1 s1 => V_X11_begin 1 181 s1 (fun s2 => Q r1 s2))
def T_X11_street  (Q : Int32 → St → Prop) (Y : Nat → List Int32 → List Int64 → St → Prop) (P : Nat) (xs : List Int32) (ys : List Int64) (s0 : St) : Prop :=
  False
def R_X11_street  (Q : Int32 → St → Prop) : Nat → List Int32 → List Int64 → St → Prop := Fx (T_X11_street  Q)
def V_X11_street  (s0 : St) (Q : Int32 → St → Prop) : Prop := B_X11_street_e  Q (R_X11_street  Q)  s0
theorem kX11_wet_1 : Cond.constantLong RX11 60 (5) ∈ wsX11_wet := List.mem_of_getElem? (i := 1) rfl
theorem kX11_wet_2 : Cond.fieldLink RX11 7 "GloveRailModel" "all" "[I" ∈ wsX11_wet := List.mem_of_getElem? (i := 2) rfl
theorem iwX11_wet_X11 : ∀ w ∈ wsX110, w ∈ wsX11_wet := fun _ h => List.mem_cons_of_mem _ (List.mem_append_right _ h)
/-- what is to hold at the entry of X11_wet -/
def B_X11_wet_e (a1 : Int32) (a2 : Int32) (Q : Int32 → St → Prop) (Y : Nat → List Int32 → List Int64 → St → Prop)  (s0 : St) : Prop :=
  V_X11_in a1.toInt64 0 5 s0 (fun r1 s1 => (r1 = 0 → (Y 19 [] [] s1)) ∧ (¬ r1 = 0 → (V_X11_isWet a2 s1 (fun r2 s2 => (¬ r2 = 0 → (vp_in (16 + a1) 181 ∧ (∀ v3, v3 = s2 1 (16 + a1).toNatClampNeg → (vp_in (16 + a1) 181 ∧ (∀ s4, s4 = us s2 1 (upd (s2 1) (16 + a1).toNatClampNeg a2) → (∀ s5, s5 = us s4 1 (upd (s4 1) 5 0) → (Q v3 s5))))))) ∧ (r2 = 0 → (Y 19 [] [] s2))))))
/-- what is to hold at 19 of X11_wet -/
def B_X11_wet_19 (a1 : Int32) (a2 : Int32) (Q : Int32 → St → Prop) (Y : Nat → List Int32 → List Int64 → St → Prop)  (s0 : St) : Prop :=
  V_X11_bad ((-2)) s0 (fun r1 s1 => Q r1 s1)
def T_X11_wet (a1 : Int32) (a2 : Int32) (Q : Int32 → St → Prop) (Y : Nat → List Int32 → List Int64 → St → Prop) (P : Nat) (xs : List Int32) (ys : List Int64) (s0 : St) : Prop :=
  (P = 19 ∧ xs = [] ∧ ys = [] ∧ B_X11_wet_19 a1 a2 Q Y  s0)
def R_X11_wet (a1 : Int32) (a2 : Int32) (Q : Int32 → St → Prop) : Nat → List Int32 → List Int64 → St → Prop := Fx (T_X11_wet a1 a2 Q)
theorem i_X11_wet_19 (a1 : Int32) (a2 : Int32) (Q : Int32 → St → Prop)  (s0 : St) (h : B_X11_wet_19 a1 a2 Q (R_X11_wet a1 a2 Q)  s0) : R_X11_wet a1 a2 Q 19 [] [] s0 := Fx.intro (⟨rfl, rfl, rfl, h⟩)
def V_X11_wet (a1 : Int32) (a2 : Int32) (s0 : St) (Q : Int32 → St → Prop) : Prop := B_X11_wet_e a1 a2 Q (R_X11_wet a1 a2 Q)  s0
/-- what is to hold at the entry of X11_layGlove -/
def B_X11_layGlove_e (h0 : Nat) (n0 : Nat) (a1 : Int32) (a2 : Int32) (a3 : Int32) (Q : St → Prop) (Y : Nat → List Int32 → List Int64 → St → Prop)  (s0 : St) : Prop :=
  vp_in 0 n0 ∧ (vp_in (22 + (s0 h0 0)) n0 ∧ (∀ s1, s1 = us s0 h0 (upd (s0 h0) (22 + (s0 h0 0)).toNatClampNeg a1) → (vp_in (30 + (s0 h0 0)) n0 ∧ (∀ s2, s2 = us s1 h0 (upd (s1 h0) (30 + (s0 h0 0)).toNatClampNeg a2) → (vp_in (6 + (s0 h0 0)) n0 ∧ (∀ s3, s3 = us s2 h0 (upd (s2 h0) (6 + (s0 h0 0)).toNatClampNeg a3) → (vp_in 0 n0 ∧ (vp_in 0 n0 ∧ (∀ s4, s4 = us s3 h0 (upd (s3 h0) 0 ((s3 h0 0) + 1)) → (Q s4))))))))))
def T_X11_layGlove (h0 : Nat) (n0 : Nat) (a1 : Int32) (a2 : Int32) (a3 : Int32) (Q : St → Prop) (Y : Nat → List Int32 → List Int64 → St → Prop) (P : Nat) (xs : List Int32) (ys : List Int64) (s0 : St) : Prop :=
  False
def R_X11_layGlove (h0 : Nat) (n0 : Nat) (a1 : Int32) (a2 : Int32) (a3 : Int32) (Q : St → Prop) : Nat → List Int32 → List Int64 → St → Prop := Fx (T_X11_layGlove h0 n0 a1 a2 a3 Q)
def V_X11_layGlove (h0 : Nat) (n0 : Nat) (a1 : Int32) (a2 : Int32) (a3 : Int32) (s0 : St) (Q : St → Prop) : Prop := B_X11_layGlove_e h0 n0 a1 a2 a3 Q (R_X11_layGlove h0 n0 a1 a2 a3 Q)  s0
/-- what is to hold at the entry of X11_layCrossing -/
def B_X11_layCrossing_e (h0 : Nat) (n0 : Nat) (a1 : Int32) (a2 : Int32) (Q : St → Prop) (Y : Nat → List Int32 → List Int64 → St → Prop)  (s0 : St) : Prop :=
  vp_in 1 n0 ∧ (vp_in (37 + (s0 h0 1)) n0 ∧ (∀ s1, s1 = us s0 h0 (upd (s0 h0) (37 + (s0 h0 1)).toNatClampNeg a1) → (vp_in (40 + (s0 h0 1)) n0 ∧ (∀ s2, s2 = us s1 h0 (upd (s1 h0) (40 + (s0 h0 1)).toNatClampNeg a2) → (vp_in 1 n0 ∧ (vp_in 1 n0 ∧ (∀ s3, s3 = us s2 h0 (upd (s2 h0) 1 ((s2 h0 1) + 1)) → (Q s3))))))))
def T_X11_layCrossing (h0 : Nat) (n0 : Nat) (a1 : Int32) (a2 : Int32) (Q : St → Prop) (Y : Nat → List Int32 → List Int64 → St → Prop) (P : Nat) (xs : List Int32) (ys : List Int64) (s0 : St) : Prop :=
  False
def R_X11_layCrossing (h0 : Nat) (n0 : Nat) (a1 : Int32) (a2 : Int32) (Q : St → Prop) : Nat → List Int32 → List Int64 → St → Prop := Fx (T_X11_layCrossing h0 n0 a1 a2 Q)
def V_X11_layCrossing (h0 : Nat) (n0 : Nat) (a1 : Int32) (a2 : Int32) (s0 : St) (Q : St → Prop) : Prop := B_X11_layCrossing_e h0 n0 a1 a2 Q (R_X11_layCrossing h0 n0 a1 a2 Q)  s0
theorem kX11_glove_1 : Cond.constantLong RX11 80 (23) ∈ wsX11_glove := List.mem_of_getElem? (i := 1) rfl
theorem kX11_glove_2 : Cond.fieldLink RX11 7 "GloveRailModel" "all" "[I" ∈ wsX11_glove := List.mem_of_getElem? (i := 2) rfl
theorem iwX11_glove_X11 : ∀ w ∈ wsX110, w ∈ wsX11_glove := fun _ h => List.mem_cons_of_mem _ (List.mem_append_right _ h)
/-- what is to hold at the entry of X11_glove -/
def B_X11_glove_e (a1 : Int32) (a2 : Int32) (a3 : Int32) (Q : Int32 → St → Prop) (Y : Nat → List Int32 → List Int64 → St → Prop)  (s0 : St) : Prop :=
  V_X11_isKind a1 s0 (fun r1 s1 => (r1 = 0 → (Y 26 [] [] s1)) ∧ (¬ r1 = 0 → (V_X11_isMark a2 s1 (fun r2 s2 => (r2 = 0 → (Y 26 [] [] s2)) ∧ (¬ r2 = 0 → (V_X11_in a3.toInt64 0 23 s2 (fun r3 s3 => (¬ r3 = 0 → (V_X11_many  s3 (fun r4 s4 => (¬ r4 = 7 → (V_X11_layGlove 1 181 a1 a2 a3 s4 (fun s5 => ∀ s6, s6 = us s5 1 (upd (s5 1) 5 0) → (V_X11_many  s6 (fun r7 s7 => Q (r7 - 1) s7))))) ∧ (r4 = 7 → (V_X11_full  s4 (fun r8 s8 => Q r8 s8)))))) ∧ (r3 = 0 → (Y 26 [] [] s3)))))))))
/-- what is to hold at 26 of X11_glove -/
def B_X11_glove_26 (a1 : Int32) (a2 : Int32) (a3 : Int32) (Q : Int32 → St → Prop) (Y : Nat → List Int32 → List Int64 → St → Prop)  (s0 : St) : Prop :=
  V_X11_bad ((-2)) s0 (fun r1 s1 => Q r1 s1)
def T_X11_glove (a1 : Int32) (a2 : Int32) (a3 : Int32) (Q : Int32 → St → Prop) (Y : Nat → List Int32 → List Int64 → St → Prop) (P : Nat) (xs : List Int32) (ys : List Int64) (s0 : St) : Prop :=
  (P = 26 ∧ xs = [] ∧ ys = [] ∧ B_X11_glove_26 a1 a2 a3 Q Y  s0)
def R_X11_glove (a1 : Int32) (a2 : Int32) (a3 : Int32) (Q : Int32 → St → Prop) : Nat → List Int32 → List Int64 → St → Prop := Fx (T_X11_glove a1 a2 a3 Q)
theorem i_X11_glove_26 (a1 : Int32) (a2 : Int32) (a3 : Int32) (Q : Int32 → St → Prop)  (s0 : St) (h : B_X11_glove_26 a1 a2 a3 Q (R_X11_glove a1 a2 a3 Q)  s0) : R_X11_glove a1 a2 a3 Q 26 [] [] s0 := Fx.intro (⟨rfl, rfl, rfl, h⟩)
def V_X11_glove (a1 : Int32) (a2 : Int32) (a3 : Int32) (s0 : St) (Q : Int32 → St → Prop) : Prop := B_X11_glove_e a1 a2 a3 Q (R_X11_glove a1 a2 a3 Q)  s0
theorem kX11_crossing_1 : Cond.constantLong RX11 89 (22) ∈ wsX11_crossing := List.mem_of_getElem? (i := 1) rfl
theorem kX11_crossing_2 : Cond.fieldLink RX11 7 "GloveRailModel" "all" "[I" ∈ wsX11_crossing := List.mem_of_getElem? (i := 2) rfl
theorem iwX11_crossing_X11 : ∀ w ∈ wsX110, w ∈ wsX11_crossing := fun _ h => List.mem_cons_of_mem _ (List.mem_append_right _ h)
/-- what is to hold at the entry of X11_crossing -/
def B_X11_crossing_e (a1 : Int32) (a2 : Int32) (Q : Int32 → St → Prop) (Y : Nat → List Int32 → List Int64 → St → Prop)  (s0 : St) : Prop :=
  V_X11_isKind a1 s0 (fun r1 s1 => (r1 = 0 → (Y 31 [] [] s1)) ∧ (¬ r1 = 0 → (V_X11_in a2.toInt64 0 22 s1 (fun r2 s2 => (r2 = 0 → (Y 31 [] [] s2)) ∧ (¬ r2 = 0 → (V_X11_behind 1 181 a2 s2 (fun r3 s3 => (r3 = ((-1)) → ((¬ (s3 1 1) = 3 → (V_X11_layCrossing 1 181 a1 a2 s3 (fun s4 => ∀ s5, s5 = us s4 1 (upd (s4 1) 5 0) → (Q ((s5 1 1) - 1) s5)))) ∧ ((s3 1 1) = 3 → (V_X11_full  s3 (fun r6 s6 => Q r6 s6))))) ∧ (¬ r3 = ((-1)) → (Y 31 [] [] s3)))))))))
/-- what is to hold at 31 of X11_crossing -/
def B_X11_crossing_31 (a1 : Int32) (a2 : Int32) (Q : Int32 → St → Prop) (Y : Nat → List Int32 → List Int64 → St → Prop)  (s0 : St) : Prop :=
  V_X11_bad ((-2)) s0 (fun r1 s1 => Q r1 s1)
def T_X11_crossing (a1 : Int32) (a2 : Int32) (Q : Int32 → St → Prop) (Y : Nat → List Int32 → List Int64 → St → Prop) (P : Nat) (xs : List Int32) (ys : List Int64) (s0 : St) : Prop :=
  (P = 31 ∧ xs = [] ∧ ys = [] ∧ B_X11_crossing_31 a1 a2 Q Y  s0)
def R_X11_crossing (a1 : Int32) (a2 : Int32) (Q : Int32 → St → Prop) : Nat → List Int32 → List Int64 → St → Prop := Fx (T_X11_crossing a1 a2 Q)
theorem i_X11_crossing_31 (a1 : Int32) (a2 : Int32) (Q : Int32 → St → Prop)  (s0 : St) (h : B_X11_crossing_31 a1 a2 Q (R_X11_crossing a1 a2 Q)  s0) : R_X11_crossing a1 a2 Q 31 [] [] s0 := Fx.intro (⟨rfl, rfl, rfl, h⟩)
def V_X11_crossing (a1 : Int32) (a2 : Int32) (s0 : St) (Q : Int32 → St → Prop) : Prop := B_X11_crossing_e a1 a2 Q (R_X11_crossing a1 a2 Q)  s0
/-- what is to hold at the entry of X11_goesAs -/
def B_X11_goesAs_e (a0 : Int32) (a1 : Int32) (a2 : Int32) (Q : Int32 → St → Prop) (Y : Nat → List Int32 → List Int64 → St → Prop)  (s0 : St) : Prop :=
  (¬ a2 = 0 → (Y 9 [1] [] s0)) ∧ (a2 = 0 → (Y 9 [2] [] s0))
/-- what is to hold at 9 of X11_goesAs -/
def B_X11_goesAs_9 (a0 : Int32) (a1 : Int32) (a2 : Int32) (Q : Int32 → St → Prop) (Y : Nat → List Int32 → List Int64 → St → Prop) (t0 : Int32) (s0 : St) : Prop :=
  (¬ (a1 - a1 / 2 * 2) = 0 → (Y 23 [t0, t0] [] s0)) ∧ ((a1 - a1 / 2 * 2) = 0 → (Y 23 [t0, 2 * t0] [] s0))
/-- what is to hold at 23 of X11_goesAs -/
def B_X11_goesAs_23 (a0 : Int32) (a1 : Int32) (a2 : Int32) (Q : Int32 → St → Prop) (Y : Nat → List Int32 → List Int64 → St → Prop) (x3 : Int32) (t0 : Int32) (s0 : St) : Prop :=
  (a0 = 1 → (Q x3 s0)) ∧ (¬ a0 = 1 → ((a0 = 2 → ((a2 < 3 → (Q 1 s0)) ∧ (¬ a2 < 3 → (Q 0 s0)))) ∧ (¬ a0 = 2 → ((a0 = 3 → (Q t0 s0)) ∧ (¬ a0 = 3 → ((a0 = 4 → ((¬ (a1 - a1 / 5 * 5) = 0 → (Q 1 s0)) ∧ ((a1 - a1 / 5 * 5) = 0 → (Q 4 s0)))) ∧ (¬ a0 = 4 → ((a0 = 5 → ((t0 ≤ a2 → (Q 0 s0)) ∧ (¬ t0 ≤ a2 → (Q (t0 - a2) s0)))) ∧ (¬ a0 = 5 → (Q 1 s0))))))))))
def T_X11_goesAs (a0 : Int32) (a1 : Int32) (a2 : Int32) (Q : Int32 → St → Prop) (Y : Nat → List Int32 → List Int64 → St → Prop) (P : Nat) (xs : List Int32) (ys : List Int64) (s0 : St) : Prop :=
  (P = 9 ∧ ∃ (t0 : Int32), xs = [t0] ∧ ys = [] ∧ B_X11_goesAs_9 a0 a1 a2 Q Y t0 s0) ∨ (P = 23 ∧ ∃ (x3 : Int32) (t0 : Int32), xs = [x3, t0] ∧ ys = [] ∧ B_X11_goesAs_23 a0 a1 a2 Q Y x3 t0 s0)
def R_X11_goesAs (a0 : Int32) (a1 : Int32) (a2 : Int32) (Q : Int32 → St → Prop) : Nat → List Int32 → List Int64 → St → Prop := Fx (T_X11_goesAs a0 a1 a2 Q)
theorem i_X11_goesAs_9 (a0 : Int32) (a1 : Int32) (a2 : Int32) (Q : Int32 → St → Prop) (t0 : Int32) (s0 : St) (h : B_X11_goesAs_9 a0 a1 a2 Q (R_X11_goesAs a0 a1 a2 Q) t0 s0) : R_X11_goesAs a0 a1 a2 Q 9 [t0] [] s0 := Fx.intro (Or.inl ⟨rfl, t0, rfl, rfl, h⟩)
theorem i_X11_goesAs_23 (a0 : Int32) (a1 : Int32) (a2 : Int32) (Q : Int32 → St → Prop) (x3 : Int32) (t0 : Int32) (s0 : St) (h : B_X11_goesAs_23 a0 a1 a2 Q (R_X11_goesAs a0 a1 a2 Q) x3 t0 s0) : R_X11_goesAs a0 a1 a2 Q 23 [x3, t0] [] s0 := Fx.intro (Or.inr (⟨rfl, x3, t0, rfl, rfl, h⟩))
def V_X11_goesAs (a0 : Int32) (a1 : Int32) (a2 : Int32) (s0 : St) (Q : Int32 → St → Prop) : Prop := B_X11_goesAs_e a0 a1 a2 Q (R_X11_goesAs a0 a1 a2 Q)  s0
/-- what is to hold at the entry of X11_letsAs -/
def B_X11_letsAs_e (a0 : Int32) (a1 : Int32) (a2 : Int32) (Q : Int32 → St → Prop) (Y : Nat → List Int32 → List Int64 → St → Prop)  (s0 : St) : Prop :=
  (¬ (a1 - a1 / 2 * 2) = 0 → (Y 11 [0] [] s0)) ∧ ((a1 - a1 / 2 * 2) = 0 → (Y 11 [2] [] s0))
/-- what is to hold at 11 of X11_letsAs -/
def B_X11_letsAs_11 (a0 : Int32) (a1 : Int32) (a2 : Int32) (Q : Int32 → St → Prop) (Y : Nat → List Int32 → List Int64 → St → Prop) (t0 : Int32) (s0 : St) : Prop :=
  (t0 ≤ 0 → (Y 23 [t0, 0] [] s0)) ∧ (¬ t0 ≤ 0 → (Y 23 [t0, t0 - 1] [] s0))
/-- what is to hold at 23 of X11_letsAs -/
def B_X11_letsAs_23 (a0 : Int32) (a1 : Int32) (a2 : Int32) (Q : Int32 → St → Prop) (Y : Nat → List Int32 → List Int64 → St → Prop) (x3 : Int32) (t0 : Int32) (s0 : St) : Prop :=
  (a0 = 1 → (Q t0 s0)) ∧ (¬ a0 = 1 → ((a0 = 2 → (Q (x3 + (a2 / 2)) s0)) ∧ (¬ a0 = 2 → ((a0 = 3 → ((a2 < 4 → (Q t0 s0)) ∧ (¬ a2 < 4 → (Q (t0 + 1) s0)))) ∧ (¬ a0 = 3 → ((a0 = 4 → (((a1 - a1 / 8 * 8) < 6 → (Q x3 s0)) ∧ (¬ (a1 - a1 / 8 * 8) < 6 → (Q a2 s0)))) ∧ (¬ a0 = 4 → ((a0 = 5 → ((¬ (a1 - a1 / 3 * 3) = 0 → (Q (x3 + (a2 / 2)) s0)) ∧ ((a1 - a1 / 3 * 3) = 0 → (Q 0 s0)))) ∧ (¬ a0 = 5 → (Q x3 s0))))))))))
def T_X11_letsAs (a0 : Int32) (a1 : Int32) (a2 : Int32) (Q : Int32 → St → Prop) (Y : Nat → List Int32 → List Int64 → St → Prop) (P : Nat) (xs : List Int32) (ys : List Int64) (s0 : St) : Prop :=
  (P = 11 ∧ ∃ (t0 : Int32), xs = [t0] ∧ ys = [] ∧ B_X11_letsAs_11 a0 a1 a2 Q Y t0 s0) ∨ (P = 23 ∧ ∃ (x3 : Int32) (t0 : Int32), xs = [x3, t0] ∧ ys = [] ∧ B_X11_letsAs_23 a0 a1 a2 Q Y x3 t0 s0)
def R_X11_letsAs (a0 : Int32) (a1 : Int32) (a2 : Int32) (Q : Int32 → St → Prop) : Nat → List Int32 → List Int64 → St → Prop := Fx (T_X11_letsAs a0 a1 a2 Q)
theorem i_X11_letsAs_11 (a0 : Int32) (a1 : Int32) (a2 : Int32) (Q : Int32 → St → Prop) (t0 : Int32) (s0 : St) (h : B_X11_letsAs_11 a0 a1 a2 Q (R_X11_letsAs a0 a1 a2 Q) t0 s0) : R_X11_letsAs a0 a1 a2 Q 11 [t0] [] s0 := Fx.intro (Or.inl ⟨rfl, t0, rfl, rfl, h⟩)
theorem i_X11_letsAs_23 (a0 : Int32) (a1 : Int32) (a2 : Int32) (Q : Int32 → St → Prop) (x3 : Int32) (t0 : Int32) (s0 : St) (h : B_X11_letsAs_23 a0 a1 a2 Q (R_X11_letsAs a0 a1 a2 Q) x3 t0 s0) : R_X11_letsAs a0 a1 a2 Q 23 [x3, t0] [] s0 := Fx.intro (Or.inr (⟨rfl, x3, t0, rfl, rfl, h⟩))
def V_X11_letsAs (a0 : Int32) (a1 : Int32) (a2 : Int32) (s0 : St) (Q : Int32 → St → Prop) : Prop := B_X11_letsAs_e a0 a1 a2 Q (R_X11_letsAs a0 a1 a2 Q)  s0
/-- what is to hold at the entry of X11_goesNow -/
def B_X11_goesNow_e (h0 : Nat) (n0 : Nat) (a1 : Int32) (Q : Int32 → St → Prop) (Y : Nat → List Int32 → List Int64 → St → Prop)  (s0 : St) : Prop :=
  vp_in (22 + a1) n0 ∧ (vp_in 15 n0 ∧ (vp_in 15 n0 ∧ (vp_in (16 + ((s0 h0 15) - (s0 h0 15) / 6 * 6)) n0 ∧ (V_X11_goesAs (s0 h0 (22 + a1).toNatClampNeg) (s0 h0 15) (s0 h0 (16 + ((s0 h0 15) - (s0 h0 15) / 6 * 6)).toNatClampNeg) s0 (fun r1 s1 => Q r1 s1)))))
def T_X11_goesNow (h0 : Nat) (n0 : Nat) (a1 : Int32) (Q : Int32 → St → Prop) (Y : Nat → List Int32 → List Int64 → St → Prop) (P : Nat) (xs : List Int32) (ys : List Int64) (s0 : St) : Prop :=
  False
def R_X11_goesNow (h0 : Nat) (n0 : Nat) (a1 : Int32) (Q : Int32 → St → Prop) : Nat → List Int32 → List Int64 → St → Prop := Fx (T_X11_goesNow h0 n0 a1 Q)
def V_X11_goesNow (h0 : Nat) (n0 : Nat) (a1 : Int32) (s0 : St) (Q : Int32 → St → Prop) : Prop := B_X11_goesNow_e h0 n0 a1 Q (R_X11_goesNow h0 n0 a1 Q)  s0
/-- what is to hold at the entry of X11_manyAt -/
def B_X11_manyAt_e (h0 : Nat) (n0 : Nat) (a1 : Int32) (Q : Int32 → St → Prop) (Y : Nat → List Int32 → List Int64 → St → Prop)  (s0 : St) : Prop :=
  Y 4 [0, 0] [] s0
/-- what is to hold at 4 of X11_manyAt -/
def B_X11_manyAt_4 (h0 : Nat) (n0 : Nat) (a1 : Int32) (Q : Int32 → St → Prop) (Y : Nat → List Int32 → List Int64 → St → Prop) (x2 : Int32) (x3 : Int32) (s0 : St) : Prop :=
  vp_in 0 n0 ∧ (((s0 h0 0) ≤ x3 → (Q x2 s0)) ∧ (¬ (s0 h0 0) ≤ x3 → (vp_in (6 + x3) n0 ∧ ((¬ (s0 h0 (6 + x3).toNatClampNeg) = a1 → (Y 4 [x2 + 0, x3 + 1] [] s0)) ∧ ((s0 h0 (6 + x3).toNatClampNeg) = a1 → (Y 4 [x2 + 1, x3 + 1] [] s0))))))
def T_X11_manyAt (h0 : Nat) (n0 : Nat) (a1 : Int32) (Q : Int32 → St → Prop) (Y : Nat → List Int32 → List Int64 → St → Prop) (P : Nat) (xs : List Int32) (ys : List Int64) (s0 : St) : Prop :=
  (P = 4 ∧ ∃ (x2 : Int32) (x3 : Int32), xs = [x2, x3] ∧ ys = [] ∧ B_X11_manyAt_4 h0 n0 a1 Q Y x2 x3 s0)
def R_X11_manyAt (h0 : Nat) (n0 : Nat) (a1 : Int32) (Q : Int32 → St → Prop) : Nat → List Int32 → List Int64 → St → Prop := Fx (T_X11_manyAt h0 n0 a1 Q)
theorem i_X11_manyAt_4 (h0 : Nat) (n0 : Nat) (a1 : Int32) (Q : Int32 → St → Prop) (x2 : Int32) (x3 : Int32) (s0 : St) (h : B_X11_manyAt_4 h0 n0 a1 Q (R_X11_manyAt h0 n0 a1 Q) x2 x3 s0) : R_X11_manyAt h0 n0 a1 Q 4 [x2, x3] [] s0 := Fx.intro (⟨rfl, x2, x3, rfl, rfl, h⟩)
def V_X11_manyAt (h0 : Nat) (n0 : Nat) (a1 : Int32) (s0 : St) (Q : Int32 → St → Prop) : Prop := B_X11_manyAt_e h0 n0 a1 Q (R_X11_manyAt h0 n0 a1 Q)  s0
/-- what is to hold at the entry of X11_waits -/
def B_X11_waits_e (h0 : Nat) (n0 : Nat) (a1 : Int32) (Q : Int32 → St → Prop) (Y : Nat → List Int32 → List Int64 → St → Prop)  (s0 : St) : Prop :=
  vp_in (6 + a1) n0 ∧ (V_X11_behind h0 n0 (s0 h0 (6 + a1).toNatClampNeg) s0 (fun r1 s1 => (r1 = ((-1)) → (Q 0 s1)) ∧ (¬ r1 = ((-1)) → (Q 1 s1))))
def T_X11_waits (h0 : Nat) (n0 : Nat) (a1 : Int32) (Q : Int32 → St → Prop) (Y : Nat → List Int32 → List Int64 → St → Prop) (P : Nat) (xs : List Int32) (ys : List Int64) (s0 : St) : Prop :=
  False
def R_X11_waits (h0 : Nat) (n0 : Nat) (a1 : Int32) (Q : Int32 → St → Prop) : Nat → List Int32 → List Int64 → St → Prop := Fx (T_X11_waits h0 n0 a1 Q)
def V_X11_waits (h0 : Nat) (n0 : Nat) (a1 : Int32) (s0 : St) (Q : Int32 → St → Prop) : Prop := B_X11_waits_e h0 n0 a1 Q (R_X11_waits h0 n0 a1 Q)  s0
/-- what is to hold at the entry of X11_goesTo -/
def B_X11_goesTo_e (h0 : Nat) (n0 : Nat) (a1 : Int32) (Q : Int32 → St → Prop) (Y : Nat → List Int32 → List Int64 → St → Prop)  (s0 : St) : Prop :=
  vp_in (6 + a1) n0 ∧ (∀ v1, v1 = s0 h0 (6 + a1).toNatClampNeg → (V_X11_goesNow h0 n0 a1 s0 (fun r2 s2 => Y 13 [v1, r2] [] s2)))
/-- what is to hold at 13 of X11_goesTo -/
def B_X11_goesTo_13 (h0 : Nat) (n0 : Nat) (a1 : Int32) (Q : Int32 → St → Prop) (Y : Nat → List Int32 → List Int64 → St → Prop) (x2 : Int32) (x3 : Int32) (s0 : St) : Prop :=
  (x3 ≤ 0 → (Q x2 s0)) ∧ (¬ x3 ≤ 0 → ((23 ≤ x2 → (Q x2 s0)) ∧ (¬ 23 ≤ x2 → (V_X11_behind h0 n0 x2 s0 (fun r1 s1 => (¬ r1 = ((-1)) → (Q x2 s1)) ∧ (r1 = ((-1)) → (Y 13 [x2 + 1, x3 + (-1)] [] s1)))))))
def T_X11_goesTo (h0 : Nat) (n0 : Nat) (a1 : Int32) (Q : Int32 → St → Prop) (Y : Nat → List Int32 → List Int64 → St → Prop) (P : Nat) (xs : List Int32) (ys : List Int64) (s0 : St) : Prop :=
  (P = 13 ∧ ∃ (x2 : Int32) (x3 : Int32), xs = [x2, x3] ∧ ys = [] ∧ B_X11_goesTo_13 h0 n0 a1 Q Y x2 x3 s0)
def R_X11_goesTo (h0 : Nat) (n0 : Nat) (a1 : Int32) (Q : Int32 → St → Prop) : Nat → List Int32 → List Int64 → St → Prop := Fx (T_X11_goesTo h0 n0 a1 Q)
theorem i_X11_goesTo_13 (h0 : Nat) (n0 : Nat) (a1 : Int32) (Q : Int32 → St → Prop) (x2 : Int32) (x3 : Int32) (s0 : St) (h : B_X11_goesTo_13 h0 n0 a1 Q (R_X11_goesTo h0 n0 a1 Q) x2 x3 s0) : R_X11_goesTo h0 n0 a1 Q 13 [x2, x3] [] s0 := Fx.intro (⟨rfl, x2, x3, rfl, rfl, h⟩)
def V_X11_goesTo (h0 : Nat) (n0 : Nat) (a1 : Int32) (s0 : St) (Q : Int32 → St → Prop) : Prop := B_X11_goesTo_e h0 n0 a1 Q (R_X11_goesTo h0 n0 a1 Q)  s0
/-- what is to hold at the entry of X11_letsOf -/
def B_X11_letsOf_e (h0 : Nat) (n0 : Nat) (a1 : Int32) (Q : Int32 → St → Prop) (Y : Nat → List Int32 → List Int64 → St → Prop)  (s0 : St) : Prop :=
  vp_in 1 n0 ∧ (((s0 h0 1) ≤ a1 → (Q 0 s0)) ∧ (¬ (s0 h0 1) ≤ a1 → (vp_in 14 n0 ∧ (V_X11_has (s0 h0 14) a1 s0 (fun r1 s1 => (r1 = 0 → (vp_in (40 + a1) n0 ∧ (V_X11_manyAt h0 n0 (s1 h0 (40 + a1).toNatClampNeg) s1 (fun r2 s2 => (¬ r2 = 0 → (vp_in (37 + a1) n0 ∧ (vp_in 15 n0 ∧ (V_X11_letsAs (s2 h0 (37 + a1).toNatClampNeg) (s2 h0 15) r2 s2 (fun r3 s3 => Q r3 s3))))) ∧ (r2 = 0 → (Q 0 s2)))))) ∧ (¬ r1 = 0 → (Q 0 s1)))))))
def T_X11_letsOf (h0 : Nat) (n0 : Nat) (a1 : Int32) (Q : Int32 → St → Prop) (Y : Nat → List Int32 → List Int64 → St → Prop) (P : Nat) (xs : List Int32) (ys : List Int64) (s0 : St) : Prop :=
  False
def R_X11_letsOf (h0 : Nat) (n0 : Nat) (a1 : Int32) (Q : Int32 → St → Prop) : Nat → List Int32 → List Int64 → St → Prop := Fx (T_X11_letsOf h0 n0 a1 Q)
def V_X11_letsOf (h0 : Nat) (n0 : Nat) (a1 : Int32) (s0 : St) (Q : Int32 → St → Prop) : Prop := B_X11_letsOf_e h0 n0 a1 Q (R_X11_letsOf h0 n0 a1 Q)  s0
/-- what is to hold at the entry of X11_goHour -/
def B_X11_goHour_e (h0 : Nat) (n0 : Nat) (Q : St → Prop) (Y : Nat → List Int32 → List Int64 → St → Prop)  (s0 : St) : Prop :=
  V_X11_letsOf h0 n0 0 s0 (fun r1 s1 => V_X11_letsOf h0 n0 1 s1 (fun r2 s2 => V_X11_letsOf h0 n0 2 s2 (fun r3 s3 => Y 21 [r1, r2, r3, 0] [] s3)))
/-- what is to hold at 21 of X11_goHour -/
def B_X11_goHour_21 (h0 : Nat) (n0 : Nat) (Q : St → Prop) (Y : Nat → List Int32 → List Int64 → St → Prop) (x1 : Int32) (x2 : Int32) (x3 : Int32) (x4 : Int32) (s0 : St) : Prop :=
  vp_in 0 n0 ∧ (((s0 h0 0) ≤ x4 → (vp_in 15 n0 ∧ (vp_in 15 n0 ∧ (∀ s1, s1 = us s0 h0 (upd (s0 h0) 15 ((s0 h0 15) + 1)) → (Q s1))))) ∧ (¬ (s0 h0 0) ≤ x4 → (vp_in (6 + x4) n0 ∧ (V_X11_behind h0 n0 (s0 h0 (6 + x4).toNatClampNeg) s0 (fun r2 s2 => (¬ r2 = ((-1)) → ((¬ r2 = 0 → ((¬ r2 = 1 → (Y 84 [x1, x2, x3, x4, r2, x3] [] s2)) ∧ (r2 = 1 → (Y 84 [x1, x2, x3, x4, r2, x2] [] s2)))) ∧ (r2 = 0 → (Y 84 [x1, x2, x3, x4, r2, x1] [] s2)))) ∧ (r2 = ((-1)) → (V_X11_goesTo h0 n0 x4 s2 (fun r3 s3 => vp_in (6 + x4) n0 ∧ (∀ s4, s4 = us s3 h0 (upd (s3 h0) (6 + x4).toNatClampNeg r3) → (Y 21 [x1, x2, x3, x4 + 1] [] s4))))))))))
/-- what is to hold at 84 of X11_goHour -/
def B_X11_goHour_84 (h0 : Nat) (n0 : Nat) (Q : St → Prop) (Y : Nat → List Int32 → List Int64 → St → Prop) (x1 : Int32) (x2 : Int32) (x3 : Int32) (x4 : Int32) (x5 : Int32) (t0 : Int32) (s0 : St) : Prop :=
  vp_in (6 + x4) n0 ∧ ((t0 ≤ 0 → (Y 104 [x1, x2, x3, x4, x5, 0, s0 h0 (6 + x4).toNatClampNeg, 6 + x4] [] s0)) ∧ (¬ t0 ≤ 0 → (Y 104 [x1, x2, x3, x4, x5, 1, s0 h0 (6 + x4).toNatClampNeg, 6 + x4] [] s0)))
/-- what is to hold at 104 of X11_goHour -/
def B_X11_goHour_104 (h0 : Nat) (n0 : Nat) (Q : St → Prop) (Y : Nat → List Int32 → List Int64 → St → Prop) (x1 : Int32) (x2 : Int32) (x3 : Int32) (x4 : Int32) (x5 : Int32) (t0 : Int32) (t1 : Int32) (t2 : Int32) (s0 : St) : Prop :=
  vp_in t2 n0 ∧ (∀ s1, s1 = us s0 h0 (upd (s0 h0) t2.toNatClampNeg (t1 + t0)) → ((¬ x5 = 0 → (Y 117 [x2, x3, x4, x5, 0, x1] [] s1)) ∧ (x5 = 0 → (Y 117 [x2, x3, x4, x5, 1, x1] [] s1))))
/-- what is to hold at 117 of X11_goHour -/
def B_X11_goHour_117 (h0 : Nat) (n0 : Nat) (Q : St → Prop) (Y : Nat → List Int32 → List Int64 → St → Prop) (x2 : Int32) (x3 : Int32) (x4 : Int32) (x5 : Int32) (t0 : Int32) (t1 : Int32) (s0 : St) : Prop :=
  (¬ x5 = 1 → (Y 131 [t1 - t0, x3, x4, x5, 0, x2] [] s0)) ∧ (x5 = 1 → (Y 131 [t1 - t0, x3, x4, x5, 1, x2] [] s0))
/-- what is to hold at 131 of X11_goHour -/
def B_X11_goHour_131 (h0 : Nat) (n0 : Nat) (Q : St → Prop) (Y : Nat → List Int32 → List Int64 → St → Prop) (x1 : Int32) (x3 : Int32) (x4 : Int32) (x5 : Int32) (t0 : Int32) (t1 : Int32) (s0 : St) : Prop :=
  (¬ x5 = 2 → (Y 21 [x1, t1 - t0, x3 - 0, x4 + 1] [] s0)) ∧ (x5 = 2 → (Y 21 [x1, t1 - t0, x3 - 1, x4 + 1] [] s0))
def T_X11_goHour (h0 : Nat) (n0 : Nat) (Q : St → Prop) (Y : Nat → List Int32 → List Int64 → St → Prop) (P : Nat) (xs : List Int32) (ys : List Int64) (s0 : St) : Prop :=
  (P = 21 ∧ ∃ (x1 : Int32) (x2 : Int32) (x3 : Int32) (x4 : Int32), xs = [x1, x2, x3, x4] ∧ ys = [] ∧ B_X11_goHour_21 h0 n0 Q Y x1 x2 x3 x4 s0) ∨ (P = 84 ∧ ∃ (x1 : Int32) (x2 : Int32) (x3 : Int32) (x4 : Int32) (x5 : Int32) (t0 : Int32), xs = [x1, x2, x3, x4, x5, t0] ∧ ys = [] ∧ B_X11_goHour_84 h0 n0 Q Y x1 x2 x3 x4 x5 t0 s0) ∨ (P = 104 ∧ ∃ (x1 : Int32) (x2 : Int32) (x3 : Int32) (x4 : Int32) (x5 : Int32) (t0 : Int32) (t1 : Int32) (t2 : Int32), xs = [x1, x2, x3, x4, x5, t0, t1, t2] ∧ ys = [] ∧ B_X11_goHour_104 h0 n0 Q Y x1 x2 x3 x4 x5 t0 t1 t2 s0) ∨ (P = 117 ∧ ∃ (x2 : Int32) (x3 : Int32) (x4 : Int32) (x5 : Int32) (t0 : Int32) (t1 : Int32), xs = [x2, x3, x4, x5, t0, t1] ∧ ys = [] ∧ B_X11_goHour_117 h0 n0 Q Y x2 x3 x4 x5 t0 t1 s0) ∨ (P = 131 ∧ ∃ (x1 : Int32) (x3 : Int32) (x4 : Int32) (x5 : Int32) (t0 : Int32) (t1 : Int32), xs = [x1, x3, x4, x5, t0, t1] ∧ ys = [] ∧ B_X11_goHour_131 h0 n0 Q Y x1 x3 x4 x5 t0 t1 s0)
def R_X11_goHour (h0 : Nat) (n0 : Nat) (Q : St → Prop) : Nat → List Int32 → List Int64 → St → Prop := Fx (T_X11_goHour h0 n0 Q)
theorem i_X11_goHour_21 (h0 : Nat) (n0 : Nat) (Q : St → Prop) (x1 : Int32) (x2 : Int32) (x3 : Int32) (x4 : Int32) (s0 : St) (h : B_X11_goHour_21 h0 n0 Q (R_X11_goHour h0 n0 Q) x1 x2 x3 x4 s0) : R_X11_goHour h0 n0 Q 21 [x1, x2, x3, x4] [] s0 := Fx.intro (Or.inl ⟨rfl, x1, x2, x3, x4, rfl, rfl, h⟩)
theorem i_X11_goHour_84 (h0 : Nat) (n0 : Nat) (Q : St → Prop) (x1 : Int32) (x2 : Int32) (x3 : Int32) (x4 : Int32) (x5 : Int32) (t0 : Int32) (s0 : St) (h : B_X11_goHour_84 h0 n0 Q (R_X11_goHour h0 n0 Q) x1 x2 x3 x4 x5 t0 s0) : R_X11_goHour h0 n0 Q 84 [x1, x2, x3, x4, x5, t0] [] s0 := Fx.intro (Or.inr (Or.inl ⟨rfl, x1, x2, x3, x4, x5, t0, rfl, rfl, h⟩))
theorem i_X11_goHour_104 (h0 : Nat) (n0 : Nat) (Q : St → Prop) (x1 : Int32) (x2 : Int32) (x3 : Int32) (x4 : Int32) (x5 : Int32) (t0 : Int32) (t1 : Int32) (t2 : Int32) (s0 : St) (h : B_X11_goHour_104 h0 n0 Q (R_X11_goHour h0 n0 Q) x1 x2 x3 x4 x5 t0 t1 t2 s0) : R_X11_goHour h0 n0 Q 104 [x1, x2, x3, x4, x5, t0, t1, t2] [] s0 := Fx.intro (Or.inr (Or.inr (Or.inl ⟨rfl, x1, x2, x3, x4, x5, t0, t1, t2, rfl, rfl, h⟩)))
theorem i_X11_goHour_117 (h0 : Nat) (n0 : Nat) (Q : St → Prop) (x2 : Int32) (x3 : Int32) (x4 : Int32) (x5 : Int32) (t0 : Int32) (t1 : Int32) (s0 : St) (h : B_X11_goHour_117 h0 n0 Q (R_X11_goHour h0 n0 Q) x2 x3 x4 x5 t0 t1 s0) : R_X11_goHour h0 n0 Q 117 [x2, x3, x4, x5, t0, t1] [] s0 := Fx.intro (Or.inr (Or.inr (Or.inr (Or.inl ⟨rfl, x2, x3, x4, x5, t0, t1, rfl, rfl, h⟩))))
theorem i_X11_goHour_131 (h0 : Nat) (n0 : Nat) (Q : St → Prop) (x1 : Int32) (x3 : Int32) (x4 : Int32) (x5 : Int32) (t0 : Int32) (t1 : Int32) (s0 : St) (h : B_X11_goHour_131 h0 n0 Q (R_X11_goHour h0 n0 Q) x1 x3 x4 x5 t0 t1 s0) : R_X11_goHour h0 n0 Q 131 [x1, x3, x4, x5, t0, t1] [] s0 := Fx.intro (Or.inr (Or.inr (Or.inr (Or.inr (⟨rfl, x1, x3, x4, x5, t0, t1, rfl, rfl, h⟩)))))
def V_X11_goHour (h0 : Nat) (n0 : Nat) (s0 : St) (Q : St → Prop) : Prop := B_X11_goHour_e h0 n0 Q (R_X11_goHour h0 n0 Q)  s0
/-- what is to hold at the entry of X11_goHours -/
def B_X11_goHours_e (h0 : Nat) (n0 : Nat) (a1 : Int32) (Q : St → Prop) (Y : Nat → List Int32 → List Int64 → St → Prop)  (s0 : St) : Prop :=
  Y 2 [0] [] s0
/-- what is to hold at 2 of X11_goHours -/
def B_X11_goHours_2 (h0 : Nat) (n0 : Nat) (a1 : Int32) (Q : St → Prop) (Y : Nat → List Int32 → List Int64 → St → Prop) (x2 : Int32) (s0 : St) : Prop :=
  (a1 ≤ x2 → (Q s0)) ∧ (¬ a1 ≤ x2 → (vp_in 15 n0 ∧ ((9999 ≤ (s0 h0 15) → (Q s0)) ∧ (¬ 9999 ≤ (s0 h0 15) → (V_X11_goHour h0 n0 s0 (fun s1 => Y 2 [x2 + 1] [] s1))))))
def T_X11_goHours (h0 : Nat) (n0 : Nat) (a1 : Int32) (Q : St → Prop) (Y : Nat → List Int32 → List Int64 → St → Prop) (P : Nat) (xs : List Int32) (ys : List Int64) (s0 : St) : Prop :=
  (P = 2 ∧ ∃ (x2 : Int32), xs = [x2] ∧ ys = [] ∧ B_X11_goHours_2 h0 n0 a1 Q Y x2 s0)
def R_X11_goHours (h0 : Nat) (n0 : Nat) (a1 : Int32) (Q : St → Prop) : Nat → List Int32 → List Int64 → St → Prop := Fx (T_X11_goHours h0 n0 a1 Q)
theorem i_X11_goHours_2 (h0 : Nat) (n0 : Nat) (a1 : Int32) (Q : St → Prop) (x2 : Int32) (s0 : St) (h : B_X11_goHours_2 h0 n0 a1 Q (R_X11_goHours h0 n0 a1 Q) x2 s0) : R_X11_goHours h0 n0 a1 Q 2 [x2] [] s0 := Fx.intro (⟨rfl, x2, rfl, rfl, h⟩)
def V_X11_goHours (h0 : Nat) (n0 : Nat) (a1 : Int32) (s0 : St) (Q : St → Prop) : Prop := B_X11_goHours_e h0 n0 a1 Q (R_X11_goHours h0 n0 a1 Q)  s0
theorem kX11_save_1 : Cond.fieldLink RX11 7 "GloveRailModel" "all" "[I" ∈ wsX11_save := List.mem_of_getElem? (i := 1) rfl
theorem iwX11_save_X11 : ∀ w ∈ wsX110, w ∈ wsX11_save := fun _ h => List.mem_cons_of_mem _ (List.mem_append_right _ h)
/-- what is to hold at the entry of X11_save -/
def B_X11_save_e  (Q : St → Prop) (Y : Nat → List Int32 → List Int64 → St → Prop)  (s0 : St) : Prop :=
  (¬ (s0 1 5) = 8 → (Y 53 [0] [] s0)) ∧ ((s0 1 5) = 8 → (Y 13 [0] [] s0))
/-- what is to hold at 13 of X11_save -/
def B_X11_save_13  (Q : St → Prop) (Y : Nat → List Int32 → List Int64 → St → Prop) (x1 : Int32) (s0 : St) : Prop :=
  (70 ≤ x1 → (∀ s1, s1 = us s0 1 (upd (s0 1) 5 7) → (Y 53 [0] [] s1))) ∧ (¬ 70 ≤ x1 → (vp_in (111 + x1) 181 ∧ (vp_in (101 + x1) 181 ∧ (∀ s2, s2 = us s0 1 (upd (s0 1) (101 + x1).toNatClampNeg (s0 1 (111 + x1).toNatClampNeg)) → (Y 13 [x1 + 1] [] s2)))))
/-- what is to hold at 53 of X11_save -/
def B_X11_save_53  (Q : St → Prop) (Y : Nat → List Int32 → List Int64 → St → Prop) (x1 : Int32) (s0 : St) : Prop :=
  (10 ≤ x1 → (∀ s1, s1 = us s0 1 (upd (s0 1) 5 ((s0 1 5) + 1)) → (Q s1))) ∧ (¬ 10 ≤ x1 → (vp_in (6 + x1) 181 ∧ (vp_in ((101 + (10 * (s0 1 5))) + x1) 181 ∧ (∀ s2, s2 = us s0 1 (upd (s0 1) ((101 + (10 * (s0 1 5))) + x1).toNatClampNeg (s0 1 (6 + x1).toNatClampNeg)) → (Y 53 [x1 + 1] [] s2)))))
def T_X11_save  (Q : St → Prop) (Y : Nat → List Int32 → List Int64 → St → Prop) (P : Nat) (xs : List Int32) (ys : List Int64) (s0 : St) : Prop :=
  (P = 13 ∧ ∃ (x1 : Int32), xs = [x1] ∧ ys = [] ∧ B_X11_save_13  Q Y x1 s0) ∨ (P = 53 ∧ ∃ (x1 : Int32), xs = [x1] ∧ ys = [] ∧ B_X11_save_53  Q Y x1 s0)
def R_X11_save  (Q : St → Prop) : Nat → List Int32 → List Int64 → St → Prop := Fx (T_X11_save  Q)
theorem i_X11_save_13  (Q : St → Prop) (x1 : Int32) (s0 : St) (h : B_X11_save_13  Q (R_X11_save  Q) x1 s0) : R_X11_save  Q 13 [x1] [] s0 := Fx.intro (Or.inl ⟨rfl, x1, rfl, rfl, h⟩)
theorem i_X11_save_53  (Q : St → Prop) (x1 : Int32) (s0 : St) (h : B_X11_save_53  Q (R_X11_save  Q) x1 s0) : R_X11_save  Q 53 [x1] [] s0 := Fx.intro (Or.inr (⟨rfl, x1, rfl, rfl, h⟩))
def V_X11_save  (s0 : St) (Q : St → Prop) : Prop := B_X11_save_e  Q (R_X11_save  Q)  s0
theorem kX11_hours_1 : Cond.constantLong RX11 125 (60) ∈ wsX11_hours := List.mem_of_getElem? (i := 1) rfl
theorem kX11_hours_2 : Cond.fieldLink RX11 7 "GloveRailModel" "all" "[I" ∈ wsX11_hours := List.mem_of_getElem? (i := 2) rfl
theorem iwX11_hours_X11 : ∀ w ∈ wsX110, w ∈ wsX11_hours := fun _ h => List.mem_cons_of_mem _ (List.mem_append_right _ h)
/-- what is to hold at the entry of X11_hours -/
def B_X11_hours_e (a1 : Int32) (Q : Int32 → St → Prop) (Y : Nat → List Int32 → List Int64 → St → Prop)  (s0 : St) : Prop :=
  V_X11_in a1.toInt64 1 60 s0 (fun r1 s1 => (¬ r1 = 0 → (V_X11_save  s1 (fun s2 => V_X11_goHours 1 181 a1 s2 (fun s3 => V_X11_manyAt 1 181 23 s3 (fun r4 s4 => Q r4 s4))))) ∧ (r1 = 0 → (V_X11_bad ((-2)) s1 (fun r5 s5 => Q r5 s5))))
def T_X11_hours (a1 : Int32) (Q : Int32 → St → Prop) (Y : Nat → List Int32 → List Int64 → St → Prop) (P : Nat) (xs : List Int32) (ys : List Int64) (s0 : St) : Prop :=
  False
def R_X11_hours (a1 : Int32) (Q : Int32 → St → Prop) : Nat → List Int32 → List Int64 → St → Prop := Fx (T_X11_hours a1 Q)
def V_X11_hours (a1 : Int32) (s0 : St) (Q : Int32 → St → Prop) : Prop := B_X11_hours_e a1 Q (R_X11_hours a1 Q)  s0
theorem kX11_shuts_1 : Cond.fieldLink RX11 7 "GloveRailModel" "all" "[I" ∈ wsX11_shuts := List.mem_of_getElem? (i := 1) rfl
theorem iwX11_shuts_X11 : ∀ w ∈ wsX110, w ∈ wsX11_shuts := fun _ h => List.mem_cons_of_mem _ (List.mem_append_right _ h)
/-- what is to hold at the entry of X11_shuts -/
def B_X11_shuts_e (a1 : Int32) (Q : Int32 → St → Prop) (Y : Nat → List Int32 → List Int64 → St → Prop)  (s0 : St) : Prop :=
  V_X11_isCrossing a1 s0 (fun r1 s1 => (¬ r1 = 0 → (V_X11_save  s1 (fun s2 => ∀ s3, s3 = us s2 1 (upd (s2 1) 14 ((s2 1 14) ^^^ ((1 : Int32) <<< (a1 &&& 31)))) → (Q (((s3 1 14) >>> (a1 &&& 31)) &&& 1) s3)))) ∧ (r1 = 0 → (V_X11_bad ((-2)) s1 (fun r4 s4 => Q r4 s4))))
def T_X11_shuts (a1 : Int32) (Q : Int32 → St → Prop) (Y : Nat → List Int32 → List Int64 → St → Prop) (P : Nat) (xs : List Int32) (ys : List Int64) (s0 : St) : Prop :=
  False
def R_X11_shuts (a1 : Int32) (Q : Int32 → St → Prop) : Nat → List Int32 → List Int64 → St → Prop := Fx (T_X11_shuts a1 Q)
def V_X11_shuts (a1 : Int32) (s0 : St) (Q : Int32 → St → Prop) : Prop := B_X11_shuts_e a1 Q (R_X11_shuts a1 Q)  s0
theorem kX11_undo_1 : Cond.fieldLink RX11 7 "GloveRailModel" "all" "[I" ∈ wsX11_undo := List.mem_of_getElem? (i := 1) rfl
theorem iwX11_undo_X11 : ∀ w ∈ wsX110, w ∈ wsX11_undo := fun _ h => List.mem_cons_of_mem _ (List.mem_append_right _ h)
/-- what is to hold at the entry of X11_undo -/
def B_X11_undo_e  (Q : Int32 → St → Prop) (Y : Nat → List Int32 → List Int64 → St → Prop)  (s0 : St) : Prop :=
  (¬ (s0 1 5) = 0 → (∀ s1, s1 = us s0 1 (upd (s0 1) 5 ((s0 1 5) - 1)) → (Y 26 [0] [] s1))) ∧ ((s0 1 5) = 0 → (V_X11_no  s0 (fun r2 s2 => Q r2 s2)))
/-- what is to hold at 26 of X11_undo -/
def B_X11_undo_26  (Q : Int32 → St → Prop) (Y : Nat → List Int32 → List Int64 → St → Prop) (x1 : Int32) (s0 : St) : Prop :=
  (10 ≤ x1 → (Q (s0 1 15) s0)) ∧ (¬ 10 ≤ x1 → (vp_in ((101 + (10 * (s0 1 5))) + x1) 181 ∧ (vp_in (6 + x1) 181 ∧ (∀ s1, s1 = us s0 1 (upd (s0 1) (6 + x1).toNatClampNeg (s0 1 ((101 + (10 * (s0 1 5))) + x1).toNatClampNeg)) → (Y 26 [x1 + 1] [] s1)))))
def T_X11_undo  (Q : Int32 → St → Prop) (Y : Nat → List Int32 → List Int64 → St → Prop) (P : Nat) (xs : List Int32) (ys : List Int64) (s0 : St) : Prop :=
  (P = 26 ∧ ∃ (x1 : Int32), xs = [x1] ∧ ys = [] ∧ B_X11_undo_26  Q Y x1 s0)
def R_X11_undo  (Q : Int32 → St → Prop) : Nat → List Int32 → List Int64 → St → Prop := Fx (T_X11_undo  Q)
theorem i_X11_undo_26  (Q : Int32 → St → Prop) (x1 : Int32) (s0 : St) (h : B_X11_undo_26  Q (R_X11_undo  Q) x1 s0) : R_X11_undo  Q 26 [x1] [] s0 := Fx.intro (⟨rfl, x1, rfl, rfl, h⟩)
def V_X11_undo  (s0 : St) (Q : Int32 → St → Prop) : Prop := B_X11_undo_e  Q (R_X11_undo  Q)  s0
theorem kX11_of_1 : Cond.constantLong RX11 62 (4) ∈ wsX11_of := List.mem_of_getElem? (i := 1) rfl
theorem kX11_of_2 : Cond.fieldLink RX11 7 "GloveRailModel" "all" "[I" ∈ wsX11_of := List.mem_of_getElem? (i := 2) rfl
theorem iwX11_of_X11 : ∀ w ∈ wsX110, w ∈ wsX11_of := fun _ h => List.mem_cons_of_mem _ (List.mem_append_right _ h)
/-- what is to hold at the entry of X11_of -/
def B_X11_of_e (a1 : Int32) (a2 : Int32) (Q : Int32 → St → Prop) (Y : Nat → List Int32 → List Int64 → St → Prop)  (s0 : St) : Prop :=
  V_X11_isGlove a1 s0 (fun r1 s1 => (r1 = 0 → (Y 20 [] [] s1)) ∧ (¬ r1 = 0 → (V_X11_in a2.toInt64 0 4 s1 (fun r2 s2 => (¬ r2 = 0 → ((a2 = 0 → (vp_in (22 + a1) 181 ∧ (Q (s2 1 (22 + a1).toNatClampNeg) s2))) ∧ (¬ a2 = 0 → ((a2 = 1 → (vp_in (30 + a1) 181 ∧ (Q (s2 1 (30 + a1).toNatClampNeg) s2))) ∧ (¬ a2 = 1 → ((a2 = 2 → (vp_in (6 + a1) 181 ∧ (Q (s2 1 (6 + a1).toNatClampNeg) s2))) ∧ (¬ a2 = 2 → ((a2 = 3 → (V_X11_waits 1 181 a1 s2 (fun r3 s3 => (r3 = 0 → (Q 0 s3)) ∧ (¬ r3 = 0 → (Q 1 s3))))) ∧ (¬ a2 = 3 → (V_X11_goesNow 1 181 a1 s2 (fun r4 s4 => Q r4 s4))))))))))) ∧ (r2 = 0 → (Y 20 [] [] s2))))))
/-- what is to hold at 20 of X11_of -/
def B_X11_of_20 (a1 : Int32) (a2 : Int32) (Q : Int32 → St → Prop) (Y : Nat → List Int32 → List Int64 → St → Prop)  (s0 : St) : Prop :=
  V_X11_bad ((-2)) s0 (fun r1 s1 => Q r1 s1)
def T_X11_of (a1 : Int32) (a2 : Int32) (Q : Int32 → St → Prop) (Y : Nat → List Int32 → List Int64 → St → Prop) (P : Nat) (xs : List Int32) (ys : List Int64) (s0 : St) : Prop :=
  (P = 20 ∧ xs = [] ∧ ys = [] ∧ B_X11_of_20 a1 a2 Q Y  s0)
def R_X11_of (a1 : Int32) (a2 : Int32) (Q : Int32 → St → Prop) : Nat → List Int32 → List Int64 → St → Prop := Fx (T_X11_of a1 a2 Q)
theorem i_X11_of_20 (a1 : Int32) (a2 : Int32) (Q : Int32 → St → Prop)  (s0 : St) (h : B_X11_of_20 a1 a2 Q (R_X11_of a1 a2 Q)  s0) : R_X11_of a1 a2 Q 20 [] [] s0 := Fx.intro (⟨rfl, rfl, rfl, h⟩)
def V_X11_of (a1 : Int32) (a2 : Int32) (s0 : St) (Q : Int32 → St → Prop) : Prop := B_X11_of_e a1 a2 Q (R_X11_of a1 a2 Q)  s0
theorem kX11_about_1 : Cond.constantLong RX11 62 (4) ∈ wsX11_about := List.mem_of_getElem? (i := 1) rfl
theorem kX11_about_2 : Cond.fieldLink RX11 7 "GloveRailModel" "all" "[I" ∈ wsX11_about := List.mem_of_getElem? (i := 2) rfl
theorem iwX11_about_X11 : ∀ w ∈ wsX110, w ∈ wsX11_about := fun _ h => List.mem_cons_of_mem _ (List.mem_append_right _ h)
/-- what is to hold at the entry of X11_about -/
def B_X11_about_e (a1 : Int32) (a2 : Int32) (Q : Int32 → St → Prop) (Y : Nat → List Int32 → List Int64 → St → Prop)  (s0 : St) : Prop :=
  V_X11_isCrossing a1 s0 (fun r1 s1 => (r1 = 0 → (Y 20 [] [] s1)) ∧ (¬ r1 = 0 → (V_X11_in a2.toInt64 0 4 s1 (fun r2 s2 => (¬ r2 = 0 → (vp_in (40 + a1) 181 ∧ (V_X11_manyAt 1 181 (s2 1 (40 + a1).toNatClampNeg) s2 (fun r3 s3 => (a2 = 0 → (vp_in (37 + a1) 181 ∧ (Q (s3 1 (37 + a1).toNatClampNeg) s3))) ∧ (¬ a2 = 0 → ((a2 = 1 → (vp_in (40 + a1) 181 ∧ (Q (s3 1 (40 + a1).toNatClampNeg) s3))) ∧ (¬ a2 = 1 → ((a2 = 2 → (Q (((s3 1 14) >>> (a1 &&& 31)) &&& 1) s3)) ∧ (¬ a2 = 2 → ((a2 = 3 → (Q r3 s3)) ∧ (¬ a2 = 3 → ((¬ r3 = 0 → (vp_in (37 + a1) 181 ∧ (V_X11_letsAs (s3 1 (37 + a1).toNatClampNeg) (s3 1 15) r3 s3 (fun r4 s4 => Q r4 s4)))) ∧ (r3 = 0 → (Q 0 s3)))))))))))))) ∧ (r2 = 0 → (Y 20 [] [] s2))))))
/-- what is to hold at 20 of X11_about -/
def B_X11_about_20 (a1 : Int32) (a2 : Int32) (Q : Int32 → St → Prop) (Y : Nat → List Int32 → List Int64 → St → Prop)  (s0 : St) : Prop :=
  V_X11_bad ((-2)) s0 (fun r1 s1 => Q r1 s1)
def T_X11_about (a1 : Int32) (a2 : Int32) (Q : Int32 → St → Prop) (Y : Nat → List Int32 → List Int64 → St → Prop) (P : Nat) (xs : List Int32) (ys : List Int64) (s0 : St) : Prop :=
  (P = 20 ∧ xs = [] ∧ ys = [] ∧ B_X11_about_20 a1 a2 Q Y  s0)
def R_X11_about (a1 : Int32) (a2 : Int32) (Q : Int32 → St → Prop) : Nat → List Int32 → List Int64 → St → Prop := Fx (T_X11_about a1 a2 Q)
theorem i_X11_about_20 (a1 : Int32) (a2 : Int32) (Q : Int32 → St → Prop)  (s0 : St) (h : B_X11_about_20 a1 a2 Q (R_X11_about a1 a2 Q)  s0) : R_X11_about a1 a2 Q 20 [] [] s0 := Fx.intro (⟨rfl, rfl, rfl, h⟩)
def V_X11_about (a1 : Int32) (a2 : Int32) (s0 : St) (Q : Int32 → St → Prop) : Prop := B_X11_about_e a1 a2 Q (R_X11_about a1 a2 Q)  s0
theorem kX11_layHand_1 : Cond.fieldLink RX11 27 "GloveRailModel" "hand" "[I" ∈ wsX11_layHand := List.mem_of_getElem? (i := 1) rfl
theorem kX11_layHand_2 : Cond.fieldLink RX11 7 "GloveRailModel" "all" "[I" ∈ wsX11_layHand := List.mem_of_getElem? (i := 2) rfl
theorem iwX11_layHand_X11 : ∀ w ∈ wsX110, w ∈ wsX11_layHand := fun _ h => List.mem_cons_of_mem _ (List.mem_append_right _ h)
/-- what is to hold at the entry of X11_layHand -/
def B_X11_layHand_e  (Q : St → Prop) (Y : Nat → List Int32 → List Int64 → St → Prop)  (s0 : St) : Prop :=
  Y 2 [0] [] s0
/-- what is to hold at 2 of X11_layHand -/
def B_X11_layHand_2  (Q : St → Prop) (Y : Nat → List Int32 → List Int64 → St → Prop) (x1 : Int32) (s0 : St) : Prop :=
  (43 ≤ x1 → (Q s0)) ∧ (¬ 43 ≤ x1 → (vp_in x1 181 ∧ (vp_in x1 43 ∧ (∀ s1, s1 = us s0 5 (upd (s0 5) x1.toNatClampNeg (s0 1 x1.toNatClampNeg)) → (Y 2 [x1 + 1] [] s1)))))
def T_X11_layHand  (Q : St → Prop) (Y : Nat → List Int32 → List Int64 → St → Prop) (P : Nat) (xs : List Int32) (ys : List Int64) (s0 : St) : Prop :=
  (P = 2 ∧ ∃ (x1 : Int32), xs = [x1] ∧ ys = [] ∧ B_X11_layHand_2  Q Y x1 s0)
def R_X11_layHand  (Q : St → Prop) : Nat → List Int32 → List Int64 → St → Prop := Fx (T_X11_layHand  Q)
theorem i_X11_layHand_2  (Q : St → Prop) (x1 : Int32) (s0 : St) (h : B_X11_layHand_2  Q (R_X11_layHand  Q) x1 s0) : R_X11_layHand  Q 2 [x1] [] s0 := Fx.intro (⟨rfl, x1, rfl, rfl, h⟩)
def V_X11_layHand  (s0 : St) (Q : St → Prop) : Prop := B_X11_layHand_e  Q (R_X11_layHand  Q)  s0
theorem kX11_goAhead_1 : Cond.fieldLink RX11 27 "GloveRailModel" "hand" "[I" ∈ wsX11_goAhead := List.mem_of_getElem? (i := 1) rfl
theorem iwX11_goAhead_X11 : ∀ w ∈ wsX110, w ∈ wsX11_goAhead := fun _ h => List.mem_cons_of_mem _ (List.mem_append_right _ h)
/-- what is to hold at the entry of X11_goAhead -/
def B_X11_goAhead_e (a1 : Int32) (Q : St → Prop) (Y : Nat → List Int32 → List Int64 → St → Prop)  (s0 : St) : Prop :=
  Y 2 [0] [] s0
/-- what is to hold at 2 of X11_goAhead -/
def B_X11_goAhead_2 (a1 : Int32) (Q : St → Prop) (Y : Nat → List Int32 → List Int64 → St → Prop) (x2 : Int32) (s0 : St) : Prop :=
  (a1 ≤ x2 → (Q s0)) ∧ (¬ a1 ≤ x2 → (V_X11_goHour 5 43 s0 (fun s1 => Y 2 [x2 + 1] [] s1)))
def T_X11_goAhead (a1 : Int32) (Q : St → Prop) (Y : Nat → List Int32 → List Int64 → St → Prop) (P : Nat) (xs : List Int32) (ys : List Int64) (s0 : St) : Prop :=
  (P = 2 ∧ ∃ (x2 : Int32), xs = [x2] ∧ ys = [] ∧ B_X11_goAhead_2 a1 Q Y x2 s0)
def R_X11_goAhead (a1 : Int32) (Q : St → Prop) : Nat → List Int32 → List Int64 → St → Prop := Fx (T_X11_goAhead a1 Q)
theorem i_X11_goAhead_2 (a1 : Int32) (Q : St → Prop) (x2 : Int32) (s0 : St) (h : B_X11_goAhead_2 a1 Q (R_X11_goAhead a1 Q) x2 s0) : R_X11_goAhead a1 Q 2 [x2] [] s0 := Fx.intro (⟨rfl, x2, rfl, rfl, h⟩)
def V_X11_goAhead (a1 : Int32) (s0 : St) (Q : St → Prop) : Prop := B_X11_goAhead_e a1 Q (R_X11_goAhead a1 Q)  s0
theorem kX11_where_1 : Cond.constantLong RX11 125 (60) ∈ wsX11_where := List.mem_of_getElem? (i := 1) rfl
theorem kX11_where_2 : Cond.fieldLink RX11 27 "GloveRailModel" "hand" "[I" ∈ wsX11_where := List.mem_of_getElem? (i := 2) rfl
theorem iwX11_where_X11 : ∀ w ∈ wsX110, w ∈ wsX11_where := fun _ h => List.mem_cons_of_mem _ (List.mem_append_right _ h)
/-- what is to hold at the entry of X11_where -/
def B_X11_where_e (a1 : Int32) (a2 : Int32) (Q : Int32 → St → Prop) (Y : Nat → List Int32 → List Int64 → St → Prop)  (s0 : St) : Prop :=
  V_X11_isGlove a1 s0 (fun r1 s1 => (r1 = 0 → (Y 20 [] [] s1)) ∧ (¬ r1 = 0 → (V_X11_in a2.toInt64 0 60 s1 (fun r2 s2 => (¬ r2 = 0 → (V_X11_layHand  s2 (fun s3 => V_X11_goAhead a2 s3 (fun s4 => vp_in (6 + a1) 43 ∧ (Q (s4 5 (6 + a1).toNatClampNeg) s4))))) ∧ (r2 = 0 → (Y 20 [] [] s2))))))
/-- what is to hold at 20 of X11_where -/
def B_X11_where_20 (a1 : Int32) (a2 : Int32) (Q : Int32 → St → Prop) (Y : Nat → List Int32 → List Int64 → St → Prop)  (s0 : St) : Prop :=
  V_X11_bad ((-2)) s0 (fun r1 s1 => Q r1 s1)
def T_X11_where (a1 : Int32) (a2 : Int32) (Q : Int32 → St → Prop) (Y : Nat → List Int32 → List Int64 → St → Prop) (P : Nat) (xs : List Int32) (ys : List Int64) (s0 : St) : Prop :=
  (P = 20 ∧ xs = [] ∧ ys = [] ∧ B_X11_where_20 a1 a2 Q Y  s0)
def R_X11_where (a1 : Int32) (a2 : Int32) (Q : Int32 → St → Prop) : Nat → List Int32 → List Int64 → St → Prop := Fx (T_X11_where a1 a2 Q)
theorem i_X11_where_20 (a1 : Int32) (a2 : Int32) (Q : Int32 → St → Prop)  (s0 : St) (h : B_X11_where_20 a1 a2 Q (R_X11_where a1 a2 Q)  s0) : R_X11_where a1 a2 Q 20 [] [] s0 := Fx.intro (⟨rfl, rfl, rfl, h⟩)
def V_X11_where (a1 : Int32) (a2 : Int32) (s0 : St) (Q : Int32 → St → Prop) : Prop := B_X11_where_e a1 a2 Q (R_X11_where a1 a2 Q)  s0
theorem kX11_when_1 : Cond.fieldLink RX11 27 "GloveRailModel" "hand" "[I" ∈ wsX11_when := List.mem_of_getElem? (i := 1) rfl
theorem iwX11_when_X11 : ∀ w ∈ wsX110, w ∈ wsX11_when := fun _ h => List.mem_cons_of_mem _ (List.mem_append_right _ h)
/-- what is to hold at the entry of X11_when -/
def B_X11_when_e (a1 : Int32) (Q : Int32 → St → Prop) (Y : Nat → List Int32 → List Int64 → St → Prop)  (s0 : St) : Prop :=
  (a1 = ((-1)) → (Y 20 [] [] s0)) ∧ (¬ a1 = ((-1)) → (V_X11_isGlove a1 s0 (fun r1 s1 => (¬ r1 = 0 → (Y 20 [] [] s1)) ∧ (r1 = 0 → (V_X11_bad ((-10)) s1 (fun r2 s2 => Q r2 s2))))))
/-- what is to hold at 20 of X11_when -/
def B_X11_when_20 (a1 : Int32) (Q : Int32 → St → Prop) (Y : Nat → List Int32 → List Int64 → St → Prop)  (s0 : St) : Prop :=
  V_X11_layHand  s0 (fun s1 => Y 26 [0] [] s1)
/-- what is to hold at 26 of X11_when -/
def B_X11_when_26 (a1 : Int32) (Q : Int32 → St → Prop) (Y : Nat → List Int32 → List Int64 → St → Prop) (x2 : Int32) (s0 : St) : Prop :=
  (60 < x2 → (Q ((-1)) s0)) ∧ (¬ 60 < x2 → ((¬ a1 = ((-1)) → (vp_in (6 + a1) 43 ∧ ((¬ (s0 5 (6 + a1).toNatClampNeg) = 23 → (Y 72 [x2] [] s0)) ∧ ((s0 5 (6 + a1).toNatClampNeg) = 23 → (Q x2 s0))))) ∧ (a1 = ((-1)) → (V_X11_manyAt 5 43 23 s0 (fun r1 s1 => V_X11_many  s1 (fun r2 s2 => (¬ r1 = r2 → (Y 72 [x2] [] s2)) ∧ (r1 = r2 → (Q x2 s2))))))))
/-- what is to hold at 72 of X11_when -/
def B_X11_when_72 (a1 : Int32) (Q : Int32 → St → Prop) (Y : Nat → List Int32 → List Int64 → St → Prop) (x2 : Int32) (s0 : St) : Prop :=
  V_X11_goHour 5 43 s0 (fun s1 => Y 26 [x2 + 1] [] s1)
def T_X11_when (a1 : Int32) (Q : Int32 → St → Prop) (Y : Nat → List Int32 → List Int64 → St → Prop) (P : Nat) (xs : List Int32) (ys : List Int64) (s0 : St) : Prop :=
  (P = 20 ∧ xs = [] ∧ ys = [] ∧ B_X11_when_20 a1 Q Y  s0) ∨ (P = 26 ∧ ∃ (x2 : Int32), xs = [x2] ∧ ys = [] ∧ B_X11_when_26 a1 Q Y x2 s0) ∨ (P = 72 ∧ ∃ (x2 : Int32), xs = [x2] ∧ ys = [] ∧ B_X11_when_72 a1 Q Y x2 s0)
def R_X11_when (a1 : Int32) (Q : Int32 → St → Prop) : Nat → List Int32 → List Int64 → St → Prop := Fx (T_X11_when a1 Q)
theorem i_X11_when_20 (a1 : Int32) (Q : Int32 → St → Prop)  (s0 : St) (h : B_X11_when_20 a1 Q (R_X11_when a1 Q)  s0) : R_X11_when a1 Q 20 [] [] s0 := Fx.intro (Or.inl ⟨rfl, rfl, rfl, h⟩)
theorem i_X11_when_26 (a1 : Int32) (Q : Int32 → St → Prop) (x2 : Int32) (s0 : St) (h : B_X11_when_26 a1 Q (R_X11_when a1 Q) x2 s0) : R_X11_when a1 Q 26 [x2] [] s0 := Fx.intro (Or.inr (Or.inl ⟨rfl, x2, rfl, rfl, h⟩))
theorem i_X11_when_72 (a1 : Int32) (Q : Int32 → St → Prop) (x2 : Int32) (s0 : St) (h : B_X11_when_72 a1 Q (R_X11_when a1 Q) x2 s0) : R_X11_when a1 Q 72 [x2] [] s0 := Fx.intro (Or.inr (Or.inr (⟨rfl, x2, rfl, rfl, h⟩)))
def V_X11_when (a1 : Int32) (s0 : St) (Q : Int32 → St → Prop) : Prop := B_X11_when_e a1 Q (R_X11_when a1 Q)  s0
theorem kX11_isPair_1 : Cond.fieldLink RX11 7 "GloveRailModel" "all" "[I" ∈ wsX11_isPair := List.mem_of_getElem? (i := 1) rfl
theorem kX11_isPair_2 : Cond.constantLong RX11 154 (-1) ∈ wsX11_isPair := List.mem_of_getElem? (i := 2) rfl
theorem iwX11_isPair_X11 : ∀ w ∈ wsX110, w ∈ wsX11_isPair := fun _ h => List.mem_cons_of_mem _ (List.mem_append_right _ h)
/-- what is to hold at the entry of X11_isPair -/
def B_X11_isPair_e (a1 : Int32) (a2 : Int32) (Q : Int32 → St → Prop) (Y : Nat → List Int32 → List Int64 → St → Prop)  (s0 : St) : Prop :=
  vp_in (30 + a1) 181 ∧ (vp_in (30 + a2) 181 ∧ (∀ v1, v1 = (s0 1 (30 + a1).toNatClampNeg) - (s0 1 (30 + a2).toNatClampNeg) → (vp_in (22 + a1) 181 ∧ (vp_in (22 + a2) 181 ∧ ((¬ (s0 1 (22 + a1).toNatClampNeg) = (s0 1 (22 + a2).toNatClampNeg) → (Q 0 s0)) ∧ ((s0 1 (22 + a1).toNatClampNeg) = (s0 1 (22 + a2).toNatClampNeg) → (V_X11_in v1.toInt64 ((-1)) 1 s0 (fun r2 s2 => (r2 = 0 → (Q 0 s2)) ∧ (¬ r2 = 0 → (Q 1 s2))))))))))
def T_X11_isPair (a1 : Int32) (a2 : Int32) (Q : Int32 → St → Prop) (Y : Nat → List Int32 → List Int64 → St → Prop) (P : Nat) (xs : List Int32) (ys : List Int64) (s0 : St) : Prop :=
  False
def R_X11_isPair (a1 : Int32) (a2 : Int32) (Q : Int32 → St → Prop) : Nat → List Int32 → List Int64 → St → Prop := Fx (T_X11_isPair a1 a2 Q)
def V_X11_isPair (a1 : Int32) (a2 : Int32) (s0 : St) (Q : Int32 → St → Prop) : Prop := B_X11_isPair_e a1 a2 Q (R_X11_isPair a1 a2 Q)  s0
theorem kX11_layMost_1 : Cond.fieldLink RX11 30 "GloveRailModel" "most" "[I" ∈ wsX11_layMost := List.mem_of_getElem? (i := 1) rfl
theorem iwX11_layMost_X11 : ∀ w ∈ wsX110, w ∈ wsX11_layMost := fun _ h => List.mem_cons_of_mem _ (List.mem_append_right _ h)
/-- what is to hold at the entry of X11_layMost -/
def B_X11_layMost_e  (Q : St → Prop) (Y : Nat → List Int32 → List Int64 → St → Prop)  (s0 : St) : Prop :=
  Y 2 [0] [] s0
/-- what is to hold at 2 of X11_layMost -/
def B_X11_layMost_2  (Q : St → Prop) (Y : Nat → List Int32 → List Int64 → St → Prop) (x1 : Int32) (s0 : St) : Prop :=
  V_X11_many  s0 (fun r1 s1 => (((1 : Int32) <<< (r1 &&& 31)) ≤ x1 → (Q s1)) ∧ (¬ ((1 : Int32) <<< (r1 &&& 31)) ≤ x1 → (vp_in x1 128 ∧ (∀ s2, s2 = us s1 6 (upd (s1 6) x1.toNatClampNeg 0) → (Y 21 [x1, 0] [] s2)))))
/-- what is to hold at 21 of X11_layMost -/
def B_X11_layMost_21  (Q : St → Prop) (Y : Nat → List Int32 → List Int64 → St → Prop) (x1 : Int32) (x2 : Int32) (s0 : St) : Prop :=
  (x1 ≤ 0 → (Y 39 [x1, x2] [] s0)) ∧ (¬ x1 ≤ 0 → (V_X11_has x1 x2 s0 (fun r1 s1 => (¬ r1 = 0 → (Y 39 [x1, x2] [] s1)) ∧ (r1 = 0 → (Y 21 [x1, x2 + 1] [] s1)))))
/-- what is to hold at 39 of X11_layMost -/
def B_X11_layMost_39  (Q : St → Prop) (Y : Nat → List Int32 → List Int64 → St → Prop) (x1 : Int32) (x2 : Int32) (s0 : St) : Prop :=
  ∀ v1, v1 = x1 &&& (((1 : Int32) <<< (x2 &&& 31)) ^^^ ((-1))) → ((¬ x1 = 0 → (vp_in v1 128 ∧ (vp_in x1 128 ∧ (∀ s2, s2 = us s0 6 (upd (s0 6) x1.toNatClampNeg (s0 6 v1.toNatClampNeg)) → (Y 72 [x1, x2, v1, x2 + 1] [] s2))))) ∧ (x1 = 0 → (vp_in x1 128 ∧ (∀ s3, s3 = us s0 6 (upd (s0 6) x1.toNatClampNeg 0) → (Y 72 [x1, x2, v1, x2 + 1] [] s3)))))
/-- what is to hold at 72 of X11_layMost -/
def B_X11_layMost_72  (Q : St → Prop) (Y : Nat → List Int32 → List Int64 → St → Prop) (x1 : Int32) (x2 : Int32) (x3 : Int32) (x4 : Int32) (s0 : St) : Prop :=
  V_X11_many  s0 (fun r1 s1 => (r1 ≤ x4 → (Y 2 [x1 + 1] [] s1)) ∧ (¬ r1 ≤ x4 → ((x1 ≤ 0 → (Y 2 [x1 + 1] [] s1)) ∧ (¬ x1 ≤ 0 → (V_X11_has x1 x4 s1 (fun r2 s2 => (r2 = 0 → (Y 123 [x1, x2, x3, x4, 0] [] s2)) ∧ (¬ r2 = 0 → (V_X11_isPair x2 x4 s2 (fun r3 s3 => (r3 = 0 → (Y 123 [x1, x2, x3, x4, 0] [] s3)) ∧ (¬ r3 = 0 → (vp_in (x3 &&& (((1 : Int32) <<< (x4 &&& 31)) ^^^ ((-1)))) 128 ∧ (Y 123 [x1, x2, x3, x4, 1 + (s3 6 (x3 &&& (((1 : Int32) <<< (x4 &&& 31)) ^^^ ((-1)))).toNatClampNeg)] [] s3))))))))))))
/-- what is to hold at 123 of X11_layMost -/
def B_X11_layMost_123  (Q : St → Prop) (Y : Nat → List Int32 → List Int64 → St → Prop) (x1 : Int32) (x2 : Int32) (x3 : Int32) (x4 : Int32) (t0 : Int32) (s0 : St) : Prop :=
  vp_in x1 128 ∧ ((t0 ≤ (s0 6 x1.toNatClampNeg) → (vp_in x1 128 ∧ (vp_in x1 128 ∧ (∀ s1, s1 = us s0 6 (upd (s0 6) x1.toNatClampNeg (s0 6 x1.toNatClampNeg)) → (Y 72 [x1, x2, x3, x4 + 1] [] s1))))) ∧ (¬ t0 ≤ (s0 6 x1.toNatClampNeg) → (vp_in x1 128 ∧ (∀ s2, s2 = us s0 6 (upd (s0 6) x1.toNatClampNeg t0) → (Y 72 [x1, x2, x3, x4 + 1] [] s2)))))
def T_X11_layMost  (Q : St → Prop) (Y : Nat → List Int32 → List Int64 → St → Prop) (P : Nat) (xs : List Int32) (ys : List Int64) (s0 : St) : Prop :=
  (P = 2 ∧ ∃ (x1 : Int32), xs = [x1] ∧ ys = [] ∧ B_X11_layMost_2  Q Y x1 s0) ∨ (P = 21 ∧ ∃ (x1 : Int32) (x2 : Int32), xs = [x1, x2] ∧ ys = [] ∧ B_X11_layMost_21  Q Y x1 x2 s0) ∨ (P = 39 ∧ ∃ (x1 : Int32) (x2 : Int32), xs = [x1, x2] ∧ ys = [] ∧ B_X11_layMost_39  Q Y x1 x2 s0) ∨ (P = 72 ∧ ∃ (x1 : Int32) (x2 : Int32) (x3 : Int32) (x4 : Int32), xs = [x1, x2, x3, x4] ∧ ys = [] ∧ B_X11_layMost_72  Q Y x1 x2 x3 x4 s0) ∨ (P = 123 ∧ ∃ (x1 : Int32) (x2 : Int32) (x3 : Int32) (x4 : Int32) (t0 : Int32), xs = [x1, x2, x3, x4, t0] ∧ ys = [] ∧ B_X11_layMost_123  Q Y x1 x2 x3 x4 t0 s0)
def R_X11_layMost  (Q : St → Prop) : Nat → List Int32 → List Int64 → St → Prop := Fx (T_X11_layMost  Q)
theorem i_X11_layMost_2  (Q : St → Prop) (x1 : Int32) (s0 : St) (h : B_X11_layMost_2  Q (R_X11_layMost  Q) x1 s0) : R_X11_layMost  Q 2 [x1] [] s0 := Fx.intro (Or.inl ⟨rfl, x1, rfl, rfl, h⟩)
theorem i_X11_layMost_21  (Q : St → Prop) (x1 : Int32) (x2 : Int32) (s0 : St) (h : B_X11_layMost_21  Q (R_X11_layMost  Q) x1 x2 s0) : R_X11_layMost  Q 21 [x1, x2] [] s0 := Fx.intro (Or.inr (Or.inl ⟨rfl, x1, x2, rfl, rfl, h⟩))
theorem i_X11_layMost_39  (Q : St → Prop) (x1 : Int32) (x2 : Int32) (s0 : St) (h : B_X11_layMost_39  Q (R_X11_layMost  Q) x1 x2 s0) : R_X11_layMost  Q 39 [x1, x2] [] s0 := Fx.intro (Or.inr (Or.inr (Or.inl ⟨rfl, x1, x2, rfl, rfl, h⟩)))
theorem i_X11_layMost_72  (Q : St → Prop) (x1 : Int32) (x2 : Int32) (x3 : Int32) (x4 : Int32) (s0 : St) (h : B_X11_layMost_72  Q (R_X11_layMost  Q) x1 x2 x3 x4 s0) : R_X11_layMost  Q 72 [x1, x2, x3, x4] [] s0 := Fx.intro (Or.inr (Or.inr (Or.inr (Or.inl ⟨rfl, x1, x2, x3, x4, rfl, rfl, h⟩))))
theorem i_X11_layMost_123  (Q : St → Prop) (x1 : Int32) (x2 : Int32) (x3 : Int32) (x4 : Int32) (t0 : Int32) (s0 : St) (h : B_X11_layMost_123  Q (R_X11_layMost  Q) x1 x2 x3 x4 t0 s0) : R_X11_layMost  Q 123 [x1, x2, x3, x4, t0] [] s0 := Fx.intro (Or.inr (Or.inr (Or.inr (Or.inr (⟨rfl, x1, x2, x3, x4, t0, rfl, rfl, h⟩)))))
def V_X11_layMost  (s0 : St) (Q : St → Prop) : Prop := B_X11_layMost_e  Q (R_X11_layMost  Q)  s0
theorem kX11_layMates_1 : Cond.fieldLink RX11 30 "GloveRailModel" "most" "[I" ∈ wsX11_layMates := List.mem_of_getElem? (i := 1) rfl
theorem kX11_layMates_2 : Cond.fieldLink RX11 33 "GloveRailModel" "mates" "[I" ∈ wsX11_layMates := List.mem_of_getElem? (i := 2) rfl
theorem iwX11_layMates_X11 : ∀ w ∈ wsX110, w ∈ wsX11_layMates := fun _ h => List.mem_cons_of_mem _ (List.mem_append_right _ h)
/-- what is to hold at the entry of X11_layMates -/
def B_X11_layMates_e  (Q : St → Prop) (Y : Nat → List Int32 → List Int64 → St → Prop)  (s0 : St) : Prop :=
  V_X11_many  s0 (fun r1 s1 => ∀ v2, v2 = ((1 : Int32) <<< (r1 &&& 31)) - 1 → (Y 11 [v2, 0] [] s1))
/-- what is to hold at 11 of X11_layMates -/
def B_X11_layMates_11  (Q : St → Prop) (Y : Nat → List Int32 → List Int64 → St → Prop) (x1 : Int32) (x2 : Int32) (s0 : St) : Prop :=
  V_X11_many  s0 (fun r1 s1 => (r1 ≤ x2 → (Q s1)) ∧ (¬ r1 ≤ x2 → (V_X11_has x1 x2 s1 (fun r2 s2 => (r2 = 0 → (Y 11 [x1, x2 + 1] [] s2)) ∧ (¬ r2 = 0 → (∀ v3, v3 = x1 &&& (((1 : Int32) <<< (x2 &&& 31)) ^^^ ((-1))) → (vp_in v3 128 ∧ (vp_in x1 128 ∧ (((s2 6 x1.toNatClampNeg) ≤ (s2 6 v3.toNatClampNeg) → (Y 124 [x2, v3, (-1)] [] s2)) ∧ (¬ (s2 6 x1.toNatClampNeg) ≤ (s2 6 v3.toNatClampNeg) → (Y 58 [x1, x2, v3, x2 + 1] [] s2)))))))))))
/-- what is to hold at 58 of X11_layMates -/
def B_X11_layMates_58  (Q : St → Prop) (Y : Nat → List Int32 → List Int64 → St → Prop) (x1 : Int32) (x2 : Int32) (x3 : Int32) (x4 : Int32) (s0 : St) : Prop :=
  V_X11_has x3 x4 s0 (fun r1 s1 => (r1 = 0 → (Y 58 [x1, x2, x3, x4 + 1] [] s1)) ∧ (¬ r1 = 0 → (V_X11_isPair x2 x4 s1 (fun r2 s2 => (r2 = 0 → (Y 58 [x1, x2, x3, x4 + 1] [] s2)) ∧ (¬ r2 = 0 → (vp_in (x3 &&& (((1 : Int32) <<< (x4 &&& 31)) ^^^ ((-1)))) 128 ∧ (vp_in x1 128 ∧ (((s2 6 x1.toNatClampNeg) ≤ (1 + (s2 6 (x3 &&& (((1 : Int32) <<< (x4 &&& 31)) ^^^ ((-1)))).toNatClampNeg)) → (vp_in x4 7 ∧ (∀ s3, s3 = us s2 7 (upd (s2 7) x4.toNatClampNeg x2) → (∀ v4, v4 = x3 &&& (((1 : Int32) <<< (x4 &&& 31)) ^^^ ((-1))) → (Y 124 [x2, v4, x4] [] s3))))) ∧ (¬ (s2 6 x1.toNatClampNeg) ≤ (1 + (s2 6 (x3 &&& (((1 : Int32) <<< (x4 &&& 31)) ^^^ ((-1)))).toNatClampNeg)) → (Y 58 [x1, x2, x3, x4 + 1] [] s2))))))))))
/-- what is to hold at 124 of X11_layMates -/
def B_X11_layMates_124  (Q : St → Prop) (Y : Nat → List Int32 → List Int64 → St → Prop) (x2 : Int32) (x3 : Int32) (x4 : Int32) (s0 : St) : Prop :=
  vp_in x2 7 ∧ (∀ s1, s1 = us s0 7 (upd (s0 7) x2.toNatClampNeg x4) → (Y 11 [x3, x2 + 1] [] s1))
def T_X11_layMates  (Q : St → Prop) (Y : Nat → List Int32 → List Int64 → St → Prop) (P : Nat) (xs : List Int32) (ys : List Int64) (s0 : St) : Prop :=
  (P = 11 ∧ ∃ (x1 : Int32) (x2 : Int32), xs = [x1, x2] ∧ ys = [] ∧ B_X11_layMates_11  Q Y x1 x2 s0) ∨ (P = 58 ∧ ∃ (x1 : Int32) (x2 : Int32) (x3 : Int32) (x4 : Int32), xs = [x1, x2, x3, x4] ∧ ys = [] ∧ B_X11_layMates_58  Q Y x1 x2 x3 x4 s0) ∨ (P = 124 ∧ ∃ (x2 : Int32) (x3 : Int32) (x4 : Int32), xs = [x2, x3, x4] ∧ ys = [] ∧ B_X11_layMates_124  Q Y x2 x3 x4 s0)
def R_X11_layMates  (Q : St → Prop) : Nat → List Int32 → List Int64 → St → Prop := Fx (T_X11_layMates  Q)
theorem i_X11_layMates_11  (Q : St → Prop) (x1 : Int32) (x2 : Int32) (s0 : St) (h : B_X11_layMates_11  Q (R_X11_layMates  Q) x1 x2 s0) : R_X11_layMates  Q 11 [x1, x2] [] s0 := Fx.intro (Or.inl ⟨rfl, x1, x2, rfl, rfl, h⟩)
theorem i_X11_layMates_58  (Q : St → Prop) (x1 : Int32) (x2 : Int32) (x3 : Int32) (x4 : Int32) (s0 : St) (h : B_X11_layMates_58  Q (R_X11_layMates  Q) x1 x2 x3 x4 s0) : R_X11_layMates  Q 58 [x1, x2, x3, x4] [] s0 := Fx.intro (Or.inr (Or.inl ⟨rfl, x1, x2, x3, x4, rfl, rfl, h⟩))
theorem i_X11_layMates_124  (Q : St → Prop) (x2 : Int32) (x3 : Int32) (x4 : Int32) (s0 : St) (h : B_X11_layMates_124  Q (R_X11_layMates  Q) x2 x3 x4 s0) : R_X11_layMates  Q 124 [x2, x3, x4] [] s0 := Fx.intro (Or.inr (Or.inr (⟨rfl, x2, x3, x4, rfl, rfl, h⟩)))
def V_X11_layMates  (s0 : St) (Q : St → Prop) : Prop := B_X11_layMates_e  Q (R_X11_layMates  Q)  s0
theorem kX11_pairs_1 : Cond.fieldLink RX11 30 "GloveRailModel" "most" "[I" ∈ wsX11_pairs := List.mem_of_getElem? (i := 1) rfl
theorem kX11_pairs_2 : Cond.fieldLink RX11 33 "GloveRailModel" "mates" "[I" ∈ wsX11_pairs := List.mem_of_getElem? (i := 2) rfl
theorem iwX11_pairs_X11 : ∀ w ∈ wsX110, w ∈ wsX11_pairs := fun _ h => List.mem_cons_of_mem _ (List.mem_append_right _ h)
/-- what is to hold at the entry of X11_pairs -/
def B_X11_pairs_e (a1 : Int32) (Q : Int32 → St → Prop) (Y : Nat → List Int32 → List Int64 → St → Prop)  (s0 : St) : Prop :=
  (a1 = ((-1)) → (Y 20 [] [] s0)) ∧ (¬ a1 = ((-1)) → (V_X11_isGlove a1 s0 (fun r1 s1 => (¬ r1 = 0 → (Y 20 [] [] s1)) ∧ (r1 = 0 → (V_X11_bad ((-10)) s1 (fun r2 s2 => Q r2 s2))))))
/-- what is to hold at 20 of X11_pairs -/
def B_X11_pairs_20 (a1 : Int32) (Q : Int32 → St → Prop) (Y : Nat → List Int32 → List Int64 → St → Prop)  (s0 : St) : Prop :=
  V_X11_layMost  s0 (fun s1 => V_X11_layMates  s1 (fun s2 => (¬ a1 = ((-1)) → (vp_in a1 7 ∧ (Q (s2 7 a1.toNatClampNeg) s2))) ∧ (a1 = ((-1)) → (V_X11_many  s2 (fun r3 s3 => vp_in (((1 : Int32) <<< (r3 &&& 31)) - 1) 128 ∧ (Q (s3 6 (((1 : Int32) <<< (r3 &&& 31)) - 1).toNatClampNeg) s3))))))
def T_X11_pairs (a1 : Int32) (Q : Int32 → St → Prop) (Y : Nat → List Int32 → List Int64 → St → Prop) (P : Nat) (xs : List Int32) (ys : List Int64) (s0 : St) : Prop :=
  (P = 20 ∧ xs = [] ∧ ys = [] ∧ B_X11_pairs_20 a1 Q Y  s0)
def R_X11_pairs (a1 : Int32) (Q : Int32 → St → Prop) : Nat → List Int32 → List Int64 → St → Prop := Fx (T_X11_pairs a1 Q)
theorem i_X11_pairs_20 (a1 : Int32) (Q : Int32 → St → Prop)  (s0 : St) (h : B_X11_pairs_20 a1 Q (R_X11_pairs a1 Q)  s0) : R_X11_pairs a1 Q 20 [] [] s0 := Fx.intro (⟨rfl, rfl, rfl, h⟩)
def V_X11_pairs (a1 : Int32) (s0 : St) (Q : Int32 → St → Prop) : Prop := B_X11_pairs_e a1 Q (R_X11_pairs a1 Q)  s0
theorem kX11_heap_1 : Cond.constantLong RX11 165 (2) ∈ wsX11_heap := List.mem_of_getElem? (i := 1) rfl
theorem kX11_heap_2 : Cond.fieldLink RX11 27 "GloveRailModel" "hand" "[I" ∈ wsX11_heap := List.mem_of_getElem? (i := 2) rfl
theorem iwX11_heap_X11 : ∀ w ∈ wsX110, w ∈ wsX11_heap := fun _ h => List.mem_cons_of_mem _ (List.mem_append_right _ h)
/-- what is to hold at the entry of X11_heap -/
def B_X11_heap_e (a1 : Int32) (Q : Int32 → St → Prop) (Y : Nat → List Int32 → List Int64 → St → Prop)  (s0 : St) : Prop :=
  V_X11_in a1.toInt64 0 2 s0 (fun r1 s1 => (¬ r1 = 0 → (V_X11_layHand  s1 (fun s2 => Y 33 [0, 0, (-1), 0] [] s2))) ∧ (r1 = 0 → (V_X11_bad ((-2)) s1 (fun r3 s3 => Q r3 s3))))
/-- what is to hold at 33 of X11_heap -/
def B_X11_heap_33 (a1 : Int32) (Q : Int32 → St → Prop) (Y : Nat → List Int32 → List Int64 → St → Prop) (x2 : Int32) (x3 : Int32) (x4 : Int32) (x5 : Int32) (s0 : St) : Prop :=
  (30 < x5 → ((¬ a1 = 0 → ((¬ a1 = 1 → (Q x4 s0)) ∧ (a1 = 1 → (Q x3 s0)))) ∧ (a1 = 0 → (Q x2 s0)))) ∧ (¬ 30 < x5 → (Y 43 [x2, x3, x4, x5, 0] [] s0))
/-- what is to hold at 43 of X11_heap -/
def B_X11_heap_43 (a1 : Int32) (Q : Int32 → St → Prop) (Y : Nat → List Int32 → List Int64 → St → Prop) (x2 : Int32) (x3 : Int32) (x4 : Int32) (x5 : Int32) (x6 : Int32) (s0 : St) : Prop :=
  (23 ≤ x6 → (V_X11_goHour 5 43 s0 (fun s1 => Y 33 [x2, x3, x4, x5 + 1] [] s1))) ∧ (¬ 23 ≤ x6 → (V_X11_behind 5 43 x6 s0 (fun r2 s2 => (¬ r2 = ((-1)) → (V_X11_manyAt 5 43 x6 s2 (fun r3 s3 => Y 76 [x2, x3, x4, x5, x6, r3] [] s3))) ∧ (r2 = ((-1)) → (Y 76 [x2, x3, x4, x5, x6, 0] [] s2)))))
/-- what is to hold at 76 of X11_heap -/
def B_X11_heap_76 (a1 : Int32) (Q : Int32 → St → Prop) (Y : Nat → List Int32 → List Int64 → St → Prop) (x2 : Int32) (x3 : Int32) (x4 : Int32) (x5 : Int32) (x6 : Int32) (t0 : Int32) (s0 : St) : Prop :=
  (t0 ≤ x2 → (Y 43 [x2, x3, x4, x5, x6 + 1] [] s0)) ∧ (¬ t0 ≤ x2 → (Y 43 [t0, x5, x6, x5, x6 + 1] [] s0))
def T_X11_heap (a1 : Int32) (Q : Int32 → St → Prop) (Y : Nat → List Int32 → List Int64 → St → Prop) (P : Nat) (xs : List Int32) (ys : List Int64) (s0 : St) : Prop :=
  (P = 33 ∧ ∃ (x2 : Int32) (x3 : Int32) (x4 : Int32) (x5 : Int32), xs = [x2, x3, x4, x5] ∧ ys = [] ∧ B_X11_heap_33 a1 Q Y x2 x3 x4 x5 s0) ∨ (P = 43 ∧ ∃ (x2 : Int32) (x3 : Int32) (x4 : Int32) (x5 : Int32) (x6 : Int32), xs = [x2, x3, x4, x5, x6] ∧ ys = [] ∧ B_X11_heap_43 a1 Q Y x2 x3 x4 x5 x6 s0) ∨ (P = 76 ∧ ∃ (x2 : Int32) (x3 : Int32) (x4 : Int32) (x5 : Int32) (x6 : Int32) (t0 : Int32), xs = [x2, x3, x4, x5, x6, t0] ∧ ys = [] ∧ B_X11_heap_76 a1 Q Y x2 x3 x4 x5 x6 t0 s0)
def R_X11_heap (a1 : Int32) (Q : Int32 → St → Prop) : Nat → List Int32 → List Int64 → St → Prop := Fx (T_X11_heap a1 Q)
theorem i_X11_heap_33 (a1 : Int32) (Q : Int32 → St → Prop) (x2 : Int32) (x3 : Int32) (x4 : Int32) (x5 : Int32) (s0 : St) (h : B_X11_heap_33 a1 Q (R_X11_heap a1 Q) x2 x3 x4 x5 s0) : R_X11_heap a1 Q 33 [x2, x3, x4, x5] [] s0 := Fx.intro (Or.inl ⟨rfl, x2, x3, x4, x5, rfl, rfl, h⟩)
theorem i_X11_heap_43 (a1 : Int32) (Q : Int32 → St → Prop) (x2 : Int32) (x3 : Int32) (x4 : Int32) (x5 : Int32) (x6 : Int32) (s0 : St) (h : B_X11_heap_43 a1 Q (R_X11_heap a1 Q) x2 x3 x4 x5 x6 s0) : R_X11_heap a1 Q 43 [x2, x3, x4, x5, x6] [] s0 := Fx.intro (Or.inr (Or.inl ⟨rfl, x2, x3, x4, x5, x6, rfl, rfl, h⟩))
theorem i_X11_heap_76 (a1 : Int32) (Q : Int32 → St → Prop) (x2 : Int32) (x3 : Int32) (x4 : Int32) (x5 : Int32) (x6 : Int32) (t0 : Int32) (s0 : St) (h : B_X11_heap_76 a1 Q (R_X11_heap a1 Q) x2 x3 x4 x5 x6 t0 s0) : R_X11_heap a1 Q 76 [x2, x3, x4, x5, x6, t0] [] s0 := Fx.intro (Or.inr (Or.inr (⟨rfl, x2, x3, x4, x5, x6, t0, rfl, rfl, h⟩)))
def V_X11_heap (a1 : Int32) (s0 : St) (Q : Int32 → St → Prop) : Prop := B_X11_heap_e a1 Q (R_X11_heap a1 Q)  s0
theorem kX11_hold_1 : Cond.constantLong RX11 125 (60) ∈ wsX11_hold := List.mem_of_getElem? (i := 1) rfl
theorem kX11_hold_2 : Cond.fieldLink RX11 7 "GloveRailModel" "all" "[I" ∈ wsX11_hold := List.mem_of_getElem? (i := 2) rfl
theorem kX11_hold_3 : Cond.fieldLink RX11 27 "GloveRailModel" "hand" "[I" ∈ wsX11_hold := List.mem_of_getElem? (i := 3) rfl
theorem iwX11_hold_X11 : ∀ w ∈ wsX110, w ∈ wsX11_hold := fun _ h => List.mem_cons_of_mem _ (List.mem_append_right _ h)
/-- what is to hold at the entry of X11_hold -/
def B_X11_hold_e (a1 : Int32) (Q : Int32 → St → Prop) (Y : Nat → List Int32 → List Int64 → St → Prop)  (s0 : St) : Prop :=
  V_X11_in a1.toInt64 1 60 s0 (fun r1 s1 => (¬ r1 = 0 → (Y 23 [(-1), 0] [] s1)) ∧ (r1 = 0 → (V_X11_bad ((-2)) s1 (fun r2 s2 => Q r2 s2))))
/-- what is to hold at 23 of X11_hold -/
def B_X11_hold_23 (a1 : Int32) (Q : Int32 → St → Prop) (Y : Nat → List Int32 → List Int64 → St → Prop) (x2 : Int32) (x3 : Int32) (s0 : St) : Prop :=
  (((1 : Int32) <<< ((s0 1 1) &&& 31)) ≤ x3 → (Q x2 s0)) ∧ (¬ ((1 : Int32) <<< ((s0 1 1) &&& 31)) ≤ x3 → (V_X11_layHand  s0 (fun s1 => ∀ s2, s2 = us s1 5 (upd (s1 5) 14 x3) → (V_X11_goAhead a1 s2 (fun s3 => V_X11_manyAt 5 43 23 s3 (fun r4 s4 => V_X11_manyAt 1 181 23 s4 (fun r5 s5 => (¬ r4 = r5 → (Y 78 [x2, x3, 0] [] s5)) ∧ (r4 = r5 → (Y 78 [x2, x3, 1] [] s5)))))))))
/-- what is to hold at 78 of X11_hold -/
def B_X11_hold_78 (a1 : Int32) (Q : Int32 → St → Prop) (Y : Nat → List Int32 → List Int64 → St → Prop) (x2 : Int32) (x3 : Int32) (t0 : Int32) (s0 : St) : Prop :=
  (t0 = 0 → (Y 23 [x2, x3 + 1] [] s0)) ∧ (¬ t0 = 0 → ((x2 = ((-1)) → (Y 23 [x3, x3 + 1] [] s0)) ∧ (¬ x2 = ((-1)) → (V_X11_bits x3 s0 (fun r1 s1 => V_X11_bits x2 s1 (fun r2 s2 => (r2 ≤ r1 → (Y 23 [x2, x3 + 1] [] s2)) ∧ (¬ r2 ≤ r1 → (Y 23 [x3, x3 + 1] [] s2))))))))
def T_X11_hold (a1 : Int32) (Q : Int32 → St → Prop) (Y : Nat → List Int32 → List Int64 → St → Prop) (P : Nat) (xs : List Int32) (ys : List Int64) (s0 : St) : Prop :=
  (P = 23 ∧ ∃ (x2 : Int32) (x3 : Int32), xs = [x2, x3] ∧ ys = [] ∧ B_X11_hold_23 a1 Q Y x2 x3 s0) ∨ (P = 78 ∧ ∃ (x2 : Int32) (x3 : Int32) (t0 : Int32), xs = [x2, x3, t0] ∧ ys = [] ∧ B_X11_hold_78 a1 Q Y x2 x3 t0 s0)
def R_X11_hold (a1 : Int32) (Q : Int32 → St → Prop) : Nat → List Int32 → List Int64 → St → Prop := Fx (T_X11_hold a1 Q)
theorem i_X11_hold_23 (a1 : Int32) (Q : Int32 → St → Prop) (x2 : Int32) (x3 : Int32) (s0 : St) (h : B_X11_hold_23 a1 Q (R_X11_hold a1 Q) x2 x3 s0) : R_X11_hold a1 Q 23 [x2, x3] [] s0 := Fx.intro (Or.inl ⟨rfl, x2, x3, rfl, rfl, h⟩)
theorem i_X11_hold_78 (a1 : Int32) (Q : Int32 → St → Prop) (x2 : Int32) (x3 : Int32) (t0 : Int32) (s0 : St) (h : B_X11_hold_78 a1 Q (R_X11_hold a1 Q) x2 x3 t0 s0) : R_X11_hold a1 Q 78 [x2, x3, t0] [] s0 := Fx.intro (Or.inr (⟨rfl, x2, x3, t0, rfl, rfl, h⟩))
def V_X11_hold (a1 : Int32) (s0 : St) (Q : Int32 → St → Prop) : Prop := B_X11_hold_e a1 Q (R_X11_hold a1 Q)  s0
theorem kX11_drop_1 : Cond.constantLong RX11 170 (30) ∈ wsX11_drop := List.mem_of_getElem? (i := 1) rfl
theorem kX11_drop_2 : Cond.fieldLink RX11 27 "GloveRailModel" "hand" "[I" ∈ wsX11_drop := List.mem_of_getElem? (i := 2) rfl
theorem iwX11_drop_X11 : ∀ w ∈ wsX110, w ∈ wsX11_drop := fun _ h => List.mem_cons_of_mem _ (List.mem_append_right _ h)
/-- what is to hold at the entry of X11_drop -/
def B_X11_drop_e (a1 : Int32) (a2 : Int32) (a3 : Int32) (Q : Int32 → St → Prop) (Y : Nat → List Int32 → List Int64 → St → Prop)  (s0 : St) : Prop :=
  V_X11_isKind a1 s0 (fun r1 s1 => (r1 = 0 → (Y 27 [] [] s1)) ∧ (¬ r1 = 0 → (V_X11_isGlove a2 s1 (fun r2 s2 => (r2 = 0 → (Y 27 [] [] s2)) ∧ (¬ r2 = 0 → (V_X11_in a3.toInt64 1 30 s2 (fun r3 s3 => (¬ r3 = 0 → (Y 40 [0, 0] [] s3)) ∧ (r3 = 0 → (Y 27 [] [] s3)))))))))
/-- what is to hold at 27 of X11_drop -/
def B_X11_drop_27 (a1 : Int32) (a2 : Int32) (a3 : Int32) (Q : Int32 → St → Prop) (Y : Nat → List Int32 → List Int64 → St → Prop)  (s0 : St) : Prop :=
  V_X11_bad ((-2)) s0 (fun r1 s1 => Q r1 s1)
/-- what is to hold at 40 of X11_drop -/
def B_X11_drop_40 (a1 : Int32) (a2 : Int32) (a3 : Int32) (Q : Int32 → St → Prop) (Y : Nat → List Int32 → List Int64 → St → Prop) (x4 : Int32) (x5 : Int32) (s0 : St) : Prop :=
  (23 ≤ x5 → (Q x4 s0)) ∧ (¬ 23 ≤ x5 → (V_X11_layHand  s0 (fun s1 => V_X11_many  s1 (fun r2 s2 => vp_in (6 + r2) 43 ∧ (∀ s3, s3 = us s2 5 (upd (s2 5) (6 + r2).toNatClampNeg x5) → (V_X11_many  s3 (fun r4 s4 => vp_in (22 + r4) 43 ∧ (∀ s5, s5 = us s4 5 (upd (s4 5) (22 + r4).toNatClampNeg a1) → (∀ s6, s6 = us s5 5 (upd (s5 5) 0 ((s5 5 0) + 1)) → (V_X11_goAhead a3 s6 (fun s7 => V_X11_many  s7 (fun r8 s8 => vp_in (6 + r8) 43 ∧ (vp_in (6 + a2) 43 ∧ ((¬ (s8 5 (6 + r8).toNatClampNeg) = (s8 5 (6 + a2).toNatClampNeg) → (Y 40 [x4 ||| 0, x5 + 1] [] s8)) ∧ ((s8 5 (6 + r8).toNatClampNeg) = (s8 5 (6 + a2).toNatClampNeg) → (∀ v9, v9 = x4 ||| ((1 : Int32) <<< (x5 &&& 31)) → (Y 40 [v9, x5 + 1] [] s8)))))))))))))))))
def T_X11_drop (a1 : Int32) (a2 : Int32) (a3 : Int32) (Q : Int32 → St → Prop) (Y : Nat → List Int32 → List Int64 → St → Prop) (P : Nat) (xs : List Int32) (ys : List Int64) (s0 : St) : Prop :=
  (P = 27 ∧ xs = [] ∧ ys = [] ∧ B_X11_drop_27 a1 a2 a3 Q Y  s0) ∨ (P = 40 ∧ ∃ (x4 : Int32) (x5 : Int32), xs = [x4, x5] ∧ ys = [] ∧ B_X11_drop_40 a1 a2 a3 Q Y x4 x5 s0)
def R_X11_drop (a1 : Int32) (a2 : Int32) (a3 : Int32) (Q : Int32 → St → Prop) : Nat → List Int32 → List Int64 → St → Prop := Fx (T_X11_drop a1 a2 a3 Q)
theorem i_X11_drop_27 (a1 : Int32) (a2 : Int32) (a3 : Int32) (Q : Int32 → St → Prop)  (s0 : St) (h : B_X11_drop_27 a1 a2 a3 Q (R_X11_drop a1 a2 a3 Q)  s0) : R_X11_drop a1 a2 a3 Q 27 [] [] s0 := Fx.intro (Or.inl ⟨rfl, rfl, rfl, h⟩)
theorem i_X11_drop_40 (a1 : Int32) (a2 : Int32) (a3 : Int32) (Q : Int32 → St → Prop) (x4 : Int32) (x5 : Int32) (s0 : St) (h : B_X11_drop_40 a1 a2 a3 Q (R_X11_drop a1 a2 a3 Q) x4 x5 s0) : R_X11_drop a1 a2 a3 Q 40 [x4, x5] [] s0 := Fx.intro (Or.inr (⟨rfl, x4, x5, rfl, rfl, h⟩))
def V_X11_drop (a1 : Int32) (a2 : Int32) (a3 : Int32) (s0 : St) (Q : Int32 → St → Prop) : Prop := B_X11_drop_e a1 a2 a3 Q (R_X11_drop a1 a2 a3 Q)  s0
theorem kX11_seen_1 : Cond.constantLong RX11 125 (60) ∈ wsX11_seen := List.mem_of_getElem? (i := 1) rfl
theorem kX11_seen_2 : Cond.constantLong RX11 80 (23) ∈ wsX11_seen := List.mem_of_getElem? (i := 2) rfl
theorem kX11_seen_3 : Cond.fieldLink RX11 7 "GloveRailModel" "all" "[I" ∈ wsX11_seen := List.mem_of_getElem? (i := 3) rfl
theorem iwX11_seen_X11 : ∀ w ∈ wsX110, w ∈ wsX11_seen := fun _ h => List.mem_cons_of_mem _ (List.mem_append_right _ h)
/-- what is to hold at the entry of X11_seen -/
def B_X11_seen_e (a1 : Int32) (a2 : Int32) (Q : Int32 → St → Prop) (Y : Nat → List Int32 → List Int64 → St → Prop)  (s0 : St) : Prop :=
  V_X11_in a1.toInt64 0 60 s0 (fun r1 s1 => (r1 = 0 → (Y 24 [] [] s1)) ∧ (¬ r1 = 0 → (V_X11_in a2.toInt64 0 23 s1 (fun r2 s2 => (¬ r2 = 0 → ((¬ (s2 1 2) = 5 → (vp_in (43 + (2 * (s2 1 2))) 181 ∧ (∀ s3, s3 = us s2 1 (upd (s2 1) (43 + (2 * (s2 1 2))).toNatClampNeg a1) → (vp_in ((43 + (2 * (s3 1 2))) + 1) 181 ∧ (∀ s4, s4 = us s3 1 (upd (s3 1) ((43 + (2 * (s3 1 2))) + 1).toNatClampNeg a2) → (∀ s5, s5 = us s4 1 (upd (s4 1) 2 ((s4 1 2) + 1)) → (Q (s5 1 2) s5))))))) ∧ ((s2 1 2) = 5 → (V_X11_full  s2 (fun r6 s6 => Q r6 s6))))) ∧ (r2 = 0 → (Y 24 [] [] s2))))))
/-- what is to hold at 24 of X11_seen -/
def B_X11_seen_24 (a1 : Int32) (a2 : Int32) (Q : Int32 → St → Prop) (Y : Nat → List Int32 → List Int64 → St → Prop)  (s0 : St) : Prop :=
  V_X11_bad ((-2)) s0 (fun r1 s1 => Q r1 s1)
def T_X11_seen (a1 : Int32) (a2 : Int32) (Q : Int32 → St → Prop) (Y : Nat → List Int32 → List Int64 → St → Prop) (P : Nat) (xs : List Int32) (ys : List Int64) (s0 : St) : Prop :=
  (P = 24 ∧ xs = [] ∧ ys = [] ∧ B_X11_seen_24 a1 a2 Q Y  s0)
def R_X11_seen (a1 : Int32) (a2 : Int32) (Q : Int32 → St → Prop) : Nat → List Int32 → List Int64 → St → Prop := Fx (T_X11_seen a1 a2 Q)
theorem i_X11_seen_24 (a1 : Int32) (a2 : Int32) (Q : Int32 → St → Prop)  (s0 : St) (h : B_X11_seen_24 a1 a2 Q (R_X11_seen a1 a2 Q)  s0) : R_X11_seen a1 a2 Q 24 [] [] s0 := Fx.intro (⟨rfl, rfl, rfl, h⟩)
def V_X11_seen (a1 : Int32) (a2 : Int32) (s0 : St) (Q : Int32 → St → Prop) : Prop := B_X11_seen_e a1 a2 Q (R_X11_seen a1 a2 Q)  s0
theorem kX11_seenOnes_1 : Cond.fieldLink RX11 7 "GloveRailModel" "all" "[I" ∈ wsX11_seenOnes := List.mem_of_getElem? (i := 1) rfl
theorem kX11_seenOnes_2 : Cond.fieldLink RX11 27 "GloveRailModel" "hand" "[I" ∈ wsX11_seenOnes := List.mem_of_getElem? (i := 2) rfl
theorem iwX11_seenOnes_X11 : ∀ w ∈ wsX110, w ∈ wsX11_seenOnes := fun _ h => List.mem_cons_of_mem _ (List.mem_append_right _ h)
/-- what is to hold at the entry of X11_seenOnes -/
def B_X11_seenOnes_e  (Q : Int32 → St → Prop) (Y : Nat → List Int32 → List Int64 → St → Prop)  (s0 : St) : Prop :=
  V_X11_many  s0 (fun r1 s1 => ∀ v2, v2 = ((1 : Int32) <<< (r1 &&& 31)) - 1 → (Y 11 [v2, 0] [] s1))
/-- what is to hold at 11 of X11_seenOnes -/
def B_X11_seenOnes_11  (Q : Int32 → St → Prop) (Y : Nat → List Int32 → List Int64 → St → Prop) (x1 : Int32) (x2 : Int32) (s0 : St) : Prop :=
  ((s0 1 2) ≤ x2 → (Q x1 s0)) ∧ (¬ (s0 1 2) ≤ x2 → (V_X11_layHand  s0 (fun s1 => vp_in (43 + (2 * x2)) 181 ∧ (V_X11_goAhead (s1 1 (43 + (2 * x2)).toNatClampNeg) s1 (fun s2 => Y 42 [x1, x2, 0] [] s2)))))
/-- what is to hold at 42 of X11_seenOnes -/
def B_X11_seenOnes_42  (Q : Int32 → St → Prop) (Y : Nat → List Int32 → List Int64 → St → Prop) (x1 : Int32) (x2 : Int32) (x3 : Int32) (s0 : St) : Prop :=
  V_X11_many  s0 (fun r1 s1 => (r1 ≤ x3 → (Y 11 [x1, x2 + 1] [] s1)) ∧ (¬ r1 ≤ x3 → (vp_in (6 + x3) 43 ∧ (vp_in ((43 + (2 * x2)) + 1) 181 ∧ ((¬ (s1 5 (6 + x3).toNatClampNeg) = (s1 1 ((43 + (2 * x2)) + 1).toNatClampNeg) → (∀ v2, v2 = x1 &&& (((1 : Int32) <<< (x3 &&& 31)) ^^^ ((-1))) → (Y 42 [v2, x2, x3 + 1] [] s1))) ∧ ((s1 5 (6 + x3).toNatClampNeg) = (s1 1 ((43 + (2 * x2)) + 1).toNatClampNeg) → (Y 42 [x1 &&& x1, x2, x3 + 1] [] s1)))))))
def T_X11_seenOnes  (Q : Int32 → St → Prop) (Y : Nat → List Int32 → List Int64 → St → Prop) (P : Nat) (xs : List Int32) (ys : List Int64) (s0 : St) : Prop :=
  (P = 11 ∧ ∃ (x1 : Int32) (x2 : Int32), xs = [x1, x2] ∧ ys = [] ∧ B_X11_seenOnes_11  Q Y x1 x2 s0) ∨ (P = 42 ∧ ∃ (x1 : Int32) (x2 : Int32) (x3 : Int32), xs = [x1, x2, x3] ∧ ys = [] ∧ B_X11_seenOnes_42  Q Y x1 x2 x3 s0)
def R_X11_seenOnes  (Q : Int32 → St → Prop) : Nat → List Int32 → List Int64 → St → Prop := Fx (T_X11_seenOnes  Q)
theorem i_X11_seenOnes_11  (Q : Int32 → St → Prop) (x1 : Int32) (x2 : Int32) (s0 : St) (h : B_X11_seenOnes_11  Q (R_X11_seenOnes  Q) x1 x2 s0) : R_X11_seenOnes  Q 11 [x1, x2] [] s0 := Fx.intro (Or.inl ⟨rfl, x1, x2, rfl, rfl, h⟩)
theorem i_X11_seenOnes_42  (Q : Int32 → St → Prop) (x1 : Int32) (x2 : Int32) (x3 : Int32) (s0 : St) (h : B_X11_seenOnes_42  Q (R_X11_seenOnes  Q) x1 x2 x3 s0) : R_X11_seenOnes  Q 42 [x1, x2, x3] [] s0 := Fx.intro (Or.inr (⟨rfl, x1, x2, x3, rfl, rfl, h⟩))
def V_X11_seenOnes  (s0 : St) (Q : Int32 → St → Prop) : Prop := B_X11_seenOnes_e  Q (R_X11_seenOnes  Q)  s0
/-- what is to hold at the entry of X11_which -/
def B_X11_which_e  (Q : Int32 → St → Prop) (Y : Nat → List Int32 → List Int64 → St → Prop)  (s0 : St) : Prop :=
  V_X11_seenOnes  s0 (fun r1 s1 => Q r1 s1)
def T_X11_which  (Q : Int32 → St → Prop) (Y : Nat → List Int32 → List Int64 → St → Prop) (P : Nat) (xs : List Int32) (ys : List Int64) (s0 : St) : Prop :=
  False
def R_X11_which  (Q : Int32 → St → Prop) : Nat → List Int32 → List Int64 → St → Prop := Fx (T_X11_which  Q)
def V_X11_which  (s0 : St) (Q : Int32 → St → Prop) : Prop := B_X11_which_e  Q (R_X11_which  Q)  s0
theorem kX11_tell_1 : Cond.constant RX11 175 (1000000) ∈ wsX11_tell := List.mem_of_getElem? (i := 1) rfl
theorem kX11_tell_2 : Cond.fieldLink RX11 27 "GloveRailModel" "hand" "[I" ∈ wsX11_tell := List.mem_of_getElem? (i := 2) rfl
theorem iwX11_tell_X11 : ∀ w ∈ wsX110, w ∈ wsX11_tell := fun _ h => List.mem_cons_of_mem _ (List.mem_append_right _ h)
/-- what is to hold at the entry of X11_tell -/
def B_X11_tell_e  (Q : Int32 → St → Prop) (Y : Nat → List Int32 → List Int64 → St → Prop)  (s0 : St) : Prop :=
  V_X11_seenOnes  s0 (fun r1 s1 => V_X11_layHand  s1 (fun s2 => Y 17 [r1, (-1), 1000000, 0] [] s2))
/-- what is to hold at 17 of X11_tell -/
def B_X11_tell_17  (Q : Int32 → St → Prop) (Y : Nat → List Int32 → List Int64 → St → Prop) (x1 : Int32) (x2 : Int32) (x3 : Int32) (x4 : Int32) (s0 : St) : Prop :=
  (20 < x4 → (Q x2 s0)) ∧ (¬ 20 < x4 → ((x1 = 0 → (Q x2 s0)) ∧ (¬ x1 = 0 → (Y 34 [x1, x2, x3, x4, 0, 0] [] s0))))
/-- what is to hold at 34 of X11_tell -/
def B_X11_tell_34  (Q : Int32 → St → Prop) (Y : Nat → List Int32 → List Int64 → St → Prop) (x1 : Int32) (x2 : Int32) (x3 : Int32) (x4 : Int32) (x5 : Int32) (x6 : Int32) (s0 : St) : Prop :=
  V_X11_many  s0 (fun r1 s1 => (r1 ≤ x6 → ((x3 ≤ x5 → (Y 149 [x1, x3, x4, x5, x2] [] s1)) ∧ (¬ x3 ≤ x5 → (Y 149 [x1, x3, x4, x5, x4] [] s1)))) ∧ (¬ r1 ≤ x6 → (Y 49 [x1, x2, x3, x4, x5, x6, 0, 0] [] s1)))
/-- what is to hold at 49 of X11_tell -/
def B_X11_tell_49  (Q : Int32 → St → Prop) (Y : Nat → List Int32 → List Int64 → St → Prop) (x1 : Int32) (x2 : Int32) (x3 : Int32) (x4 : Int32) (x5 : Int32) (x6 : Int32) (x7 : Int32) (x8 : Int32) (s0 : St) : Prop :=
  V_X11_many  s0 (fun r1 s1 => (r1 ≤ x8 → (Y 115 [x1, x2, x3, x4, x5, x6, x7] [] s1)) ∧ (¬ r1 ≤ x8 → (V_X11_has x1 x6 s1 (fun r2 s2 => (r2 = 0 → (Y 115 [x1, x2, x3, x4, x5, x6, x7] [] s2)) ∧ (¬ r2 = 0 → (V_X11_has x1 x8 s2 (fun r3 s3 => (r3 = 0 → (Y 49 [x1, x2, x3, x4, x5, x6, x7 + 0, x8 + 1] [] s3)) ∧ (¬ r3 = 0 → (vp_in (6 + x8) 43 ∧ (vp_in (6 + x6) 43 ∧ ((¬ (s3 5 (6 + x8).toNatClampNeg) = (s3 5 (6 + x6).toNatClampNeg) → (Y 49 [x1, x2, x3, x4, x5, x6, x7 + 0, x8 + 1] [] s3)) ∧ ((s3 5 (6 + x8).toNatClampNeg) = (s3 5 (6 + x6).toNatClampNeg) → (Y 49 [x1, x2, x3, x4, x5, x6, x7 + 1, x8 + 1] [] s3)))))))))))))
/-- what is to hold at 115 of X11_tell -/
def B_X11_tell_115  (Q : Int32 → St → Prop) (Y : Nat → List Int32 → List Int64 → St → Prop) (x1 : Int32) (x2 : Int32) (x3 : Int32) (x4 : Int32) (x5 : Int32) (x6 : Int32) (x7 : Int32) (s0 : St) : Prop :=
  (x7 ≤ x5 → (Y 34 [x1, x2, x3, x4, x5, x6 + 1] [] s0)) ∧ (¬ x7 ≤ x5 → (Y 34 [x1, x2, x3, x4, x7, x6 + 1] [] s0))
/-- what is to hold at 149 of X11_tell -/
def B_X11_tell_149  (Q : Int32 → St → Prop) (Y : Nat → List Int32 → List Int64 → St → Prop) (x1 : Int32) (x3 : Int32) (x4 : Int32) (x5 : Int32) (t0 : Int32) (s0 : St) : Prop :=
  (x3 ≤ x5 → (Y 162 [x1, t0, x4, x3] [] s0)) ∧ (¬ x3 ≤ x5 → (Y 162 [x1, t0, x4, x5] [] s0))
/-- what is to hold at 162 of X11_tell -/
def B_X11_tell_162  (Q : Int32 → St → Prop) (Y : Nat → List Int32 → List Int64 → St → Prop) (x1 : Int32) (x2 : Int32) (x4 : Int32) (t0 : Int32) (s0 : St) : Prop :=
  V_X11_goHour 5 43 s0 (fun s1 => Y 17 [x1, x2, t0, x4 + 1] [] s1)
def T_X11_tell  (Q : Int32 → St → Prop) (Y : Nat → List Int32 → List Int64 → St → Prop) (P : Nat) (xs : List Int32) (ys : List Int64) (s0 : St) : Prop :=
  (P = 17 ∧ ∃ (x1 : Int32) (x2 : Int32) (x3 : Int32) (x4 : Int32), xs = [x1, x2, x3, x4] ∧ ys = [] ∧ B_X11_tell_17  Q Y x1 x2 x3 x4 s0) ∨ (P = 34 ∧ ∃ (x1 : Int32) (x2 : Int32) (x3 : Int32) (x4 : Int32) (x5 : Int32) (x6 : Int32), xs = [x1, x2, x3, x4, x5, x6] ∧ ys = [] ∧ B_X11_tell_34  Q Y x1 x2 x3 x4 x5 x6 s0) ∨ (P = 49 ∧ ∃ (x1 : Int32) (x2 : Int32) (x3 : Int32) (x4 : Int32) (x5 : Int32) (x6 : Int32) (x7 : Int32) (x8 : Int32), xs = [x1, x2, x3, x4, x5, x6, x7, x8] ∧ ys = [] ∧ B_X11_tell_49  Q Y x1 x2 x3 x4 x5 x6 x7 x8 s0) ∨ (P = 115 ∧ ∃ (x1 : Int32) (x2 : Int32) (x3 : Int32) (x4 : Int32) (x5 : Int32) (x6 : Int32) (x7 : Int32), xs = [x1, x2, x3, x4, x5, x6, x7] ∧ ys = [] ∧ B_X11_tell_115  Q Y x1 x2 x3 x4 x5 x6 x7 s0) ∨ (P = 149 ∧ ∃ (x1 : Int32) (x3 : Int32) (x4 : Int32) (x5 : Int32) (t0 : Int32), xs = [x1, x3, x4, x5, t0] ∧ ys = [] ∧ B_X11_tell_149  Q Y x1 x3 x4 x5 t0 s0) ∨ (P = 162 ∧ ∃ (x1 : Int32) (x2 : Int32) (x4 : Int32) (t0 : Int32), xs = [x1, x2, x4, t0] ∧ ys = [] ∧ B_X11_tell_162  Q Y x1 x2 x4 t0 s0)
def R_X11_tell  (Q : Int32 → St → Prop) : Nat → List Int32 → List Int64 → St → Prop := Fx (T_X11_tell  Q)
theorem i_X11_tell_17  (Q : Int32 → St → Prop) (x1 : Int32) (x2 : Int32) (x3 : Int32) (x4 : Int32) (s0 : St) (h : B_X11_tell_17  Q (R_X11_tell  Q) x1 x2 x3 x4 s0) : R_X11_tell  Q 17 [x1, x2, x3, x4] [] s0 := Fx.intro (Or.inl ⟨rfl, x1, x2, x3, x4, rfl, rfl, h⟩)
theorem i_X11_tell_34  (Q : Int32 → St → Prop) (x1 : Int32) (x2 : Int32) (x3 : Int32) (x4 : Int32) (x5 : Int32) (x6 : Int32) (s0 : St) (h : B_X11_tell_34  Q (R_X11_tell  Q) x1 x2 x3 x4 x5 x6 s0) : R_X11_tell  Q 34 [x1, x2, x3, x4, x5, x6] [] s0 := Fx.intro (Or.inr (Or.inl ⟨rfl, x1, x2, x3, x4, x5, x6, rfl, rfl, h⟩))
theorem i_X11_tell_49  (Q : Int32 → St → Prop) (x1 : Int32) (x2 : Int32) (x3 : Int32) (x4 : Int32) (x5 : Int32) (x6 : Int32) (x7 : Int32) (x8 : Int32) (s0 : St) (h : B_X11_tell_49  Q (R_X11_tell  Q) x1 x2 x3 x4 x5 x6 x7 x8 s0) : R_X11_tell  Q 49 [x1, x2, x3, x4, x5, x6, x7, x8] [] s0 := Fx.intro (Or.inr (Or.inr (Or.inl ⟨rfl, x1, x2, x3, x4, x5, x6, x7, x8, rfl, rfl, h⟩)))
theorem i_X11_tell_115  (Q : Int32 → St → Prop) (x1 : Int32) (x2 : Int32) (x3 : Int32) (x4 : Int32) (x5 : Int32) (x6 : Int32) (x7 : Int32) (s0 : St) (h : B_X11_tell_115  Q (R_X11_tell  Q) x1 x2 x3 x4 x5 x6 x7 s0) : R_X11_tell  Q 115 [x1, x2, x3, x4, x5, x6, x7] [] s0 := Fx.intro (Or.inr (Or.inr (Or.inr (Or.inl ⟨rfl, x1, x2, x3, x4, x5, x6, x7, rfl, rfl, h⟩))))
theorem i_X11_tell_149  (Q : Int32 → St → Prop) (x1 : Int32) (x3 : Int32) (x4 : Int32) (x5 : Int32) (t0 : Int32) (s0 : St) (h : B_X11_tell_149  Q (R_X11_tell  Q) x1 x3 x4 x5 t0 s0) : R_X11_tell  Q 149 [x1, x3, x4, x5, t0] [] s0 := Fx.intro (Or.inr (Or.inr (Or.inr (Or.inr (Or.inl ⟨rfl, x1, x3, x4, x5, t0, rfl, rfl, h⟩)))))
theorem i_X11_tell_162  (Q : Int32 → St → Prop) (x1 : Int32) (x2 : Int32) (x4 : Int32) (t0 : Int32) (s0 : St) (h : B_X11_tell_162  Q (R_X11_tell  Q) x1 x2 x4 t0 s0) : R_X11_tell  Q 162 [x1, x2, x4, t0] [] s0 := Fx.intro (Or.inr (Or.inr (Or.inr (Or.inr (Or.inr (⟨rfl, x1, x2, x4, t0, rfl, rfl, h⟩))))))
def V_X11_tell  (s0 : St) (Q : Int32 → St → Prop) : Prop := B_X11_tell_e  Q (R_X11_tell  Q)  s0
theorem kX11_layFour_1 : Cond.fieldLink RX11 7 "GloveRailModel" "all" "[I" ∈ wsX11_layFour := List.mem_of_getElem? (i := 1) rfl
theorem iwX11_layFour_X11 : ∀ w ∈ wsX110, w ∈ wsX11_layFour := fun _ h => List.mem_cons_of_mem _ (List.mem_append_right _ h)
/-- what is to hold at the entry of X11_layFour -/
def B_X11_layFour_e (a1 : Int32) (a2 : Int32) (a3 : Int32) (a4 : Int32) (a5 : Int32) (Q : St → Prop) (Y : Nat → List Int32 → List Int64 → St → Prop)  (s0 : St) : Prop :=
  vp_in a1 181 ∧ (∀ s1, s1 = us s0 1 (upd (s0 1) a1.toNatClampNeg a2) → (vp_in (a1 + 1) 181 ∧ (∀ s2, s2 = us s1 1 (upd (s1 1) (a1 + 1).toNatClampNeg a3) → (vp_in (a1 + 2) 181 ∧ (∀ s3, s3 = us s2 1 (upd (s2 1) (a1 + 2).toNatClampNeg a4) → (vp_in (a1 + 3) 181 ∧ (∀ s4, s4 = us s3 1 (upd (s3 1) (a1 + 3).toNatClampNeg a5) → (Q s4))))))))
def T_X11_layFour (a1 : Int32) (a2 : Int32) (a3 : Int32) (a4 : Int32) (a5 : Int32) (Q : St → Prop) (Y : Nat → List Int32 → List Int64 → St → Prop) (P : Nat) (xs : List Int32) (ys : List Int64) (s0 : St) : Prop :=
  False
def R_X11_layFour (a1 : Int32) (a2 : Int32) (a3 : Int32) (a4 : Int32) (a5 : Int32) (Q : St → Prop) : Nat → List Int32 → List Int64 → St → Prop := Fx (T_X11_layFour a1 a2 a3 a4 a5 Q)
def V_X11_layFour (a1 : Int32) (a2 : Int32) (a3 : Int32) (a4 : Int32) (a5 : Int32) (s0 : St) (Q : St → Prop) : Prop := B_X11_layFour_e a1 a2 a3 a4 a5 Q (R_X11_layFour a1 a2 a3 a4 a5 Q)  s0
theorem kX11_note_1 : Cond.constantLong RX11 176 (99) ∈ wsX11_note := List.mem_of_getElem? (i := 1) rfl
theorem kX11_note_2 : Cond.constantLong RX11 178 (20) ∈ wsX11_note := List.mem_of_getElem? (i := 2) rfl
theorem kX11_note_3 : Cond.fieldLink RX11 7 "GloveRailModel" "all" "[I" ∈ wsX11_note := List.mem_of_getElem? (i := 3) rfl
theorem iwX11_note_X11 : ∀ w ∈ wsX110, w ∈ wsX11_note := fun _ h => List.mem_cons_of_mem _ (List.mem_append_right _ h)
/-- what is to hold at the entry of X11_note -/
def B_X11_note_e (a1 : Int32) (a2 : Int32) (a3 : Int32) (a4 : Int32) (Q : Int32 → St → Prop) (Y : Nat → List Int32 → List Int64 → St → Prop)  (s0 : St) : Prop :=
  V_X11_isGlove a1 s0 (fun r1 s1 => (r1 = 0 → (Y 40 [] [] s1)) ∧ (¬ r1 = 0 → (V_X11_in a2.toInt64 0 99 s1 (fun r2 s2 => (r2 = 0 → (Y 40 [] [] s2)) ∧ (¬ r2 = 0 → (V_X11_isWet a3 s2 (fun r3 s3 => (r3 = 0 → (Y 40 [] [] s3)) ∧ (¬ r3 = 0 → (V_X11_in a4.toInt64 0 20 s3 (fun r4 s4 => (¬ r4 = 0 → ((¬ (s4 1 3) = 6 → (V_X11_layFour (53 + (4 * (s4 1 3))) a1 a2 a3 a4 s4 (fun s5 => ∀ s6, s6 = us s5 1 (upd (s5 1) 3 ((s5 1 3) + 1)) → (Q (s6 1 3) s6)))) ∧ ((s4 1 3) = 6 → (V_X11_full  s4 (fun r7 s7 => Q r7 s7))))) ∧ (r4 = 0 → (Y 40 [] [] s4))))))))))))
/-- what is to hold at 40 of X11_note -/
def B_X11_note_40 (a1 : Int32) (a2 : Int32) (a3 : Int32) (a4 : Int32) (Q : Int32 → St → Prop) (Y : Nat → List Int32 → List Int64 → St → Prop)  (s0 : St) : Prop :=
  V_X11_bad ((-2)) s0 (fun r1 s1 => Q r1 s1)
def T_X11_note (a1 : Int32) (a2 : Int32) (a3 : Int32) (a4 : Int32) (Q : Int32 → St → Prop) (Y : Nat → List Int32 → List Int64 → St → Prop) (P : Nat) (xs : List Int32) (ys : List Int64) (s0 : St) : Prop :=
  (P = 40 ∧ xs = [] ∧ ys = [] ∧ B_X11_note_40 a1 a2 a3 a4 Q Y  s0)
def R_X11_note (a1 : Int32) (a2 : Int32) (a3 : Int32) (a4 : Int32) (Q : Int32 → St → Prop) : Nat → List Int32 → List Int64 → St → Prop := Fx (T_X11_note a1 a2 a3 a4 Q)
theorem i_X11_note_40 (a1 : Int32) (a2 : Int32) (a3 : Int32) (a4 : Int32) (Q : Int32 → St → Prop)  (s0 : St) (h : B_X11_note_40 a1 a2 a3 a4 Q (R_X11_note a1 a2 a3 a4 Q)  s0) : R_X11_note a1 a2 a3 a4 Q 40 [] [] s0 := Fx.intro (⟨rfl, rfl, rfl, h⟩)
def V_X11_note (a1 : Int32) (a2 : Int32) (a3 : Int32) (a4 : Int32) (s0 : St) (Q : Int32 → St → Prop) : Prop := B_X11_note_e a1 a2 a3 a4 Q (R_X11_note a1 a2 a3 a4 Q)  s0
theorem kX11_mark_1 : Cond.constantLong RX11 176 (99) ∈ wsX11_mark := List.mem_of_getElem? (i := 1) rfl
theorem kX11_mark_2 : Cond.constantLong RX11 184 (7) ∈ wsX11_mark := List.mem_of_getElem? (i := 2) rfl
theorem kX11_mark_3 : Cond.constantLong RX11 178 (20) ∈ wsX11_mark := List.mem_of_getElem? (i := 3) rfl
theorem kX11_mark_4 : Cond.fieldLink RX11 7 "GloveRailModel" "all" "[I" ∈ wsX11_mark := List.mem_of_getElem? (i := 4) rfl
theorem iwX11_mark_X11 : ∀ w ∈ wsX110, w ∈ wsX11_mark := fun _ h => List.mem_cons_of_mem _ (List.mem_append_right _ h)
/-- what is to hold at the entry of X11_mark -/
def B_X11_mark_e (a1 : Int32) (a2 : Int32) (a3 : Int32) (a4 : Int32) (Q : Int32 → St → Prop) (Y : Nat → List Int32 → List Int64 → St → Prop)  (s0 : St) : Prop :=
  V_X11_isCrossing a1 s0 (fun r1 s1 => (r1 = 0 → (Y 45 [] [] s1)) ∧ (¬ r1 = 0 → (V_X11_in a2.toInt64 0 99 s1 (fun r2 s2 => (r2 = 0 → (Y 45 [] [] s2)) ∧ (¬ r2 = 0 → (V_X11_in a3.toInt64 1 7 s2 (fun r3 s3 => (r3 = 0 → (Y 45 [] [] s3)) ∧ (¬ r3 = 0 → (V_X11_in a4.toInt64 0 20 s3 (fun r4 s4 => (¬ r4 = 0 → ((¬ (s4 1 4) = 6 → (V_X11_layFour (77 + (4 * (s4 1 4))) a1 a2 a3 a4 s4 (fun s5 => ∀ s6, s6 = us s5 1 (upd (s5 1) 4 ((s5 1 4) + 1)) → (Q (s6 1 4) s6)))) ∧ ((s4 1 4) = 6 → (V_X11_full  s4 (fun r7 s7 => Q r7 s7))))) ∧ (r4 = 0 → (Y 45 [] [] s4))))))))))))
/-- what is to hold at 45 of X11_mark -/
def B_X11_mark_45 (a1 : Int32) (a2 : Int32) (a3 : Int32) (a4 : Int32) (Q : Int32 → St → Prop) (Y : Nat → List Int32 → List Int64 → St → Prop)  (s0 : St) : Prop :=
  V_X11_bad ((-2)) s0 (fun r1 s1 => Q r1 s1)
def T_X11_mark (a1 : Int32) (a2 : Int32) (a3 : Int32) (a4 : Int32) (Q : Int32 → St → Prop) (Y : Nat → List Int32 → List Int64 → St → Prop) (P : Nat) (xs : List Int32) (ys : List Int64) (s0 : St) : Prop :=
  (P = 45 ∧ xs = [] ∧ ys = [] ∧ B_X11_mark_45 a1 a2 a3 a4 Q Y  s0)
def R_X11_mark (a1 : Int32) (a2 : Int32) (a3 : Int32) (a4 : Int32) (Q : Int32 → St → Prop) : Nat → List Int32 → List Int64 → St → Prop := Fx (T_X11_mark a1 a2 a3 a4 Q)
theorem i_X11_mark_45 (a1 : Int32) (a2 : Int32) (a3 : Int32) (a4 : Int32) (Q : Int32 → St → Prop)  (s0 : St) (h : B_X11_mark_45 a1 a2 a3 a4 Q (R_X11_mark a1 a2 a3 a4 Q)  s0) : R_X11_mark a1 a2 a3 a4 Q 45 [] [] s0 := Fx.intro (⟨rfl, rfl, rfl, h⟩)
def V_X11_mark (a1 : Int32) (a2 : Int32) (a3 : Int32) (a4 : Int32) (s0 : St) (Q : Int32 → St → Prop) : Prop := B_X11_mark_e a1 a2 a3 a4 Q (R_X11_mark a1 a2 a3 a4 Q)  s0
theorem kX11_forget_1 : Cond.constantLong RX11 165 (2) ∈ wsX11_forget := List.mem_of_getElem? (i := 1) rfl
theorem kX11_forget_2 : Cond.fieldLink RX11 7 "GloveRailModel" "all" "[I" ∈ wsX11_forget := List.mem_of_getElem? (i := 2) rfl
theorem iwX11_forget_X11 : ∀ w ∈ wsX110, w ∈ wsX11_forget := fun _ h => List.mem_cons_of_mem _ (List.mem_append_right _ h)
/-- what is to hold at the entry of X11_forget -/
def B_X11_forget_e (a1 : Int32) (Q : Int32 → St → Prop) (Y : Nat → List Int32 → List Int64 → St → Prop)  (s0 : St) : Prop :=
  V_X11_in a1.toInt64 0 2 s0 (fun r1 s1 => (¬ r1 = 0 → (vp_in (2 + a1) 181 ∧ (∀ v2, v2 = s1 1 (2 + a1).toNatClampNeg → (vp_in (2 + a1) 181 ∧ (∀ s3, s3 = us s1 1 (upd (s1 1) (2 + a1).toNatClampNeg 0) → (Q v2 s3)))))) ∧ (r1 = 0 → (V_X11_bad ((-2)) s1 (fun r4 s4 => Q r4 s4))))
def T_X11_forget (a1 : Int32) (Q : Int32 → St → Prop) (Y : Nat → List Int32 → List Int64 → St → Prop) (P : Nat) (xs : List Int32) (ys : List Int64) (s0 : St) : Prop :=
  False
def R_X11_forget (a1 : Int32) (Q : Int32 → St → Prop) : Nat → List Int32 → List Int64 → St → Prop := Fx (T_X11_forget a1 Q)
def V_X11_forget (a1 : Int32) (s0 : St) (Q : Int32 → St → Prop) : Prop := B_X11_forget_e a1 Q (R_X11_forget a1 Q)  s0
theorem kX11_kindsBy_1 : Cond.fieldLink RX11 7 "GloveRailModel" "all" "[I" ∈ wsX11_kindsBy := List.mem_of_getElem? (i := 1) rfl
theorem iwX11_kindsBy_X11 : ∀ w ∈ wsX110, w ∈ wsX11_kindsBy := fun _ h => List.mem_cons_of_mem _ (List.mem_append_right _ h)
/-- what is to hold at the entry of X11_kindsBy -/
def B_X11_kindsBy_e (a1 : Int32) (a2 : Int32) (a3 : Int32) (a4 : Int32) (Q : Int32 → St → Prop) (Y : Nat → List Int32 → List Int64 → St → Prop)  (s0 : St) : Prop :=
  Y 6 [0, 0] [] s0
/-- what is to hold at 6 of X11_kindsBy -/
def B_X11_kindsBy_6 (a1 : Int32) (a2 : Int32) (a3 : Int32) (a4 : Int32) (Q : Int32 → St → Prop) (Y : Nat → List Int32 → List Int64 → St → Prop) (x5 : Int32) (x6 : Int32) (s0 : St) : Prop :=
  (6 ≤ x6 → (Q x5 s0)) ∧ (¬ 6 ≤ x6 → (Y 19 [x5, x6, 1, 0] [] s0))
/-- what is to hold at 19 of X11_kindsBy -/
def B_X11_kindsBy_19 (a1 : Int32) (a2 : Int32) (a3 : Int32) (a4 : Int32) (Q : Int32 → St → Prop) (Y : Nat → List Int32 → List Int64 → St → Prop) (x5 : Int32) (x6 : Int32) (x7 : Int32) (x8 : Int32) (s0 : St) : Prop :=
  (a3 ≤ x8 → ((x7 = 0 → (Y 6 [x5 ||| 0, x6 + 1] [] s0)) ∧ (¬ x7 = 0 → (∀ v1, v1 = x5 ||| ((1 : Int32) <<< (x6 &&& 31)) → (Y 6 [v1, x6 + 1] [] s0))))) ∧ (¬ a3 ≤ x8 → ((a4 = 0 → (vp_in ((a2 + (4 * x8)) + 1) 181 ∧ (vp_in ((a2 + (4 * x8)) + 2) 181 ∧ (V_X11_letsAs x6 (s0 1 ((a2 + (4 * x8)) + 1).toNatClampNeg) (s0 1 ((a2 + (4 * x8)) + 2).toNatClampNeg) s0 (fun r2 s2 => Y 87 [x5, x6, x7, x8, a2 + (4 * x8), r2] [] s2))))) ∧ (¬ a4 = 0 → (vp_in ((a2 + (4 * x8)) + 1) 181 ∧ (vp_in ((a2 + (4 * x8)) + 2) 181 ∧ (V_X11_goesAs x6 (s0 1 ((a2 + (4 * x8)) + 1).toNatClampNeg) (s0 1 ((a2 + (4 * x8)) + 2).toNatClampNeg) s0 (fun r3 s3 => Y 87 [x5, x6, x7, x8, a2 + (4 * x8), r3] [] s3)))))))
/-- what is to hold at 87 of X11_kindsBy -/
def B_X11_kindsBy_87 (a1 : Int32) (a2 : Int32) (a3 : Int32) (a4 : Int32) (Q : Int32 → St → Prop) (Y : Nat → List Int32 → List Int64 → St → Prop) (x5 : Int32) (x6 : Int32) (x7 : Int32) (x8 : Int32) (x9 : Int32) (t0 : Int32) (s0 : St) : Prop :=
  (x7 = 0 → (Y 19 [x5, x6, 0, x8 + 1] [] s0)) ∧ (¬ x7 = 0 → (vp_in x9 181 ∧ ((¬ (s0 1 x9.toNatClampNeg) = a1 → (Y 19 [x5, x6, 1, x8 + 1] [] s0)) ∧ ((s0 1 x9.toNatClampNeg) = a1 → (vp_in (x9 + 3) 181 ∧ ((¬ t0 = (s0 1 (x9 + 3).toNatClampNeg) → (Y 19 [x5, x6, 0, x8 + 1] [] s0)) ∧ (t0 = (s0 1 (x9 + 3).toNatClampNeg) → (Y 19 [x5, x6, 1, x8 + 1] [] s0))))))))
def T_X11_kindsBy (a1 : Int32) (a2 : Int32) (a3 : Int32) (a4 : Int32) (Q : Int32 → St → Prop) (Y : Nat → List Int32 → List Int64 → St → Prop) (P : Nat) (xs : List Int32) (ys : List Int64) (s0 : St) : Prop :=
  (P = 6 ∧ ∃ (x5 : Int32) (x6 : Int32), xs = [x5, x6] ∧ ys = [] ∧ B_X11_kindsBy_6 a1 a2 a3 a4 Q Y x5 x6 s0) ∨ (P = 19 ∧ ∃ (x5 : Int32) (x6 : Int32) (x7 : Int32) (x8 : Int32), xs = [x5, x6, x7, x8] ∧ ys = [] ∧ B_X11_kindsBy_19 a1 a2 a3 a4 Q Y x5 x6 x7 x8 s0) ∨ (P = 87 ∧ ∃ (x5 : Int32) (x6 : Int32) (x7 : Int32) (x8 : Int32) (x9 : Int32) (t0 : Int32), xs = [x5, x6, x7, x8, x9, t0] ∧ ys = [] ∧ B_X11_kindsBy_87 a1 a2 a3 a4 Q Y x5 x6 x7 x8 x9 t0 s0)
def R_X11_kindsBy (a1 : Int32) (a2 : Int32) (a3 : Int32) (a4 : Int32) (Q : Int32 → St → Prop) : Nat → List Int32 → List Int64 → St → Prop := Fx (T_X11_kindsBy a1 a2 a3 a4 Q)
theorem i_X11_kindsBy_6 (a1 : Int32) (a2 : Int32) (a3 : Int32) (a4 : Int32) (Q : Int32 → St → Prop) (x5 : Int32) (x6 : Int32) (s0 : St) (h : B_X11_kindsBy_6 a1 a2 a3 a4 Q (R_X11_kindsBy a1 a2 a3 a4 Q) x5 x6 s0) : R_X11_kindsBy a1 a2 a3 a4 Q 6 [x5, x6] [] s0 := Fx.intro (Or.inl ⟨rfl, x5, x6, rfl, rfl, h⟩)
theorem i_X11_kindsBy_19 (a1 : Int32) (a2 : Int32) (a3 : Int32) (a4 : Int32) (Q : Int32 → St → Prop) (x5 : Int32) (x6 : Int32) (x7 : Int32) (x8 : Int32) (s0 : St) (h : B_X11_kindsBy_19 a1 a2 a3 a4 Q (R_X11_kindsBy a1 a2 a3 a4 Q) x5 x6 x7 x8 s0) : R_X11_kindsBy a1 a2 a3 a4 Q 19 [x5, x6, x7, x8] [] s0 := Fx.intro (Or.inr (Or.inl ⟨rfl, x5, x6, x7, x8, rfl, rfl, h⟩))
theorem i_X11_kindsBy_87 (a1 : Int32) (a2 : Int32) (a3 : Int32) (a4 : Int32) (Q : Int32 → St → Prop) (x5 : Int32) (x6 : Int32) (x7 : Int32) (x8 : Int32) (x9 : Int32) (t0 : Int32) (s0 : St) (h : B_X11_kindsBy_87 a1 a2 a3 a4 Q (R_X11_kindsBy a1 a2 a3 a4 Q) x5 x6 x7 x8 x9 t0 s0) : R_X11_kindsBy a1 a2 a3 a4 Q 87 [x5, x6, x7, x8, x9, t0] [] s0 := Fx.intro (Or.inr (Or.inr (⟨rfl, x5, x6, x7, x8, x9, t0, rfl, rfl, h⟩)))
def V_X11_kindsBy (a1 : Int32) (a2 : Int32) (a3 : Int32) (a4 : Int32) (s0 : St) (Q : Int32 → St → Prop) : Prop := B_X11_kindsBy_e a1 a2 a3 a4 Q (R_X11_kindsBy a1 a2 a3 a4 Q)  s0
theorem kX11_kindsOfGlove_1 : Cond.fieldLink RX11 7 "GloveRailModel" "all" "[I" ∈ wsX11_kindsOfGlove := List.mem_of_getElem? (i := 1) rfl
theorem iwX11_kindsOfGlove_X11 : ∀ w ∈ wsX110, w ∈ wsX11_kindsOfGlove := fun _ h => List.mem_cons_of_mem _ (List.mem_append_right _ h)
/-- what is to hold at the entry of X11_kindsOfGlove -/
def B_X11_kindsOfGlove_e (a1 : Int32) (Q : Int32 → St → Prop) (Y : Nat → List Int32 → List Int64 → St → Prop)  (s0 : St) : Prop :=
  V_X11_kindsBy a1 53 (s0 1 3) 1 s0 (fun r1 s1 => Q r1 s1)
def T_X11_kindsOfGlove (a1 : Int32) (Q : Int32 → St → Prop) (Y : Nat → List Int32 → List Int64 → St → Prop) (P : Nat) (xs : List Int32) (ys : List Int64) (s0 : St) : Prop :=
  False
def R_X11_kindsOfGlove (a1 : Int32) (Q : Int32 → St → Prop) : Nat → List Int32 → List Int64 → St → Prop := Fx (T_X11_kindsOfGlove a1 Q)
def V_X11_kindsOfGlove (a1 : Int32) (s0 : St) (Q : Int32 → St → Prop) : Prop := B_X11_kindsOfGlove_e a1 Q (R_X11_kindsOfGlove a1 Q)  s0
theorem kX11_kindsOfCrossing_1 : Cond.fieldLink RX11 7 "GloveRailModel" "all" "[I" ∈ wsX11_kindsOfCrossing := List.mem_of_getElem? (i := 1) rfl
theorem iwX11_kindsOfCrossing_X11 : ∀ w ∈ wsX110, w ∈ wsX11_kindsOfCrossing := fun _ h => List.mem_cons_of_mem _ (List.mem_append_right _ h)
/-- what is to hold at the entry of X11_kindsOfCrossing -/
def B_X11_kindsOfCrossing_e (a1 : Int32) (Q : Int32 → St → Prop) (Y : Nat → List Int32 → List Int64 → St → Prop)  (s0 : St) : Prop :=
  V_X11_kindsBy a1 77 (s0 1 4) 0 s0 (fun r1 s1 => Q r1 s1)
def T_X11_kindsOfCrossing (a1 : Int32) (Q : Int32 → St → Prop) (Y : Nat → List Int32 → List Int64 → St → Prop) (P : Nat) (xs : List Int32) (ys : List Int64) (s0 : St) : Prop :=
  False
def R_X11_kindsOfCrossing (a1 : Int32) (Q : Int32 → St → Prop) : Nat → List Int32 → List Int64 → St → Prop := Fx (T_X11_kindsOfCrossing a1 Q)
def V_X11_kindsOfCrossing (a1 : Int32) (s0 : St) (Q : Int32 → St → Prop) : Prop := B_X11_kindsOfCrossing_e a1 Q (R_X11_kindsOfCrossing a1 Q)  s0
theorem kX11_mostAlike_1 : Cond.fieldLink RX11 36 "GloveRailModel" "tells" "[I" ∈ wsX11_mostAlike := List.mem_of_getElem? (i := 1) rfl
theorem iwX11_mostAlike_X11 : ∀ w ∈ wsX110, w ∈ wsX11_mostAlike := fun _ h => List.mem_cons_of_mem _ (List.mem_append_right _ h)
/-- what is to hold at the entry of X11_mostAlike -/
def B_X11_mostAlike_e (a1 : Int32) (Q : Int32 → St → Prop) (Y : Nat → List Int32 → List Int64 → St → Prop)  (s0 : St) : Prop :=
  Y 4 [0, 0] [] s0
/-- what is to hold at 4 of X11_mostAlike -/
def B_X11_mostAlike_4 (a1 : Int32) (Q : Int32 → St → Prop) (Y : Nat → List Int32 → List Int64 → St → Prop) (x2 : Int32) (x3 : Int32) (s0 : St) : Prop :=
  (6 ≤ x3 → (Q x2 s0)) ∧ (¬ 6 ≤ x3 → (Y 16 [x2, x3, 0, 0] [] s0))
/-- what is to hold at 16 of X11_mostAlike -/
def B_X11_mostAlike_16 (a1 : Int32) (Q : Int32 → St → Prop) (Y : Nat → List Int32 → List Int64 → St → Prop) (x2 : Int32) (x3 : Int32) (x4 : Int32) (x5 : Int32) (s0 : St) : Prop :=
  (6 ≤ x5 → (Y 72 [x2, x3, x4] [] s0)) ∧ (¬ 6 ≤ x5 → (V_X11_has a1 x3 s0 (fun r1 s1 => (r1 = 0 → (Y 72 [x2, x3, x4] [] s1)) ∧ (¬ r1 = 0 → (V_X11_has a1 x5 s1 (fun r2 s2 => (r2 = 0 → (Y 16 [x2, x3, x4 + 0, x5 + 1] [] s2)) ∧ (¬ r2 = 0 → (vp_in x3 6 ∧ (vp_in x5 6 ∧ ((¬ (s2 8 x3.toNatClampNeg) = (s2 8 x5.toNatClampNeg) → (Y 16 [x2, x3, x4 + 0, x5 + 1] [] s2)) ∧ ((s2 8 x3.toNatClampNeg) = (s2 8 x5.toNatClampNeg) → (Y 16 [x2, x3, x4 + 1, x5 + 1] [] s2))))))))))))
/-- what is to hold at 72 of X11_mostAlike -/
def B_X11_mostAlike_72 (a1 : Int32) (Q : Int32 → St → Prop) (Y : Nat → List Int32 → List Int64 → St → Prop) (x2 : Int32) (x3 : Int32) (x4 : Int32) (s0 : St) : Prop :=
  (x4 ≤ x2 → (Y 4 [x2, x3 + 1] [] s0)) ∧ (¬ x4 ≤ x2 → (Y 4 [x4, x3 + 1] [] s0))
def T_X11_mostAlike (a1 : Int32) (Q : Int32 → St → Prop) (Y : Nat → List Int32 → List Int64 → St → Prop) (P : Nat) (xs : List Int32) (ys : List Int64) (s0 : St) : Prop :=
  (P = 4 ∧ ∃ (x2 : Int32) (x3 : Int32), xs = [x2, x3] ∧ ys = [] ∧ B_X11_mostAlike_4 a1 Q Y x2 x3 s0) ∨ (P = 16 ∧ ∃ (x2 : Int32) (x3 : Int32) (x4 : Int32) (x5 : Int32), xs = [x2, x3, x4, x5] ∧ ys = [] ∧ B_X11_mostAlike_16 a1 Q Y x2 x3 x4 x5 s0) ∨ (P = 72 ∧ ∃ (x2 : Int32) (x3 : Int32) (x4 : Int32), xs = [x2, x3, x4] ∧ ys = [] ∧ B_X11_mostAlike_72 a1 Q Y x2 x3 x4 s0)
def R_X11_mostAlike (a1 : Int32) (Q : Int32 → St → Prop) : Nat → List Int32 → List Int64 → St → Prop := Fx (T_X11_mostAlike a1 Q)
theorem i_X11_mostAlike_4 (a1 : Int32) (Q : Int32 → St → Prop) (x2 : Int32) (x3 : Int32) (s0 : St) (h : B_X11_mostAlike_4 a1 Q (R_X11_mostAlike a1 Q) x2 x3 s0) : R_X11_mostAlike a1 Q 4 [x2, x3] [] s0 := Fx.intro (Or.inl ⟨rfl, x2, x3, rfl, rfl, h⟩)
theorem i_X11_mostAlike_16 (a1 : Int32) (Q : Int32 → St → Prop) (x2 : Int32) (x3 : Int32) (x4 : Int32) (x5 : Int32) (s0 : St) (h : B_X11_mostAlike_16 a1 Q (R_X11_mostAlike a1 Q) x2 x3 x4 x5 s0) : R_X11_mostAlike a1 Q 16 [x2, x3, x4, x5] [] s0 := Fx.intro (Or.inr (Or.inl ⟨rfl, x2, x3, x4, x5, rfl, rfl, h⟩))
theorem i_X11_mostAlike_72 (a1 : Int32) (Q : Int32 → St → Prop) (x2 : Int32) (x3 : Int32) (x4 : Int32) (s0 : St) (h : B_X11_mostAlike_72 a1 Q (R_X11_mostAlike a1 Q) x2 x3 x4 s0) : R_X11_mostAlike a1 Q 72 [x2, x3, x4] [] s0 := Fx.intro (Or.inr (Or.inr (⟨rfl, x2, x3, x4, rfl, rfl, h⟩)))
def V_X11_mostAlike (a1 : Int32) (s0 : St) (Q : Int32 → St → Prop) : Prop := B_X11_mostAlike_e a1 Q (R_X11_mostAlike a1 Q)  s0
theorem kX11_bestLook_1 : Cond.constant RX11 175 (1000000) ∈ wsX11_bestLook := List.mem_of_getElem? (i := 1) rfl
theorem kX11_bestLook_2 : Cond.fieldLink RX11 36 "GloveRailModel" "tells" "[I" ∈ wsX11_bestLook := List.mem_of_getElem? (i := 2) rfl
theorem iwX11_bestLook_X11 : ∀ w ∈ wsX110, w ∈ wsX11_bestLook := fun _ h => List.mem_cons_of_mem _ (List.mem_append_right _ h)
/-- what is to hold at the entry of X11_bestLook -/
def B_X11_bestLook_e (a1 : Int32) (a2 : Int32) (a3 : Int32) (a4 : Int32) (a5 : Int32) (Q : Int32 → St → Prop) (Y : Nat → List Int32 → List Int64 → St → Prop)  (s0 : St) : Prop :=
  Y 10 [(-1), 1000000, 0] [] s0
/-- what is to hold at 10 of X11_bestLook -/
def B_X11_bestLook_10 (a1 : Int32) (a2 : Int32) (a3 : Int32) (a4 : Int32) (a5 : Int32) (Q : Int32 → St → Prop) (Y : Nat → List Int32 → List Int64 → St → Prop) (x6 : Int32) (x7 : Int32) (x8 : Int32) (s0 : St) : Prop :=
  (a2 ≤ x8 → (Q x6 s0)) ∧ (¬ a2 ≤ x8 → ((a1 ≤ 0 → (Q x6 s0)) ∧ (¬ a1 ≤ 0 → (Y 23 [x6, x7, x8, a3] [] s0))))
/-- what is to hold at 23 of X11_bestLook -/
def B_X11_bestLook_23 (a1 : Int32) (a2 : Int32) (a3 : Int32) (a4 : Int32) (a5 : Int32) (Q : Int32 → St → Prop) (Y : Nat → List Int32 → List Int64 → St → Prop) (x6 : Int32) (x7 : Int32) (x8 : Int32) (x9 : Int32) (s0 : St) : Prop :=
  (a4 < x9 → (Y 10 [x6, x7, x8 + 1] [] s0)) ∧ (¬ a4 < x9 → (Y 33 [x6, x7, x8, x9, 0] [] s0))
/-- what is to hold at 33 of X11_bestLook -/
def B_X11_bestLook_33 (a1 : Int32) (a2 : Int32) (a3 : Int32) (a4 : Int32) (a5 : Int32) (Q : Int32 → St → Prop) (Y : Nat → List Int32 → List Int64 → St → Prop) (x6 : Int32) (x7 : Int32) (x8 : Int32) (x9 : Int32) (x10 : Int32) (s0 : St) : Prop :=
  (6 ≤ x10 → (V_X11_mostAlike a1 s0 (fun r1 s1 => (x7 ≤ r1 → (Y 106 [x7, x8, x9, r1, x6] [] s1)) ∧ (¬ x7 ≤ r1 → (Y 106 [x7, x8, x9, r1, (10 * x8) + x9] [] s1))))) ∧ (¬ 6 ≤ x10 → ((a5 = 0 → (V_X11_letsAs x10 x8 x9 s0 (fun r2 s2 => vp_in x10 6 ∧ (∀ s3, s3 = us s2 8 (upd (s2 8) x10.toNatClampNeg r2) → (Y 33 [x6, x7, x8, x9, x10 + 1] [] s3))))) ∧ (¬ a5 = 0 → (V_X11_goesAs x10 x8 x9 s0 (fun r4 s4 => vp_in x10 6 ∧ (∀ s5, s5 = us s4 8 (upd (s4 8) x10.toNatClampNeg r4) → (Y 33 [x6, x7, x8, x9, x10 + 1] [] s5)))))))
/-- what is to hold at 106 of X11_bestLook -/
def B_X11_bestLook_106 (a1 : Int32) (a2 : Int32) (a3 : Int32) (a4 : Int32) (a5 : Int32) (Q : Int32 → St → Prop) (Y : Nat → List Int32 → List Int64 → St → Prop) (x7 : Int32) (x8 : Int32) (x9 : Int32) (x10 : Int32) (t0 : Int32) (s0 : St) : Prop :=
  (x7 ≤ x10 → (Y 23 [t0, x7, x8, x9 + 1] [] s0)) ∧ (¬ x7 ≤ x10 → (Y 23 [t0, x10, x8, x9 + 1] [] s0))
def T_X11_bestLook (a1 : Int32) (a2 : Int32) (a3 : Int32) (a4 : Int32) (a5 : Int32) (Q : Int32 → St → Prop) (Y : Nat → List Int32 → List Int64 → St → Prop) (P : Nat) (xs : List Int32) (ys : List Int64) (s0 : St) : Prop :=
  (P = 10 ∧ ∃ (x6 : Int32) (x7 : Int32) (x8 : Int32), xs = [x6, x7, x8] ∧ ys = [] ∧ B_X11_bestLook_10 a1 a2 a3 a4 a5 Q Y x6 x7 x8 s0) ∨ (P = 23 ∧ ∃ (x6 : Int32) (x7 : Int32) (x8 : Int32) (x9 : Int32), xs = [x6, x7, x8, x9] ∧ ys = [] ∧ B_X11_bestLook_23 a1 a2 a3 a4 a5 Q Y x6 x7 x8 x9 s0) ∨ (P = 33 ∧ ∃ (x6 : Int32) (x7 : Int32) (x8 : Int32) (x9 : Int32) (x10 : Int32), xs = [x6, x7, x8, x9, x10] ∧ ys = [] ∧ B_X11_bestLook_33 a1 a2 a3 a4 a5 Q Y x6 x7 x8 x9 x10 s0) ∨ (P = 106 ∧ ∃ (x7 : Int32) (x8 : Int32) (x9 : Int32) (x10 : Int32) (t0 : Int32), xs = [x7, x8, x9, x10, t0] ∧ ys = [] ∧ B_X11_bestLook_106 a1 a2 a3 a4 a5 Q Y x7 x8 x9 x10 t0 s0)
def R_X11_bestLook (a1 : Int32) (a2 : Int32) (a3 : Int32) (a4 : Int32) (a5 : Int32) (Q : Int32 → St → Prop) : Nat → List Int32 → List Int64 → St → Prop := Fx (T_X11_bestLook a1 a2 a3 a4 a5 Q)
theorem i_X11_bestLook_10 (a1 : Int32) (a2 : Int32) (a3 : Int32) (a4 : Int32) (a5 : Int32) (Q : Int32 → St → Prop) (x6 : Int32) (x7 : Int32) (x8 : Int32) (s0 : St) (h : B_X11_bestLook_10 a1 a2 a3 a4 a5 Q (R_X11_bestLook a1 a2 a3 a4 a5 Q) x6 x7 x8 s0) : R_X11_bestLook a1 a2 a3 a4 a5 Q 10 [x6, x7, x8] [] s0 := Fx.intro (Or.inl ⟨rfl, x6, x7, x8, rfl, rfl, h⟩)
theorem i_X11_bestLook_23 (a1 : Int32) (a2 : Int32) (a3 : Int32) (a4 : Int32) (a5 : Int32) (Q : Int32 → St → Prop) (x6 : Int32) (x7 : Int32) (x8 : Int32) (x9 : Int32) (s0 : St) (h : B_X11_bestLook_23 a1 a2 a3 a4 a5 Q (R_X11_bestLook a1 a2 a3 a4 a5 Q) x6 x7 x8 x9 s0) : R_X11_bestLook a1 a2 a3 a4 a5 Q 23 [x6, x7, x8, x9] [] s0 := Fx.intro (Or.inr (Or.inl ⟨rfl, x6, x7, x8, x9, rfl, rfl, h⟩))
theorem i_X11_bestLook_33 (a1 : Int32) (a2 : Int32) (a3 : Int32) (a4 : Int32) (a5 : Int32) (Q : Int32 → St → Prop) (x6 : Int32) (x7 : Int32) (x8 : Int32) (x9 : Int32) (x10 : Int32) (s0 : St) (h : B_X11_bestLook_33 a1 a2 a3 a4 a5 Q (R_X11_bestLook a1 a2 a3 a4 a5 Q) x6 x7 x8 x9 x10 s0) : R_X11_bestLook a1 a2 a3 a4 a5 Q 33 [x6, x7, x8, x9, x10] [] s0 := Fx.intro (Or.inr (Or.inr (Or.inl ⟨rfl, x6, x7, x8, x9, x10, rfl, rfl, h⟩)))
theorem i_X11_bestLook_106 (a1 : Int32) (a2 : Int32) (a3 : Int32) (a4 : Int32) (a5 : Int32) (Q : Int32 → St → Prop) (x7 : Int32) (x8 : Int32) (x9 : Int32) (x10 : Int32) (t0 : Int32) (s0 : St) (h : B_X11_bestLook_106 a1 a2 a3 a4 a5 Q (R_X11_bestLook a1 a2 a3 a4 a5 Q) x7 x8 x9 x10 t0 s0) : R_X11_bestLook a1 a2 a3 a4 a5 Q 106 [x7, x8, x9, x10, t0] [] s0 := Fx.intro (Or.inr (Or.inr (Or.inr (⟨rfl, x7, x8, x9, x10, t0, rfl, rfl, h⟩))))
def V_X11_bestLook (a1 : Int32) (a2 : Int32) (a3 : Int32) (a4 : Int32) (a5 : Int32) (s0 : St) (Q : Int32 → St → Prop) : Prop := B_X11_bestLook_e a1 a2 a3 a4 a5 Q (R_X11_bestLook a1 a2 a3 a4 a5 Q)  s0
/-- what is to hold at the entry of X11_is -/
def B_X11_is_e (a1 : Int32) (Q : Int32 → St → Prop) (Y : Nat → List Int32 → List Int64 → St → Prop)  (s0 : St) : Prop :=
  V_X11_isGlove a1 s0 (fun r1 s1 => (r1 = 0 → (V_X11_bad ((-2)) s1 (fun r2 s2 => Q r2 s2))) ∧ (¬ r1 = 0 → (V_X11_kindsOfGlove a1 s1 (fun r3 s3 => Q r3 s3))))
def T_X11_is (a1 : Int32) (Q : Int32 → St → Prop) (Y : Nat → List Int32 → List Int64 → St → Prop) (P : Nat) (xs : List Int32) (ys : List Int64) (s0 : St) : Prop :=
  False
def R_X11_is (a1 : Int32) (Q : Int32 → St → Prop) : Nat → List Int32 → List Int64 → St → Prop := Fx (T_X11_is a1 Q)
def V_X11_is (a1 : Int32) (s0 : St) (Q : Int32 → St → Prop) : Prop := B_X11_is_e a1 Q (R_X11_is a1 Q)  s0
/-- what is to hold at the entry of X11_look -/
def B_X11_look_e (a1 : Int32) (Q : Int32 → St → Prop) (Y : Nat → List Int32 → List Int64 → St → Prop)  (s0 : St) : Prop :=
  V_X11_isGlove a1 s0 (fun r1 s1 => (r1 = 0 → (V_X11_bad ((-2)) s1 (fun r2 s2 => Q r2 s2))) ∧ (¬ r1 = 0 → (V_X11_kindsOfGlove a1 s1 (fun r3 s3 => V_X11_bestLook r3 10 0 4 1 s3 (fun r4 s4 => Q r4 s4)))))
def T_X11_look (a1 : Int32) (Q : Int32 → St → Prop) (Y : Nat → List Int32 → List Int64 → St → Prop) (P : Nat) (xs : List Int32) (ys : List Int64) (s0 : St) : Prop :=
  False
def R_X11_look (a1 : Int32) (Q : Int32 → St → Prop) : Nat → List Int32 → List Int64 → St → Prop := Fx (T_X11_look a1 Q)
def V_X11_look (a1 : Int32) (s0 : St) (Q : Int32 → St → Prop) : Prop := B_X11_look_e a1 Q (R_X11_look a1 Q)  s0
/-- what is to hold at the entry of X11_kinds -/
def B_X11_kinds_e (a1 : Int32) (Q : Int32 → St → Prop) (Y : Nat → List Int32 → List Int64 → St → Prop)  (s0 : St) : Prop :=
  V_X11_isCrossing a1 s0 (fun r1 s1 => (r1 = 0 → (V_X11_bad ((-2)) s1 (fun r2 s2 => Q r2 s2))) ∧ (¬ r1 = 0 → (V_X11_kindsOfCrossing a1 s1 (fun r3 s3 => Q r3 s3))))
def T_X11_kinds (a1 : Int32) (Q : Int32 → St → Prop) (Y : Nat → List Int32 → List Int64 → St → Prop) (P : Nat) (xs : List Int32) (ys : List Int64) (s0 : St) : Prop :=
  False
def R_X11_kinds (a1 : Int32) (Q : Int32 → St → Prop) : Nat → List Int32 → List Int64 → St → Prop := Fx (T_X11_kinds a1 Q)
def V_X11_kinds (a1 : Int32) (s0 : St) (Q : Int32 → St → Prop) : Prop := B_X11_kinds_e a1 Q (R_X11_kinds a1 Q)  s0
/-- what is to hold at the entry of X11_ask -/
def B_X11_ask_e (a1 : Int32) (Q : Int32 → St → Prop) (Y : Nat → List Int32 → List Int64 → St → Prop)  (s0 : St) : Prop :=
  V_X11_isCrossing a1 s0 (fun r1 s1 => (r1 = 0 → (V_X11_bad ((-2)) s1 (fun r2 s2 => Q r2 s2))) ∧ (¬ r1 = 0 → (V_X11_kindsOfCrossing a1 s1 (fun r3 s3 => V_X11_bestLook r3 24 1 7 0 s3 (fun r4 s4 => Q r4 s4)))))
def T_X11_ask (a1 : Int32) (Q : Int32 → St → Prop) (Y : Nat → List Int32 → List Int64 → St → Prop) (P : Nat) (xs : List Int32) (ys : List Int64) (s0 : St) : Prop :=
  False
def R_X11_ask (a1 : Int32) (Q : Int32 → St → Prop) : Nat → List Int32 → List Int64 → St → Prop := Fx (T_X11_ask a1 Q)
def V_X11_ask (a1 : Int32) (s0 : St) (Q : Int32 → St → Prop) : Prop := B_X11_ask_e a1 Q (R_X11_ask a1 Q)  s0
theorem kX11_spikesOf_1 : Cond.fieldLink RX11 27 "GloveRailModel" "hand" "[I" ∈ wsX11_spikesOf := List.mem_of_getElem? (i := 1) rfl
theorem iwX11_spikesOf_X11 : ∀ w ∈ wsX110, w ∈ wsX11_spikesOf := fun _ h => List.mem_cons_of_mem _ (List.mem_append_right _ h)
/-- what is to hold at the entry of X11_spikesOf -/
def B_X11_spikesOf_e (a1 : Int32) (Q : Int32 → St → Prop) (Y : Nat → List Int32 → List Int64 → St → Prop)  (s0 : St) : Prop :=
  V_X11_layHand  s0 (fun s1 => Y 8 [0, 0] [] s1)
/-- what is to hold at 8 of X11_spikesOf -/
def B_X11_spikesOf_8 (a1 : Int32) (Q : Int32 → St → Prop) (Y : Nat → List Int32 → List Int64 → St → Prop) (x2 : Int32) (x3 : Int32) (s0 : St) : Prop :=
  (30 < x3 → (Q x2 s0)) ∧ (¬ 30 < x3 → (vp_in (6 + a1) 43 ∧ (∀ v1, v1 = x2 ||| ((1 : Int32) <<< ((s0 5 (6 + a1).toNatClampNeg) &&& 31)) → (V_X11_goHour 5 43 s0 (fun s2 => Y 8 [v1, x3 + 1] [] s2)))))
def T_X11_spikesOf (a1 : Int32) (Q : Int32 → St → Prop) (Y : Nat → List Int32 → List Int64 → St → Prop) (P : Nat) (xs : List Int32) (ys : List Int64) (s0 : St) : Prop :=
  (P = 8 ∧ ∃ (x2 : Int32) (x3 : Int32), xs = [x2, x3] ∧ ys = [] ∧ B_X11_spikesOf_8 a1 Q Y x2 x3 s0)
def R_X11_spikesOf (a1 : Int32) (Q : Int32 → St → Prop) : Nat → List Int32 → List Int64 → St → Prop := Fx (T_X11_spikesOf a1 Q)
theorem i_X11_spikesOf_8 (a1 : Int32) (Q : Int32 → St → Prop) (x2 : Int32) (x3 : Int32) (s0 : St) (h : B_X11_spikesOf_8 a1 Q (R_X11_spikesOf a1 Q) x2 x3 s0) : R_X11_spikesOf a1 Q 8 [x2, x3] [] s0 := Fx.intro (⟨rfl, x2, x3, rfl, rfl, h⟩)
def V_X11_spikesOf (a1 : Int32) (s0 : St) (Q : Int32 → St → Prop) : Prop := B_X11_spikesOf_e a1 Q (R_X11_spikesOf a1 Q)  s0
/-- what is to hold at the entry of X11_toHer -/
def B_X11_toHer_e (a0 : Int32) (a1 : Int32) (a2 : Int32) (Q : Int32 → St → Prop) (Y : Nat → List Int32 → List Int64 → St → Prop)  (s0 : St) : Prop :=
  V_X11_has a0 a1 s0 (fun r1 s1 => (r1 = 0 → (Y 13 [0] [] s1)) ∧ (¬ r1 = 0 → (Y 13 [5] [] s1)))
/-- what is to hold at 13 of X11_toHer -/
def B_X11_toHer_13 (a0 : Int32) (a1 : Int32) (a2 : Int32) (Q : Int32 → St → Prop) (Y : Nat → List Int32 → List Int64 → St → Prop) (t0 : Int32) (s0 : St) : Prop :=
  (¬ a1 = a2 → (Q ((t0 - (a1 / 3)) - 0) s0)) ∧ (a1 = a2 → (Q ((t0 - (a1 / 3)) - 3) s0))
def T_X11_toHer (a0 : Int32) (a1 : Int32) (a2 : Int32) (Q : Int32 → St → Prop) (Y : Nat → List Int32 → List Int64 → St → Prop) (P : Nat) (xs : List Int32) (ys : List Int64) (s0 : St) : Prop :=
  (P = 13 ∧ ∃ (t0 : Int32), xs = [t0] ∧ ys = [] ∧ B_X11_toHer_13 a0 a1 a2 Q Y t0 s0)
def R_X11_toHer (a0 : Int32) (a1 : Int32) (a2 : Int32) (Q : Int32 → St → Prop) : Nat → List Int32 → List Int64 → St → Prop := Fx (T_X11_toHer a0 a1 a2 Q)
theorem i_X11_toHer_13 (a0 : Int32) (a1 : Int32) (a2 : Int32) (Q : Int32 → St → Prop) (t0 : Int32) (s0 : St) (h : B_X11_toHer_13 a0 a1 a2 Q (R_X11_toHer a0 a1 a2 Q) t0 s0) : R_X11_toHer a0 a1 a2 Q 13 [t0] [] s0 := Fx.intro (⟨rfl, t0, rfl, rfl, h⟩)
def V_X11_toHer (a0 : Int32) (a1 : Int32) (a2 : Int32) (s0 : St) (Q : Int32 → St → Prop) : Prop := B_X11_toHer_e a0 a1 a2 Q (R_X11_toHer a0 a1 a2 Q)  s0
/-- what is to hold at the entry of X11_toHim -/
def B_X11_toHim_e (a0 : Int32) (a1 : Int32) (Q : Int32 → St → Prop) (Y : Nat → List Int32 → List Int64 → St → Prop)  (s0 : St) : Prop :=
  (¬ a0 = a1 → (Q (0 - (a1 / 3)) s0)) ∧ (a0 = a1 → (Q (3 - (a1 / 3)) s0))
def T_X11_toHim (a0 : Int32) (a1 : Int32) (Q : Int32 → St → Prop) (Y : Nat → List Int32 → List Int64 → St → Prop) (P : Nat) (xs : List Int32) (ys : List Int64) (s0 : St) : Prop :=
  False
def R_X11_toHim (a0 : Int32) (a1 : Int32) (Q : Int32 → St → Prop) : Nat → List Int32 → List Int64 → St → Prop := Fx (T_X11_toHim a0 a1 Q)
def V_X11_toHim (a0 : Int32) (a1 : Int32) (s0 : St) (Q : Int32 → St → Prop) : Prop := B_X11_toHim_e a0 a1 Q (R_X11_toHim a0 a1 Q)  s0
/-- what is to hold at the entry of X11_rests -/
def B_X11_rests_e (a0 : Int32) (a1 : Int32) (a2 : Int32) (Q : Int32 → St → Prop) (Y : Nat → List Int32 → List Int64 → St → Prop)  (s0 : St) : Prop :=
  Y 5 [1, 0] [] s0
/-- what is to hold at 5 of X11_rests -/
def B_X11_rests_5 (a0 : Int32) (a1 : Int32) (a2 : Int32) (Q : Int32 → St → Prop) (Y : Nat → List Int32 → List Int64 → St → Prop) (x3 : Int32) (x4 : Int32) (s0 : St) : Prop :=
  (10 ≤ x4 → ((x3 = 0 ∨ x3 = 1) ∧ (Q x3 s0))) ∧ (¬ 10 ≤ x4 → ((x3 = 0 → (Y 5 [0, x4 + 1] [] s0)) ∧ (¬ x3 = 0 → (V_X11_toHer a0 x4 a2 s0 (fun r1 s1 => V_X11_toHer a0 a1 a2 s1 (fun r2 s2 => (r2 < r1 → (Y 5 [0, x4 + 1] [] s2)) ∧ (¬ r2 < r1 → (V_X11_toHim a1 x4 s2 (fun r3 s3 => V_X11_toHim a1 a2 s3 (fun r4 s4 => (r4 < r3 → (Y 5 [0, x4 + 1] [] s4)) ∧ (¬ r4 < r3 → (Y 5 [1, x4 + 1] [] s4))))))))))))
def T_X11_rests (a0 : Int32) (a1 : Int32) (a2 : Int32) (Q : Int32 → St → Prop) (Y : Nat → List Int32 → List Int64 → St → Prop) (P : Nat) (xs : List Int32) (ys : List Int64) (s0 : St) : Prop :=
  (P = 5 ∧ ∃ (x3 : Int32) (x4 : Int32), xs = [x3, x4] ∧ ys = [] ∧ B_X11_rests_5 a0 a1 a2 Q Y x3 x4 s0)
def R_X11_rests (a0 : Int32) (a1 : Int32) (a2 : Int32) (Q : Int32 → St → Prop) : Nat → List Int32 → List Int64 → St → Prop := Fx (T_X11_rests a0 a1 a2 Q)
theorem i_X11_rests_5 (a0 : Int32) (a1 : Int32) (a2 : Int32) (Q : Int32 → St → Prop) (x3 : Int32) (x4 : Int32) (s0 : St) (h : B_X11_rests_5 a0 a1 a2 Q (R_X11_rests a0 a1 a2 Q) x3 x4 s0) : R_X11_rests a0 a1 a2 Q 5 [x3, x4] [] s0 := Fx.intro (⟨rfl, x3, x4, rfl, rfl, h⟩)
def V_X11_rests (a0 : Int32) (a1 : Int32) (a2 : Int32) (s0 : St) (Q : Int32 → St → Prop) : Prop := B_X11_rests_e a0 a1 a2 Q (R_X11_rests a0 a1 a2 Q)  s0
/-- what is to hold at the entry of X11_lady -/
def B_X11_lady_e (a1 : Int32) (a2 : Int32) (Q : Int32 → St → Prop) (Y : Nat → List Int32 → List Int64 → St → Prop)  (s0 : St) : Prop :=
  V_X11_isGlove a1 s0 (fun r1 s1 => (r1 = 0 → (Y 13 [] [] s1)) ∧ (¬ r1 = 0 → ((((-1)) ≤ a2 → (V_X11_spikesOf a1 s1 (fun r2 s2 => Y 32 [r2, 0, 0] [] s2))) ∧ (¬ ((-1)) ≤ a2 → (Y 13 [] [] s1)))))
/-- what is to hold at 13 of X11_lady -/
def B_X11_lady_13 (a1 : Int32) (a2 : Int32) (Q : Int32 → St → Prop) (Y : Nat → List Int32 → List Int64 → St → Prop)  (s0 : St) : Prop :=
  V_X11_bad ((-10)) s0 (fun r1 s1 => Q r1 s1)
/-- what is to hold at 32 of X11_lady -/
def B_X11_lady_32 (a1 : Int32) (a2 : Int32) (Q : Int32 → St → Prop) (Y : Nat → List Int32 → List Int64 → St → Prop) (x3 : Int32) (x4 : Int32) (x5 : Int32) (s0 : St) : Prop :=
  (100 ≤ x5 → ((¬ a2 = ((-1)) → (Q ((-5)) s0)) ∧ (a2 = ((-1)) → (Q x4 s0)))) ∧ (¬ 100 ≤ x5 → (V_X11_rests x3 (x5 / 10) (x5 - x5 / 10 * 10) s0 (fun r1 s1 => (r1 = 0 → (Y 32 [x3, x4, x5 + 1] [] s1)) ∧ (¬ r1 = 0 → ((¬ x4 = a2 → (Y 32 [x3, x4 + 1, x5 + 1] [] s1)) ∧ (x4 = a2 → (Q x5 s1)))))))
def T_X11_lady (a1 : Int32) (a2 : Int32) (Q : Int32 → St → Prop) (Y : Nat → List Int32 → List Int64 → St → Prop) (P : Nat) (xs : List Int32) (ys : List Int64) (s0 : St) : Prop :=
  (P = 13 ∧ xs = [] ∧ ys = [] ∧ B_X11_lady_13 a1 a2 Q Y  s0) ∨ (P = 32 ∧ ∃ (x3 : Int32) (x4 : Int32) (x5 : Int32), xs = [x3, x4, x5] ∧ ys = [] ∧ B_X11_lady_32 a1 a2 Q Y x3 x4 x5 s0)
def R_X11_lady (a1 : Int32) (a2 : Int32) (Q : Int32 → St → Prop) : Nat → List Int32 → List Int64 → St → Prop := Fx (T_X11_lady a1 a2 Q)
theorem i_X11_lady_13 (a1 : Int32) (a2 : Int32) (Q : Int32 → St → Prop)  (s0 : St) (h : B_X11_lady_13 a1 a2 Q (R_X11_lady a1 a2 Q)  s0) : R_X11_lady a1 a2 Q 13 [] [] s0 := Fx.intro (Or.inl ⟨rfl, rfl, rfl, h⟩)
theorem i_X11_lady_32 (a1 : Int32) (a2 : Int32) (Q : Int32 → St → Prop) (x3 : Int32) (x4 : Int32) (x5 : Int32) (s0 : St) (h : B_X11_lady_32 a1 a2 Q (R_X11_lady a1 a2 Q) x3 x4 x5 s0) : R_X11_lady a1 a2 Q 32 [x3, x4, x5] [] s0 := Fx.intro (Or.inr (⟨rfl, x3, x4, x5, rfl, rfl, h⟩))
def V_X11_lady (a1 : Int32) (a2 : Int32) (s0 : St) (Q : Int32 → St → Prop) : Prop := B_X11_lady_e a1 a2 Q (R_X11_lady a1 a2 Q)  s0
theorem kX11_fraction_1 : Cond.fieldLink RX11 217 "GloveRailModel" "above" "J" ∈ wsX11_fraction := List.mem_of_getElem? (i := 1) rfl
theorem kX11_fraction_2 : Cond.fieldLink RX11 23 "GloveRailModel" "below" "J" ∈ wsX11_fraction := List.mem_of_getElem? (i := 2) rfl
theorem iwX11_fraction_X11 : ∀ w ∈ wsX110, w ∈ wsX11_fraction := fun _ h => List.mem_cons_of_mem _ (List.mem_append_right _ h)
/-- what is to hold at the entry of X11_fraction -/
def B_X11_fraction_e (a1 : Int64) (a3 : Int64) (Q : St → Prop) (Y : Nat → List Int32 → List Int64 → St → Prop)  (s0 : St) : Prop :=
  Y 6 [] [a1, a3] s0
/-- what is to hold at 6 of X11_fraction -/
def B_X11_fraction_6 (a1 : Int64) (a3 : Int64) (Q : St → Prop) (Y : Nat → List Int32 → List Int64 → St → Prop) (y5 : Int64) (y7 : Int64) (s0 : St) : Prop :=
  ((lg_cmp y7 0) = 0 → (¬ y5 = 0 ∧ (∀ s1, s1 = us s0 0 (upd (upd (s0 0) 28 (lgh (a1 / y5))) 29 (lgl (a1 / y5))) → (¬ y5 = 0 ∧ (∀ s2, s2 = us s1 0 (upd (upd (s1 0) 30 (lgh (a3 / y5))) 31 (lgl (a3 / y5))) → (Q s2)))))) ∧ (¬ (lg_cmp y7 0) = 0 → (¬ y7 = 0 ∧ (Y 6 [] [y7, y5 - y5 / y7 * y7] s0)))
def T_X11_fraction (a1 : Int64) (a3 : Int64) (Q : St → Prop) (Y : Nat → List Int32 → List Int64 → St → Prop) (P : Nat) (xs : List Int32) (ys : List Int64) (s0 : St) : Prop :=
  (P = 6 ∧ ∃ (y5 : Int64) (y7 : Int64), xs = [] ∧ ys = [y5, y7] ∧ B_X11_fraction_6 a1 a3 Q Y y5 y7 s0)
def R_X11_fraction (a1 : Int64) (a3 : Int64) (Q : St → Prop) : Nat → List Int32 → List Int64 → St → Prop := Fx (T_X11_fraction a1 a3 Q)
theorem i_X11_fraction_6 (a1 : Int64) (a3 : Int64) (Q : St → Prop) (y5 : Int64) (y7 : Int64) (s0 : St) (h : B_X11_fraction_6 a1 a3 Q (R_X11_fraction a1 a3 Q) y5 y7 s0) : R_X11_fraction a1 a3 Q 6 [] [y5, y7] s0 := Fx.intro (⟨rfl, y5, y7, rfl, rfl, h⟩)
def V_X11_fraction (a1 : Int64) (a3 : Int64) (s0 : St) (Q : St → Prop) : Prop := B_X11_fraction_e a1 a3 Q (R_X11_fraction a1 a3 Q)  s0
theorem kX11_rain_1 : Cond.constantLong RX11 220 (10) ∈ wsX11_rain := List.mem_of_getElem? (i := 1) rfl
theorem kX11_rain_2 : Cond.fieldLink RX11 7 "GloveRailModel" "all" "[I" ∈ wsX11_rain := List.mem_of_getElem? (i := 2) rfl
theorem iwX11_rain_X11 : ∀ w ∈ wsX110, w ∈ wsX11_rain := fun _ h => List.mem_cons_of_mem _ (List.mem_append_right _ h)
/-- what is to hold at the entry of X11_rain -/
def B_X11_rain_e (a1 : Int32) (Q : Int32 → St → Prop) (Y : Nat → List Int32 → List Int64 → St → Prop)  (s0 : St) : Prop :=
  V_X11_in a1.toInt64 0 10 s0 (fun r1 s1 => (¬ r1 = 0 → (Y 24 [0] [0] s1)) ∧ (r1 = 0 → (V_X11_bad ((-2)) s1 (fun r2 s2 => Q r2 s2))))
/-- what is to hold at 24 of X11_rain -/
def B_X11_rain_24 (a1 : Int32) (Q : Int32 → St → Prop) (Y : Nat → List Int32 → List Int64 → St → Prop) (x4 : Int32) (y2 : Int64) (s0 : St) : Prop :=
  V_X11_many  s0 (fun r1 s1 => (r1 ≤ x4 → (V_X11_fraction y2 10 s1 (fun s2 => Q 1 s2))) ∧ (¬ r1 ≤ x4 → (V_X11_waits 1 181 x4 s1 (fun r3 s3 => (¬ r3 = 0 → (Y 24 [x4 + 1] [y2] s3)) ∧ (r3 = 0 → (vp_in (22 + x4) 181 ∧ (V_X11_goesAs (s3 1 (22 + x4).toNatClampNeg) (s3 1 15) 4 s3 (fun r4 s4 => vp_in (22 + x4) 181 ∧ (V_X11_goesAs (s4 1 (22 + x4).toNatClampNeg) (s4 1 15) 0 s4 (fun r5 s5 => ∀ v6, v6 = y2 + (((a1 * r4) + ((10 - a1) * r5)).toInt64) → (Y 24 [x4 + 1] [v6] s5)))))))))))
def T_X11_rain (a1 : Int32) (Q : Int32 → St → Prop) (Y : Nat → List Int32 → List Int64 → St → Prop) (P : Nat) (xs : List Int32) (ys : List Int64) (s0 : St) : Prop :=
  (P = 24 ∧ ∃ (x4 : Int32) (y2 : Int64), xs = [x4] ∧ ys = [y2] ∧ B_X11_rain_24 a1 Q Y x4 y2 s0)
def R_X11_rain (a1 : Int32) (Q : Int32 → St → Prop) : Nat → List Int32 → List Int64 → St → Prop := Fx (T_X11_rain a1 Q)
theorem i_X11_rain_24 (a1 : Int32) (Q : Int32 → St → Prop) (x4 : Int32) (y2 : Int64) (s0 : St) (h : B_X11_rain_24 a1 Q (R_X11_rain a1 Q) x4 y2 s0) : R_X11_rain a1 Q 24 [x4] [y2] s0 := Fx.intro (⟨rfl, x4, y2, rfl, rfl, h⟩)
def V_X11_rain (a1 : Int32) (s0 : St) (Q : Int32 → St → Prop) : Prop := B_X11_rain_e a1 Q (R_X11_rain a1 Q)  s0
theorem kX11_winters_1 : Cond.constantLong RX11 226 (999999) ∈ wsX11_winters := List.mem_of_getElem? (i := 1) rfl
theorem kX11_winters_2 : Cond.constantLong RX11 125 (60) ∈ wsX11_winters := List.mem_of_getElem? (i := 2) rfl
theorem kX11_winters_3 : Cond.constantLong RX11 228 (1103515245) ∈ wsX11_winters := List.mem_of_getElem? (i := 3) rfl
theorem kX11_winters_4 : Cond.constantLong RX11 230 (12345) ∈ wsX11_winters := List.mem_of_getElem? (i := 4) rfl
theorem kX11_winters_5 : Cond.constantLong RX11 232 (2147483648) ∈ wsX11_winters := List.mem_of_getElem? (i := 5) rfl
theorem kX11_winters_6 : Cond.constantLong RX11 234 (65536) ∈ wsX11_winters := List.mem_of_getElem? (i := 6) rfl
theorem kX11_winters_7 : Cond.constantLong RX11 62 (4) ∈ wsX11_winters := List.mem_of_getElem? (i := 7) rfl
theorem kX11_winters_8 : Cond.fieldLink RX11 27 "GloveRailModel" "hand" "[I" ∈ wsX11_winters := List.mem_of_getElem? (i := 8) rfl
theorem iwX11_winters_X11 : ∀ w ∈ wsX110, w ∈ wsX11_winters := fun _ h => List.mem_cons_of_mem _ (List.mem_append_right _ h)
/-- what is to hold at the entry of X11_winters -/
def B_X11_winters_e (a1 : Int32) (a2 : Int32) (Q : Int32 → St → Prop) (Y : Nat → List Int32 → List Int64 → St → Prop)  (s0 : St) : Prop :=
  V_X11_in a1.toInt64 0 999999 s0 (fun r1 s1 => (r1 = 0 → (Y 24 [] [] s1)) ∧ (¬ r1 = 0 → (V_X11_in a2.toInt64 0 60 s1 (fun r2 s2 => (¬ r2 = 0 → (V_X11_layHand  s2 (fun s3 => Y 41 [0] [a1.toInt64] s3))) ∧ (r2 = 0 → (Y 24 [] [] s2))))))
/-- what is to hold at 24 of X11_winters -/
def B_X11_winters_24 (a1 : Int32) (a2 : Int32) (Q : Int32 → St → Prop) (Y : Nat → List Int32 → List Int64 → St → Prop)  (s0 : St) : Prop :=
  V_X11_bad ((-2)) s0 (fun r1 s1 => Q r1 s1)
/-- what is to hold at 41 of X11_winters -/
def B_X11_winters_41 (a1 : Int32) (a2 : Int32) (Q : Int32 → St → Prop) (Y : Nat → List Int32 → List Int64 → St → Prop) (x5 : Int32) (y3 : Int64) (s0 : St) : Prop :=
  (a2 ≤ x5 → (V_X11_manyAt 5 43 23 s0 (fun r1 s1 => Q r1 s1))) ∧ (¬ a2 ≤ x5 → (∀ v2, v2 = ((y3 * 1103515245) + 12345) - ((y3 * 1103515245) + 12345) / 2147483648 * 2147483648 → (∀ v3, v3 = ((v2 / 65536) - (v2 / 65536) / 4 * 4).toInt32 → (V_X11_isCrossing v3 s0 (fun r4 s4 => (r4 = 0 → (Y 98 [x5, 0, s0 5 14, 14] [v2] s4)) ∧ (¬ r4 = 0 → (Y 98 [x5, (1 : Int32) <<< (v3 &&& 31), s0 5 14, 14] [v2] s4)))))))
/-- what is to hold at 98 of X11_winters -/
def B_X11_winters_98 (a1 : Int32) (a2 : Int32) (Q : Int32 → St → Prop) (Y : Nat → List Int32 → List Int64 → St → Prop) (x5 : Int32) (t0 : Int32) (t1 : Int32) (t2 : Int32) (y3 : Int64) (s0 : St) : Prop :=
  vp_in t2 43 ∧ (∀ s1, s1 = us s0 5 (upd (s0 5) t2.toNatClampNeg (t1 ^^^ t0)) → (V_X11_goHour 5 43 s1 (fun s2 => Y 41 [x5 + 1] [y3] s2)))
def T_X11_winters (a1 : Int32) (a2 : Int32) (Q : Int32 → St → Prop) (Y : Nat → List Int32 → List Int64 → St → Prop) (P : Nat) (xs : List Int32) (ys : List Int64) (s0 : St) : Prop :=
  (P = 24 ∧ xs = [] ∧ ys = [] ∧ B_X11_winters_24 a1 a2 Q Y  s0) ∨ (P = 41 ∧ ∃ (x5 : Int32) (y3 : Int64), xs = [x5] ∧ ys = [y3] ∧ B_X11_winters_41 a1 a2 Q Y x5 y3 s0) ∨ (P = 98 ∧ ∃ (x5 : Int32) (t0 : Int32) (t1 : Int32) (t2 : Int32) (y3 : Int64), xs = [x5, t0, t1, t2] ∧ ys = [y3] ∧ B_X11_winters_98 a1 a2 Q Y x5 t0 t1 t2 y3 s0)
def R_X11_winters (a1 : Int32) (a2 : Int32) (Q : Int32 → St → Prop) : Nat → List Int32 → List Int64 → St → Prop := Fx (T_X11_winters a1 a2 Q)
theorem i_X11_winters_24 (a1 : Int32) (a2 : Int32) (Q : Int32 → St → Prop)  (s0 : St) (h : B_X11_winters_24 a1 a2 Q (R_X11_winters a1 a2 Q)  s0) : R_X11_winters a1 a2 Q 24 [] [] s0 := Fx.intro (Or.inl ⟨rfl, rfl, rfl, h⟩)
theorem i_X11_winters_41 (a1 : Int32) (a2 : Int32) (Q : Int32 → St → Prop) (x5 : Int32) (y3 : Int64) (s0 : St) (h : B_X11_winters_41 a1 a2 Q (R_X11_winters a1 a2 Q) x5 y3 s0) : R_X11_winters a1 a2 Q 41 [x5] [y3] s0 := Fx.intro (Or.inr (Or.inl ⟨rfl, x5, y3, rfl, rfl, h⟩))
theorem i_X11_winters_98 (a1 : Int32) (a2 : Int32) (Q : Int32 → St → Prop) (x5 : Int32) (t0 : Int32) (t1 : Int32) (t2 : Int32) (y3 : Int64) (s0 : St) (h : B_X11_winters_98 a1 a2 Q (R_X11_winters a1 a2 Q) x5 t0 t1 t2 y3 s0) : R_X11_winters a1 a2 Q 98 [x5, t0, t1, t2] [y3] s0 := Fx.intro (Or.inr (Or.inr (⟨rfl, x5, t0, t1, t2, y3, rfl, rfl, h⟩)))
def V_X11_winters (a1 : Int32) (a2 : Int32) (s0 : St) (Q : Int32 → St → Prop) : Prop := B_X11_winters_e a1 a2 Q (R_X11_winters a1 a2 Q)  s0
theorem kX11_type_1 : Cond.constantLong RX11 236 (127) ∈ wsX11_type := List.mem_of_getElem? (i := 1) rfl
theorem kX11_type_2 : Cond.fieldLink RX11 238 "GloveRailModel" "bytesLong" "I" ∈ wsX11_type := List.mem_of_getElem? (i := 2) rfl
theorem kX11_type_3 : Cond.fieldLink RX11 39 "GloveRailModel" "bytes" "[I" ∈ wsX11_type := List.mem_of_getElem? (i := 3) rfl
theorem iwX11_type_X11 : ∀ w ∈ wsX110, w ∈ wsX11_type := fun _ h => List.mem_cons_of_mem _ (List.mem_append_right _ h)
/-- what is to hold at the entry of X11_type -/
def B_X11_type_e (a1 : Int32) (Q : Int32 → St → Prop) (Y : Nat → List Int32 → List Int64 → St → Prop)  (s0 : St) : Prop :=
  V_X11_in a1.toInt64 0 127 s0 (fun r1 s1 => (¬ r1 = 0 → ((¬ (s1 0 11) = 150 → (vp_in (s1 0 11) 150 ∧ (∀ s2, s2 = us s1 9 (upd (s1 9) (s1 0 11).toNatClampNeg a1) → (∀ s3, s3 = us s2 0 (upd (s2 0) 11 ((s2 0 11) + 1)) → (Q (s3 0 11) s3))))) ∧ ((s1 0 11) = 150 → (V_X11_full  s1 (fun r4 s4 => Q r4 s4))))) ∧ (r1 = 0 → (V_X11_bad ((-2)) s1 (fun r5 s5 => Q r5 s5))))
def T_X11_type (a1 : Int32) (Q : Int32 → St → Prop) (Y : Nat → List Int32 → List Int64 → St → Prop) (P : Nat) (xs : List Int32) (ys : List Int64) (s0 : St) : Prop :=
  False
def R_X11_type (a1 : Int32) (Q : Int32 → St → Prop) : Nat → List Int32 → List Int64 → St → Prop := Fx (T_X11_type a1 Q)
def V_X11_type (a1 : Int32) (s0 : St) (Q : Int32 → St → Prop) : Prop := B_X11_type_e a1 Q (R_X11_type a1 Q)  s0
theorem kX11_clear_1 : Cond.fieldLink RX11 238 "GloveRailModel" "bytesLong" "I" ∈ wsX11_clear := List.mem_of_getElem? (i := 1) rfl
theorem iwX11_clear_X11 : ∀ w ∈ wsX110, w ∈ wsX11_clear := fun _ h => List.mem_cons_of_mem _ (List.mem_append_right _ h)
/-- what is to hold at the entry of X11_clear -/
def B_X11_clear_e  (Q : Int32 → St → Prop) (Y : Nat → List Int32 → List Int64 → St → Prop)  (s0 : St) : Prop :=
  ∀ s1, s1 = us s0 0 (upd (s0 0) 11 0) → (Q (s0 0 11) s1)
def T_X11_clear  (Q : Int32 → St → Prop) (Y : Nat → List Int32 → List Int64 → St → Prop) (P : Nat) (xs : List Int32) (ys : List Int64) (s0 : St) : Prop :=
  False
def R_X11_clear  (Q : Int32 → St → Prop) : Nat → List Int32 → List Int64 → St → Prop := Fx (T_X11_clear  Q)
def V_X11_clear  (s0 : St) (Q : Int32 → St → Prop) : Prop := B_X11_clear_e  Q (R_X11_clear  Q)  s0
theorem kX11_isSmall_1 : Cond.constantLong RX11 242 (97) ∈ wsX11_isSmall := List.mem_of_getElem? (i := 1) rfl
theorem kX11_isSmall_2 : Cond.constantLong RX11 244 (122) ∈ wsX11_isSmall := List.mem_of_getElem? (i := 2) rfl
/-- what is to hold at the entry of X11_isSmall -/
def B_X11_isSmall_e (a0 : Int32) (Q : Int32 → St → Prop) (Y : Nat → List Int32 → List Int64 → St → Prop)  (s0 : St) : Prop :=
  V_X11_in a0.toInt64 97 122 s0 (fun r1 s1 => Q r1 s1)
def T_X11_isSmall (a0 : Int32) (Q : Int32 → St → Prop) (Y : Nat → List Int32 → List Int64 → St → Prop) (P : Nat) (xs : List Int32) (ys : List Int64) (s0 : St) : Prop :=
  False
def R_X11_isSmall (a0 : Int32) (Q : Int32 → St → Prop) : Nat → List Int32 → List Int64 → St → Prop := Fx (T_X11_isSmall a0 Q)
def V_X11_isSmall (a0 : Int32) (s0 : St) (Q : Int32 → St → Prop) : Prop := B_X11_isSmall_e a0 Q (R_X11_isSmall a0 Q)  s0
theorem kX11_isFigure_1 : Cond.constantLong RX11 246 (48) ∈ wsX11_isFigure := List.mem_of_getElem? (i := 1) rfl
theorem kX11_isFigure_2 : Cond.constantLong RX11 248 (57) ∈ wsX11_isFigure := List.mem_of_getElem? (i := 2) rfl
/-- what is to hold at the entry of X11_isFigure -/
def B_X11_isFigure_e (a0 : Int32) (Q : Int32 → St → Prop) (Y : Nat → List Int32 → List Int64 → St → Prop)  (s0 : St) : Prop :=
  V_X11_in a0.toInt64 48 57 s0 (fun r1 s1 => Q r1 s1)
def T_X11_isFigure (a0 : Int32) (Q : Int32 → St → Prop) (Y : Nat → List Int32 → List Int64 → St → Prop) (P : Nat) (xs : List Int32) (ys : List Int64) (s0 : St) : Prop :=
  False
def R_X11_isFigure (a0 : Int32) (Q : Int32 → St → Prop) : Nat → List Int32 → List Int64 → St → Prop := Fx (T_X11_isFigure a0 Q)
def V_X11_isFigure (a0 : Int32) (s0 : St) (Q : Int32 → St → Prop) : Prop := B_X11_isFigure_e a0 Q (R_X11_isFigure a0 Q)  s0
theorem kX11_lookAt_1 : Cond.fieldLink RX11 250 "GloveRailModel" "tokenAt" "I" ∈ wsX11_lookAt := List.mem_of_getElem? (i := 1) rfl
theorem kX11_lookAt_2 : Cond.fieldLink RX11 238 "GloveRailModel" "bytesLong" "I" ∈ wsX11_lookAt := List.mem_of_getElem? (i := 2) rfl
theorem kX11_lookAt_3 : Cond.fieldLink RX11 39 "GloveRailModel" "bytes" "[I" ∈ wsX11_lookAt := List.mem_of_getElem? (i := 3) rfl
theorem kX11_lookAt_4 : Cond.fieldLink RX11 253 "GloveRailModel" "tokenLong" "I" ∈ wsX11_lookAt := List.mem_of_getElem? (i := 4) rfl
theorem kX11_lookAt_5 : Cond.fieldLink RX11 256 "GloveRailModel" "token" "I" ∈ wsX11_lookAt := List.mem_of_getElem? (i := 5) rfl
theorem kX11_lookAt_6 : Cond.fieldLink RX11 259 "GloveRailModel" "value" "I" ∈ wsX11_lookAt := List.mem_of_getElem? (i := 6) rfl
theorem iwX11_lookAt_X11 : ∀ w ∈ wsX110, w ∈ wsX11_lookAt := fun _ h => List.mem_cons_of_mem _ (List.mem_append_right _ h)
/-- what is to hold at the entry of X11_lookAt -/
def B_X11_lookAt_e (a1 : Int32) (Q : St → Prop) (Y : Nat → List Int32 → List Int64 → St → Prop)  (s0 : St) : Prop :=
  ∀ s1, s1 = us s0 0 (upd (s0 0) 12 a1) → (Y 5 [] [] s1)
/-- what is to hold at 5 of X11_lookAt -/
def B_X11_lookAt_5 (a1 : Int32) (Q : St → Prop) (Y : Nat → List Int32 → List Int64 → St → Prop)  (s0 : St) : Prop :=
  ((s0 0 11) ≤ (s0 0 12) → (Y 43 [] [] s0)) ∧ (¬ (s0 0 11) ≤ (s0 0 12) → (vp_in (s0 0 12) 150 ∧ ((¬ (s0 9 (s0 0 12).toNatClampNeg) = 32 → (Y 43 [] [] s0)) ∧ ((s0 9 (s0 0 12).toNatClampNeg) = 32 → (∀ s1, s1 = us s0 0 (upd (s0 0) 12 ((s0 0 12) + 1)) → (Y 5 [] [] s1))))))
/-- what is to hold at 43 of X11_lookAt -/
def B_X11_lookAt_43 (a1 : Int32) (Q : St → Prop) (Y : Nat → List Int32 → List Int64 → St → Prop)  (s0 : St) : Prop :=
  ∀ s1, s1 = us s0 0 (upd (s0 0) 13 0) → (∀ s2, s2 = us s1 0 (upd (s1 0) 14 0) → (∀ s3, s3 = us s2 0 (upd (s2 0) 15 0) → ((¬ (s3 0 12) = (s3 0 11) → (vp_in (s3 0 12) 150 ∧ (∀ v4, v4 = s3 9 (s3 0 12).toNatClampNeg → (V_X11_isSmall v4 s3 (fun r5 s5 => (r5 = 0 → (V_X11_isFigure v4 s5 (fun r6 s6 => (r6 = 0 → ((¬ v4 = 59 → (Y 114 [4] [] s6)) ∧ (v4 = 59 → (Y 114 [3] [] s6)))) ∧ (¬ r6 = 0 → (Y 114 [2] [] s6))))) ∧ (¬ r5 = 0 → (Y 114 [1] [] s5))))))) ∧ ((s3 0 12) = (s3 0 11) → (Q s3)))))
/-- what is to hold at 114 of X11_lookAt -/
def B_X11_lookAt_114 (a1 : Int32) (Q : St → Prop) (Y : Nat → List Int32 → List Int64 → St → Prop) (t0 : Int32) (s0 : St) : Prop :=
  ∀ s1, s1 = us s0 0 (upd (s0 0) 14 t0) → (∀ s2, s2 = us s1 0 (upd (s1 0) 13 1) → ((3 ≤ (s2 0 14) → (Y 136 [0] [] s2)) ∧ (¬ 3 ≤ (s2 0 14) → (Y 136 [1] [] s2))))
/-- what is to hold at 136 of X11_lookAt -/
def B_X11_lookAt_136 (a1 : Int32) (Q : St → Prop) (Y : Nat → List Int32 → List Int64 → St → Prop) (x3 : Int32) (s0 : St) : Prop :=
  (x3 = 0 → (Y 218 [0] [] s0)) ∧ (¬ x3 = 0 → (((s0 0 11) ≤ ((s0 0 12) + (s0 0 13)) → (Y 218 [0] [] s0)) ∧ (¬ (s0 0 11) ≤ ((s0 0 12) + (s0 0 13)) → (vp_in ((s0 0 12) + (s0 0 13)) 150 ∧ (∀ v1, v1 = s0 9 ((s0 0 12) + (s0 0 13)).toNatClampNeg → ((¬ (s0 0 14) = 1 → (V_X11_isFigure v1 s0 (fun r2 s2 => Y 193 [r2] [] s2))) ∧ ((s0 0 14) = 1 → (V_X11_isSmall v1 s0 (fun r3 s3 => Y 193 [r3] [] s3)))))))))
/-- what is to hold at 193 of X11_lookAt -/
def B_X11_lookAt_193 (a1 : Int32) (Q : St → Prop) (Y : Nat → List Int32 → List Int64 → St → Prop) (t0 : Int32) (s0 : St) : Prop :=
  (t0 = 0 → (∀ s1, s1 = us s0 0 (upd (s0 0) 13 ((s0 0 13) + 0)) → (Y 136 [t0] [] s1))) ∧ (¬ t0 = 0 → (∀ s2, s2 = us s0 0 (upd (s0 0) 13 ((s0 0 13) + 1)) → (Y 136 [t0] [] s2)))
/-- what is to hold at 218 of X11_lookAt -/
def B_X11_lookAt_218 (a1 : Int32) (Q : St → Prop) (Y : Nat → List Int32 → List Int64 → St → Prop) (x4 : Int32) (s0 : St) : Prop :=
  ((s0 0 13) ≤ x4 → (Y 274 [] [] s0)) ∧ (¬ (s0 0 13) ≤ x4 → ((2 ≤ x4 → (Y 274 [] [] s0)) ∧ (¬ 2 ≤ x4 → ((¬ (s0 0 14) = 2 → (Y 274 [] [] s0)) ∧ ((s0 0 14) = 2 → (vp_in ((s0 0 12) + x4) 150 ∧ (∀ s1, s1 = us s0 0 (upd (s0 0) 15 (((10 * (s0 0 15)) + (s0 9 ((s0 0 12) + x4).toNatClampNeg)) - 48)) → (Y 218 [x4 + 1] [] s1))))))))
/-- what is to hold at 274 of X11_lookAt -/
def B_X11_lookAt_274 (a1 : Int32) (Q : St → Prop) (Y : Nat → List Int32 → List Int64 → St → Prop)  (s0 : St) : Prop :=
  (¬ (s0 0 14) = 2 → (∀ s1, s1 = us s0 0 (upd (s0 0) 14 (s0 0 14)) → (Q s1))) ∧ ((s0 0 14) = 2 → (((s0 0 13) ≤ 2 → (∀ s2, s2 = us s0 0 (upd (s0 0) 14 (s0 0 14)) → (Q s2))) ∧ (¬ (s0 0 13) ≤ 2 → (∀ s3, s3 = us s0 0 (upd (s0 0) 14 4) → (Q s3)))))
def T_X11_lookAt (a1 : Int32) (Q : St → Prop) (Y : Nat → List Int32 → List Int64 → St → Prop) (P : Nat) (xs : List Int32) (ys : List Int64) (s0 : St) : Prop :=
  (P = 5 ∧ xs = [] ∧ ys = [] ∧ B_X11_lookAt_5 a1 Q Y  s0) ∨ (P = 43 ∧ xs = [] ∧ ys = [] ∧ B_X11_lookAt_43 a1 Q Y  s0) ∨ (P = 114 ∧ ∃ (t0 : Int32), xs = [t0] ∧ ys = [] ∧ B_X11_lookAt_114 a1 Q Y t0 s0) ∨ (P = 136 ∧ ∃ (x3 : Int32), xs = [x3] ∧ ys = [] ∧ B_X11_lookAt_136 a1 Q Y x3 s0) ∨ (P = 193 ∧ ∃ (t0 : Int32), xs = [t0] ∧ ys = [] ∧ B_X11_lookAt_193 a1 Q Y t0 s0) ∨ (P = 218 ∧ ∃ (x4 : Int32), xs = [x4] ∧ ys = [] ∧ B_X11_lookAt_218 a1 Q Y x4 s0) ∨ (P = 274 ∧ xs = [] ∧ ys = [] ∧ B_X11_lookAt_274 a1 Q Y  s0)
def R_X11_lookAt (a1 : Int32) (Q : St → Prop) : Nat → List Int32 → List Int64 → St → Prop := Fx (T_X11_lookAt a1 Q)
theorem i_X11_lookAt_5 (a1 : Int32) (Q : St → Prop)  (s0 : St) (h : B_X11_lookAt_5 a1 Q (R_X11_lookAt a1 Q)  s0) : R_X11_lookAt a1 Q 5 [] [] s0 := Fx.intro (Or.inl ⟨rfl, rfl, rfl, h⟩)
theorem i_X11_lookAt_43 (a1 : Int32) (Q : St → Prop)  (s0 : St) (h : B_X11_lookAt_43 a1 Q (R_X11_lookAt a1 Q)  s0) : R_X11_lookAt a1 Q 43 [] [] s0 := Fx.intro (Or.inr (Or.inl ⟨rfl, rfl, rfl, h⟩))
theorem i_X11_lookAt_114 (a1 : Int32) (Q : St → Prop) (t0 : Int32) (s0 : St) (h : B_X11_lookAt_114 a1 Q (R_X11_lookAt a1 Q) t0 s0) : R_X11_lookAt a1 Q 114 [t0] [] s0 := Fx.intro (Or.inr (Or.inr (Or.inl ⟨rfl, t0, rfl, rfl, h⟩)))
theorem i_X11_lookAt_136 (a1 : Int32) (Q : St → Prop) (x3 : Int32) (s0 : St) (h : B_X11_lookAt_136 a1 Q (R_X11_lookAt a1 Q) x3 s0) : R_X11_lookAt a1 Q 136 [x3] [] s0 := Fx.intro (Or.inr (Or.inr (Or.inr (Or.inl ⟨rfl, x3, rfl, rfl, h⟩))))
theorem i_X11_lookAt_193 (a1 : Int32) (Q : St → Prop) (t0 : Int32) (s0 : St) (h : B_X11_lookAt_193 a1 Q (R_X11_lookAt a1 Q) t0 s0) : R_X11_lookAt a1 Q 193 [t0] [] s0 := Fx.intro (Or.inr (Or.inr (Or.inr (Or.inr (Or.inl ⟨rfl, t0, rfl, rfl, h⟩)))))
theorem i_X11_lookAt_218 (a1 : Int32) (Q : St → Prop) (x4 : Int32) (s0 : St) (h : B_X11_lookAt_218 a1 Q (R_X11_lookAt a1 Q) x4 s0) : R_X11_lookAt a1 Q 218 [x4] [] s0 := Fx.intro (Or.inr (Or.inr (Or.inr (Or.inr (Or.inr (Or.inl ⟨rfl, x4, rfl, rfl, h⟩))))))
theorem i_X11_lookAt_274 (a1 : Int32) (Q : St → Prop)  (s0 : St) (h : B_X11_lookAt_274 a1 Q (R_X11_lookAt a1 Q)  s0) : R_X11_lookAt a1 Q 274 [] [] s0 := Fx.intro (Or.inr (Or.inr (Or.inr (Or.inr (Or.inr (Or.inr (⟨rfl, rfl, rfl, h⟩)))))))
def V_X11_lookAt (a1 : Int32) (s0 : St) (Q : St → Prop) : Prop := B_X11_lookAt_e a1 Q (R_X11_lookAt a1 Q)  s0
theorem kX11_goBehind_1 : Cond.fieldLink RX11 250 "GloveRailModel" "tokenAt" "I" ∈ wsX11_goBehind := List.mem_of_getElem? (i := 1) rfl
theorem kX11_goBehind_2 : Cond.fieldLink RX11 253 "GloveRailModel" "tokenLong" "I" ∈ wsX11_goBehind := List.mem_of_getElem? (i := 2) rfl
theorem iwX11_goBehind_X11 : ∀ w ∈ wsX110, w ∈ wsX11_goBehind := fun _ h => List.mem_cons_of_mem _ (List.mem_append_right _ h)
/-- what is to hold at the entry of X11_goBehind -/
def B_X11_goBehind_e  (Q : St → Prop) (Y : Nat → List Int32 → List Int64 → St → Prop)  (s0 : St) : Prop :=
  V_X11_lookAt ((s0 0 12) + (s0 0 13)) s0 (fun s1 => Q s1)
def T_X11_goBehind  (Q : St → Prop) (Y : Nat → List Int32 → List Int64 → St → Prop) (P : Nat) (xs : List Int32) (ys : List Int64) (s0 : St) : Prop :=
  False
def R_X11_goBehind  (Q : St → Prop) : Nat → List Int32 → List Int64 → St → Prop := Fx (T_X11_goBehind  Q)
def V_X11_goBehind  (s0 : St) (Q : St → Prop) : Prop := B_X11_goBehind_e  Q (R_X11_goBehind  Q)  s0
theorem kX11_spells_1 : Cond.fieldLink RX11 256 "GloveRailModel" "token" "I" ∈ wsX11_spells := List.mem_of_getElem? (i := 1) rfl
theorem kX11_spells_2 : Cond.fieldLink RX11 253 "GloveRailModel" "tokenLong" "I" ∈ wsX11_spells := List.mem_of_getElem? (i := 2) rfl
theorem kX11_spells_3 : Cond.fieldLink RX11 39 "GloveRailModel" "bytes" "[I" ∈ wsX11_spells := List.mem_of_getElem? (i := 3) rfl
theorem kX11_spells_4 : Cond.fieldLink RX11 250 "GloveRailModel" "tokenAt" "I" ∈ wsX11_spells := List.mem_of_getElem? (i := 4) rfl
theorem iwX11_spells_X11 : ∀ w ∈ wsX110, w ∈ wsX11_spells := fun _ h => List.mem_cons_of_mem _ (List.mem_append_right _ h)
/-- what is to hold at the entry of X11_spells -/
def B_X11_spells_e (a1 : Int32) (a2 : Int32) (a3 : Int32) (a4 : Int32) (a5 : Int32) (a6 : Int32) (a7 : Int32) (Q : Int32 → St → Prop) (Y : Nat → List Int32 → List Int64 → St → Prop)  (s0 : St) : Prop :=
  (¬ (s0 0 14) = 1 → (Y 26 [0, 0] [] s0)) ∧ ((s0 0 14) = 1 → ((¬ (s0 0 13) = a1 → (Y 26 [0, 0] [] s0)) ∧ ((s0 0 13) = a1 → (Y 26 [1, 0] [] s0))))
/-- what is to hold at 26 of X11_spells -/
def B_X11_spells_26 (a1 : Int32) (a2 : Int32) (a3 : Int32) (a4 : Int32) (a5 : Int32) (a6 : Int32) (a7 : Int32) (Q : Int32 → St → Prop) (Y : Nat → List Int32 → List Int64 → St → Prop) (x8 : Int32) (x9 : Int32) (s0 : St) : Prop :=
  (a1 ≤ x9 → ((x8 = 0 ∨ x8 = 1) ∧ (Q x8 s0))) ∧ (¬ a1 ≤ x9 → ((x8 = 0 → ((x8 = 0 ∨ x8 = 1) ∧ (Q x8 s0))) ∧ (¬ x8 = 0 → (vp_in ((s0 0 12) + x9) 150 ∧ ((¬ x9 = 0 → ((¬ x9 = 1 → ((¬ x9 = 2 → ((¬ x9 = 3 → ((¬ x9 = 4 → (Y 103 [x9, a7, s0 9 ((s0 0 12) + x9).toNatClampNeg] [] s0)) ∧ (x9 = 4 → (Y 103 [x9, a6, s0 9 ((s0 0 12) + x9).toNatClampNeg] [] s0)))) ∧ (x9 = 3 → (Y 103 [x9, a5, s0 9 ((s0 0 12) + x9).toNatClampNeg] [] s0)))) ∧ (x9 = 2 → (Y 103 [x9, a4, s0 9 ((s0 0 12) + x9).toNatClampNeg] [] s0)))) ∧ (x9 = 1 → (Y 103 [x9, a3, s0 9 ((s0 0 12) + x9).toNatClampNeg] [] s0)))) ∧ (x9 = 0 → (Y 103 [x9, a2, s0 9 ((s0 0 12) + x9).toNatClampNeg] [] s0)))))))
/-- what is to hold at 103 of X11_spells -/
def B_X11_spells_103 (a1 : Int32) (a2 : Int32) (a3 : Int32) (a4 : Int32) (a5 : Int32) (a6 : Int32) (a7 : Int32) (Q : Int32 → St → Prop) (Y : Nat → List Int32 → List Int64 → St → Prop) (x9 : Int32) (t0 : Int32) (t1 : Int32) (s0 : St) : Prop :=
  (¬ t1 = t0 → (Y 26 [0, x9 + 1] [] s0)) ∧ (t1 = t0 → (Y 26 [1, x9 + 1] [] s0))
def T_X11_spells (a1 : Int32) (a2 : Int32) (a3 : Int32) (a4 : Int32) (a5 : Int32) (a6 : Int32) (a7 : Int32) (Q : Int32 → St → Prop) (Y : Nat → List Int32 → List Int64 → St → Prop) (P : Nat) (xs : List Int32) (ys : List Int64) (s0 : St) : Prop :=
  (P = 26 ∧ ∃ (x8 : Int32) (x9 : Int32), xs = [x8, x9] ∧ ys = [] ∧ B_X11_spells_26 a1 a2 a3 a4 a5 a6 a7 Q Y x8 x9 s0) ∨ (P = 103 ∧ ∃ (x9 : Int32) (t0 : Int32) (t1 : Int32), xs = [x9, t0, t1] ∧ ys = [] ∧ B_X11_spells_103 a1 a2 a3 a4 a5 a6 a7 Q Y x9 t0 t1 s0)
def R_X11_spells (a1 : Int32) (a2 : Int32) (a3 : Int32) (a4 : Int32) (a5 : Int32) (a6 : Int32) (a7 : Int32) (Q : Int32 → St → Prop) : Nat → List Int32 → List Int64 → St → Prop := Fx (T_X11_spells a1 a2 a3 a4 a5 a6 a7 Q)
theorem i_X11_spells_26 (a1 : Int32) (a2 : Int32) (a3 : Int32) (a4 : Int32) (a5 : Int32) (a6 : Int32) (a7 : Int32) (Q : Int32 → St → Prop) (x8 : Int32) (x9 : Int32) (s0 : St) (h : B_X11_spells_26 a1 a2 a3 a4 a5 a6 a7 Q (R_X11_spells a1 a2 a3 a4 a5 a6 a7 Q) x8 x9 s0) : R_X11_spells a1 a2 a3 a4 a5 a6 a7 Q 26 [x8, x9] [] s0 := Fx.intro (Or.inl ⟨rfl, x8, x9, rfl, rfl, h⟩)
theorem i_X11_spells_103 (a1 : Int32) (a2 : Int32) (a3 : Int32) (a4 : Int32) (a5 : Int32) (a6 : Int32) (a7 : Int32) (Q : Int32 → St → Prop) (x9 : Int32) (t0 : Int32) (t1 : Int32) (s0 : St) (h : B_X11_spells_103 a1 a2 a3 a4 a5 a6 a7 Q (R_X11_spells a1 a2 a3 a4 a5 a6 a7 Q) x9 t0 t1 s0) : R_X11_spells a1 a2 a3 a4 a5 a6 a7 Q 103 [x9, t0, t1] [] s0 := Fx.intro (Or.inr (⟨rfl, x9, t0, t1, rfl, rfl, h⟩))
def V_X11_spells (a1 : Int32) (a2 : Int32) (a3 : Int32) (a4 : Int32) (a5 : Int32) (a6 : Int32) (a7 : Int32) (s0 : St) (Q : Int32 → St → Prop) : Prop := B_X11_spells_e a1 a2 a3 a4 a5 a6 a7 Q (R_X11_spells a1 a2 a3 a4 a5 a6 a7 Q)  s0
theorem kX11_takes_1 : Cond.fieldLink RX11 256 "GloveRailModel" "token" "I" ∈ wsX11_takes := List.mem_of_getElem? (i := 1) rfl
theorem kX11_takes_2 : Cond.fieldLink RX11 259 "GloveRailModel" "value" "I" ∈ wsX11_takes := List.mem_of_getElem? (i := 2) rfl
theorem kX11_takes_3 : Cond.fieldLink RX11 45 "GloveRailModel" "values" "[I" ∈ wsX11_takes := List.mem_of_getElem? (i := 3) rfl
theorem iwX11_takes_X11 : ∀ w ∈ wsX110, w ∈ wsX11_takes := fun _ h => List.mem_cons_of_mem _ (List.mem_append_right _ h)
/-- what is to hold at the entry of X11_takes -/
def B_X11_takes_e (a1 : Int32) (a2 : Int32) (a3 : Int32) (Q : Int32 → St → Prop) (Y : Nat → List Int32 → List Int64 → St → Prop)  (s0 : St) : Prop :=
  (¬ (s0 0 14) = 2 → (Q 0 s0)) ∧ ((s0 0 14) = 2 → (V_X11_in ((s0 0 15).toInt64) a2.toInt64 a3.toInt64 s0 (fun r1 s1 => (¬ r1 = 0 → (vp_in a1 3 ∧ (∀ s2, s2 = us s1 11 (upd (s1 11) a1.toNatClampNeg (s1 0 15)) → (V_X11_goBehind  s2 (fun s3 => Q 1 s3))))) ∧ (r1 = 0 → (Q 0 s1)))))
def T_X11_takes (a1 : Int32) (a2 : Int32) (a3 : Int32) (Q : Int32 → St → Prop) (Y : Nat → List Int32 → List Int64 → St → Prop) (P : Nat) (xs : List Int32) (ys : List Int64) (s0 : St) : Prop :=
  False
def R_X11_takes (a1 : Int32) (a2 : Int32) (a3 : Int32) (Q : Int32 → St → Prop) : Nat → List Int32 → List Int64 → St → Prop := Fx (T_X11_takes a1 a2 a3 Q)
def V_X11_takes (a1 : Int32) (a2 : Int32) (a3 : Int32) (s0 : St) (Q : Int32 → St → Prop) : Prop := B_X11_takes_e a1 a2 a3 Q (R_X11_takes a1 a2 a3 Q)  s0
theorem kX11_takesWet_1 : Cond.fieldLink RX11 256 "GloveRailModel" "token" "I" ∈ wsX11_takesWet := List.mem_of_getElem? (i := 1) rfl
theorem kX11_takesWet_2 : Cond.fieldLink RX11 42 "GloveRailModel" "anew" "[I" ∈ wsX11_takesWet := List.mem_of_getElem? (i := 2) rfl
theorem kX11_takesWet_3 : Cond.fieldLink RX11 45 "GloveRailModel" "values" "[I" ∈ wsX11_takesWet := List.mem_of_getElem? (i := 3) rfl
theorem iwX11_takesWet_X11 : ∀ w ∈ wsX110, w ∈ wsX11_takesWet := fun _ h => List.mem_cons_of_mem _ (List.mem_append_right _ h)
/-- what is to hold at the entry of X11_takesWet -/
def B_X11_takesWet_e  (Q : Int32 → St → Prop) (Y : Nat → List Int32 → List Int64 → St → Prop)  (s0 : St) : Prop :=
  V_X11_goBehind  s0 (fun s1 => Y 6 [0] [] s1)
/-- what is to hold at 6 of X11_takesWet -/
def B_X11_takesWet_6  (Q : Int32 → St → Prop) (Y : Nat → List Int32 → List Int64 → St → Prop) (x1 : Int32) (s0 : St) : Prop :=
  (x1 = 0 → (Y 18 [x1] [] s0)) ∧ (¬ x1 = 0 → (((s0 0 14) = 3 → (Q 1 s0)) ∧ (¬ (s0 0 14) = 3 → (Y 18 [x1] [] s0))))
/-- what is to hold at 18 of X11_takesWet -/
def B_X11_takesWet_18  (Q : Int32 → St → Prop) (Y : Nat → List Int32 → List Int64 → St → Prop) (x1 : Int32) (s0 : St) : Prop :=
  (x1 = 6 → (Q 0 s0)) ∧ (¬ x1 = 6 → (V_X11_takes 0 0 4 s0 (fun r1 s1 => (¬ r1 = 0 → (vp_in (16 + x1) 101 ∧ (∀ s2, s2 = us s1 10 (upd (s1 10) (16 + x1).toNatClampNeg (s1 11 0)) → (Y 6 [x1 + 1] [] s2)))) ∧ (r1 = 0 → (Q 0 s1)))))
def T_X11_takesWet  (Q : Int32 → St → Prop) (Y : Nat → List Int32 → List Int64 → St → Prop) (P : Nat) (xs : List Int32) (ys : List Int64) (s0 : St) : Prop :=
  (P = 6 ∧ ∃ (x1 : Int32), xs = [x1] ∧ ys = [] ∧ B_X11_takesWet_6  Q Y x1 s0) ∨ (P = 18 ∧ ∃ (x1 : Int32), xs = [x1] ∧ ys = [] ∧ B_X11_takesWet_18  Q Y x1 s0)
def R_X11_takesWet  (Q : Int32 → St → Prop) : Nat → List Int32 → List Int64 → St → Prop := Fx (T_X11_takesWet  Q)
theorem i_X11_takesWet_6  (Q : Int32 → St → Prop) (x1 : Int32) (s0 : St) (h : B_X11_takesWet_6  Q (R_X11_takesWet  Q) x1 s0) : R_X11_takesWet  Q 6 [x1] [] s0 := Fx.intro (Or.inl ⟨rfl, x1, rfl, rfl, h⟩)
theorem i_X11_takesWet_18  (Q : Int32 → St → Prop) (x1 : Int32) (s0 : St) (h : B_X11_takesWet_18  Q (R_X11_takesWet  Q) x1 s0) : R_X11_takesWet  Q 18 [x1] [] s0 := Fx.intro (Or.inr (⟨rfl, x1, rfl, rfl, h⟩))
def V_X11_takesWet  (s0 : St) (Q : Int32 → St → Prop) : Prop := B_X11_takesWet_e  Q (R_X11_takesWet  Q)  s0
theorem kX11_takesGlove_1 : Cond.fieldLink RX11 42 "GloveRailModel" "anew" "[I" ∈ wsX11_takesGlove := List.mem_of_getElem? (i := 1) rfl
theorem kX11_takesGlove_2 : Cond.fieldLink RX11 45 "GloveRailModel" "values" "[I" ∈ wsX11_takesGlove := List.mem_of_getElem? (i := 2) rfl
theorem iwX11_takesGlove_X11 : ∀ w ∈ wsX110, w ∈ wsX11_takesGlove := fun _ h => List.mem_cons_of_mem _ (List.mem_append_right _ h)
/-- what is to hold at the entry of X11_takesGlove -/
def B_X11_takesGlove_e  (Q : Int32 → St → Prop) (Y : Nat → List Int32 → List Int64 → St → Prop)  (s0 : St) : Prop :=
  (¬ (s0 10 0) = 7 → (V_X11_goBehind  s0 (fun s1 => V_X11_takes 0 0 5 s1 (fun r2 s2 => (r2 = 0 → (Q 0 s2)) ∧ (¬ r2 = 0 → (V_X11_takes 1 1 9 s2 (fun r3 s3 => (r3 = 0 → (Q 0 s3)) ∧ (¬ r3 = 0 → (V_X11_takes 2 0 23 s3 (fun r4 s4 => (¬ r4 = 0 → (V_X11_layGlove 10 101 (s4 11 0) (s4 11 1) (s4 11 2) s4 (fun s5 => Q 1 s5))) ∧ (r4 = 0 → (Q 0 s4)))))))))))) ∧ ((s0 10 0) = 7 → (Q 0 s0))
def T_X11_takesGlove  (Q : Int32 → St → Prop) (Y : Nat → List Int32 → List Int64 → St → Prop) (P : Nat) (xs : List Int32) (ys : List Int64) (s0 : St) : Prop :=
  False
def R_X11_takesGlove  (Q : Int32 → St → Prop) : Nat → List Int32 → List Int64 → St → Prop := Fx (T_X11_takesGlove  Q)
def V_X11_takesGlove  (s0 : St) (Q : Int32 → St → Prop) : Prop := B_X11_takesGlove_e  Q (R_X11_takesGlove  Q)  s0
theorem kX11_takesCrossing_1 : Cond.fieldLink RX11 42 "GloveRailModel" "anew" "[I" ∈ wsX11_takesCrossing := List.mem_of_getElem? (i := 1) rfl
theorem kX11_takesCrossing_2 : Cond.fieldLink RX11 256 "GloveRailModel" "token" "I" ∈ wsX11_takesCrossing := List.mem_of_getElem? (i := 2) rfl
theorem kX11_takesCrossing_3 : Cond.fieldLink RX11 259 "GloveRailModel" "value" "I" ∈ wsX11_takesCrossing := List.mem_of_getElem? (i := 3) rfl
theorem kX11_takesCrossing_4 : Cond.fieldLink RX11 45 "GloveRailModel" "values" "[I" ∈ wsX11_takesCrossing := List.mem_of_getElem? (i := 4) rfl
theorem iwX11_takesCrossing_X11 : ∀ w ∈ wsX110, w ∈ wsX11_takesCrossing := fun _ h => List.mem_cons_of_mem _ (List.mem_append_right _ h)
/-- what is to hold at the entry of X11_takesCrossing -/
def B_X11_takesCrossing_e  (Q : Int32 → St → Prop) (Y : Nat → List Int32 → List Int64 → St → Prop)  (s0 : St) : Prop :=
  (¬ (s0 10 1) = 3 → (V_X11_goBehind  s0 (fun s1 => V_X11_takes 0 0 5 s1 (fun r2 s2 => (r2 = 0 → (Q 0 s2)) ∧ (¬ r2 = 0 → ((¬ (s2 0 14) = 2 → (Q 0 s2)) ∧ ((s2 0 14) = 2 → (V_X11_behind 10 101 (s2 0 15) s2 (fun r3 s3 => (¬ r3 = ((-1)) → (Q 0 s3)) ∧ (r3 = ((-1)) → (V_X11_takes 1 0 22 s3 (fun r4 s4 => (¬ r4 = 0 → (V_X11_layCrossing 10 101 (s4 11 0) (s4 11 1) s4 (fun s5 => Q 1 s5))) ∧ (r4 = 0 → (Q 0 s4)))))))))))))) ∧ ((s0 10 1) = 3 → (Q 0 s0))
def T_X11_takesCrossing  (Q : Int32 → St → Prop) (Y : Nat → List Int32 → List Int64 → St → Prop) (P : Nat) (xs : List Int32) (ys : List Int64) (s0 : St) : Prop :=
  False
def R_X11_takesCrossing  (Q : Int32 → St → Prop) : Nat → List Int32 → List Int64 → St → Prop := Fx (T_X11_takesCrossing  Q)
def V_X11_takesCrossing  (s0 : St) (Q : Int32 → St → Prop) : Prop := B_X11_takesCrossing_e  Q (R_X11_takesCrossing  Q)  s0
theorem kX11_takesShut_1 : Cond.fieldLink RX11 42 "GloveRailModel" "anew" "[I" ∈ wsX11_takesShut := List.mem_of_getElem? (i := 1) rfl
theorem kX11_takesShut_2 : Cond.fieldLink RX11 45 "GloveRailModel" "values" "[I" ∈ wsX11_takesShut := List.mem_of_getElem? (i := 2) rfl
theorem iwX11_takesShut_X11 : ∀ w ∈ wsX110, w ∈ wsX11_takesShut := fun _ h => List.mem_cons_of_mem _ (List.mem_append_right _ h)
/-- what is to hold at the entry of X11_takesShut -/
def B_X11_takesShut_e  (Q : Int32 → St → Prop) (Y : Nat → List Int32 → List Int64 → St → Prop)  (s0 : St) : Prop :=
  V_X11_goBehind  s0 (fun s1 => V_X11_takes 0 0 ((s1 10 1) - 1) s1 (fun r2 s2 => (¬ r2 = 0 → (∀ s3, s3 = us s2 10 (upd (s2 10) 14 ((s2 10 14) ^^^ ((1 : Int32) <<< ((s2 11 0) &&& 31)))) → (Q 1 s3))) ∧ (r2 = 0 → (Q 0 s2))))
def T_X11_takesShut  (Q : Int32 → St → Prop) (Y : Nat → List Int32 → List Int64 → St → Prop) (P : Nat) (xs : List Int32) (ys : List Int64) (s0 : St) : Prop :=
  False
def R_X11_takesShut  (Q : Int32 → St → Prop) : Nat → List Int32 → List Int64 → St → Prop := Fx (T_X11_takesShut  Q)
def V_X11_takesShut  (s0 : St) (Q : Int32 → St → Prop) : Prop := B_X11_takesShut_e  Q (R_X11_takesShut  Q)  s0
theorem kX11_takesHours_1 : Cond.fieldLink RX11 42 "GloveRailModel" "anew" "[I" ∈ wsX11_takesHours := List.mem_of_getElem? (i := 1) rfl
theorem kX11_takesHours_2 : Cond.fieldLink RX11 45 "GloveRailModel" "values" "[I" ∈ wsX11_takesHours := List.mem_of_getElem? (i := 2) rfl
theorem iwX11_takesHours_X11 : ∀ w ∈ wsX110, w ∈ wsX11_takesHours := fun _ h => List.mem_cons_of_mem _ (List.mem_append_right _ h)
/-- what is to hold at the entry of X11_takesHours -/
def B_X11_takesHours_e  (Q : Int32 → St → Prop) (Y : Nat → List Int32 → List Int64 → St → Prop)  (s0 : St) : Prop :=
  V_X11_goBehind  s0 (fun s1 => V_X11_takes 0 1 99 s1 (fun r2 s2 => (¬ r2 = 0 → (V_X11_goHours 10 101 (s2 11 0) s2 (fun s3 => Q 1 s3))) ∧ (r2 = 0 → (Q 0 s2))))
def T_X11_takesHours  (Q : Int32 → St → Prop) (Y : Nat → List Int32 → List Int64 → St → Prop) (P : Nat) (xs : List Int32) (ys : List Int64) (s0 : St) : Prop :=
  False
def R_X11_takesHours  (Q : Int32 → St → Prop) : Nat → List Int32 → List Int64 → St → Prop := Fx (T_X11_takesHours  Q)
def V_X11_takesHours  (s0 : St) (Q : Int32 → St → Prop) : Prop := B_X11_takesHours_e  Q (R_X11_takesHours  Q)  s0
theorem kX11_spellsCrossing_1 : Cond.fieldLink RX11 256 "GloveRailModel" "token" "I" ∈ wsX11_spellsCrossing := List.mem_of_getElem? (i := 1) rfl
theorem kX11_spellsCrossing_2 : Cond.fieldLink RX11 253 "GloveRailModel" "tokenLong" "I" ∈ wsX11_spellsCrossing := List.mem_of_getElem? (i := 2) rfl
theorem kX11_spellsCrossing_3 : Cond.fieldLink RX11 39 "GloveRailModel" "bytes" "[I" ∈ wsX11_spellsCrossing := List.mem_of_getElem? (i := 3) rfl
theorem kX11_spellsCrossing_4 : Cond.fieldLink RX11 250 "GloveRailModel" "tokenAt" "I" ∈ wsX11_spellsCrossing := List.mem_of_getElem? (i := 4) rfl
theorem iwX11_spellsCrossing_X11 : ∀ w ∈ wsX110, w ∈ wsX11_spellsCrossing := fun _ h => List.mem_cons_of_mem _ (List.mem_append_right _ h)
/-- what is to hold at the entry of X11_spellsCrossing -/
def B_X11_spellsCrossing_e  (Q : Int32 → St → Prop) (Y : Nat → List Int32 → List Int64 → St → Prop)  (s0 : St) : Prop :=
  (¬ (s0 0 14) = 1 → (Y 22 [0] [] s0)) ∧ ((s0 0 14) = 1 → ((¬ (s0 0 13) = 8 → (Y 22 [0] [] s0)) ∧ ((s0 0 13) = 8 → (Y 22 [1] [] s0))))
/-- what is to hold at 22 of X11_spellsCrossing -/
def B_X11_spellsCrossing_22  (Q : Int32 → St → Prop) (Y : Nat → List Int32 → List Int64 → St → Prop) (t0 : Int32) (s0 : St) : Prop :=
  (t0 = 0 → (Q 0 s0)) ∧ (¬ t0 = 0 → (vp_in (s0 0 12) 150 ∧ ((¬ (s0 9 (s0 0 12).toNatClampNeg) = 99 → (Q 0 s0)) ∧ ((s0 9 (s0 0 12).toNatClampNeg) = 99 → (vp_in ((s0 0 12) + 1) 150 ∧ ((¬ (s0 9 ((s0 0 12) + 1).toNatClampNeg) = 114 → (Q 0 s0)) ∧ ((s0 9 ((s0 0 12) + 1).toNatClampNeg) = 114 → (vp_in ((s0 0 12) + 2) 150 ∧ ((¬ (s0 9 ((s0 0 12) + 2).toNatClampNeg) = 111 → (Q 0 s0)) ∧ ((s0 9 ((s0 0 12) + 2).toNatClampNeg) = 111 → (vp_in ((s0 0 12) + 3) 150 ∧ ((¬ (s0 9 ((s0 0 12) + 3).toNatClampNeg) = 115 → (Q 0 s0)) ∧ ((s0 9 ((s0 0 12) + 3).toNatClampNeg) = 115 → (vp_in ((s0 0 12) + 4) 150 ∧ ((¬ (s0 9 ((s0 0 12) + 4).toNatClampNeg) = 115 → (Q 0 s0)) ∧ ((s0 9 ((s0 0 12) + 4).toNatClampNeg) = 115 → (vp_in ((s0 0 12) + 5) 150 ∧ ((¬ (s0 9 ((s0 0 12) + 5).toNatClampNeg) = 105 → (Q 0 s0)) ∧ ((s0 9 ((s0 0 12) + 5).toNatClampNeg) = 105 → (vp_in ((s0 0 12) + 6) 150 ∧ ((¬ (s0 9 ((s0 0 12) + 6).toNatClampNeg) = 110 → (Q 0 s0)) ∧ ((s0 9 ((s0 0 12) + 6).toNatClampNeg) = 110 → (vp_in ((s0 0 12) + 7) 150 ∧ ((¬ (s0 9 ((s0 0 12) + 7).toNatClampNeg) = 103 → (Q 0 s0)) ∧ ((s0 9 ((s0 0 12) + 7).toNatClampNeg) = 103 → (Q 1 s0))))))))))))))))))))))))))
def T_X11_spellsCrossing  (Q : Int32 → St → Prop) (Y : Nat → List Int32 → List Int64 → St → Prop) (P : Nat) (xs : List Int32) (ys : List Int64) (s0 : St) : Prop :=
  (P = 22 ∧ ∃ (t0 : Int32), xs = [t0] ∧ ys = [] ∧ B_X11_spellsCrossing_22  Q Y t0 s0)
def R_X11_spellsCrossing  (Q : Int32 → St → Prop) : Nat → List Int32 → List Int64 → St → Prop := Fx (T_X11_spellsCrossing  Q)
theorem i_X11_spellsCrossing_22  (Q : Int32 → St → Prop) (t0 : Int32) (s0 : St) (h : B_X11_spellsCrossing_22  Q (R_X11_spellsCrossing  Q) t0 s0) : R_X11_spellsCrossing  Q 22 [t0] [] s0 := Fx.intro (⟨rfl, t0, rfl, rfl, h⟩)
def V_X11_spellsCrossing  (s0 : St) (Q : Int32 → St → Prop) : Prop := B_X11_spellsCrossing_e  Q (R_X11_spellsCrossing  Q)  s0
/-- what is to hold at the entry of X11_takesItem -/
def B_X11_takesItem_e  (Q : Int32 → St → Prop) (Y : Nat → List Int32 → List Int64 → St → Prop)  (s0 : St) : Prop :=
  V_X11_spells 3 119 101 116 0 0 0 s0 (fun r1 s1 => (r1 = 0 → (V_X11_spells 5 103 108 111 118 101 0 s1 (fun r2 s2 => (r2 = 0 → (V_X11_spellsCrossing  s2 (fun r3 s3 => (r3 = 0 → (V_X11_spells 4 115 104 117 116 0 0 s3 (fun r4 s4 => (r4 = 0 → (V_X11_spells 5 104 111 117 114 115 0 s4 (fun r5 s5 => (r5 = 0 → (Q 0 s5)) ∧ (¬ r5 = 0 → (V_X11_takesHours  s5 (fun r6 s6 => (r6 = 0 → (Q 0 s6)) ∧ (¬ r6 = 0 → (Q 1 s6)))))))) ∧ (¬ r4 = 0 → (V_X11_takesShut  s4 (fun r7 s7 => Q r7 s7)))))) ∧ (¬ r3 = 0 → (V_X11_takesCrossing  s3 (fun r8 s8 => Q r8 s8)))))) ∧ (¬ r2 = 0 → (V_X11_takesGlove  s2 (fun r9 s9 => Q r9 s9)))))) ∧ (¬ r1 = 0 → (V_X11_takesWet  s1 (fun r10 s10 => Q r10 s10))))
def T_X11_takesItem  (Q : Int32 → St → Prop) (Y : Nat → List Int32 → List Int64 → St → Prop) (P : Nat) (xs : List Int32) (ys : List Int64) (s0 : St) : Prop :=
  False
def R_X11_takesItem  (Q : Int32 → St → Prop) : Nat → List Int32 → List Int64 → St → Prop := Fx (T_X11_takesItem  Q)
def V_X11_takesItem  (s0 : St) (Q : Int32 → St → Prop) : Prop := B_X11_takesItem_e  Q (R_X11_takesItem  Q)  s0
theorem kX11_read_1 : Cond.fieldLink RX11 250 "GloveRailModel" "tokenAt" "I" ∈ wsX11_read := List.mem_of_getElem? (i := 1) rfl
theorem kX11_read_2 : Cond.fieldLink RX11 256 "GloveRailModel" "token" "I" ∈ wsX11_read := List.mem_of_getElem? (i := 2) rfl
theorem kX11_read_3 : Cond.fieldLink RX11 42 "GloveRailModel" "anew" "[I" ∈ wsX11_read := List.mem_of_getElem? (i := 3) rfl
theorem kX11_read_4 : Cond.fieldLink RX11 7 "GloveRailModel" "all" "[I" ∈ wsX11_read := List.mem_of_getElem? (i := 4) rfl
theorem iwX11_read_X11 : ∀ w ∈ wsX110, w ∈ wsX11_read := fun _ h => List.mem_cons_of_mem _ (List.mem_append_right _ h)
/-- what is to hold at the entry of X11_read -/
def B_X11_read_e  (Q : Int32 → St → Prop) (Y : Nat → List Int32 → List Int64 → St → Prop)  (s0 : St) : Prop :=
  V_X11_lookAt 0 s0 (fun s1 => V_X11_spells 6 115 116 114 101 101 116 s1 (fun r2 s2 => (¬ r2 = 0 → (V_X11_goBehind  s2 (fun s3 => ((s3 0 14) = 3 → (V_X11_goBehind  s3 (fun s4 => V_X11_begin 10 101 s4 (fun s5 => Y 67 [1] [] s5)))) ∧ (¬ (s3 0 14) = 3 → (Q (((-10)) - (s3 0 12)) s3))))) ∧ (r2 = 0 → (Q (((-10)) - (s2 0 12)) s2))))
/-- what is to hold at 67 of X11_read -/
def B_X11_read_67  (Q : Int32 → St → Prop) (Y : Nat → List Int32 → List Int64 → St → Prop) (x1 : Int32) (s0 : St) : Prop :=
  ((s0 0 14) = 0 → (Y 109 [x1, 0] [] s0)) ∧ (¬ (s0 0 14) = 0 → (V_X11_takesItem  s0 (fun r1 s1 => (r1 = 0 → (Q (((-10)) - (s1 0 12)) s1)) ∧ (¬ r1 = 0 → (((s1 0 14) = 3 → (V_X11_goBehind  s1 (fun s2 => Y 67 [x1 + 1] [] s2))) ∧ (¬ (s1 0 14) = 3 → (Q (((-10)) - (s1 0 12)) s1)))))))
/-- what is to hold at 109 of X11_read -/
def B_X11_read_109  (Q : Int32 → St → Prop) (Y : Nat → List Int32 → List Int64 → St → Prop) (x1 : Int32) (x2 : Int32) (s0 : St) : Prop :=
  (101 ≤ x2 → (Q x1 s0)) ∧ (¬ 101 ≤ x2 → (vp_in x2 101 ∧ (vp_in x2 181 ∧ (∀ s1, s1 = us s0 1 (upd (s0 1) x2.toNatClampNeg (s0 10 x2.toNatClampNeg)) → (Y 109 [x1, x2 + 1] [] s1)))))
def T_X11_read  (Q : Int32 → St → Prop) (Y : Nat → List Int32 → List Int64 → St → Prop) (P : Nat) (xs : List Int32) (ys : List Int64) (s0 : St) : Prop :=
  (P = 67 ∧ ∃ (x1 : Int32), xs = [x1] ∧ ys = [] ∧ B_X11_read_67  Q Y x1 s0) ∨ (P = 109 ∧ ∃ (x1 : Int32) (x2 : Int32), xs = [x1, x2] ∧ ys = [] ∧ B_X11_read_109  Q Y x1 x2 s0)
def R_X11_read  (Q : Int32 → St → Prop) : Nat → List Int32 → List Int64 → St → Prop := Fx (T_X11_read  Q)
theorem i_X11_read_67  (Q : Int32 → St → Prop) (x1 : Int32) (s0 : St) (h : B_X11_read_67  Q (R_X11_read  Q) x1 s0) : R_X11_read  Q 67 [x1] [] s0 := Fx.intro (Or.inl ⟨rfl, x1, rfl, rfl, h⟩)
theorem i_X11_read_109  (Q : Int32 → St → Prop) (x1 : Int32) (x2 : Int32) (s0 : St) (h : B_X11_read_109  Q (R_X11_read  Q) x1 x2 s0) : R_X11_read  Q 109 [x1, x2] [] s0 := Fx.intro (Or.inr (⟨rfl, x1, x2, rfl, rfl, h⟩))
def V_X11_read  (s0 : St) (Q : Int32 → St → Prop) : Prop := B_X11_read_e  Q (R_X11_read  Q)  s0
theorem kX11_part_1 : Cond.fieldLink RX11 217 "GloveRailModel" "above" "J" ∈ wsX11_part := List.mem_of_getElem? (i := 1) rfl
theorem kX11_part_2 : Cond.fieldLink RX11 23 "GloveRailModel" "below" "J" ∈ wsX11_part := List.mem_of_getElem? (i := 2) rfl
theorem iwX11_part_X11 : ∀ w ∈ wsX110, w ∈ wsX11_part := fun _ h => List.mem_cons_of_mem _ (List.mem_append_right _ h)
/-- what is to hold at the entry of X11_part -/
def B_X11_part_e (a1 : Int32) (Q : Int64 → St → Prop) (Y : Nat → List Int32 → List Int64 → St → Prop)  (s0 : St) : Prop :=
  (¬ a1 = 0 → ((¬ a1 = 1 → (V_X11_bad ((-2)) s0 (fun r1 s1 => Q r1.toInt64 s1))) ∧ (a1 = 1 → (Q (lg2 (s0 0 30) (s0 0 31)) s0)))) ∧ (a1 = 0 → (Q (lg2 (s0 0 28) (s0 0 29)) s0))
def T_X11_part (a1 : Int32) (Q : Int64 → St → Prop) (Y : Nat → List Int32 → List Int64 → St → Prop) (P : Nat) (xs : List Int32) (ys : List Int64) (s0 : St) : Prop :=
  False
def R_X11_part (a1 : Int32) (Q : Int64 → St → Prop) : Nat → List Int32 → List Int64 → St → Prop := Fx (T_X11_part a1 Q)
def V_X11_part (a1 : Int32) (s0 : St) (Q : Int64 → St → Prop) : Prop := B_X11_part_e a1 Q (R_X11_part a1 Q)  s0
theorem kX11_image_1 : Cond.fieldLink RX11 13 "GloveRailModel" "kept" "[I" ∈ wsX11_image := List.mem_of_getElem? (i := 1) rfl
theorem kX11_image_2 : Cond.fieldLink RX11 7 "GloveRailModel" "all" "[I" ∈ wsX11_image := List.mem_of_getElem? (i := 2) rfl
theorem kX11_image_3 : Cond.fieldLink RX11 16 "GloveRailModel" "isKept" "[Z" ∈ wsX11_image := List.mem_of_getElem? (i := 3) rfl
theorem iwX11_image_X11 : ∀ w ∈ wsX110, w ∈ wsX11_image := fun _ h => List.mem_cons_of_mem _ (List.mem_append_right _ h)
/-- what is to hold at the entry of X11_image -/
def B_X11_image_e (a1 : Int32) (Q : Int32 → St → Prop) (Y : Nat → List Int32 → List Int64 → St → Prop)  (s0 : St) : Prop :=
  V_X11_in a1.toInt64 0 1 s0 (fun r1 s1 => (¬ r1 = 0 → (Y 19 [0] [] s1)) ∧ (r1 = 0 → (V_X11_bad ((-2)) s1 (fun r2 s2 => Q r2 s2))))
/-- what is to hold at 19 of X11_image -/
def B_X11_image_19 (a1 : Int32) (Q : Int32 → St → Prop) (Y : Nat → List Int32 → List Int64 → St → Prop) (x2 : Int32) (s0 : St) : Prop :=
  (181 ≤ x2 → (vp_in a1 2 ∧ (∀ s1, s1 = us s0 3 (upd (s0 3) a1.toNatClampNeg (vp_nar .boolean 1)) → (Q 1 s1)))) ∧ (¬ 181 ≤ x2 → (vp_in x2 181 ∧ (vp_in ((181 * a1) + x2) 362 ∧ (∀ s2, s2 = us s0 2 (upd (s0 2) ((181 * a1) + x2).toNatClampNeg (s0 1 x2.toNatClampNeg)) → (Y 19 [x2 + 1] [] s2)))))
def T_X11_image (a1 : Int32) (Q : Int32 → St → Prop) (Y : Nat → List Int32 → List Int64 → St → Prop) (P : Nat) (xs : List Int32) (ys : List Int64) (s0 : St) : Prop :=
  (P = 19 ∧ ∃ (x2 : Int32), xs = [x2] ∧ ys = [] ∧ B_X11_image_19 a1 Q Y x2 s0)
def R_X11_image (a1 : Int32) (Q : Int32 → St → Prop) : Nat → List Int32 → List Int64 → St → Prop := Fx (T_X11_image a1 Q)
theorem i_X11_image_19 (a1 : Int32) (Q : Int32 → St → Prop) (x2 : Int32) (s0 : St) (h : B_X11_image_19 a1 Q (R_X11_image a1 Q) x2 s0) : R_X11_image a1 Q 19 [x2] [] s0 := Fx.intro (⟨rfl, x2, rfl, rfl, h⟩)
def V_X11_image (a1 : Int32) (s0 : St) (Q : Int32 → St → Prop) : Prop := B_X11_image_e a1 Q (R_X11_image a1 Q)  s0
theorem kX11_from_1 : Cond.fieldLink RX11 16 "GloveRailModel" "isKept" "[Z" ∈ wsX11_from := List.mem_of_getElem? (i := 1) rfl
theorem kX11_from_2 : Cond.fieldLink RX11 7 "GloveRailModel" "all" "[I" ∈ wsX11_from := List.mem_of_getElem? (i := 2) rfl
theorem kX11_from_3 : Cond.fieldLink RX11 13 "GloveRailModel" "kept" "[I" ∈ wsX11_from := List.mem_of_getElem? (i := 3) rfl
theorem iwX11_from_X11 : ∀ w ∈ wsX110, w ∈ wsX11_from := fun _ h => List.mem_cons_of_mem _ (List.mem_append_right _ h)
/-- what is to hold at the entry of X11_from -/
def B_X11_from_e (a1 : Int32) (Q : Int32 → St → Prop) (Y : Nat → List Int32 → List Int64 → St → Prop)  (s0 : St) : Prop :=
  V_X11_in a1.toInt64 0 1 s0 (fun r1 s1 => (¬ r1 = 0 → (vp_in a1 2 ∧ ((¬ (s1 3 a1.toNatClampNeg) = 0 → (Y 33 [0] [] s1)) ∧ ((s1 3 a1.toNatClampNeg) = 0 → (V_X11_no  s1 (fun r2 s2 => Q r2 s2)))))) ∧ (r1 = 0 → (V_X11_bad ((-2)) s1 (fun r3 s3 => Q r3 s3))))
/-- what is to hold at 33 of X11_from -/
def B_X11_from_33 (a1 : Int32) (Q : Int32 → St → Prop) (Y : Nat → List Int32 → List Int64 → St → Prop) (x2 : Int32) (s0 : St) : Prop :=
  (181 ≤ x2 → (Q 1 s0)) ∧ (¬ 181 ≤ x2 → (vp_in ((181 * a1) + x2) 362 ∧ (vp_in x2 181 ∧ (∀ s1, s1 = us s0 1 (upd (s0 1) x2.toNatClampNeg (s0 2 ((181 * a1) + x2).toNatClampNeg)) → (Y 33 [x2 + 1] [] s1)))))
def T_X11_from (a1 : Int32) (Q : Int32 → St → Prop) (Y : Nat → List Int32 → List Int64 → St → Prop) (P : Nat) (xs : List Int32) (ys : List Int64) (s0 : St) : Prop :=
  (P = 33 ∧ ∃ (x2 : Int32), xs = [x2] ∧ ys = [] ∧ B_X11_from_33 a1 Q Y x2 s0)
def R_X11_from (a1 : Int32) (Q : Int32 → St → Prop) : Nat → List Int32 → List Int64 → St → Prop := Fx (T_X11_from a1 Q)
theorem i_X11_from_33 (a1 : Int32) (Q : Int32 → St → Prop) (x2 : Int32) (s0 : St) (h : B_X11_from_33 a1 Q (R_X11_from a1 Q) x2 s0) : R_X11_from a1 Q 33 [x2] [] s0 := Fx.intro (⟨rfl, x2, rfl, rfl, h⟩)
def V_X11_from (a1 : Int32) (s0 : St) (Q : Int32 → St → Prop) : Prop := B_X11_from_e a1 Q (R_X11_from a1 Q)  s0
theorem kX11_status_1 : Cond.constantLong RX11 165 (2) ∈ wsX11_status := List.mem_of_getElem? (i := 1) rfl
theorem kX11_status_2 : Cond.fieldLink RX11 20 "GloveRailModel" "refused" "[I" ∈ wsX11_status := List.mem_of_getElem? (i := 2) rfl
theorem iwX11_status_X11 : ∀ w ∈ wsX110, w ∈ wsX11_status := fun _ h => List.mem_cons_of_mem _ (List.mem_append_right _ h)
/-- what is to hold at the entry of X11_status -/
def B_X11_status_e (a1 : Int32) (Q : Int32 → St → Prop) (Y : Nat → List Int32 → List Int64 → St → Prop)  (s0 : St) : Prop :=
  V_X11_in a1.toInt64 0 2 s0 (fun r1 s1 => (r1 = 0 → (V_X11_bad ((-1)) s1 (fun r2 s2 => Q r2 s2))) ∧ (¬ r1 = 0 → (vp_in a1 3 ∧ (Q (s1 4 a1.toNatClampNeg) s1))))
def T_X11_status (a1 : Int32) (Q : Int32 → St → Prop) (Y : Nat → List Int32 → List Int64 → St → Prop) (P : Nat) (xs : List Int32) (ys : List Int64) (s0 : St) : Prop :=
  False
def R_X11_status (a1 : Int32) (Q : Int32 → St → Prop) : Nat → List Int32 → List Int64 → St → Prop := Fx (T_X11_status a1 Q)
def V_X11_status (a1 : Int32) (s0 : St) (Q : Int32 → St → Prop) : Prop := B_X11_status_e a1 Q (R_X11_status a1 Q)  s0
theorem kX11_counted_1 : Cond.fieldLink RX11 7 "GloveRailModel" "all" "[I" ∈ wsX11_counted := List.mem_of_getElem? (i := 1) rfl
theorem kX11_counted_2 : Cond.fieldLink RX11 238 "GloveRailModel" "bytesLong" "I" ∈ wsX11_counted := List.mem_of_getElem? (i := 2) rfl
theorem iwX11_counted_X11 : ∀ w ∈ wsX110, w ∈ wsX11_counted := fun _ h => List.mem_cons_of_mem _ (List.mem_append_right _ h)
/-- what is to hold at the entry of X11_counted -/
def B_X11_counted_e (a1 : Int32) (Q : Int32 → St → Prop) (Y : Nat → List Int32 → List Int64 → St → Prop)  (s0 : St) : Prop :=
  Y 4 [0, 0] [] s0
/-- what is to hold at 4 of X11_counted -/
def B_X11_counted_4 (a1 : Int32) (Q : Int32 → St → Prop) (Y : Nat → List Int32 → List Int64 → St → Prop) (x2 : Int32) (x3 : Int32) (s0 : St) : Prop :=
  V_X11_many  s0 (fun r1 s1 => (r1 ≤ x3 → ((a1 = 0 → (V_X11_many  s1 (fun r2 s2 => Q r2 s2))) ∧ (¬ a1 = 0 → ((a1 = 1 → (Q (s1 1 1) s1)) ∧ (¬ a1 = 1 → ((a1 = 2 → (Q (s1 1 15) s1)) ∧ (¬ a1 = 2 → ((a1 = 3 → (V_X11_manyAt 1 181 23 s1 (fun r3 s3 => Q r3 s3))) ∧ (¬ a1 = 3 → ((a1 = 4 → (Q x2 s1)) ∧ (¬ a1 = 4 → ((a1 = 5 → (V_X11_bits (s1 1 14) s1 (fun r4 s4 => Q r4 s4))) ∧ (¬ a1 = 5 → ((a1 = 6 → (vp_in ((2 + a1) - 6) 181 ∧ (Q (s1 1 ((2 + a1) - 6).toNatClampNeg) s1))) ∧ (¬ a1 = 6 → ((a1 = 7 → (vp_in ((2 + a1) - 6) 181 ∧ (Q (s1 1 ((2 + a1) - 6).toNatClampNeg) s1))) ∧ (¬ a1 = 7 → ((a1 = 8 → (vp_in ((2 + a1) - 6) 181 ∧ (Q (s1 1 ((2 + a1) - 6).toNatClampNeg) s1))) ∧ (¬ a1 = 8 → ((a1 = 9 → (vp_in ((2 + a1) - 6) 181 ∧ (Q (s1 1 ((2 + a1) - 6).toNatClampNeg) s1))) ∧ (¬ a1 = 9 → ((a1 = 10 → (Q (s1 0 11) s1)) ∧ (¬ a1 = 10 → (vp_in ((2 + a1) - 6) 181 ∧ (Q (s1 1 ((2 + a1) - 6).toNatClampNeg) s1))))))))))))))))))))))))) ∧ (¬ r1 ≤ x3 → (V_X11_waits 1 181 x3 s1 (fun r5 s5 => (r5 = 0 → (Y 4 [x2 + 0, x3 + 1] [] s5)) ∧ (¬ r5 = 0 → (Y 4 [x2 + 1, x3 + 1] [] s5))))))
def T_X11_counted (a1 : Int32) (Q : Int32 → St → Prop) (Y : Nat → List Int32 → List Int64 → St → Prop) (P : Nat) (xs : List Int32) (ys : List Int64) (s0 : St) : Prop :=
  (P = 4 ∧ ∃ (x2 : Int32) (x3 : Int32), xs = [x2, x3] ∧ ys = [] ∧ B_X11_counted_4 a1 Q Y x2 x3 s0)
def R_X11_counted (a1 : Int32) (Q : Int32 → St → Prop) : Nat → List Int32 → List Int64 → St → Prop := Fx (T_X11_counted a1 Q)
theorem i_X11_counted_4 (a1 : Int32) (Q : Int32 → St → Prop) (x2 : Int32) (x3 : Int32) (s0 : St) (h : B_X11_counted_4 a1 Q (R_X11_counted a1 Q) x2 x3 s0) : R_X11_counted a1 Q 4 [x2, x3] [] s0 := Fx.intro (⟨rfl, x2, x3, rfl, rfl, h⟩)
def V_X11_counted (a1 : Int32) (s0 : St) (Q : Int32 → St → Prop) : Prop := B_X11_counted_e a1 Q (R_X11_counted a1 Q)  s0
theorem kX11_count_1 : Cond.constantLong RX11 220 (10) ∈ wsX11_count := List.mem_of_getElem? (i := 1) rfl
/-- what is to hold at the entry of X11_count -/
def B_X11_count_e (a1 : Int32) (Q : Int32 → St → Prop) (Y : Nat → List Int32 → List Int64 → St → Prop)  (s0 : St) : Prop :=
  V_X11_in a1.toInt64 0 10 s0 (fun r1 s1 => (r1 = 0 → (V_X11_bad ((-2)) s1 (fun r2 s2 => Q r2 s2))) ∧ (¬ r1 = 0 → (V_X11_counted a1 s1 (fun r3 s3 => Q r3 s3))))
def T_X11_count (a1 : Int32) (Q : Int32 → St → Prop) (Y : Nat → List Int32 → List Int64 → St → Prop) (P : Nat) (xs : List Int32) (ys : List Int64) (s0 : St) : Prop :=
  False
def R_X11_count (a1 : Int32) (Q : Int32 → St → Prop) : Nat → List Int32 → List Int64 → St → Prop := Fx (T_X11_count a1 Q)
def V_X11_count (a1 : Int32) (s0 : St) (Q : Int32 → St → Prop) : Prop := B_X11_count_e a1 Q (R_X11_count a1 Q)  s0
theorem kX11_sums_1 : Cond.constantLong RX11 306 (31) ∈ wsX11_sums := List.mem_of_getElem? (i := 1) rfl
theorem kX11_sums_2 : Cond.fieldLink RX11 7 "GloveRailModel" "all" "[I" ∈ wsX11_sums := List.mem_of_getElem? (i := 2) rfl
theorem iwX11_sums_X11 : ∀ w ∈ wsX110, w ∈ wsX11_sums := fun _ h => List.mem_cons_of_mem _ (List.mem_append_right _ h)
/-- what is to hold at the entry of X11_sums -/
def B_X11_sums_e (a1 : Int64) (a3 : Int32) (a4 : Int32) (Q : Int64 → St → Prop) (Y : Nat → List Int32 → List Int64 → St → Prop)  (s0 : St) : Prop :=
  Y 6 [0] [a1] s0
/-- what is to hold at 6 of X11_sums -/
def B_X11_sums_6 (a1 : Int64) (a3 : Int32) (a4 : Int32) (Q : Int64 → St → Prop) (Y : Nat → List Int32 → List Int64 → St → Prop) (x7 : Int32) (y5 : Int64) (s0 : St) : Prop :=
  (a4 ≤ x7 → (Q y5 s0)) ∧ (¬ a4 ≤ x7 → (vp_in (a3 + x7) 181 ∧ (∀ v1, v1 = (31 * y5) + ((s0 1 (a3 + x7).toNatClampNeg).toInt64) → (Y 6 [x7 + 1] [v1] s0))))
def T_X11_sums (a1 : Int64) (a3 : Int32) (a4 : Int32) (Q : Int64 → St → Prop) (Y : Nat → List Int32 → List Int64 → St → Prop) (P : Nat) (xs : List Int32) (ys : List Int64) (s0 : St) : Prop :=
  (P = 6 ∧ ∃ (x7 : Int32) (y5 : Int64), xs = [x7] ∧ ys = [y5] ∧ B_X11_sums_6 a1 a3 a4 Q Y x7 y5 s0)
def R_X11_sums (a1 : Int64) (a3 : Int32) (a4 : Int32) (Q : Int64 → St → Prop) : Nat → List Int32 → List Int64 → St → Prop := Fx (T_X11_sums a1 a3 a4 Q)
theorem i_X11_sums_6 (a1 : Int64) (a3 : Int32) (a4 : Int32) (Q : Int64 → St → Prop) (x7 : Int32) (y5 : Int64) (s0 : St) (h : B_X11_sums_6 a1 a3 a4 Q (R_X11_sums a1 a3 a4 Q) x7 y5 s0) : R_X11_sums a1 a3 a4 Q 6 [x7] [y5] s0 := Fx.intro (⟨rfl, x7, y5, rfl, rfl, h⟩)
def V_X11_sums (a1 : Int64) (a3 : Int32) (a4 : Int32) (s0 : St) (Q : Int64 → St → Prop) : Prop := B_X11_sums_e a1 a3 a4 Q (R_X11_sums a1 a3 a4 Q)  s0
theorem kX11_digest_1 : Cond.constantLong RX11 308 (1619) ∈ wsX11_digest := List.mem_of_getElem? (i := 1) rfl
theorem kX11_digest_2 : Cond.constantLong RX11 306 (31) ∈ wsX11_digest := List.mem_of_getElem? (i := 2) rfl
theorem kX11_digest_3 : Cond.fieldLink RX11 7 "GloveRailModel" "all" "[I" ∈ wsX11_digest := List.mem_of_getElem? (i := 3) rfl
theorem kX11_digest_4 : Cond.fieldLink RX11 217 "GloveRailModel" "above" "J" ∈ wsX11_digest := List.mem_of_getElem? (i := 4) rfl
theorem kX11_digest_5 : Cond.fieldLink RX11 23 "GloveRailModel" "below" "J" ∈ wsX11_digest := List.mem_of_getElem? (i := 5) rfl
theorem iwX11_digest_X11 : ∀ w ∈ wsX110, w ∈ wsX11_digest := fun _ h => List.mem_cons_of_mem _ (List.mem_append_right _ h)
/-- what is to hold at the entry of X11_digest -/
def B_X11_digest_e  (Q : Int64 → St → Prop) (Y : Nat → List Int32 → List Int64 → St → Prop)  (s0 : St) : Prop :=
  Y 6 [0] [1619] s0
/-- what is to hold at 6 of X11_digest -/
def B_X11_digest_6  (Q : Int64 → St → Prop) (Y : Nat → List Int32 → List Int64 → St → Prop) (x3 : Int32) (y1 : Int64) (s0 : St) : Prop :=
  (11 ≤ x3 → (V_X11_sums y1 16 6 s0 (fun r1 s1 => Y 43 [0] [r1] s1))) ∧ (¬ 11 ≤ x3 → (V_X11_counted x3 s0 (fun r2 s2 => Y 6 [x3 + 1] [(31 * y1) + r2.toInt64] s2)))
/-- what is to hold at 43 of X11_digest -/
def B_X11_digest_43  (Q : Int64 → St → Prop) (Y : Nat → List Int32 → List Int64 → St → Prop) (x3 : Int32) (y1 : Int64) (s0 : St) : Prop :=
  V_X11_many  s0 (fun r1 s1 => (r1 ≤ x3 → (Y 106 [0] [y1] s1)) ∧ (¬ r1 ≤ x3 → (vp_in (22 + x3) 181 ∧ (vp_in (30 + x3) 181 ∧ (vp_in (6 + x3) 181 ∧ (∀ v2, v2 = (31 * ((31 * ((31 * y1) + ((s1 1 (22 + x3).toNatClampNeg).toInt64))) + ((s1 1 (30 + x3).toNatClampNeg).toInt64))) + ((s1 1 (6 + x3).toNatClampNeg).toInt64) → (Y 43 [x3 + 1] [v2] s1)))))))
/-- what is to hold at 106 of X11_digest -/
def B_X11_digest_106  (Q : Int64 → St → Prop) (Y : Nat → List Int32 → List Int64 → St → Prop) (x3 : Int32) (y1 : Int64) (s0 : St) : Prop :=
  ((s0 1 1) ≤ x3 → (V_X11_sums y1 43 (2 * (s0 1 2)) s0 (fun r1 s1 => V_X11_sums r1 53 (4 * (s1 1 3)) s1 (fun r2 s2 => V_X11_sums r2 77 (4 * (s2 1 4)) s2 (fun r3 s3 => Q ((31 * ((31 * r3) + (lg2 (s3 0 28) (s3 0 29)))) + (lg2 (s3 0 30) (s3 0 31))) s3))))) ∧ (¬ (s0 1 1) ≤ x3 → (vp_in (37 + x3) 181 ∧ (vp_in (40 + x3) 181 ∧ (∀ v4, v4 = (31 * ((31 * ((31 * y1) + ((s0 1 (37 + x3).toNatClampNeg).toInt64))) + ((s0 1 (40 + x3).toNatClampNeg).toInt64))) + ((((s0 1 14) >>> (x3 &&& 31)) &&& 1).toInt64) → (Y 106 [x3 + 1] [v4] s0)))))
def T_X11_digest  (Q : Int64 → St → Prop) (Y : Nat → List Int32 → List Int64 → St → Prop) (P : Nat) (xs : List Int32) (ys : List Int64) (s0 : St) : Prop :=
  (P = 6 ∧ ∃ (x3 : Int32) (y1 : Int64), xs = [x3] ∧ ys = [y1] ∧ B_X11_digest_6  Q Y x3 y1 s0) ∨ (P = 43 ∧ ∃ (x3 : Int32) (y1 : Int64), xs = [x3] ∧ ys = [y1] ∧ B_X11_digest_43  Q Y x3 y1 s0) ∨ (P = 106 ∧ ∃ (x3 : Int32) (y1 : Int64), xs = [x3] ∧ ys = [y1] ∧ B_X11_digest_106  Q Y x3 y1 s0)
def R_X11_digest  (Q : Int64 → St → Prop) : Nat → List Int32 → List Int64 → St → Prop := Fx (T_X11_digest  Q)
theorem i_X11_digest_6  (Q : Int64 → St → Prop) (x3 : Int32) (y1 : Int64) (s0 : St) (h : B_X11_digest_6  Q (R_X11_digest  Q) x3 y1 s0) : R_X11_digest  Q 6 [x3] [y1] s0 := Fx.intro (Or.inl ⟨rfl, x3, y1, rfl, rfl, h⟩)
theorem i_X11_digest_43  (Q : Int64 → St → Prop) (x3 : Int32) (y1 : Int64) (s0 : St) (h : B_X11_digest_43  Q (R_X11_digest  Q) x3 y1 s0) : R_X11_digest  Q 43 [x3] [y1] s0 := Fx.intro (Or.inr (Or.inl ⟨rfl, x3, y1, rfl, rfl, h⟩))
theorem i_X11_digest_106  (Q : Int64 → St → Prop) (x3 : Int32) (y1 : Int64) (s0 : St) (h : B_X11_digest_106  Q (R_X11_digest  Q) x3 y1 s0) : R_X11_digest  Q 106 [x3] [y1] s0 := Fx.intro (Or.inr (Or.inr (⟨rfl, x3, y1, rfl, rfl, h⟩)))
def V_X11_digest  (s0 : St) (Q : Int64 → St → Prop) : Prop := B_X11_digest_e  Q (R_X11_digest  Q)  s0
