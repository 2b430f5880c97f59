theorem kX8_empty_1 : Cond.fieldLink RX8 11 "GloveRail$Street" "wets" "[I" ∈ wsX8_empty := List.mem_of_getElem? (i := 1) rfl
theorem kX8_empty_2 : Cond.fieldLink RX8 30 "GloveRail$Street" "behind" "[I" ∈ wsX8_empty := List.mem_of_getElem? (i := 2) rfl
theorem kX8_empty_3 : Cond.fieldLink RX8 36 "GloveRail$Street" "gloves" "I" ∈ wsX8_empty := List.mem_of_getElem? (i := 3) rfl
theorem kX8_empty_4 : Cond.fieldLink RX8 40 "GloveRail$Street" "crossings" "I" ∈ wsX8_empty := List.mem_of_getElem? (i := 4) rfl
theorem kX8_empty_5 : Cond.fieldLink RX8 43 "GloveRail$Street" "shut" "I" ∈ wsX8_empty := List.mem_of_getElem? (i := 5) rfl
theorem kX8_empty_6 : Cond.fieldLink RX8 46 "GloveRail$Street" "hour" "I" ∈ wsX8_empty := List.mem_of_getElem? (i := 6) rfl
theorem iwX8_empty_X8 : ∀ w ∈ wsX80, w ∈ wsX8_empty := fun _ h => List.mem_cons_of_mem _ (List.mem_append_right _ h)
/-- what is to hold at the entry of X8_empty -/
def B_X8_empty_e (h0 : Nat) (Q : St → Prop) (Y : Nat → List Int32 → List Int64 → St → Prop)  (s0 : St) : Prop :=
  Y 2 [0] [] s0
/-- what is to hold at 2 of X8_empty -/
def B_X8_empty_2 (h0 : Nat) (Q : St → Prop) (Y : Nat → List Int32 → List Int64 → St → Prop) (x1 : Int32) (s0 : St) : Prop :=
  (6 ≤ x1 → (Y 23 [0] [] s0)) ∧ (¬ 6 ≤ x1 → (vp_in x1 6 ∧ (∀ s1, s1 = us s0 (h0 + 1) (upd (s0 (h0 + 1)) x1.toNatClampNeg 0) → (Y 2 [x1 + 1] [] s1))))
/-- what is to hold at 23 of X8_empty -/
def B_X8_empty_23 (h0 : Nat) (Q : St → Prop) (Y : Nat → List Int32 → List Int64 → St → Prop) (x1 : Int32) (s0 : St) : Prop :=
  (23 < x1 → (∀ s1, s1 = us s0 h0 (upd (s0 h0) 8 0) → (∀ s2, s2 = us s1 h0 (upd (s1 h0) 9 0) → (∀ s3, s3 = us s2 h0 (upd (s2 h0) 10 0) → (∀ s4, s4 = us s3 h0 (upd (s3 h0) 11 0) → (Q s4)))))) ∧ (¬ 23 < x1 → (vp_in x1 24 ∧ (∀ s5, s5 = us s0 (h0 + 7) (upd (s0 (h0 + 7)) x1.toNatClampNeg 0) → (Y 23 [x1 + 1] [] s5))))
def T_X8_empty (h0 : Nat) (Q : St → Prop) (Y : Nat → List Int32 → List Int64 → St → Prop) (P : Nat) (xs : List Int32) (ys : List Int64) (s0 : St) : Prop :=
  (P = 2 ∧ ∃ (x1 : Int32), xs = [x1] ∧ ys = [] ∧ B_X8_empty_2 h0 Q Y x1 s0) ∨ (P = 23 ∧ ∃ (x1 : Int32), xs = [x1] ∧ ys = [] ∧ B_X8_empty_23 h0 Q Y x1 s0)
def R_X8_empty (h0 : Nat) (Q : St → Prop) : Nat → List Int32 → List Int64 → St → Prop := Fx (T_X8_empty h0 Q)
theorem i_X8_empty_2 (h0 : Nat) (Q : St → Prop) (x1 : Int32) (s0 : St) (h : B_X8_empty_2 h0 Q (R_X8_empty h0 Q) x1 s0) : R_X8_empty h0 Q 2 [x1] [] s0 := Fx.intro (Or.inl ⟨rfl, x1, rfl, rfl, h⟩)
theorem i_X8_empty_23 (h0 : Nat) (Q : St → Prop) (x1 : Int32) (s0 : St) (h : B_X8_empty_23 h0 Q (R_X8_empty h0 Q) x1 s0) : R_X8_empty h0 Q 23 [x1] [] s0 := Fx.intro (Or.inr (⟨rfl, x1, rfl, rfl, h⟩))
def V_X8_empty (h0 : Nat) (s0 : St) (Q : St → Prop) : Prop := B_X8_empty_e h0 Q (R_X8_empty h0 Q)  s0
theorem kX6_empty_1 : Cond.fieldLink RX6 32 "GloveRail$Rows" "size" "I" ∈ wsX6_empty := List.mem_of_getElem? (i := 1) rfl
theorem iwX6_empty_X6 : ∀ w ∈ wsX60, w ∈ wsX6_empty := fun _ h => List.mem_cons_of_mem _ (List.mem_append_right _ h)
/-- what is to hold at the entry of X6_empty -/
def B_X6_empty_e (h0 : Nat) (Q : Int32 → St → Prop) (Y : Nat → List Int32 → List Int64 → St → Prop)  (s0 : St) : Prop :=
  ∀ s1, s1 = us s0 h0 (upd (s0 h0) 3 0) → (Q (s0 h0 3) s1)
def T_X6_empty (h0 : Nat) (Q : Int32 → St → Prop) (Y : Nat → List Int32 → List Int64 → St → Prop) (P : Nat) (xs : List Int32) (ys : List Int64) (s0 : St) : Prop :=
  False
def R_X6_empty (h0 : Nat) (Q : Int32 → St → Prop) : Nat → List Int32 → List Int64 → St → Prop := Fx (T_X6_empty h0 Q)
def V_X6_empty (h0 : Nat) (s0 : St) (Q : Int32 → St → Prop) : Prop := B_X6_empty_e h0 Q (R_X6_empty h0 Q)  s0
theorem kX7_empty_1 : Cond.fieldLink RX7 10 "GloveRail$Scene" "street" "LGloveRail$Street;" ∈ wsX7_empty := List.mem_of_getElem? (i := 1) rfl
theorem kX7_empty_2 : Cond.fieldLink RX7 19 "GloveRail$Scene" "past" "LGloveRail$Past;" ∈ wsX7_empty := List.mem_of_getElem? (i := 2) rfl
theorem kX7_empty_3 : Cond.fieldLink RX7 41 "GloveRail$Past" "size" "I" ∈ wsX7_empty := List.mem_of_getElem? (i := 3) rfl
theorem kX7_empty_4 : Cond.fieldLink RX7 28 "GloveRail$Scene" "seen" "LGloveRail$Rows;" ∈ wsX7_empty := List.mem_of_getElem? (i := 4) rfl
theorem kX7_empty_5 : Cond.fieldLink RX7 32 "GloveRail$Scene" "notes" "LGloveRail$Rows;" ∈ wsX7_empty := List.mem_of_getElem? (i := 5) rfl
theorem kX7_empty_6 : Cond.fieldLink RX7 35 "GloveRail$Scene" "marks" "LGloveRail$Rows;" ∈ wsX7_empty := List.mem_of_getElem? (i := 6) rfl
theorem iwX7_empty_X4 : ∀ w ∈ wsX40, w ∈ wsX7_empty := fun _ h => List.mem_cons_of_mem _ (List.mem_append_left _ (List.mem_append_left _ (List.mem_append_right _ h)))
theorem iwX7_empty_X7 : ∀ w ∈ wsX70, w ∈ wsX7_empty := fun _ h => List.mem_cons_of_mem _ (List.mem_append_left _ (List.mem_append_left _ (List.mem_append_left _ (List.mem_append_right _ h))))
/-- what is to hold at the entry of X7_empty -/
def B_X7_empty_e (h0 : Nat) (Q : St → Prop) (Y : Nat → List Int32 → List Int64 → St → Prop)  (s0 : St) : Prop :=
  V_X8_empty (h0 + 1) s0 (fun s1 => ∀ s2, s2 = us s1 (h0 + 10) (upd (s1 (h0 + 10)) 1 0) → (V_X6_empty (h0 + 12) s2 (fun r3 s3 => V_X6_empty (h0 + 14) s3 (fun r4 s4 => V_X6_empty (h0 + 16) s4 (fun r5 s5 => Q s5)))))
def T_X7_empty (h0 : Nat) (Q : St → Prop) (Y : Nat → List Int32 → List Int64 → St → Prop) (P : Nat) (xs : List Int32) (ys : List Int64) (s0 : St) : Prop :=
  False
def R_X7_empty (h0 : Nat) (Q : St → Prop) : Nat → List Int32 → List Int64 → St → Prop := Fx (T_X7_empty h0 Q)
def V_X7_empty (h0 : Nat) (s0 : St) (Q : St → Prop) : Prop := B_X7_empty_e h0 Q (R_X7_empty h0 Q)  s0
theorem kX10_street_1 : Cond.fieldLink RX10 10 "GloveRail" "now" "LGloveRail$Scene;" ∈ wsX10_street := List.mem_of_getElem? (i := 1) rfl
theorem kX10_street_2 : Cond.fieldLink RX10 57 "GloveRail$Scene" "street" "LGloveRail$Street;" ∈ wsX10_street := List.mem_of_getElem? (i := 2) rfl
theorem kX10_street_3 : Cond.fieldLink RX10 61 "GloveRail$Street" "gloves" "I" ∈ wsX10_street := List.mem_of_getElem? (i := 3) rfl
theorem iwX10_street_X10 : ∀ w ∈ wsX100, w ∈ wsX10_street := fun _ h => List.mem_cons_of_mem _ (List.mem_append_left _ (List.mem_append_left _ (List.mem_append_left _ (List.mem_append_left _ (List.mem_append_right _ h)))))
theorem iwX10_street_X7 : ∀ w ∈ wsX70, w ∈ wsX10_street := fun _ h => List.mem_cons_of_mem _ (List.mem_append_left _ (List.mem_append_left _ (List.mem_append_left _ (List.mem_append_right _ h))))
theorem iwX10_street_X8 : ∀ w ∈ wsX80, w ∈ wsX10_street := fun _ h => List.mem_cons_of_mem _ (List.mem_append_left _ (List.mem_append_left _ (List.mem_append_right _ h)))
/-- what is to hold at the entry of X10_street -/
def B_X10_street_e  (Q : Int32 → St → Prop) (Y : Nat → List Int32 → List Int64 → St → Prop)  (s0 : St) : Prop :=
  V_X7_empty 1 s0 (fun s1 => Q (s0 2 8) s1)
def T_X10_street  (Q : Int32 → St → Prop) (Y : Nat → List Int32 → List Int64 → St → Prop) (P : Nat) (xs : List Int32) (ys : List Int64) (s0 : St) : Prop :=
  False
def R_X10_street  (Q : Int32 → St → Prop) : Nat → List Int32 → List Int64 → St → Prop := Fx (T_X10_street  Q)
def V_X10_street  (s0 : St) (Q : Int32 → St → Prop) : Prop := B_X10_street_e  Q (R_X10_street  Q)  s0
/-- what is to hold at the entry of X10_within -/
def B_X10_within_e (a0 : Int32) (a1 : Int32) (a2 : Int32) (Q : Int32 → St → Prop) (Y : Nat → List Int32 → List Int64 → St → Prop)  (s0 : St) : Prop :=
  (a0 < a1 → (Q 0 s0)) ∧ (¬ a0 < a1 → ((a2 < a0 → (Q 0 s0)) ∧ (¬ a2 < a0 → (Q 1 s0))))
def T_X10_within (a0 : Int32) (a1 : Int32) (a2 : Int32) (Q : Int32 → St → Prop) (Y : Nat → List Int32 → List Int64 → St → Prop) (P : Nat) (xs : List Int32) (ys : List Int64) (s0 : St) : Prop :=
  False
def R_X10_within (a0 : Int32) (a1 : Int32) (a2 : Int32) (Q : Int32 → St → Prop) : Nat → List Int32 → List Int64 → St → Prop := Fx (T_X10_within a0 a1 a2 Q)
def V_X10_within (a0 : Int32) (a1 : Int32) (a2 : Int32) (s0 : St) (Q : Int32 → St → Prop) : Prop := B_X10_within_e a0 a1 a2 Q (R_X10_within a0 a1 a2 Q)  s0
theorem kX10_bad_1 : Cond.fieldLink RX10 311 "GloveRail" "bads" "I" ∈ wsX10_bad := List.mem_of_getElem? (i := 1) rfl
theorem iwX10_bad_X10 : ∀ w ∈ wsX100, w ∈ wsX10_bad := fun _ h => List.mem_cons_of_mem _ (List.mem_append_right _ h)
/-- what is to hold at the entry of X10_bad -/
def B_X10_bad_e  (Q : Int32 → St → Prop) (Y : Nat → List Int32 → List Int64 → St → Prop)  (s0 : St) : Prop :=
  ∀ s1, s1 = us s0 0 (upd (s0 0) 10 ((s0 0 10) + 1)) → (Q ((-2)) s1)
def T_X10_bad  (Q : Int32 → St → Prop) (Y : Nat → List Int32 → List Int64 → St → Prop) (P : Nat) (xs : List Int32) (ys : List Int64) (s0 : St) : Prop :=
  False
def R_X10_bad  (Q : Int32 → St → Prop) : Nat → List Int32 → List Int64 → St → Prop := Fx (T_X10_bad  Q)
def V_X10_bad  (s0 : St) (Q : Int32 → St → Prop) : Prop := B_X10_bad_e  Q (R_X10_bad  Q)  s0
theorem kX10_wet_1 : Cond.fieldLink RX10 10 "GloveRail" "now" "LGloveRail$Scene;" ∈ wsX10_wet := List.mem_of_getElem? (i := 1) rfl
theorem kX10_wet_2 : Cond.fieldLink RX10 57 "GloveRail$Scene" "street" "LGloveRail$Street;" ∈ wsX10_wet := List.mem_of_getElem? (i := 2) rfl
theorem kX10_wet_3 : Cond.fieldLink RX10 77 "GloveRail$Street" "wets" "[I" ∈ wsX10_wet := List.mem_of_getElem? (i := 3) rfl
theorem kX10_wet_4 : Cond.fieldLink RX10 81 "GloveRail$Scene" "past" "LGloveRail$Past;" ∈ wsX10_wet := List.mem_of_getElem? (i := 4) rfl
theorem kX10_wet_5 : Cond.fieldLink RX10 85 "GloveRail$Past" "size" "I" ∈ wsX10_wet := List.mem_of_getElem? (i := 5) rfl
theorem iwX10_wet_X10 : ∀ w ∈ wsX100, w ∈ wsX10_wet := fun _ h => List.mem_cons_of_mem _ (List.mem_append_left _ (List.mem_append_left _ (List.mem_append_left _ (List.mem_append_right _ h))))
theorem iwX10_wet_X4 : ∀ w ∈ wsX40, w ∈ wsX10_wet := fun _ h => List.mem_cons_of_mem _ (List.mem_append_right _ h)
theorem iwX10_wet_X7 : ∀ w ∈ wsX70, w ∈ wsX10_wet := fun _ h => List.mem_cons_of_mem _ (List.mem_append_left _ (List.mem_append_left _ (List.mem_append_right _ h)))
theorem iwX10_wet_X8 : ∀ w ∈ wsX80, w ∈ wsX10_wet := fun _ h => List.mem_cons_of_mem _ (List.mem_append_left _ (List.mem_append_right _ h))
/-- what is to hold at the entry of X10_wet -/
def B_X10_wet_e (a1 : Int32) (a2 : Int32) (Q : Int32 → St → Prop) (Y : Nat → List Int32 → List Int64 → St → Prop)  (s0 : St) : Prop :=
  V_X10_within a1 0 5 s0 (fun r1 s1 => (r1 = 0 → (V_X10_bad  s1 (fun r2 s2 => Q r2 s2))) ∧ (¬ r1 = 0 → (V_X10_within a2 0 4 s1 (fun r3 s3 => (¬ r3 = 0 → (vp_in a1 6 ∧ (vp_in a1 6 ∧ (∀ s4, s4 = us s3 3 (upd (s3 3) a1.toNatClampNeg a2) → (∀ s5, s5 = us s4 11 (upd (s4 11) 1 0) → (Q (s3 3 a1.toNatClampNeg) s5)))))) ∧ (r3 = 0 → (V_X10_bad  s3 (fun r6 s6 => Q r6 s6)))))))
def T_X10_wet (a1 : Int32) (a2 : Int32) (Q : Int32 → St → Prop) (Y : Nat → List Int32 → List Int64 → St → Prop) (P : Nat) (xs : List Int32) (ys : List Int64) (s0 : St) : Prop :=
  False
def R_X10_wet (a1 : Int32) (a2 : Int32) (Q : Int32 → St → Prop) : Nat → List Int32 → List Int64 → St → Prop := Fx (T_X10_wet a1 a2 Q)
def V_X10_wet (a1 : Int32) (a2 : Int32) (s0 : St) (Q : Int32 → St → Prop) : Prop := B_X10_wet_e a1 a2 Q (R_X10_wet a1 a2 Q)  s0
/-- what is to hold at the entry of X10_isKind -/
def B_X10_isKind_e (a0 : Int32) (Q : Int32 → St → Prop) (Y : Nat → List Int32 → List Int64 → St → Prop)  (s0 : St) : Prop :=
  V_X10_within a0 0 5 s0 (fun r1 s1 => Q r1 s1)
def T_X10_isKind (a0 : Int32) (Q : Int32 → St → Prop) (Y : Nat → List Int32 → List Int64 → St → Prop) (P : Nat) (xs : List Int32) (ys : List Int64) (s0 : St) : Prop :=
  False
def R_X10_isKind (a0 : Int32) (Q : Int32 → St → Prop) : Nat → List Int32 → List Int64 → St → Prop := Fx (T_X10_isKind a0 Q)
def V_X10_isKind (a0 : Int32) (s0 : St) (Q : Int32 → St → Prop) : Prop := B_X10_isKind_e a0 Q (R_X10_isKind a0 Q)  s0
theorem kX10_full_1 : Cond.fieldLink RX10 317 "GloveRail" "fulls" "I" ∈ wsX10_full := List.mem_of_getElem? (i := 1) rfl
theorem iwX10_full_X10 : ∀ w ∈ wsX100, w ∈ wsX10_full := fun _ h => List.mem_cons_of_mem _ (List.mem_append_right _ h)
/-- what is to hold at the entry of X10_full -/
def B_X10_full_e  (Q : Int32 → St → Prop) (Y : Nat → List Int32 → List Int64 → St → Prop)  (s0 : St) : Prop :=
  ∀ s1, s1 = us s0 0 (upd (s0 0) 12 ((s0 0 12) + 1)) → (Q ((-4)) s1)
def T_X10_full  (Q : Int32 → St → Prop) (Y : Nat → List Int32 → List Int64 → St → Prop) (P : Nat) (xs : List Int32) (ys : List Int64) (s0 : St) : Prop :=
  False
def R_X10_full  (Q : Int32 → St → Prop) : Nat → List Int32 → List Int64 → St → Prop := Fx (T_X10_full  Q)
def V_X10_full  (s0 : St) (Q : Int32 → St → Prop) : Prop := B_X10_full_e  Q (R_X10_full  Q)  s0
theorem kX8_addGlove_1 : Cond.fieldLink RX8 36 "GloveRail$Street" "gloves" "I" ∈ wsX8_addGlove := List.mem_of_getElem? (i := 1) rfl
theorem kX8_addGlove_2 : Cond.fieldLink RX8 15 "GloveRail$Street" "kinds" "[I" ∈ wsX8_addGlove := List.mem_of_getElem? (i := 2) rfl
theorem kX8_addGlove_3 : Cond.fieldLink RX8 18 "GloveRail$Street" "marks" "[I" ∈ wsX8_addGlove := List.mem_of_getElem? (i := 3) rfl
theorem kX8_addGlove_4 : Cond.fieldLink RX8 21 "GloveRail$Street" "spikes" "[I" ∈ wsX8_addGlove := List.mem_of_getElem? (i := 4) rfl
theorem iwX8_addGlove_X8 : ∀ w ∈ wsX80, w ∈ wsX8_addGlove := fun _ h => List.mem_cons_of_mem _ (List.mem_append_right _ h)
/-- what is to hold at the entry of X8_addGlove -/
def B_X8_addGlove_e (h0 : Nat) (a1 : Int32) (a2 : Int32) (a3 : Int32) (Q : Int32 → St → Prop) (Y : Nat → List Int32 → List Int64 → St → Prop)  (s0 : St) : Prop :=
  ((s0 h0 8) ≤ 7 → (vp_in (s0 h0 8) 8 ∧ (∀ s1, s1 = us s0 (h0 + 2) (upd (s0 (h0 + 2)) (s0 h0 8).toNatClampNeg a1) → (vp_in (s1 h0 8) 8 ∧ (∀ s2, s2 = us s1 (h0 + 3) (upd (s1 (h0 + 3)) (s1 h0 8).toNatClampNeg a2) → (vp_in (s2 h0 8) 8 ∧ (∀ s3, s3 = us s2 (h0 + 4) (upd (s2 (h0 + 4)) (s2 h0 8).toNatClampNeg a3) → (∀ s4, s4 = us s3 h0 (upd (s3 h0) 8 ((s3 h0 8) + 1)) → (Q ((s4 h0 8) - 1) s4))))))))) ∧ (¬ (s0 h0 8) ≤ 7 → (Q ((-4)) s0))
def T_X8_addGlove (h0 : Nat) (a1 : Int32) (a2 : Int32) (a3 : Int32) (Q : Int32 → St → Prop) (Y : Nat → List Int32 → List Int64 → St → Prop) (P : Nat) (xs : List Int32) (ys : List Int64) (s0 : St) : Prop :=
  False
def R_X8_addGlove (h0 : Nat) (a1 : Int32) (a2 : Int32) (a3 : Int32) (Q : Int32 → St → Prop) : Nat → List Int32 → List Int64 → St → Prop := Fx (T_X8_addGlove h0 a1 a2 a3 Q)
def V_X8_addGlove (h0 : Nat) (a1 : Int32) (a2 : Int32) (a3 : Int32) (s0 : St) (Q : Int32 → St → Prop) : Prop := B_X8_addGlove_e h0 a1 a2 a3 Q (R_X8_addGlove h0 a1 a2 a3 Q)  s0
theorem kX10_glove_1 : Cond.fieldLink RX10 10 "GloveRail" "now" "LGloveRail$Scene;" ∈ wsX10_glove := List.mem_of_getElem? (i := 1) rfl
theorem kX10_glove_2 : Cond.fieldLink RX10 57 "GloveRail$Scene" "street" "LGloveRail$Street;" ∈ wsX10_glove := List.mem_of_getElem? (i := 2) rfl
theorem kX10_glove_3 : Cond.fieldLink RX10 61 "GloveRail$Street" "gloves" "I" ∈ wsX10_glove := List.mem_of_getElem? (i := 3) rfl
theorem kX10_glove_4 : Cond.fieldLink RX10 81 "GloveRail$Scene" "past" "LGloveRail$Past;" ∈ wsX10_glove := List.mem_of_getElem? (i := 4) rfl
theorem kX10_glove_5 : Cond.fieldLink RX10 85 "GloveRail$Past" "size" "I" ∈ wsX10_glove := List.mem_of_getElem? (i := 5) rfl
theorem iwX10_glove_X10 : ∀ w ∈ wsX100, w ∈ wsX10_glove := fun _ h => List.mem_cons_of_mem _ (List.mem_append_left _ (List.mem_append_left _ (List.mem_append_left _ (List.mem_append_right _ h))))
theorem iwX10_glove_X4 : ∀ w ∈ wsX40, w ∈ wsX10_glove := fun _ h => List.mem_cons_of_mem _ (List.mem_append_right _ h)
theorem iwX10_glove_X7 : ∀ w ∈ wsX70, w ∈ wsX10_glove := fun _ h => List.mem_cons_of_mem _ (List.mem_append_left _ (List.mem_append_left _ (List.mem_append_right _ h)))
theorem iwX10_glove_X8 : ∀ w ∈ wsX80, w ∈ wsX10_glove := fun _ h => List.mem_cons_of_mem _ (List.mem_append_left _ (List.mem_append_right _ h))
/-- what is to hold at the entry of X10_glove -/
def B_X10_glove_e (a1 : Int32) (a2 : Int32) (a3 : Int32) (Q : Int32 → St → Prop) (Y : Nat → List Int32 → List Int64 → St → Prop)  (s0 : St) : Prop :=
  V_X10_isKind a1 s0 (fun r1 s1 => (r1 = 0 → (V_X10_bad  s1 (fun r2 s2 => Q r2 s2))) ∧ (¬ r1 = 0 → (V_X10_within a2 1 9 s1 (fun r3 s3 => (r3 = 0 → (V_X10_bad  s3 (fun r4 s4 => Q r4 s4))) ∧ (¬ r3 = 0 → (V_X10_within a3 0 23 s3 (fun r5 s5 => (¬ r5 = 0 → (((s5 2 8) < 7 → (∀ s6, s6 = us s5 11 (upd (s5 11) 1 0) → (V_X8_addGlove 2 a1 a2 a3 s6 (fun r7 s7 => Q r7 s7)))) ∧ (¬ (s5 2 8) < 7 → (V_X10_full  s5 (fun r8 s8 => Q r8 s8))))) ∧ (r5 = 0 → (V_X10_bad  s5 (fun r9 s9 => Q r9 s9))))))))))
def T_X10_glove (a1 : Int32) (a2 : Int32) (a3 : Int32) (Q : Int32 → St → Prop) (Y : Nat → List Int32 → List Int64 → St → Prop) (P : Nat) (xs : List Int32) (ys : List Int64) (s0 : St) : Prop :=
  False
def R_X10_glove (a1 : Int32) (a2 : Int32) (a3 : Int32) (Q : Int32 → St → Prop) : Nat → List Int32 → List Int64 → St → Prop := Fx (T_X10_glove a1 a2 a3 Q)
def V_X10_glove (a1 : Int32) (a2 : Int32) (a3 : Int32) (s0 : St) (Q : Int32 → St → Prop) : Prop := B_X10_glove_e a1 a2 a3 Q (R_X10_glove a1 a2 a3 Q)  s0
theorem kX8_hasCrossing_1 : Cond.fieldLink RX8 30 "GloveRail$Street" "behind" "[I" ∈ wsX8_hasCrossing := List.mem_of_getElem? (i := 1) rfl
theorem kX8_hasCrossing_2 : Cond.static yX10_within ∈ wsX8_hasCrossing := List.mem_of_getElem? (i := 2) rfl
theorem kX8_hasCrossing_3 : Cond.initialized RX10 ∈ wsX8_hasCrossing := List.mem_of_getElem? (i := 3) rfl
theorem iwX8_hasCrossing_X8 : ∀ w ∈ wsX80, w ∈ wsX8_hasCrossing := fun _ h => List.mem_cons_of_mem _ (List.mem_append_right _ h)
/-- what is to hold at the entry of X8_hasCrossing -/
def B_X8_hasCrossing_e (h0 : Nat) (a1 : Int32) (Q : Int32 → St → Prop) (Y : Nat → List Int32 → List Int64 → St → Prop)  (s0 : St) : Prop :=
  V_X10_within a1 0 23 s0 (fun r1 s1 => (r1 = 0 → (Q 0 s1)) ∧ (¬ r1 = 0 → (vp_in a1 24 ∧ (((s1 (h0 + 7) a1.toNatClampNeg) = 0 → (Q 0 s1)) ∧ (¬ (s1 (h0 + 7) a1.toNatClampNeg) = 0 → (Q 1 s1))))))
def T_X8_hasCrossing (h0 : Nat) (a1 : Int32) (Q : Int32 → St → Prop) (Y : Nat → List Int32 → List Int64 → St → Prop) (P : Nat) (xs : List Int32) (ys : List Int64) (s0 : St) : Prop :=
  False
def R_X8_hasCrossing (h0 : Nat) (a1 : Int32) (Q : Int32 → St → Prop) : Nat → List Int32 → List Int64 → St → Prop := Fx (T_X8_hasCrossing h0 a1 Q)
def V_X8_hasCrossing (h0 : Nat) (a1 : Int32) (s0 : St) (Q : Int32 → St → Prop) : Prop := B_X8_hasCrossing_e h0 a1 Q (R_X8_hasCrossing h0 a1 Q)  s0
theorem kX8_addCrossing_1 : Cond.fieldLink RX8 40 "GloveRail$Street" "crossings" "I" ∈ wsX8_addCrossing := List.mem_of_getElem? (i := 1) rfl
theorem kX8_addCrossing_2 : Cond.fieldLink RX8 24 "GloveRail$Street" "crossingKinds" "[I" ∈ wsX8_addCrossing := List.mem_of_getElem? (i := 2) rfl
theorem kX8_addCrossing_3 : Cond.fieldLink RX8 27 "GloveRail$Street" "crossingSpikes" "[I" ∈ wsX8_addCrossing := List.mem_of_getElem? (i := 3) rfl
theorem kX8_addCrossing_4 : Cond.fieldLink RX8 30 "GloveRail$Street" "behind" "[I" ∈ wsX8_addCrossing := List.mem_of_getElem? (i := 4) rfl
theorem iwX8_addCrossing_X8 : ∀ w ∈ wsX80, w ∈ wsX8_addCrossing := fun _ h => List.mem_cons_of_mem _ (List.mem_append_right _ h)
/-- what is to hold at the entry of X8_addCrossing -/
def B_X8_addCrossing_e (h0 : Nat) (a1 : Int32) (a2 : Int32) (Q : Int32 → St → Prop) (Y : Nat → List Int32 → List Int64 → St → Prop)  (s0 : St) : Prop :=
  ((s0 h0 9) < 3 → (vp_in (s0 h0 9) 3 ∧ (∀ s1, s1 = us s0 (h0 + 5) (upd (s0 (h0 + 5)) (s0 h0 9).toNatClampNeg a1) → (vp_in (s1 h0 9) 3 ∧ (∀ s2, s2 = us s1 (h0 + 6) (upd (s1 (h0 + 6)) (s1 h0 9).toNatClampNeg a2) → (∀ s3, s3 = us s2 h0 (upd (s2 h0) 9 ((s2 h0 9) + 1)) → (vp_in a2 24 ∧ (∀ s4, s4 = us s3 (h0 + 7) (upd (s3 (h0 + 7)) a2.toNatClampNeg (s3 h0 9)) → (Q ((s4 h0 9) - 1) s4))))))))) ∧ (¬ (s0 h0 9) < 3 → (Q ((-4)) s0))
def T_X8_addCrossing (h0 : Nat) (a1 : Int32) (a2 : Int32) (Q : Int32 → St → Prop) (Y : Nat → List Int32 → List Int64 → St → Prop) (P : Nat) (xs : List Int32) (ys : List Int64) (s0 : St) : Prop :=
  False
def R_X8_addCrossing (h0 : Nat) (a1 : Int32) (a2 : Int32) (Q : Int32 → St → Prop) : Nat → List Int32 → List Int64 → St → Prop := Fx (T_X8_addCrossing h0 a1 a2 Q)
def V_X8_addCrossing (h0 : Nat) (a1 : Int32) (a2 : Int32) (s0 : St) (Q : Int32 → St → Prop) : Prop := B_X8_addCrossing_e h0 a1 a2 Q (R_X8_addCrossing h0 a1 a2 Q)  s0
theorem kX10_crossing_1 : Cond.fieldLink RX10 10 "GloveRail" "now" "LGloveRail$Scene;" ∈ wsX10_crossing := List.mem_of_getElem? (i := 1) rfl
theorem kX10_crossing_2 : Cond.fieldLink RX10 57 "GloveRail$Scene" "street" "LGloveRail$Street;" ∈ wsX10_crossing := List.mem_of_getElem? (i := 2) rfl
theorem kX10_crossing_3 : Cond.fieldLink RX10 104 "GloveRail$Street" "crossings" "I" ∈ wsX10_crossing := List.mem_of_getElem? (i := 3) rfl
theorem kX10_crossing_4 : Cond.fieldLink RX10 81 "GloveRail$Scene" "past" "LGloveRail$Past;" ∈ wsX10_crossing := List.mem_of_getElem? (i := 4) rfl
theorem kX10_crossing_5 : Cond.fieldLink RX10 85 "GloveRail$Past" "size" "I" ∈ wsX10_crossing := List.mem_of_getElem? (i := 5) rfl
theorem iwX10_crossing_X10 : ∀ w ∈ wsX100, w ∈ wsX10_crossing := fun _ h => List.mem_cons_of_mem _ (List.mem_append_left _ (List.mem_append_left _ (List.mem_append_left _ (List.mem_append_right _ h))))
theorem iwX10_crossing_X4 : ∀ w ∈ wsX40, w ∈ wsX10_crossing := fun _ h => List.mem_cons_of_mem _ (List.mem_append_right _ h)
theorem iwX10_crossing_X7 : ∀ w ∈ wsX70, w ∈ wsX10_crossing := fun _ h => List.mem_cons_of_mem _ (List.mem_append_left _ (List.mem_append_left _ (List.mem_append_right _ h)))
theorem iwX10_crossing_X8 : ∀ w ∈ wsX80, w ∈ wsX10_crossing := fun _ h => List.mem_cons_of_mem _ (List.mem_append_left _ (List.mem_append_right _ h))
/-- what is to hold at the entry of X10_crossing -/
def B_X10_crossing_e (a1 : Int32) (a2 : Int32) (Q : Int32 → St → Prop) (Y : Nat → List Int32 → List Int64 → St → Prop)  (s0 : St) : Prop :=
  V_X10_isKind a1 s0 (fun r1 s1 => (r1 = 0 → (V_X10_bad  s1 (fun r2 s2 => Q r2 s2))) ∧ (¬ r1 = 0 → (V_X10_within a2 0 22 s1 (fun r3 s3 => (r3 = 0 → (V_X10_bad  s3 (fun r4 s4 => Q r4 s4))) ∧ (¬ r3 = 0 → (V_X8_hasCrossing 2 a2 s3 (fun r5 s5 => (r5 = 0 → (((s5 2 9) < 3 → (∀ s6, s6 = us s5 11 (upd (s5 11) 1 0) → (V_X8_addCrossing 2 a1 a2 s6 (fun r7 s7 => Q r7 s7)))) ∧ (¬ (s5 2 9) < 3 → (V_X10_full  s5 (fun r8 s8 => Q r8 s8))))) ∧ (¬ r5 = 0 → (V_X10_bad  s5 (fun r9 s9 => Q r9 s9))))))))))
def T_X10_crossing (a1 : Int32) (a2 : Int32) (Q : Int32 → St → Prop) (Y : Nat → List Int32 → List Int64 → St → Prop) (P : Nat) (xs : List Int32) (ys : List Int64) (s0 : St) : Prop :=
  False
def R_X10_crossing (a1 : Int32) (a2 : Int32) (Q : Int32 → St → Prop) : Nat → List Int32 → List Int64 → St → Prop := Fx (T_X10_crossing a1 a2 Q)
def V_X10_crossing (a1 : Int32) (a2 : Int32) (s0 : St) (Q : Int32 → St → Prop) : Prop := B_X10_crossing_e a1 a2 Q (R_X10_crossing a1 a2 Q)  s0
theorem kX4_keep_1 : Cond.fieldLink RX4 21 "GloveRail$Past" "size" "I" ∈ wsX4_keep := List.mem_of_getElem? (i := 1) rfl
theorem kX4_keep_2 : Cond.fieldLink RX4 11 "GloveRail$Past" "cells" "[I" ∈ wsX4_keep := List.mem_of_getElem? (i := 2) rfl
theorem kX4_keep_3 : Cond.methodLink RX4 15 arraycopyName ∈ wsX4_keep := List.mem_of_getElem? (i := 3) rfl
theorem kX4_keep_4 : Cond.native arraycopyName ∈ wsX4_keep := List.mem_of_getElem? (i := 4) rfl
theorem kX4_keep_5 : Cond.static arraycopyName ∈ wsX4_keep := List.mem_of_getElem? (i := 5) rfl
theorem kX4_keep_6 : Cond.initialized "java/lang/System" ∈ wsX4_keep := List.mem_of_getElem? (i := 6) rfl
theorem kX4_keep_7 : Cond.fieldLink RX4 25 "GloveRail$Street" "spikes" "[I" ∈ wsX4_keep := List.mem_of_getElem? (i := 7) rfl
theorem kX4_keep_8 : Cond.fieldLink RX4 28 "GloveRail$Street" "shut" "I" ∈ wsX4_keep := List.mem_of_getElem? (i := 8) rfl
theorem kX4_keep_9 : Cond.fieldLink RX4 31 "GloveRail$Street" "hour" "I" ∈ wsX4_keep := List.mem_of_getElem? (i := 9) rfl
theorem iwX4_keep_X4 : ∀ w ∈ wsX40, w ∈ wsX4_keep := fun _ h => List.mem_cons_of_mem _ (List.mem_append_left _ (List.mem_append_right _ h))
theorem iwX4_keep_X8 : ∀ w ∈ wsX80, w ∈ wsX4_keep := fun _ h => List.mem_cons_of_mem _ (List.mem_append_right _ h)
/-- what is to hold at the entry of X4_keep -/
def B_X4_keep_e (h0 : Nat) (h1 : Nat) (Q : St → Prop) (Y : Nat → List Int32 → List Int64 → St → Prop)  (s0 : St) : Prop :=
  ((s0 h0 1) < 8 → (Y 31 [] [] s0)) ∧ (¬ (s0 h0 1) < 8 → (∀ s1, s1 = us s0 (h0 + 1) (va_cpy (s0 (h0 + 1)) (s0 (h0 + 1)) 9 0 63) → (∀ s2, s2 = us s1 h0 (upd (s1 h0) 1 7) → (Y 31 [] [] s2))))
/-- what is to hold at 31 of X4_keep -/
def B_X4_keep_31 (h0 : Nat) (h1 : Nat) (Q : St → Prop) (Y : Nat → List Int32 → List Int64 → St → Prop)  (s0 : St) : Prop :=
  ¬ ((s0 h0 1) * 9) < 0 ∧ (((s0 h0 1) * 9).toNatClampNeg + 7 ≤ 72 ∧ (∀ s1, s1 = us s0 (h0 + 1) (va_cpy (s0 (h1 + 4)) (s0 (h0 + 1)) 0 (((s0 h0 1) * 9).toNatClampNeg) 7) → (vp_in (((s0 h0 1) * 9) + 7) 72 ∧ (∀ s2, s2 = us s1 (h0 + 1) (upd (s1 (h0 + 1)) (((s0 h0 1) * 9) + 7).toNatClampNeg (s1 h1 10)) → (vp_in (((s0 h0 1) * 9) + 8) 72 ∧ (∀ s3, s3 = us s2 (h0 + 1) (upd (s2 (h0 + 1)) (((s0 h0 1) * 9) + 8).toNatClampNeg (s2 h1 11)) → (∀ s4, s4 = us s3 h0 (upd (s3 h0) 1 ((s3 h0 1) + 1)) → (Q s4))))))))
def T_X4_keep (h0 : Nat) (h1 : Nat) (Q : St → Prop) (Y : Nat → List Int32 → List Int64 → St → Prop) (P : Nat) (xs : List Int32) (ys : List Int64) (s0 : St) : Prop :=
  (P = 31 ∧ xs = [] ∧ ys = [] ∧ B_X4_keep_31 h0 h1 Q Y  s0)
def R_X4_keep (h0 : Nat) (h1 : Nat) (Q : St → Prop) : Nat → List Int32 → List Int64 → St → Prop := Fx (T_X4_keep h0 h1 Q)
theorem i_X4_keep_31 (h0 : Nat) (h1 : Nat) (Q : St → Prop)  (s0 : St) (h : B_X4_keep_31 h0 h1 Q (R_X4_keep h0 h1 Q)  s0) : R_X4_keep h0 h1 Q 31 [] [] s0 := Fx.intro (⟨rfl, rfl, rfl, h⟩)
def V_X4_keep (h0 : Nat) (h1 : Nat) (s0 : St) (Q : St → Prop) : Prop := B_X4_keep_e h0 h1 Q (R_X4_keep h0 h1 Q)  s0
theorem kX8_shutBit_1 : Cond.fieldLink RX8 43 "GloveRail$Street" "shut" "I" ∈ wsX8_shutBit := List.mem_of_getElem? (i := 1) rfl
theorem iwX8_shutBit_X8 : ∀ w ∈ wsX80, w ∈ wsX8_shutBit := fun _ h => List.mem_cons_of_mem _ (List.mem_append_right _ h)
/-- what is to hold at the entry of X8_shutBit -/
def B_X8_shutBit_e (h0 : Nat) (a1 : Int32) (Q : Int32 → St → Prop) (Y : Nat → List Int32 → List Int64 → St → Prop)  (s0 : St) : Prop :=
  Q (((s0 h0 10) >>> (a1 &&& 31)) &&& 1) s0
def T_X8_shutBit (h0 : Nat) (a1 : Int32) (Q : Int32 → St → Prop) (Y : Nat → List Int32 → List Int64 → St → Prop) (P : Nat) (xs : List Int32) (ys : List Int64) (s0 : St) : Prop :=
  False
def R_X8_shutBit (h0 : Nat) (a1 : Int32) (Q : Int32 → St → Prop) : Nat → List Int32 → List Int64 → St → Prop := Fx (T_X8_shutBit h0 a1 Q)
def V_X8_shutBit (h0 : Nat) (a1 : Int32) (s0 : St) (Q : Int32 → St → Prop) : Prop := B_X8_shutBit_e h0 a1 Q (R_X8_shutBit h0 a1 Q)  s0
theorem kX8_waitingBehind_1 : Cond.fieldLink RX8 36 "GloveRail$Street" "gloves" "I" ∈ wsX8_waitingBehind := List.mem_of_getElem? (i := 1) rfl
theorem kX8_waitingBehind_2 : Cond.fieldLink RX8 21 "GloveRail$Street" "spikes" "[I" ∈ wsX8_waitingBehind := List.mem_of_getElem? (i := 2) rfl
theorem kX8_waitingBehind_3 : Cond.fieldLink RX8 27 "GloveRail$Street" "crossingSpikes" "[I" ∈ wsX8_waitingBehind := List.mem_of_getElem? (i := 3) rfl
theorem iwX8_waitingBehind_X8 : ∀ w ∈ wsX80, w ∈ wsX8_waitingBehind := fun _ h => List.mem_cons_of_mem _ (List.mem_append_right _ h)
/-- what is to hold at the entry of X8_waitingBehind -/
def B_X8_waitingBehind_e (h0 : Nat) (a1 : Int32) (Q : Int32 → St → Prop) (Y : Nat → List Int32 → List Int64 → St → Prop)  (s0 : St) : Prop :=
  Y 4 [0, 0] [] s0
/-- what is to hold at 4 of X8_waitingBehind -/
def B_X8_waitingBehind_4 (h0 : Nat) (a1 : Int32) (Q : Int32 → St → Prop) (Y : Nat → List Int32 → List Int64 → St → Prop) (x2 : Int32) (x3 : Int32) (s0 : St) : Prop :=
  ((s0 h0 8) ≤ x3 → (Q x2 s0)) ∧ (¬ (s0 h0 8) ≤ x3 → (vp_in x3 8 ∧ (vp_in a1 3 ∧ ((¬ (s0 (h0 + 4) x3.toNatClampNeg) = (s0 (h0 + 6) a1.toNatClampNeg) → (Y 4 [x2, x3 + 1] [] s0)) ∧ ((s0 (h0 + 4) x3.toNatClampNeg) = (s0 (h0 + 6) a1.toNatClampNeg) → (Y 4 [x2 + 1, x3 + 1] [] s0))))))
def T_X8_waitingBehind (h0 : Nat) (a1 : Int32) (Q : Int32 → St → Prop) (Y : Nat → List Int32 → List Int64 → St → Prop) (P : Nat) (xs : List Int32) (ys : List Int64) (s0 : St) : Prop :=
  (P = 4 ∧ ∃ (x2 : Int32) (x3 : Int32), xs = [x2, x3] ∧ ys = [] ∧ B_X8_waitingBehind_4 h0 a1 Q Y x2 x3 s0)
def R_X8_waitingBehind (h0 : Nat) (a1 : Int32) (Q : Int32 → St → Prop) : Nat → List Int32 → List Int64 → St → Prop := Fx (T_X8_waitingBehind h0 a1 Q)
theorem i_X8_waitingBehind_4 (h0 : Nat) (a1 : Int32) (Q : Int32 → St → Prop) (x2 : Int32) (x3 : Int32) (s0 : St) (h : B_X8_waitingBehind_4 h0 a1 Q (R_X8_waitingBehind h0 a1 Q) x2 x3 s0) : R_X8_waitingBehind h0 a1 Q 4 [x2, x3] [] s0 := Fx.intro (⟨rfl, x2, x3, rfl, rfl, h⟩)
def V_X8_waitingBehind (h0 : Nat) (a1 : Int32) (s0 : St) (Q : Int32 → St → Prop) : Prop := B_X8_waitingBehind_e h0 a1 Q (R_X8_waitingBehind h0 a1 Q)  s0
/-- what is to hold at the entry of X1_letOver -/
def B_X1_letOver_e (a0 : Int32) (a1 : Int32) (a2 : Int32) (Q : Int32 → St → Prop) (Y : Nat → List Int32 → List Int64 → St → Prop)  (s0 : St) : Prop :=
  (¬ (a1 - a1 / 2 * 2) = 0 → (Y 11 [0] [] s0)) ∧ ((a1 - a1 / 2 * 2) = 0 → (Y 11 [2] [] s0))
/-- what is to hold at 11 of X1_letOver -/
def B_X1_letOver_11 (a0 : Int32) (a1 : Int32) (a2 : Int32) (Q : Int32 → St → Prop) (Y : Nat → List Int32 → List Int64 → St → Prop) (t0 : Int32) (s0 : St) : Prop :=
  (t0 ≤ 0 → (Y 23 [t0, 0] [] s0)) ∧ (¬ t0 ≤ 0 → (Y 23 [t0, t0 - 1] [] s0))
/-- what is to hold at 23 of X1_letOver -/
def B_X1_letOver_23 (a0 : Int32) (a1 : Int32) (a2 : Int32) (Q : Int32 → St → Prop) (Y : Nat → List Int32 → List Int64 → St → Prop) (x3 : Int32) (t0 : Int32) (s0 : St) : Prop :=
  (a0 = 1 → (Q t0 s0)) ∧ (¬ a0 = 1 → ((a0 = 2 → (Q (x3 + (a2 / 2)) s0)) ∧ (¬ a0 = 2 → ((a0 = 3 → ((a2 < 4 → (Q t0 s0)) ∧ (¬ a2 < 4 → (Q (t0 + 1) s0)))) ∧ (¬ a0 = 3 → ((a0 = 4 → (((a1 - a1 / 8 * 8) < 6 → (Q x3 s0)) ∧ (¬ (a1 - a1 / 8 * 8) < 6 → (Q a2 s0)))) ∧ (¬ a0 = 4 → ((a0 = 5 → ((¬ (a1 - a1 / 3 * 3) = 0 → (Q (x3 + (a2 / 2)) s0)) ∧ ((a1 - a1 / 3 * 3) = 0 → (Q 0 s0)))) ∧ (¬ a0 = 5 → (Q x3 s0))))))))))
def T_X1_letOver (a0 : Int32) (a1 : Int32) (a2 : Int32) (Q : Int32 → St → Prop) (Y : Nat → List Int32 → List Int64 → St → Prop) (P : Nat) (xs : List Int32) (ys : List Int64) (s0 : St) : Prop :=
  (P = 11 ∧ ∃ (t0 : Int32), xs = [t0] ∧ ys = [] ∧ B_X1_letOver_11 a0 a1 a2 Q Y t0 s0) ∨ (P = 23 ∧ ∃ (x3 : Int32) (t0 : Int32), xs = [x3, t0] ∧ ys = [] ∧ B_X1_letOver_23 a0 a1 a2 Q Y x3 t0 s0)
def R_X1_letOver (a0 : Int32) (a1 : Int32) (a2 : Int32) (Q : Int32 → St → Prop) : Nat → List Int32 → List Int64 → St → Prop := Fx (T_X1_letOver a0 a1 a2 Q)
theorem i_X1_letOver_11 (a0 : Int32) (a1 : Int32) (a2 : Int32) (Q : Int32 → St → Prop) (t0 : Int32) (s0 : St) (h : B_X1_letOver_11 a0 a1 a2 Q (R_X1_letOver a0 a1 a2 Q) t0 s0) : R_X1_letOver a0 a1 a2 Q 11 [t0] [] s0 := Fx.intro (Or.inl ⟨rfl, t0, rfl, rfl, h⟩)
theorem i_X1_letOver_23 (a0 : Int32) (a1 : Int32) (a2 : Int32) (Q : Int32 → St → Prop) (x3 : Int32) (t0 : Int32) (s0 : St) (h : B_X1_letOver_23 a0 a1 a2 Q (R_X1_letOver a0 a1 a2 Q) x3 t0 s0) : R_X1_letOver a0 a1 a2 Q 23 [x3, t0] [] s0 := Fx.intro (Or.inr (⟨rfl, x3, t0, rfl, rfl, h⟩))
def V_X1_letOver (a0 : Int32) (a1 : Int32) (a2 : Int32) (s0 : St) (Q : Int32 → St → Prop) : Prop := B_X1_letOver_e a0 a1 a2 Q (R_X1_letOver a0 a1 a2 Q)  s0
theorem kX8_letsNow_1 : Cond.fieldLink RX8 24 "GloveRail$Street" "crossingKinds" "[I" ∈ wsX8_letsNow := List.mem_of_getElem? (i := 1) rfl
theorem kX8_letsNow_2 : Cond.fieldLink RX8 46 "GloveRail$Street" "hour" "I" ∈ wsX8_letsNow := List.mem_of_getElem? (i := 2) rfl
theorem iwX8_letsNow_X8 : ∀ w ∈ wsX80, w ∈ wsX8_letsNow := fun _ h => List.mem_cons_of_mem _ (List.mem_append_right _ h)
/-- what is to hold at the entry of X8_letsNow -/
def B_X8_letsNow_e (h0 : Nat) (a1 : Int32) (Q : Int32 → St → Prop) (Y : Nat → List Int32 → List Int64 → St → Prop)  (s0 : St) : Prop :=
  V_X8_waitingBehind h0 a1 s0 (fun r1 s1 => (¬ r1 = 0 → (vp_in a1 3 ∧ (V_X1_letOver (s1 (h0 + 5) a1.toNatClampNeg) (s1 h0 11) r1 s1 (fun r2 s2 => Q r2 s2)))) ∧ (r1 = 0 → (Q 0 s1)))
def T_X8_letsNow (h0 : Nat) (a1 : Int32) (Q : Int32 → St → Prop) (Y : Nat → List Int32 → List Int64 → St → Prop) (P : Nat) (xs : List Int32) (ys : List Int64) (s0 : St) : Prop :=
  False
def R_X8_letsNow (h0 : Nat) (a1 : Int32) (Q : Int32 → St → Prop) : Nat → List Int32 → List Int64 → St → Prop := Fx (T_X8_letsNow h0 a1 Q)
def V_X8_letsNow (h0 : Nat) (a1 : Int32) (s0 : St) (Q : Int32 → St → Prop) : Prop := B_X8_letsNow_e h0 a1 Q (R_X8_letsNow h0 a1 Q)  s0
/-- what is to hold at the entry of X1_spikesGone -/
def B_X1_spikesGone_e (a0 : Int32) (a1 : Int32) (a2 : Int32) (Q : Int32 → St → Prop) (Y : Nat → List Int32 → List Int64 → St → Prop)  (s0 : St) : Prop :=
  (¬ a2 = 0 → (Y 13 [1, 1] [] s0)) ∧ (a2 = 0 → (Y 13 [1, 1 + 1] [] s0))
/-- what is to hold at 13 of X1_spikesGone -/
def B_X1_spikesGone_13 (a0 : Int32) (a1 : Int32) (a2 : Int32) (Q : Int32 → St → Prop) (Y : Nat → List Int32 → List Int64 → St → Prop) (x3 : Int32) (t0 : Int32) (s0 : St) : Prop :=
  (¬ (a1 - a1 / 2 * 2) = 0 → (Y 30 [x3, t0, t0] [] s0)) ∧ ((a1 - a1 / 2 * 2) = 0 → (Y 30 [x3, t0, 2 * t0] [] s0))
/-- what is to hold at 30 of X1_spikesGone -/
def B_X1_spikesGone_30 (a0 : Int32) (a1 : Int32) (a2 : Int32) (Q : Int32 → St → Prop) (Y : Nat → List Int32 → List Int64 → St → Prop) (x3 : Int32) (x4 : Int32) (t0 : Int32) (s0 : St) : Prop :=
  (a0 = 1 → (Q x4 s0)) ∧ (¬ a0 = 1 → ((a0 = 2 → ((a2 < 3 → (Q x3 s0)) ∧ (¬ a2 < 3 → (Q 0 s0)))) ∧ (¬ a0 = 2 → ((a0 = 3 → (Q t0 s0)) ∧ (¬ a0 = 3 → ((a0 = 4 → ((¬ (a1 - a1 / 5 * 5) = 0 → (Q x3 s0)) ∧ ((a1 - a1 / 5 * 5) = 0 → (Q (x3 + 3) s0)))) ∧ (¬ a0 = 4 → ((a0 = 5 → ((t0 ≤ a2 → (Q 0 s0)) ∧ (¬ t0 ≤ a2 → (Q (t0 - a2) s0)))) ∧ (¬ a0 = 5 → (Q x3 s0))))))))))
def T_X1_spikesGone (a0 : Int32) (a1 : Int32) (a2 : Int32) (Q : Int32 → St → Prop) (Y : Nat → List Int32 → List Int64 → St → Prop) (P : Nat) (xs : List Int32) (ys : List Int64) (s0 : St) : Prop :=
  (P = 13 ∧ ∃ (x3 : Int32) (t0 : Int32), xs = [x3, t0] ∧ ys = [] ∧ B_X1_spikesGone_13 a0 a1 a2 Q Y x3 t0 s0) ∨ (P = 30 ∧ ∃ (x3 : Int32) (x4 : Int32) (t0 : Int32), xs = [x3, x4, t0] ∧ ys = [] ∧ B_X1_spikesGone_30 a0 a1 a2 Q Y x3 x4 t0 s0)
def R_X1_spikesGone (a0 : Int32) (a1 : Int32) (a2 : Int32) (Q : Int32 → St → Prop) : Nat → List Int32 → List Int64 → St → Prop := Fx (T_X1_spikesGone a0 a1 a2 Q)
theorem i_X1_spikesGone_13 (a0 : Int32) (a1 : Int32) (a2 : Int32) (Q : Int32 → St → Prop) (x3 : Int32) (t0 : Int32) (s0 : St) (h : B_X1_spikesGone_13 a0 a1 a2 Q (R_X1_spikesGone a0 a1 a2 Q) x3 t0 s0) : R_X1_spikesGone a0 a1 a2 Q 13 [x3, t0] [] s0 := Fx.intro (Or.inl ⟨rfl, x3, t0, rfl, rfl, h⟩)
theorem i_X1_spikesGone_30 (a0 : Int32) (a1 : Int32) (a2 : Int32) (Q : Int32 → St → Prop) (x3 : Int32) (x4 : Int32) (t0 : Int32) (s0 : St) (h : B_X1_spikesGone_30 a0 a1 a2 Q (R_X1_spikesGone a0 a1 a2 Q) x3 x4 t0 s0) : R_X1_spikesGone a0 a1 a2 Q 30 [x3, x4, t0] [] s0 := Fx.intro (Or.inr (⟨rfl, x3, x4, t0, rfl, rfl, h⟩))
def V_X1_spikesGone (a0 : Int32) (a1 : Int32) (a2 : Int32) (s0 : St) (Q : Int32 → St → Prop) : Prop := B_X1_spikesGone_e a0 a1 a2 Q (R_X1_spikesGone a0 a1 a2 Q)  s0
theorem kX8_goesNow_1 : Cond.fieldLink RX8 15 "GloveRail$Street" "kinds" "[I" ∈ wsX8_goesNow := List.mem_of_getElem? (i := 1) rfl
theorem kX8_goesNow_2 : Cond.fieldLink RX8 46 "GloveRail$Street" "hour" "I" ∈ wsX8_goesNow := List.mem_of_getElem? (i := 2) rfl
theorem kX8_goesNow_3 : Cond.fieldLink RX8 11 "GloveRail$Street" "wets" "[I" ∈ wsX8_goesNow := List.mem_of_getElem? (i := 3) rfl
theorem iwX8_goesNow_X8 : ∀ w ∈ wsX80, w ∈ wsX8_goesNow := fun _ h => List.mem_cons_of_mem _ (List.mem_append_right _ h)
/-- what is to hold at the entry of X8_goesNow -/
def B_X8_goesNow_e (h0 : Nat) (a1 : Int32) (Q : Int32 → St → Prop) (Y : Nat → List Int32 → List Int64 → St → Prop)  (s0 : St) : Prop :=
  vp_in a1 8 ∧ (vp_in ((s0 h0 11) - (s0 h0 11) / 6 * 6) 6 ∧ (V_X1_spikesGone (s0 (h0 + 2) a1.toNatClampNeg) (s0 h0 11) (s0 (h0 + 1) ((s0 h0 11) - (s0 h0 11) / 6 * 6).toNatClampNeg) s0 (fun r1 s1 => Q r1 s1)))
def T_X8_goesNow (h0 : Nat) (a1 : Int32) (Q : Int32 → St → Prop) (Y : Nat → List Int32 → List Int64 → St → Prop) (P : Nat) (xs : List Int32) (ys : List Int64) (s0 : St) : Prop :=
  False
def R_X8_goesNow (h0 : Nat) (a1 : Int32) (Q : Int32 → St → Prop) : Nat → List Int32 → List Int64 → St → Prop := Fx (T_X8_goesNow h0 a1 Q)
def V_X8_goesNow (h0 : Nat) (a1 : Int32) (s0 : St) (Q : Int32 → St → Prop) : Prop := B_X8_goesNow_e h0 a1 Q (R_X8_goesNow h0 a1 Q)  s0
theorem kX8_waits_1 : Cond.fieldLink RX8 30 "GloveRail$Street" "behind" "[I" ∈ wsX8_waits := List.mem_of_getElem? (i := 1) rfl
theorem kX8_waits_2 : Cond.fieldLink RX8 21 "GloveRail$Street" "spikes" "[I" ∈ wsX8_waits := List.mem_of_getElem? (i := 2) rfl
theorem iwX8_waits_X8 : ∀ w ∈ wsX80, w ∈ wsX8_waits := fun _ h => List.mem_cons_of_mem _ (List.mem_append_right _ h)
/-- what is to hold at the entry of X8_waits -/
def B_X8_waits_e (h0 : Nat) (a1 : Int32) (Q : Int32 → St → Prop) (Y : Nat → List Int32 → List Int64 → St → Prop)  (s0 : St) : Prop :=
  vp_in a1 8 ∧ (vp_in (s0 (h0 + 4) a1.toNatClampNeg) 24 ∧ (((s0 (h0 + 7) (s0 (h0 + 4) a1.toNatClampNeg).toNatClampNeg) = 0 → (Q 0 s0)) ∧ (¬ (s0 (h0 + 7) (s0 (h0 + 4) a1.toNatClampNeg).toNatClampNeg) = 0 → (Q 1 s0))))
def T_X8_waits (h0 : Nat) (a1 : Int32) (Q : Int32 → St → Prop) (Y : Nat → List Int32 → List Int64 → St → Prop) (P : Nat) (xs : List Int32) (ys : List Int64) (s0 : St) : Prop :=
  False
def R_X8_waits (h0 : Nat) (a1 : Int32) (Q : Int32 → St → Prop) : Nat → List Int32 → List Int64 → St → Prop := Fx (T_X8_waits h0 a1 Q)
def V_X8_waits (h0 : Nat) (a1 : Int32) (s0 : St) (Q : Int32 → St → Prop) : Prop := B_X8_waits_e h0 a1 Q (R_X8_waits h0 a1 Q)  s0
theorem kX8_walk_1 : Cond.fieldLink RX8 21 "GloveRail$Street" "spikes" "[I" ∈ wsX8_walk := List.mem_of_getElem? (i := 1) rfl
theorem iwX8_walk_X8 : ∀ w ∈ wsX80, w ∈ wsX8_walk := fun _ h => List.mem_cons_of_mem _ (List.mem_append_right _ h)
/-- what is to hold at the entry of X8_walk -/
def B_X8_walk_e (h0 : Nat) (a1 : Int32) (a2 : Int32) (Q : St → Prop) (Y : Nat → List Int32 → List Int64 → St → Prop)  (s0 : St) : Prop :=
  Y 2 [0] [] s0
/-- what is to hold at 2 of X8_walk -/
def B_X8_walk_2 (h0 : Nat) (a1 : Int32) (a2 : Int32) (Q : St → Prop) (Y : Nat → List Int32 → List Int64 → St → Prop) (x3 : Int32) (s0 : St) : Prop :=
  (a2 ≤ x3 → (Q s0)) ∧ (¬ a2 ≤ x3 → (vp_in a1 8 ∧ ((23 ≤ (s0 (h0 + 4) a1.toNatClampNeg) → (Q s0)) ∧ (¬ 23 ≤ (s0 (h0 + 4) a1.toNatClampNeg) → (V_X8_waits h0 a1 s0 (fun r1 s1 => (¬ r1 = 0 → (Q s1)) ∧ (r1 = 0 → (vp_in a1 8 ∧ (vp_in a1 8 ∧ (∀ s2, s2 = us s1 (h0 + 4) (upd (s1 (h0 + 4)) a1.toNatClampNeg ((s1 (h0 + 4) a1.toNatClampNeg) + 1)) → (Y 2 [x3 + 1] [] s2)))))))))))
def T_X8_walk (h0 : Nat) (a1 : Int32) (a2 : Int32) (Q : St → Prop) (Y : Nat → List Int32 → List Int64 → St → Prop) (P : Nat) (xs : List Int32) (ys : List Int64) (s0 : St) : Prop :=
  (P = 2 ∧ ∃ (x3 : Int32), xs = [x3] ∧ ys = [] ∧ B_X8_walk_2 h0 a1 a2 Q Y x3 s0)
def R_X8_walk (h0 : Nat) (a1 : Int32) (a2 : Int32) (Q : St → Prop) : Nat → List Int32 → List Int64 → St → Prop := Fx (T_X8_walk h0 a1 a2 Q)
theorem i_X8_walk_2 (h0 : Nat) (a1 : Int32) (a2 : Int32) (Q : St → Prop) (x3 : Int32) (s0 : St) (h : B_X8_walk_2 h0 a1 a2 Q (R_X8_walk h0 a1 a2 Q) x3 s0) : R_X8_walk h0 a1 a2 Q 2 [x3] [] s0 := Fx.intro (⟨rfl, x3, rfl, rfl, h⟩)
def V_X8_walk (h0 : Nat) (a1 : Int32) (a2 : Int32) (s0 : St) (Q : St → Prop) : Prop := B_X8_walk_e h0 a1 a2 Q (R_X8_walk h0 a1 a2 Q)  s0
theorem kX8_passHour_1 : Cond.fieldLink RX8 40 "GloveRail$Street" "crossings" "I" ∈ wsX8_passHour := List.mem_of_getElem? (i := 1) rfl
theorem kX8_passHour_2 : Cond.fieldLink RX8 33 "GloveRail$Street" "passing" "[I" ∈ wsX8_passHour := List.mem_of_getElem? (i := 2) rfl
theorem kX8_passHour_3 : Cond.fieldLink RX8 36 "GloveRail$Street" "gloves" "I" ∈ wsX8_passHour := List.mem_of_getElem? (i := 3) rfl
theorem kX8_passHour_4 : Cond.fieldLink RX8 30 "GloveRail$Street" "behind" "[I" ∈ wsX8_passHour := List.mem_of_getElem? (i := 4) rfl
theorem kX8_passHour_5 : Cond.fieldLink RX8 21 "GloveRail$Street" "spikes" "[I" ∈ wsX8_passHour := List.mem_of_getElem? (i := 5) rfl
theorem kX8_passHour_6 : Cond.fieldLink RX8 46 "GloveRail$Street" "hour" "I" ∈ wsX8_passHour := List.mem_of_getElem? (i := 6) rfl
theorem iwX8_passHour_X8 : ∀ w ∈ wsX80, w ∈ wsX8_passHour := fun _ h => List.mem_cons_of_mem _ (List.mem_append_right _ h)
/-- what is to hold at the entry of X8_passHour -/
def B_X8_passHour_e (h0 : Nat) (Q : St → Prop) (Y : Nat → List Int32 → List Int64 → St → Prop)  (s0 : St) : Prop :=
  Y 2 [0] [] s0
/-- what is to hold at 2 of X8_passHour -/
def B_X8_passHour_2 (h0 : Nat) (Q : St → Prop) (Y : Nat → List Int32 → List Int64 → St → Prop) (x1 : Int32) (s0 : St) : Prop :=
  ((s0 h0 9) ≤ x1 → (Y 42 [0] [] s0)) ∧ (¬ (s0 h0 9) ≤ x1 → (V_X8_shutBit h0 x1 s0 (fun r1 s1 => (¬ r1 = 1 → (V_X8_letsNow h0 x1 s1 (fun r2 s2 => vp_in x1 3 ∧ (∀ s3, s3 = us s2 (h0 + 8) (upd (s2 (h0 + 8)) x1.toNatClampNeg r2) → (Y 2 [x1 + 1] [] s3))))) ∧ (r1 = 1 → (vp_in x1 3 ∧ (∀ s4, s4 = us s1 (h0 + 8) (upd (s1 (h0 + 8)) x1.toNatClampNeg 0) → (Y 2 [x1 + 1] [] s4)))))))
/-- what is to hold at 42 of X8_passHour -/
def B_X8_passHour_42 (h0 : Nat) (Q : St → Prop) (Y : Nat → List Int32 → List Int64 → St → Prop) (x1 : Int32) (s0 : St) : Prop :=
  ((s0 h0 8) ≤ x1 → (∀ s1, s1 = us s0 h0 (upd (s0 h0) 11 ((s0 h0 11) + 1)) → (Q s1))) ∧ (¬ (s0 h0 8) ≤ x1 → (vp_in x1 8 ∧ (vp_in (s0 (h0 + 4) x1.toNatClampNeg) 24 ∧ (∀ v2, v2 = (s0 (h0 + 7) (s0 (h0 + 4) x1.toNatClampNeg).toNatClampNeg) - 1 → ((¬ v2 = ((-1)) → (vp_in v2 3 ∧ (((s0 (h0 + 8) v2.toNatClampNeg) ≤ 0 → (Y 42 [x1 + 1] [] s0)) ∧ (¬ (s0 (h0 + 8) v2.toNatClampNeg) ≤ 0 → (vp_in v2 3 ∧ (vp_in v2 3 ∧ (∀ s3, s3 = us s0 (h0 + 8) (upd (s0 (h0 + 8)) v2.toNatClampNeg ((s0 (h0 + 8) v2.toNatClampNeg) - 1)) → (vp_in x1 8 ∧ (vp_in x1 8 ∧ (∀ s4, s4 = us s3 (h0 + 4) (upd (s3 (h0 + 4)) x1.toNatClampNeg ((s3 (h0 + 4) x1.toNatClampNeg) + 1)) → (Y 42 [x1 + 1] [] s4))))))))))) ∧ (v2 = ((-1)) → (V_X8_goesNow h0 x1 s0 (fun r5 s5 => V_X8_walk h0 x1 r5 s5 (fun s6 => Y 42 [x1 + 1] [] s6)))))))))
def T_X8_passHour (h0 : Nat) (Q : St → Prop) (Y : Nat → List Int32 → List Int64 → St → Prop) (P : Nat) (xs : List Int32) (ys : List Int64) (s0 : St) : Prop :=
  (P = 2 ∧ ∃ (x1 : Int32), xs = [x1] ∧ ys = [] ∧ B_X8_passHour_2 h0 Q Y x1 s0) ∨ (P = 42 ∧ ∃ (x1 : Int32), xs = [x1] ∧ ys = [] ∧ B_X8_passHour_42 h0 Q Y x1 s0)
def R_X8_passHour (h0 : Nat) (Q : St → Prop) : Nat → List Int32 → List Int64 → St → Prop := Fx (T_X8_passHour h0 Q)
theorem i_X8_passHour_2 (h0 : Nat) (Q : St → Prop) (x1 : Int32) (s0 : St) (h : B_X8_passHour_2 h0 Q (R_X8_passHour h0 Q) x1 s0) : R_X8_passHour h0 Q 2 [x1] [] s0 := Fx.intro (Or.inl ⟨rfl, x1, rfl, rfl, h⟩)
theorem i_X8_passHour_42 (h0 : Nat) (Q : St → Prop) (x1 : Int32) (s0 : St) (h : B_X8_passHour_42 h0 Q (R_X8_passHour h0 Q) x1 s0) : R_X8_passHour h0 Q 42 [x1] [] s0 := Fx.intro (Or.inr (⟨rfl, x1, rfl, rfl, h⟩))
def V_X8_passHour (h0 : Nat) (s0 : St) (Q : St → Prop) : Prop := B_X8_passHour_e h0 Q (R_X8_passHour h0 Q)  s0
/-- what is to hold at the entry of X8_pass -/
def B_X8_pass_e (h0 : Nat) (a1 : Int32) (Q : St → Prop) (Y : Nat → List Int32 → List Int64 → St → Prop)  (s0 : St) : Prop :=
  Y 2 [0] [] s0
/-- what is to hold at 2 of X8_pass -/
def B_X8_pass_2 (h0 : Nat) (a1 : Int32) (Q : St → Prop) (Y : Nat → List Int32 → List Int64 → St → Prop) (x2 : Int32) (s0 : St) : Prop :=
  (a1 ≤ x2 → (Q s0)) ∧ (¬ a1 ≤ x2 → (V_X8_passHour h0 s0 (fun s1 => Y 2 [x2 + 1] [] s1)))
def T_X8_pass (h0 : Nat) (a1 : Int32) (Q : St → Prop) (Y : Nat → List Int32 → List Int64 → St → Prop) (P : Nat) (xs : List Int32) (ys : List Int64) (s0 : St) : Prop :=
  (P = 2 ∧ ∃ (x2 : Int32), xs = [x2] ∧ ys = [] ∧ B_X8_pass_2 h0 a1 Q Y x2 s0)
def R_X8_pass (h0 : Nat) (a1 : Int32) (Q : St → Prop) : Nat → List Int32 → List Int64 → St → Prop := Fx (T_X8_pass h0 a1 Q)
theorem i_X8_pass_2 (h0 : Nat) (a1 : Int32) (Q : St → Prop) (x2 : Int32) (s0 : St) (h : B_X8_pass_2 h0 a1 Q (R_X8_pass h0 a1 Q) x2 s0) : R_X8_pass h0 a1 Q 2 [x2] [] s0 := Fx.intro (⟨rfl, x2, rfl, rfl, h⟩)
def V_X8_pass (h0 : Nat) (a1 : Int32) (s0 : St) (Q : St → Prop) : Prop := B_X8_pass_e h0 a1 Q (R_X8_pass h0 a1 Q)  s0
theorem kX8_over_1 : Cond.fieldLink RX8 36 "GloveRail$Street" "gloves" "I" ∈ wsX8_over := List.mem_of_getElem? (i := 1) rfl
theorem kX8_over_2 : Cond.fieldLink RX8 21 "GloveRail$Street" "spikes" "[I" ∈ wsX8_over := List.mem_of_getElem? (i := 2) rfl
theorem iwX8_over_X8 : ∀ w ∈ wsX80, w ∈ wsX8_over := fun _ h => List.mem_cons_of_mem _ (List.mem_append_right _ h)
/-- what is to hold at the entry of X8_over -/
def B_X8_over_e (h0 : Nat) (Q : Int32 → St → Prop) (Y : Nat → List Int32 → List Int64 → St → Prop)  (s0 : St) : Prop :=
  Y 4 [0, 0] [] s0
/-- what is to hold at 4 of X8_over -/
def B_X8_over_4 (h0 : Nat) (Q : Int32 → St → Prop) (Y : Nat → List Int32 → List Int64 → St → Prop) (x1 : Int32) (x2 : Int32) (s0 : St) : Prop :=
  ((s0 h0 8) ≤ x2 → (Q x1 s0)) ∧ (¬ (s0 h0 8) ≤ x2 → (vp_in x2 8 ∧ ((¬ (s0 (h0 + 4) x2.toNatClampNeg) = 23 → (Y 4 [x1, x2 + 1] [] s0)) ∧ ((s0 (h0 + 4) x2.toNatClampNeg) = 23 → (Y 4 [x1 + 1, x2 + 1] [] s0)))))
def T_X8_over (h0 : Nat) (Q : Int32 → St → Prop) (Y : Nat → List Int32 → List Int64 → St → Prop) (P : Nat) (xs : List Int32) (ys : List Int64) (s0 : St) : Prop :=
  (P = 4 ∧ ∃ (x1 : Int32) (x2 : Int32), xs = [x1, x2] ∧ ys = [] ∧ B_X8_over_4 h0 Q Y x1 x2 s0)
def R_X8_over (h0 : Nat) (Q : Int32 → St → Prop) : Nat → List Int32 → List Int64 → St → Prop := Fx (T_X8_over h0 Q)
theorem i_X8_over_4 (h0 : Nat) (Q : Int32 → St → Prop) (x1 : Int32) (x2 : Int32) (s0 : St) (h : B_X8_over_4 h0 Q (R_X8_over h0 Q) x1 x2 s0) : R_X8_over h0 Q 4 [x1, x2] [] s0 := Fx.intro (⟨rfl, x1, x2, rfl, rfl, h⟩)
def V_X8_over (h0 : Nat) (s0 : St) (Q : Int32 → St → Prop) : Prop := B_X8_over_e h0 Q (R_X8_over h0 Q)  s0
theorem kX10_hours_1 : Cond.fieldLink RX10 10 "GloveRail" "now" "LGloveRail$Scene;" ∈ wsX10_hours := List.mem_of_getElem? (i := 1) rfl
theorem kX10_hours_2 : Cond.fieldLink RX10 81 "GloveRail$Scene" "past" "LGloveRail$Past;" ∈ wsX10_hours := List.mem_of_getElem? (i := 2) rfl
theorem kX10_hours_3 : Cond.fieldLink RX10 57 "GloveRail$Scene" "street" "LGloveRail$Street;" ∈ wsX10_hours := List.mem_of_getElem? (i := 3) rfl
theorem kX10_hours_4 : Cond.fieldLink RX10 137 "GloveRail$Street" "hour" "I" ∈ wsX10_hours := List.mem_of_getElem? (i := 4) rfl
theorem kX10_hours_5 : Cond.methodLink RX10 140 Lib.Math.min.name ∈ wsX10_hours := List.mem_of_getElem? (i := 5) rfl
theorem kX10_hours_6 : Cond.static Lib.Math.min.name ∈ wsX10_hours := List.mem_of_getElem? (i := 6) rfl
theorem kX10_hours_7 : Cond.initialized "java/lang/Math" ∈ wsX10_hours := List.mem_of_getElem? (i := 7) rfl
theorem kX10_hours_8 : Cond.code Lib.Math.min.name Lib.Math.min.code 2 (some .int) ∈ wsX10_hours := List.mem_of_getElem? (i := 8) rfl
theorem iwX10_hours_X10 : ∀ w ∈ wsX100, w ∈ wsX10_hours := fun _ h => List.mem_cons_of_mem _ (List.mem_append_left _ (List.mem_append_left _ (List.mem_append_left _ (List.mem_append_right _ h))))
theorem iwX10_hours_X7 : ∀ w ∈ wsX70, w ∈ wsX10_hours := fun _ h => List.mem_cons_of_mem _ (List.mem_append_left _ (List.mem_append_left _ (List.mem_append_right _ h)))
theorem iwX10_hours_X8 : ∀ w ∈ wsX80, w ∈ wsX10_hours := fun _ h => List.mem_cons_of_mem _ (List.mem_append_left _ (List.mem_append_right _ h))
/-- what is to hold at the entry of X10_hours -/
def B_X10_hours_e (a1 : Int32) (Q : Int32 → St → Prop) (Y : Nat → List Int32 → List Int64 → St → Prop)  (s0 : St) : Prop :=
  V_X10_within a1 1 60 s0 (fun r1 s1 => (¬ r1 = 0 → (V_X4_keep 11 2 s1 (fun s2 => V_X8_pass 2 ((if (9999 - (s2 2 11)) < a1 then (9999 - (s2 2 11)) else a1)) s2 (fun s3 => V_X8_over 2 s3 (fun r4 s4 => Q r4 s4))))) ∧ (r1 = 0 → (V_X10_bad  s1 (fun r5 s5 => Q r5 s5))))
def T_X10_hours (a1 : Int32) (Q : Int32 → St → Prop) (Y : Nat → List Int32 → List Int64 → St → Prop) (P : Nat) (xs : List Int32) (ys : List Int64) (s0 : St) : Prop :=
  False
def R_X10_hours (a1 : Int32) (Q : Int32 → St → Prop) : Nat → List Int32 → List Int64 → St → Prop := Fx (T_X10_hours a1 Q)
def V_X10_hours (a1 : Int32) (s0 : St) (Q : Int32 → St → Prop) : Prop := B_X10_hours_e a1 Q (R_X10_hours a1 Q)  s0
theorem kX10_isCrossing_1 : Cond.fieldLink RX10 10 "GloveRail" "now" "LGloveRail$Scene;" ∈ wsX10_isCrossing := List.mem_of_getElem? (i := 1) rfl
theorem kX10_isCrossing_2 : Cond.fieldLink RX10 57 "GloveRail$Scene" "street" "LGloveRail$Street;" ∈ wsX10_isCrossing := List.mem_of_getElem? (i := 2) rfl
theorem kX10_isCrossing_3 : Cond.fieldLink RX10 104 "GloveRail$Street" "crossings" "I" ∈ wsX10_isCrossing := List.mem_of_getElem? (i := 3) rfl
theorem iwX10_isCrossing_X10 : ∀ w ∈ wsX100, w ∈ wsX10_isCrossing := fun _ h => List.mem_cons_of_mem _ (List.mem_append_left _ (List.mem_append_left _ (List.mem_append_right _ h)))
theorem iwX10_isCrossing_X7 : ∀ w ∈ wsX70, w ∈ wsX10_isCrossing := fun _ h => List.mem_cons_of_mem _ (List.mem_append_left _ (List.mem_append_right _ h))
theorem iwX10_isCrossing_X8 : ∀ w ∈ wsX80, w ∈ wsX10_isCrossing := fun _ h => List.mem_cons_of_mem _ (List.mem_append_right _ h)
/-- what is to hold at the entry of X10_isCrossing -/
def B_X10_isCrossing_e (a1 : Int32) (Q : Int32 → St → Prop) (Y : Nat → List Int32 → List Int64 → St → Prop)  (s0 : St) : Prop :=
  V_X10_within a1 0 ((s0 2 9) - 1) s0 (fun r1 s1 => Q r1 s1)
def T_X10_isCrossing (a1 : Int32) (Q : Int32 → St → Prop) (Y : Nat → List Int32 → List Int64 → St → Prop) (P : Nat) (xs : List Int32) (ys : List Int64) (s0 : St) : Prop :=
  False
def R_X10_isCrossing (a1 : Int32) (Q : Int32 → St → Prop) : Nat → List Int32 → List Int64 → St → Prop := Fx (T_X10_isCrossing a1 Q)
def V_X10_isCrossing (a1 : Int32) (s0 : St) (Q : Int32 → St → Prop) : Prop := B_X10_isCrossing_e a1 Q (R_X10_isCrossing a1 Q)  s0
theorem kX8_turn_1 : Cond.fieldLink RX8 43 "GloveRail$Street" "shut" "I" ∈ wsX8_turn := List.mem_of_getElem? (i := 1) rfl
theorem iwX8_turn_X8 : ∀ w ∈ wsX80, w ∈ wsX8_turn := fun _ h => List.mem_cons_of_mem _ (List.mem_append_right _ h)
/-- what is to hold at the entry of X8_turn -/
def B_X8_turn_e (h0 : Nat) (a1 : Int32) (Q : St → Prop) (Y : Nat → List Int32 → List Int64 → St → Prop)  (s0 : St) : Prop :=
  ∀ s1, s1 = us s0 h0 (upd (s0 h0) 10 ((s0 h0 10) ^^^ ((1 : Int32) <<< (a1 &&& 31)))) → (Q s1)
def T_X8_turn (h0 : Nat) (a1 : Int32) (Q : St → Prop) (Y : Nat → List Int32 → List Int64 → St → Prop) (P : Nat) (xs : List Int32) (ys : List Int64) (s0 : St) : Prop :=
  False
def R_X8_turn (h0 : Nat) (a1 : Int32) (Q : St → Prop) : Nat → List Int32 → List Int64 → St → Prop := Fx (T_X8_turn h0 a1 Q)
def V_X8_turn (h0 : Nat) (a1 : Int32) (s0 : St) (Q : St → Prop) : Prop := B_X8_turn_e h0 a1 Q (R_X8_turn h0 a1 Q)  s0
theorem kX10_shuts_1 : Cond.fieldLink RX10 10 "GloveRail" "now" "LGloveRail$Scene;" ∈ wsX10_shuts := List.mem_of_getElem? (i := 1) rfl
theorem kX10_shuts_2 : Cond.fieldLink RX10 81 "GloveRail$Scene" "past" "LGloveRail$Past;" ∈ wsX10_shuts := List.mem_of_getElem? (i := 2) rfl
theorem kX10_shuts_3 : Cond.fieldLink RX10 57 "GloveRail$Scene" "street" "LGloveRail$Street;" ∈ wsX10_shuts := List.mem_of_getElem? (i := 3) rfl
theorem iwX10_shuts_X10 : ∀ w ∈ wsX100, w ∈ wsX10_shuts := fun _ h => List.mem_cons_of_mem _ (List.mem_append_left _ (List.mem_append_left _ (List.mem_append_left _ (List.mem_append_right _ h))))
theorem iwX10_shuts_X7 : ∀ w ∈ wsX70, w ∈ wsX10_shuts := fun _ h => List.mem_cons_of_mem _ (List.mem_append_left _ (List.mem_append_left _ (List.mem_append_right _ h)))
/-- what is to hold at the entry of X10_shuts -/
def B_X10_shuts_e (a1 : Int32) (Q : Int32 → St → Prop) (Y : Nat → List Int32 → List Int64 → St → Prop)  (s0 : St) : Prop :=
  V_X10_isCrossing a1 s0 (fun r1 s1 => (¬ r1 = 0 → (V_X4_keep 11 2 s1 (fun s2 => V_X8_turn 2 a1 s2 (fun s3 => V_X8_shutBit 2 a1 s3 (fun r4 s4 => Q r4 s4))))) ∧ (r1 = 0 → (V_X10_bad  s1 (fun r5 s5 => Q r5 s5))))
def T_X10_shuts (a1 : Int32) (Q : Int32 → St → Prop) (Y : Nat → List Int32 → List Int64 → St → Prop) (P : Nat) (xs : List Int32) (ys : List Int64) (s0 : St) : Prop :=
  False
def R_X10_shuts (a1 : Int32) (Q : Int32 → St → Prop) : Nat → List Int32 → List Int64 → St → Prop := Fx (T_X10_shuts a1 Q)
def V_X10_shuts (a1 : Int32) (s0 : St) (Q : Int32 → St → Prop) : Prop := B_X10_shuts_e a1 Q (R_X10_shuts a1 Q)  s0
theorem kX10_no_1 : Cond.fieldLink RX10 314 "GloveRail" "noes" "I" ∈ wsX10_no := List.mem_of_getElem? (i := 1) rfl
theorem iwX10_no_X10 : ∀ w ∈ wsX100, w ∈ wsX10_no := fun _ h => List.mem_cons_of_mem _ (List.mem_append_right _ h)
/-- what is to hold at the entry of X10_no -/
def B_X10_no_e  (Q : Int32 → St → Prop) (Y : Nat → List Int32 → List Int64 → St → Prop)  (s0 : St) : Prop :=
  ∀ s1, s1 = us s0 0 (upd (s0 0) 11 ((s0 0 11) + 1)) → (Q ((-3)) s1)
def T_X10_no  (Q : Int32 → St → Prop) (Y : Nat → List Int32 → List Int64 → St → Prop) (P : Nat) (xs : List Int32) (ys : List Int64) (s0 : St) : Prop :=
  False
def R_X10_no  (Q : Int32 → St → Prop) : Nat → List Int32 → List Int64 → St → Prop := Fx (T_X10_no  Q)
def V_X10_no  (s0 : St) (Q : Int32 → St → Prop) : Prop := B_X10_no_e  Q (R_X10_no  Q)  s0
theorem kX4_bringBack_1 : Cond.fieldLink RX4 21 "GloveRail$Past" "size" "I" ∈ wsX4_bringBack := List.mem_of_getElem? (i := 1) rfl
theorem kX4_bringBack_2 : Cond.fieldLink RX4 11 "GloveRail$Past" "cells" "[I" ∈ wsX4_bringBack := List.mem_of_getElem? (i := 2) rfl
theorem kX4_bringBack_3 : Cond.fieldLink RX4 25 "GloveRail$Street" "spikes" "[I" ∈ wsX4_bringBack := List.mem_of_getElem? (i := 3) rfl
theorem kX4_bringBack_4 : Cond.methodLink RX4 15 arraycopyName ∈ wsX4_bringBack := List.mem_of_getElem? (i := 4) rfl
theorem kX4_bringBack_5 : Cond.native arraycopyName ∈ wsX4_bringBack := List.mem_of_getElem? (i := 5) rfl
theorem kX4_bringBack_6 : Cond.static arraycopyName ∈ wsX4_bringBack := List.mem_of_getElem? (i := 6) rfl
theorem kX4_bringBack_7 : Cond.initialized "java/lang/System" ∈ wsX4_bringBack := List.mem_of_getElem? (i := 7) rfl
theorem kX4_bringBack_8 : Cond.fieldLink RX4 28 "GloveRail$Street" "shut" "I" ∈ wsX4_bringBack := List.mem_of_getElem? (i := 8) rfl
theorem kX4_bringBack_9 : Cond.fieldLink RX4 31 "GloveRail$Street" "hour" "I" ∈ wsX4_bringBack := List.mem_of_getElem? (i := 9) rfl
theorem iwX4_bringBack_X4 : ∀ w ∈ wsX40, w ∈ wsX4_bringBack := fun _ h => List.mem_cons_of_mem _ (List.mem_append_left _ (List.mem_append_right _ h))
theorem iwX4_bringBack_X8 : ∀ w ∈ wsX80, w ∈ wsX4_bringBack := fun _ h => List.mem_cons_of_mem _ (List.mem_append_right _ h)
/-- what is to hold at the entry of X4_bringBack -/
def B_X4_bringBack_e (h0 : Nat) (h1 : Nat) (Q : St → Prop) (Y : Nat → List Int32 → List Int64 → St → Prop)  (s0 : St) : Prop :=
  (0 < (s0 h0 1) → (∀ s1, s1 = us s0 h0 (upd (s0 h0) 1 ((s0 h0 1) - 1)) → (¬ ((s1 h0 1) * 9) < 0 ∧ (((s1 h0 1) * 9).toNatClampNeg + 7 ≤ 72 ∧ (∀ s2, s2 = us s1 (h1 + 4) (va_cpy (s1 (h0 + 1)) (s1 (h1 + 4)) (((s1 h0 1) * 9).toNatClampNeg) 0 7) → (vp_in (((s1 h0 1) * 9) + 7) 72 ∧ (∀ s3, s3 = us s2 h1 (upd (s2 h1) 10 (s2 (h0 + 1) (((s1 h0 1) * 9) + 7).toNatClampNeg)) → (vp_in (((s1 h0 1) * 9) + 8) 72 ∧ (∀ s4, s4 = us s3 h1 (upd (s3 h1) 11 (s3 (h0 + 1) (((s1 h0 1) * 9) + 8).toNatClampNeg)) → (Q s4)))))))))) ∧ (¬ 0 < (s0 h0 1) → (Q s0))
def T_X4_bringBack (h0 : Nat) (h1 : Nat) (Q : St → Prop) (Y : Nat → List Int32 → List Int64 → St → Prop) (P : Nat) (xs : List Int32) (ys : List Int64) (s0 : St) : Prop :=
  False
def R_X4_bringBack (h0 : Nat) (h1 : Nat) (Q : St → Prop) : Nat → List Int32 → List Int64 → St → Prop := Fx (T_X4_bringBack h0 h1 Q)
def V_X4_bringBack (h0 : Nat) (h1 : Nat) (s0 : St) (Q : St → Prop) : Prop := B_X4_bringBack_e h0 h1 Q (R_X4_bringBack h0 h1 Q)  s0
theorem kX10_undo_1 : Cond.fieldLink RX10 10 "GloveRail" "now" "LGloveRail$Scene;" ∈ wsX10_undo := List.mem_of_getElem? (i := 1) rfl
theorem kX10_undo_2 : Cond.fieldLink RX10 81 "GloveRail$Scene" "past" "LGloveRail$Past;" ∈ wsX10_undo := List.mem_of_getElem? (i := 2) rfl
theorem kX10_undo_3 : Cond.fieldLink RX10 85 "GloveRail$Past" "size" "I" ∈ wsX10_undo := List.mem_of_getElem? (i := 3) rfl
theorem kX10_undo_4 : Cond.fieldLink RX10 57 "GloveRail$Scene" "street" "LGloveRail$Street;" ∈ wsX10_undo := List.mem_of_getElem? (i := 4) rfl
theorem kX10_undo_5 : Cond.fieldLink RX10 137 "GloveRail$Street" "hour" "I" ∈ wsX10_undo := List.mem_of_getElem? (i := 5) rfl
theorem iwX10_undo_X10 : ∀ w ∈ wsX100, w ∈ wsX10_undo := fun _ h => List.mem_cons_of_mem _ (List.mem_append_left _ (List.mem_append_left _ (List.mem_append_left _ (List.mem_append_right _ h))))
theorem iwX10_undo_X4 : ∀ w ∈ wsX40, w ∈ wsX10_undo := fun _ h => List.mem_cons_of_mem _ (List.mem_append_left _ (List.mem_append_right _ h))
theorem iwX10_undo_X7 : ∀ w ∈ wsX70, w ∈ wsX10_undo := fun _ h => List.mem_cons_of_mem _ (List.mem_append_left _ (List.mem_append_left _ (List.mem_append_right _ h)))
theorem iwX10_undo_X8 : ∀ w ∈ wsX80, w ∈ wsX10_undo := fun _ h => List.mem_cons_of_mem _ (List.mem_append_right _ h)
/-- what is to hold at the entry of X10_undo -/
def B_X10_undo_e  (Q : Int32 → St → Prop) (Y : Nat → List Int32 → List Int64 → St → Prop)  (s0 : St) : Prop :=
  (¬ (s0 11 1) = 0 → (V_X4_bringBack 11 2 s0 (fun s1 => Q (s1 2 11) s1))) ∧ ((s0 11 1) = 0 → (V_X10_no  s0 (fun r2 s2 => Q r2 s2)))
def T_X10_undo  (Q : Int32 → St → Prop) (Y : Nat → List Int32 → List Int64 → St → Prop) (P : Nat) (xs : List Int32) (ys : List Int64) (s0 : St) : Prop :=
  False
def R_X10_undo  (Q : Int32 → St → Prop) : Nat → List Int32 → List Int64 → St → Prop := Fx (T_X10_undo  Q)
def V_X10_undo  (s0 : St) (Q : Int32 → St → Prop) : Prop := B_X10_undo_e  Q (R_X10_undo  Q)  s0
theorem kX10_isGlove_1 : Cond.fieldLink RX10 10 "GloveRail" "now" "LGloveRail$Scene;" ∈ wsX10_isGlove := List.mem_of_getElem? (i := 1) rfl
theorem kX10_isGlove_2 : Cond.fieldLink RX10 57 "GloveRail$Scene" "street" "LGloveRail$Street;" ∈ wsX10_isGlove := List.mem_of_getElem? (i := 2) rfl
theorem kX10_isGlove_3 : Cond.fieldLink RX10 61 "GloveRail$Street" "gloves" "I" ∈ wsX10_isGlove := List.mem_of_getElem? (i := 3) rfl
theorem iwX10_isGlove_X10 : ∀ w ∈ wsX100, w ∈ wsX10_isGlove := fun _ h => List.mem_cons_of_mem _ (List.mem_append_left _ (List.mem_append_left _ (List.mem_append_right _ h)))
theorem iwX10_isGlove_X7 : ∀ w ∈ wsX70, w ∈ wsX10_isGlove := fun _ h => List.mem_cons_of_mem _ (List.mem_append_left _ (List.mem_append_right _ h))
theorem iwX10_isGlove_X8 : ∀ w ∈ wsX80, w ∈ wsX10_isGlove := fun _ h => List.mem_cons_of_mem _ (List.mem_append_right _ h)
/-- what is to hold at the entry of X10_isGlove -/
def B_X10_isGlove_e (a1 : Int32) (Q : Int32 → St → Prop) (Y : Nat → List Int32 → List Int64 → St → Prop)  (s0 : St) : Prop :=
  V_X10_within a1 0 ((s0 2 8) - 1) s0 (fun r1 s1 => Q r1 s1)
def T_X10_isGlove (a1 : Int32) (Q : Int32 → St → Prop) (Y : Nat → List Int32 → List Int64 → St → Prop) (P : Nat) (xs : List Int32) (ys : List Int64) (s0 : St) : Prop :=
  False
def R_X10_isGlove (a1 : Int32) (Q : Int32 → St → Prop) : Nat → List Int32 → List Int64 → St → Prop := Fx (T_X10_isGlove a1 Q)
def V_X10_isGlove (a1 : Int32) (s0 : St) (Q : Int32 → St → Prop) : Prop := B_X10_isGlove_e a1 Q (R_X10_isGlove a1 Q)  s0
theorem kX10_of_1 : Cond.fieldLink RX10 10 "GloveRail" "now" "LGloveRail$Scene;" ∈ wsX10_of := List.mem_of_getElem? (i := 1) rfl
theorem kX10_of_2 : Cond.fieldLink RX10 57 "GloveRail$Scene" "street" "LGloveRail$Street;" ∈ wsX10_of := List.mem_of_getElem? (i := 2) rfl
theorem kX10_of_3 : Cond.fieldLink RX10 170 "GloveRail$Street" "kinds" "[I" ∈ wsX10_of := List.mem_of_getElem? (i := 3) rfl
theorem kX10_of_4 : Cond.fieldLink RX10 173 "GloveRail$Street" "marks" "[I" ∈ wsX10_of := List.mem_of_getElem? (i := 4) rfl
theorem kX10_of_5 : Cond.fieldLink RX10 176 "GloveRail$Street" "spikes" "[I" ∈ wsX10_of := List.mem_of_getElem? (i := 5) rfl
theorem iwX10_of_X10 : ∀ w ∈ wsX100, w ∈ wsX10_of := fun _ h => List.mem_cons_of_mem _ (List.mem_append_left _ (List.mem_append_left _ (List.mem_append_right _ h)))
theorem iwX10_of_X7 : ∀ w ∈ wsX70, w ∈ wsX10_of := fun _ h => List.mem_cons_of_mem _ (List.mem_append_left _ (List.mem_append_right _ h))
theorem iwX10_of_X8 : ∀ w ∈ wsX80, w ∈ wsX10_of := fun _ h => List.mem_cons_of_mem _ (List.mem_append_right _ h)
/-- what is to hold at the entry of X10_of -/
def B_X10_of_e (a1 : Int32) (a2 : Int32) (Q : Int32 → St → Prop) (Y : Nat → List Int32 → List Int64 → St → Prop)  (s0 : St) : Prop :=
  V_X10_isGlove a1 s0 (fun r1 s1 => (¬ r1 = 0 → ((a2 = 0 → (vp_in a1 8 ∧ (Q (s1 4 a1.toNatClampNeg) s1))) ∧ (¬ a2 = 0 → ((a2 = 1 → (vp_in a1 8 ∧ (Q (s1 5 a1.toNatClampNeg) s1))) ∧ (¬ a2 = 1 → ((a2 = 2 → (vp_in a1 8 ∧ (Q (s1 6 a1.toNatClampNeg) s1))) ∧ (¬ a2 = 2 → ((a2 = 3 → (V_X8_waits 2 a1 s1 (fun r2 s2 => (r2 = 0 → (Q 0 s2)) ∧ (¬ r2 = 0 → (Q 1 s2))))) ∧ (¬ a2 = 3 → ((a2 = 4 → (V_X8_goesNow 2 a1 s1 (fun r3 s3 => Q r3 s3))) ∧ (¬ a2 = 4 → (V_X10_bad  s1 (fun r4 s4 => Q r4 s4))))))))))))) ∧ (r1 = 0 → (V_X10_bad  s1 (fun r5 s5 => Q r5 s5))))
def T_X10_of (a1 : Int32) (a2 : Int32) (Q : Int32 → St → Prop) (Y : Nat → List Int32 → List Int64 → St → Prop) (P : Nat) (xs : List Int32) (ys : List Int64) (s0 : St) : Prop :=
  False
def R_X10_of (a1 : Int32) (a2 : Int32) (Q : Int32 → St → Prop) : Nat → List Int32 → List Int64 → St → Prop := Fx (T_X10_of a1 a2 Q)
def V_X10_of (a1 : Int32) (a2 : Int32) (s0 : St) (Q : Int32 → St → Prop) : Prop := B_X10_of_e a1 a2 Q (R_X10_of a1 a2 Q)  s0
theorem kX10_about_1 : Cond.fieldLink RX10 10 "GloveRail" "now" "LGloveRail$Scene;" ∈ wsX10_about := List.mem_of_getElem? (i := 1) rfl
theorem kX10_about_2 : Cond.fieldLink RX10 57 "GloveRail$Scene" "street" "LGloveRail$Street;" ∈ wsX10_about := List.mem_of_getElem? (i := 2) rfl
theorem kX10_about_3 : Cond.fieldLink RX10 185 "GloveRail$Street" "crossingKinds" "[I" ∈ wsX10_about := List.mem_of_getElem? (i := 3) rfl
theorem kX10_about_4 : Cond.fieldLink RX10 188 "GloveRail$Street" "crossingSpikes" "[I" ∈ wsX10_about := List.mem_of_getElem? (i := 4) rfl
theorem iwX10_about_X10 : ∀ w ∈ wsX100, w ∈ wsX10_about := fun _ h => List.mem_cons_of_mem _ (List.mem_append_left _ (List.mem_append_left _ (List.mem_append_right _ h)))
theorem iwX10_about_X7 : ∀ w ∈ wsX70, w ∈ wsX10_about := fun _ h => List.mem_cons_of_mem _ (List.mem_append_left _ (List.mem_append_right _ h))
theorem iwX10_about_X8 : ∀ w ∈ wsX80, w ∈ wsX10_about := fun _ h => List.mem_cons_of_mem _ (List.mem_append_right _ h)
/-- what is to hold at the entry of X10_about -/
def B_X10_about_e (a1 : Int32) (a2 : Int32) (Q : Int32 → St → Prop) (Y : Nat → List Int32 → List Int64 → St → Prop)  (s0 : St) : Prop :=
  V_X10_isCrossing a1 s0 (fun r1 s1 => (¬ r1 = 0 → ((a2 = 0 → (vp_in a1 3 ∧ (Q (s1 7 a1.toNatClampNeg) s1))) ∧ (¬ a2 = 0 → ((a2 = 1 → (vp_in a1 3 ∧ (Q (s1 8 a1.toNatClampNeg) s1))) ∧ (¬ a2 = 1 → ((a2 = 2 → (V_X8_shutBit 2 a1 s1 (fun r2 s2 => Q r2 s2))) ∧ (¬ a2 = 2 → ((a2 = 3 → (V_X8_waitingBehind 2 a1 s1 (fun r3 s3 => Q r3 s3))) ∧ (¬ a2 = 3 → ((a2 = 4 → (V_X8_letsNow 2 a1 s1 (fun r4 s4 => Q r4 s4))) ∧ (¬ a2 = 4 → (V_X10_bad  s1 (fun r5 s5 => Q r5 s5))))))))))))) ∧ (r1 = 0 → (V_X10_bad  s1 (fun r6 s6 => Q r6 s6))))
def T_X10_about (a1 : Int32) (a2 : Int32) (Q : Int32 → St → Prop) (Y : Nat → List Int32 → List Int64 → St → Prop) (P : Nat) (xs : List Int32) (ys : List Int64) (s0 : St) : Prop :=
  False
def R_X10_about (a1 : Int32) (a2 : Int32) (Q : Int32 → St → Prop) : Nat → List Int32 → List Int64 → St → Prop := Fx (T_X10_about a1 a2 Q)
def V_X10_about (a1 : Int32) (a2 : Int32) (s0 : St) (Q : Int32 → St → Prop) : Prop := B_X10_about_e a1 a2 Q (R_X10_about a1 a2 Q)  s0
theorem kX8_copy_1 : Cond.fieldLink RX8 11 "GloveRail$Street" "wets" "[I" ∈ wsX8_copy := List.mem_of_getElem? (i := 1) rfl
theorem kX8_copy_2 : Cond.methodLink RX8 49 arraycopyName ∈ wsX8_copy := List.mem_of_getElem? (i := 2) rfl
theorem kX8_copy_3 : Cond.native arraycopyName ∈ wsX8_copy := List.mem_of_getElem? (i := 3) rfl
theorem kX8_copy_4 : Cond.static arraycopyName ∈ wsX8_copy := List.mem_of_getElem? (i := 4) rfl
theorem kX8_copy_5 : Cond.initialized "java/lang/System" ∈ wsX8_copy := List.mem_of_getElem? (i := 5) rfl
theorem kX8_copy_6 : Cond.fieldLink RX8 15 "GloveRail$Street" "kinds" "[I" ∈ wsX8_copy := List.mem_of_getElem? (i := 6) rfl
theorem kX8_copy_7 : Cond.fieldLink RX8 18 "GloveRail$Street" "marks" "[I" ∈ wsX8_copy := List.mem_of_getElem? (i := 7) rfl
theorem kX8_copy_8 : Cond.fieldLink RX8 21 "GloveRail$Street" "spikes" "[I" ∈ wsX8_copy := List.mem_of_getElem? (i := 8) rfl
theorem kX8_copy_9 : Cond.fieldLink RX8 24 "GloveRail$Street" "crossingKinds" "[I" ∈ wsX8_copy := List.mem_of_getElem? (i := 9) rfl
theorem kX8_copy_10 : Cond.fieldLink RX8 27 "GloveRail$Street" "crossingSpikes" "[I" ∈ wsX8_copy := List.mem_of_getElem? (i := 10) rfl
theorem kX8_copy_11 : Cond.fieldLink RX8 30 "GloveRail$Street" "behind" "[I" ∈ wsX8_copy := List.mem_of_getElem? (i := 11) rfl
theorem kX8_copy_12 : Cond.fieldLink RX8 36 "GloveRail$Street" "gloves" "I" ∈ wsX8_copy := List.mem_of_getElem? (i := 12) rfl
theorem kX8_copy_13 : Cond.fieldLink RX8 40 "GloveRail$Street" "crossings" "I" ∈ wsX8_copy := List.mem_of_getElem? (i := 13) rfl
theorem kX8_copy_14 : Cond.fieldLink RX8 43 "GloveRail$Street" "shut" "I" ∈ wsX8_copy := List.mem_of_getElem? (i := 14) rfl
theorem kX8_copy_15 : Cond.fieldLink RX8 46 "GloveRail$Street" "hour" "I" ∈ wsX8_copy := List.mem_of_getElem? (i := 15) rfl
theorem iwX8_copy_X8 : ∀ w ∈ wsX80, w ∈ wsX8_copy := fun _ h => List.mem_cons_of_mem _ (List.mem_append_right _ h)
/-- what is to hold at the entry of X8_copy -/
def B_X8_copy_e (h0 : Nat) (h1 : Nat) (Q : St → Prop) (Y : Nat → List Int32 → List Int64 → St → Prop)  (s0 : St) : Prop :=
  ∀ s1, s1 = us s0 (h0 + 1) (va_cpy (s0 (h1 + 1)) (s0 (h0 + 1)) 0 0 6) → (∀ s2, s2 = us s1 (h0 + 2) (va_cpy (s1 (h1 + 2)) (s1 (h0 + 2)) 0 0 7) → (∀ s3, s3 = us s2 (h0 + 3) (va_cpy (s2 (h1 + 3)) (s2 (h0 + 3)) 0 0 7) → (∀ s4, s4 = us s3 (h0 + 4) (va_cpy (s3 (h1 + 4)) (s3 (h0 + 4)) 0 0 7) → (∀ s5, s5 = us s4 (h0 + 5) (va_cpy (s4 (h1 + 5)) (s4 (h0 + 5)) 0 0 3) → (∀ s6, s6 = us s5 (h0 + 6) (va_cpy (s5 (h1 + 6)) (s5 (h0 + 6)) 0 0 3) → (∀ s7, s7 = us s6 (h0 + 7) (va_cpy (s6 (h1 + 7)) (s6 (h0 + 7)) 0 0 24) → (∀ s8, s8 = us s7 h0 (upd (s7 h0) 8 (s7 h1 8)) → (∀ s9, s9 = us s8 h0 (upd (s8 h0) 9 (s8 h1 9)) → (∀ s10, s10 = us s9 h0 (upd (s9 h0) 10 (s9 h1 10)) → (∀ s11, s11 = us s10 h0 (upd (s10 h0) 11 (s10 h1 11)) → (Q s11)))))))))))
def T_X8_copy (h0 : Nat) (h1 : Nat) (Q : St → Prop) (Y : Nat → List Int32 → List Int64 → St → Prop) (P : Nat) (xs : List Int32) (ys : List Int64) (s0 : St) : Prop :=
  False
def R_X8_copy (h0 : Nat) (h1 : Nat) (Q : St → Prop) : Nat → List Int32 → List Int64 → St → Prop := Fx (T_X8_copy h0 h1 Q)
def V_X8_copy (h0 : Nat) (h1 : Nat) (s0 : St) (Q : St → Prop) : Prop := B_X8_copy_e h0 h1 Q (R_X8_copy h0 h1 Q)  s0
theorem kX0_spikeThen_1 : Cond.fieldLink RX0 12 "GloveRail$Foresight" "ahead" "LGloveRail$Street;" ∈ wsX0_spikeThen := List.mem_of_getElem? (i := 1) rfl
theorem kX0_spikeThen_2 : Cond.fieldLink RX0 26 "GloveRail$Street" "spikes" "[I" ∈ wsX0_spikeThen := List.mem_of_getElem? (i := 2) rfl
theorem iwX0_spikeThen_X0 : ∀ w ∈ wsX00, w ∈ wsX0_spikeThen := fun _ h => List.mem_cons_of_mem _ (List.mem_append_left _ (List.mem_append_right _ h))
theorem iwX0_spikeThen_X8 : ∀ w ∈ wsX80, w ∈ wsX0_spikeThen := fun _ h => List.mem_cons_of_mem _ (List.mem_append_right _ h)
/-- what is to hold at the entry of X0_spikeThen -/
def B_X0_spikeThen_e (h1 : Nat) (a2 : Int32) (a3 : Int32) (Q : Int32 → St → Prop) (Y : Nat → List Int32 → List Int64 → St → Prop)  (s0 : St) : Prop :=
  V_X8_copy 56 h1 s0 (fun s1 => V_X8_pass 56 a3 s1 (fun s2 => vp_in a2 8 ∧ (Q (s2 60 a2.toNatClampNeg) s2)))
def T_X0_spikeThen (h1 : Nat) (a2 : Int32) (a3 : Int32) (Q : Int32 → St → Prop) (Y : Nat → List Int32 → List Int64 → St → Prop) (P : Nat) (xs : List Int32) (ys : List Int64) (s0 : St) : Prop :=
  False
def R_X0_spikeThen (h1 : Nat) (a2 : Int32) (a3 : Int32) (Q : Int32 → St → Prop) : Nat → List Int32 → List Int64 → St → Prop := Fx (T_X0_spikeThen h1 a2 a3 Q)
def V_X0_spikeThen (h1 : Nat) (a2 : Int32) (a3 : Int32) (s0 : St) (Q : Int32 → St → Prop) : Prop := B_X0_spikeThen_e h1 a2 a3 Q (R_X0_spikeThen h1 a2 a3 Q)  s0
theorem kX10_where_1 : Cond.fieldLink RX10 25 "GloveRail" "foresight" "LGloveRail$Foresight;" ∈ wsX10_where := List.mem_of_getElem? (i := 1) rfl
theorem kX10_where_2 : Cond.fieldLink RX10 10 "GloveRail" "now" "LGloveRail$Scene;" ∈ wsX10_where := List.mem_of_getElem? (i := 2) rfl
theorem kX10_where_3 : Cond.fieldLink RX10 57 "GloveRail$Scene" "street" "LGloveRail$Street;" ∈ wsX10_where := List.mem_of_getElem? (i := 3) rfl
theorem iwX10_where_X10 : ∀ w ∈ wsX100, w ∈ wsX10_where := fun _ h => List.mem_cons_of_mem _ (List.mem_append_left _ (List.mem_append_left _ (List.mem_append_left _ (List.mem_append_right _ h))))
theorem iwX10_where_X7 : ∀ w ∈ wsX70, w ∈ wsX10_where := fun _ h => List.mem_cons_of_mem _ (List.mem_append_left _ (List.mem_append_left _ (List.mem_append_right _ h)))
/-- what is to hold at the entry of X10_where -/
def B_X10_where_e (a1 : Int32) (a2 : Int32) (Q : Int32 → St → Prop) (Y : Nat → List Int32 → List Int64 → St → Prop)  (s0 : St) : Prop :=
  V_X10_isGlove a1 s0 (fun r1 s1 => (r1 = 0 → (V_X10_bad  s1 (fun r2 s2 => Q r2 s2))) ∧ (¬ r1 = 0 → (V_X10_within a2 0 60 s1 (fun r3 s3 => (¬ r3 = 0 → (V_X0_spikeThen 2 a1 a2 s3 (fun r4 s4 => Q r4 s4))) ∧ (r3 = 0 → (V_X10_bad  s3 (fun r5 s5 => Q r5 s5)))))))
def T_X10_where (a1 : Int32) (a2 : Int32) (Q : Int32 → St → Prop) (Y : Nat → List Int32 → List Int64 → St → Prop) (P : Nat) (xs : List Int32) (ys : List Int64) (s0 : St) : Prop :=
  False
def R_X10_where (a1 : Int32) (a2 : Int32) (Q : Int32 → St → Prop) : Nat → List Int32 → List Int64 → St → Prop := Fx (T_X10_where a1 a2 Q)
def V_X10_where (a1 : Int32) (a2 : Int32) (s0 : St) (Q : Int32 → St → Prop) : Prop := B_X10_where_e a1 a2 Q (R_X10_where a1 a2 Q)  s0
theorem kX0_hoursTillAllOver_1 : Cond.fieldLink RX0 12 "GloveRail$Foresight" "ahead" "LGloveRail$Street;" ∈ wsX0_hoursTillAllOver := List.mem_of_getElem? (i := 1) rfl
theorem kX0_hoursTillAllOver_2 : Cond.fieldLink RX0 37 "GloveRail$Street" "gloves" "I" ∈ wsX0_hoursTillAllOver := List.mem_of_getElem? (i := 2) rfl
theorem iwX0_hoursTillAllOver_X0 : ∀ w ∈ wsX00, w ∈ wsX0_hoursTillAllOver := fun _ h => List.mem_cons_of_mem _ (List.mem_append_left _ (List.mem_append_right _ h))
theorem iwX0_hoursTillAllOver_X8 : ∀ w ∈ wsX80, w ∈ wsX0_hoursTillAllOver := fun _ h => List.mem_cons_of_mem _ (List.mem_append_right _ h)
/-- what is to hold at the entry of X0_hoursTillAllOver -/
def B_X0_hoursTillAllOver_e (h1 : Nat) (Q : Int32 → St → Prop) (Y : Nat → List Int32 → List Int64 → St → Prop)  (s0 : St) : Prop :=
  V_X8_copy 56 h1 s0 (fun s1 => Y 10 [0] [] s1)
/-- what is to hold at 10 of X0_hoursTillAllOver -/
def B_X0_hoursTillAllOver_10 (h1 : Nat) (Q : Int32 → St → Prop) (Y : Nat → List Int32 → List Int64 → St → Prop) (x2 : Int32) (s0 : St) : Prop :=
  (60 < x2 → (Q ((-1)) s0)) ∧ (¬ 60 < x2 → (V_X8_over 56 s0 (fun r1 s1 => (¬ r1 = (s1 56 8) → (V_X8_passHour 56 s1 (fun s2 => Y 10 [x2 + 1] [] s2))) ∧ (r1 = (s1 56 8) → (Q x2 s1)))))
def T_X0_hoursTillAllOver (h1 : Nat) (Q : Int32 → St → Prop) (Y : Nat → List Int32 → List Int64 → St → Prop) (P : Nat) (xs : List Int32) (ys : List Int64) (s0 : St) : Prop :=
  (P = 10 ∧ ∃ (x2 : Int32), xs = [x2] ∧ ys = [] ∧ B_X0_hoursTillAllOver_10 h1 Q Y x2 s0)
def R_X0_hoursTillAllOver (h1 : Nat) (Q : Int32 → St → Prop) : Nat → List Int32 → List Int64 → St → Prop := Fx (T_X0_hoursTillAllOver h1 Q)
theorem i_X0_hoursTillAllOver_10 (h1 : Nat) (Q : Int32 → St → Prop) (x2 : Int32) (s0 : St) (h : B_X0_hoursTillAllOver_10 h1 Q (R_X0_hoursTillAllOver h1 Q) x2 s0) : R_X0_hoursTillAllOver h1 Q 10 [x2] [] s0 := Fx.intro (⟨rfl, x2, rfl, rfl, h⟩)
def V_X0_hoursTillAllOver (h1 : Nat) (s0 : St) (Q : Int32 → St → Prop) : Prop := B_X0_hoursTillAllOver_e h1 Q (R_X0_hoursTillAllOver h1 Q)  s0
theorem kX0_hoursTillOver_1 : Cond.fieldLink RX0 12 "GloveRail$Foresight" "ahead" "LGloveRail$Street;" ∈ wsX0_hoursTillOver := List.mem_of_getElem? (i := 1) rfl
theorem kX0_hoursTillOver_2 : Cond.fieldLink RX0 26 "GloveRail$Street" "spikes" "[I" ∈ wsX0_hoursTillOver := List.mem_of_getElem? (i := 2) rfl
theorem iwX0_hoursTillOver_X0 : ∀ w ∈ wsX00, w ∈ wsX0_hoursTillOver := fun _ h => List.mem_cons_of_mem _ (List.mem_append_left _ (List.mem_append_right _ h))
theorem iwX0_hoursTillOver_X8 : ∀ w ∈ wsX80, w ∈ wsX0_hoursTillOver := fun _ h => List.mem_cons_of_mem _ (List.mem_append_right _ h)
/-- what is to hold at the entry of X0_hoursTillOver -/
def B_X0_hoursTillOver_e (h1 : Nat) (a2 : Int32) (Q : Int32 → St → Prop) (Y : Nat → List Int32 → List Int64 → St → Prop)  (s0 : St) : Prop :=
  V_X8_copy 56 h1 s0 (fun s1 => Y 10 [0] [] s1)
/-- what is to hold at 10 of X0_hoursTillOver -/
def B_X0_hoursTillOver_10 (h1 : Nat) (a2 : Int32) (Q : Int32 → St → Prop) (Y : Nat → List Int32 → List Int64 → St → Prop) (x3 : Int32) (s0 : St) : Prop :=
  (60 < x3 → (Q ((-1)) s0)) ∧ (¬ 60 < x3 → (vp_in a2 8 ∧ ((¬ (s0 60 a2.toNatClampNeg) = 23 → (V_X8_passHour 56 s0 (fun s1 => Y 10 [x3 + 1] [] s1))) ∧ ((s0 60 a2.toNatClampNeg) = 23 → (Q x3 s0)))))
def T_X0_hoursTillOver (h1 : Nat) (a2 : Int32) (Q : Int32 → St → Prop) (Y : Nat → List Int32 → List Int64 → St → Prop) (P : Nat) (xs : List Int32) (ys : List Int64) (s0 : St) : Prop :=
  (P = 10 ∧ ∃ (x3 : Int32), xs = [x3] ∧ ys = [] ∧ B_X0_hoursTillOver_10 h1 a2 Q Y x3 s0)
def R_X0_hoursTillOver (h1 : Nat) (a2 : Int32) (Q : Int32 → St → Prop) : Nat → List Int32 → List Int64 → St → Prop := Fx (T_X0_hoursTillOver h1 a2 Q)
theorem i_X0_hoursTillOver_10 (h1 : Nat) (a2 : Int32) (Q : Int32 → St → Prop) (x3 : Int32) (s0 : St) (h : B_X0_hoursTillOver_10 h1 a2 Q (R_X0_hoursTillOver h1 a2 Q) x3 s0) : R_X0_hoursTillOver h1 a2 Q 10 [x3] [] s0 := Fx.intro (⟨rfl, x3, rfl, rfl, h⟩)
def V_X0_hoursTillOver (h1 : Nat) (a2 : Int32) (s0 : St) (Q : Int32 → St → Prop) : Prop := B_X0_hoursTillOver_e h1 a2 Q (R_X0_hoursTillOver h1 a2 Q)  s0
theorem kX10_badAsTen_1 : Cond.fieldLink RX10 311 "GloveRail" "bads" "I" ∈ wsX10_badAsTen := List.mem_of_getElem? (i := 1) rfl
theorem iwX10_badAsTen_X10 : ∀ w ∈ wsX100, w ∈ wsX10_badAsTen := fun _ h => List.mem_cons_of_mem _ (List.mem_append_right _ h)
/-- what is to hold at the entry of X10_badAsTen -/
def B_X10_badAsTen_e  (Q : Int32 → St → Prop) (Y : Nat → List Int32 → List Int64 → St → Prop)  (s0 : St) : Prop :=
  ∀ s1, s1 = us s0 0 (upd (s0 0) 10 ((s0 0 10) + 1)) → (Q ((-10)) s1)
def T_X10_badAsTen  (Q : Int32 → St → Prop) (Y : Nat → List Int32 → List Int64 → St → Prop) (P : Nat) (xs : List Int32) (ys : List Int64) (s0 : St) : Prop :=
  False
def R_X10_badAsTen  (Q : Int32 → St → Prop) : Nat → List Int32 → List Int64 → St → Prop := Fx (T_X10_badAsTen  Q)
def V_X10_badAsTen  (s0 : St) (Q : Int32 → St → Prop) : Prop := B_X10_badAsTen_e  Q (R_X10_badAsTen  Q)  s0
theorem kX10_when_1 : Cond.fieldLink RX10 25 "GloveRail" "foresight" "LGloveRail$Foresight;" ∈ wsX10_when := List.mem_of_getElem? (i := 1) rfl
theorem kX10_when_2 : Cond.fieldLink RX10 10 "GloveRail" "now" "LGloveRail$Scene;" ∈ wsX10_when := List.mem_of_getElem? (i := 2) rfl
theorem kX10_when_3 : Cond.fieldLink RX10 57 "GloveRail$Scene" "street" "LGloveRail$Street;" ∈ wsX10_when := List.mem_of_getElem? (i := 3) rfl
theorem iwX10_when_X10 : ∀ w ∈ wsX100, w ∈ wsX10_when := fun _ h => List.mem_cons_of_mem _ (List.mem_append_left _ (List.mem_append_left _ (List.mem_append_left _ (List.mem_append_right _ h))))
theorem iwX10_when_X7 : ∀ w ∈ wsX70, w ∈ wsX10_when := fun _ h => List.mem_cons_of_mem _ (List.mem_append_left _ (List.mem_append_left _ (List.mem_append_right _ h)))
/-- what is to hold at the entry of X10_when -/
def B_X10_when_e (a1 : Int32) (Q : Int32 → St → Prop) (Y : Nat → List Int32 → List Int64 → St → Prop)  (s0 : St) : Prop :=
  (¬ a1 = ((-1)) → (V_X10_isGlove a1 s0 (fun r1 s1 => (r1 = 0 → (V_X10_badAsTen  s1 (fun r2 s2 => Q r2 s2))) ∧ (¬ r1 = 0 → (V_X0_hoursTillOver 2 a1 s1 (fun r3 s3 => Q r3 s3)))))) ∧ (a1 = ((-1)) → (V_X0_hoursTillAllOver 2 s0 (fun r4 s4 => Q r4 s4)))
def T_X10_when (a1 : Int32) (Q : Int32 → St → Prop) (Y : Nat → List Int32 → List Int64 → St → Prop) (P : Nat) (xs : List Int32) (ys : List Int64) (s0 : St) : Prop :=
  False
def R_X10_when (a1 : Int32) (Q : Int32 → St → Prop) : Nat → List Int32 → List Int64 → St → Prop := Fx (T_X10_when a1 Q)
def V_X10_when (a1 : Int32) (s0 : St) (Q : Int32 → St → Prop) : Prop := B_X10_when_e a1 Q (R_X10_when a1 Q)  s0
theorem kJ6_numberOfTrailingZeros_0f7a4_1 : Cond.constant RJ6 264 (65536) ∈ wsJ6_numberOfTrailingZeros_0f7a4 := List.mem_of_getElem? (i := 1) rfl
/-- what is to hold at the entry of J6_numberOfTrailingZeros_0f7a4 -/
def B_J6_numberOfTrailingZeros_0f7a4_e  (Q : Int32 → St → Prop) (Y : Nat → List Int32 → List Int64 → St → Prop) (a0 : Int32) (s0 : St) : Prop :=
  ∀ v1, v1 = (a0 ^^^ ((-1))) &&& (a0 - 1) → ((0 < v1 → ((v1 ≤ 65536 → (Y 34 [v1, 1] [] s0)) ∧ (¬ v1 ≤ 65536 → (∀ v2, v2 = (v1.toUInt32 >>> ((16 : Int32).toUInt32 &&& Int32.toUInt32 31)).toInt32 → (Y 34 [v2, 1 + 16] [] s0))))) ∧ (¬ 0 < v1 → (Q (v1 &&& 32) s0)))
/-- what is to hold at 34 of J6_numberOfTrailingZeros_0f7a4 -/
def B_J6_numberOfTrailingZeros_0f7a4_34  (Q : Int32 → St → Prop) (Y : Nat → List Int32 → List Int64 → St → Prop) (x0 : Int32) (x1 : Int32) (s0 : St) : Prop :=
  (x0 ≤ 256 → (Y 49 [x0, x1] [] s0)) ∧ (¬ x0 ≤ 256 → (∀ v1, v1 = (x0.toUInt32 >>> ((8 : Int32).toUInt32 &&& Int32.toUInt32 31)).toInt32 → (Y 49 [v1, x1 + 8] [] s0)))
/-- what is to hold at 49 of J6_numberOfTrailingZeros_0f7a4 -/
def B_J6_numberOfTrailingZeros_0f7a4_49  (Q : Int32 → St → Prop) (Y : Nat → List Int32 → List Int64 → St → Prop) (x0 : Int32) (x1 : Int32) (s0 : St) : Prop :=
  (x0 ≤ 16 → (Y 62 [x0, x1] [] s0)) ∧ (¬ x0 ≤ 16 → (∀ v1, v1 = (x0.toUInt32 >>> ((4 : Int32).toUInt32 &&& Int32.toUInt32 31)).toInt32 → (Y 62 [v1, x1 + 4] [] s0)))
/-- what is to hold at 62 of J6_numberOfTrailingZeros_0f7a4 -/
def B_J6_numberOfTrailingZeros_0f7a4_62  (Q : Int32 → St → Prop) (Y : Nat → List Int32 → List Int64 → St → Prop) (x0 : Int32) (x1 : Int32) (s0 : St) : Prop :=
  (x0 ≤ 4 → (Q (x1 + ((x0.toUInt32 >>> ((1 : Int32).toUInt32 &&& Int32.toUInt32 31)).toInt32)) s0)) ∧ (¬ x0 ≤ 4 → (∀ v1, v1 = (x0.toUInt32 >>> ((2 : Int32).toUInt32 &&& Int32.toUInt32 31)).toInt32 → (Q ((x1 + 2) + ((v1.toUInt32 >>> ((1 : Int32).toUInt32 &&& Int32.toUInt32 31)).toInt32)) s0)))
def T_J6_numberOfTrailingZeros_0f7a4  (Q : Int32 → St → Prop) (Y : Nat → List Int32 → List Int64 → St → Prop) (P : Nat) (xs : List Int32) (ys : List Int64) (s0 : St) : Prop :=
  (P = 34 ∧ ∃ (x0 : Int32) (x1 : Int32), xs = [x0, x1] ∧ ys = [] ∧ B_J6_numberOfTrailingZeros_0f7a4_34  Q Y x0 x1 s0) ∨ (P = 49 ∧ ∃ (x0 : Int32) (x1 : Int32), xs = [x0, x1] ∧ ys = [] ∧ B_J6_numberOfTrailingZeros_0f7a4_49  Q Y x0 x1 s0) ∨ (P = 62 ∧ ∃ (x0 : Int32) (x1 : Int32), xs = [x0, x1] ∧ ys = [] ∧ B_J6_numberOfTrailingZeros_0f7a4_62  Q Y x0 x1 s0)
def R_J6_numberOfTrailingZeros_0f7a4  (Q : Int32 → St → Prop) : Nat → List Int32 → List Int64 → St → Prop := Fx (T_J6_numberOfTrailingZeros_0f7a4  Q)
theorem i_J6_numberOfTrailingZeros_0f7a4_34  (Q : Int32 → St → Prop) (x0 : Int32) (x1 : Int32) (s0 : St) (h : B_J6_numberOfTrailingZeros_0f7a4_34  Q (R_J6_numberOfTrailingZeros_0f7a4  Q) x0 x1 s0) : R_J6_numberOfTrailingZeros_0f7a4  Q 34 [x0, x1] [] s0 := Fx.intro (Or.inl ⟨rfl, x0, x1, rfl, rfl, h⟩)
theorem i_J6_numberOfTrailingZeros_0f7a4_49  (Q : Int32 → St → Prop) (x0 : Int32) (x1 : Int32) (s0 : St) (h : B_J6_numberOfTrailingZeros_0f7a4_49  Q (R_J6_numberOfTrailingZeros_0f7a4  Q) x0 x1 s0) : R_J6_numberOfTrailingZeros_0f7a4  Q 49 [x0, x1] [] s0 := Fx.intro (Or.inr (Or.inl ⟨rfl, x0, x1, rfl, rfl, h⟩))
theorem i_J6_numberOfTrailingZeros_0f7a4_62  (Q : Int32 → St → Prop) (x0 : Int32) (x1 : Int32) (s0 : St) (h : B_J6_numberOfTrailingZeros_0f7a4_62  Q (R_J6_numberOfTrailingZeros_0f7a4  Q) x0 x1 s0) : R_J6_numberOfTrailingZeros_0f7a4  Q 62 [x0, x1] [] s0 := Fx.intro (Or.inr (Or.inr (⟨rfl, x0, x1, rfl, rfl, h⟩)))
def V_J6_numberOfTrailingZeros_0f7a4 (a0 : Int32) (s0 : St) (Q : Int32 → St → Prop) : Prop := B_J6_numberOfTrailingZeros_0f7a4_e  Q (R_J6_numberOfTrailingZeros_0f7a4  Q) a0 s0
theorem kX2_fit_1 : Cond.fieldLink RX2 48 "GloveRail$Street" "kinds" "[I" ∈ wsX2_fit := List.mem_of_getElem? (i := 1) rfl
theorem kX2_fit_2 : Cond.fieldLink RX2 51 "GloveRail$Street" "marks" "[I" ∈ wsX2_fit := List.mem_of_getElem? (i := 2) rfl
theorem kX2_fit_3 : Cond.methodLink RX2 54 Lib.Math.abs.name ∈ wsX2_fit := List.mem_of_getElem? (i := 3) rfl
theorem kX2_fit_4 : Cond.static Lib.Math.abs.name ∈ wsX2_fit := List.mem_of_getElem? (i := 4) rfl
theorem kX2_fit_5 : Cond.initialized "java/lang/Math" ∈ wsX2_fit := List.mem_of_getElem? (i := 5) rfl
theorem kX2_fit_6 : Cond.code Lib.Math.abs.name Lib.Math.abs.code 1 (some .int) ∈ wsX2_fit := List.mem_of_getElem? (i := 6) rfl
theorem iwX2_fit_X8 : ∀ w ∈ wsX80, w ∈ wsX2_fit := fun _ h => List.mem_cons_of_mem _ (List.mem_append_right _ h)
/-- what is to hold at the entry of X2_fit -/
def B_X2_fit_e (h0 : Nat) (a1 : Int32) (a2 : Int32) (a3 : Int32) (Q : Int32 → St → Prop) (Y : Nat → List Int32 → List Int64 → St → Prop)  (s0 : St) : Prop :=
  (¬ ((a1 >>> (a3 &&& 31)) &&& 1) = 1 → (Q 0 s0)) ∧ (((a1 >>> (a3 &&& 31)) &&& 1) = 1 → (vp_in a2 8 ∧ (vp_in a3 8 ∧ ((¬ (s0 (h0 + 2) a2.toNatClampNeg) = (s0 (h0 + 2) a3.toNatClampNeg) → (Q 0 s0)) ∧ ((s0 (h0 + 2) a2.toNatClampNeg) = (s0 (h0 + 2) a3.toNatClampNeg) → (vp_in a2 8 ∧ (vp_in a3 8 ∧ ((1 < ((if 0 ≤ ((s0 (h0 + 3) a2.toNatClampNeg) - (s0 (h0 + 3) a3.toNatClampNeg)) then ((s0 (h0 + 3) a2.toNatClampNeg) - (s0 (h0 + 3) a3.toNatClampNeg)) else 0 - ((s0 (h0 + 3) a2.toNatClampNeg) - (s0 (h0 + 3) a3.toNatClampNeg)))) → (Q 0 s0)) ∧ (¬ 1 < ((if 0 ≤ ((s0 (h0 + 3) a2.toNatClampNeg) - (s0 (h0 + 3) a3.toNatClampNeg)) then ((s0 (h0 + 3) a2.toNatClampNeg) - (s0 (h0 + 3) a3.toNatClampNeg)) else 0 - ((s0 (h0 + 3) a2.toNatClampNeg) - (s0 (h0 + 3) a3.toNatClampNeg)))) → (Q 1 s0))))))))))
def T_X2_fit (h0 : Nat) (a1 : Int32) (a2 : Int32) (a3 : Int32) (Q : Int32 → St → Prop) (Y : Nat → List Int32 → List Int64 → St → Prop) (P : Nat) (xs : List Int32) (ys : List Int64) (s0 : St) : Prop :=
  False
def R_X2_fit (h0 : Nat) (a1 : Int32) (a2 : Int32) (a3 : Int32) (Q : Int32 → St → Prop) : Nat → List Int32 → List Int64 → St → Prop := Fx (T_X2_fit h0 a1 a2 a3 Q)
def V_X2_fit (h0 : Nat) (a1 : Int32) (a2 : Int32) (a3 : Int32) (s0 : St) (Q : Int32 → St → Prop) : Prop := B_X2_fit_e h0 a1 a2 a3 Q (R_X2_fit h0 a1 a2 a3 Q)  s0
theorem kX2_countAll_1 : Cond.fieldLink RX2 17 "GloveRail$Street" "gloves" "I" ∈ wsX2_countAll := List.mem_of_getElem? (i := 1) rfl
theorem kX2_countAll_2 : Cond.fieldLink RX2 21 "GloveRail$Pairing" "all" "I" ∈ wsX2_countAll := List.mem_of_getElem? (i := 2) rfl
theorem kX2_countAll_3 : Cond.fieldLink RX2 11 "GloveRail$Pairing" "mostOf" "[I" ∈ wsX2_countAll := List.mem_of_getElem? (i := 3) rfl
theorem kX2_countAll_4 : Cond.methodLink RX2 34 Lib.Math.max.name ∈ wsX2_countAll := List.mem_of_getElem? (i := 4) rfl
theorem kX2_countAll_5 : Cond.static Lib.Math.max.name ∈ wsX2_countAll := List.mem_of_getElem? (i := 5) rfl
theorem kX2_countAll_6 : Cond.initialized "java/lang/Math" ∈ wsX2_countAll := List.mem_of_getElem? (i := 6) rfl
theorem kX2_countAll_7 : Cond.code Lib.Math.max.name Lib.Math.max.code 2 (some .int) ∈ wsX2_countAll := List.mem_of_getElem? (i := 7) rfl
theorem iwX2_countAll_X2 : ∀ w ∈ wsX20, w ∈ wsX2_countAll := fun _ h => List.mem_cons_of_mem _ (List.mem_append_right _ h)
theorem iwX2_countAll_X8 : ∀ w ∈ wsX80, w ∈ wsX2_countAll := fun _ h => List.mem_cons_of_mem _ (List.mem_append_left _ (List.mem_append_right _ h))
/-- what is to hold at the entry of X2_countAll -/
def B_X2_countAll_e (h1 : Nat) (Q : St → Prop) (Y : Nat → List Int32 → List Int64 → St → Prop)  (s0 : St) : Prop :=
  ∀ s1, s1 = us s0 65 (upd (s0 65) 1 (((1 : Int32) <<< ((s0 h1 8) &&& 31)) - 1)) → (∀ s2, s2 = us s1 66 (upd (s1 66) 0 0) → (Y 21 [1] [] s2))
/-- what is to hold at 21 of X2_countAll -/
def B_X2_countAll_21 (h1 : Nat) (Q : St → Prop) (Y : Nat → List Int32 → List Int64 → St → Prop) (x2 : Int32) (s0 : St) : Prop :=
  ((s0 65 1) < x2 → (Q s0)) ∧ (¬ (s0 65 1) < x2 → (V_J6_numberOfTrailingZeros_0f7a4 x2 s0 (fun r1 s1 => ∀ v2, v2 = x2 &&& (((1 : Int32) <<< (r1 &&& 31)) ^^^ ((-1))) → (vp_in v2 128 ∧ (vp_in x2 128 ∧ (∀ s3, s3 = us s1 66 (upd (s1 66) x2.toNatClampNeg (s1 66 v2.toNatClampNeg)) → (Y 61 [x2, r1, v2, r1 + 1] [] s3)))))))
/-- what is to hold at 61 of X2_countAll -/
def B_X2_countAll_61 (h1 : Nat) (Q : St → Prop) (Y : Nat → List Int32 → List Int64 → St → Prop) (x2 : Int32) (x3 : Int32) (x4 : Int32) (x5 : Int32) (s0 : St) : Prop :=
  ((s0 h1 8) ≤ x5 → (Y 21 [x2 + 1] [] s0)) ∧ (¬ (s0 h1 8) ≤ x5 → (V_X2_fit h1 x4 x3 x5 s0 (fun r1 s1 => (r1 = 0 → (Y 61 [x2, x3, x4, x5 + 1] [] s1)) ∧ (¬ r1 = 0 → (vp_in x2 128 ∧ (vp_in (x4 &&& (((1 : Int32) <<< (x5 &&& 31)) ^^^ ((-1)))) 128 ∧ (vp_in x2 128 ∧ (∀ s2, s2 = us s1 66 (upd (s1 66) x2.toNatClampNeg ((if (s1 66 x2.toNatClampNeg) < (1 + (s1 66 (x4 &&& (((1 : Int32) <<< (x5 &&& 31)) ^^^ ((-1)))).toNatClampNeg)) then (1 + (s1 66 (x4 &&& (((1 : Int32) <<< (x5 &&& 31)) ^^^ ((-1)))).toNatClampNeg)) else (s1 66 x2.toNatClampNeg)))) → (Y 61 [x2, x3, x4, x5 + 1] [] s2)))))))))
def T_X2_countAll (h1 : Nat) (Q : St → Prop) (Y : Nat → List Int32 → List Int64 → St → Prop) (P : Nat) (xs : List Int32) (ys : List Int64) (s0 : St) : Prop :=
  (P = 21 ∧ ∃ (x2 : Int32), xs = [x2] ∧ ys = [] ∧ B_X2_countAll_21 h1 Q Y x2 s0) ∨ (P = 61 ∧ ∃ (x2 : Int32) (x3 : Int32) (x4 : Int32) (x5 : Int32), xs = [x2, x3, x4, x5] ∧ ys = [] ∧ B_X2_countAll_61 h1 Q Y x2 x3 x4 x5 s0)
def R_X2_countAll (h1 : Nat) (Q : St → Prop) : Nat → List Int32 → List Int64 → St → Prop := Fx (T_X2_countAll h1 Q)
theorem i_X2_countAll_21 (h1 : Nat) (Q : St → Prop) (x2 : Int32) (s0 : St) (h : B_X2_countAll_21 h1 Q (R_X2_countAll h1 Q) x2 s0) : R_X2_countAll h1 Q 21 [x2] [] s0 := Fx.intro (Or.inl ⟨rfl, x2, rfl, rfl, h⟩)
theorem i_X2_countAll_61 (h1 : Nat) (Q : St → Prop) (x2 : Int32) (x3 : Int32) (x4 : Int32) (x5 : Int32) (s0 : St) (h : B_X2_countAll_61 h1 Q (R_X2_countAll h1 Q) x2 x3 x4 x5 s0) : R_X2_countAll h1 Q 61 [x2, x3, x4, x5] [] s0 := Fx.intro (Or.inr (⟨rfl, x2, x3, x4, x5, rfl, rfl, h⟩))
def V_X2_countAll (h1 : Nat) (s0 : St) (Q : St → Prop) : Prop := B_X2_countAll_e h1 Q (R_X2_countAll h1 Q)  s0
theorem kX2_most_1 : Cond.fieldLink RX2 11 "GloveRail$Pairing" "mostOf" "[I" ∈ wsX2_most := List.mem_of_getElem? (i := 1) rfl
theorem kX2_most_2 : Cond.fieldLink RX2 21 "GloveRail$Pairing" "all" "I" ∈ wsX2_most := List.mem_of_getElem? (i := 2) rfl
theorem iwX2_most_X2 : ∀ w ∈ wsX20, w ∈ wsX2_most := fun _ h => List.mem_cons_of_mem _ (List.mem_append_right _ h)
/-- what is to hold at the entry of X2_most -/
def B_X2_most_e  (Q : Int32 → St → Prop) (Y : Nat → List Int32 → List Int64 → St → Prop)  (s0 : St) : Prop :=
  vp_in (s0 65 1) 128 ∧ (Q (s0 66 (s0 65 1).toNatClampNeg) s0)
def T_X2_most  (Q : Int32 → St → Prop) (Y : Nat → List Int32 → List Int64 → St → Prop) (P : Nat) (xs : List Int32) (ys : List Int64) (s0 : St) : Prop :=
  False
def R_X2_most  (Q : Int32 → St → Prop) : Nat → List Int32 → List Int64 → St → Prop := Fx (T_X2_most  Q)
def V_X2_most  (s0 : St) (Q : Int32 → St → Prop) : Prop := B_X2_most_e  Q (R_X2_most  Q)  s0
theorem kX2_firstPartner_1 : Cond.fieldLink RX2 11 "GloveRail$Pairing" "mostOf" "[I" ∈ wsX2_firstPartner := List.mem_of_getElem? (i := 1) rfl
theorem kX2_firstPartner_2 : Cond.fieldLink RX2 17 "GloveRail$Street" "gloves" "I" ∈ wsX2_firstPartner := List.mem_of_getElem? (i := 2) rfl
theorem iwX2_firstPartner_X2 : ∀ w ∈ wsX20, w ∈ wsX2_firstPartner := fun _ h => List.mem_cons_of_mem _ (List.mem_append_left _ (List.mem_append_right _ h))
theorem iwX2_firstPartner_X8 : ∀ w ∈ wsX80, w ∈ wsX2_firstPartner := fun _ h => List.mem_cons_of_mem _ (List.mem_append_right _ h)
/-- what is to hold at the entry of X2_firstPartner -/
def B_X2_firstPartner_e (h1 : Nat) (a2 : Int32) (a3 : Int32) (Q : Int32 → St → Prop) (Y : Nat → List Int32 → List Int64 → St → Prop)  (s0 : St) : Prop :=
  ∀ v1, v1 = a2 &&& (((1 : Int32) <<< (a3 &&& 31)) ^^^ ((-1))) → (vp_in v1 128 ∧ (vp_in a2 128 ∧ ((¬ (s0 66 v1.toNatClampNeg) = (s0 66 a2.toNatClampNeg) → (Y 32 [v1, a3 + 1] [] s0)) ∧ ((s0 66 v1.toNatClampNeg) = (s0 66 a2.toNatClampNeg) → (Q ((-1)) s0)))))
/-- what is to hold at 32 of X2_firstPartner -/
def B_X2_firstPartner_32 (h1 : Nat) (a2 : Int32) (a3 : Int32) (Q : Int32 → St → Prop) (Y : Nat → List Int32 → List Int64 → St → Prop) (x4 : Int32) (x5 : Int32) (s0 : St) : Prop :=
  ((s0 h1 8) ≤ x5 → (Q ((-1)) s0)) ∧ (¬ (s0 h1 8) ≤ x5 → (V_X2_fit h1 x4 a3 x5 s0 (fun r1 s1 => (r1 = 0 → (Y 32 [x4, x5 + 1] [] s1)) ∧ (¬ r1 = 0 → (vp_in (x4 &&& (((1 : Int32) <<< (x5 &&& 31)) ^^^ ((-1)))) 128 ∧ (vp_in a2 128 ∧ ((¬ (1 + (s1 66 (x4 &&& (((1 : Int32) <<< (x5 &&& 31)) ^^^ ((-1)))).toNatClampNeg)) = (s1 66 a2.toNatClampNeg) → (Y 32 [x4, x5 + 1] [] s1)) ∧ ((1 + (s1 66 (x4 &&& (((1 : Int32) <<< (x5 &&& 31)) ^^^ ((-1)))).toNatClampNeg)) = (s1 66 a2.toNatClampNeg) → (Q x5 s1)))))))))
def T_X2_firstPartner (h1 : Nat) (a2 : Int32) (a3 : Int32) (Q : Int32 → St → Prop) (Y : Nat → List Int32 → List Int64 → St → Prop) (P : Nat) (xs : List Int32) (ys : List Int64) (s0 : St) : Prop :=
  (P = 32 ∧ ∃ (x4 : Int32) (x5 : Int32), xs = [x4, x5] ∧ ys = [] ∧ B_X2_firstPartner_32 h1 a2 a3 Q Y x4 x5 s0)
def R_X2_firstPartner (h1 : Nat) (a2 : Int32) (a3 : Int32) (Q : Int32 → St → Prop) : Nat → List Int32 → List Int64 → St → Prop := Fx (T_X2_firstPartner h1 a2 a3 Q)
theorem i_X2_firstPartner_32 (h1 : Nat) (a2 : Int32) (a3 : Int32) (Q : Int32 → St → Prop) (x4 : Int32) (x5 : Int32) (s0 : St) (h : B_X2_firstPartner_32 h1 a2 a3 Q (R_X2_firstPartner h1 a2 a3 Q) x4 x5 s0) : R_X2_firstPartner h1 a2 a3 Q 32 [x4, x5] [] s0 := Fx.intro (⟨rfl, x4, x5, rfl, rfl, h⟩)
def V_X2_firstPartner (h1 : Nat) (a2 : Int32) (a3 : Int32) (s0 : St) (Q : Int32 → St → Prop) : Prop := B_X2_firstPartner_e h1 a2 a3 Q (R_X2_firstPartner h1 a2 a3 Q)  s0
/-- what is to hold at the entry of X2_without -/
def B_X2_without_e (a0 : Int32) (a1 : Int32) (a2 : Int32) (Q : Int32 → St → Prop) (Y : Nat → List Int32 → List Int64 → St → Prop)  (s0 : St) : Prop :=
  ∀ v1, v1 = a0 &&& (((1 : Int32) <<< (a1 &&& 31)) ^^^ ((-1))) → ((¬ a2 = ((-1)) → (Q (v1 &&& (((1 : Int32) <<< (a2 &&& 31)) ^^^ ((-1)))) s0)) ∧ (a2 = ((-1)) → (Q v1 s0)))
def T_X2_without (a0 : Int32) (a1 : Int32) (a2 : Int32) (Q : Int32 → St → Prop) (Y : Nat → List Int32 → List Int64 → St → Prop) (P : Nat) (xs : List Int32) (ys : List Int64) (s0 : St) : Prop :=
  False
def R_X2_without (a0 : Int32) (a1 : Int32) (a2 : Int32) (Q : Int32 → St → Prop) : Nat → List Int32 → List Int64 → St → Prop := Fx (T_X2_without a0 a1 a2 Q)
def V_X2_without (a0 : Int32) (a1 : Int32) (a2 : Int32) (s0 : St) (Q : Int32 → St → Prop) : Prop := B_X2_without_e a0 a1 a2 Q (R_X2_without a0 a1 a2 Q)  s0
theorem kX2_partner_1 : Cond.fieldLink RX2 21 "GloveRail$Pairing" "all" "I" ∈ wsX2_partner := List.mem_of_getElem? (i := 1) rfl
theorem kX2_partner_2 : Cond.fieldLink RX2 17 "GloveRail$Street" "gloves" "I" ∈ wsX2_partner := List.mem_of_getElem? (i := 2) rfl
theorem iwX2_partner_X2 : ∀ w ∈ wsX20, w ∈ wsX2_partner := fun _ h => List.mem_cons_of_mem _ (List.mem_append_left _ (List.mem_append_right _ h))
theorem iwX2_partner_X8 : ∀ w ∈ wsX80, w ∈ wsX2_partner := fun _ h => List.mem_cons_of_mem _ (List.mem_append_right _ h)
/-- what is to hold at the entry of X2_partner -/
def B_X2_partner_e (h1 : Nat) (a2 : Int32) (Q : Int32 → St → Prop) (Y : Nat → List Int32 → List Int64 → St → Prop)  (s0 : St) : Prop :=
  Y 8 [s0 65 1, 0] [] s0
/-- what is to hold at 8 of X2_partner -/
def B_X2_partner_8 (h1 : Nat) (a2 : Int32) (Q : Int32 → St → Prop) (Y : Nat → List Int32 → List Int64 → St → Prop) (x3 : Int32) (x4 : Int32) (s0 : St) : Prop :=
  ((s0 h1 8) ≤ x4 → (Q ((-1)) s0)) ∧ (¬ (s0 h1 8) ≤ x4 → ((¬ ((x3 >>> (x4 &&& 31)) &&& 1) = 1 → (Y 8 [x3, x4 + 1] [] s0)) ∧ (((x3 >>> (x4 &&& 31)) &&& 1) = 1 → (V_X2_firstPartner h1 x3 x4 s0 (fun r1 s1 => (¬ x4 = a2 → ((¬ r1 = a2 → (V_X2_without x3 x4 r1 s1 (fun r2 s2 => Y 8 [r2, x4 + 1] [] s2))) ∧ (r1 = a2 → (Q x4 s1)))) ∧ (x4 = a2 → (Q r1 s1)))))))
def T_X2_partner (h1 : Nat) (a2 : Int32) (Q : Int32 → St → Prop) (Y : Nat → List Int32 → List Int64 → St → Prop) (P : Nat) (xs : List Int32) (ys : List Int64) (s0 : St) : Prop :=
  (P = 8 ∧ ∃ (x3 : Int32) (x4 : Int32), xs = [x3, x4] ∧ ys = [] ∧ B_X2_partner_8 h1 a2 Q Y x3 x4 s0)
def R_X2_partner (h1 : Nat) (a2 : Int32) (Q : Int32 → St → Prop) : Nat → List Int32 → List Int64 → St → Prop := Fx (T_X2_partner h1 a2 Q)
theorem i_X2_partner_8 (h1 : Nat) (a2 : Int32) (Q : Int32 → St → Prop) (x3 : Int32) (x4 : Int32) (s0 : St) (h : B_X2_partner_8 h1 a2 Q (R_X2_partner h1 a2 Q) x3 x4 s0) : R_X2_partner h1 a2 Q 8 [x3, x4] [] s0 := Fx.intro (⟨rfl, x3, x4, rfl, rfl, h⟩)
def V_X2_partner (h1 : Nat) (a2 : Int32) (s0 : St) (Q : Int32 → St → Prop) : Prop := B_X2_partner_e h1 a2 Q (R_X2_partner h1 a2 Q)  s0
theorem kX10_pairs_1 : Cond.fieldLink RX10 32 "GloveRail" "pairing" "LGloveRail$Pairing;" ∈ wsX10_pairs := List.mem_of_getElem? (i := 1) rfl
theorem kX10_pairs_2 : Cond.fieldLink RX10 10 "GloveRail" "now" "LGloveRail$Scene;" ∈ wsX10_pairs := List.mem_of_getElem? (i := 2) rfl
theorem kX10_pairs_3 : Cond.fieldLink RX10 57 "GloveRail$Scene" "street" "LGloveRail$Street;" ∈ wsX10_pairs := List.mem_of_getElem? (i := 3) rfl
theorem iwX10_pairs_X10 : ∀ w ∈ wsX100, w ∈ wsX10_pairs := fun _ h => List.mem_cons_of_mem _ (List.mem_append_left _ (List.mem_append_left _ (List.mem_append_left _ (List.mem_append_right _ h))))
theorem iwX10_pairs_X7 : ∀ w ∈ wsX70, w ∈ wsX10_pairs := fun _ h => List.mem_cons_of_mem _ (List.mem_append_left _ (List.mem_append_left _ (List.mem_append_right _ h)))
/-- what is to hold at the entry of X10_pairs -/
def B_X10_pairs_e (a1 : Int32) (Q : Int32 → St → Prop) (Y : Nat → List Int32 → List Int64 → St → Prop)  (s0 : St) : Prop :=
  (a1 = ((-1)) → (Y 18 [] [] s0)) ∧ (¬ a1 = ((-1)) → (V_X10_isGlove a1 s0 (fun r1 s1 => (¬ r1 = 0 → (Y 18 [] [] s1)) ∧ (r1 = 0 → (V_X10_badAsTen  s1 (fun r2 s2 => Q r2 s2))))))
/-- what is to hold at 18 of X10_pairs -/
def B_X10_pairs_18 (a1 : Int32) (Q : Int32 → St → Prop) (Y : Nat → List Int32 → List Int64 → St → Prop)  (s0 : St) : Prop :=
  V_X2_countAll 2 s0 (fun s1 => (¬ a1 = ((-1)) → (V_X2_partner 2 a1 s1 (fun r2 s2 => Q r2 s2))) ∧ (a1 = ((-1)) → (V_X2_most  s1 (fun r3 s3 => Q r3 s3))))
def T_X10_pairs (a1 : Int32) (Q : Int32 → St → Prop) (Y : Nat → List Int32 → List Int64 → St → Prop) (P : Nat) (xs : List Int32) (ys : List Int64) (s0 : St) : Prop :=
  (P = 18 ∧ xs = [] ∧ ys = [] ∧ B_X10_pairs_18 a1 Q Y  s0)
def R_X10_pairs (a1 : Int32) (Q : Int32 → St → Prop) : Nat → List Int32 → List Int64 → St → Prop := Fx (T_X10_pairs a1 Q)
theorem i_X10_pairs_18 (a1 : Int32) (Q : Int32 → St → Prop)  (s0 : St) (h : B_X10_pairs_18 a1 Q (R_X10_pairs a1 Q)  s0) : R_X10_pairs a1 Q 18 [] [] s0 := Fx.intro (⟨rfl, rfl, rfl, h⟩)
def V_X10_pairs (a1 : Int32) (s0 : St) (Q : Int32 → St → Prop) : Prop := B_X10_pairs_e a1 Q (R_X10_pairs a1 Q)  s0
theorem kX0_takeGreaterHeap_1 : Cond.fieldLink RX0 41 "GloveRail$Foresight" "heapSize" "I" ∈ wsX0_takeGreaterHeap := List.mem_of_getElem? (i := 1) rfl
theorem kX0_takeGreaterHeap_2 : Cond.fieldLink RX0 44 "GloveRail$Foresight" "heapHours" "I" ∈ wsX0_takeGreaterHeap := List.mem_of_getElem? (i := 2) rfl
theorem kX0_takeGreaterHeap_3 : Cond.fieldLink RX0 47 "GloveRail$Foresight" "heapSpike" "I" ∈ wsX0_takeGreaterHeap := List.mem_of_getElem? (i := 3) rfl
theorem iwX0_takeGreaterHeap_X0 : ∀ w ∈ wsX00, w ∈ wsX0_takeGreaterHeap := fun _ h => List.mem_cons_of_mem _ (List.mem_append_right _ h)
/-- what is to hold at the entry of X0_takeGreaterHeap -/
def B_X0_takeGreaterHeap_e (a1 : Int32) (a2 : Int32) (a3 : Int32) (Q : St → Prop) (Y : Nat → List Int32 → List Int64 → St → Prop)  (s0 : St) : Prop :=
  (¬ a1 = (s0 55 1) → (Y 29 [0] [] s0)) ∧ (a1 = (s0 55 1) → ((¬ a2 = (s0 55 2) → (Y 29 [0] [] s0)) ∧ (a2 = (s0 55 2) → (((s0 55 3) ≤ a3 → (Y 29 [0] [] s0)) ∧ (¬ (s0 55 3) ≤ a3 → (Y 29 [1] [] s0))))))
/-- what is to hold at 29 of X0_takeGreaterHeap -/
def B_X0_takeGreaterHeap_29 (a1 : Int32) (a2 : Int32) (a3 : Int32) (Q : St → Prop) (Y : Nat → List Int32 → List Int64 → St → Prop) (t0 : Int32) (s0 : St) : Prop :=
  ((s0 55 1) < a1 → (Y 44 [] [] s0)) ∧ (¬ (s0 55 1) < a1 → ((t0 = 0 → (Q s0)) ∧ (¬ t0 = 0 → (Y 44 [] [] s0))))
/-- what is to hold at 44 of X0_takeGreaterHeap -/
def B_X0_takeGreaterHeap_44 (a1 : Int32) (a2 : Int32) (a3 : Int32) (Q : St → Prop) (Y : Nat → List Int32 → List Int64 → St → Prop)  (s0 : St) : Prop :=
  ∀ s1, s1 = us s0 55 (upd (s0 55) 1 a1) → (∀ s2, s2 = us s1 55 (upd (s1 55) 2 a2) → (∀ s3, s3 = us s2 55 (upd (s2 55) 3 a3) → (Q s3)))
def T_X0_takeGreaterHeap (a1 : Int32) (a2 : Int32) (a3 : Int32) (Q : St → Prop) (Y : Nat → List Int32 → List Int64 → St → Prop) (P : Nat) (xs : List Int32) (ys : List Int64) (s0 : St) : Prop :=
  (P = 29 ∧ ∃ (t0 : Int32), xs = [t0] ∧ ys = [] ∧ B_X0_takeGreaterHeap_29 a1 a2 a3 Q Y t0 s0) ∨ (P = 44 ∧ xs = [] ∧ ys = [] ∧ B_X0_takeGreaterHeap_44 a1 a2 a3 Q Y  s0)
def R_X0_takeGreaterHeap (a1 : Int32) (a2 : Int32) (a3 : Int32) (Q : St → Prop) : Nat → List Int32 → List Int64 → St → Prop := Fx (T_X0_takeGreaterHeap a1 a2 a3 Q)
theorem i_X0_takeGreaterHeap_29 (a1 : Int32) (a2 : Int32) (a3 : Int32) (Q : St → Prop) (t0 : Int32) (s0 : St) (h : B_X0_takeGreaterHeap_29 a1 a2 a3 Q (R_X0_takeGreaterHeap a1 a2 a3 Q) t0 s0) : R_X0_takeGreaterHeap a1 a2 a3 Q 29 [t0] [] s0 := Fx.intro (Or.inl ⟨rfl, t0, rfl, rfl, h⟩)
theorem i_X0_takeGreaterHeap_44 (a1 : Int32) (a2 : Int32) (a3 : Int32) (Q : St → Prop)  (s0 : St) (h : B_X0_takeGreaterHeap_44 a1 a2 a3 Q (R_X0_takeGreaterHeap a1 a2 a3 Q)  s0) : R_X0_takeGreaterHeap a1 a2 a3 Q 44 [] [] s0 := Fx.intro (Or.inr (⟨rfl, rfl, rfl, h⟩))
def V_X0_takeGreaterHeap (a1 : Int32) (a2 : Int32) (a3 : Int32) (s0 : St) (Q : St → Prop) : Prop := B_X0_takeGreaterHeap_e a1 a2 a3 Q (R_X0_takeGreaterHeap a1 a2 a3 Q)  s0
theorem kX0_findHeap_1 : Cond.fieldLink RX0 41 "GloveRail$Foresight" "heapSize" "I" ∈ wsX0_findHeap := List.mem_of_getElem? (i := 1) rfl
theorem kX0_findHeap_2 : Cond.fieldLink RX0 44 "GloveRail$Foresight" "heapHours" "I" ∈ wsX0_findHeap := List.mem_of_getElem? (i := 2) rfl
theorem kX0_findHeap_3 : Cond.fieldLink RX0 47 "GloveRail$Foresight" "heapSpike" "I" ∈ wsX0_findHeap := List.mem_of_getElem? (i := 3) rfl
theorem kX0_findHeap_4 : Cond.fieldLink RX0 12 "GloveRail$Foresight" "ahead" "LGloveRail$Street;" ∈ wsX0_findHeap := List.mem_of_getElem? (i := 4) rfl
theorem kX0_findHeap_5 : Cond.fieldLink RX0 50 "GloveRail$Street" "crossings" "I" ∈ wsX0_findHeap := List.mem_of_getElem? (i := 5) rfl
theorem kX0_findHeap_6 : Cond.fieldLink RX0 57 "GloveRail$Street" "crossingSpikes" "[I" ∈ wsX0_findHeap := List.mem_of_getElem? (i := 6) rfl
theorem iwX0_findHeap_X0 : ∀ w ∈ wsX00, w ∈ wsX0_findHeap := fun _ h => List.mem_cons_of_mem _ (List.mem_append_left _ (List.mem_append_right _ h))
theorem iwX0_findHeap_X8 : ∀ w ∈ wsX80, w ∈ wsX0_findHeap := fun _ h => List.mem_cons_of_mem _ (List.mem_append_right _ h)
/-- what is to hold at the entry of X0_findHeap -/
def B_X0_findHeap_e (h1 : Nat) (Q : St → Prop) (Y : Nat → List Int32 → List Int64 → St → Prop)  (s0 : St) : Prop :=
  ∀ s1, s1 = us s0 55 (upd (s0 55) 1 0) → (∀ s2, s2 = us s1 55 (upd (s1 55) 2 0) → (∀ s3, s3 = us s2 55 (upd (s2 55) 3 ((-1))) → (V_X8_copy 56 h1 s3 (fun s4 => Y 25 [0] [] s4))))
/-- what is to hold at 25 of X0_findHeap -/
def B_X0_findHeap_25 (h1 : Nat) (Q : St → Prop) (Y : Nat → List Int32 → List Int64 → St → Prop) (x2 : Int32) (s0 : St) : Prop :=
  (30 < x2 → (Q s0)) ∧ (¬ 30 < x2 → (Y 33 [x2, 0] [] s0))
/-- what is to hold at 33 of X0_findHeap -/
def B_X0_findHeap_33 (h1 : Nat) (Q : St → Prop) (Y : Nat → List Int32 → List Int64 → St → Prop) (x2 : Int32) (x3 : Int32) (s0 : St) : Prop :=
  ((s0 56 9) ≤ x3 → (V_X8_passHour 56 s0 (fun s1 => Y 25 [x2 + 1] [] s1))) ∧ (¬ (s0 56 9) ≤ x3 → (V_X8_waitingBehind 56 x3 s0 (fun r2 s2 => vp_in x3 3 ∧ (V_X0_takeGreaterHeap r2 x2 (s2 62 x3.toNatClampNeg) s2 (fun s3 => Y 33 [x2, x3 + 1] [] s3)))))
def T_X0_findHeap (h1 : Nat) (Q : St → Prop) (Y : Nat → List Int32 → List Int64 → St → Prop) (P : Nat) (xs : List Int32) (ys : List Int64) (s0 : St) : Prop :=
  (P = 25 ∧ ∃ (x2 : Int32), xs = [x2] ∧ ys = [] ∧ B_X0_findHeap_25 h1 Q Y x2 s0) ∨ (P = 33 ∧ ∃ (x2 : Int32) (x3 : Int32), xs = [x2, x3] ∧ ys = [] ∧ B_X0_findHeap_33 h1 Q Y x2 x3 s0)
def R_X0_findHeap (h1 : Nat) (Q : St → Prop) : Nat → List Int32 → List Int64 → St → Prop := Fx (T_X0_findHeap h1 Q)
theorem i_X0_findHeap_25 (h1 : Nat) (Q : St → Prop) (x2 : Int32) (s0 : St) (h : B_X0_findHeap_25 h1 Q (R_X0_findHeap h1 Q) x2 s0) : R_X0_findHeap h1 Q 25 [x2] [] s0 := Fx.intro (Or.inl ⟨rfl, x2, rfl, rfl, h⟩)
theorem i_X0_findHeap_33 (h1 : Nat) (Q : St → Prop) (x2 : Int32) (x3 : Int32) (s0 : St) (h : B_X0_findHeap_33 h1 Q (R_X0_findHeap h1 Q) x2 x3 s0) : R_X0_findHeap h1 Q 33 [x2, x3] [] s0 := Fx.intro (Or.inr (⟨rfl, x2, x3, rfl, rfl, h⟩))
def V_X0_findHeap (h1 : Nat) (s0 : St) (Q : St → Prop) : Prop := B_X0_findHeap_e h1 Q (R_X0_findHeap h1 Q)  s0
theorem kX10_heap_1 : Cond.fieldLink RX10 25 "GloveRail" "foresight" "LGloveRail$Foresight;" ∈ wsX10_heap := List.mem_of_getElem? (i := 1) rfl
theorem kX10_heap_2 : Cond.fieldLink RX10 10 "GloveRail" "now" "LGloveRail$Scene;" ∈ wsX10_heap := List.mem_of_getElem? (i := 2) rfl
theorem kX10_heap_3 : Cond.fieldLink RX10 57 "GloveRail$Scene" "street" "LGloveRail$Street;" ∈ wsX10_heap := List.mem_of_getElem? (i := 3) rfl
theorem kX10_heap_4 : Cond.fieldLink RX10 224 "GloveRail$Foresight" "heapSize" "I" ∈ wsX10_heap := List.mem_of_getElem? (i := 4) rfl
theorem kX10_heap_5 : Cond.fieldLink RX10 227 "GloveRail$Foresight" "heapHours" "I" ∈ wsX10_heap := List.mem_of_getElem? (i := 5) rfl
theorem kX10_heap_6 : Cond.fieldLink RX10 230 "GloveRail$Foresight" "heapSpike" "I" ∈ wsX10_heap := List.mem_of_getElem? (i := 6) rfl
theorem iwX10_heap_X0 : ∀ w ∈ wsX00, w ∈ wsX10_heap := fun _ h => List.mem_cons_of_mem _ (List.mem_append_left _ (List.mem_append_right _ h))
theorem iwX10_heap_X10 : ∀ w ∈ wsX100, w ∈ wsX10_heap := fun _ h => List.mem_cons_of_mem _ (List.mem_append_left _ (List.mem_append_left _ (List.mem_append_left _ (List.mem_append_right _ h))))
theorem iwX10_heap_X7 : ∀ w ∈ wsX70, w ∈ wsX10_heap := fun _ h => List.mem_cons_of_mem _ (List.mem_append_left _ (List.mem_append_left _ (List.mem_append_right _ h)))
/-- what is to hold at the entry of X10_heap -/
def B_X10_heap_e (a1 : Int32) (Q : Int32 → St → Prop) (Y : Nat → List Int32 → List Int64 → St → Prop)  (s0 : St) : Prop :=
  V_X10_within a1 0 2 s0 (fun r1 s1 => (¬ r1 = 0 → (V_X0_findHeap 2 s1 (fun s2 => (a1 = 0 → (Q (s2 55 1) s2)) ∧ (¬ a1 = 0 → ((a1 = 1 → (Q (s2 55 2) s2)) ∧ (¬ a1 = 1 → (Q (s2 55 3) s2))))))) ∧ (r1 = 0 → (V_X10_bad  s1 (fun r3 s3 => Q r3 s3))))
def T_X10_heap (a1 : Int32) (Q : Int32 → St → Prop) (Y : Nat → List Int32 → List Int64 → St → Prop) (P : Nat) (xs : List Int32) (ys : List Int64) (s0 : St) : Prop :=
  False
def R_X10_heap (a1 : Int32) (Q : Int32 → St → Prop) : Nat → List Int32 → List Int64 → St → Prop := Fx (T_X10_heap a1 Q)
def V_X10_heap (a1 : Int32) (s0 : St) (Q : Int32 → St → Prop) : Prop := B_X10_heap_e a1 Q (R_X10_heap a1 Q)  s0
theorem kJ6_bitCount_0f7a4_1 : Cond.constant RJ6 265 (1431655765) ∈ wsJ6_bitCount_0f7a4 := List.mem_of_getElem? (i := 1) rfl
theorem kJ6_bitCount_0f7a4_2 : Cond.constant RJ6 266 (858993459) ∈ wsJ6_bitCount_0f7a4 := List.mem_of_getElem? (i := 2) rfl
theorem kJ6_bitCount_0f7a4_3 : Cond.constant RJ6 267 (252645135) ∈ wsJ6_bitCount_0f7a4 := List.mem_of_getElem? (i := 3) rfl
/-- what is to hold at the entry of J6_bitCount_0f7a4 -/
def B_J6_bitCount_0f7a4_e  (Q : Int32 → St → Prop) (Y : Nat → List Int32 → List Int64 → St → Prop) (a0 : Int32) (s0 : St) : Prop :=
  ∀ v1, v1 = a0 - (((a0.toUInt32 >>> ((1 : Int32).toUInt32 &&& Int32.toUInt32 31)).toInt32) &&& 1431655765) → (∀ v2, v2 = (v1 &&& 858993459) + (((v1.toUInt32 >>> ((2 : Int32).toUInt32 &&& Int32.toUInt32 31)).toInt32) &&& 858993459) → (∀ v3, v3 = (v2 + ((v2.toUInt32 >>> ((4 : Int32).toUInt32 &&& Int32.toUInt32 31)).toInt32)) &&& 252645135 → (∀ v4, v4 = v3 + ((v3.toUInt32 >>> ((8 : Int32).toUInt32 &&& Int32.toUInt32 31)).toInt32) → (∀ v5, v5 = v4 + ((v4.toUInt32 >>> ((16 : Int32).toUInt32 &&& Int32.toUInt32 31)).toInt32) → (Q (v5 &&& 63) s0)))))
def T_J6_bitCount_0f7a4  (Q : Int32 → St → Prop) (Y : Nat → List Int32 → List Int64 → St → Prop) (P : Nat) (xs : List Int32) (ys : List Int64) (s0 : St) : Prop :=
  False
def R_J6_bitCount_0f7a4  (Q : Int32 → St → Prop) : Nat → List Int32 → List Int64 → St → Prop := Fx (T_J6_bitCount_0f7a4  Q)
def V_J6_bitCount_0f7a4 (a0 : Int32) (s0 : St) (Q : Int32 → St → Prop) : Prop := B_J6_bitCount_0f7a4_e  Q (R_J6_bitCount_0f7a4  Q) a0 s0
theorem kX0_holds_1 : Cond.fieldLink RX0 12 "GloveRail$Foresight" "ahead" "LGloveRail$Street;" ∈ wsX0_holds := List.mem_of_getElem? (i := 1) rfl
theorem kX0_holds_2 : Cond.fieldLink RX0 73 "GloveRail$Street" "shut" "I" ∈ wsX0_holds := List.mem_of_getElem? (i := 2) rfl
theorem iwX0_holds_X0 : ∀ w ∈ wsX00, w ∈ wsX0_holds := fun _ h => List.mem_cons_of_mem _ (List.mem_append_left _ (List.mem_append_right _ h))
theorem iwX0_holds_X8 : ∀ w ∈ wsX80, w ∈ wsX0_holds := fun _ h => List.mem_cons_of_mem _ (List.mem_append_right _ h)
/-- what is to hold at the entry of X0_holds -/
def B_X0_holds_e (h1 : Nat) (a2 : Int32) (a3 : Int32) (Q : Int32 → St → Prop) (Y : Nat → List Int32 → List Int64 → St → Prop)  (s0 : St) : Prop :=
  V_X8_copy 56 h1 s0 (fun s1 => ∀ s2, s2 = us s1 56 (upd (s1 56) 10 a2) → (V_X8_pass 56 a3 s2 (fun s3 => V_X8_over 56 s3 (fun r4 s4 => V_X8_over h1 s4 (fun r5 s5 => (¬ r4 = r5 → (Q 0 s5)) ∧ (r4 = r5 → (Q 1 s5)))))))
def T_X0_holds (h1 : Nat) (a2 : Int32) (a3 : Int32) (Q : Int32 → St → Prop) (Y : Nat → List Int32 → List Int64 → St → Prop) (P : Nat) (xs : List Int32) (ys : List Int64) (s0 : St) : Prop :=
  False
def R_X0_holds (h1 : Nat) (a2 : Int32) (a3 : Int32) (Q : Int32 → St → Prop) : Nat → List Int32 → List Int64 → St → Prop := Fx (T_X0_holds h1 a2 a3 Q)
def V_X0_holds (h1 : Nat) (a2 : Int32) (a3 : Int32) (s0 : St) (Q : Int32 → St → Prop) : Prop := B_X0_holds_e h1 a2 a3 Q (R_X0_holds h1 a2 a3 Q)  s0
theorem kX0_fewestThatHold_1 : Cond.fieldLink RX0 50 "GloveRail$Street" "crossings" "I" ∈ wsX0_fewestThatHold := List.mem_of_getElem? (i := 1) rfl
theorem iwX0_fewestThatHold_X8 : ∀ w ∈ wsX80, w ∈ wsX0_fewestThatHold := fun _ h => List.mem_cons_of_mem _ (List.mem_append_left _ (List.mem_append_right _ h))
/-- what is to hold at the entry of X0_fewestThatHold -/
def B_X0_fewestThatHold_e (h1 : Nat) (a2 : Int32) (Q : Int32 → St → Prop) (Y : Nat → List Int32 → List Int64 → St → Prop)  (s0 : St) : Prop :=
  Y 8 [(-1), 4, 0] [] s0
/-- what is to hold at 8 of X0_fewestThatHold -/
def B_X0_fewestThatHold_8 (h1 : Nat) (a2 : Int32) (Q : Int32 → St → Prop) (Y : Nat → List Int32 → List Int64 → St → Prop) (x3 : Int32) (x4 : Int32) (x5 : Int32) (s0 : St) : Prop :=
  (((1 : Int32) <<< ((s0 h1 9) &&& 31)) ≤ x5 → (Q x3 s0)) ∧ (¬ ((1 : Int32) <<< ((s0 h1 9) &&& 31)) ≤ x5 → (V_J6_bitCount_0f7a4 x5 s0 (fun r1 s1 => (x4 ≤ r1 → (Y 8 [x3, x4, x5 + 1] [] s1)) ∧ (¬ x4 ≤ r1 → (V_X0_holds h1 x5 a2 s1 (fun r2 s2 => (r2 = 0 → (Y 8 [x3, x4, x5 + 1] [] s2)) ∧ (¬ r2 = 0 → (Y 8 [x5, r1, x5 + 1] [] s2))))))))
def T_X0_fewestThatHold (h1 : Nat) (a2 : Int32) (Q : Int32 → St → Prop) (Y : Nat → List Int32 → List Int64 → St → Prop) (P : Nat) (xs : List Int32) (ys : List Int64) (s0 : St) : Prop :=
  (P = 8 ∧ ∃ (x3 : Int32) (x4 : Int32) (x5 : Int32), xs = [x3, x4, x5] ∧ ys = [] ∧ B_X0_fewestThatHold_8 h1 a2 Q Y x3 x4 x5 s0)
def R_X0_fewestThatHold (h1 : Nat) (a2 : Int32) (Q : Int32 → St → Prop) : Nat → List Int32 → List Int64 → St → Prop := Fx (T_X0_fewestThatHold h1 a2 Q)
theorem i_X0_fewestThatHold_8 (h1 : Nat) (a2 : Int32) (Q : Int32 → St → Prop) (x3 : Int32) (x4 : Int32) (x5 : Int32) (s0 : St) (h : B_X0_fewestThatHold_8 h1 a2 Q (R_X0_fewestThatHold h1 a2 Q) x3 x4 x5 s0) : R_X0_fewestThatHold h1 a2 Q 8 [x3, x4, x5] [] s0 := Fx.intro (⟨rfl, x3, x4, x5, rfl, rfl, h⟩)
def V_X0_fewestThatHold (h1 : Nat) (a2 : Int32) (s0 : St) (Q : Int32 → St → Prop) : Prop := B_X0_fewestThatHold_e h1 a2 Q (R_X0_fewestThatHold h1 a2 Q)  s0
theorem kX10_hold_1 : Cond.fieldLink RX10 25 "GloveRail" "foresight" "LGloveRail$Foresight;" ∈ wsX10_hold := List.mem_of_getElem? (i := 1) rfl
theorem kX10_hold_2 : Cond.fieldLink RX10 10 "GloveRail" "now" "LGloveRail$Scene;" ∈ wsX10_hold := List.mem_of_getElem? (i := 2) rfl
theorem kX10_hold_3 : Cond.fieldLink RX10 57 "GloveRail$Scene" "street" "LGloveRail$Street;" ∈ wsX10_hold := List.mem_of_getElem? (i := 3) rfl
theorem iwX10_hold_X10 : ∀ w ∈ wsX100, w ∈ wsX10_hold := fun _ h => List.mem_cons_of_mem _ (List.mem_append_left _ (List.mem_append_left _ (List.mem_append_left _ (List.mem_append_right _ h))))
theorem iwX10_hold_X7 : ∀ w ∈ wsX70, w ∈ wsX10_hold := fun _ h => List.mem_cons_of_mem _ (List.mem_append_left _ (List.mem_append_left _ (List.mem_append_right _ h)))
/-- what is to hold at the entry of X10_hold -/
def B_X10_hold_e (a1 : Int32) (Q : Int32 → St → Prop) (Y : Nat → List Int32 → List Int64 → St → Prop)  (s0 : St) : Prop :=
  V_X10_within a1 1 60 s0 (fun r1 s1 => (r1 = 0 → (V_X10_bad  s1 (fun r2 s2 => Q r2 s2))) ∧ (¬ r1 = 0 → (V_X0_fewestThatHold 2 a1 s1 (fun r3 s3 => Q r3 s3))))
def T_X10_hold (a1 : Int32) (Q : Int32 → St → Prop) (Y : Nat → List Int32 → List Int64 → St → Prop) (P : Nat) (xs : List Int32) (ys : List Int64) (s0 : St) : Prop :=
  False
def R_X10_hold (a1 : Int32) (Q : Int32 → St → Prop) : Nat → List Int32 → List Int64 → St → Prop := Fx (T_X10_hold a1 Q)
def V_X10_hold (a1 : Int32) (s0 : St) (Q : Int32 → St → Prop) : Prop := B_X10_hold_e a1 Q (R_X10_hold a1 Q)  s0
theorem kX0_meetings_1 : Cond.fieldLink RX0 12 "GloveRail$Foresight" "ahead" "LGloveRail$Street;" ∈ wsX0_meetings := List.mem_of_getElem? (i := 1) rfl
theorem kX0_meetings_2 : Cond.fieldLink RX0 26 "GloveRail$Street" "spikes" "[I" ∈ wsX0_meetings := List.mem_of_getElem? (i := 2) rfl
theorem kX0_meetings_3 : Cond.fieldLink RX0 37 "GloveRail$Street" "gloves" "I" ∈ wsX0_meetings := List.mem_of_getElem? (i := 3) rfl
theorem iwX0_meetings_X0 : ∀ w ∈ wsX00, w ∈ wsX0_meetings := fun _ h => List.mem_cons_of_mem _ (List.mem_append_left _ (List.mem_append_right _ h))
theorem iwX0_meetings_X8 : ∀ w ∈ wsX80, w ∈ wsX0_meetings := fun _ h => List.mem_cons_of_mem _ (List.mem_append_right _ h)
/-- what is to hold at the entry of X0_meetings -/
def B_X0_meetings_e (h1 : Nat) (a2 : Int32) (a3 : Int32) (a4 : Int32) (Q : Int32 → St → Prop) (Y : Nat → List Int32 → List Int64 → St → Prop)  (s0 : St) : Prop :=
  Y 6 [0, 0] [] s0
/-- what is to hold at 6 of X0_meetings -/
def B_X0_meetings_6 (h1 : Nat) (a2 : Int32) (a3 : Int32) (a4 : Int32) (Q : Int32 → St → Prop) (Y : Nat → List Int32 → List Int64 → St → Prop) (x5 : Int32) (x6 : Int32) (s0 : St) : Prop :=
  (23 ≤ x6 → (Q x5 s0)) ∧ (¬ 23 ≤ x6 → (V_X8_copy 56 h1 s0 (fun s1 => V_X8_addGlove 56 a2 1 x6 s1 (fun r2 s2 => V_X8_pass 56 a4 s2 (fun s3 => vp_in ((s3 56 8) - 1) 8 ∧ (vp_in a3 8 ∧ ((¬ (s3 60 ((s3 56 8) - 1).toNatClampNeg) = (s3 60 a3.toNatClampNeg) → (Y 6 [x5, x6 + 1] [] s3)) ∧ ((s3 60 ((s3 56 8) - 1).toNatClampNeg) = (s3 60 a3.toNatClampNeg) → (∀ v4, v4 = x5 ||| ((1 : Int32) <<< (x6 &&& 31)) → (Y 6 [v4, x6 + 1] [] s3))))))))))
def T_X0_meetings (h1 : Nat) (a2 : Int32) (a3 : Int32) (a4 : Int32) (Q : Int32 → St → Prop) (Y : Nat → List Int32 → List Int64 → St → Prop) (P : Nat) (xs : List Int32) (ys : List Int64) (s0 : St) : Prop :=
  (P = 6 ∧ ∃ (x5 : Int32) (x6 : Int32), xs = [x5, x6] ∧ ys = [] ∧ B_X0_meetings_6 h1 a2 a3 a4 Q Y x5 x6 s0)
def R_X0_meetings (h1 : Nat) (a2 : Int32) (a3 : Int32) (a4 : Int32) (Q : Int32 → St → Prop) : Nat → List Int32 → List Int64 → St → Prop := Fx (T_X0_meetings h1 a2 a3 a4 Q)
theorem i_X0_meetings_6 (h1 : Nat) (a2 : Int32) (a3 : Int32) (a4 : Int32) (Q : Int32 → St → Prop) (x5 : Int32) (x6 : Int32) (s0 : St) (h : B_X0_meetings_6 h1 a2 a3 a4 Q (R_X0_meetings h1 a2 a3 a4 Q) x5 x6 s0) : R_X0_meetings h1 a2 a3 a4 Q 6 [x5, x6] [] s0 := Fx.intro (⟨rfl, x5, x6, rfl, rfl, h⟩)
def V_X0_meetings (h1 : Nat) (a2 : Int32) (a3 : Int32) (a4 : Int32) (s0 : St) (Q : Int32 → St → Prop) : Prop := B_X0_meetings_e h1 a2 a3 a4 Q (R_X0_meetings h1 a2 a3 a4 Q)  s0
theorem kX10_drop_1 : Cond.fieldLink RX10 25 "GloveRail" "foresight" "LGloveRail$Foresight;" ∈ wsX10_drop := List.mem_of_getElem? (i := 1) rfl
theorem kX10_drop_2 : Cond.fieldLink RX10 10 "GloveRail" "now" "LGloveRail$Scene;" ∈ wsX10_drop := List.mem_of_getElem? (i := 2) rfl
theorem kX10_drop_3 : Cond.fieldLink RX10 57 "GloveRail$Scene" "street" "LGloveRail$Street;" ∈ wsX10_drop := List.mem_of_getElem? (i := 3) rfl
theorem iwX10_drop_X10 : ∀ w ∈ wsX100, w ∈ wsX10_drop := fun _ h => List.mem_cons_of_mem _ (List.mem_append_left _ (List.mem_append_left _ (List.mem_append_left _ (List.mem_append_right _ h))))
theorem iwX10_drop_X7 : ∀ w ∈ wsX70, w ∈ wsX10_drop := fun _ h => List.mem_cons_of_mem _ (List.mem_append_left _ (List.mem_append_left _ (List.mem_append_right _ h)))
/-- what is to hold at the entry of X10_drop -/
def B_X10_drop_e (a1 : Int32) (a2 : Int32) (a3 : Int32) (Q : Int32 → St → Prop) (Y : Nat → List Int32 → List Int64 → St → Prop)  (s0 : St) : Prop :=
  V_X10_isKind a1 s0 (fun r1 s1 => (r1 = 0 → (V_X10_bad  s1 (fun r2 s2 => Q r2 s2))) ∧ (¬ r1 = 0 → (V_X10_isGlove a2 s1 (fun r3 s3 => (r3 = 0 → (V_X10_bad  s3 (fun r4 s4 => Q r4 s4))) ∧ (¬ r3 = 0 → (V_X10_within a3 1 30 s3 (fun r5 s5 => (¬ r5 = 0 → (V_X0_meetings 2 a1 a2 a3 s5 (fun r6 s6 => Q r6 s6))) ∧ (r5 = 0 → (V_X10_bad  s5 (fun r7 s7 => Q r7 s7))))))))))
def T_X10_drop (a1 : Int32) (a2 : Int32) (a3 : Int32) (Q : Int32 → St → Prop) (Y : Nat → List Int32 → List Int64 → St → Prop) (P : Nat) (xs : List Int32) (ys : List Int64) (s0 : St) : Prop :=
  False
def R_X10_drop (a1 : Int32) (a2 : Int32) (a3 : Int32) (Q : Int32 → St → Prop) : Nat → List Int32 → List Int64 → St → Prop := Fx (T_X10_drop a1 a2 a3 Q)
def V_X10_drop (a1 : Int32) (a2 : Int32) (a3 : Int32) (s0 : St) (Q : Int32 → St → Prop) : Prop := B_X10_drop_e a1 a2 a3 Q (R_X10_drop a1 a2 a3 Q)  s0
theorem kX6_add_1 : Cond.fieldLink RX6 32 "GloveRail$Rows" "size" "I" ∈ wsX6_add := List.mem_of_getElem? (i := 1) rfl
theorem kX6_add_2 : Cond.fieldLink RX6 19 "GloveRail$Rows" "most" "I" ∈ wsX6_add := List.mem_of_getElem? (i := 2) rfl
theorem kX6_add_3 : Cond.fieldLink RX6 9 "GloveRail$Rows" "cells" "[I" ∈ wsX6_add := List.mem_of_getElem? (i := 3) rfl
theorem iwX6_add_X6 : ∀ w ∈ wsX60, w ∈ wsX6_add := fun _ h => List.mem_cons_of_mem _ (List.mem_append_right _ h)
/-- what is to hold at the entry of X6_add -/
def B_X6_add_e (h0 : Nat) (a1 : Int32) (a2 : Int32) (a3 : Int32) (a4 : Int32) (Q : Int32 → St → Prop) (Y : Nat → List Int32 → List Int64 → St → Prop)  (s0 : St) : Prop :=
  ((s0 h0 3) < (s0 h0 1) → (vp_in ((s0 h0 3) * 4) 24 ∧ (∀ s1, s1 = us s0 (h0 + 1) (upd (s0 (h0 + 1)) ((s0 h0 3) * 4).toNatClampNeg a1) → (vp_in (((s0 h0 3) * 4) + 1) 24 ∧ (∀ s2, s2 = us s1 (h0 + 1) (upd (s1 (h0 + 1)) (((s0 h0 3) * 4) + 1).toNatClampNeg a2) → (vp_in (((s0 h0 3) * 4) + 2) 24 ∧ (∀ s3, s3 = us s2 (h0 + 1) (upd (s2 (h0 + 1)) (((s0 h0 3) * 4) + 2).toNatClampNeg a3) → (vp_in (((s0 h0 3) * 4) + 3) 24 ∧ (∀ s4, s4 = us s3 (h0 + 1) (upd (s3 (h0 + 1)) (((s0 h0 3) * 4) + 3).toNatClampNeg a4) → (∀ s5, s5 = us s4 h0 (upd (s4 h0) 3 ((s4 h0 3) + 1)) → (Q 1 s5))))))))))) ∧ (¬ (s0 h0 3) < (s0 h0 1) → (Q 0 s0))
def T_X6_add (h0 : Nat) (a1 : Int32) (a2 : Int32) (a3 : Int32) (a4 : Int32) (Q : Int32 → St → Prop) (Y : Nat → List Int32 → List Int64 → St → Prop) (P : Nat) (xs : List Int32) (ys : List Int64) (s0 : St) : Prop :=
  False
def R_X6_add (h0 : Nat) (a1 : Int32) (a2 : Int32) (a3 : Int32) (a4 : Int32) (Q : Int32 → St → Prop) : Nat → List Int32 → List Int64 → St → Prop := Fx (T_X6_add h0 a1 a2 a3 a4 Q)
def V_X6_add (h0 : Nat) (a1 : Int32) (a2 : Int32) (a3 : Int32) (a4 : Int32) (s0 : St) (Q : Int32 → St → Prop) : Prop := B_X6_add_e h0 a1 a2 a3 a4 Q (R_X6_add h0 a1 a2 a3 a4 Q)  s0
theorem kX10_told_1 : Cond.fieldLink RX10 334 "GloveRail$Rows" "size" "I" ∈ wsX10_told := List.mem_of_getElem? (i := 1) rfl
theorem iwX10_told_X6 : ∀ w ∈ wsX60, w ∈ wsX10_told := fun _ h => List.mem_cons_of_mem _ (List.mem_append_left _ (List.mem_append_right _ h))
/-- what is to hold at the entry of X10_told -/
def B_X10_told_e (h1 : Nat) (a2 : Int32) (Q : Int32 → St → Prop) (Y : Nat → List Int32 → List Int64 → St → Prop)  (s0 : St) : Prop :=
  (a2 = 0 → (V_X10_full  s0 (fun r1 s1 => Q r1 s1))) ∧ (¬ a2 = 0 → (Q (s0 h1 3) s0))
def T_X10_told (h1 : Nat) (a2 : Int32) (Q : Int32 → St → Prop) (Y : Nat → List Int32 → List Int64 → St → Prop) (P : Nat) (xs : List Int32) (ys : List Int64) (s0 : St) : Prop :=
  False
def R_X10_told (h1 : Nat) (a2 : Int32) (Q : Int32 → St → Prop) : Nat → List Int32 → List Int64 → St → Prop := Fx (T_X10_told h1 a2 Q)
def V_X10_told (h1 : Nat) (a2 : Int32) (s0 : St) (Q : Int32 → St → Prop) : Prop := B_X10_told_e h1 a2 Q (R_X10_told h1 a2 Q)  s0
theorem kX10_seen_1 : Cond.fieldLink RX10 10 "GloveRail" "now" "LGloveRail$Scene;" ∈ wsX10_seen := List.mem_of_getElem? (i := 1) rfl
theorem kX10_seen_2 : Cond.fieldLink RX10 240 "GloveRail$Scene" "seen" "LGloveRail$Rows;" ∈ wsX10_seen := List.mem_of_getElem? (i := 2) rfl
theorem iwX10_seen_X10 : ∀ w ∈ wsX100, w ∈ wsX10_seen := fun _ h => List.mem_cons_of_mem _ (List.mem_append_left _ (List.mem_append_left _ (List.mem_append_right _ h)))
theorem iwX10_seen_X7 : ∀ w ∈ wsX70, w ∈ wsX10_seen := fun _ h => List.mem_cons_of_mem _ (List.mem_append_left _ (List.mem_append_right _ h))
/-- what is to hold at the entry of X10_seen -/
def B_X10_seen_e (a1 : Int32) (a2 : Int32) (Q : Int32 → St → Prop) (Y : Nat → List Int32 → List Int64 → St → Prop)  (s0 : St) : Prop :=
  V_X10_within a1 0 60 s0 (fun r1 s1 => (r1 = 0 → (V_X10_bad  s1 (fun r2 s2 => Q r2 s2))) ∧ (¬ r1 = 0 → (V_X10_within a2 0 23 s1 (fun r3 s3 => (¬ r3 = 0 → (V_X6_add 13 a1 a2 0 0 s3 (fun r4 s4 => V_X10_told 13 r4 s4 (fun r5 s5 => Q r5 s5)))) ∧ (r3 = 0 → (V_X10_bad  s3 (fun r6 s6 => Q r6 s6)))))))
def T_X10_seen (a1 : Int32) (a2 : Int32) (Q : Int32 → St → Prop) (Y : Nat → List Int32 → List Int64 → St → Prop) (P : Nat) (xs : List Int32) (ys : List Int64) (s0 : St) : Prop :=
  False
def R_X10_seen (a1 : Int32) (a2 : Int32) (Q : Int32 → St → Prop) : Nat → List Int32 → List Int64 → St → Prop := Fx (T_X10_seen a1 a2 Q)
def V_X10_seen (a1 : Int32) (a2 : Int32) (s0 : St) (Q : Int32 → St → Prop) : Prop := B_X10_seen_e a1 a2 Q (R_X10_seen a1 a2 Q)  s0
theorem kX6_cell_1 : Cond.fieldLink RX6 9 "GloveRail$Rows" "cells" "[I" ∈ wsX6_cell := List.mem_of_getElem? (i := 1) rfl
theorem iwX6_cell_X6 : ∀ w ∈ wsX60, w ∈ wsX6_cell := fun _ h => List.mem_cons_of_mem _ (List.mem_append_right _ h)
/-- what is to hold at the entry of X6_cell -/
def B_X6_cell_e (h0 : Nat) (a1 : Int32) (a2 : Int32) (Q : Int32 → St → Prop) (Y : Nat → List Int32 → List Int64 → St → Prop)  (s0 : St) : Prop :=
  vp_in ((a1 * 4) + a2) 24 ∧ (Q (s0 (h0 + 1) ((a1 * 4) + a2).toNatClampNeg) s0)
def T_X6_cell (h0 : Nat) (a1 : Int32) (a2 : Int32) (Q : Int32 → St → Prop) (Y : Nat → List Int32 → List Int64 → St → Prop) (P : Nat) (xs : List Int32) (ys : List Int64) (s0 : St) : Prop :=
  False
def R_X6_cell (h0 : Nat) (a1 : Int32) (a2 : Int32) (Q : Int32 → St → Prop) : Nat → List Int32 → List Int64 → St → Prop := Fx (T_X6_cell h0 a1 a2 Q)
def V_X6_cell (h0 : Nat) (a1 : Int32) (a2 : Int32) (s0 : St) (Q : Int32 → St → Prop) : Prop := B_X6_cell_e h0 a1 a2 Q (R_X6_cell h0 a1 a2 Q)  s0
theorem kX0_thoseAt_1 : Cond.fieldLink RX0 12 "GloveRail$Foresight" "ahead" "LGloveRail$Street;" ∈ wsX0_thoseAt := List.mem_of_getElem? (i := 1) rfl
theorem kX0_thoseAt_2 : Cond.fieldLink RX0 37 "GloveRail$Street" "gloves" "I" ∈ wsX0_thoseAt := List.mem_of_getElem? (i := 2) rfl
theorem kX0_thoseAt_3 : Cond.fieldLink RX0 26 "GloveRail$Street" "spikes" "[I" ∈ wsX0_thoseAt := List.mem_of_getElem? (i := 3) rfl
theorem iwX0_thoseAt_X0 : ∀ w ∈ wsX00, w ∈ wsX0_thoseAt := fun _ h => List.mem_cons_of_mem _ (List.mem_append_left _ (List.mem_append_right _ h))
theorem iwX0_thoseAt_X8 : ∀ w ∈ wsX80, w ∈ wsX0_thoseAt := fun _ h => List.mem_cons_of_mem _ (List.mem_append_right _ h)
/-- what is to hold at the entry of X0_thoseAt -/
def B_X0_thoseAt_e (a1 : Int32) (Q : Int32 → St → Prop) (Y : Nat → List Int32 → List Int64 → St → Prop)  (s0 : St) : Prop :=
  Y 4 [0, 0] [] s0
/-- what is to hold at 4 of X0_thoseAt -/
def B_X0_thoseAt_4 (a1 : Int32) (Q : Int32 → St → Prop) (Y : Nat → List Int32 → List Int64 → St → Prop) (x2 : Int32) (x3 : Int32) (s0 : St) : Prop :=
  ((s0 56 8) ≤ x3 → (Q x2 s0)) ∧ (¬ (s0 56 8) ≤ x3 → (vp_in x3 8 ∧ ((¬ (s0 60 x3.toNatClampNeg) = a1 → (Y 4 [x2, x3 + 1] [] s0)) ∧ ((s0 60 x3.toNatClampNeg) = a1 → (∀ v1, v1 = x2 ||| ((1 : Int32) <<< (x3 &&& 31)) → (Y 4 [v1, x3 + 1] [] s0))))))
def T_X0_thoseAt (a1 : Int32) (Q : Int32 → St → Prop) (Y : Nat → List Int32 → List Int64 → St → Prop) (P : Nat) (xs : List Int32) (ys : List Int64) (s0 : St) : Prop :=
  (P = 4 ∧ ∃ (x2 : Int32) (x3 : Int32), xs = [x2, x3] ∧ ys = [] ∧ B_X0_thoseAt_4 a1 Q Y x2 x3 s0)
def R_X0_thoseAt (a1 : Int32) (Q : Int32 → St → Prop) : Nat → List Int32 → List Int64 → St → Prop := Fx (T_X0_thoseAt a1 Q)
theorem i_X0_thoseAt_4 (a1 : Int32) (Q : Int32 → St → Prop) (x2 : Int32) (x3 : Int32) (s0 : St) (h : B_X0_thoseAt_4 a1 Q (R_X0_thoseAt a1 Q) x2 x3 s0) : R_X0_thoseAt a1 Q 4 [x2, x3] [] s0 := Fx.intro (⟨rfl, x2, x3, rfl, rfl, h⟩)
def V_X0_thoseAt (a1 : Int32) (s0 : St) (Q : Int32 → St → Prop) : Prop := B_X0_thoseAt_e a1 Q (R_X0_thoseAt a1 Q)  s0
theorem kX0_seenThere_1 : Cond.fieldLink RX0 37 "GloveRail$Street" "gloves" "I" ∈ wsX0_seenThere := List.mem_of_getElem? (i := 1) rfl
theorem kX0_seenThere_2 : Cond.fieldLink RX0 12 "GloveRail$Foresight" "ahead" "LGloveRail$Street;" ∈ wsX0_seenThere := List.mem_of_getElem? (i := 2) rfl
theorem kX0_seenThere_3 : Cond.fieldLink RX0 80 "GloveRail$Rows" "size" "I" ∈ wsX0_seenThere := List.mem_of_getElem? (i := 3) rfl
theorem iwX0_seenThere_X0 : ∀ w ∈ wsX00, w ∈ wsX0_seenThere := fun _ h => List.mem_cons_of_mem _ (List.mem_append_left _ (List.mem_append_right _ h))
theorem iwX0_seenThere_X6 : ∀ w ∈ wsX60, w ∈ wsX0_seenThere := fun _ h => List.mem_cons_of_mem _ (List.mem_append_right _ h)
theorem iwX0_seenThere_X8 : ∀ w ∈ wsX80, w ∈ wsX0_seenThere := fun _ h => List.mem_cons_of_mem _ (List.mem_append_left _ (List.mem_append_left _ (List.mem_append_right _ h)))
/-- what is to hold at the entry of X0_seenThere -/
def B_X0_seenThere_e (h1 : Nat) (h2 : Nat) (Q : Int32 → St → Prop) (Y : Nat → List Int32 → List Int64 → St → Prop)  (s0 : St) : Prop :=
  ∀ v1, v1 = ((1 : Int32) <<< ((s0 h1 8) &&& 31)) - 1 → (V_X8_copy 56 h1 s0 (fun s2 => Y 20 [v1, 0] [] s2))
/-- what is to hold at 20 of X0_seenThere -/
def B_X0_seenThere_20 (h1 : Nat) (h2 : Nat) (Q : Int32 → St → Prop) (Y : Nat → List Int32 → List Int64 → St → Prop) (x3 : Int32) (x4 : Int32) (s0 : St) : Prop :=
  (60 < x4 → (Q x3 s0)) ∧ (¬ 60 < x4 → (Y 30 [x3, x4, 0] [] s0))
/-- what is to hold at 30 of X0_seenThere -/
def B_X0_seenThere_30 (h1 : Nat) (h2 : Nat) (Q : Int32 → St → Prop) (Y : Nat → List Int32 → List Int64 → St → Prop) (x3 : Int32) (x4 : Int32) (x5 : Int32) (s0 : St) : Prop :=
  ((s0 h2 3) ≤ x5 → (V_X8_passHour 56 s0 (fun s1 => Y 20 [x3, x4 + 1] [] s1))) ∧ (¬ (s0 h2 3) ≤ x5 → (V_X6_cell h2 x5 0 s0 (fun r2 s2 => (¬ r2 = x4 → (Y 30 [x3, x4, x5 + 1] [] s2)) ∧ (r2 = x4 → (V_X6_cell h2 x5 1 s2 (fun r3 s3 => V_X0_thoseAt r3 s3 (fun r4 s4 => Y 30 [x3 &&& r4, x4, x5 + 1] [] s4)))))))
def T_X0_seenThere (h1 : Nat) (h2 : Nat) (Q : Int32 → St → Prop) (Y : Nat → List Int32 → List Int64 → St → Prop) (P : Nat) (xs : List Int32) (ys : List Int64) (s0 : St) : Prop :=
  (P = 20 ∧ ∃ (x3 : Int32) (x4 : Int32), xs = [x3, x4] ∧ ys = [] ∧ B_X0_seenThere_20 h1 h2 Q Y x3 x4 s0) ∨ (P = 30 ∧ ∃ (x3 : Int32) (x4 : Int32) (x5 : Int32), xs = [x3, x4, x5] ∧ ys = [] ∧ B_X0_seenThere_30 h1 h2 Q Y x3 x4 x5 s0)
def R_X0_seenThere (h1 : Nat) (h2 : Nat) (Q : Int32 → St → Prop) : Nat → List Int32 → List Int64 → St → Prop := Fx (T_X0_seenThere h1 h2 Q)
theorem i_X0_seenThere_20 (h1 : Nat) (h2 : Nat) (Q : Int32 → St → Prop) (x3 : Int32) (x4 : Int32) (s0 : St) (h : B_X0_seenThere_20 h1 h2 Q (R_X0_seenThere h1 h2 Q) x3 x4 s0) : R_X0_seenThere h1 h2 Q 20 [x3, x4] [] s0 := Fx.intro (Or.inl ⟨rfl, x3, x4, rfl, rfl, h⟩)
theorem i_X0_seenThere_30 (h1 : Nat) (h2 : Nat) (Q : Int32 → St → Prop) (x3 : Int32) (x4 : Int32) (x5 : Int32) (s0 : St) (h : B_X0_seenThere_30 h1 h2 Q (R_X0_seenThere h1 h2 Q) x3 x4 x5 s0) : R_X0_seenThere h1 h2 Q 30 [x3, x4, x5] [] s0 := Fx.intro (Or.inr (⟨rfl, x3, x4, x5, rfl, rfl, h⟩))
def V_X0_seenThere (h1 : Nat) (h2 : Nat) (s0 : St) (Q : Int32 → St → Prop) : Prop := B_X0_seenThere_e h1 h2 Q (R_X0_seenThere h1 h2 Q)  s0
theorem kX10_which_1 : Cond.fieldLink RX10 25 "GloveRail" "foresight" "LGloveRail$Foresight;" ∈ wsX10_which := List.mem_of_getElem? (i := 1) rfl
theorem kX10_which_2 : Cond.fieldLink RX10 10 "GloveRail" "now" "LGloveRail$Scene;" ∈ wsX10_which := List.mem_of_getElem? (i := 2) rfl
theorem kX10_which_3 : Cond.fieldLink RX10 57 "GloveRail$Scene" "street" "LGloveRail$Street;" ∈ wsX10_which := List.mem_of_getElem? (i := 3) rfl
theorem kX10_which_4 : Cond.fieldLink RX10 240 "GloveRail$Scene" "seen" "LGloveRail$Rows;" ∈ wsX10_which := List.mem_of_getElem? (i := 4) rfl
theorem iwX10_which_X10 : ∀ w ∈ wsX100, w ∈ wsX10_which := fun _ h => List.mem_cons_of_mem _ (List.mem_append_left _ (List.mem_append_left _ (List.mem_append_left _ (List.mem_append_left _ (List.mem_append_right _ h)))))
theorem iwX10_which_X7 : ∀ w ∈ wsX70, w ∈ wsX10_which := fun _ h => List.mem_cons_of_mem _ (List.mem_append_left _ (List.mem_append_left _ (List.mem_append_left _ (List.mem_append_right _ h))))
/-- what is to hold at the entry of X10_which -/
def B_X10_which_e  (Q : Int32 → St → Prop) (Y : Nat → List Int32 → List Int64 → St → Prop)  (s0 : St) : Prop :=
  V_X0_seenThere 2 13 s0 (fun r1 s1 => Q r1 s1)
def T_X10_which  (Q : Int32 → St → Prop) (Y : Nat → List Int32 → List Int64 → St → Prop) (P : Nat) (xs : List Int32) (ys : List Int64) (s0 : St) : Prop :=
  False
def R_X10_which  (Q : Int32 → St → Prop) : Nat → List Int32 → List Int64 → St → Prop := Fx (T_X10_which  Q)
def V_X10_which  (s0 : St) (Q : Int32 → St → Prop) : Prop := B_X10_which_e  Q (R_X10_which  Q)  s0
theorem kX3_begin_1 : Cond.fieldLink RX3 17 "GloveRail$Parting" "best" "I" ∈ wsX3_begin := List.mem_of_getElem? (i := 1) rfl
theorem kX3_begin_2 : Cond.fieldLink RX3 11 "GloveRail$Parting" "alike" "[I" ∈ wsX3_begin := List.mem_of_getElem? (i := 2) rfl
theorem kX3_begin_3 : Cond.fieldLink RX3 21 "GloveRail$Parting" "fewest" "I" ∈ wsX3_begin := List.mem_of_getElem? (i := 3) rfl
theorem iwX3_begin_X3 : ∀ w ∈ wsX30, w ∈ wsX3_begin := fun _ h => List.mem_cons_of_mem _ (List.mem_append_right _ h)
/-- what is to hold at the entry of X3_begin -/
def B_X3_begin_e  (Q : St → Prop) (Y : Nat → List Int32 → List Int64 → St → Prop)  (s0 : St) : Prop :=
  ∀ s1, s1 = us s0 67 (upd (s0 67) 3 ((-1))) → (∀ s2, s2 = us s1 67 (upd (s1 67) 2 24) → (Q s2))
def T_X3_begin  (Q : St → Prop) (Y : Nat → List Int32 → List Int64 → St → Prop) (P : Nat) (xs : List Int32) (ys : List Int64) (s0 : St) : Prop :=
  False
def R_X3_begin  (Q : St → Prop) : Nat → List Int32 → List Int64 → St → Prop := Fx (T_X3_begin  Q)
def V_X3_begin  (s0 : St) (Q : St → Prop) : Prop := B_X3_begin_e  Q (R_X3_begin  Q)  s0
theorem kX3_empty_1 : Cond.fieldLink RX3 11 "GloveRail$Parting" "alike" "[I" ∈ wsX3_empty := List.mem_of_getElem? (i := 1) rfl
theorem kX3_empty_2 : Cond.fieldLink RX3 24 "GloveRail$Parting" "most" "I" ∈ wsX3_empty := List.mem_of_getElem? (i := 2) rfl
theorem iwX3_empty_X3 : ∀ w ∈ wsX30, w ∈ wsX3_empty := fun _ h => List.mem_cons_of_mem _ (List.mem_append_right _ h)
/-- what is to hold at the entry of X3_empty -/
def B_X3_empty_e  (Q : St → Prop) (Y : Nat → List Int32 → List Int64 → St → Prop)  (s0 : St) : Prop :=
  Y 2 [0] [] s0
/-- what is to hold at 2 of X3_empty -/
def B_X3_empty_2  (Q : St → Prop) (Y : Nat → List Int32 → List Int64 → St → Prop) (x1 : Int32) (s0 : St) : Prop :=
  (24 ≤ x1 → (∀ s1, s1 = us s0 67 (upd (s0 67) 1 0) → (Q s1))) ∧ (¬ 24 ≤ x1 → (vp_in x1 24 ∧ (∀ s2, s2 = us s0 68 (upd (s0 68) x1.toNatClampNeg 0) → (Y 2 [x1 + 1] [] s2))))
def T_X3_empty  (Q : St → Prop) (Y : Nat → List Int32 → List Int64 → St → Prop) (P : Nat) (xs : List Int32) (ys : List Int64) (s0 : St) : Prop :=
  (P = 2 ∧ ∃ (x1 : Int32), xs = [x1] ∧ ys = [] ∧ B_X3_empty_2  Q Y x1 s0)
def R_X3_empty  (Q : St → Prop) : Nat → List Int32 → List Int64 → St → Prop := Fx (T_X3_empty  Q)
theorem i_X3_empty_2  (Q : St → Prop) (x1 : Int32) (s0 : St) (h : B_X3_empty_2  Q (R_X3_empty  Q) x1 s0) : R_X3_empty  Q 2 [x1] [] s0 := Fx.intro (⟨rfl, x1, rfl, rfl, h⟩)
def V_X3_empty  (s0 : St) (Q : St → Prop) : Prop := B_X3_empty_e  Q (R_X3_empty  Q)  s0
theorem kX3_add_1 : Cond.fieldLink RX3 11 "GloveRail$Parting" "alike" "[I" ∈ wsX3_add := List.mem_of_getElem? (i := 1) rfl
theorem kX3_add_2 : Cond.fieldLink RX3 24 "GloveRail$Parting" "most" "I" ∈ wsX3_add := List.mem_of_getElem? (i := 2) rfl
theorem kX3_add_3 : Cond.methodLink RX3 27 Lib.Math.max.name ∈ wsX3_add := List.mem_of_getElem? (i := 3) rfl
theorem kX3_add_4 : Cond.static Lib.Math.max.name ∈ wsX3_add := List.mem_of_getElem? (i := 4) rfl
theorem kX3_add_5 : Cond.initialized "java/lang/Math" ∈ wsX3_add := List.mem_of_getElem? (i := 5) rfl
theorem kX3_add_6 : Cond.code Lib.Math.max.name Lib.Math.max.code 2 (some .int) ∈ wsX3_add := List.mem_of_getElem? (i := 6) rfl
theorem iwX3_add_X3 : ∀ w ∈ wsX30, w ∈ wsX3_add := fun _ h => List.mem_cons_of_mem _ (List.mem_append_right _ h)
/-- what is to hold at the entry of X3_add -/
def B_X3_add_e (a1 : Int32) (Q : St → Prop) (Y : Nat → List Int32 → List Int64 → St → Prop)  (s0 : St) : Prop :=
  (a1 < 0 → (Q s0)) ∧ (¬ a1 < 0 → ((24 ≤ a1 → (Q s0)) ∧ (¬ 24 ≤ a1 → (vp_in a1 24 ∧ (vp_in a1 24 ∧ (∀ s1, s1 = us s0 68 (upd (s0 68) a1.toNatClampNeg ((s0 68 a1.toNatClampNeg) + 1)) → (vp_in a1 24 ∧ (∀ s2, s2 = us s1 67 (upd (s1 67) 1 ((if (s1 67 1) < (s1 68 a1.toNatClampNeg) then (s1 68 a1.toNatClampNeg) else (s1 67 1)))) → (Q s2)))))))))
def T_X3_add (a1 : Int32) (Q : St → Prop) (Y : Nat → List Int32 → List Int64 → St → Prop) (P : Nat) (xs : List Int32) (ys : List Int64) (s0 : St) : Prop :=
  False
def R_X3_add (a1 : Int32) (Q : St → Prop) : Nat → List Int32 → List Int64 → St → Prop := Fx (T_X3_add a1 Q)
def V_X3_add (a1 : Int32) (s0 : St) (Q : St → Prop) : Prop := B_X3_add_e a1 Q (R_X3_add a1 Q)  s0
theorem kX3_offer_1 : Cond.fieldLink RX3 24 "GloveRail$Parting" "most" "I" ∈ wsX3_offer := List.mem_of_getElem? (i := 1) rfl
theorem kX3_offer_2 : Cond.fieldLink RX3 21 "GloveRail$Parting" "fewest" "I" ∈ wsX3_offer := List.mem_of_getElem? (i := 2) rfl
theorem kX3_offer_3 : Cond.fieldLink RX3 17 "GloveRail$Parting" "best" "I" ∈ wsX3_offer := List.mem_of_getElem? (i := 3) rfl
theorem iwX3_offer_X3 : ∀ w ∈ wsX30, w ∈ wsX3_offer := fun _ h => List.mem_cons_of_mem _ (List.mem_append_right _ h)
/-- what is to hold at the entry of X3_offer -/
def B_X3_offer_e (a1 : Int32) (Q : St → Prop) (Y : Nat → List Int32 → List Int64 → St → Prop)  (s0 : St) : Prop :=
  ((s0 67 1) ≤ 0 → (Q s0)) ∧ (¬ (s0 67 1) ≤ 0 → (((s0 67 2) ≤ (s0 67 1) → (Q s0)) ∧ (¬ (s0 67 2) ≤ (s0 67 1) → (∀ s1, s1 = us s0 67 (upd (s0 67) 2 (s0 67 1)) → (∀ s2, s2 = us s1 67 (upd (s1 67) 3 a1) → (Q s2))))))
def T_X3_offer (a1 : Int32) (Q : St → Prop) (Y : Nat → List Int32 → List Int64 → St → Prop) (P : Nat) (xs : List Int32) (ys : List Int64) (s0 : St) : Prop :=
  False
def R_X3_offer (a1 : Int32) (Q : St → Prop) : Nat → List Int32 → List Int64 → St → Prop := Fx (T_X3_offer a1 Q)
def V_X3_offer (a1 : Int32) (s0 : St) (Q : St → Prop) : Prop := B_X3_offer_e a1 Q (R_X3_offer a1 Q)  s0
theorem kX0_hoursThatPart_1 : Cond.fieldLink RX0 12 "GloveRail$Foresight" "ahead" "LGloveRail$Street;" ∈ wsX0_hoursThatPart := List.mem_of_getElem? (i := 1) rfl
theorem kX0_hoursThatPart_2 : Cond.fieldLink RX0 37 "GloveRail$Street" "gloves" "I" ∈ wsX0_hoursThatPart := List.mem_of_getElem? (i := 2) rfl
theorem kX0_hoursThatPart_3 : Cond.fieldLink RX0 26 "GloveRail$Street" "spikes" "[I" ∈ wsX0_hoursThatPart := List.mem_of_getElem? (i := 3) rfl
theorem kX0_hoursThatPart_4 : Cond.fieldLink RX0 106 "GloveRail$Parting" "best" "I" ∈ wsX0_hoursThatPart := List.mem_of_getElem? (i := 4) rfl
theorem iwX0_hoursThatPart_X0 : ∀ w ∈ wsX00, w ∈ wsX0_hoursThatPart := fun _ h => List.mem_cons_of_mem _ (List.mem_append_left _ (List.mem_append_left _ (List.mem_append_right _ h)))
theorem iwX0_hoursThatPart_X3 : ∀ w ∈ wsX30, w ∈ wsX0_hoursThatPart := fun _ h => List.mem_cons_of_mem _ (List.mem_append_right _ h)
theorem iwX0_hoursThatPart_X8 : ∀ w ∈ wsX80, w ∈ wsX0_hoursThatPart := fun _ h => List.mem_cons_of_mem _ (List.mem_append_left _ (List.mem_append_right _ h))
/-- what is to hold at the entry of X0_hoursThatPart -/
def B_X0_hoursThatPart_e (h1 : Nat) (a2 : Int32) (Q : Int32 → St → Prop) (Y : Nat → List Int32 → List Int64 → St → Prop)  (s0 : St) : Prop :=
  V_X8_copy 56 h1 s0 (fun s1 => V_X3_begin  s1 (fun s2 => Y 15 [0] [] s2))
/-- what is to hold at 15 of X0_hoursThatPart -/
def B_X0_hoursThatPart_15 (h1 : Nat) (a2 : Int32) (Q : Int32 → St → Prop) (Y : Nat → List Int32 → List Int64 → St → Prop) (x4 : Int32) (s0 : St) : Prop :=
  (20 < x4 → (Q (s0 67 3) s0)) ∧ (¬ 20 < x4 → (V_X3_empty  s0 (fun s1 => Y 29 [x4, 0] [] s1)))
/-- what is to hold at 29 of X0_hoursThatPart -/
def B_X0_hoursThatPart_29 (h1 : Nat) (a2 : Int32) (Q : Int32 → St → Prop) (Y : Nat → List Int32 → List Int64 → St → Prop) (x4 : Int32) (x5 : Int32) (s0 : St) : Prop :=
  ((s0 56 8) ≤ x5 → (V_X3_offer x4 s0 (fun s1 => V_X8_passHour 56 s1 (fun s2 => Y 15 [x4 + 1] [] s2)))) ∧ (¬ (s0 56 8) ≤ x5 → ((¬ ((a2 >>> (x5 &&& 31)) &&& 1) = 1 → (Y 29 [x4, x5 + 1] [] s0)) ∧ (((a2 >>> (x5 &&& 31)) &&& 1) = 1 → (vp_in x5 8 ∧ (V_X3_add (s0 60 x5.toNatClampNeg) s0 (fun s3 => Y 29 [x4, x5 + 1] [] s3))))))
def T_X0_hoursThatPart (h1 : Nat) (a2 : Int32) (Q : Int32 → St → Prop) (Y : Nat → List Int32 → List Int64 → St → Prop) (P : Nat) (xs : List Int32) (ys : List Int64) (s0 : St) : Prop :=
  (P = 15 ∧ ∃ (x4 : Int32), xs = [x4] ∧ ys = [] ∧ B_X0_hoursThatPart_15 h1 a2 Q Y x4 s0) ∨ (P = 29 ∧ ∃ (x4 : Int32) (x5 : Int32), xs = [x4, x5] ∧ ys = [] ∧ B_X0_hoursThatPart_29 h1 a2 Q Y x4 x5 s0)
def R_X0_hoursThatPart (h1 : Nat) (a2 : Int32) (Q : Int32 → St → Prop) : Nat → List Int32 → List Int64 → St → Prop := Fx (T_X0_hoursThatPart h1 a2 Q)
theorem i_X0_hoursThatPart_15 (h1 : Nat) (a2 : Int32) (Q : Int32 → St → Prop) (x4 : Int32) (s0 : St) (h : B_X0_hoursThatPart_15 h1 a2 Q (R_X0_hoursThatPart h1 a2 Q) x4 s0) : R_X0_hoursThatPart h1 a2 Q 15 [x4] [] s0 := Fx.intro (Or.inl ⟨rfl, x4, rfl, rfl, h⟩)
theorem i_X0_hoursThatPart_29 (h1 : Nat) (a2 : Int32) (Q : Int32 → St → Prop) (x4 : Int32) (x5 : Int32) (s0 : St) (h : B_X0_hoursThatPart_29 h1 a2 Q (R_X0_hoursThatPart h1 a2 Q) x4 x5 s0) : R_X0_hoursThatPart h1 a2 Q 29 [x4, x5] [] s0 := Fx.intro (Or.inr (⟨rfl, x4, x5, rfl, rfl, h⟩))
def V_X0_hoursThatPart (h1 : Nat) (a2 : Int32) (s0 : St) (Q : Int32 → St → Prop) : Prop := B_X0_hoursThatPart_e h1 a2 Q (R_X0_hoursThatPart h1 a2 Q)  s0
theorem kX10_tell_1 : Cond.fieldLink RX10 25 "GloveRail" "foresight" "LGloveRail$Foresight;" ∈ wsX10_tell := List.mem_of_getElem? (i := 1) rfl
theorem kX10_tell_2 : Cond.fieldLink RX10 10 "GloveRail" "now" "LGloveRail$Scene;" ∈ wsX10_tell := List.mem_of_getElem? (i := 2) rfl
theorem kX10_tell_3 : Cond.fieldLink RX10 57 "GloveRail$Scene" "street" "LGloveRail$Street;" ∈ wsX10_tell := List.mem_of_getElem? (i := 3) rfl
theorem kX10_tell_4 : Cond.fieldLink RX10 39 "GloveRail" "parting" "LGloveRail$Parting;" ∈ wsX10_tell := List.mem_of_getElem? (i := 4) rfl
theorem iwX10_tell_X10 : ∀ w ∈ wsX100, w ∈ wsX10_tell := fun _ h => List.mem_cons_of_mem _ (List.mem_append_left _ (List.mem_append_left _ (List.mem_append_left _ (List.mem_append_left _ (List.mem_append_left _ (List.mem_append_right _ h))))))
theorem iwX10_tell_X7 : ∀ w ∈ wsX70, w ∈ wsX10_tell := fun _ h => List.mem_cons_of_mem _ (List.mem_append_left _ (List.mem_append_left _ (List.mem_append_left _ (List.mem_append_left _ (List.mem_append_right _ h)))))
/-- what is to hold at the entry of X10_tell -/
def B_X10_tell_e  (Q : Int32 → St → Prop) (Y : Nat → List Int32 → List Int64 → St → Prop)  (s0 : St) : Prop :=
  V_X10_which  s0 (fun r1 s1 => V_X0_hoursThatPart 2 r1 s1 (fun r2 s2 => Q r2 s2))
def T_X10_tell  (Q : Int32 → St → Prop) (Y : Nat → List Int32 → List Int64 → St → Prop) (P : Nat) (xs : List Int32) (ys : List Int64) (s0 : St) : Prop :=
  False
def R_X10_tell  (Q : Int32 → St → Prop) : Nat → List Int32 → List Int64 → St → Prop := Fx (T_X10_tell  Q)
def V_X10_tell  (s0 : St) (Q : Int32 → St → Prop) : Prop := B_X10_tell_e  Q (R_X10_tell  Q)  s0
/-- what is to hold at the entry of X10_isTold -/
def B_X10_isTold_e (a0 : Int32) (a1 : Int32) (Q : Int32 → St → Prop) (Y : Nat → List Int32 → List Int64 → St → Prop)  (s0 : St) : Prop :=
  V_X10_within a0 0 99 s0 (fun r1 s1 => (r1 = 0 → (Q 0 s1)) ∧ (¬ r1 = 0 → (V_X10_within a1 0 20 s1 (fun r2 s2 => (r2 = 0 → (Q 0 s2)) ∧ (¬ r2 = 0 → (Q 1 s2))))))
def T_X10_isTold (a0 : Int32) (a1 : Int32) (Q : Int32 → St → Prop) (Y : Nat → List Int32 → List Int64 → St → Prop) (P : Nat) (xs : List Int32) (ys : List Int64) (s0 : St) : Prop :=
  False
def R_X10_isTold (a0 : Int32) (a1 : Int32) (Q : Int32 → St → Prop) : Nat → List Int32 → List Int64 → St → Prop := Fx (T_X10_isTold a0 a1 Q)
def V_X10_isTold (a0 : Int32) (a1 : Int32) (s0 : St) (Q : Int32 → St → Prop) : Prop := B_X10_isTold_e a0 a1 Q (R_X10_isTold a0 a1 Q)  s0
theorem kX10_note_1 : Cond.fieldLink RX10 10 "GloveRail" "now" "LGloveRail$Scene;" ∈ wsX10_note := List.mem_of_getElem? (i := 1) rfl
theorem kX10_note_2 : Cond.fieldLink RX10 269 "GloveRail$Scene" "notes" "LGloveRail$Rows;" ∈ wsX10_note := List.mem_of_getElem? (i := 2) rfl
theorem iwX10_note_X10 : ∀ w ∈ wsX100, w ∈ wsX10_note := fun _ h => List.mem_cons_of_mem _ (List.mem_append_left _ (List.mem_append_left _ (List.mem_append_left _ (List.mem_append_right _ h))))
theorem iwX10_note_X7 : ∀ w ∈ wsX70, w ∈ wsX10_note := fun _ h => List.mem_cons_of_mem _ (List.mem_append_left _ (List.mem_append_left _ (List.mem_append_right _ h)))
/-- what is to hold at the entry of X10_note -/
def B_X10_note_e (a1 : Int32) (a2 : Int32) (a3 : Int32) (a4 : Int32) (Q : Int32 → St → Prop) (Y : Nat → List Int32 → List Int64 → St → Prop)  (s0 : St) : Prop :=
  V_X10_isGlove a1 s0 (fun r1 s1 => (r1 = 0 → (V_X10_bad  s1 (fun r2 s2 => Q r2 s2))) ∧ (¬ r1 = 0 → (V_X10_within a3 0 4 s1 (fun r3 s3 => (r3 = 0 → (V_X10_bad  s3 (fun r4 s4 => Q r4 s4))) ∧ (¬ r3 = 0 → (V_X10_isTold a2 a4 s3 (fun r5 s5 => (¬ r5 = 0 → (V_X6_add 15 a1 a2 a3 a4 s5 (fun r6 s6 => V_X10_told 15 r6 s6 (fun r7 s7 => Q r7 s7)))) ∧ (r5 = 0 → (V_X10_bad  s5 (fun r8 s8 => Q r8 s8))))))))))
def T_X10_note (a1 : Int32) (a2 : Int32) (a3 : Int32) (a4 : Int32) (Q : Int32 → St → Prop) (Y : Nat → List Int32 → List Int64 → St → Prop) (P : Nat) (xs : List Int32) (ys : List Int64) (s0 : St) : Prop :=
  False
def R_X10_note (a1 : Int32) (a2 : Int32) (a3 : Int32) (a4 : Int32) (Q : Int32 → St → Prop) : Nat → List Int32 → List Int64 → St → Prop := Fx (T_X10_note a1 a2 a3 a4 Q)
def V_X10_note (a1 : Int32) (a2 : Int32) (a3 : Int32) (a4 : Int32) (s0 : St) (Q : Int32 → St → Prop) : Prop := B_X10_note_e a1 a2 a3 a4 Q (R_X10_note a1 a2 a3 a4 Q)  s0
theorem kX10_mark_1 : Cond.fieldLink RX10 10 "GloveRail" "now" "LGloveRail$Scene;" ∈ wsX10_mark := List.mem_of_getElem? (i := 1) rfl
theorem kX10_mark_2 : Cond.fieldLink RX10 272 "GloveRail$Scene" "marks" "LGloveRail$Rows;" ∈ wsX10_mark := List.mem_of_getElem? (i := 2) rfl
theorem iwX10_mark_X10 : ∀ w ∈ wsX100, w ∈ wsX10_mark := fun _ h => List.mem_cons_of_mem _ (List.mem_append_left _ (List.mem_append_left _ (List.mem_append_left _ (List.mem_append_right _ h))))
theorem iwX10_mark_X7 : ∀ w ∈ wsX70, w ∈ wsX10_mark := fun _ h => List.mem_cons_of_mem _ (List.mem_append_left _ (List.mem_append_left _ (List.mem_append_right _ h)))
/-- what is to hold at the entry of X10_mark -/
def B_X10_mark_e (a1 : Int32) (a2 : Int32) (a3 : Int32) (a4 : Int32) (Q : Int32 → St → Prop) (Y : Nat → List Int32 → List Int64 → St → Prop)  (s0 : St) : Prop :=
  V_X10_isCrossing a1 s0 (fun r1 s1 => (r1 = 0 → (V_X10_bad  s1 (fun r2 s2 => Q r2 s2))) ∧ (¬ r1 = 0 → (V_X10_within a3 1 7 s1 (fun r3 s3 => (r3 = 0 → (V_X10_bad  s3 (fun r4 s4 => Q r4 s4))) ∧ (¬ r3 = 0 → (V_X10_isTold a2 a4 s3 (fun r5 s5 => (¬ r5 = 0 → (V_X6_add 17 a1 a2 a3 a4 s5 (fun r6 s6 => V_X10_told 17 r6 s6 (fun r7 s7 => Q r7 s7)))) ∧ (r5 = 0 → (V_X10_bad  s5 (fun r8 s8 => Q r8 s8))))))))))
def T_X10_mark (a1 : Int32) (a2 : Int32) (a3 : Int32) (a4 : Int32) (Q : Int32 → St → Prop) (Y : Nat → List Int32 → List Int64 → St → Prop) (P : Nat) (xs : List Int32) (ys : List Int64) (s0 : St) : Prop :=
  False
def R_X10_mark (a1 : Int32) (a2 : Int32) (a3 : Int32) (a4 : Int32) (Q : Int32 → St → Prop) : Nat → List Int32 → List Int64 → St → Prop := Fx (T_X10_mark a1 a2 a3 a4 Q)
def V_X10_mark (a1 : Int32) (a2 : Int32) (a3 : Int32) (a4 : Int32) (s0 : St) (Q : Int32 → St → Prop) : Prop := B_X10_mark_e a1 a2 a3 a4 Q (R_X10_mark a1 a2 a3 a4 Q)  s0
theorem kX10_forget_1 : Cond.fieldLink RX10 10 "GloveRail" "now" "LGloveRail$Scene;" ∈ wsX10_forget := List.mem_of_getElem? (i := 1) rfl
theorem kX10_forget_2 : Cond.fieldLink RX10 240 "GloveRail$Scene" "seen" "LGloveRail$Rows;" ∈ wsX10_forget := List.mem_of_getElem? (i := 2) rfl
theorem kX10_forget_3 : Cond.fieldLink RX10 269 "GloveRail$Scene" "notes" "LGloveRail$Rows;" ∈ wsX10_forget := List.mem_of_getElem? (i := 3) rfl
theorem kX10_forget_4 : Cond.fieldLink RX10 272 "GloveRail$Scene" "marks" "LGloveRail$Rows;" ∈ wsX10_forget := List.mem_of_getElem? (i := 4) rfl
theorem iwX10_forget_X10 : ∀ w ∈ wsX100, w ∈ wsX10_forget := fun _ h => List.mem_cons_of_mem _ (List.mem_append_left _ (List.mem_append_left _ (List.mem_append_right _ h)))
theorem iwX10_forget_X7 : ∀ w ∈ wsX70, w ∈ wsX10_forget := fun _ h => List.mem_cons_of_mem _ (List.mem_append_left _ (List.mem_append_right _ h))
/-- what is to hold at the entry of X10_forget -/
def B_X10_forget_e (a1 : Int32) (Q : Int32 → St → Prop) (Y : Nat → List Int32 → List Int64 → St → Prop)  (s0 : St) : Prop :=
  (a1 = 0 → (V_X6_empty 13 s0 (fun r1 s1 => Q r1 s1))) ∧ (¬ a1 = 0 → ((a1 = 1 → (V_X6_empty 15 s0 (fun r2 s2 => Q r2 s2))) ∧ (¬ a1 = 1 → ((a1 = 2 → (V_X6_empty 17 s0 (fun r3 s3 => Q r3 s3))) ∧ (¬ a1 = 2 → (V_X10_bad  s0 (fun r4 s4 => Q r4 s4)))))))
def T_X10_forget (a1 : Int32) (Q : Int32 → St → Prop) (Y : Nat → List Int32 → List Int64 → St → Prop) (P : Nat) (xs : List Int32) (ys : List Int64) (s0 : St) : Prop :=
  False
def R_X10_forget (a1 : Int32) (Q : Int32 → St → Prop) : Nat → List Int32 → List Int64 → St → Prop := Fx (T_X10_forget a1 Q)
def V_X10_forget (a1 : Int32) (s0 : St) (Q : Int32 → St → Prop) : Prop := B_X10_forget_e a1 Q (R_X10_forget a1 Q)  s0
/-- what is to hold at the entry of X1_says -/
def B_X1_says_e (a0 : Int32) (a1 : Int32) (a2 : Int32) (a3 : Int32) (Q : Int32 → St → Prop) (Y : Nat → List Int32 → List Int64 → St → Prop)  (s0 : St) : Prop :=
  (a0 = 0 → (V_X1_letOver a1 a2 a3 s0 (fun r1 s1 => Q r1 s1))) ∧ (¬ a0 = 0 → (V_X1_spikesGone a1 a2 a3 s0 (fun r2 s2 => Q r2 s2)))
def T_X1_says (a0 : Int32) (a1 : Int32) (a2 : Int32) (a3 : Int32) (Q : Int32 → St → Prop) (Y : Nat → List Int32 → List Int64 → St → Prop) (P : Nat) (xs : List Int32) (ys : List Int64) (s0 : St) : Prop :=
  False
def R_X1_says (a0 : Int32) (a1 : Int32) (a2 : Int32) (a3 : Int32) (Q : Int32 → St → Prop) : Nat → List Int32 → List Int64 → St → Prop := Fx (T_X1_says a0 a1 a2 a3 Q)
def V_X1_says (a0 : Int32) (a1 : Int32) (a2 : Int32) (a3 : Int32) (s0 : St) (Q : Int32 → St → Prop) : Prop := B_X1_says_e a0 a1 a2 a3 Q (R_X1_says a0 a1 a2 a3 Q)  s0
theorem kX10_kindsThatFit_1 : Cond.fieldLink RX10 334 "GloveRail$Rows" "size" "I" ∈ wsX10_kindsThatFit := List.mem_of_getElem? (i := 1) rfl
theorem iwX10_kindsThatFit_X6 : ∀ w ∈ wsX60, w ∈ wsX10_kindsThatFit := fun _ h => List.mem_cons_of_mem _ (List.mem_append_right _ h)
/-- what is to hold at the entry of X10_kindsThatFit -/
def B_X10_kindsThatFit_e (h0 : Nat) (a1 : Int32) (a2 : Int32) (Q : Int32 → St → Prop) (Y : Nat → List Int32 → List Int64 → St → Prop)  (s0 : St) : Prop :=
  Y 5 [0, 0] [] s0
/-- what is to hold at 5 of X10_kindsThatFit -/
def B_X10_kindsThatFit_5 (h0 : Nat) (a1 : Int32) (a2 : Int32) (Q : Int32 → St → Prop) (Y : Nat → List Int32 → List Int64 → St → Prop) (x3 : Int32) (x4 : Int32) (s0 : St) : Prop :=
  (6 ≤ x4 → (Q x3 s0)) ∧ (¬ 6 ≤ x4 → (Y 18 [x3, x4, 1, 0] [] s0))
/-- what is to hold at 18 of X10_kindsThatFit -/
def B_X10_kindsThatFit_18 (h0 : Nat) (a1 : Int32) (a2 : Int32) (Q : Int32 → St → Prop) (Y : Nat → List Int32 → List Int64 → St → Prop) (x3 : Int32) (x4 : Int32) (x5 : Int32) (x6 : Int32) (s0 : St) : Prop :=
  ((s0 h0 3) ≤ x6 → ((x5 = 0 → (Y 5 [x3, x4 + 1] [] s0)) ∧ (¬ x5 = 0 → (∀ v1, v1 = x3 ||| ((1 : Int32) <<< (x4 &&& 31)) → (Y 5 [v1, x4 + 1] [] s0))))) ∧ (¬ (s0 h0 3) ≤ x6 → (V_X6_cell h0 x6 1 s0 (fun r2 s2 => V_X6_cell h0 x6 2 s2 (fun r3 s3 => V_X1_says a2 x4 r2 r3 s3 (fun r4 s4 => (x5 = 0 → (Y 18 [x3, x4, 0, x6 + 1] [] s4)) ∧ (¬ x5 = 0 → (V_X6_cell h0 x6 0 s4 (fun r5 s5 => (¬ r5 = a1 → (Y 18 [x3, x4, 1, x6 + 1] [] s5)) ∧ (r5 = a1 → (V_X6_cell h0 x6 3 s5 (fun r6 s6 => (¬ r4 = r6 → (Y 18 [x3, x4, 0, x6 + 1] [] s6)) ∧ (r4 = r6 → (Y 18 [x3, x4, 1, x6 + 1] [] s6)))))))))))))
def T_X10_kindsThatFit (h0 : Nat) (a1 : Int32) (a2 : Int32) (Q : Int32 → St → Prop) (Y : Nat → List Int32 → List Int64 → St → Prop) (P : Nat) (xs : List Int32) (ys : List Int64) (s0 : St) : Prop :=
  (P = 5 ∧ ∃ (x3 : Int32) (x4 : Int32), xs = [x3, x4] ∧ ys = [] ∧ B_X10_kindsThatFit_5 h0 a1 a2 Q Y x3 x4 s0) ∨ (P = 18 ∧ ∃ (x3 : Int32) (x4 : Int32) (x5 : Int32) (x6 : Int32), xs = [x3, x4, x5, x6] ∧ ys = [] ∧ B_X10_kindsThatFit_18 h0 a1 a2 Q Y x3 x4 x5 x6 s0)
def R_X10_kindsThatFit (h0 : Nat) (a1 : Int32) (a2 : Int32) (Q : Int32 → St → Prop) : Nat → List Int32 → List Int64 → St → Prop := Fx (T_X10_kindsThatFit h0 a1 a2 Q)
theorem i_X10_kindsThatFit_5 (h0 : Nat) (a1 : Int32) (a2 : Int32) (Q : Int32 → St → Prop) (x3 : Int32) (x4 : Int32) (s0 : St) (h : B_X10_kindsThatFit_5 h0 a1 a2 Q (R_X10_kindsThatFit h0 a1 a2 Q) x3 x4 s0) : R_X10_kindsThatFit h0 a1 a2 Q 5 [x3, x4] [] s0 := Fx.intro (Or.inl ⟨rfl, x3, x4, rfl, rfl, h⟩)
theorem i_X10_kindsThatFit_18 (h0 : Nat) (a1 : Int32) (a2 : Int32) (Q : Int32 → St → Prop) (x3 : Int32) (x4 : Int32) (x5 : Int32) (x6 : Int32) (s0 : St) (h : B_X10_kindsThatFit_18 h0 a1 a2 Q (R_X10_kindsThatFit h0 a1 a2 Q) x3 x4 x5 x6 s0) : R_X10_kindsThatFit h0 a1 a2 Q 18 [x3, x4, x5, x6] [] s0 := Fx.intro (Or.inr (⟨rfl, x3, x4, x5, x6, rfl, rfl, h⟩))
def V_X10_kindsThatFit (h0 : Nat) (a1 : Int32) (a2 : Int32) (s0 : St) (Q : Int32 → St → Prop) : Prop := B_X10_kindsThatFit_e h0 a1 a2 Q (R_X10_kindsThatFit h0 a1 a2 Q)  s0
theorem kX10_is_1 : Cond.fieldLink RX10 10 "GloveRail" "now" "LGloveRail$Scene;" ∈ wsX10_is := List.mem_of_getElem? (i := 1) rfl
theorem kX10_is_2 : Cond.fieldLink RX10 269 "GloveRail$Scene" "notes" "LGloveRail$Rows;" ∈ wsX10_is := List.mem_of_getElem? (i := 2) rfl
theorem iwX10_is_X10 : ∀ w ∈ wsX100, w ∈ wsX10_is := fun _ h => List.mem_cons_of_mem _ (List.mem_append_left _ (List.mem_append_left _ (List.mem_append_left _ (List.mem_append_right _ h))))
theorem iwX10_is_X7 : ∀ w ∈ wsX70, w ∈ wsX10_is := fun _ h => List.mem_cons_of_mem _ (List.mem_append_left _ (List.mem_append_left _ (List.mem_append_right _ h)))
/-- what is to hold at the entry of X10_is -/
def B_X10_is_e (a1 : Int32) (Q : Int32 → St → Prop) (Y : Nat → List Int32 → List Int64 → St → Prop)  (s0 : St) : Prop :=
  V_X10_isGlove a1 s0 (fun r1 s1 => (r1 = 0 → (V_X10_bad  s1 (fun r2 s2 => Q r2 s2))) ∧ (¬ r1 = 0 → (V_X10_kindsThatFit 15 a1 1 s1 (fun r3 s3 => Q r3 s3))))
def T_X10_is (a1 : Int32) (Q : Int32 → St → Prop) (Y : Nat → List Int32 → List Int64 → St → Prop) (P : Nat) (xs : List Int32) (ys : List Int64) (s0 : St) : Prop :=
  False
def R_X10_is (a1 : Int32) (Q : Int32 → St → Prop) : Nat → List Int32 → List Int64 → St → Prop := Fx (T_X10_is a1 Q)
def V_X10_is (a1 : Int32) (s0 : St) (Q : Int32 → St → Prop) : Prop := B_X10_is_e a1 Q (R_X10_is a1 Q)  s0
theorem kX10_nextLook_1 : Cond.fieldLink RX10 39 "GloveRail" "parting" "LGloveRail$Parting;" ∈ wsX10_nextLook := List.mem_of_getElem? (i := 1) rfl
theorem kX10_nextLook_2 : Cond.fieldLink RX10 362 "GloveRail$Parting" "best" "I" ∈ wsX10_nextLook := List.mem_of_getElem? (i := 2) rfl
theorem iwX10_nextLook_X10 : ∀ w ∈ wsX100, w ∈ wsX10_nextLook := fun _ h => List.mem_cons_of_mem _ (List.mem_append_left _ (List.mem_append_right _ h))
theorem iwX10_nextLook_X3 : ∀ w ∈ wsX30, w ∈ wsX10_nextLook := fun _ h => List.mem_cons_of_mem _ (List.mem_append_right _ h)
/-- what is to hold at the entry of X10_nextLook -/
def B_X10_nextLook_e (a1 : Int32) (a2 : Int32) (Q : Int32 → St → Prop) (Y : Nat → List Int32 → List Int64 → St → Prop)  (s0 : St) : Prop :=
  (a2 = 0 → (Y 11 [24] [] s0)) ∧ (¬ a2 = 0 → (Y 11 [10] [] s0))
/-- what is to hold at 11 of X10_nextLook -/
def B_X10_nextLook_11 (a1 : Int32) (a2 : Int32) (Q : Int32 → St → Prop) (Y : Nat → List Int32 → List Int64 → St → Prop) (t0 : Int32) (s0 : St) : Prop :=
  (a2 = 0 → (Y 21 [t0, 1] [] s0)) ∧ (¬ a2 = 0 → (Y 21 [t0, 0] [] s0))
/-- what is to hold at 21 of X10_nextLook -/
def B_X10_nextLook_21 (a1 : Int32) (a2 : Int32) (Q : Int32 → St → Prop) (Y : Nat → List Int32 → List Int64 → St → Prop) (x3 : Int32) (t0 : Int32) (s0 : St) : Prop :=
  (a2 = 0 → (Y 33 [x3, t0, 7] [] s0)) ∧ (¬ a2 = 0 → (Y 33 [x3, t0, 4] [] s0))
/-- what is to hold at 33 of X10_nextLook -/
def B_X10_nextLook_33 (a1 : Int32) (a2 : Int32) (Q : Int32 → St → Prop) (Y : Nat → List Int32 → List Int64 → St → Prop) (x3 : Int32) (x4 : Int32) (t0 : Int32) (s0 : St) : Prop :=
  V_X3_begin  s0 (fun s1 => Y 45 [x3, x4, t0, 0] [] s1)
/-- what is to hold at 45 of X10_nextLook -/
def B_X10_nextLook_45 (a1 : Int32) (a2 : Int32) (Q : Int32 → St → Prop) (Y : Nat → List Int32 → List Int64 → St → Prop) (x3 : Int32) (x4 : Int32) (x5 : Int32) (x6 : Int32) (s0 : St) : Prop :=
  (x3 ≤ x6 → (Q (s0 67 3) s0)) ∧ (¬ x3 ≤ x6 → (Y 55 [x3, x4, x5, x6, x4] [] s0))
/-- what is to hold at 55 of X10_nextLook -/
def B_X10_nextLook_55 (a1 : Int32) (a2 : Int32) (Q : Int32 → St → Prop) (Y : Nat → List Int32 → List Int64 → St → Prop) (x3 : Int32) (x4 : Int32) (x5 : Int32) (x6 : Int32) (x7 : Int32) (s0 : St) : Prop :=
  (x5 < x7 → (Y 45 [x3, x4, x5, x6 + 1] [] s0)) ∧ (¬ x5 < x7 → (V_X3_empty  s0 (fun s1 => Y 72 [x3, x4, x5, x6, x7, 0] [] s1)))
/-- what is to hold at 72 of X10_nextLook -/
def B_X10_nextLook_72 (a1 : Int32) (a2 : Int32) (Q : Int32 → St → Prop) (Y : Nat → List Int32 → List Int64 → St → Prop) (x3 : Int32) (x4 : Int32) (x5 : Int32) (x6 : Int32) (x7 : Int32) (x8 : Int32) (s0 : St) : Prop :=
  (6 ≤ x8 → (V_X3_offer ((10 * x6) + x7) s0 (fun s1 => Y 55 [x3, x4, x5, x6, x7 + 1] [] s1))) ∧ (¬ 6 ≤ x8 → ((¬ ((a1 >>> (x8 &&& 31)) &&& 1) = 1 → (Y 72 [x3, x4, x5, x6, x7, x8 + 1] [] s0)) ∧ (((a1 >>> (x8 &&& 31)) &&& 1) = 1 → (V_X1_says a2 x8 x6 x7 s0 (fun r2 s2 => V_X3_add r2 s2 (fun s3 => Y 72 [x3, x4, x5, x6, x7, x8 + 1] [] s3))))))
def T_X10_nextLook (a1 : Int32) (a2 : Int32) (Q : Int32 → St → Prop) (Y : Nat → List Int32 → List Int64 → St → Prop) (P : Nat) (xs : List Int32) (ys : List Int64) (s0 : St) : Prop :=
  (P = 11 ∧ ∃ (t0 : Int32), xs = [t0] ∧ ys = [] ∧ B_X10_nextLook_11 a1 a2 Q Y t0 s0) ∨ (P = 21 ∧ ∃ (x3 : Int32) (t0 : Int32), xs = [x3, t0] ∧ ys = [] ∧ B_X10_nextLook_21 a1 a2 Q Y x3 t0 s0) ∨ (P = 33 ∧ ∃ (x3 : Int32) (x4 : Int32) (t0 : Int32), xs = [x3, x4, t0] ∧ ys = [] ∧ B_X10_nextLook_33 a1 a2 Q Y x3 x4 t0 s0) ∨ (P = 45 ∧ ∃ (x3 : Int32) (x4 : Int32) (x5 : Int32) (x6 : Int32), xs = [x3, x4, x5, x6] ∧ ys = [] ∧ B_X10_nextLook_45 a1 a2 Q Y x3 x4 x5 x6 s0) ∨ (P = 55 ∧ ∃ (x3 : Int32) (x4 : Int32) (x5 : Int32) (x6 : Int32) (x7 : Int32), xs = [x3, x4, x5, x6, x7] ∧ ys = [] ∧ B_X10_nextLook_55 a1 a2 Q Y x3 x4 x5 x6 x7 s0) ∨ (P = 72 ∧ ∃ (x3 : Int32) (x4 : Int32) (x5 : Int32) (x6 : Int32) (x7 : Int32) (x8 : Int32), xs = [x3, x4, x5, x6, x7, x8] ∧ ys = [] ∧ B_X10_nextLook_72 a1 a2 Q Y x3 x4 x5 x6 x7 x8 s0)
def R_X10_nextLook (a1 : Int32) (a2 : Int32) (Q : Int32 → St → Prop) : Nat → List Int32 → List Int64 → St → Prop := Fx (T_X10_nextLook a1 a2 Q)
theorem i_X10_nextLook_11 (a1 : Int32) (a2 : Int32) (Q : Int32 → St → Prop) (t0 : Int32) (s0 : St) (h : B_X10_nextLook_11 a1 a2 Q (R_X10_nextLook a1 a2 Q) t0 s0) : R_X10_nextLook a1 a2 Q 11 [t0] [] s0 := Fx.intro (Or.inl ⟨rfl, t0, rfl, rfl, h⟩)
theorem i_X10_nextLook_21 (a1 : Int32) (a2 : Int32) (Q : Int32 → St → Prop) (x3 : Int32) (t0 : Int32) (s0 : St) (h : B_X10_nextLook_21 a1 a2 Q (R_X10_nextLook a1 a2 Q) x3 t0 s0) : R_X10_nextLook a1 a2 Q 21 [x3, t0] [] s0 := Fx.intro (Or.inr (Or.inl ⟨rfl, x3, t0, rfl, rfl, h⟩))
theorem i_X10_nextLook_33 (a1 : Int32) (a2 : Int32) (Q : Int32 → St → Prop) (x3 : Int32) (x4 : Int32) (t0 : Int32) (s0 : St) (h : B_X10_nextLook_33 a1 a2 Q (R_X10_nextLook a1 a2 Q) x3 x4 t0 s0) : R_X10_nextLook a1 a2 Q 33 [x3, x4, t0] [] s0 := Fx.intro (Or.inr (Or.inr (Or.inl ⟨rfl, x3, x4, t0, rfl, rfl, h⟩)))
theorem i_X10_nextLook_45 (a1 : Int32) (a2 : Int32) (Q : Int32 → St → Prop) (x3 : Int32) (x4 : Int32) (x5 : Int32) (x6 : Int32) (s0 : St) (h : B_X10_nextLook_45 a1 a2 Q (R_X10_nextLook a1 a2 Q) x3 x4 x5 x6 s0) : R_X10_nextLook a1 a2 Q 45 [x3, x4, x5, x6] [] s0 := Fx.intro (Or.inr (Or.inr (Or.inr (Or.inl ⟨rfl, x3, x4, x5, x6, rfl, rfl, h⟩))))
theorem i_X10_nextLook_55 (a1 : Int32) (a2 : Int32) (Q : Int32 → St → Prop) (x3 : Int32) (x4 : Int32) (x5 : Int32) (x6 : Int32) (x7 : Int32) (s0 : St) (h : B_X10_nextLook_55 a1 a2 Q (R_X10_nextLook a1 a2 Q) x3 x4 x5 x6 x7 s0) : R_X10_nextLook a1 a2 Q 55 [x3, x4, x5, x6, x7] [] s0 := Fx.intro (Or.inr (Or.inr (Or.inr (Or.inr (Or.inl ⟨rfl, x3, x4, x5, x6, x7, rfl, rfl, h⟩)))))
theorem i_X10_nextLook_72 (a1 : Int32) (a2 : Int32) (Q : Int32 → St → Prop) (x3 : Int32) (x4 : Int32) (x5 : Int32) (x6 : Int32) (x7 : Int32) (x8 : Int32) (s0 : St) (h : B_X10_nextLook_72 a1 a2 Q (R_X10_nextLook a1 a2 Q) x3 x4 x5 x6 x7 x8 s0) : R_X10_nextLook a1 a2 Q 72 [x3, x4, x5, x6, x7, x8] [] s0 := Fx.intro (Or.inr (Or.inr (Or.inr (Or.inr (Or.inr (⟨rfl, x3, x4, x5, x6, x7, x8, rfl, rfl, h⟩))))))
def V_X10_nextLook (a1 : Int32) (a2 : Int32) (s0 : St) (Q : Int32 → St → Prop) : Prop := B_X10_nextLook_e a1 a2 Q (R_X10_nextLook a1 a2 Q)  s0
theorem kX10_look_1 : Cond.fieldLink RX10 10 "GloveRail" "now" "LGloveRail$Scene;" ∈ wsX10_look := List.mem_of_getElem? (i := 1) rfl
theorem kX10_look_2 : Cond.fieldLink RX10 269 "GloveRail$Scene" "notes" "LGloveRail$Rows;" ∈ wsX10_look := List.mem_of_getElem? (i := 2) rfl
theorem iwX10_look_X10 : ∀ w ∈ wsX100, w ∈ wsX10_look := fun _ h => List.mem_cons_of_mem _ (List.mem_append_left _ (List.mem_append_left _ (List.mem_append_left _ (List.mem_append_left _ (List.mem_append_right _ h)))))
theorem iwX10_look_X7 : ∀ w ∈ wsX70, w ∈ wsX10_look := fun _ h => List.mem_cons_of_mem _ (List.mem_append_left _ (List.mem_append_left _ (List.mem_append_left _ (List.mem_append_right _ h))))
/-- what is to hold at the entry of X10_look -/
def B_X10_look_e (a1 : Int32) (Q : Int32 → St → Prop) (Y : Nat → List Int32 → List Int64 → St → Prop)  (s0 : St) : Prop :=
  V_X10_isGlove a1 s0 (fun r1 s1 => (¬ r1 = 0 → (V_X10_kindsThatFit 15 a1 1 s1 (fun r2 s2 => V_X10_nextLook r2 1 s2 (fun r3 s3 => Q r3 s3)))) ∧ (r1 = 0 → (V_X10_bad  s1 (fun r4 s4 => Q r4 s4))))
def T_X10_look (a1 : Int32) (Q : Int32 → St → Prop) (Y : Nat → List Int32 → List Int64 → St → Prop) (P : Nat) (xs : List Int32) (ys : List Int64) (s0 : St) : Prop :=
  False
def R_X10_look (a1 : Int32) (Q : Int32 → St → Prop) : Nat → List Int32 → List Int64 → St → Prop := Fx (T_X10_look a1 Q)
def V_X10_look (a1 : Int32) (s0 : St) (Q : Int32 → St → Prop) : Prop := B_X10_look_e a1 Q (R_X10_look a1 Q)  s0
theorem kX10_kinds_1 : Cond.fieldLink RX10 10 "GloveRail" "now" "LGloveRail$Scene;" ∈ wsX10_kinds := List.mem_of_getElem? (i := 1) rfl
theorem kX10_kinds_2 : Cond.fieldLink RX10 272 "GloveRail$Scene" "marks" "LGloveRail$Rows;" ∈ wsX10_kinds := List.mem_of_getElem? (i := 2) rfl
theorem iwX10_kinds_X10 : ∀ w ∈ wsX100, w ∈ wsX10_kinds := fun _ h => List.mem_cons_of_mem _ (List.mem_append_left _ (List.mem_append_left _ (List.mem_append_left _ (List.mem_append_right _ h))))
theorem iwX10_kinds_X7 : ∀ w ∈ wsX70, w ∈ wsX10_kinds := fun _ h => List.mem_cons_of_mem _ (List.mem_append_left _ (List.mem_append_left _ (List.mem_append_right _ h)))
/-- what is to hold at the entry of X10_kinds -/
def B_X10_kinds_e (a1 : Int32) (Q : Int32 → St → Prop) (Y : Nat → List Int32 → List Int64 → St → Prop)  (s0 : St) : Prop :=
  V_X10_isCrossing a1 s0 (fun r1 s1 => (r1 = 0 → (V_X10_bad  s1 (fun r2 s2 => Q r2 s2))) ∧ (¬ r1 = 0 → (V_X10_kindsThatFit 17 a1 0 s1 (fun r3 s3 => Q r3 s3))))
def T_X10_kinds (a1 : Int32) (Q : Int32 → St → Prop) (Y : Nat → List Int32 → List Int64 → St → Prop) (P : Nat) (xs : List Int32) (ys : List Int64) (s0 : St) : Prop :=
  False
def R_X10_kinds (a1 : Int32) (Q : Int32 → St → Prop) : Nat → List Int32 → List Int64 → St → Prop := Fx (T_X10_kinds a1 Q)
def V_X10_kinds (a1 : Int32) (s0 : St) (Q : Int32 → St → Prop) : Prop := B_X10_kinds_e a1 Q (R_X10_kinds a1 Q)  s0
theorem kX10_ask_1 : Cond.fieldLink RX10 10 "GloveRail" "now" "LGloveRail$Scene;" ∈ wsX10_ask := List.mem_of_getElem? (i := 1) rfl
theorem kX10_ask_2 : Cond.fieldLink RX10 272 "GloveRail$Scene" "marks" "LGloveRail$Rows;" ∈ wsX10_ask := List.mem_of_getElem? (i := 2) rfl
theorem iwX10_ask_X10 : ∀ w ∈ wsX100, w ∈ wsX10_ask := fun _ h => List.mem_cons_of_mem _ (List.mem_append_left _ (List.mem_append_left _ (List.mem_append_left _ (List.mem_append_left _ (List.mem_append_right _ h)))))
theorem iwX10_ask_X7 : ∀ w ∈ wsX70, w ∈ wsX10_ask := fun _ h => List.mem_cons_of_mem _ (List.mem_append_left _ (List.mem_append_left _ (List.mem_append_left _ (List.mem_append_right _ h))))
/-- what is to hold at the entry of X10_ask -/
def B_X10_ask_e (a1 : Int32) (Q : Int32 → St → Prop) (Y : Nat → List Int32 → List Int64 → St → Prop)  (s0 : St) : Prop :=
  V_X10_isCrossing a1 s0 (fun r1 s1 => (¬ r1 = 0 → (V_X10_kindsThatFit 17 a1 0 s1 (fun r2 s2 => V_X10_nextLook r2 0 s2 (fun r3 s3 => Q r3 s3)))) ∧ (r1 = 0 → (V_X10_bad  s1 (fun r4 s4 => Q r4 s4))))
def T_X10_ask (a1 : Int32) (Q : Int32 → St → Prop) (Y : Nat → List Int32 → List Int64 → St → Prop) (P : Nat) (xs : List Int32) (ys : List Int64) (s0 : St) : Prop :=
  False
def R_X10_ask (a1 : Int32) (Q : Int32 → St → Prop) : Nat → List Int32 → List Int64 → St → Prop := Fx (T_X10_ask a1 Q)
def V_X10_ask (a1 : Int32) (s0 : St) (Q : Int32 → St → Prop) : Prop := B_X10_ask_e a1 Q (R_X10_ask a1 Q)  s0
theorem kX0_visited_1 : Cond.fieldLink RX0 12 "GloveRail$Foresight" "ahead" "LGloveRail$Street;" ∈ wsX0_visited := List.mem_of_getElem? (i := 1) rfl
theorem kX0_visited_2 : Cond.fieldLink RX0 26 "GloveRail$Street" "spikes" "[I" ∈ wsX0_visited := List.mem_of_getElem? (i := 2) rfl
theorem iwX0_visited_X0 : ∀ w ∈ wsX00, w ∈ wsX0_visited := fun _ h => List.mem_cons_of_mem _ (List.mem_append_left _ (List.mem_append_right _ h))
theorem iwX0_visited_X8 : ∀ w ∈ wsX80, w ∈ wsX0_visited := fun _ h => List.mem_cons_of_mem _ (List.mem_append_right _ h)
/-- what is to hold at the entry of X0_visited -/
def B_X0_visited_e (h1 : Nat) (a2 : Int32) (Q : Int32 → St → Prop) (Y : Nat → List Int32 → List Int64 → St → Prop)  (s0 : St) : Prop :=
  V_X8_copy 56 h1 s0 (fun s1 => Y 13 [0, 0] [] s1)
/-- what is to hold at 13 of X0_visited -/
def B_X0_visited_13 (h1 : Nat) (a2 : Int32) (Q : Int32 → St → Prop) (Y : Nat → List Int32 → List Int64 → St → Prop) (x3 : Int32) (x4 : Int32) (s0 : St) : Prop :=
  (30 < x4 → (Q x3 s0)) ∧ (¬ 30 < x4 → (vp_in a2 8 ∧ (∀ v1, v1 = x3 ||| ((1 : Int32) <<< ((s0 60 a2.toNatClampNeg) &&& 31)) → (V_X8_passHour 56 s0 (fun s2 => Y 13 [v1, x4 + 1] [] s2)))))
def T_X0_visited (h1 : Nat) (a2 : Int32) (Q : Int32 → St → Prop) (Y : Nat → List Int32 → List Int64 → St → Prop) (P : Nat) (xs : List Int32) (ys : List Int64) (s0 : St) : Prop :=
  (P = 13 ∧ ∃ (x3 : Int32) (x4 : Int32), xs = [x3, x4] ∧ ys = [] ∧ B_X0_visited_13 h1 a2 Q Y x3 x4 s0)
def R_X0_visited (h1 : Nat) (a2 : Int32) (Q : Int32 → St → Prop) : Nat → List Int32 → List Int64 → St → Prop := Fx (T_X0_visited h1 a2 Q)
theorem i_X0_visited_13 (h1 : Nat) (a2 : Int32) (Q : Int32 → St → Prop) (x3 : Int32) (x4 : Int32) (s0 : St) (h : B_X0_visited_13 h1 a2 Q (R_X0_visited h1 a2 Q) x3 x4 s0) : R_X0_visited h1 a2 Q 13 [x3, x4] [] s0 := Fx.intro (⟨rfl, x3, x4, rfl, rfl, h⟩)
def V_X0_visited (h1 : Nat) (a2 : Int32) (s0 : St) (Q : Int32 → St → Prop) : Prop := B_X0_visited_e h1 a2 Q (R_X0_visited h1 a2 Q)  s0
/-- what is to hold at the entry of X10_ladyGets -/
def B_X10_ladyGets_e (a0 : Int32) (a1 : Int32) (a2 : Int32) (Q : Int32 → St → Prop) (Y : Nat → List Int32 → List Int64 → St → Prop)  (s0 : St) : Prop :=
  (¬ ((a2 >>> (a0 &&& 31)) &&& 1) = 1 → (Y 14 [0] [] s0)) ∧ (((a2 >>> (a0 &&& 31)) &&& 1) = 1 → (Y 14 [5] [] s0))
/-- what is to hold at 14 of X10_ladyGets -/
def B_X10_ladyGets_14 (a0 : Int32) (a1 : Int32) (a2 : Int32) (Q : Int32 → St → Prop) (Y : Nat → List Int32 → List Int64 → St → Prop) (t0 : Int32) (s0 : St) : Prop :=
  (¬ a0 = a1 → (Q ((t0 - (a0 / 3)) - 0) s0)) ∧ (a0 = a1 → (Q ((t0 - (a0 / 3)) - 3) s0))
def T_X10_ladyGets (a0 : Int32) (a1 : Int32) (a2 : Int32) (Q : Int32 → St → Prop) (Y : Nat → List Int32 → List Int64 → St → Prop) (P : Nat) (xs : List Int32) (ys : List Int64) (s0 : St) : Prop :=
  (P = 14 ∧ ∃ (t0 : Int32), xs = [t0] ∧ ys = [] ∧ B_X10_ladyGets_14 a0 a1 a2 Q Y t0 s0)
def R_X10_ladyGets (a0 : Int32) (a1 : Int32) (a2 : Int32) (Q : Int32 → St → Prop) : Nat → List Int32 → List Int64 → St → Prop := Fx (T_X10_ladyGets a0 a1 a2 Q)
theorem i_X10_ladyGets_14 (a0 : Int32) (a1 : Int32) (a2 : Int32) (Q : Int32 → St → Prop) (t0 : Int32) (s0 : St) (h : B_X10_ladyGets_14 a0 a1 a2 Q (R_X10_ladyGets a0 a1 a2 Q) t0 s0) : R_X10_ladyGets a0 a1 a2 Q 14 [t0] [] s0 := Fx.intro (⟨rfl, t0, rfl, rfl, h⟩)
def V_X10_ladyGets (a0 : Int32) (a1 : Int32) (a2 : Int32) (s0 : St) (Q : Int32 → St → Prop) : Prop := B_X10_ladyGets_e a0 a1 a2 Q (R_X10_ladyGets a0 a1 a2 Q)  s0
/-- what is to hold at the entry of X10_constableGets -/
def B_X10_constableGets_e (a0 : Int32) (a1 : Int32) (Q : Int32 → St → Prop) (Y : Nat → List Int32 → List Int64 → St → Prop)  (s0 : St) : Prop :=
  (¬ a0 = a1 → (Q (0 - (a1 / 3)) s0)) ∧ (a0 = a1 → (Q (3 - (a1 / 3)) s0))
def T_X10_constableGets (a0 : Int32) (a1 : Int32) (Q : Int32 → St → Prop) (Y : Nat → List Int32 → List Int64 → St → Prop) (P : Nat) (xs : List Int32) (ys : List Int64) (s0 : St) : Prop :=
  False
def R_X10_constableGets (a0 : Int32) (a1 : Int32) (Q : Int32 → St → Prop) : Nat → List Int32 → List Int64 → St → Prop := Fx (T_X10_constableGets a0 a1 Q)
def V_X10_constableGets (a0 : Int32) (a1 : Int32) (s0 : St) (Q : Int32 → St → Prop) : Prop := B_X10_constableGets_e a0 a1 Q (R_X10_constableGets a0 a1 Q)  s0
/-- what is to hold at the entry of X10_rests -/
def B_X10_rests_e (a0 : Int32) (a1 : Int32) (a2 : Int32) (Q : Int32 → St → Prop) (Y : Nat → List Int32 → List Int64 → St → Prop)  (s0 : St) : Prop :=
  Y 2 [0] [] s0
/-- what is to hold at 2 of X10_rests -/
def B_X10_rests_2 (a0 : Int32) (a1 : Int32) (a2 : Int32) (Q : Int32 → St → Prop) (Y : Nat → List Int32 → List Int64 → St → Prop) (x3 : Int32) (s0 : St) : Prop :=
  (10 ≤ x3 → (Q 1 s0)) ∧ (¬ 10 ≤ x3 → (V_X10_ladyGets x3 a1 a2 s0 (fun r1 s1 => V_X10_ladyGets a0 a1 a2 s1 (fun r2 s2 => (r2 < r1 → (Q 0 s2)) ∧ (¬ r2 < r1 → (V_X10_constableGets a0 x3 s2 (fun r3 s3 => V_X10_constableGets a0 a1 s3 (fun r4 s4 => (r3 ≤ r4 → (Y 2 [x3 + 1] [] s4)) ∧ (¬ r3 ≤ r4 → (Q 0 s4))))))))))
def T_X10_rests (a0 : Int32) (a1 : Int32) (a2 : Int32) (Q : Int32 → St → Prop) (Y : Nat → List Int32 → List Int64 → St → Prop) (P : Nat) (xs : List Int32) (ys : List Int64) (s0 : St) : Prop :=
  (P = 2 ∧ ∃ (x3 : Int32), xs = [x3] ∧ ys = [] ∧ B_X10_rests_2 a0 a1 a2 Q Y x3 s0)
def R_X10_rests (a0 : Int32) (a1 : Int32) (a2 : Int32) (Q : Int32 → St → Prop) : Nat → List Int32 → List Int64 → St → Prop := Fx (T_X10_rests a0 a1 a2 Q)
theorem i_X10_rests_2 (a0 : Int32) (a1 : Int32) (a2 : Int32) (Q : Int32 → St → Prop) (x3 : Int32) (s0 : St) (h : B_X10_rests_2 a0 a1 a2 Q (R_X10_rests a0 a1 a2 Q) x3 s0) : R_X10_rests a0 a1 a2 Q 2 [x3] [] s0 := Fx.intro (⟨rfl, x3, rfl, rfl, h⟩)
def V_X10_rests (a0 : Int32) (a1 : Int32) (a2 : Int32) (s0 : St) (Q : Int32 → St → Prop) : Prop := B_X10_rests_e a0 a1 a2 Q (R_X10_rests a0 a1 a2 Q)  s0
theorem kX10_lady_1 : Cond.fieldLink RX10 25 "GloveRail" "foresight" "LGloveRail$Foresight;" ∈ wsX10_lady := List.mem_of_getElem? (i := 1) rfl
theorem kX10_lady_2 : Cond.fieldLink RX10 10 "GloveRail" "now" "LGloveRail$Scene;" ∈ wsX10_lady := List.mem_of_getElem? (i := 2) rfl
theorem kX10_lady_3 : Cond.fieldLink RX10 57 "GloveRail$Scene" "street" "LGloveRail$Street;" ∈ wsX10_lady := List.mem_of_getElem? (i := 3) rfl
theorem iwX10_lady_X10 : ∀ w ∈ wsX100, w ∈ wsX10_lady := fun _ h => List.mem_cons_of_mem _ (List.mem_append_left _ (List.mem_append_left _ (List.mem_append_left _ (List.mem_append_right _ h))))
theorem iwX10_lady_X7 : ∀ w ∈ wsX70, w ∈ wsX10_lady := fun _ h => List.mem_cons_of_mem _ (List.mem_append_left _ (List.mem_append_left _ (List.mem_append_right _ h)))
/-- what is to hold at the entry of X10_lady -/
def B_X10_lady_e (a1 : Int32) (a2 : Int32) (Q : Int32 → St → Prop) (Y : Nat → List Int32 → List Int64 → St → Prop)  (s0 : St) : Prop :=
  V_X10_isGlove a1 s0 (fun r1 s1 => (r1 = 0 → (V_X10_badAsTen  s1 (fun r2 s2 => Q r2 s2))) ∧ (¬ r1 = 0 → ((((-1)) ≤ a2 → (V_X0_visited 2 a1 s1 (fun r3 s3 => Y 40 [r3, 0, 0] [] s3))) ∧ (¬ ((-1)) ≤ a2 → (V_X10_badAsTen  s1 (fun r4 s4 => Q r4 s4))))))
/-- what is to hold at 40 of X10_lady -/
def B_X10_lady_40 (a1 : Int32) (a2 : Int32) (Q : Int32 → St → Prop) (Y : Nat → List Int32 → List Int64 → St → Prop) (x3 : Int32) (x4 : Int32) (x5 : Int32) (s0 : St) : Prop :=
  (100 ≤ x5 → ((¬ a2 = ((-1)) → (Q ((-5)) s0)) ∧ (a2 = ((-1)) → (Q x4 s0)))) ∧ (¬ 100 ≤ x5 → (V_X10_rests (x5 / 10) (x5 - x5 / 10 * 10) x3 s0 (fun r1 s1 => (r1 = 0 → (Y 40 [x3, x4, x5 + 1] [] s1)) ∧ (¬ r1 = 0 → ((¬ x4 = a2 → (Y 40 [x3, x4 + 1, x5 + 1] [] s1)) ∧ (x4 = a2 → (Q x5 s1)))))))
def T_X10_lady (a1 : Int32) (a2 : Int32) (Q : Int32 → St → Prop) (Y : Nat → List Int32 → List Int64 → St → Prop) (P : Nat) (xs : List Int32) (ys : List Int64) (s0 : St) : Prop :=
  (P = 40 ∧ ∃ (x3 : Int32) (x4 : Int32) (x5 : Int32), xs = [x3, x4, x5] ∧ ys = [] ∧ B_X10_lady_40 a1 a2 Q Y x3 x4 x5 s0)
def R_X10_lady (a1 : Int32) (a2 : Int32) (Q : Int32 → St → Prop) : Nat → List Int32 → List Int64 → St → Prop := Fx (T_X10_lady a1 a2 Q)
theorem i_X10_lady_40 (a1 : Int32) (a2 : Int32) (Q : Int32 → St → Prop) (x3 : Int32) (x4 : Int32) (x5 : Int32) (s0 : St) (h : B_X10_lady_40 a1 a2 Q (R_X10_lady a1 a2 Q) x3 x4 x5 s0) : R_X10_lady a1 a2 Q 40 [x3, x4, x5] [] s0 := Fx.intro (⟨rfl, x3, x4, x5, rfl, rfl, h⟩)
def V_X10_lady (a1 : Int32) (a2 : Int32) (s0 : St) (Q : Int32 → St → Prop) : Prop := B_X10_lady_e a1 a2 Q (R_X10_lady a1 a2 Q)  s0
theorem kX8_goneInAll_1 : Cond.fieldLink RX8 36 "GloveRail$Street" "gloves" "I" ∈ wsX8_goneInAll := List.mem_of_getElem? (i := 1) rfl
theorem kX8_goneInAll_2 : Cond.fieldLink RX8 15 "GloveRail$Street" "kinds" "[I" ∈ wsX8_goneInAll := List.mem_of_getElem? (i := 2) rfl
theorem kX8_goneInAll_3 : Cond.fieldLink RX8 46 "GloveRail$Street" "hour" "I" ∈ wsX8_goneInAll := List.mem_of_getElem? (i := 3) rfl
theorem iwX8_goneInAll_X8 : ∀ w ∈ wsX80, w ∈ wsX8_goneInAll := fun _ h => List.mem_cons_of_mem _ (List.mem_append_right _ h)
/-- what is to hold at the entry of X8_goneInAll -/
def B_X8_goneInAll_e (h0 : Nat) (a1 : Int32) (Q : Int32 → St → Prop) (Y : Nat → List Int32 → List Int64 → St → Prop)  (s0 : St) : Prop :=
  Y 4 [0, 0] [] s0
/-- what is to hold at 4 of X8_goneInAll -/
def B_X8_goneInAll_4 (h0 : Nat) (a1 : Int32) (Q : Int32 → St → Prop) (Y : Nat → List Int32 → List Int64 → St → Prop) (x2 : Int32) (x3 : Int32) (s0 : St) : Prop :=
  ((s0 h0 8) ≤ x3 → (Q x2 s0)) ∧ (¬ (s0 h0 8) ≤ x3 → (V_X8_waits h0 x3 s0 (fun r1 s1 => (¬ r1 = 0 → (Y 4 [x2, x3 + 1] [] s1)) ∧ (r1 = 0 → (vp_in x3 8 ∧ (V_X1_spikesGone (s1 (h0 + 2) x3.toNatClampNeg) (s1 h0 11) a1 s1 (fun r2 s2 => Y 4 [x2 + r2, x3 + 1] [] s2)))))))
def T_X8_goneInAll (h0 : Nat) (a1 : Int32) (Q : Int32 → St → Prop) (Y : Nat → List Int32 → List Int64 → St → Prop) (P : Nat) (xs : List Int32) (ys : List Int64) (s0 : St) : Prop :=
  (P = 4 ∧ ∃ (x2 : Int32) (x3 : Int32), xs = [x2, x3] ∧ ys = [] ∧ B_X8_goneInAll_4 h0 a1 Q Y x2 x3 s0)
def R_X8_goneInAll (h0 : Nat) (a1 : Int32) (Q : Int32 → St → Prop) : Nat → List Int32 → List Int64 → St → Prop := Fx (T_X8_goneInAll h0 a1 Q)
theorem i_X8_goneInAll_4 (h0 : Nat) (a1 : Int32) (Q : Int32 → St → Prop) (x2 : Int32) (x3 : Int32) (s0 : St) (h : B_X8_goneInAll_4 h0 a1 Q (R_X8_goneInAll h0 a1 Q) x2 x3 s0) : R_X8_goneInAll h0 a1 Q 4 [x2, x3] [] s0 := Fx.intro (⟨rfl, x2, x3, rfl, rfl, h⟩)
def V_X8_goneInAll (h0 : Nat) (a1 : Int32) (s0 : St) (Q : Int32 → St → Prop) : Prop := B_X8_goneInAll_e h0 a1 Q (R_X8_goneInAll h0 a1 Q)  s0
theorem kX10_keepFraction_1 : Cond.fieldLink RX10 50 "GloveRail" "above" "I" ∈ wsX10_keepFraction := List.mem_of_getElem? (i := 1) rfl
theorem kX10_keepFraction_2 : Cond.fieldLink RX10 54 "GloveRail" "below" "I" ∈ wsX10_keepFraction := List.mem_of_getElem? (i := 2) rfl
theorem iwX10_keepFraction_X10 : ∀ w ∈ wsX100, w ∈ wsX10_keepFraction := fun _ h => List.mem_cons_of_mem _ (List.mem_append_right _ h)
/-- what is to hold at the entry of X10_keepFraction -/
def B_X10_keepFraction_e (a1 : Int32) (a2 : Int32) (Q : St → Prop) (Y : Nat → List Int32 → List Int64 → St → Prop)  (s0 : St) : Prop :=
  Y 8 [a1, a2, 0] [] s0
/-- what is to hold at 8 of X10_keepFraction -/
def B_X10_keepFraction_8 (a1 : Int32) (a2 : Int32) (Q : St → Prop) (Y : Nat → List Int32 → List Int64 → St → Prop) (x3 : Int32) (x4 : Int32) (x5 : Int32) (s0 : St) : Prop :=
  (64 ≤ x5 → (Y 39 [x3] [] s0)) ∧ (¬ 64 ≤ x5 → ((x4 = 0 → (Y 39 [x3] [] s0)) ∧ (¬ x4 = 0 → (¬ x4 = 0 ∧ (Y 8 [x4, x3 - x3 / x4 * x4, x5 + 1] [] s0)))))
/-- what is to hold at 39 of X10_keepFraction -/
def B_X10_keepFraction_39 (a1 : Int32) (a2 : Int32) (Q : St → Prop) (Y : Nat → List Int32 → List Int64 → St → Prop) (x3 : Int32) (s0 : St) : Prop :=
  (x3 ≤ 0 → (Q s0)) ∧ (¬ x3 ≤ 0 → (¬ x3 = 0 ∧ (∀ s1, s1 = us s0 0 (upd (s0 0) 8 (a1 / x3)) → (¬ x3 = 0 ∧ (∀ s2, s2 = us s1 0 (upd (s1 0) 9 (a2 / x3)) → (Q s2))))))
def T_X10_keepFraction (a1 : Int32) (a2 : Int32) (Q : St → Prop) (Y : Nat → List Int32 → List Int64 → St → Prop) (P : Nat) (xs : List Int32) (ys : List Int64) (s0 : St) : Prop :=
  (P = 8 ∧ ∃ (x3 : Int32) (x4 : Int32) (x5 : Int32), xs = [x3, x4, x5] ∧ ys = [] ∧ B_X10_keepFraction_8 a1 a2 Q Y x3 x4 x5 s0) ∨ (P = 39 ∧ ∃ (x3 : Int32), xs = [x3] ∧ ys = [] ∧ B_X10_keepFraction_39 a1 a2 Q Y x3 s0)
def R_X10_keepFraction (a1 : Int32) (a2 : Int32) (Q : St → Prop) : Nat → List Int32 → List Int64 → St → Prop := Fx (T_X10_keepFraction a1 a2 Q)
theorem i_X10_keepFraction_8 (a1 : Int32) (a2 : Int32) (Q : St → Prop) (x3 : Int32) (x4 : Int32) (x5 : Int32) (s0 : St) (h : B_X10_keepFraction_8 a1 a2 Q (R_X10_keepFraction a1 a2 Q) x3 x4 x5 s0) : R_X10_keepFraction a1 a2 Q 8 [x3, x4, x5] [] s0 := Fx.intro (Or.inl ⟨rfl, x3, x4, x5, rfl, rfl, h⟩)
theorem i_X10_keepFraction_39 (a1 : Int32) (a2 : Int32) (Q : St → Prop) (x3 : Int32) (s0 : St) (h : B_X10_keepFraction_39 a1 a2 Q (R_X10_keepFraction a1 a2 Q) x3 s0) : R_X10_keepFraction a1 a2 Q 39 [x3] [] s0 := Fx.intro (Or.inr (⟨rfl, x3, rfl, rfl, h⟩))
def V_X10_keepFraction (a1 : Int32) (a2 : Int32) (s0 : St) (Q : St → Prop) : Prop := B_X10_keepFraction_e a1 a2 Q (R_X10_keepFraction a1 a2 Q)  s0
theorem kX10_rain_1 : Cond.fieldLink RX10 10 "GloveRail" "now" "LGloveRail$Scene;" ∈ wsX10_rain := List.mem_of_getElem? (i := 1) rfl
theorem kX10_rain_2 : Cond.fieldLink RX10 57 "GloveRail$Scene" "street" "LGloveRail$Street;" ∈ wsX10_rain := List.mem_of_getElem? (i := 2) rfl
theorem iwX10_rain_X10 : ∀ w ∈ wsX100, w ∈ wsX10_rain := fun _ h => List.mem_cons_of_mem _ (List.mem_append_left _ (List.mem_append_left _ (List.mem_append_right _ h)))
theorem iwX10_rain_X7 : ∀ w ∈ wsX70, w ∈ wsX10_rain := fun _ h => List.mem_cons_of_mem _ (List.mem_append_left _ (List.mem_append_right _ h))
/-- what is to hold at the entry of X10_rain -/
def B_X10_rain_e (a1 : Int32) (Q : Int32 → St → Prop) (Y : Nat → List Int32 → List Int64 → St → Prop)  (s0 : St) : Prop :=
  V_X10_within a1 0 10 s0 (fun r1 s1 => (¬ r1 = 0 → (V_X8_goneInAll 2 0 s1 (fun r2 s2 => V_X8_goneInAll 2 4 s2 (fun r3 s3 => V_X10_keepFraction ((a1 * r3) + ((10 - a1) * r2)) 10 s3 (fun s4 => Q 1 s4))))) ∧ (r1 = 0 → (V_X10_bad  s1 (fun r5 s5 => Q r5 s5))))
def T_X10_rain (a1 : Int32) (Q : Int32 → St → Prop) (Y : Nat → List Int32 → List Int64 → St → Prop) (P : Nat) (xs : List Int32) (ys : List Int64) (s0 : St) : Prop :=
  False
def R_X10_rain (a1 : Int32) (Q : Int32 → St → Prop) : Nat → List Int32 → List Int64 → St → Prop := Fx (T_X10_rain a1 Q)
def V_X10_rain (a1 : Int32) (s0 : St) (Q : Int32 → St → Prop) : Prop := B_X10_rain_e a1 Q (R_X10_rain a1 Q)  s0
theorem kX0_overBehindWinter_1 : Cond.fieldLink RX0 12 "GloveRail$Foresight" "ahead" "LGloveRail$Street;" ∈ wsX0_overBehindWinter := List.mem_of_getElem? (i := 1) rfl
theorem kX0_overBehindWinter_2 : Cond.constantLong RX0 109 (1103515245) ∈ wsX0_overBehindWinter := List.mem_of_getElem? (i := 2) rfl
theorem kX0_overBehindWinter_3 : Cond.constantLong RX0 111 (12345) ∈ wsX0_overBehindWinter := List.mem_of_getElem? (i := 3) rfl
theorem kX0_overBehindWinter_4 : Cond.constantLong RX0 113 (2147483648) ∈ wsX0_overBehindWinter := List.mem_of_getElem? (i := 4) rfl
theorem kX0_overBehindWinter_5 : Cond.constantLong RX0 115 (65536) ∈ wsX0_overBehindWinter := List.mem_of_getElem? (i := 5) rfl
theorem kX0_overBehindWinter_6 : Cond.constantLong RX0 117 (4) ∈ wsX0_overBehindWinter := List.mem_of_getElem? (i := 6) rfl
theorem kX0_overBehindWinter_7 : Cond.fieldLink RX0 50 "GloveRail$Street" "crossings" "I" ∈ wsX0_overBehindWinter := List.mem_of_getElem? (i := 7) rfl
theorem iwX0_overBehindWinter_X0 : ∀ w ∈ wsX00, w ∈ wsX0_overBehindWinter := fun _ h => List.mem_cons_of_mem _ (List.mem_append_left _ (List.mem_append_right _ h))
theorem iwX0_overBehindWinter_X8 : ∀ w ∈ wsX80, w ∈ wsX0_overBehindWinter := fun _ h => List.mem_cons_of_mem _ (List.mem_append_right _ h)
/-- what is to hold at the entry of X0_overBehindWinter -/
def B_X0_overBehindWinter_e (h1 : Nat) (a2 : Int32) (a3 : Int32) (Q : Int32 → St → Prop) (Y : Nat → List Int32 → List Int64 → St → Prop)  (s0 : St) : Prop :=
  V_X8_copy 56 h1 s0 (fun s1 => Y 15 [0] [a2.toInt64] s1)
/-- what is to hold at 15 of X0_overBehindWinter -/
def B_X0_overBehindWinter_15 (h1 : Nat) (a2 : Int32) (a3 : Int32) (Q : Int32 → St → Prop) (Y : Nat → List Int32 → List Int64 → St → Prop) (x6 : Int32) (y4 : Int64) (s0 : St) : Prop :=
  (a3 ≤ x6 → (V_X8_over 56 s0 (fun r1 s1 => Q r1 s1))) ∧ (¬ a3 ≤ x6 → (∀ v2, v2 = ((y4 * 1103515245) + 12345) - ((y4 * 1103515245) + 12345) / 2147483648 * 2147483648 → (∀ v3, v3 = ((v2 / 65536) - (v2 / 65536) / 4 * 4).toInt32 → (((s0 56 9) ≤ v3 → (Y 71 [x6] [v2] s0)) ∧ (¬ (s0 56 9) ≤ v3 → (V_X8_turn 56 v3 s0 (fun s4 => Y 71 [x6] [v2] s4)))))))
/-- what is to hold at 71 of X0_overBehindWinter -/
def B_X0_overBehindWinter_71 (h1 : Nat) (a2 : Int32) (a3 : Int32) (Q : Int32 → St → Prop) (Y : Nat → List Int32 → List Int64 → St → Prop) (x6 : Int32) (y4 : Int64) (s0 : St) : Prop :=
  V_X8_passHour 56 s0 (fun s1 => Y 15 [x6 + 1] [y4] s1)
def T_X0_overBehindWinter (h1 : Nat) (a2 : Int32) (a3 : Int32) (Q : Int32 → St → Prop) (Y : Nat → List Int32 → List Int64 → St → Prop) (P : Nat) (xs : List Int32) (ys : List Int64) (s0 : St) : Prop :=
  (P = 15 ∧ ∃ (x6 : Int32) (y4 : Int64), xs = [x6] ∧ ys = [y4] ∧ B_X0_overBehindWinter_15 h1 a2 a3 Q Y x6 y4 s0) ∨ (P = 71 ∧ ∃ (x6 : Int32) (y4 : Int64), xs = [x6] ∧ ys = [y4] ∧ B_X0_overBehindWinter_71 h1 a2 a3 Q Y x6 y4 s0)
def R_X0_overBehindWinter (h1 : Nat) (a2 : Int32) (a3 : Int32) (Q : Int32 → St → Prop) : Nat → List Int32 → List Int64 → St → Prop := Fx (T_X0_overBehindWinter h1 a2 a3 Q)
theorem i_X0_overBehindWinter_15 (h1 : Nat) (a2 : Int32) (a3 : Int32) (Q : Int32 → St → Prop) (x6 : Int32) (y4 : Int64) (s0 : St) (h : B_X0_overBehindWinter_15 h1 a2 a3 Q (R_X0_overBehindWinter h1 a2 a3 Q) x6 y4 s0) : R_X0_overBehindWinter h1 a2 a3 Q 15 [x6] [y4] s0 := Fx.intro (Or.inl ⟨rfl, x6, y4, rfl, rfl, h⟩)
theorem i_X0_overBehindWinter_71 (h1 : Nat) (a2 : Int32) (a3 : Int32) (Q : Int32 → St → Prop) (x6 : Int32) (y4 : Int64) (s0 : St) (h : B_X0_overBehindWinter_71 h1 a2 a3 Q (R_X0_overBehindWinter h1 a2 a3 Q) x6 y4 s0) : R_X0_overBehindWinter h1 a2 a3 Q 71 [x6] [y4] s0 := Fx.intro (Or.inr (⟨rfl, x6, y4, rfl, rfl, h⟩))
def V_X0_overBehindWinter (h1 : Nat) (a2 : Int32) (a3 : Int32) (s0 : St) (Q : Int32 → St → Prop) : Prop := B_X0_overBehindWinter_e h1 a2 a3 Q (R_X0_overBehindWinter h1 a2 a3 Q)  s0
theorem kX10_winters_1 : Cond.constant RX10 297 (999999) ∈ wsX10_winters := List.mem_of_getElem? (i := 1) rfl
theorem kX10_winters_2 : Cond.fieldLink RX10 25 "GloveRail" "foresight" "LGloveRail$Foresight;" ∈ wsX10_winters := List.mem_of_getElem? (i := 2) rfl
theorem kX10_winters_3 : Cond.fieldLink RX10 10 "GloveRail" "now" "LGloveRail$Scene;" ∈ wsX10_winters := List.mem_of_getElem? (i := 3) rfl
theorem kX10_winters_4 : Cond.fieldLink RX10 57 "GloveRail$Scene" "street" "LGloveRail$Street;" ∈ wsX10_winters := List.mem_of_getElem? (i := 4) rfl
theorem iwX10_winters_X10 : ∀ w ∈ wsX100, w ∈ wsX10_winters := fun _ h => List.mem_cons_of_mem _ (List.mem_append_left _ (List.mem_append_left _ (List.mem_append_left _ (List.mem_append_right _ h))))
theorem iwX10_winters_X7 : ∀ w ∈ wsX70, w ∈ wsX10_winters := fun _ h => List.mem_cons_of_mem _ (List.mem_append_left _ (List.mem_append_left _ (List.mem_append_right _ h)))
/-- what is to hold at the entry of X10_winters -/
def B_X10_winters_e (a1 : Int32) (a2 : Int32) (Q : Int32 → St → Prop) (Y : Nat → List Int32 → List Int64 → St → Prop)  (s0 : St) : Prop :=
  V_X10_within a1 0 999999 s0 (fun r1 s1 => (r1 = 0 → (V_X10_bad  s1 (fun r2 s2 => Q r2 s2))) ∧ (¬ r1 = 0 → (V_X10_within a2 0 60 s1 (fun r3 s3 => (¬ r3 = 0 → (V_X0_overBehindWinter 2 a1 a2 s3 (fun r4 s4 => Q r4 s4))) ∧ (r3 = 0 → (V_X10_bad  s3 (fun r5 s5 => Q r5 s5)))))))
def T_X10_winters (a1 : Int32) (a2 : Int32) (Q : Int32 → St → Prop) (Y : Nat → List Int32 → List Int64 → St → Prop) (P : Nat) (xs : List Int32) (ys : List Int64) (s0 : St) : Prop :=
  False
def R_X10_winters (a1 : Int32) (a2 : Int32) (Q : Int32 → St → Prop) : Nat → List Int32 → List Int64 → St → Prop := Fx (T_X10_winters a1 a2 Q)
def V_X10_winters (a1 : Int32) (a2 : Int32) (s0 : St) (Q : Int32 → St → Prop) : Prop := B_X10_winters_e a1 a2 Q (R_X10_winters a1 a2 Q)  s0
theorem kX10_part_1 : Cond.fieldLink RX10 50 "GloveRail" "above" "I" ∈ wsX10_part := List.mem_of_getElem? (i := 1) rfl
theorem kX10_part_2 : Cond.fieldLink RX10 54 "GloveRail" "below" "I" ∈ wsX10_part := List.mem_of_getElem? (i := 2) rfl
theorem iwX10_part_X10 : ∀ w ∈ wsX100, w ∈ wsX10_part := fun _ h => List.mem_cons_of_mem _ (List.mem_append_right _ h)
/-- what is to hold at the entry of X10_part -/
def B_X10_part_e (a1 : Int32) (Q : Int64 → St → Prop) (Y : Nat → List Int32 → List Int64 → St → Prop)  (s0 : St) : Prop :=
  (a1 = 0 → (Q ((s0 0 8).toInt64) s0)) ∧ (¬ a1 = 0 → ((a1 = 1 → (Q ((s0 0 9).toInt64) s0)) ∧ (¬ a1 = 1 → (V_X10_bad  s0 (fun r1 s1 => Q r1.toInt64 s1)))))
def T_X10_part (a1 : Int32) (Q : Int64 → St → Prop) (Y : Nat → List Int32 → List Int64 → St → Prop) (P : Nat) (xs : List Int32) (ys : List Int64) (s0 : St) : Prop :=
  False
def R_X10_part (a1 : Int32) (Q : Int64 → St → Prop) : Nat → List Int32 → List Int64 → St → Prop := Fx (T_X10_part a1 Q)
def V_X10_part (a1 : Int32) (s0 : St) (Q : Int64 → St → Prop) : Prop := B_X10_part_e a1 Q (R_X10_part a1 Q)  s0
theorem kX10_imageOf_1 : Cond.fieldLink RX10 16 "GloveRail" "firstImage" "LGloveRail$Scene;" ∈ wsX10_imageOf := List.mem_of_getElem? (i := 1) rfl
theorem kX10_imageOf_2 : Cond.fieldLink RX10 19 "GloveRail" "secondImage" "LGloveRail$Scene;" ∈ wsX10_imageOf := List.mem_of_getElem? (i := 2) rfl
theorem iwX10_imageOf_X10 : ∀ w ∈ wsX100, w ∈ wsX10_imageOf := fun _ h => List.mem_cons_of_mem _ (List.mem_append_right _ h)
/-- what is to hold at the entry of X10_imageOf -/
def B_X10_imageOf_e (a1 : Int32) (Q : Nat → St → Prop) (Y : Nat → List Int32 → List Int64 → St → Prop)  (s0 : St) : Prop :=
  (¬ a1 = 0 → (Q 37 s0)) ∧ (a1 = 0 → (Q 19 s0))
def T_X10_imageOf (a1 : Int32) (Q : Nat → St → Prop) (Y : Nat → List Int32 → List Int64 → St → Prop) (P : Nat) (xs : List Int32) (ys : List Int64) (s0 : St) : Prop :=
  False
def R_X10_imageOf (a1 : Int32) (Q : Nat → St → Prop) : Nat → List Int32 → List Int64 → St → Prop := Fx (T_X10_imageOf a1 Q)
def V_X10_imageOf (a1 : Int32) (s0 : St) (Q : Nat → St → Prop) : Prop := B_X10_imageOf_e a1 Q (R_X10_imageOf a1 Q)  s0
theorem kX4_copy_1 : Cond.fieldLink RX4 11 "GloveRail$Past" "cells" "[I" ∈ wsX4_copy := List.mem_of_getElem? (i := 1) rfl
theorem kX4_copy_2 : Cond.methodLink RX4 15 arraycopyName ∈ wsX4_copy := List.mem_of_getElem? (i := 2) rfl
theorem kX4_copy_3 : Cond.native arraycopyName ∈ wsX4_copy := List.mem_of_getElem? (i := 3) rfl
theorem kX4_copy_4 : Cond.static arraycopyName ∈ wsX4_copy := List.mem_of_getElem? (i := 4) rfl
theorem kX4_copy_5 : Cond.initialized "java/lang/System" ∈ wsX4_copy := List.mem_of_getElem? (i := 5) rfl
theorem kX4_copy_6 : Cond.fieldLink RX4 21 "GloveRail$Past" "size" "I" ∈ wsX4_copy := List.mem_of_getElem? (i := 6) rfl
theorem iwX4_copy_X4 : ∀ w ∈ wsX40, w ∈ wsX4_copy := fun _ h => List.mem_cons_of_mem _ (List.mem_append_right _ h)
/-- what is to hold at the entry of X4_copy -/
def B_X4_copy_e (h0 : Nat) (h1 : Nat) (Q : St → Prop) (Y : Nat → List Int32 → List Int64 → St → Prop)  (s0 : St) : Prop :=
  ∀ s1, s1 = us s0 (h0 + 1) (va_cpy (s0 (h1 + 1)) (s0 (h0 + 1)) 0 0 72) → (∀ s2, s2 = us s1 h0 (upd (s1 h0) 1 (s1 h1 1)) → (Q s2))
def T_X4_copy (h0 : Nat) (h1 : Nat) (Q : St → Prop) (Y : Nat → List Int32 → List Int64 → St → Prop) (P : Nat) (xs : List Int32) (ys : List Int64) (s0 : St) : Prop :=
  False
def R_X4_copy (h0 : Nat) (h1 : Nat) (Q : St → Prop) : Nat → List Int32 → List Int64 → St → Prop := Fx (T_X4_copy h0 h1 Q)
def V_X4_copy (h0 : Nat) (h1 : Nat) (s0 : St) (Q : St → Prop) : Prop := B_X4_copy_e h0 h1 Q (R_X4_copy h0 h1 Q)  s0
theorem kX6_copy_1 : Cond.fieldLink RX6 9 "GloveRail$Rows" "cells" "[I" ∈ wsX6_copy := List.mem_of_getElem? (i := 1) rfl
theorem kX6_copy_2 : Cond.methodLink RX6 26 arraycopyName ∈ wsX6_copy := List.mem_of_getElem? (i := 2) rfl
theorem kX6_copy_3 : Cond.native arraycopyName ∈ wsX6_copy := List.mem_of_getElem? (i := 3) rfl
theorem kX6_copy_4 : Cond.static arraycopyName ∈ wsX6_copy := List.mem_of_getElem? (i := 4) rfl
theorem kX6_copy_5 : Cond.initialized "java/lang/System" ∈ wsX6_copy := List.mem_of_getElem? (i := 5) rfl
theorem kX6_copy_6 : Cond.fieldLink RX6 32 "GloveRail$Rows" "size" "I" ∈ wsX6_copy := List.mem_of_getElem? (i := 6) rfl
theorem iwX6_copy_X6 : ∀ w ∈ wsX60, w ∈ wsX6_copy := fun _ h => List.mem_cons_of_mem _ (List.mem_append_right _ h)
/-- what is to hold at the entry of X6_copy -/
def B_X6_copy_e (h0 : Nat) (h1 : Nat) (Q : St → Prop) (Y : Nat → List Int32 → List Int64 → St → Prop)  (s0 : St) : Prop :=
  ∀ s1, s1 = us s0 (h0 + 1) (va_cpy (s0 (h1 + 1)) (s0 (h0 + 1)) 0 0 24) → (∀ s2, s2 = us s1 h0 (upd (s1 h0) 3 (s1 h1 3)) → (Q s2))
def T_X6_copy (h0 : Nat) (h1 : Nat) (Q : St → Prop) (Y : Nat → List Int32 → List Int64 → St → Prop) (P : Nat) (xs : List Int32) (ys : List Int64) (s0 : St) : Prop :=
  False
def R_X6_copy (h0 : Nat) (h1 : Nat) (Q : St → Prop) : Nat → List Int32 → List Int64 → St → Prop := Fx (T_X6_copy h0 h1 Q)
def V_X6_copy (h0 : Nat) (h1 : Nat) (s0 : St) (Q : St → Prop) : Prop := B_X6_copy_e h0 h1 Q (R_X6_copy h0 h1 Q)  s0
theorem kX7_copy_1 : Cond.fieldLink RX7 10 "GloveRail$Scene" "street" "LGloveRail$Street;" ∈ wsX7_copy := List.mem_of_getElem? (i := 1) rfl
theorem kX7_copy_2 : Cond.fieldLink RX7 19 "GloveRail$Scene" "past" "LGloveRail$Past;" ∈ wsX7_copy := List.mem_of_getElem? (i := 2) rfl
theorem kX7_copy_3 : Cond.fieldLink RX7 28 "GloveRail$Scene" "seen" "LGloveRail$Rows;" ∈ wsX7_copy := List.mem_of_getElem? (i := 3) rfl
theorem kX7_copy_4 : Cond.fieldLink RX7 32 "GloveRail$Scene" "notes" "LGloveRail$Rows;" ∈ wsX7_copy := List.mem_of_getElem? (i := 4) rfl
theorem kX7_copy_5 : Cond.fieldLink RX7 35 "GloveRail$Scene" "marks" "LGloveRail$Rows;" ∈ wsX7_copy := List.mem_of_getElem? (i := 5) rfl
theorem iwX7_copy_X7 : ∀ w ∈ wsX70, w ∈ wsX7_copy := fun _ h => List.mem_cons_of_mem _ (List.mem_append_left _ (List.mem_append_left _ (List.mem_append_left _ (List.mem_append_right _ h))))
/-- what is to hold at the entry of X7_copy -/
def B_X7_copy_e (h0 : Nat) (h1 : Nat) (Q : St → Prop) (Y : Nat → List Int32 → List Int64 → St → Prop)  (s0 : St) : Prop :=
  V_X8_copy (h0 + 1) (h1 + 1) s0 (fun s1 => V_X4_copy (h0 + 10) (h1 + 10) s1 (fun s2 => V_X6_copy (h0 + 12) (h1 + 12) s2 (fun s3 => V_X6_copy (h0 + 14) (h1 + 14) s3 (fun s4 => V_X6_copy (h0 + 16) (h1 + 16) s4 (fun s5 => Q s5)))))
def T_X7_copy (h0 : Nat) (h1 : Nat) (Q : St → Prop) (Y : Nat → List Int32 → List Int64 → St → Prop) (P : Nat) (xs : List Int32) (ys : List Int64) (s0 : St) : Prop :=
  False
def R_X7_copy (h0 : Nat) (h1 : Nat) (Q : St → Prop) : Nat → List Int32 → List Int64 → St → Prop := Fx (T_X7_copy h0 h1 Q)
def V_X7_copy (h0 : Nat) (h1 : Nat) (s0 : St) (Q : St → Prop) : Prop := B_X7_copy_e h0 h1 Q (R_X7_copy h0 h1 Q)  s0
theorem kX10_image_1 : Cond.fieldLink RX10 10 "GloveRail" "now" "LGloveRail$Scene;" ∈ wsX10_image := List.mem_of_getElem? (i := 1) rfl
theorem kX10_image_2 : Cond.fieldLink RX10 308 "GloveRail" "imagesKept" "I" ∈ wsX10_image := List.mem_of_getElem? (i := 2) rfl
theorem iwX10_image_X10 : ∀ w ∈ wsX100, w ∈ wsX10_image := fun _ h => List.mem_cons_of_mem _ (List.mem_append_left _ (List.mem_append_left _ (List.mem_append_left _ (List.mem_append_left _ (List.mem_append_right _ h)))))
/-- what is to hold at the entry of X10_image -/
def B_X10_image_e (a1 : Int32) (Q : Int32 → St → Prop) (Y : Nat → List Int32 → List Int64 → St → Prop)  (s0 : St) : Prop :=
  V_X10_within a1 0 1 s0 (fun r1 s1 => (¬ r1 = 0 → (V_X10_imageOf a1 s1 (fun r2 s2 => V_X7_copy r2 1 s2 (fun s3 => ∀ s4, s4 = us s3 0 (upd (s3 0) 7 ((s3 0 7) ||| ((1 : Int32) <<< (a1 &&& 31)))) → (Q 1 s4))))) ∧ (r1 = 0 → (V_X10_bad  s1 (fun r5 s5 => Q r5 s5))))
def T_X10_image (a1 : Int32) (Q : Int32 → St → Prop) (Y : Nat → List Int32 → List Int64 → St → Prop) (P : Nat) (xs : List Int32) (ys : List Int64) (s0 : St) : Prop :=
  False
def R_X10_image (a1 : Int32) (Q : Int32 → St → Prop) : Nat → List Int32 → List Int64 → St → Prop := Fx (T_X10_image a1 Q)
def V_X10_image (a1 : Int32) (s0 : St) (Q : Int32 → St → Prop) : Prop := B_X10_image_e a1 Q (R_X10_image a1 Q)  s0
theorem kX10_from_1 : Cond.fieldLink RX10 308 "GloveRail" "imagesKept" "I" ∈ wsX10_from := List.mem_of_getElem? (i := 1) rfl
theorem kX10_from_2 : Cond.fieldLink RX10 10 "GloveRail" "now" "LGloveRail$Scene;" ∈ wsX10_from := List.mem_of_getElem? (i := 2) rfl
theorem iwX10_from_X10 : ∀ w ∈ wsX100, w ∈ wsX10_from := fun _ h => List.mem_cons_of_mem _ (List.mem_append_left _ (List.mem_append_left _ (List.mem_append_left _ (List.mem_append_left _ (List.mem_append_right _ h)))))
/-- what is to hold at the entry of X10_from -/
def B_X10_from_e (a1 : Int32) (Q : Int32 → St → Prop) (Y : Nat → List Int32 → List Int64 → St → Prop)  (s0 : St) : Prop :=
  V_X10_within a1 0 1 s0 (fun r1 s1 => (¬ r1 = 0 → ((¬ (((s1 0 7) >>> (a1 &&& 31)) &&& 1) = 0 → (V_X10_imageOf a1 s1 (fun r2 s2 => V_X7_copy 1 r2 s2 (fun s3 => Q 1 s3)))) ∧ ((((s1 0 7) >>> (a1 &&& 31)) &&& 1) = 0 → (V_X10_no  s1 (fun r4 s4 => Q r4 s4))))) ∧ (r1 = 0 → (V_X10_bad  s1 (fun r5 s5 => Q r5 s5))))
def T_X10_from (a1 : Int32) (Q : Int32 → St → Prop) (Y : Nat → List Int32 → List Int64 → St → Prop) (P : Nat) (xs : List Int32) (ys : List Int64) (s0 : St) : Prop :=
  False
def R_X10_from (a1 : Int32) (Q : Int32 → St → Prop) : Nat → List Int32 → List Int64 → St → Prop := Fx (T_X10_from a1 Q)
def V_X10_from (a1 : Int32) (s0 : St) (Q : Int32 → St → Prop) : Prop := B_X10_from_e a1 Q (R_X10_from a1 Q)  s0
theorem kX8_waitingInAll_1 : Cond.fieldLink RX8 40 "GloveRail$Street" "crossings" "I" ∈ wsX8_waitingInAll := List.mem_of_getElem? (i := 1) rfl
theorem iwX8_waitingInAll_X8 : ∀ w ∈ wsX80, w ∈ wsX8_waitingInAll := fun _ h => List.mem_cons_of_mem _ (List.mem_append_right _ h)
/-- what is to hold at the entry of X8_waitingInAll -/
def B_X8_waitingInAll_e (h0 : Nat) (Q : Int32 → St → Prop) (Y : Nat → List Int32 → List Int64 → St → Prop)  (s0 : St) : Prop :=
  Y 4 [0, 0] [] s0
/-- what is to hold at 4 of X8_waitingInAll -/
def B_X8_waitingInAll_4 (h0 : Nat) (Q : Int32 → St → Prop) (Y : Nat → List Int32 → List Int64 → St → Prop) (x1 : Int32) (x2 : Int32) (s0 : St) : Prop :=
  ((s0 h0 9) ≤ x2 → (Q x1 s0)) ∧ (¬ (s0 h0 9) ≤ x2 → (V_X8_waitingBehind h0 x2 s0 (fun r1 s1 => Y 4 [x1 + r1, x2 + 1] [] s1)))
def T_X8_waitingInAll (h0 : Nat) (Q : Int32 → St → Prop) (Y : Nat → List Int32 → List Int64 → St → Prop) (P : Nat) (xs : List Int32) (ys : List Int64) (s0 : St) : Prop :=
  (P = 4 ∧ ∃ (x1 : Int32) (x2 : Int32), xs = [x1, x2] ∧ ys = [] ∧ B_X8_waitingInAll_4 h0 Q Y x1 x2 s0)
def R_X8_waitingInAll (h0 : Nat) (Q : Int32 → St → Prop) : Nat → List Int32 → List Int64 → St → Prop := Fx (T_X8_waitingInAll h0 Q)
theorem i_X8_waitingInAll_4 (h0 : Nat) (Q : Int32 → St → Prop) (x1 : Int32) (x2 : Int32) (s0 : St) (h : B_X8_waitingInAll_4 h0 Q (R_X8_waitingInAll h0 Q) x1 x2 s0) : R_X8_waitingInAll h0 Q 4 [x1, x2] [] s0 := Fx.intro (⟨rfl, x1, x2, rfl, rfl, h⟩)
def V_X8_waitingInAll (h0 : Nat) (s0 : St) (Q : Int32 → St → Prop) : Prop := B_X8_waitingInAll_e h0 Q (R_X8_waitingInAll h0 Q)  s0
theorem kX10_counted_1 : Cond.fieldLink RX10 10 "GloveRail" "now" "LGloveRail$Scene;" ∈ wsX10_counted := List.mem_of_getElem? (i := 1) rfl
theorem kX10_counted_2 : Cond.fieldLink RX10 57 "GloveRail$Scene" "street" "LGloveRail$Street;" ∈ wsX10_counted := List.mem_of_getElem? (i := 2) rfl
theorem kX10_counted_3 : Cond.fieldLink RX10 61 "GloveRail$Street" "gloves" "I" ∈ wsX10_counted := List.mem_of_getElem? (i := 3) rfl
theorem kX10_counted_4 : Cond.fieldLink RX10 104 "GloveRail$Street" "crossings" "I" ∈ wsX10_counted := List.mem_of_getElem? (i := 4) rfl
theorem kX10_counted_5 : Cond.fieldLink RX10 137 "GloveRail$Street" "hour" "I" ∈ wsX10_counted := List.mem_of_getElem? (i := 5) rfl
theorem kX10_counted_6 : Cond.fieldLink RX10 338 "GloveRail$Street" "shut" "I" ∈ wsX10_counted := List.mem_of_getElem? (i := 6) rfl
theorem kX10_counted_7 : Cond.fieldLink RX10 240 "GloveRail$Scene" "seen" "LGloveRail$Rows;" ∈ wsX10_counted := List.mem_of_getElem? (i := 7) rfl
theorem kX10_counted_8 : Cond.fieldLink RX10 334 "GloveRail$Rows" "size" "I" ∈ wsX10_counted := List.mem_of_getElem? (i := 8) rfl
theorem kX10_counted_9 : Cond.fieldLink RX10 269 "GloveRail$Scene" "notes" "LGloveRail$Rows;" ∈ wsX10_counted := List.mem_of_getElem? (i := 9) rfl
theorem kX10_counted_10 : Cond.fieldLink RX10 272 "GloveRail$Scene" "marks" "LGloveRail$Rows;" ∈ wsX10_counted := List.mem_of_getElem? (i := 10) rfl
theorem kX10_counted_11 : Cond.fieldLink RX10 81 "GloveRail$Scene" "past" "LGloveRail$Past;" ∈ wsX10_counted := List.mem_of_getElem? (i := 11) rfl
theorem kX10_counted_12 : Cond.fieldLink RX10 85 "GloveRail$Past" "size" "I" ∈ wsX10_counted := List.mem_of_getElem? (i := 12) rfl
theorem kX10_counted_13 : Cond.fieldLink RX10 46 "GloveRail" "reader" "LGloveRail$Reader;" ∈ wsX10_counted := List.mem_of_getElem? (i := 13) rfl
theorem kX10_counted_14 : Cond.fieldLink RX10 113 "GloveRail$Reader" "tokens" "LGloveRail$Tokens;" ∈ wsX10_counted := List.mem_of_getElem? (i := 14) rfl
theorem kX10_counted_15 : Cond.fieldLink RX10 117 "GloveRail$Tokens" "length" "I" ∈ wsX10_counted := List.mem_of_getElem? (i := 15) rfl
theorem iwX10_counted_X10 : ∀ w ∈ wsX100, w ∈ wsX10_counted := fun _ h => List.mem_cons_of_mem _ (List.mem_append_left _ (List.mem_append_left _ (List.mem_append_left _ (List.mem_append_left _ (List.mem_append_left _ (List.mem_append_left _ (List.mem_append_right _ h)))))))
theorem iwX10_counted_X4 : ∀ w ∈ wsX40, w ∈ wsX10_counted := fun _ h => List.mem_cons_of_mem _ (List.mem_append_left _ (List.mem_append_left _ (List.mem_append_right _ h)))
theorem iwX10_counted_X5 : ∀ w ∈ wsX50, w ∈ wsX10_counted := fun _ h => List.mem_cons_of_mem _ (List.mem_append_left _ (List.mem_append_right _ h))
theorem iwX10_counted_X6 : ∀ w ∈ wsX60, w ∈ wsX10_counted := fun _ h => List.mem_cons_of_mem _ (List.mem_append_left _ (List.mem_append_left _ (List.mem_append_left _ (List.mem_append_right _ h))))
theorem iwX10_counted_X7 : ∀ w ∈ wsX70, w ∈ wsX10_counted := fun _ h => List.mem_cons_of_mem _ (List.mem_append_left _ (List.mem_append_left _ (List.mem_append_left _ (List.mem_append_left _ (List.mem_append_left _ (List.mem_append_right _ h))))))
theorem iwX10_counted_X8 : ∀ w ∈ wsX80, w ∈ wsX10_counted := fun _ h => List.mem_cons_of_mem _ (List.mem_append_left _ (List.mem_append_left _ (List.mem_append_left _ (List.mem_append_left _ (List.mem_append_right _ h)))))
theorem iwX10_counted_X9 : ∀ w ∈ wsX90, w ∈ wsX10_counted := fun _ h => List.mem_cons_of_mem _ (List.mem_append_right _ h)
/-- what is to hold at the entry of X10_counted -/
def B_X10_counted_e (a1 : Int32) (Q : Int32 → St → Prop) (Y : Nat → List Int32 → List Int64 → St → Prop)  (s0 : St) : Prop :=
  (a1 = 0 → (Q (s0 2 8) s0)) ∧ (¬ a1 = 0 → ((a1 = 1 → (Q (s0 2 9) s0)) ∧ (¬ a1 = 1 → ((a1 = 2 → (Q (s0 2 11) s0)) ∧ (¬ a1 = 2 → ((a1 = 3 → (V_X8_over 2 s0 (fun r1 s1 => Q r1 s1))) ∧ (¬ a1 = 3 → ((a1 = 4 → (V_X8_waitingInAll 2 s0 (fun r2 s2 => Q r2 s2))) ∧ (¬ a1 = 4 → ((a1 = 5 → (V_J6_bitCount_0f7a4 (s0 2 10) s0 (fun r3 s3 => Q r3 s3))) ∧ (¬ a1 = 5 → ((a1 = 6 → (Q (s0 13 3) s0)) ∧ (¬ a1 = 6 → ((a1 = 7 → (Q (s0 15 3) s0)) ∧ (¬ a1 = 7 → ((a1 = 8 → (Q (s0 17 3) s0)) ∧ (¬ a1 = 8 → ((a1 = 9 → (Q (s0 11 1) s0)) ∧ (¬ a1 = 9 → (Q (s0 70 1) s0))))))))))))))))))))
def T_X10_counted (a1 : Int32) (Q : Int32 → St → Prop) (Y : Nat → List Int32 → List Int64 → St → Prop) (P : Nat) (xs : List Int32) (ys : List Int64) (s0 : St) : Prop :=
  False
def R_X10_counted (a1 : Int32) (Q : Int32 → St → Prop) : Nat → List Int32 → List Int64 → St → Prop := Fx (T_X10_counted a1 Q)
def V_X10_counted (a1 : Int32) (s0 : St) (Q : Int32 → St → Prop) : Prop := B_X10_counted_e a1 Q (R_X10_counted a1 Q)  s0
/-- what is to hold at the entry of X10_count -/
def B_X10_count_e (a1 : Int32) (Q : Int32 → St → Prop) (Y : Nat → List Int32 → List Int64 → St → Prop)  (s0 : St) : Prop :=
  V_X10_within a1 0 10 s0 (fun r1 s1 => (r1 = 0 → (V_X10_bad  s1 (fun r2 s2 => Q r2 s2))) ∧ (¬ r1 = 0 → (V_X10_counted a1 s1 (fun r3 s3 => Q r3 s3))))
def T_X10_count (a1 : Int32) (Q : Int32 → St → Prop) (Y : Nat → List Int32 → List Int64 → St → Prop) (P : Nat) (xs : List Int32) (ys : List Int64) (s0 : St) : Prop :=
  False
def R_X10_count (a1 : Int32) (Q : Int32 → St → Prop) : Nat → List Int32 → List Int64 → St → Prop := Fx (T_X10_count a1 Q)
def V_X10_count (a1 : Int32) (s0 : St) (Q : Int32 → St → Prop) : Prop := B_X10_count_e a1 Q (R_X10_count a1 Q)  s0
