theorem kX5_readItem_1 : Cond.fieldLink RX5 12 "GloveRail$Reader" "tokens" "LGloveRail$Tokens;" ∈ wsX5_readItem := List.mem_of_getElem? (i := 1) rfl
theorem iwX5_readItem_X5 : ∀ w ∈ wsX50, w ∈ wsX5_readItem := fun _ h => List.mem_cons_of_mem _ (List.mem_append_left _ (List.mem_append_left _ (List.mem_append_right _ h)))
/-- what is to hold at the entry of X5_readItem -/
def B_X5_readItem_e  (Q : Int32 → St → Prop) (Y : Nat → List Int32 → List Int64 → St → Prop)  (s0 : St) : Prop :=
  V_X9_isWord 1 s0 (fun r1 s1 => (r1 = 0 → (V_X9_isWord 2 s1 (fun r2 s2 => (r2 = 0 → (V_X9_isWord 3 s2 (fun r3 s3 => (r3 = 0 → (V_X9_isWord 4 s3 (fun r4 s4 => (r4 = 0 → (V_X9_isWord 5 s4 (fun r5 s5 => (r5 = 0 → (Q 0 s5)) ∧ (¬ r5 = 0 → (V_X5_readHours  s5 (fun r6 s6 => (r6 = 0 → (Q 0 s6)) ∧ (¬ r6 = 0 → (Q 1 s6)))))))) ∧ (¬ r4 = 0 → (V_X5_readShut  s4 (fun r7 s7 => Q r7 s7)))))) ∧ (¬ r3 = 0 → (V_X5_readCrossing  s3 (fun r8 s8 => Q r8 s8)))))) ∧ (¬ r2 = 0 → (V_X5_readGlove  s2 (fun r9 s9 => Q r9 s9)))))) ∧ (¬ r1 = 0 → (V_X5_readWets  s1 (fun r10 s10 => Q r10 s10))))
def T_X5_readItem  (Q : Int32 → St → Prop) (Y : Nat → List Int32 → List Int64 → St → Prop) (P : Nat) (xs : List Int32) (ys : List Int64) (s0 : St) : Prop :=
  False
def R_X5_readItem  (Q : Int32 → St → Prop) : Nat → List Int32 → List Int64 → St → Prop := Fx (T_X5_readItem  Q)
def V_X5_readItem  (s0 : St) (Q : Int32 → St → Prop) : Prop := B_X5_readItem_e  Q (R_X5_readItem  Q)  s0
theorem kX5_readStreet_1 : Cond.fieldLink RX5 21 "GloveRail$Reader" "draft" "LGloveRail$Street;" ∈ wsX5_readStreet := List.mem_of_getElem? (i := 1) rfl
theorem kX5_readStreet_2 : Cond.fieldLink RX5 12 "GloveRail$Reader" "tokens" "LGloveRail$Tokens;" ∈ wsX5_readStreet := List.mem_of_getElem? (i := 2) rfl
theorem kX5_readStreet_3 : Cond.fieldLink RX5 48 "GloveRail$Tokens" "token" "I" ∈ wsX5_readStreet := List.mem_of_getElem? (i := 3) rfl
theorem iwX5_readStreet_X5 : ∀ w ∈ wsX50, w ∈ wsX5_readStreet := fun _ h => List.mem_cons_of_mem _ (List.mem_append_left _ (List.mem_append_left _ (List.mem_append_right _ h)))
theorem iwX5_readStreet_X9 : ∀ w ∈ wsX90, w ∈ wsX5_readStreet := fun _ h => List.mem_cons_of_mem _ (List.mem_append_left _ (List.mem_append_right _ h))
/-- what is to hold at the entry of X5_readStreet -/
def B_X5_readStreet_e  (Q : Int32 → St → Prop) (Y : Nat → List Int32 → List Int64 → St → Prop)  (s0 : St) : Prop :=
  V_X8_empty 72 s0 (fun s1 => V_X9_begin  s1 (fun s2 => V_X9_isWord 0 s2 (fun r3 s3 => (¬ r3 = 0 → (V_X9_advance  s3 (fun s4 => V_X5_takeStop  s4 (fun r5 s5 => (¬ r5 = 0 → (Y 52 [1] [] s5)) ∧ (r5 = 0 → (V_X5_fault  s5 (fun r6 s6 => Q r6 s6))))))) ∧ (r3 = 0 → (V_X5_fault  s3 (fun r7 s7 => Q r7 s7))))))
/-- what is to hold at 52 of X5_readStreet -/
def B_X5_readStreet_52  (Q : Int32 → St → Prop) (Y : Nat → List Int32 → List Int64 → St → Prop) (x1 : Int32) (s0 : St) : Prop :=
  (150 < x1 → (Q x1 s0)) ∧ (¬ 150 < x1 → (((s0 70 2) = 0 → (Q x1 s0)) ∧ (¬ (s0 70 2) = 0 → (V_X5_readItem  s0 (fun r1 s1 => (r1 = 0 → (V_X5_fault  s1 (fun r2 s2 => Q r2 s2))) ∧ (¬ r1 = 0 → (V_X5_takeStop  s1 (fun r3 s3 => (¬ r3 = 0 → (Y 52 [x1 + 1] [] s3)) ∧ (r3 = 0 → (V_X5_fault  s3 (fun r4 s4 => Q r4 s4)))))))))))
def T_X5_readStreet  (Q : Int32 → St → Prop) (Y : Nat → List Int32 → List Int64 → St → Prop) (P : Nat) (xs : List Int32) (ys : List Int64) (s0 : St) : Prop :=
  (P = 52 ∧ ∃ (x1 : Int32), xs = [x1] ∧ ys = [] ∧ B_X5_readStreet_52  Q Y x1 s0)
def R_X5_readStreet  (Q : Int32 → St → Prop) : Nat → List Int32 → List Int64 → St → Prop := Fx (T_X5_readStreet  Q)
theorem i_X5_readStreet_52  (Q : Int32 → St → Prop) (x1 : Int32) (s0 : St) (h : B_X5_readStreet_52  Q (R_X5_readStreet  Q) x1 s0) : R_X5_readStreet  Q 52 [x1] [] s0 := Fx.intro (⟨rfl, x1, rfl, rfl, h⟩)
def V_X5_readStreet  (s0 : St) (Q : Int32 → St → Prop) : Prop := B_X5_readStreet_e  Q (R_X5_readStreet  Q)  s0
theorem kX10_read_1 : Cond.fieldLink RX10 46 "GloveRail" "reader" "LGloveRail$Reader;" ∈ wsX10_read := List.mem_of_getElem? (i := 1) rfl
theorem kX10_read_2 : Cond.fieldLink RX10 10 "GloveRail" "now" "LGloveRail$Scene;" ∈ wsX10_read := List.mem_of_getElem? (i := 2) rfl
theorem kX10_read_3 : Cond.fieldLink RX10 57 "GloveRail$Scene" "street" "LGloveRail$Street;" ∈ wsX10_read := List.mem_of_getElem? (i := 3) rfl
theorem kX10_read_4 : Cond.fieldLink RX10 127 "GloveRail$Reader" "draft" "LGloveRail$Street;" ∈ wsX10_read := List.mem_of_getElem? (i := 4) rfl
theorem iwX10_read_X10 : ∀ w ∈ wsX100, w ∈ wsX10_read := fun _ h => List.mem_cons_of_mem _ (List.mem_append_left _ (List.mem_append_left _ (List.mem_append_left _ (List.mem_append_left _ (List.mem_append_left _ (List.mem_append_left _ (List.mem_append_right _ h)))))))
theorem iwX10_read_X5 : ∀ w ∈ wsX50, w ∈ wsX10_read := fun _ h => List.mem_cons_of_mem _ (List.mem_append_left _ (List.mem_append_left _ (List.mem_append_left _ (List.mem_append_left _ (List.mem_append_right _ h)))))
theorem iwX10_read_X7 : ∀ w ∈ wsX70, w ∈ wsX10_read := fun _ h => List.mem_cons_of_mem _ (List.mem_append_left _ (List.mem_append_left _ (List.mem_append_left _ (List.mem_append_left _ (List.mem_append_left _ (List.mem_append_right _ h))))))
/-- what is to hold at the entry of X10_read -/
def B_X10_read_e  (Q : Int32 → St → Prop) (Y : Nat → List Int32 → List Int64 → St → Prop)  (s0 : St) : Prop :=
  V_X5_readStreet  s0 (fun r1 s1 => (0 ≤ r1 → (V_X7_empty 1 s1 (fun s2 => V_X8_copy 2 72 s2 (fun s3 => Q r1 s3)))) ∧ (¬ 0 ≤ r1 → (Q r1 s1)))
def T_X10_read  (Q : Int32 → St → Prop) (Y : Nat → List Int32 → List Int64 → St → Prop) (P : Nat) (xs : List Int32) (ys : List Int64) (s0 : St) : Prop :=
  False
def R_X10_read  (Q : Int32 → St → Prop) : Nat → List Int32 → List Int64 → St → Prop := Fx (T_X10_read  Q)
def V_X10_read  (s0 : St) (Q : Int32 → St → Prop) : Prop := B_X10_read_e  Q (R_X10_read  Q)  s0
