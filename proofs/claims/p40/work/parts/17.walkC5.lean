def lay_X3_begin (ad : Nat → Nat)  : Nat → List Int32 → List Int64 → Option (List (Nat × Value) × List Value) := fun P xs ys => match P, xs, ys with
  | _, _, _ => none
set_option maxHeartbeats 4000000 in
set_option maxRecDepth 100000 in
theorem w_X3_begin_e {p : Program} {l : Launch} {e : Env} {s : State} {m : MethodId} {args : Array Value} {below : List Frame} {meth : Method} {c : Code} {dC : Nat → ClassId} {dI : Nat → Nat → Nat} {ad : Nat → Nat} {cA cZ : ClassId} (hi : Inj 81 ad)   (C0 : Cx cX3_begin RX3 wsX3_begin 1 none p s m args meth c) (hK : KK dC dI cA cZ s) (Q : St → Prop) (Y : Nat → List Int32 → List Int64 → St → Prop) (hY : ∀ P xs ys σ, Y P xs ys σ → XX p l e ({ frames := 0, cells := 0, slots := 0, locals := 0 } : Room) s m args below meth c (dC, dI) 81 ad (celC ad cA) 1 (ZV below args s (dC, dI) 81 ad (celC ad cA) Q) (lay_X3_begin ad ) P xs ys σ)  (s0 : St) (hv : B_X3_begin_e  Q Y  s0) {H : Heap} {locs : List Loc} {ls : Array Slot} (hP : va_P (dC, dI) vwCl (wd 81 ad (celC ad cA) s0) H) (hS : va_S (AA 81 ad s.heap.size) s.heap H locs) (hl : lv_has ls 1 [(0, .ref (ad 67))]) : W p l e ({ frames := 0, cells := 0, slots := 0, locals := 0 } : Room) s m args below meth c H locs 0 0 (ZV below args s (dC, dI) 81 ad (celC ad cA) Q) (F0 m 0 ls []) := by
  obtain ⟨hx, hb, hml, hown, hts, hr, hlocks⟩ := C0
  have hD := wd_D (s := s) (cel := celC ad cA) (σ := s0) hi
  unfold B_X3_begin_e at hv
  refine lv_aload_n hx hb dX3_begin_0 rfl (lv_at hl 0 rfl) ?_
  refine lv_iconst (v := (-1)) hx hb dX3_begin_1 (by decide) ?_
  refine r_put hx hb hts (iwX3_begin_X3) tyX3 tyX3_ok nmX3 hown hK.1 hP hD hS 67 (by decide) (cePt_0 (s0 67)) rfl 3 (by decide) (hts _ kX3_begin_1) rfl (ty := .int) (v := .int ((-1))) (by decide +kernel) rfl rfl (Nat.le_of_ble_eq_true rfl) (row := (upd (s0 67) 3 ((-1)))) (by rw [(cePt_0 (upd (s0 67) 3 ((-1))))]; rfl) dX3_begin_2 (fun H locs s1 es1 hP hD hS => ?_)
  have hv := hv s1 es1
  refine lv_aload_n hx hb dX3_begin_5 rfl (lv_at hl 0 rfl) ?_
  refine lv_aload_n hx hb dX3_begin_6 rfl (lv_at hl 0 rfl) ?_
  refine r_get hx hb hts (iwX3_begin_X3) hown hK.1 hP 67 (by decide) (cePt_0 (s1 67)) rfl 0 (by decide) (hts _ kX3_begin_2) (v := .ref (ad 68)) rfl dX3_begin_7 ?_
  refine r_alen (v := 24) hx hb hK.1 hP 68 (by decide) (cePt_1 (s1 68)) rfl dX3_begin_10 ?_
  refine r_put hx hb hts (iwX3_begin_X3) tyX3 tyX3_ok nmX3 hown hK.1 hP hD hS 67 (by decide) (cePt_0 (s1 67)) rfl 2 (by decide) (hts _ kX3_begin_3) rfl (ty := .int) (v := .int 24) (by decide +kernel) rfl rfl (Nat.le_of_ble_eq_true rfl) (row := (upd (s1 67) 2 24)) (by rw [(cePt_0 (upd (s1 67) 2 24))]; rfl) dX3_begin_11 (fun H locs s2 es2 hP hD hS => ?_)
  have hv := hv s2 es2
  exact r_vret hx hb hr hlocks hv hP hS dX3_begin_14
set_option maxHeartbeats 4000000 in
theorem y_X3_begin {p : Program} {l : Launch} {e : Env} {s : State} {m : MethodId} {args : Array Value} {below : List Frame} {meth : Method} {c : Code} {dC : Nat → ClassId} {dI : Nat → Nat → Nat} {ad : Nat → Nat} {cA cZ : ClassId} (hi : Inj 81 ad)   (C0 : Cx cX3_begin RX3 wsX3_begin 1 none p s m args meth c) (hK : KK dC dI cA cZ s) (Q : St → Prop) : ∀ P xs ys σ, R_X3_begin  Q P xs ys σ → XX p l e ({ frames := 0, cells := 0, slots := 0, locals := 0 } : Room) s m args below meth c (dC, dI) 81 ad (celC ad cA) 1 (ZV below args s (dC, dI) 81 ad (celC ad cA) Q) (lay_X3_begin ad ) P xs ys σ := by
  refine Fx.elim _ (fun P xs ys σ Y hY hB => ?_)
  exact hB.elim
set_option maxHeartbeats 4000000 in
theorem c_X3_begin {l : Launch} {dC : Nat → ClassId} {dI : Nat → Nat → Nat} {ad : Nat → Nat} {cA cZ : ClassId} (hi : Inj 81 ad)   (s0 : St) (Q : St → Prop) (hv : V_X3_begin  s0 Q) (sz : Nat) : Met l yX3_begin wsX3_begin ({ frames := 0, cells := 0, slots := 0, locals := 0 } : Room) (va_Pc [.ref (ad 67)] (PW dC dI ad cA cZ 81 (celC ad cA) sz s0)) (va_Qv Q (fun u t => va_P (dC, dI) vwCl (wd 81 ad (celC ad cA) u) t.heap) (AA 81 ad sz)) 0 0 (AA 81 ad sz) := by
  refine Met.ofW (cc := cX3_begin) (maxL := 1) (ret := none) (by decide) rfl ?_
  intro p e s m args below meth c s₁ B hml hv0
  obtain ⟨rfl, hsz, hP, hK⟩ := hv0
  subst hsz
  have C0 : Cx cX3_begin RX3 wsX3_begin 1 none p s m ([.ref (ad 67)] : List Value).toArray meth c := ⟨B.exec, B.bytes, hml, findClass_of_methodNamed B.named, atoms_spec (ws := wsX3_begin) B.pre, B.returns, B.notSynchronized⟩
  have hl := lv_entry ([.ref (ad 67)]) (n := 1) (Nat.le_of_ble_eq_true rfl)
  rw [lg_entry_eq]
  generalize (lg_sl ([.ref (ad 67)]) ++ List.replicate (1 - (lg_sl ([.ref (ad 67)])).length) Slot.unset).toArray = ls at hl ⊢
  have hl : lv_has ls 1 [(0, .ref (ad 67))] := hl
  exact w_X3_begin_e hi   C0 hK Q (R_X3_begin  Q) (y_X3_begin hi   C0 hK Q)  s0 hv hP va_S.rf hl
def lay_X3_empty (ad : Nat → Nat)  : Nat → List Int32 → List Int64 → Option (List (Nat × Value) × List Value) := fun P xs ys => match P, xs, ys with
  | 2, [x1], [] => some ([(0, .ref (ad 67)), (1, .int x1)], [])
  | _, _, _ => none
set_option maxHeartbeats 4000000 in
set_option maxRecDepth 100000 in
theorem w_X3_empty_e {p : Program} {l : Launch} {e : Env} {s : State} {m : MethodId} {args : Array Value} {below : List Frame} {meth : Method} {c : Code} {dC : Nat → ClassId} {dI : Nat → Nat → Nat} {ad : Nat → Nat} {cA cZ : ClassId} (hi : Inj 81 ad)   (C0 : Cx cX3_empty RX3 wsX3_empty 2 none p s m args meth c) (hK : KK dC dI cA cZ s) (Q : St → Prop) (Y : Nat → List Int32 → List Int64 → St → Prop) (hY : ∀ P xs ys σ, Y P xs ys σ → XX p l e ({ frames := 0, cells := 0, slots := 0, locals := 0 } : Room) s m args below meth c (dC, dI) 81 ad (celC ad cA) 2 (ZV below args s (dC, dI) 81 ad (celC ad cA) Q) (lay_X3_empty ad ) P xs ys σ)  (s0 : St) (hv : B_X3_empty_e  Q Y  s0) {H : Heap} {locs : List Loc} {ls : Array Slot} (hP : va_P (dC, dI) vwCl (wd 81 ad (celC ad cA) s0) H) (hS : va_S (AA 81 ad s.heap.size) s.heap H locs) (hl : lv_has ls 2 [(0, .ref (ad 67))]) : W p l e ({ frames := 0, cells := 0, slots := 0, locals := 0 } : Room) s m args below meth c H locs 0 0 (ZV below args s (dC, dI) 81 ad (celC ad cA) Q) (F0 m 0 ls []) := by
  obtain ⟨hx, hb, hml, hown, hts, hr, hlocks⟩ := C0
  have hD := wd_D (s := s) (cel := celC ad cA) (σ := s0) hi
  unfold B_X3_empty_e at hv
  refine lv_iconst (v := 0) hx hb dX3_empty_0 (by decide) ?_
  refine lv_istore_n (lv' := [(1, .int 0), (0, .ref (ad 67))]) hx hb dX3_empty_1 rfl hl (by decide) rfl (fun ls hl => ?_)
  exact hY 2 [0] [] s0 hv _ _ rfl H locs ls hP hS (lv_sub hl [1, 0] rfl)
set_option maxHeartbeats 4000000 in
set_option maxRecDepth 100000 in
theorem w_X3_empty_2 {p : Program} {l : Launch} {e : Env} {s : State} {m : MethodId} {args : Array Value} {below : List Frame} {meth : Method} {c : Code} {dC : Nat → ClassId} {dI : Nat → Nat → Nat} {ad : Nat → Nat} {cA cZ : ClassId} (hi : Inj 81 ad)   (C0 : Cx cX3_empty RX3 wsX3_empty 2 none p s m args meth c) (hK : KK dC dI cA cZ s) (Q : St → Prop) (Y : Nat → List Int32 → List Int64 → St → Prop) (hY : ∀ P xs ys σ, Y P xs ys σ → XX p l e ({ frames := 0, cells := 0, slots := 0, locals := 0 } : Room) s m args below meth c (dC, dI) 81 ad (celC ad cA) 2 (ZV below args s (dC, dI) 81 ad (celC ad cA) Q) (lay_X3_empty ad ) P xs ys σ) (x1 : Int32) (s0 : St) (hv : B_X3_empty_2  Q Y x1 s0) {H : Heap} {locs : List Loc} {ls : Array Slot} (hP : va_P (dC, dI) vwCl (wd 81 ad (celC ad cA) s0) H) (hS : va_S (AA 81 ad s.heap.size) s.heap H locs) (hl : lv_has ls 2 [(0, .ref (ad 67)), (1, .int x1)]) : W p l e ({ frames := 0, cells := 0, slots := 0, locals := 0 } : Room) s m args below meth c H locs 0 0 (ZV below args s (dC, dI) 81 ad (celC ad cA) Q) (F0 m 2 ls []) := by
  obtain ⟨hx, hb, hml, hown, hts, hr, hlocks⟩ := C0
  have hD := wd_D (s := s) (cel := celC ad cA) (σ := s0) hi
  unfold B_X3_empty_2 at hv
  refine lv_iload_n hx hb dX3_empty_2 rfl (lv_at hl 1 rfl) ?_
  refine lv_aload_n hx hb dX3_empty_3 rfl (lv_at hl 0 rfl) ?_
  refine r_get hx hb hts (iwX3_empty_X3) hown hK.1 hP 67 (by decide) (cePt_0 (s0 67)) rfl 0 (by decide) (hts _ kX3_empty_1) (v := .ref (ad 68)) rfl dX3_empty_4 ?_
  refine r_alen (v := 24) hx hb hK.1 hP 68 (by decide) (cePt_1 (s0 68)) rfl dX3_empty_7 ?_
  refine lv_icmp_ge (tgt := 24) hx hb dX3_empty_8 (by decide) (fun c8 => ?_) (fun c8 => ?_)
  · have hv := hv.1 c8
    refine lv_aload_n hx hb dX3_empty_24 rfl (lv_at hl 0 rfl) ?_
    refine lv_iconst (v := 0) hx hb dX3_empty_25 (by decide) ?_
    refine r_put hx hb hts (iwX3_empty_X3) tyX3 tyX3_ok nmX3 hown hK.1 hP hD hS 67 (by decide) (cePt_0 (s0 67)) rfl 1 (by decide) (hts _ kX3_empty_2) rfl (ty := .int) (v := .int 0) (by decide +kernel) rfl rfl (Nat.le_of_ble_eq_true rfl) (row := (upd (s0 67) 1 0)) (by rw [(cePt_0 (upd (s0 67) 1 0))]; rfl) dX3_empty_26 (fun H locs s1 es1 hP hD hS => ?_)
    have hv := hv s1 es1
    exact r_vret hx hb hr hlocks hv hP hS dX3_empty_29
  · have hv := hv.2 c8
    refine lv_aload_n hx hb dX3_empty_11 rfl (lv_at hl 0 rfl) ?_
    refine r_get hx hb hts (iwX3_empty_X3) hown hK.1 hP 67 (by decide) (cePt_0 (s0 67)) rfl 0 (by decide) (hts _ kX3_empty_1) (v := .ref (ad 68)) rfl dX3_empty_12 ?_
    refine lv_iload_n hx hb dX3_empty_15 rfl (lv_at hl 1 rfl) ?_
    refine lv_iconst (v := 0) hx hb dX3_empty_16 (by decide) ?_
    obtain ⟨hin, hv⟩ := hv
    refine r_iast hx hb hK.1 hP hD hS 68 (by decide) (cePt_1 (s0 68)) (cePt_1 _) hin dX3_empty_17 (fun H locs s2 es2 hP hD hS => ?_)
    have hv := hv s2 es2
    refine lv_iinc (v := x1 + 1) (lv' := [(1, .int (x1 + 1)), (0, .ref (ad 67))]) hx hb dX3_empty_18 hl (k := 1) rfl rfl (by decide) rfl (fun ls hl => ?_)
    refine lv_goto (tgt := 2) hx hb dX3_empty_21 (by decide) ?_
    exact hY 2 [x1 + 1] [] s2 hv _ _ rfl H locs ls hP hS (lv_sub hl [1, 0] rfl)
set_option maxHeartbeats 4000000 in
theorem y_X3_empty {p : Program} {l : Launch} {e : Env} {s : State} {m : MethodId} {args : Array Value} {below : List Frame} {meth : Method} {c : Code} {dC : Nat → ClassId} {dI : Nat → Nat → Nat} {ad : Nat → Nat} {cA cZ : ClassId} (hi : Inj 81 ad)   (C0 : Cx cX3_empty RX3 wsX3_empty 2 none p s m args meth c) (hK : KK dC dI cA cZ s) (Q : St → Prop) : ∀ P xs ys σ, R_X3_empty  Q P xs ys σ → XX p l e ({ frames := 0, cells := 0, slots := 0, locals := 0 } : Room) s m args below meth c (dC, dI) 81 ad (celC ad cA) 2 (ZV below args s (dC, dI) 81 ad (celC ad cA) Q) (lay_X3_empty ad ) P xs ys σ := by
  refine Fx.elim _ (fun P xs ys σ Y hY hB => ?_)
  rcases hB with ⟨rfl, x1, rfl, rfl, hB⟩
  · intro lv st he H locs ls hP hS hl
    cases he
    exact w_X3_empty_2 hi   C0 hK Q Y hY x1 σ hB hP hS hl
set_option maxHeartbeats 4000000 in
theorem c_X3_empty {l : Launch} {dC : Nat → ClassId} {dI : Nat → Nat → Nat} {ad : Nat → Nat} {cA cZ : ClassId} (hi : Inj 81 ad)   (s0 : St) (Q : St → Prop) (hv : V_X3_empty  s0 Q) (sz : Nat) : Met l yX3_empty wsX3_empty ({ frames := 0, cells := 0, slots := 0, locals := 0 } : Room) (va_Pc [.ref (ad 67)] (PW dC dI ad cA cZ 81 (celC ad cA) sz s0)) (va_Qv Q (fun u t => va_P (dC, dI) vwCl (wd 81 ad (celC ad cA) u) t.heap) (AA 81 ad sz)) 0 0 (AA 81 ad sz) := by
  refine Met.ofW (cc := cX3_empty) (maxL := 2) (ret := none) (by decide) rfl ?_
  intro p e s m args below meth c s₁ B hml hv0
  obtain ⟨rfl, hsz, hP, hK⟩ := hv0
  subst hsz
  have C0 : Cx cX3_empty RX3 wsX3_empty 2 none p s m ([.ref (ad 67)] : List Value).toArray meth c := ⟨B.exec, B.bytes, hml, findClass_of_methodNamed B.named, atoms_spec (ws := wsX3_empty) B.pre, B.returns, B.notSynchronized⟩
  have hl := lv_entry ([.ref (ad 67)]) (n := 2) (Nat.le_of_ble_eq_true rfl)
  rw [lg_entry_eq]
  generalize (lg_sl ([.ref (ad 67)]) ++ List.replicate (2 - (lg_sl ([.ref (ad 67)])).length) Slot.unset).toArray = ls at hl ⊢
  have hl : lv_has ls 2 [(0, .ref (ad 67))] := hl
  exact w_X3_empty_e hi   C0 hK Q (R_X3_empty  Q) (y_X3_empty hi   C0 hK Q)  s0 hv hP va_S.rf hl
def lay_X3_add (ad : Nat → Nat) (a1 : Int32) : Nat → List Int32 → List Int64 → Option (List (Nat × Value) × List Value) := fun P xs ys => match P, xs, ys with
  | _, _, _ => none
set_option maxHeartbeats 4000000 in
set_option maxRecDepth 100000 in
theorem w_X3_add_e {p : Program} {l : Launch} {e : Env} {s : State} {m : MethodId} {args : Array Value} {below : List Frame} {meth : Method} {c : Code} {dC : Nat → ClassId} {dI : Nat → Nat → Nat} {ad : Nat → Nat} {cA cZ : ClassId} (hi : Inj 81 ad) (a1 : Int32)  (C0 : Cx cX3_add RX3 wsX3_add 2 none p s m args meth c) (hK : KK dC dI cA cZ s) (Q : St → Prop) (Y : Nat → List Int32 → List Int64 → St → Prop) (hY : ∀ P xs ys σ, Y P xs ys σ → XX p l e ({ frames := 1, cells := 0, slots := 0, locals := 21 } : Room) s m args below meth c (dC, dI) 81 ad (celC ad cA) 2 (ZV below args s (dC, dI) 81 ad (celC ad cA) Q) (lay_X3_add ad a1) P xs ys σ)  (s0 : St) (hv : B_X3_add_e a1 Q Y  s0) {H : Heap} {locs : List Loc} {ls : Array Slot} (hP : va_P (dC, dI) vwCl (wd 81 ad (celC ad cA) s0) H) (hS : va_S (AA 81 ad s.heap.size) s.heap H locs) (hl : lv_has ls 2 [(0, .ref (ad 67)), (1, .int a1)]) : W p l e ({ frames := 1, cells := 0, slots := 0, locals := 21 } : Room) s m args below meth c H locs 0 0 (ZV below args s (dC, dI) 81 ad (celC ad cA) Q) (F0 m 0 ls []) := by
  obtain ⟨hx, hb, hml, hown, hts, hr, hlocks⟩ := C0
  have hD := wd_D (s := s) (cel := celC ad cA) (σ := s0) hi
  unfold B_X3_add_e at hv
  refine lv_iload_n hx hb dX3_add_0 rfl (lv_at hl 1 rfl) ?_
  refine lv_if_lt (tgt := 40) hx hb dX3_add_1 (by decide) (fun c1 => ?_) (fun c1 => ?_)
  · have hv := hv.1 c1
    exact r_vret hx hb hr hlocks hv hP hS dX3_add_40
  · have hv := hv.2 c1
    refine lv_iload_n hx hb dX3_add_4 rfl (lv_at hl 1 rfl) ?_
    refine lv_aload_n hx hb dX3_add_5 rfl (lv_at hl 0 rfl) ?_
    refine r_get hx hb hts (iwX3_add_X3) hown hK.1 hP 67 (by decide) (cePt_0 (s0 67)) rfl 0 (by decide) (hts _ kX3_add_1) (v := .ref (ad 68)) rfl dX3_add_6 ?_
    refine r_alen (v := 24) hx hb hK.1 hP 68 (by decide) (cePt_1 (s0 68)) rfl dX3_add_9 ?_
    refine lv_icmp_ge (tgt := 40) hx hb dX3_add_10 (by decide) (fun c10 => ?_) (fun c10 => ?_)
    · have hv := hv.1 c10
      exact r_vret hx hb hr hlocks hv hP hS dX3_add_40
    · have hv := hv.2 c10
      refine lv_aload_n hx hb dX3_add_13 rfl (lv_at hl 0 rfl) ?_
      refine r_get hx hb hts (iwX3_add_X3) hown hK.1 hP 67 (by decide) (cePt_0 (s0 67)) rfl 0 (by decide) (hts _ kX3_add_1) (v := .ref (ad 68)) rfl dX3_add_14 ?_
      refine lv_iload_n hx hb dX3_add_17 rfl (lv_at hl 1 rfl) ?_
      refine lv_dup2_11 hx hb dX3_add_18 rfl rfl ?_
      obtain ⟨hin, hv⟩ := hv
      refine r_iald hx hb hK.1 hP 68 (by decide) (cePt_1 (s0 68)) hin dX3_add_19 ?_
      refine lv_iconst (v := 1) hx hb dX3_add_20 (by decide) ?_
      refine lv_iadd hx hb dX3_add_21 ?_
      obtain ⟨hin, hv⟩ := hv
      refine r_iast hx hb hK.1 hP hD hS 68 (by decide) (cePt_1 (s0 68)) (cePt_1 _) hin dX3_add_22 (fun H locs s1 es1 hP hD hS => ?_)
      have hv := hv s1 es1
      refine lv_aload_n hx hb dX3_add_23 rfl (lv_at hl 0 rfl) ?_
      refine lv_aload_n hx hb dX3_add_24 rfl (lv_at hl 0 rfl) ?_
      refine r_get hx hb hts (iwX3_add_X3) hown hK.1 hP 67 (by decide) (cePt_0 (s1 67)) rfl 1 (by decide) (hts _ kX3_add_2) (v := .int (s1 67 1)) rfl dX3_add_25 ?_
      refine lv_aload_n hx hb dX3_add_28 rfl (lv_at hl 0 rfl) ?_
      refine r_get hx hb hts (iwX3_add_X3) hown hK.1 hP 67 (by decide) (cePt_0 (s1 67)) rfl 0 (by decide) (hts _ kX3_add_1) (v := .ref (ad 68)) rfl dX3_add_29 ?_
      refine lv_iload_n hx hb dX3_add_32 rfl (lv_at hl 1 rfl) ?_
      obtain ⟨hin, hv⟩ := hv
      refine r_iald hx hb hK.1 hP 68 (by decide) (cePt_1 (s1 68)) hin dX3_add_33 ?_
      refine va_mmax hx hb (hml.trans hl.1.symm) hown (hts _ kX3_add_3) (hts _ kX3_add_4) (hts _ kX3_add_5) (hts _ kX3_add_6) (Nat.le_of_ble_eq_true rfl) (Nat.le_of_ble_eq_true rfl) (Nat.zero_le _) (Nat.zero_le _) dX3_add_34 ?_
      refine r_put hx hb hts (iwX3_add_X3) tyX3 tyX3_ok nmX3 hown hK.1 hP hD hS 67 (by decide) (cePt_0 (s1 67)) rfl 1 (by decide) (hts _ kX3_add_2) rfl (ty := .int) (v := .int ((if (s1 67 1) < (s1 68 a1.toNatClampNeg) then (s1 68 a1.toNatClampNeg) else (s1 67 1)))) (by decide +kernel) rfl rfl (Nat.le_of_ble_eq_true rfl) (row := (upd (s1 67) 1 ((if (s1 67 1) < (s1 68 a1.toNatClampNeg) then (s1 68 a1.toNatClampNeg) else (s1 67 1))))) (by rw [(cePt_0 (upd (s1 67) 1 ((if (s1 67 1) < (s1 68 a1.toNatClampNeg) then (s1 68 a1.toNatClampNeg) else (s1 67 1)))))]; rfl) dX3_add_37 (fun H locs s2 es2 hP hD hS => ?_)
      have hv := hv s2 es2
      exact r_vret hx hb hr hlocks hv hP hS dX3_add_40
set_option maxHeartbeats 4000000 in
theorem y_X3_add {p : Program} {l : Launch} {e : Env} {s : State} {m : MethodId} {args : Array Value} {below : List Frame} {meth : Method} {c : Code} {dC : Nat → ClassId} {dI : Nat → Nat → Nat} {ad : Nat → Nat} {cA cZ : ClassId} (hi : Inj 81 ad) (a1 : Int32)  (C0 : Cx cX3_add RX3 wsX3_add 2 none p s m args meth c) (hK : KK dC dI cA cZ s) (Q : St → Prop) : ∀ P xs ys σ, R_X3_add a1 Q P xs ys σ → XX p l e ({ frames := 1, cells := 0, slots := 0, locals := 21 } : Room) s m args below meth c (dC, dI) 81 ad (celC ad cA) 2 (ZV below args s (dC, dI) 81 ad (celC ad cA) Q) (lay_X3_add ad a1) P xs ys σ := by
  refine Fx.elim _ (fun P xs ys σ Y hY hB => ?_)
  exact hB.elim
set_option maxHeartbeats 4000000 in
theorem c_X3_add {l : Launch} {dC : Nat → ClassId} {dI : Nat → Nat → Nat} {ad : Nat → Nat} {cA cZ : ClassId} (hi : Inj 81 ad) (a1 : Int32)  (s0 : St) (Q : St → Prop) (hv : V_X3_add a1 s0 Q) (sz : Nat) : Met l yX3_add wsX3_add ({ frames := 1, cells := 0, slots := 0, locals := 21 } : Room) (va_Pc [.ref (ad 67), .int a1] (PW dC dI ad cA cZ 81 (celC ad cA) sz s0)) (va_Qv Q (fun u t => va_P (dC, dI) vwCl (wd 81 ad (celC ad cA) u) t.heap) (AA 81 ad sz)) 0 0 (AA 81 ad sz) := by
  refine Met.ofW (cc := cX3_add) (maxL := 2) (ret := none) (by decide) rfl ?_
  intro p e s m args below meth c s₁ B hml hv0
  obtain ⟨rfl, hsz, hP, hK⟩ := hv0
  subst hsz
  have C0 : Cx cX3_add RX3 wsX3_add 2 none p s m ([.ref (ad 67), .int a1] : List Value).toArray meth c := ⟨B.exec, B.bytes, hml, findClass_of_methodNamed B.named, atoms_spec (ws := wsX3_add) B.pre, B.returns, B.notSynchronized⟩
  have hl := lv_entry ([.ref (ad 67), .int a1]) (n := 2) (Nat.le_of_ble_eq_true rfl)
  rw [lg_entry_eq]
  generalize (lg_sl ([.ref (ad 67), .int a1]) ++ List.replicate (2 - (lg_sl ([.ref (ad 67), .int a1])).length) Slot.unset).toArray = ls at hl ⊢
  have hl : lv_has ls 2 [(0, .ref (ad 67)), (1, .int a1)] := hl
  exact w_X3_add_e hi a1  C0 hK Q (R_X3_add a1 Q) (y_X3_add hi a1  C0 hK Q)  s0 hv hP va_S.rf hl
def lay_X3_offer (ad : Nat → Nat) (a1 : Int32) : Nat → List Int32 → List Int64 → Option (List (Nat × Value) × List Value) := fun P xs ys => match P, xs, ys with
  | _, _, _ => none
set_option maxHeartbeats 4000000 in
set_option maxRecDepth 100000 in
theorem w_X3_offer_e {p : Program} {l : Launch} {e : Env} {s : State} {m : MethodId} {args : Array Value} {below : List Frame} {meth : Method} {c : Code} {dC : Nat → ClassId} {dI : Nat → Nat → Nat} {ad : Nat → Nat} {cA cZ : ClassId} (hi : Inj 81 ad) (a1 : Int32)  (C0 : Cx cX3_offer RX3 wsX3_offer 2 none p s m args meth c) (hK : KK dC dI cA cZ s) (Q : St → Prop) (Y : Nat → List Int32 → List Int64 → St → Prop) (hY : ∀ P xs ys σ, Y P xs ys σ → XX p l e ({ frames := 0, cells := 0, slots := 0, locals := 0 } : Room) s m args below meth c (dC, dI) 81 ad (celC ad cA) 2 (ZV below args s (dC, dI) 81 ad (celC ad cA) Q) (lay_X3_offer ad a1) P xs ys σ)  (s0 : St) (hv : B_X3_offer_e a1 Q Y  s0) {H : Heap} {locs : List Loc} {ls : Array Slot} (hP : va_P (dC, dI) vwCl (wd 81 ad (celC ad cA) s0) H) (hS : va_S (AA 81 ad s.heap.size) s.heap H locs) (hl : lv_has ls 2 [(0, .ref (ad 67)), (1, .int a1)]) : W p l e ({ frames := 0, cells := 0, slots := 0, locals := 0 } : Room) s m args below meth c H locs 0 0 (ZV below args s (dC, dI) 81 ad (celC ad cA) Q) (F0 m 0 ls []) := by
  obtain ⟨hx, hb, hml, hown, hts, hr, hlocks⟩ := C0
  have hD := wd_D (s := s) (cel := celC ad cA) (σ := s0) hi
  unfold B_X3_offer_e at hv
  refine lv_aload_n hx hb dX3_offer_0 rfl (lv_at hl 0 rfl) ?_
  refine r_get hx hb hts (iwX3_offer_X3) hown hK.1 hP 67 (by decide) (cePt_0 (s0 67)) rfl 1 (by decide) (hts _ kX3_offer_1) (v := .int (s0 67 1)) rfl dX3_offer_1 ?_
  refine lv_if_le (tgt := 31) hx hb dX3_offer_4 (by decide) (fun c4 => ?_) (fun c4 => ?_)
  · have hv := hv.1 c4
    exact r_vret hx hb hr hlocks hv hP hS dX3_offer_31
  · have hv := hv.2 c4
    refine lv_aload_n hx hb dX3_offer_7 rfl (lv_at hl 0 rfl) ?_
    refine r_get hx hb hts (iwX3_offer_X3) hown hK.1 hP 67 (by decide) (cePt_0 (s0 67)) rfl 1 (by decide) (hts _ kX3_offer_1) (v := .int (s0 67 1)) rfl dX3_offer_8 ?_
    refine lv_aload_n hx hb dX3_offer_11 rfl (lv_at hl 0 rfl) ?_
    refine r_get hx hb hts (iwX3_offer_X3) hown hK.1 hP 67 (by decide) (cePt_0 (s0 67)) rfl 2 (by decide) (hts _ kX3_offer_2) (v := .int (s0 67 2)) rfl dX3_offer_12 ?_
    refine lv_icmp_ge (tgt := 31) hx hb dX3_offer_15 (by decide) (fun c15 => ?_) (fun c15 => ?_)
    · have hv := hv.1 c15
      exact r_vret hx hb hr hlocks hv hP hS dX3_offer_31
    · have hv := hv.2 c15
      refine lv_aload_n hx hb dX3_offer_18 rfl (lv_at hl 0 rfl) ?_
      refine lv_aload_n hx hb dX3_offer_19 rfl (lv_at hl 0 rfl) ?_
      refine r_get hx hb hts (iwX3_offer_X3) hown hK.1 hP 67 (by decide) (cePt_0 (s0 67)) rfl 1 (by decide) (hts _ kX3_offer_1) (v := .int (s0 67 1)) rfl dX3_offer_20 ?_
      refine r_put hx hb hts (iwX3_offer_X3) tyX3 tyX3_ok nmX3 hown hK.1 hP hD hS 67 (by decide) (cePt_0 (s0 67)) rfl 2 (by decide) (hts _ kX3_offer_2) rfl (ty := .int) (v := .int (s0 67 1)) (by decide +kernel) rfl rfl (Nat.le_of_ble_eq_true rfl) (row := (upd (s0 67) 2 (s0 67 1))) (by rw [(cePt_0 (upd (s0 67) 2 (s0 67 1)))]; rfl) dX3_offer_23 (fun H locs s1 es1 hP hD hS => ?_)
      have hv := hv s1 es1
      refine lv_aload_n hx hb dX3_offer_26 rfl (lv_at hl 0 rfl) ?_
      refine lv_iload_n hx hb dX3_offer_27 rfl (lv_at hl 1 rfl) ?_
      refine r_put hx hb hts (iwX3_offer_X3) tyX3 tyX3_ok nmX3 hown hK.1 hP hD hS 67 (by decide) (cePt_0 (s1 67)) rfl 3 (by decide) (hts _ kX3_offer_3) rfl (ty := .int) (v := .int a1) (by decide +kernel) rfl rfl (Nat.le_of_ble_eq_true rfl) (row := (upd (s1 67) 3 a1)) (by rw [(cePt_0 (upd (s1 67) 3 a1))]; rfl) dX3_offer_28 (fun H locs s2 es2 hP hD hS => ?_)
      have hv := hv s2 es2
      exact r_vret hx hb hr hlocks hv hP hS dX3_offer_31
set_option maxHeartbeats 4000000 in
theorem y_X3_offer {p : Program} {l : Launch} {e : Env} {s : State} {m : MethodId} {args : Array Value} {below : List Frame} {meth : Method} {c : Code} {dC : Nat → ClassId} {dI : Nat → Nat → Nat} {ad : Nat → Nat} {cA cZ : ClassId} (hi : Inj 81 ad) (a1 : Int32)  (C0 : Cx cX3_offer RX3 wsX3_offer 2 none p s m args meth c) (hK : KK dC dI cA cZ s) (Q : St → Prop) : ∀ P xs ys σ, R_X3_offer a1 Q P xs ys σ → XX p l e ({ frames := 0, cells := 0, slots := 0, locals := 0 } : Room) s m args below meth c (dC, dI) 81 ad (celC ad cA) 2 (ZV below args s (dC, dI) 81 ad (celC ad cA) Q) (lay_X3_offer ad a1) P xs ys σ := by
  refine Fx.elim _ (fun P xs ys σ Y hY hB => ?_)
  exact hB.elim
set_option maxHeartbeats 4000000 in
theorem c_X3_offer {l : Launch} {dC : Nat → ClassId} {dI : Nat → Nat → Nat} {ad : Nat → Nat} {cA cZ : ClassId} (hi : Inj 81 ad) (a1 : Int32)  (s0 : St) (Q : St → Prop) (hv : V_X3_offer a1 s0 Q) (sz : Nat) : Met l yX3_offer wsX3_offer ({ frames := 0, cells := 0, slots := 0, locals := 0 } : Room) (va_Pc [.ref (ad 67), .int a1] (PW dC dI ad cA cZ 81 (celC ad cA) sz s0)) (va_Qv Q (fun u t => va_P (dC, dI) vwCl (wd 81 ad (celC ad cA) u) t.heap) (AA 81 ad sz)) 0 0 (AA 81 ad sz) := by
  refine Met.ofW (cc := cX3_offer) (maxL := 2) (ret := none) (by decide) rfl ?_
  intro p e s m args below meth c s₁ B hml hv0
  obtain ⟨rfl, hsz, hP, hK⟩ := hv0
  subst hsz
  have C0 : Cx cX3_offer RX3 wsX3_offer 2 none p s m ([.ref (ad 67), .int a1] : List Value).toArray meth c := ⟨B.exec, B.bytes, hml, findClass_of_methodNamed B.named, atoms_spec (ws := wsX3_offer) B.pre, B.returns, B.notSynchronized⟩
  have hl := lv_entry ([.ref (ad 67), .int a1]) (n := 2) (Nat.le_of_ble_eq_true rfl)
  rw [lg_entry_eq]
  generalize (lg_sl ([.ref (ad 67), .int a1]) ++ List.replicate (2 - (lg_sl ([.ref (ad 67), .int a1])).length) Slot.unset).toArray = ls at hl ⊢
  have hl : lv_has ls 2 [(0, .ref (ad 67)), (1, .int a1)] := hl
  exact w_X3_offer_e hi a1  C0 hK Q (R_X3_offer a1 Q) (y_X3_offer hi a1  C0 hK Q)  s0 hv hP va_S.rf hl
def lay_X0_hoursThatPart (ad : Nat → Nat) (h1 : Nat) (a2 : Int32) : Nat → List Int32 → List Int64 → Option (List (Nat × Value) × List Value) := fun P xs ys => match P, xs, ys with
  | 15, [x4], [] => some ([(0, .ref (ad 55)), (2, .int a2), (3, .ref (ad 67)), (4, .int x4)], [])
  | 29, [x4, x5], [] => some ([(0, .ref (ad 55)), (2, .int a2), (3, .ref (ad 67)), (4, .int x4), (5, .int x5)], [])
  | _, _, _ => none
set_option maxHeartbeats 4000000 in
set_option maxRecDepth 100000 in
theorem w_X0_hoursThatPart_e {p : Program} {l : Launch} {e : Env} {s : State} {m : MethodId} {args : Array Value} {below : List Frame} {meth : Method} {c : Code} {dC : Nat → ClassId} {dI : Nat → Nat → Nat} {ad : Nat → Nat} {cA cZ : ClassId} (hi : Inj 81 ad) (h1 : Nat) (a2 : Int32) (hh1 : isSt h1) (C0 : Cx cX0_hoursThatPart RX0 wsX0_hoursThatPart 6 (some .int) p s m args meth c) (hK : KK dC dI cA cZ s) (Q : Int32 → St → Prop) (Y : Nat → List Int32 → List Int64 → St → Prop) (hY : ∀ P xs ys σ, Y P xs ys σ → XX p l e ({ frames := 3, cells := 0, slots := 0, locals := 69 } : Room) s m args below meth c (dC, dI) 81 ad (celC ad cA) 6 (ZI below args s (dC, dI) 81 ad (celC ad cA) Q) (lay_X0_hoursThatPart ad h1 a2) P xs ys σ)  (s0 : St) (hv : B_X0_hoursThatPart_e h1 a2 Q Y  s0) {H : Heap} {locs : List Loc} {ls : Array Slot} (hP : va_P (dC, dI) vwCl (wd 81 ad (celC ad cA) s0) H) (hS : va_S (AA 81 ad s.heap.size) s.heap H locs) (hl : lv_has ls 6 [(0, .ref (ad 55)), (1, .ref (ad h1)), (2, .int a2), (3, .ref (ad 67))]) : W p l e ({ frames := 3, cells := 0, slots := 0, locals := 69 } : Room) s m args below meth c H locs 0 0 (ZI below args s (dC, dI) 81 ad (celC ad cA) Q) (F0 m 0 ls []) := by
  obtain ⟨hx, hb, hml, hown, hts, hr, hlocks⟩ := C0
  have hD := wd_D (s := s) (cel := celC ad cA) (σ := s0) hi
  unfold B_X0_hoursThatPart_e at hv
  refine lv_aload_n hx hb dX0_hoursThatPart_0 rfl (lv_at hl 0 rfl) ?_
  refine r_get hx hb hts (iwX0_hoursThatPart_X0) hown hK.1 hP 55 (by decide) (ceFo_0 (s0 55)) rfl 0 (by decide) (hts _ kX0_hoursThatPart_1) (v := .ref (ad 56)) rfl dX0_hoursThatPart_1 ?_
  refine lv_aload_n hx hb dX0_hoursThatPart_4 rfl (lv_at hl 1 rfl) ?_
  refine r_cv (va_runV (As := [.ref (ad h1)]) (rest := []) ⟨hx, hb, hml, hown, hts⟩ (c_X8_copy hi 56 h1 vSt_56 hh1 s0 _ hv H.size) (cwV 1 hts gX0_hoursThatPart_X8_copy rfl rfl rfl (by decide +kernel) ⟨Nat.le_of_ble_eq_true rfl, Nat.le_of_ble_eq_true rfl⟩) ⟨pre_blind, r_recv hK.1 hP 56 (ltSt_0 vSt_56) (ceSt_0 vSt_56 (s0 56)) rfl, pre_of hP hK⟩ rfl rfl hl.1 rfl (lv_room (Nat.le_of_ble_eq_true rfl)) dX0_hoursThatPart_5 ⟨Nat.zero_le _, Nat.zero_le _⟩) hS (fun s1 H locs hv hP hS => ?_)
  have hD := wd_D (s := s) (cel := celC ad cA) (σ := s1) hi
  refine lv_aload_n hx hb dX0_hoursThatPart_8 rfl (lv_at hl 3 rfl) ?_
  refine r_cv (va_runV (As := []) (rest := []) ⟨hx, hb, hml, hown, hts⟩ (c_X3_begin hi  s1 _ hv H.size) (cwV 0 hts gX0_hoursThatPart_X3_begin rfl rfl rfl (by decide +kernel) ⟨Nat.le_of_ble_eq_true rfl, Nat.le_of_ble_eq_true rfl⟩) ⟨pre_blind, r_recv hK.1 hP 67 (by decide) (cePt_0 (s1 67)) rfl, pre_of hP hK⟩ rfl rfl hl.1 rfl (lv_room (Nat.le_of_ble_eq_true rfl)) dX0_hoursThatPart_9 ⟨Nat.zero_le _, Nat.zero_le _⟩) hS (fun s2 H locs hv hP hS => ?_)
  have hD := wd_D (s := s) (cel := celC ad cA) (σ := s2) hi
  refine lv_iconst (v := 0) hx hb dX0_hoursThatPart_12 (by decide) ?_
  refine lv_istore (lv' := [(4, .int 0), (0, .ref (ad 55)), (1, .ref (ad h1)), (2, .int a2), (3, .ref (ad 67))]) hx hb dX0_hoursThatPart_13 hl (by decide) rfl (fun ls hl => ?_)
  exact hY 15 [0] [] s2 hv _ _ rfl H locs ls hP hS (lv_sub hl [1, 3, 4, 0] rfl)
set_option maxHeartbeats 4000000 in
set_option maxRecDepth 100000 in
theorem w_X0_hoursThatPart_15 {p : Program} {l : Launch} {e : Env} {s : State} {m : MethodId} {args : Array Value} {below : List Frame} {meth : Method} {c : Code} {dC : Nat → ClassId} {dI : Nat → Nat → Nat} {ad : Nat → Nat} {cA cZ : ClassId} (hi : Inj 81 ad) (h1 : Nat) (a2 : Int32) (hh1 : isSt h1) (C0 : Cx cX0_hoursThatPart RX0 wsX0_hoursThatPart 6 (some .int) p s m args meth c) (hK : KK dC dI cA cZ s) (Q : Int32 → St → Prop) (Y : Nat → List Int32 → List Int64 → St → Prop) (hY : ∀ P xs ys σ, Y P xs ys σ → XX p l e ({ frames := 3, cells := 0, slots := 0, locals := 69 } : Room) s m args below meth c (dC, dI) 81 ad (celC ad cA) 6 (ZI below args s (dC, dI) 81 ad (celC ad cA) Q) (lay_X0_hoursThatPart ad h1 a2) P xs ys σ) (x4 : Int32) (s0 : St) (hv : B_X0_hoursThatPart_15 h1 a2 Q Y x4 s0) {H : Heap} {locs : List Loc} {ls : Array Slot} (hP : va_P (dC, dI) vwCl (wd 81 ad (celC ad cA) s0) H) (hS : va_S (AA 81 ad s.heap.size) s.heap H locs) (hl : lv_has ls 6 [(0, .ref (ad 55)), (2, .int a2), (3, .ref (ad 67)), (4, .int x4)]) : W p l e ({ frames := 3, cells := 0, slots := 0, locals := 69 } : Room) s m args below meth c H locs 0 0 (ZI below args s (dC, dI) 81 ad (celC ad cA) Q) (F0 m 15 ls []) := by
  obtain ⟨hx, hb, hml, hown, hts, hr, hlocks⟩ := C0
  have hD := wd_D (s := s) (cel := celC ad cA) (σ := s0) hi
  unfold B_X0_hoursThatPart_15 at hv
  refine lv_iload hx hb dX0_hoursThatPart_15 (lv_at hl 3 rfl) ?_
  refine lv_bipush (v := 20) hx hb dX0_hoursThatPart_17 (by decide) ?_
  refine lv_icmp_gt (tgt := 90) hx hb dX0_hoursThatPart_19 (by decide) (fun c19 => ?_) (fun c19 => ?_)
  · have hv := hv.1 c19
    refine lv_aload_n hx hb dX0_hoursThatPart_90 rfl (lv_at hl 2 rfl) ?_
    refine r_get hx hb hts (iwX0_hoursThatPart_X3) hown hK.1 hP 67 (by decide) (cePt_0 (s0 67)) rfl 3 (by decide) (hts _ kX0_hoursThatPart_4) (v := .int (s0 67 3)) rfl dX0_hoursThatPart_91 ?_
    exact r_iret hx hb hr hlocks hv hP hS dX0_hoursThatPart_94
  · have hv := hv.2 c19
    refine lv_aload_n hx hb dX0_hoursThatPart_22 rfl (lv_at hl 2 rfl) ?_
    refine r_cv (va_runV (As := []) (rest := []) ⟨hx, hb, hml, hown, hts⟩ (c_X3_empty hi  s0 _ hv H.size) (cwV 0 hts gX0_hoursThatPart_X3_empty rfl rfl rfl (by decide +kernel) ⟨Nat.le_of_ble_eq_true rfl, Nat.le_of_ble_eq_true rfl⟩) ⟨pre_blind, r_recv hK.1 hP 67 (by decide) (cePt_0 (s0 67)) rfl, pre_of hP hK⟩ rfl rfl hl.1 rfl (lv_room (Nat.le_of_ble_eq_true rfl)) dX0_hoursThatPart_23 ⟨Nat.zero_le _, Nat.zero_le _⟩) hS (fun s1 H locs hv hP hS => ?_)
    have hD := wd_D (s := s) (cel := celC ad cA) (σ := s1) hi
    refine lv_iconst (v := 0) hx hb dX0_hoursThatPart_26 (by decide) ?_
    refine lv_istore (lv' := [(5, .int 0), (0, .ref (ad 55)), (2, .int a2), (3, .ref (ad 67)), (4, .int x4)]) hx hb dX0_hoursThatPart_27 hl (by decide) rfl (fun ls hl => ?_)
    exact hY 29 [x4, 0] [] s1 hv _ _ rfl H locs ls hP hS (lv_sub hl [1, 2, 3, 4, 0] rfl)
set_option maxHeartbeats 4000000 in
set_option maxRecDepth 100000 in
theorem w_X0_hoursThatPart_29 {p : Program} {l : Launch} {e : Env} {s : State} {m : MethodId} {args : Array Value} {below : List Frame} {meth : Method} {c : Code} {dC : Nat → ClassId} {dI : Nat → Nat → Nat} {ad : Nat → Nat} {cA cZ : ClassId} (hi : Inj 81 ad) (h1 : Nat) (a2 : Int32) (hh1 : isSt h1) (C0 : Cx cX0_hoursThatPart RX0 wsX0_hoursThatPart 6 (some .int) p s m args meth c) (hK : KK dC dI cA cZ s) (Q : Int32 → St → Prop) (Y : Nat → List Int32 → List Int64 → St → Prop) (hY : ∀ P xs ys σ, Y P xs ys σ → XX p l e ({ frames := 3, cells := 0, slots := 0, locals := 69 } : Room) s m args below meth c (dC, dI) 81 ad (celC ad cA) 6 (ZI below args s (dC, dI) 81 ad (celC ad cA) Q) (lay_X0_hoursThatPart ad h1 a2) P xs ys σ) (x4 : Int32) (x5 : Int32) (s0 : St) (hv : B_X0_hoursThatPart_29 h1 a2 Q Y x4 x5 s0) {H : Heap} {locs : List Loc} {ls : Array Slot} (hP : va_P (dC, dI) vwCl (wd 81 ad (celC ad cA) s0) H) (hS : va_S (AA 81 ad s.heap.size) s.heap H locs) (hl : lv_has ls 6 [(0, .ref (ad 55)), (2, .int a2), (3, .ref (ad 67)), (4, .int x4), (5, .int x5)]) : W p l e ({ frames := 3, cells := 0, slots := 0, locals := 69 } : Room) s m args below meth c H locs 0 0 (ZI below args s (dC, dI) 81 ad (celC ad cA) Q) (F0 m 29 ls []) := by
  obtain ⟨hx, hb, hml, hown, hts, hr, hlocks⟩ := C0
  have hD := wd_D (s := s) (cel := celC ad cA) (σ := s0) hi
  unfold B_X0_hoursThatPart_29 at hv
  refine lv_iload hx hb dX0_hoursThatPart_29 (lv_at hl 4 rfl) ?_
  refine lv_aload_n hx hb dX0_hoursThatPart_31 rfl (lv_at hl 0 rfl) ?_
  refine r_get hx hb hts (iwX0_hoursThatPart_X0) hown hK.1 hP 55 (by decide) (ceFo_0 (s0 55)) rfl 0 (by decide) (hts _ kX0_hoursThatPart_1) (v := .ref (ad 56)) rfl dX0_hoursThatPart_32 ?_
  refine r_get hx hb hts (iwX0_hoursThatPart_X8) hown hK.1 hP 56 (ltSt_0 vSt_56) (ceSt_0 vSt_56 (s0 56)) rfl 8 (by decide) (hts _ kX0_hoursThatPart_2) (v := .int (s0 56 8)) rfl dX0_hoursThatPart_35 ?_
  refine lv_icmp_ge (tgt := 71) hx hb dX0_hoursThatPart_38 (by decide) (fun c38 => ?_) (fun c38 => ?_)
  · have hv := hv.1 c38
    refine lv_aload_n hx hb dX0_hoursThatPart_71 rfl (lv_at hl 2 rfl) ?_
    refine lv_iload hx hb dX0_hoursThatPart_72 (lv_at hl 3 rfl) ?_
    refine r_cv (va_runV (As := [.int x4]) (rest := []) ⟨hx, hb, hml, hown, hts⟩ (c_X3_offer hi x4 s0 _ hv H.size) (cwV 1 hts gX0_hoursThatPart_X3_offer rfl rfl rfl (by decide +kernel) ⟨Nat.le_of_ble_eq_true rfl, Nat.le_of_ble_eq_true rfl⟩) ⟨pre_blind, r_recv hK.1 hP 67 (by decide) (cePt_0 (s0 67)) rfl, pre_of hP hK⟩ rfl rfl hl.1 rfl (lv_room (Nat.le_of_ble_eq_true rfl)) dX0_hoursThatPart_74 ⟨Nat.zero_le _, Nat.zero_le _⟩) hS (fun s1 H locs hv hP hS => ?_)
    have hD := wd_D (s := s) (cel := celC ad cA) (σ := s1) hi
    refine lv_aload_n hx hb dX0_hoursThatPart_77 rfl (lv_at hl 0 rfl) ?_
    refine r_get hx hb hts (iwX0_hoursThatPart_X0) hown hK.1 hP 55 (by decide) (ceFo_0 (s1 55)) rfl 0 (by decide) (hts _ kX0_hoursThatPart_1) (v := .ref (ad 56)) rfl dX0_hoursThatPart_78 ?_
    refine r_cv (va_runV (As := []) (rest := []) ⟨hx, hb, hml, hown, hts⟩ (c_X8_passHour hi 56 vSt_56 s1 _ hv H.size) (cwV 0 hts gX0_hoursThatPart_X8_passHour rfl rfl rfl (by decide +kernel) ⟨Nat.le_of_ble_eq_true rfl, Nat.le_of_ble_eq_true rfl⟩) ⟨pre_blind, r_recv hK.1 hP 56 (ltSt_0 vSt_56) (ceSt_0 vSt_56 (s1 56)) rfl, pre_of hP hK⟩ rfl rfl hl.1 rfl (lv_room (Nat.le_of_ble_eq_true rfl)) dX0_hoursThatPart_81 ⟨Nat.zero_le _, Nat.zero_le _⟩) hS (fun s2 H locs hv hP hS => ?_)
    have hD := wd_D (s := s) (cel := celC ad cA) (σ := s2) hi
    refine lv_iinc (v := x4 + 1) (lv' := [(4, .int (x4 + 1)), (0, .ref (ad 55)), (2, .int a2), (3, .ref (ad 67)), (5, .int x5)]) hx hb dX0_hoursThatPart_84 hl (k := 3) rfl rfl (by decide) rfl (fun ls hl => ?_)
    refine lv_goto (tgt := 15) hx hb dX0_hoursThatPart_87 (by decide) ?_
    exact hY 15 [x4 + 1] [] s2 hv _ _ rfl H locs ls hP hS (lv_sub hl [1, 2, 3, 0] rfl)
  · have hv := hv.2 c38
    refine lv_iload_n hx hb dX0_hoursThatPart_41 rfl (lv_at hl 1 rfl) ?_
    refine lv_iload hx hb dX0_hoursThatPart_42 (lv_at hl 4 rfl) ?_
    refine lv_ishr hx hb dX0_hoursThatPart_44 ?_
    refine lv_iconst (v := 1) hx hb dX0_hoursThatPart_45 (by decide) ?_
    refine lv_iand hx hb dX0_hoursThatPart_46 ?_
    refine lv_iconst (v := 1) hx hb dX0_hoursThatPart_47 (by decide) ?_
    refine lv_icmp_ne (tgt := 65) hx hb dX0_hoursThatPart_48 (by decide) (fun c48 => ?_) (fun c48 => ?_)
    · have hv := hv.1 c48
      refine lv_iinc (v := x5 + 1) (lv' := [(5, .int (x5 + 1)), (0, .ref (ad 55)), (2, .int a2), (3, .ref (ad 67)), (4, .int x4)]) hx hb dX0_hoursThatPart_65 hl (k := 4) rfl rfl (by decide) rfl (fun ls hl => ?_)
      refine lv_goto (tgt := 29) hx hb dX0_hoursThatPart_68 (by decide) ?_
      exact hY 29 [x4, x5 + 1] [] s0 hv _ _ rfl H locs ls hP hS (lv_sub hl [1, 2, 3, 4, 0] rfl)
    · have hv := hv.2 c48
      refine lv_aload_n hx hb dX0_hoursThatPart_51 rfl (lv_at hl 2 rfl) ?_
      refine lv_aload_n hx hb dX0_hoursThatPart_52 rfl (lv_at hl 0 rfl) ?_
      refine r_get hx hb hts (iwX0_hoursThatPart_X0) hown hK.1 hP 55 (by decide) (ceFo_0 (s0 55)) rfl 0 (by decide) (hts _ kX0_hoursThatPart_1) (v := .ref (ad 56)) rfl dX0_hoursThatPart_53 ?_
      refine r_get hx hb hts (iwX0_hoursThatPart_X8) hown hK.1 hP 56 (ltSt_0 vSt_56) (ceSt_0 vSt_56 (s0 56)) rfl 3 (by decide) (hts _ kX0_hoursThatPart_3) (v := .ref (ad 60)) rfl dX0_hoursThatPart_56 ?_
      refine lv_iload hx hb dX0_hoursThatPart_59 (lv_at hl 4 rfl) ?_
      obtain ⟨hin, hv⟩ := hv
      refine r_iald hx hb hK.1 hP 60 (ltSt_4 vSt_56) (ceSt_4 vSt_56 (s0 60)) hin dX0_hoursThatPart_61 ?_
      refine r_cv (va_runV (As := [.int (s0 60 x5.toNatClampNeg)]) (rest := []) ⟨hx, hb, hml, hown, hts⟩ (c_X3_add hi (s0 60 x5.toNatClampNeg) s0 _ hv H.size) (cwV 1 hts gX0_hoursThatPart_X3_add rfl rfl rfl (by decide +kernel) ⟨Nat.le_of_ble_eq_true rfl, Nat.le_of_ble_eq_true rfl⟩) ⟨pre_blind, r_recv hK.1 hP 67 (by decide) (cePt_0 (s0 67)) rfl, pre_of hP hK⟩ rfl rfl hl.1 rfl (lv_room (Nat.le_of_ble_eq_true rfl)) dX0_hoursThatPart_62 ⟨Nat.zero_le _, Nat.zero_le _⟩) hS (fun s3 H locs hv hP hS => ?_)
      have hD := wd_D (s := s) (cel := celC ad cA) (σ := s3) hi
      refine lv_iinc (v := x5 + 1) (lv' := [(5, .int (x5 + 1)), (0, .ref (ad 55)), (2, .int a2), (3, .ref (ad 67)), (4, .int x4)]) hx hb dX0_hoursThatPart_65 hl (k := 4) rfl rfl (by decide) rfl (fun ls hl => ?_)
      refine lv_goto (tgt := 29) hx hb dX0_hoursThatPart_68 (by decide) ?_
      exact hY 29 [x4, x5 + 1] [] s3 hv _ _ rfl H locs ls hP hS (lv_sub hl [1, 2, 3, 4, 0] rfl)
set_option maxHeartbeats 4000000 in
theorem y_X0_hoursThatPart {p : Program} {l : Launch} {e : Env} {s : State} {m : MethodId} {args : Array Value} {below : List Frame} {meth : Method} {c : Code} {dC : Nat → ClassId} {dI : Nat → Nat → Nat} {ad : Nat → Nat} {cA cZ : ClassId} (hi : Inj 81 ad) (h1 : Nat) (a2 : Int32) (hh1 : isSt h1) (C0 : Cx cX0_hoursThatPart RX0 wsX0_hoursThatPart 6 (some .int) p s m args meth c) (hK : KK dC dI cA cZ s) (Q : Int32 → St → Prop) : ∀ P xs ys σ, R_X0_hoursThatPart h1 a2 Q P xs ys σ → XX p l e ({ frames := 3, cells := 0, slots := 0, locals := 69 } : Room) s m args below meth c (dC, dI) 81 ad (celC ad cA) 6 (ZI below args s (dC, dI) 81 ad (celC ad cA) Q) (lay_X0_hoursThatPart ad h1 a2) P xs ys σ := by
  refine Fx.elim _ (fun P xs ys σ Y hY hB => ?_)
  rcases hB with ⟨rfl, x4, rfl, rfl, hB⟩ | ⟨rfl, x4, x5, rfl, rfl, hB⟩
  · intro lv st he H locs ls hP hS hl
    cases he
    exact w_X0_hoursThatPart_15 hi h1 a2 hh1 C0 hK Q Y hY x4 σ hB hP hS hl
  · intro lv st he H locs ls hP hS hl
    cases he
    exact w_X0_hoursThatPart_29 hi h1 a2 hh1 C0 hK Q Y hY x4 x5 σ hB hP hS hl
set_option maxHeartbeats 4000000 in
theorem c_X0_hoursThatPart {l : Launch} {dC : Nat → ClassId} {dI : Nat → Nat → Nat} {ad : Nat → Nat} {cA cZ : ClassId} (hi : Inj 81 ad) (h1 : Nat) (a2 : Int32) (hh1 : isSt h1) (s0 : St) (Q : Int32 → St → Prop) (hv : V_X0_hoursThatPart h1 a2 s0 Q) (sz : Nat) : Met l yX0_hoursThatPart wsX0_hoursThatPart ({ frames := 3, cells := 0, slots := 0, locals := 69 } : Room) (va_Pc [.ref (ad 55), .ref (ad h1), .int a2, .ref (ad 67)] (PW dC dI ad cA cZ 81 (celC ad cA) sz s0)) (va_Qi Q (fun u t => va_P (dC, dI) vwCl (wd 81 ad (celC ad cA) u) t.heap) (AA 81 ad sz)) 0 0 (AA 81 ad sz) := by
  refine Met.ofW (cc := cX0_hoursThatPart) (maxL := 6) (ret := (some .int)) (by decide) rfl ?_
  intro p e s m args below meth c s₁ B hml hv0
  obtain ⟨rfl, hsz, hP, hK⟩ := hv0
  subst hsz
  have C0 : Cx cX0_hoursThatPart RX0 wsX0_hoursThatPart 6 (some .int) p s m ([.ref (ad 55), .ref (ad h1), .int a2, .ref (ad 67)] : List Value).toArray meth c := ⟨B.exec, B.bytes, hml, findClass_of_methodNamed B.named, atoms_spec (ws := wsX0_hoursThatPart) B.pre, B.returns, B.notSynchronized⟩
  have hl := lv_entry ([.ref (ad 55), .ref (ad h1), .int a2, .ref (ad 67)]) (n := 6) (Nat.le_of_ble_eq_true rfl)
  rw [lg_entry_eq]
  generalize (lg_sl ([.ref (ad 55), .ref (ad h1), .int a2, .ref (ad 67)]) ++ List.replicate (6 - (lg_sl ([.ref (ad 55), .ref (ad h1), .int a2, .ref (ad 67)])).length) Slot.unset).toArray = ls at hl ⊢
  have hl : lv_has ls 6 [(0, .ref (ad 55)), (1, .ref (ad h1)), (2, .int a2), (3, .ref (ad 67))] := hl
  exact w_X0_hoursThatPart_e hi h1 a2 hh1 C0 hK Q (R_X0_hoursThatPart h1 a2 Q) (y_X0_hoursThatPart hi h1 a2 hh1 C0 hK Q)  s0 hv hP va_S.rf hl
def lay_X10_tell (ad : Nat → Nat)  : Nat → List Int32 → List Int64 → Option (List (Nat × Value) × List Value) := fun P xs ys => match P, xs, ys with
  | _, _, _ => none
set_option maxHeartbeats 4000000 in
set_option maxRecDepth 100000 in
theorem w_X10_tell_e {p : Program} {l : Launch} {e : Env} {s : State} {m : MethodId} {args : Array Value} {below : List Frame} {meth : Method} {c : Code} {dC : Nat → ClassId} {dI : Nat → Nat → Nat} {ad : Nat → Nat} {cA cZ : ClassId} (hi : Inj 81 ad)   (C0 : Cx cX10_tell RX10 wsX10_tell 1 (some .int) p s m args meth c) (hK : KK dC dI cA cZ s) (Q : Int32 → St → Prop) (Y : Nat → List Int32 → List Int64 → St → Prop) (hY : ∀ P xs ys σ, Y P xs ys σ → XX p l e ({ frames := 5, cells := 0, slots := 0, locals := 114 } : Room) s m args below meth c (dC, dI) 81 ad (celC ad cA) 1 (ZI below args s (dC, dI) 81 ad (celC ad cA) Q) (lay_X10_tell ad ) P xs ys σ)  (s0 : St) (hv : B_X10_tell_e  Q Y  s0) {H : Heap} {locs : List Loc} {ls : Array Slot} (hP : va_P (dC, dI) vwCl (wd 81 ad (celC ad cA) s0) H) (hS : va_S (AA 81 ad s.heap.size) s.heap H locs) (hl : lv_has ls 1 [(0, .ref (ad 0))]) : W p l e ({ frames := 5, cells := 0, slots := 0, locals := 114 } : Room) s m args below meth c H locs 0 0 (ZI below args s (dC, dI) 81 ad (celC ad cA) Q) (F0 m 0 ls []) := by
  obtain ⟨hx, hb, hml, hown, hts, hr, hlocks⟩ := C0
  have hD := wd_D (s := s) (cel := celC ad cA) (σ := s0) hi
  unfold B_X10_tell_e at hv
  refine lv_aload_n hx hb dX10_tell_0 rfl (lv_at hl 0 rfl) ?_
  refine r_get hx hb hts (iwX10_tell_X10) hown hK.1 hP 0 (by decide) (ceGR_0 (s0 0)) rfl 3 (by decide) (hts _ kX10_tell_1) (v := .ref (ad 55)) rfl dX10_tell_1 ?_
  refine lv_aload_n hx hb dX10_tell_4 rfl (lv_at hl 0 rfl) ?_
  refine r_get hx hb hts (iwX10_tell_X10) hown hK.1 hP 0 (by decide) (ceGR_0 (s0 0)) rfl 0 (by decide) (hts _ kX10_tell_2) (v := .ref (ad 1)) rfl dX10_tell_5 ?_
  refine r_get hx hb hts (iwX10_tell_X7) hown hK.1 hP 1 (ltSc_0 vSc_1) (ceSc_0 vSc_1 (s0 1)) rfl 0 (by decide) (hts _ kX10_tell_3) (v := .ref (ad 2)) rfl dX10_tell_8 ?_
  refine lv_aload_n hx hb dX10_tell_11 rfl (lv_at hl 0 rfl) ?_
  refine r_ci (va_runV (As := []) (rest := [.ref (ad 2), .ref (ad 55)]) ⟨hx, hb, hml, hown, hts⟩ (c_X10_which hi  s0 _ hv H.size) (cwV 0 hts gX10_tell_X10_which rfl rfl rfl (by decide +kernel) ⟨Nat.le_of_ble_eq_true rfl, Nat.le_of_ble_eq_true rfl⟩) ⟨pre_blind, r_recv hK.1 hP 0 (by decide) (ceGR_0 (s0 0)) rfl, pre_of hP hK⟩ rfl rfl hl.1 rfl (lv_room (Nat.le_of_ble_eq_true rfl)) dX10_tell_12 ⟨Nat.zero_le _, Nat.zero_le _⟩) hS (fun r1 s1 H locs hv hP hS => ?_)
  have hD := wd_D (s := s) (cel := celC ad cA) (σ := s1) hi
  refine lv_aload_n hx hb dX10_tell_15 rfl (lv_at hl 0 rfl) ?_
  refine r_get hx hb hts (iwX10_tell_X10) hown hK.1 hP 0 (by decide) (ceGR_0 (s1 0)) rfl 5 (by decide) (hts _ kX10_tell_4) (v := .ref (ad 67)) rfl dX10_tell_16 ?_
  refine r_ci (va_runV (As := [.ref (ad 2), .int r1, .ref (ad 67)]) (rest := []) ⟨hx, hb, hml, hown, hts⟩ (c_X0_hoursThatPart hi 2 r1 (vSc1 vSc_1) s1 _ hv H.size) (cwV 3 hts gX10_tell_X0_hoursThatPart rfl rfl rfl (by decide +kernel) ⟨Nat.le_of_ble_eq_true rfl, Nat.le_of_ble_eq_true rfl⟩) ⟨pre_blind, r_recv hK.1 hP 55 (by decide) (ceFo_0 (s1 55)) rfl, pre_of hP hK⟩ rfl rfl hl.1 rfl (lv_room (Nat.le_of_ble_eq_true rfl)) dX10_tell_19 ⟨Nat.zero_le _, Nat.zero_le _⟩) hS (fun r2 s2 H locs hv hP hS => ?_)
  have hD := wd_D (s := s) (cel := celC ad cA) (σ := s2) hi
  exact r_iret hx hb hr hlocks hv hP hS dX10_tell_22
set_option maxHeartbeats 4000000 in
theorem y_X10_tell {p : Program} {l : Launch} {e : Env} {s : State} {m : MethodId} {args : Array Value} {below : List Frame} {meth : Method} {c : Code} {dC : Nat → ClassId} {dI : Nat → Nat → Nat} {ad : Nat → Nat} {cA cZ : ClassId} (hi : Inj 81 ad)   (C0 : Cx cX10_tell RX10 wsX10_tell 1 (some .int) p s m args meth c) (hK : KK dC dI cA cZ s) (Q : Int32 → St → Prop) : ∀ P xs ys σ, R_X10_tell  Q P xs ys σ → XX p l e ({ frames := 5, cells := 0, slots := 0, locals := 114 } : Room) s m args below meth c (dC, dI) 81 ad (celC ad cA) 1 (ZI below args s (dC, dI) 81 ad (celC ad cA) Q) (lay_X10_tell ad ) P xs ys σ := by
  refine Fx.elim _ (fun P xs ys σ Y hY hB => ?_)
  exact hB.elim
set_option maxHeartbeats 4000000 in
theorem c_X10_tell {l : Launch} {dC : Nat → ClassId} {dI : Nat → Nat → Nat} {ad : Nat → Nat} {cA cZ : ClassId} (hi : Inj 81 ad)   (s0 : St) (Q : Int32 → St → Prop) (hv : V_X10_tell  s0 Q) (sz : Nat) : Met l yX10_tell wsX10_tell ({ frames := 5, cells := 0, slots := 0, locals := 114 } : Room) (va_Pc [.ref (ad 0)] (PW dC dI ad cA cZ 81 (celC ad cA) sz s0)) (va_Qi Q (fun u t => va_P (dC, dI) vwCl (wd 81 ad (celC ad cA) u) t.heap) (AA 81 ad sz)) 0 0 (AA 81 ad sz) := by
  refine Met.ofW (cc := cX10_tell) (maxL := 1) (ret := (some .int)) (by decide) rfl ?_
  intro p e s m args below meth c s₁ B hml hv0
  obtain ⟨rfl, hsz, hP, hK⟩ := hv0
  subst hsz
  have C0 : Cx cX10_tell RX10 wsX10_tell 1 (some .int) p s m ([.ref (ad 0)] : List Value).toArray meth c := ⟨B.exec, B.bytes, hml, findClass_of_methodNamed B.named, atoms_spec (ws := wsX10_tell) B.pre, B.returns, B.notSynchronized⟩
  have hl := lv_entry ([.ref (ad 0)]) (n := 1) (Nat.le_of_ble_eq_true rfl)
  rw [lg_entry_eq]
  generalize (lg_sl ([.ref (ad 0)]) ++ List.replicate (1 - (lg_sl ([.ref (ad 0)])).length) Slot.unset).toArray = ls at hl ⊢
  have hl : lv_has ls 1 [(0, .ref (ad 0))] := hl
  exact w_X10_tell_e hi   C0 hK Q (R_X10_tell  Q) (y_X10_tell hi   C0 hK Q)  s0 hv hP va_S.rf hl
def lay_X10_isTold (ad : Nat → Nat) (a0 : Int32) (a1 : Int32) : Nat → List Int32 → List Int64 → Option (List (Nat × Value) × List Value) := fun P xs ys => match P, xs, ys with
  | _, _, _ => none
set_option maxHeartbeats 4000000 in
set_option maxRecDepth 100000 in
theorem w_X10_isTold_e {p : Program} {l : Launch} {e : Env} {s : State} {m : MethodId} {args : Array Value} {below : List Frame} {meth : Method} {c : Code} {dC : Nat → ClassId} {dI : Nat → Nat → Nat} {ad : Nat → Nat} {cA cZ : ClassId} (hi : Inj 81 ad) (a0 : Int32) (a1 : Int32)  (C0 : Cx cX10_isTold RX10 wsX10_isTold 2 (some .boolean) p s m args meth c) (hK : KK dC dI cA cZ s) (Q : Int32 → St → Prop) (Y : Nat → List Int32 → List Int64 → St → Prop) (hY : ∀ P xs ys σ, Y P xs ys σ → XX p l e ({ frames := 1, cells := 0, slots := 0, locals := 22 } : Room) s m args below meth c (dC, dI) 81 ad (celC ad cA) 2 (ZZ below args s (dC, dI) 81 ad (celC ad cA) Q) (lay_X10_isTold ad a0 a1) P xs ys σ)  (s0 : St) (hv : B_X10_isTold_e a0 a1 Q Y  s0) {H : Heap} {locs : List Loc} {ls : Array Slot} (hP : va_P (dC, dI) vwCl (wd 81 ad (celC ad cA) s0) H) (hS : va_S (AA 81 ad s.heap.size) s.heap H locs) (hl : lv_has ls 2 [(0, .int a0), (1, .int a1)]) : W p l e ({ frames := 1, cells := 0, slots := 0, locals := 22 } : Room) s m args below meth c H locs 0 0 (ZZ below args s (dC, dI) 81 ad (celC ad cA) Q) (F0 m 0 ls []) := by
  obtain ⟨hx, hb, hml, hown, hts, hr, hlocks⟩ := C0
  have hD := wd_D (s := s) (cel := celC ad cA) (σ := s0) hi
  unfold B_X10_isTold_e at hv
  refine lv_iload_n hx hb dX10_isTold_0 rfl (lv_at hl 0 rfl) ?_
  refine lv_iconst (v := 0) hx hb dX10_isTold_1 (by decide) ?_
  refine lv_bipush (v := 99) hx hb dX10_isTold_2 (by decide) ?_
  refine r_ci (va_runS (As := [.int a0, .int 0, .int 99]) (rest := []) ⟨hx, hb, hml, hown, hts⟩ (c_X10_within hi a0 0 99 s0 _ hv H.size) (va_cwS 3 hts gX10_isTold_X10_within rfl rfl rfl (by decide +kernel) ⟨Nat.le_of_ble_eq_true rfl, Nat.le_of_ble_eq_true rfl⟩) ⟨pre_blind, pre_of hP hK⟩ rfl rfl hl.1 rfl (lv_room (Nat.le_of_ble_eq_true rfl)) dX10_isTold_4 ⟨Nat.zero_le _, Nat.zero_le _⟩) hS (fun r1 s1 H locs hv hP hS => ?_)
  obtain ⟨hz_r1, hv⟩ := hv
  have hD := wd_D (s := s) (cel := celC ad cA) (σ := s1) hi
  refine lv_if_eq (tgt := 24) hx hb dX10_isTold_7 (by decide) (fun c7 => ?_) (fun c7 => ?_)
  · have hv := hv.1 c7
    refine lv_iconst (v := 0) hx hb dX10_isTold_24 (by decide) ?_
    exact r_zret hx hb hr hlocks (Or.inl rfl) hv hP hS dX10_isTold_25
  · have hv := hv.2 c7
    refine lv_iload_n hx hb dX10_isTold_10 rfl (lv_at hl 1 rfl) ?_
    refine lv_iconst (v := 0) hx hb dX10_isTold_11 (by decide) ?_
    refine lv_bipush (v := 20) hx hb dX10_isTold_12 (by decide) ?_
    refine r_ci (va_runS (As := [.int a1, .int 0, .int 20]) (rest := []) ⟨hx, hb, hml, hown, hts⟩ (c_X10_within hi a1 0 20 s1 _ hv H.size) (va_cwS 3 hts gX10_isTold_X10_within rfl rfl rfl (by decide +kernel) ⟨Nat.le_of_ble_eq_true rfl, Nat.le_of_ble_eq_true rfl⟩) ⟨pre_blind, pre_of hP hK⟩ rfl rfl hl.1 rfl (lv_room (Nat.le_of_ble_eq_true rfl)) dX10_isTold_14 ⟨Nat.zero_le _, Nat.zero_le _⟩) hS (fun r2 s2 H locs hv hP hS => ?_)
    obtain ⟨hz_r2, hv⟩ := hv
    have hD := wd_D (s := s) (cel := celC ad cA) (σ := s2) hi
    refine lv_if_eq (tgt := 24) hx hb dX10_isTold_17 (by decide) (fun c17 => ?_) (fun c17 => ?_)
    · have hv := hv.1 c17
      refine lv_iconst (v := 0) hx hb dX10_isTold_24 (by decide) ?_
      exact r_zret hx hb hr hlocks (Or.inl rfl) hv hP hS dX10_isTold_25
    · have hv := hv.2 c17
      refine lv_iconst (v := 1) hx hb dX10_isTold_20 (by decide) ?_
      refine lv_goto (tgt := 25) hx hb dX10_isTold_21 (by decide) ?_
      exact r_zret hx hb hr hlocks (Or.inr rfl) hv hP hS dX10_isTold_25
set_option maxHeartbeats 4000000 in
theorem y_X10_isTold {p : Program} {l : Launch} {e : Env} {s : State} {m : MethodId} {args : Array Value} {below : List Frame} {meth : Method} {c : Code} {dC : Nat → ClassId} {dI : Nat → Nat → Nat} {ad : Nat → Nat} {cA cZ : ClassId} (hi : Inj 81 ad) (a0 : Int32) (a1 : Int32)  (C0 : Cx cX10_isTold RX10 wsX10_isTold 2 (some .boolean) p s m args meth c) (hK : KK dC dI cA cZ s) (Q : Int32 → St → Prop) : ∀ P xs ys σ, R_X10_isTold a0 a1 Q P xs ys σ → XX p l e ({ frames := 1, cells := 0, slots := 0, locals := 22 } : Room) s m args below meth c (dC, dI) 81 ad (celC ad cA) 2 (ZZ below args s (dC, dI) 81 ad (celC ad cA) Q) (lay_X10_isTold ad a0 a1) P xs ys σ := by
  refine Fx.elim _ (fun P xs ys σ Y hY hB => ?_)
  exact hB.elim
set_option maxHeartbeats 4000000 in
theorem c_X10_isTold {l : Launch} {dC : Nat → ClassId} {dI : Nat → Nat → Nat} {ad : Nat → Nat} {cA cZ : ClassId} (hi : Inj 81 ad) (a0 : Int32) (a1 : Int32)  (s0 : St) (Q : Int32 → St → Prop) (hv : V_X10_isTold a0 a1 s0 Q) (sz : Nat) : Met l yX10_isTold wsX10_isTold ({ frames := 1, cells := 0, slots := 0, locals := 22 } : Room) (va_Pc [.int a0, .int a1] (PW dC dI ad cA cZ 81 (celC ad cA) sz s0)) (va_Qi (fun r u => (r = 0 ∨ r = 1) ∧ Q r u) (fun u t => va_P (dC, dI) vwCl (wd 81 ad (celC ad cA) u) t.heap) (AA 81 ad sz)) 0 0 (AA 81 ad sz) := by
  refine Met.ofW (cc := cX10_isTold) (maxL := 2) (ret := (some .boolean)) (by decide) rfl ?_
  intro p e s m args below meth c s₁ B hml hv0
  obtain ⟨rfl, hsz, hP, hK⟩ := hv0
  subst hsz
  have C0 : Cx cX10_isTold RX10 wsX10_isTold 2 (some .boolean) p s m ([.int a0, .int a1] : List Value).toArray meth c := ⟨B.exec, B.bytes, hml, findClass_of_methodNamed B.named, atoms_spec (ws := wsX10_isTold) B.pre, B.returns, B.notSynchronized⟩
  have hl := lv_entry ([.int a0, .int a1]) (n := 2) (Nat.le_of_ble_eq_true rfl)
  rw [lg_entry_eq]
  generalize (lg_sl ([.int a0, .int a1]) ++ List.replicate (2 - (lg_sl ([.int a0, .int a1])).length) Slot.unset).toArray = ls at hl ⊢
  have hl : lv_has ls 2 [(0, .int a0), (1, .int a1)] := hl
  exact w_X10_isTold_e hi a0 a1  C0 hK Q (R_X10_isTold a0 a1 Q) (y_X10_isTold hi a0 a1  C0 hK Q)  s0 hv hP va_S.rf hl
def lay_X10_note (ad : Nat → Nat) (a1 : Int32) (a2 : Int32) (a3 : Int32) (a4 : Int32) : Nat → List Int32 → List Int64 → Option (List (Nat × Value) × List Value) := fun P xs ys => match P, xs, ys with
  | _, _, _ => none
set_option maxHeartbeats 4000000 in
set_option maxRecDepth 100000 in
theorem w_X10_note_e {p : Program} {l : Launch} {e : Env} {s : State} {m : MethodId} {args : Array Value} {below : List Frame} {meth : Method} {c : Code} {dC : Nat → ClassId} {dI : Nat → Nat → Nat} {ad : Nat → Nat} {cA cZ : ClassId} (hi : Inj 81 ad) (a1 : Int32) (a2 : Int32) (a3 : Int32) (a4 : Int32)  (C0 : Cx cX10_note RX10 wsX10_note 5 (some .int) p s m args meth c) (hK : KK dC dI cA cZ s) (Q : Int32 → St → Prop) (Y : Nat → List Int32 → List Int64 → St → Prop) (hY : ∀ P xs ys σ, Y P xs ys σ → XX p l e ({ frames := 2, cells := 0, slots := 0, locals := 43 } : Room) s m args below meth c (dC, dI) 81 ad (celC ad cA) 5 (ZI below args s (dC, dI) 81 ad (celC ad cA) Q) (lay_X10_note ad a1 a2 a3 a4) P xs ys σ)  (s0 : St) (hv : B_X10_note_e a1 a2 a3 a4 Q Y  s0) {H : Heap} {locs : List Loc} {ls : Array Slot} (hP : va_P (dC, dI) vwCl (wd 81 ad (celC ad cA) s0) H) (hS : va_S (AA 81 ad s.heap.size) s.heap H locs) (hl : lv_has ls 5 [(0, .ref (ad 0)), (1, .int a1), (2, .int a2), (3, .int a3), (4, .int a4)]) : W p l e ({ frames := 2, cells := 0, slots := 0, locals := 43 } : Room) s m args below meth c H locs 0 0 (ZI below args s (dC, dI) 81 ad (celC ad cA) Q) (F0 m 0 ls []) := by
  obtain ⟨hx, hb, hml, hown, hts, hr, hlocks⟩ := C0
  have hD := wd_D (s := s) (cel := celC ad cA) (σ := s0) hi
  unfold B_X10_note_e at hv
  refine lv_aload_n hx hb dX10_note_0 rfl (lv_at hl 0 rfl) ?_
  refine lv_iload_n hx hb dX10_note_1 rfl (lv_at hl 1 rfl) ?_
  refine r_ci (va_runV (As := [.int a1]) (rest := []) ⟨hx, hb, hml, hown, hts⟩ (c_X10_isGlove hi a1 s0 _ hv H.size) (cwV 1 hts gX10_note_X10_isGlove rfl rfl rfl (by decide +kernel) ⟨Nat.le_of_ble_eq_true rfl, Nat.le_of_ble_eq_true rfl⟩) ⟨pre_blind, r_recv hK.1 hP 0 (by decide) (ceGR_0 (s0 0)) rfl, pre_of hP hK⟩ rfl rfl hl.1 rfl (lv_room (Nat.le_of_ble_eq_true rfl)) dX10_note_2 ⟨Nat.zero_le _, Nat.zero_le _⟩) hS (fun r1 s1 H locs hv hP hS => ?_)
  obtain ⟨hz_r1, hv⟩ := hv
  have hD := wd_D (s := s) (cel := celC ad cA) (σ := s1) hi
  refine lv_if_eq (tgt := 26) hx hb dX10_note_5 (by decide) (fun c5 => ?_) (fun c5 => ?_)
  · have hv := hv.1 c5
    refine lv_aload_n hx hb dX10_note_26 rfl (lv_at hl 0 rfl) ?_
    refine r_ci (va_runV (As := []) (rest := []) ⟨hx, hb, hml, hown, hts⟩ (c_X10_bad hi  s1 _ hv H.size) (cwV 0 hts gX10_note_X10_bad rfl rfl rfl (by decide +kernel) ⟨Nat.le_of_ble_eq_true rfl, Nat.le_of_ble_eq_true rfl⟩) ⟨pre_blind, r_recv hK.1 hP 0 (by decide) (ceGR_0 (s1 0)) rfl, pre_of hP hK⟩ rfl rfl hl.1 rfl (lv_room (Nat.le_of_ble_eq_true rfl)) dX10_note_27 ⟨Nat.zero_le _, Nat.zero_le _⟩) hS (fun r2 s2 H locs hv hP hS => ?_)
    have hD := wd_D (s := s) (cel := celC ad cA) (σ := s2) hi
    exact r_iret hx hb hr hlocks hv hP hS dX10_note_30
  · have hv := hv.2 c5
    refine lv_iload_n hx hb dX10_note_8 rfl (lv_at hl 3 rfl) ?_
    refine lv_iconst (v := 0) hx hb dX10_note_9 (by decide) ?_
    refine lv_iconst (v := 4) hx hb dX10_note_10 (by decide) ?_
    refine r_ci (va_runS (As := [.int a3, .int 0, .int 4]) (rest := []) ⟨hx, hb, hml, hown, hts⟩ (c_X10_within hi a3 0 4 s1 _ hv H.size) (va_cwS 3 hts gX10_note_X10_within rfl rfl rfl (by decide +kernel) ⟨Nat.le_of_ble_eq_true rfl, Nat.le_of_ble_eq_true rfl⟩) ⟨pre_blind, pre_of hP hK⟩ rfl rfl hl.1 rfl (lv_room (Nat.le_of_ble_eq_true rfl)) dX10_note_11 ⟨Nat.zero_le _, Nat.zero_le _⟩) hS (fun r3 s3 H locs hv hP hS => ?_)
    obtain ⟨hz_r3, hv⟩ := hv
    have hD := wd_D (s := s) (cel := celC ad cA) (σ := s3) hi
    refine lv_if_eq (tgt := 26) hx hb dX10_note_14 (by decide) (fun c14 => ?_) (fun c14 => ?_)
    · have hv := hv.1 c14
      refine lv_aload_n hx hb dX10_note_26 rfl (lv_at hl 0 rfl) ?_
      refine r_ci (va_runV (As := []) (rest := []) ⟨hx, hb, hml, hown, hts⟩ (c_X10_bad hi  s3 _ hv H.size) (cwV 0 hts gX10_note_X10_bad rfl rfl rfl (by decide +kernel) ⟨Nat.le_of_ble_eq_true rfl, Nat.le_of_ble_eq_true rfl⟩) ⟨pre_blind, r_recv hK.1 hP 0 (by decide) (ceGR_0 (s3 0)) rfl, pre_of hP hK⟩ rfl rfl hl.1 rfl (lv_room (Nat.le_of_ble_eq_true rfl)) dX10_note_27 ⟨Nat.zero_le _, Nat.zero_le _⟩) hS (fun r4 s4 H locs hv hP hS => ?_)
      have hD := wd_D (s := s) (cel := celC ad cA) (σ := s4) hi
      exact r_iret hx hb hr hlocks hv hP hS dX10_note_30
    · have hv := hv.2 c14
      refine lv_iload_n hx hb dX10_note_17 rfl (lv_at hl 2 rfl) ?_
      refine lv_iload hx hb dX10_note_18 (lv_at hl 4 rfl) ?_
      refine r_ci (va_runS (As := [.int a2, .int a4]) (rest := []) ⟨hx, hb, hml, hown, hts⟩ (c_X10_isTold hi a2 a4 s3 _ hv H.size) (va_cwS 2 hts gX10_note_X10_isTold rfl rfl rfl (by decide +kernel) ⟨Nat.le_of_ble_eq_true rfl, Nat.le_of_ble_eq_true rfl⟩) ⟨pre_blind, pre_of hP hK⟩ rfl rfl hl.1 rfl (lv_room (Nat.le_of_ble_eq_true rfl)) dX10_note_20 ⟨Nat.zero_le _, Nat.zero_le _⟩) hS (fun r5 s5 H locs hv hP hS => ?_)
      obtain ⟨hz_r5, hv⟩ := hv
      have hD := wd_D (s := s) (cel := celC ad cA) (σ := s5) hi
      refine lv_if_ne (tgt := 31) hx hb dX10_note_23 (by decide) (fun c23 => ?_) (fun c23 => ?_)
      · have hv := hv.1 c23
        refine lv_aload_n hx hb dX10_note_31 rfl (lv_at hl 0 rfl) ?_
        refine lv_aload_n hx hb dX10_note_32 rfl (lv_at hl 0 rfl) ?_
        refine r_get hx hb hts (iwX10_note_X10) hown hK.1 hP 0 (by decide) (ceGR_0 (s5 0)) rfl 0 (by decide) (hts _ kX10_note_1) (v := .ref (ad 1)) rfl dX10_note_33 ?_
        refine r_get hx hb hts (iwX10_note_X7) hown hK.1 hP 1 (ltSc_0 vSc_1) (ceSc_0 vSc_1 (s5 1)) rfl 3 (by decide) (hts _ kX10_note_2) (v := .ref (ad 15)) rfl dX10_note_36 ?_
        refine lv_aload_n hx hb dX10_note_39 rfl (lv_at hl 0 rfl) ?_
        refine r_get hx hb hts (iwX10_note_X10) hown hK.1 hP 0 (by decide) (ceGR_0 (s5 0)) rfl 0 (by decide) (hts _ kX10_note_1) (v := .ref (ad 1)) rfl dX10_note_40 ?_
        refine r_get hx hb hts (iwX10_note_X7) hown hK.1 hP 1 (ltSc_0 vSc_1) (ceSc_0 vSc_1 (s5 1)) rfl 3 (by decide) (hts _ kX10_note_2) (v := .ref (ad 15)) rfl dX10_note_43 ?_
        refine lv_iload_n hx hb dX10_note_46 rfl (lv_at hl 1 rfl) ?_
        refine lv_iload_n hx hb dX10_note_47 rfl (lv_at hl 2 rfl) ?_
        refine lv_iload_n hx hb dX10_note_48 rfl (lv_at hl 3 rfl) ?_
        refine lv_iload hx hb dX10_note_49 (lv_at hl 4 rfl) ?_
        refine r_ci (va_runV (As := [.int a1, .int a2, .int a3, .int a4]) (rest := [.ref (ad 15), .ref (ad 0)]) ⟨hx, hb, hml, hown, hts⟩ (c_X6_add hi 15 a1 a2 a3 a4 (vSc14 vSc_1) s5 _ hv H.size) (cwV 4 hts gX10_note_X6_add rfl rfl rfl (by decide +kernel) ⟨Nat.le_of_ble_eq_true rfl, Nat.le_of_ble_eq_true rfl⟩) ⟨pre_blind, r_recv hK.1 hP 15 (ltRo_0 (vSc14 vSc_1)) (ceRo_0 (vSc14 vSc_1) (s5 15)) rfl, pre_of hP hK⟩ rfl rfl hl.1 rfl (lv_room (Nat.le_of_ble_eq_true rfl)) dX10_note_51 ⟨Nat.zero_le _, Nat.zero_le _⟩) hS (fun r6 s6 H locs hv hP hS => ?_)
        obtain ⟨hz_r6, hv⟩ := hv
        have hD := wd_D (s := s) (cel := celC ad cA) (σ := s6) hi
        refine r_ci (va_runV (As := [.ref (ad 15), .int r6]) (rest := []) ⟨hx, hb, hml, hown, hts⟩ (c_X10_told hi 15 r6 (vSc14 vSc_1) s6 _ hv H.size) (cwV 2 hts gX10_note_X10_told rfl rfl rfl (by decide +kernel) ⟨Nat.le_of_ble_eq_true rfl, Nat.le_of_ble_eq_true rfl⟩) ⟨pre_blind, r_recv hK.1 hP 0 (by decide) (ceGR_0 (s6 0)) rfl, pre_of hP hK⟩ rfl rfl hl.1 rfl (lv_room (Nat.le_of_ble_eq_true rfl)) dX10_note_54 ⟨Nat.zero_le _, Nat.zero_le _⟩) hS (fun r7 s7 H locs hv hP hS => ?_)
        have hD := wd_D (s := s) (cel := celC ad cA) (σ := s7) hi
        exact r_iret hx hb hr hlocks hv hP hS dX10_note_57
      · have hv := hv.2 c23
        refine lv_aload_n hx hb dX10_note_26 rfl (lv_at hl 0 rfl) ?_
        refine r_ci (va_runV (As := []) (rest := []) ⟨hx, hb, hml, hown, hts⟩ (c_X10_bad hi  s5 _ hv H.size) (cwV 0 hts gX10_note_X10_bad rfl rfl rfl (by decide +kernel) ⟨Nat.le_of_ble_eq_true rfl, Nat.le_of_ble_eq_true rfl⟩) ⟨pre_blind, r_recv hK.1 hP 0 (by decide) (ceGR_0 (s5 0)) rfl, pre_of hP hK⟩ rfl rfl hl.1 rfl (lv_room (Nat.le_of_ble_eq_true rfl)) dX10_note_27 ⟨Nat.zero_le _, Nat.zero_le _⟩) hS (fun r8 s8 H locs hv hP hS => ?_)
        have hD := wd_D (s := s) (cel := celC ad cA) (σ := s8) hi
        exact r_iret hx hb hr hlocks hv hP hS dX10_note_30
set_option maxHeartbeats 4000000 in
theorem y_X10_note {p : Program} {l : Launch} {e : Env} {s : State} {m : MethodId} {args : Array Value} {below : List Frame} {meth : Method} {c : Code} {dC : Nat → ClassId} {dI : Nat → Nat → Nat} {ad : Nat → Nat} {cA cZ : ClassId} (hi : Inj 81 ad) (a1 : Int32) (a2 : Int32) (a3 : Int32) (a4 : Int32)  (C0 : Cx cX10_note RX10 wsX10_note 5 (some .int) p s m args meth c) (hK : KK dC dI cA cZ s) (Q : Int32 → St → Prop) : ∀ P xs ys σ, R_X10_note a1 a2 a3 a4 Q P xs ys σ → XX p l e ({ frames := 2, cells := 0, slots := 0, locals := 43 } : Room) s m args below meth c (dC, dI) 81 ad (celC ad cA) 5 (ZI below args s (dC, dI) 81 ad (celC ad cA) Q) (lay_X10_note ad a1 a2 a3 a4) P xs ys σ := by
  refine Fx.elim _ (fun P xs ys σ Y hY hB => ?_)
  exact hB.elim
set_option maxHeartbeats 4000000 in
theorem c_X10_note {l : Launch} {dC : Nat → ClassId} {dI : Nat → Nat → Nat} {ad : Nat → Nat} {cA cZ : ClassId} (hi : Inj 81 ad) (a1 : Int32) (a2 : Int32) (a3 : Int32) (a4 : Int32)  (s0 : St) (Q : Int32 → St → Prop) (hv : V_X10_note a1 a2 a3 a4 s0 Q) (sz : Nat) : Met l yX10_note wsX10_note ({ frames := 2, cells := 0, slots := 0, locals := 43 } : Room) (va_Pc [.ref (ad 0), .int a1, .int a2, .int a3, .int a4] (PW dC dI ad cA cZ 81 (celC ad cA) sz s0)) (va_Qi Q (fun u t => va_P (dC, dI) vwCl (wd 81 ad (celC ad cA) u) t.heap) (AA 81 ad sz)) 0 0 (AA 81 ad sz) := by
  refine Met.ofW (cc := cX10_note) (maxL := 5) (ret := (some .int)) (by decide) rfl ?_
  intro p e s m args below meth c s₁ B hml hv0
  obtain ⟨rfl, hsz, hP, hK⟩ := hv0
  subst hsz
  have C0 : Cx cX10_note RX10 wsX10_note 5 (some .int) p s m ([.ref (ad 0), .int a1, .int a2, .int a3, .int a4] : List Value).toArray meth c := ⟨B.exec, B.bytes, hml, findClass_of_methodNamed B.named, atoms_spec (ws := wsX10_note) B.pre, B.returns, B.notSynchronized⟩
  have hl := lv_entry ([.ref (ad 0), .int a1, .int a2, .int a3, .int a4]) (n := 5) (Nat.le_of_ble_eq_true rfl)
  rw [lg_entry_eq]
  generalize (lg_sl ([.ref (ad 0), .int a1, .int a2, .int a3, .int a4]) ++ List.replicate (5 - (lg_sl ([.ref (ad 0), .int a1, .int a2, .int a3, .int a4])).length) Slot.unset).toArray = ls at hl ⊢
  have hl : lv_has ls 5 [(0, .ref (ad 0)), (1, .int a1), (2, .int a2), (3, .int a3), (4, .int a4)] := hl
  exact w_X10_note_e hi a1 a2 a3 a4  C0 hK Q (R_X10_note a1 a2 a3 a4 Q) (y_X10_note hi a1 a2 a3 a4  C0 hK Q)  s0 hv hP va_S.rf hl
def lay_X10_mark (ad : Nat → Nat) (a1 : Int32) (a2 : Int32) (a3 : Int32) (a4 : Int32) : Nat → List Int32 → List Int64 → Option (List (Nat × Value) × List Value) := fun P xs ys => match P, xs, ys with
  | _, _, _ => none
set_option maxHeartbeats 4000000 in
set_option maxRecDepth 100000 in
theorem w_X10_mark_e {p : Program} {l : Launch} {e : Env} {s : State} {m : MethodId} {args : Array Value} {below : List Frame} {meth : Method} {c : Code} {dC : Nat → ClassId} {dI : Nat → Nat → Nat} {ad : Nat → Nat} {cA cZ : ClassId} (hi : Inj 81 ad) (a1 : Int32) (a2 : Int32) (a3 : Int32) (a4 : Int32)  (C0 : Cx cX10_mark RX10 wsX10_mark 5 (some .int) p s m args meth c) (hK : KK dC dI cA cZ s) (Q : Int32 → St → Prop) (Y : Nat → List Int32 → List Int64 → St → Prop) (hY : ∀ P xs ys σ, Y P xs ys σ → XX p l e ({ frames := 2, cells := 0, slots := 0, locals := 43 } : Room) s m args below meth c (dC, dI) 81 ad (celC ad cA) 5 (ZI below args s (dC, dI) 81 ad (celC ad cA) Q) (lay_X10_mark ad a1 a2 a3 a4) P xs ys σ)  (s0 : St) (hv : B_X10_mark_e a1 a2 a3 a4 Q Y  s0) {H : Heap} {locs : List Loc} {ls : Array Slot} (hP : va_P (dC, dI) vwCl (wd 81 ad (celC ad cA) s0) H) (hS : va_S (AA 81 ad s.heap.size) s.heap H locs) (hl : lv_has ls 5 [(0, .ref (ad 0)), (1, .int a1), (2, .int a2), (3, .int a3), (4, .int a4)]) : W p l e ({ frames := 2, cells := 0, slots := 0, locals := 43 } : Room) s m args below meth c H locs 0 0 (ZI below args s (dC, dI) 81 ad (celC ad cA) Q) (F0 m 0 ls []) := by
  obtain ⟨hx, hb, hml, hown, hts, hr, hlocks⟩ := C0
  have hD := wd_D (s := s) (cel := celC ad cA) (σ := s0) hi
  unfold B_X10_mark_e at hv
  refine lv_aload_n hx hb dX10_mark_0 rfl (lv_at hl 0 rfl) ?_
  refine lv_iload_n hx hb dX10_mark_1 rfl (lv_at hl 1 rfl) ?_
  refine r_ci (va_runV (As := [.int a1]) (rest := []) ⟨hx, hb, hml, hown, hts⟩ (c_X10_isCrossing hi a1 s0 _ hv H.size) (cwV 1 hts gX10_mark_X10_isCrossing rfl rfl rfl (by decide +kernel) ⟨Nat.le_of_ble_eq_true rfl, Nat.le_of_ble_eq_true rfl⟩) ⟨pre_blind, r_recv hK.1 hP 0 (by decide) (ceGR_0 (s0 0)) rfl, pre_of hP hK⟩ rfl rfl hl.1 rfl (lv_room (Nat.le_of_ble_eq_true rfl)) dX10_mark_2 ⟨Nat.zero_le _, Nat.zero_le _⟩) hS (fun r1 s1 H locs hv hP hS => ?_)
  obtain ⟨hz_r1, hv⟩ := hv
  have hD := wd_D (s := s) (cel := celC ad cA) (σ := s1) hi
  refine lv_if_eq (tgt := 27) hx hb dX10_mark_5 (by decide) (fun c5 => ?_) (fun c5 => ?_)
  · have hv := hv.1 c5
    refine lv_aload_n hx hb dX10_mark_27 rfl (lv_at hl 0 rfl) ?_
    refine r_ci (va_runV (As := []) (rest := []) ⟨hx, hb, hml, hown, hts⟩ (c_X10_bad hi  s1 _ hv H.size) (cwV 0 hts gX10_mark_X10_bad rfl rfl rfl (by decide +kernel) ⟨Nat.le_of_ble_eq_true rfl, Nat.le_of_ble_eq_true rfl⟩) ⟨pre_blind, r_recv hK.1 hP 0 (by decide) (ceGR_0 (s1 0)) rfl, pre_of hP hK⟩ rfl rfl hl.1 rfl (lv_room (Nat.le_of_ble_eq_true rfl)) dX10_mark_28 ⟨Nat.zero_le _, Nat.zero_le _⟩) hS (fun r2 s2 H locs hv hP hS => ?_)
    have hD := wd_D (s := s) (cel := celC ad cA) (σ := s2) hi
    exact r_iret hx hb hr hlocks hv hP hS dX10_mark_31
  · have hv := hv.2 c5
    refine lv_iload_n hx hb dX10_mark_8 rfl (lv_at hl 3 rfl) ?_
    refine lv_iconst (v := 1) hx hb dX10_mark_9 (by decide) ?_
    refine lv_bipush (v := 7) hx hb dX10_mark_10 (by decide) ?_
    refine r_ci (va_runS (As := [.int a3, .int 1, .int 7]) (rest := []) ⟨hx, hb, hml, hown, hts⟩ (c_X10_within hi a3 1 7 s1 _ hv H.size) (va_cwS 3 hts gX10_mark_X10_within rfl rfl rfl (by decide +kernel) ⟨Nat.le_of_ble_eq_true rfl, Nat.le_of_ble_eq_true rfl⟩) ⟨pre_blind, pre_of hP hK⟩ rfl rfl hl.1 rfl (lv_room (Nat.le_of_ble_eq_true rfl)) dX10_mark_12 ⟨Nat.zero_le _, Nat.zero_le _⟩) hS (fun r3 s3 H locs hv hP hS => ?_)
    obtain ⟨hz_r3, hv⟩ := hv
    have hD := wd_D (s := s) (cel := celC ad cA) (σ := s3) hi
    refine lv_if_eq (tgt := 27) hx hb dX10_mark_15 (by decide) (fun c15 => ?_) (fun c15 => ?_)
    · have hv := hv.1 c15
      refine lv_aload_n hx hb dX10_mark_27 rfl (lv_at hl 0 rfl) ?_
      refine r_ci (va_runV (As := []) (rest := []) ⟨hx, hb, hml, hown, hts⟩ (c_X10_bad hi  s3 _ hv H.size) (cwV 0 hts gX10_mark_X10_bad rfl rfl rfl (by decide +kernel) ⟨Nat.le_of_ble_eq_true rfl, Nat.le_of_ble_eq_true rfl⟩) ⟨pre_blind, r_recv hK.1 hP 0 (by decide) (ceGR_0 (s3 0)) rfl, pre_of hP hK⟩ rfl rfl hl.1 rfl (lv_room (Nat.le_of_ble_eq_true rfl)) dX10_mark_28 ⟨Nat.zero_le _, Nat.zero_le _⟩) hS (fun r4 s4 H locs hv hP hS => ?_)
      have hD := wd_D (s := s) (cel := celC ad cA) (σ := s4) hi
      exact r_iret hx hb hr hlocks hv hP hS dX10_mark_31
    · have hv := hv.2 c15
      refine lv_iload_n hx hb dX10_mark_18 rfl (lv_at hl 2 rfl) ?_
      refine lv_iload hx hb dX10_mark_19 (lv_at hl 4 rfl) ?_
      refine r_ci (va_runS (As := [.int a2, .int a4]) (rest := []) ⟨hx, hb, hml, hown, hts⟩ (c_X10_isTold hi a2 a4 s3 _ hv H.size) (va_cwS 2 hts gX10_mark_X10_isTold rfl rfl rfl (by decide +kernel) ⟨Nat.le_of_ble_eq_true rfl, Nat.le_of_ble_eq_true rfl⟩) ⟨pre_blind, pre_of hP hK⟩ rfl rfl hl.1 rfl (lv_room (Nat.le_of_ble_eq_true rfl)) dX10_mark_21 ⟨Nat.zero_le _, Nat.zero_le _⟩) hS (fun r5 s5 H locs hv hP hS => ?_)
      obtain ⟨hz_r5, hv⟩ := hv
      have hD := wd_D (s := s) (cel := celC ad cA) (σ := s5) hi
      refine lv_if_ne (tgt := 32) hx hb dX10_mark_24 (by decide) (fun c24 => ?_) (fun c24 => ?_)
      · have hv := hv.1 c24
        refine lv_aload_n hx hb dX10_mark_32 rfl (lv_at hl 0 rfl) ?_
        refine lv_aload_n hx hb dX10_mark_33 rfl (lv_at hl 0 rfl) ?_
        refine r_get hx hb hts (iwX10_mark_X10) hown hK.1 hP 0 (by decide) (ceGR_0 (s5 0)) rfl 0 (by decide) (hts _ kX10_mark_1) (v := .ref (ad 1)) rfl dX10_mark_34 ?_
        refine r_get hx hb hts (iwX10_mark_X7) hown hK.1 hP 1 (ltSc_0 vSc_1) (ceSc_0 vSc_1 (s5 1)) rfl 4 (by decide) (hts _ kX10_mark_2) (v := .ref (ad 17)) rfl dX10_mark_37 ?_
        refine lv_aload_n hx hb dX10_mark_40 rfl (lv_at hl 0 rfl) ?_
        refine r_get hx hb hts (iwX10_mark_X10) hown hK.1 hP 0 (by decide) (ceGR_0 (s5 0)) rfl 0 (by decide) (hts _ kX10_mark_1) (v := .ref (ad 1)) rfl dX10_mark_41 ?_
        refine r_get hx hb hts (iwX10_mark_X7) hown hK.1 hP 1 (ltSc_0 vSc_1) (ceSc_0 vSc_1 (s5 1)) rfl 4 (by decide) (hts _ kX10_mark_2) (v := .ref (ad 17)) rfl dX10_mark_44 ?_
        refine lv_iload_n hx hb dX10_mark_47 rfl (lv_at hl 1 rfl) ?_
        refine lv_iload_n hx hb dX10_mark_48 rfl (lv_at hl 2 rfl) ?_
        refine lv_iload_n hx hb dX10_mark_49 rfl (lv_at hl 3 rfl) ?_
        refine lv_iload hx hb dX10_mark_50 (lv_at hl 4 rfl) ?_
        refine r_ci (va_runV (As := [.int a1, .int a2, .int a3, .int a4]) (rest := [.ref (ad 17), .ref (ad 0)]) ⟨hx, hb, hml, hown, hts⟩ (c_X6_add hi 17 a1 a2 a3 a4 (vSc16 vSc_1) s5 _ hv H.size) (cwV 4 hts gX10_mark_X6_add rfl rfl rfl (by decide +kernel) ⟨Nat.le_of_ble_eq_true rfl, Nat.le_of_ble_eq_true rfl⟩) ⟨pre_blind, r_recv hK.1 hP 17 (ltRo_0 (vSc16 vSc_1)) (ceRo_0 (vSc16 vSc_1) (s5 17)) rfl, pre_of hP hK⟩ rfl rfl hl.1 rfl (lv_room (Nat.le_of_ble_eq_true rfl)) dX10_mark_52 ⟨Nat.zero_le _, Nat.zero_le _⟩) hS (fun r6 s6 H locs hv hP hS => ?_)
        obtain ⟨hz_r6, hv⟩ := hv
        have hD := wd_D (s := s) (cel := celC ad cA) (σ := s6) hi
        refine r_ci (va_runV (As := [.ref (ad 17), .int r6]) (rest := []) ⟨hx, hb, hml, hown, hts⟩ (c_X10_told hi 17 r6 (vSc16 vSc_1) s6 _ hv H.size) (cwV 2 hts gX10_mark_X10_told rfl rfl rfl (by decide +kernel) ⟨Nat.le_of_ble_eq_true rfl, Nat.le_of_ble_eq_true rfl⟩) ⟨pre_blind, r_recv hK.1 hP 0 (by decide) (ceGR_0 (s6 0)) rfl, pre_of hP hK⟩ rfl rfl hl.1 rfl (lv_room (Nat.le_of_ble_eq_true rfl)) dX10_mark_55 ⟨Nat.zero_le _, Nat.zero_le _⟩) hS (fun r7 s7 H locs hv hP hS => ?_)
        have hD := wd_D (s := s) (cel := celC ad cA) (σ := s7) hi
        exact r_iret hx hb hr hlocks hv hP hS dX10_mark_58
      · have hv := hv.2 c24
        refine lv_aload_n hx hb dX10_mark_27 rfl (lv_at hl 0 rfl) ?_
        refine r_ci (va_runV (As := []) (rest := []) ⟨hx, hb, hml, hown, hts⟩ (c_X10_bad hi  s5 _ hv H.size) (cwV 0 hts gX10_mark_X10_bad rfl rfl rfl (by decide +kernel) ⟨Nat.le_of_ble_eq_true rfl, Nat.le_of_ble_eq_true rfl⟩) ⟨pre_blind, r_recv hK.1 hP 0 (by decide) (ceGR_0 (s5 0)) rfl, pre_of hP hK⟩ rfl rfl hl.1 rfl (lv_room (Nat.le_of_ble_eq_true rfl)) dX10_mark_28 ⟨Nat.zero_le _, Nat.zero_le _⟩) hS (fun r8 s8 H locs hv hP hS => ?_)
        have hD := wd_D (s := s) (cel := celC ad cA) (σ := s8) hi
        exact r_iret hx hb hr hlocks hv hP hS dX10_mark_31
set_option maxHeartbeats 4000000 in
theorem y_X10_mark {p : Program} {l : Launch} {e : Env} {s : State} {m : MethodId} {args : Array Value} {below : List Frame} {meth : Method} {c : Code} {dC : Nat → ClassId} {dI : Nat → Nat → Nat} {ad : Nat → Nat} {cA cZ : ClassId} (hi : Inj 81 ad) (a1 : Int32) (a2 : Int32) (a3 : Int32) (a4 : Int32)  (C0 : Cx cX10_mark RX10 wsX10_mark 5 (some .int) p s m args meth c) (hK : KK dC dI cA cZ s) (Q : Int32 → St → Prop) : ∀ P xs ys σ, R_X10_mark a1 a2 a3 a4 Q P xs ys σ → XX p l e ({ frames := 2, cells := 0, slots := 0, locals := 43 } : Room) s m args below meth c (dC, dI) 81 ad (celC ad cA) 5 (ZI below args s (dC, dI) 81 ad (celC ad cA) Q) (lay_X10_mark ad a1 a2 a3 a4) P xs ys σ := by
  refine Fx.elim _ (fun P xs ys σ Y hY hB => ?_)
  exact hB.elim
set_option maxHeartbeats 4000000 in
theorem c_X10_mark {l : Launch} {dC : Nat → ClassId} {dI : Nat → Nat → Nat} {ad : Nat → Nat} {cA cZ : ClassId} (hi : Inj 81 ad) (a1 : Int32) (a2 : Int32) (a3 : Int32) (a4 : Int32)  (s0 : St) (Q : Int32 → St → Prop) (hv : V_X10_mark a1 a2 a3 a4 s0 Q) (sz : Nat) : Met l yX10_mark wsX10_mark ({ frames := 2, cells := 0, slots := 0, locals := 43 } : Room) (va_Pc [.ref (ad 0), .int a1, .int a2, .int a3, .int a4] (PW dC dI ad cA cZ 81 (celC ad cA) sz s0)) (va_Qi Q (fun u t => va_P (dC, dI) vwCl (wd 81 ad (celC ad cA) u) t.heap) (AA 81 ad sz)) 0 0 (AA 81 ad sz) := by
  refine Met.ofW (cc := cX10_mark) (maxL := 5) (ret := (some .int)) (by decide) rfl ?_
  intro p e s m args below meth c s₁ B hml hv0
  obtain ⟨rfl, hsz, hP, hK⟩ := hv0
  subst hsz
  have C0 : Cx cX10_mark RX10 wsX10_mark 5 (some .int) p s m ([.ref (ad 0), .int a1, .int a2, .int a3, .int a4] : List Value).toArray meth c := ⟨B.exec, B.bytes, hml, findClass_of_methodNamed B.named, atoms_spec (ws := wsX10_mark) B.pre, B.returns, B.notSynchronized⟩
  have hl := lv_entry ([.ref (ad 0), .int a1, .int a2, .int a3, .int a4]) (n := 5) (Nat.le_of_ble_eq_true rfl)
  rw [lg_entry_eq]
  generalize (lg_sl ([.ref (ad 0), .int a1, .int a2, .int a3, .int a4]) ++ List.replicate (5 - (lg_sl ([.ref (ad 0), .int a1, .int a2, .int a3, .int a4])).length) Slot.unset).toArray = ls at hl ⊢
  have hl : lv_has ls 5 [(0, .ref (ad 0)), (1, .int a1), (2, .int a2), (3, .int a3), (4, .int a4)] := hl
  exact w_X10_mark_e hi a1 a2 a3 a4  C0 hK Q (R_X10_mark a1 a2 a3 a4 Q) (y_X10_mark hi a1 a2 a3 a4  C0 hK Q)  s0 hv hP va_S.rf hl
def lay_X10_forget (ad : Nat → Nat) (a1 : Int32) : Nat → List Int32 → List Int64 → Option (List (Nat × Value) × List Value) := fun P xs ys => match P, xs, ys with
  | _, _, _ => none
set_option maxHeartbeats 4000000 in
set_option maxRecDepth 100000 in
theorem w_X10_forget_e {p : Program} {l : Launch} {e : Env} {s : State} {m : MethodId} {args : Array Value} {below : List Frame} {meth : Method} {c : Code} {dC : Nat → ClassId} {dI : Nat → Nat → Nat} {ad : Nat → Nat} {cA cZ : ClassId} (hi : Inj 81 ad) (a1 : Int32)  (C0 : Cx cX10_forget RX10 wsX10_forget 2 (some .int) p s m args meth c) (hK : KK dC dI cA cZ s) (Q : Int32 → St → Prop) (Y : Nat → List Int32 → List Int64 → St → Prop) (hY : ∀ P xs ys σ, Y P xs ys σ → XX p l e ({ frames := 1, cells := 0, slots := 0, locals := 21 } : Room) s m args below meth c (dC, dI) 81 ad (celC ad cA) 2 (ZI below args s (dC, dI) 81 ad (celC ad cA) Q) (lay_X10_forget ad a1) P xs ys σ)  (s0 : St) (hv : B_X10_forget_e a1 Q Y  s0) {H : Heap} {locs : List Loc} {ls : Array Slot} (hP : va_P (dC, dI) vwCl (wd 81 ad (celC ad cA) s0) H) (hS : va_S (AA 81 ad s.heap.size) s.heap H locs) (hl : lv_has ls 2 [(0, .ref (ad 0)), (1, .int a1)]) : W p l e ({ frames := 1, cells := 0, slots := 0, locals := 21 } : Room) s m args below meth c H locs 0 0 (ZI below args s (dC, dI) 81 ad (celC ad cA) Q) (F0 m 0 ls []) := by
  obtain ⟨hx, hb, hml, hown, hts, hr, hlocks⟩ := C0
  have hD := wd_D (s := s) (cel := celC ad cA) (σ := s0) hi
  unfold B_X10_forget_e at hv
  refine lv_iload_n hx hb dX10_forget_0 rfl (lv_at hl 1 rfl) ?_
  by_cases c1_0 : a1 = 0
  · have hv := hv.1 c1_0
    refine lv_tableIn (off := 27) (tgt := 28) hx hb dX10_forget_1 (by rw [c1_0]; decide) (by rw [c1_0]; decide) (by rw [c1_0]; rfl) (by decide) ?_
    refine lv_aload_n hx hb dX10_forget_28 rfl (lv_at hl 0 rfl) ?_
    refine r_get hx hb hts (iwX10_forget_X10) hown hK.1 hP 0 (by decide) (ceGR_0 (s0 0)) rfl 0 (by decide) (hts _ kX10_forget_1) (v := .ref (ad 1)) rfl dX10_forget_29 ?_
    refine r_get hx hb hts (iwX10_forget_X7) hown hK.1 hP 1 (ltSc_0 vSc_1) (ceSc_0 vSc_1 (s0 1)) rfl 2 (by decide) (hts _ kX10_forget_2) (v := .ref (ad 13)) rfl dX10_forget_32 ?_
    refine r_ci (va_runV (As := []) (rest := []) ⟨hx, hb, hml, hown, hts⟩ (c_X6_empty hi 13 (vSc12 vSc_1) s0 _ hv H.size) (cwV 0 hts gX10_forget_X6_empty rfl rfl rfl (by decide +kernel) ⟨Nat.le_of_ble_eq_true rfl, Nat.le_of_ble_eq_true rfl⟩) ⟨pre_blind, r_recv hK.1 hP 13 (ltRo_0 (vSc12 vSc_1)) (ceRo_0 (vSc12 vSc_1) (s0 13)) rfl, pre_of hP hK⟩ rfl rfl hl.1 rfl (lv_room (Nat.le_of_ble_eq_true rfl)) dX10_forget_35 ⟨Nat.zero_le _, Nat.zero_le _⟩) hS (fun r1 s1 H locs hv hP hS => ?_)
    have hD := wd_D (s := s) (cel := celC ad cA) (σ := s1) hi
    exact r_iret hx hb hr hlocks hv hP hS dX10_forget_38
  have hv := hv.2 c1_0
  by_cases c1_1 : a1 = 1
  · have hv := hv.1 c1_1
    refine lv_tableIn (off := 38) (tgt := 39) hx hb dX10_forget_1 (by rw [c1_1]; decide) (by rw [c1_1]; decide) (by rw [c1_1]; rfl) (by decide) ?_
    refine lv_aload_n hx hb dX10_forget_39 rfl (lv_at hl 0 rfl) ?_
    refine r_get hx hb hts (iwX10_forget_X10) hown hK.1 hP 0 (by decide) (ceGR_0 (s0 0)) rfl 0 (by decide) (hts _ kX10_forget_1) (v := .ref (ad 1)) rfl dX10_forget_40 ?_
    refine r_get hx hb hts (iwX10_forget_X7) hown hK.1 hP 1 (ltSc_0 vSc_1) (ceSc_0 vSc_1 (s0 1)) rfl 3 (by decide) (hts _ kX10_forget_3) (v := .ref (ad 15)) rfl dX10_forget_43 ?_
    refine r_ci (va_runV (As := []) (rest := []) ⟨hx, hb, hml, hown, hts⟩ (c_X6_empty hi 15 (vSc14 vSc_1) s0 _ hv H.size) (cwV 0 hts gX10_forget_X6_empty rfl rfl rfl (by decide +kernel) ⟨Nat.le_of_ble_eq_true rfl, Nat.le_of_ble_eq_true rfl⟩) ⟨pre_blind, r_recv hK.1 hP 15 (ltRo_0 (vSc14 vSc_1)) (ceRo_0 (vSc14 vSc_1) (s0 15)) rfl, pre_of hP hK⟩ rfl rfl hl.1 rfl (lv_room (Nat.le_of_ble_eq_true rfl)) dX10_forget_46 ⟨Nat.zero_le _, Nat.zero_le _⟩) hS (fun r2 s2 H locs hv hP hS => ?_)
    have hD := wd_D (s := s) (cel := celC ad cA) (σ := s2) hi
    exact r_iret hx hb hr hlocks hv hP hS dX10_forget_49
  have hv := hv.2 c1_1
  by_cases c1_2 : a1 = 2
  · have hv := hv.1 c1_2
    refine lv_tableIn (off := 49) (tgt := 50) hx hb dX10_forget_1 (by rw [c1_2]; decide) (by rw [c1_2]; decide) (by rw [c1_2]; rfl) (by decide) ?_
    refine lv_aload_n hx hb dX10_forget_50 rfl (lv_at hl 0 rfl) ?_
    refine r_get hx hb hts (iwX10_forget_X10) hown hK.1 hP 0 (by decide) (ceGR_0 (s0 0)) rfl 0 (by decide) (hts _ kX10_forget_1) (v := .ref (ad 1)) rfl dX10_forget_51 ?_
    refine r_get hx hb hts (iwX10_forget_X7) hown hK.1 hP 1 (ltSc_0 vSc_1) (ceSc_0 vSc_1 (s0 1)) rfl 4 (by decide) (hts _ kX10_forget_4) (v := .ref (ad 17)) rfl dX10_forget_54 ?_
    refine r_ci (va_runV (As := []) (rest := []) ⟨hx, hb, hml, hown, hts⟩ (c_X6_empty hi 17 (vSc16 vSc_1) s0 _ hv H.size) (cwV 0 hts gX10_forget_X6_empty rfl rfl rfl (by decide +kernel) ⟨Nat.le_of_ble_eq_true rfl, Nat.le_of_ble_eq_true rfl⟩) ⟨pre_blind, r_recv hK.1 hP 17 (ltRo_0 (vSc16 vSc_1)) (ceRo_0 (vSc16 vSc_1) (s0 17)) rfl, pre_of hP hK⟩ rfl rfl hl.1 rfl (lv_room (Nat.le_of_ble_eq_true rfl)) dX10_forget_57 ⟨Nat.zero_le _, Nat.zero_le _⟩) hS (fun r3 s3 H locs hv hP hS => ?_)
    have hD := wd_D (s := s) (cel := celC ad cA) (σ := s3) hi
    exact r_iret hx hb hr hlocks hv hP hS dX10_forget_60
  have hv := hv.2 c1_2
  refine lv_tableOut (tgt := 61) hx hb dX10_forget_1 (by have w0 := lv_neT (a := 0) c1_0 (by decide); have w1 := lv_neT (a := 1) c1_1 (by decide); have w2 := lv_neT (a := 2) c1_2 (by decide); omega) (by decide) ?_
  refine lv_aload_n hx hb dX10_forget_61 rfl (lv_at hl 0 rfl) ?_
  refine r_ci (va_runV (As := []) (rest := []) ⟨hx, hb, hml, hown, hts⟩ (c_X10_bad hi  s0 _ hv H.size) (cwV 0 hts gX10_forget_X10_bad rfl rfl rfl (by decide +kernel) ⟨Nat.le_of_ble_eq_true rfl, Nat.le_of_ble_eq_true rfl⟩) ⟨pre_blind, r_recv hK.1 hP 0 (by decide) (ceGR_0 (s0 0)) rfl, pre_of hP hK⟩ rfl rfl hl.1 rfl (lv_room (Nat.le_of_ble_eq_true rfl)) dX10_forget_62 ⟨Nat.zero_le _, Nat.zero_le _⟩) hS (fun r4 s4 H locs hv hP hS => ?_)
  have hD := wd_D (s := s) (cel := celC ad cA) (σ := s4) hi
  exact r_iret hx hb hr hlocks hv hP hS dX10_forget_65
set_option maxHeartbeats 4000000 in
theorem y_X10_forget {p : Program} {l : Launch} {e : Env} {s : State} {m : MethodId} {args : Array Value} {below : List Frame} {meth : Method} {c : Code} {dC : Nat → ClassId} {dI : Nat → Nat → Nat} {ad : Nat → Nat} {cA cZ : ClassId} (hi : Inj 81 ad) (a1 : Int32)  (C0 : Cx cX10_forget RX10 wsX10_forget 2 (some .int) p s m args meth c) (hK : KK dC dI cA cZ s) (Q : Int32 → St → Prop) : ∀ P xs ys σ, R_X10_forget a1 Q P xs ys σ → XX p l e ({ frames := 1, cells := 0, slots := 0, locals := 21 } : Room) s m args below meth c (dC, dI) 81 ad (celC ad cA) 2 (ZI below args s (dC, dI) 81 ad (celC ad cA) Q) (lay_X10_forget ad a1) P xs ys σ := by
  refine Fx.elim _ (fun P xs ys σ Y hY hB => ?_)
  exact hB.elim
set_option maxHeartbeats 4000000 in
theorem c_X10_forget {l : Launch} {dC : Nat → ClassId} {dI : Nat → Nat → Nat} {ad : Nat → Nat} {cA cZ : ClassId} (hi : Inj 81 ad) (a1 : Int32)  (s0 : St) (Q : Int32 → St → Prop) (hv : V_X10_forget a1 s0 Q) (sz : Nat) : Met l yX10_forget wsX10_forget ({ frames := 1, cells := 0, slots := 0, locals := 21 } : Room) (va_Pc [.ref (ad 0), .int a1] (PW dC dI ad cA cZ 81 (celC ad cA) sz s0)) (va_Qi Q (fun u t => va_P (dC, dI) vwCl (wd 81 ad (celC ad cA) u) t.heap) (AA 81 ad sz)) 0 0 (AA 81 ad sz) := by
  refine Met.ofW (cc := cX10_forget) (maxL := 2) (ret := (some .int)) (by decide) rfl ?_
  intro p e s m args below meth c s₁ B hml hv0
  obtain ⟨rfl, hsz, hP, hK⟩ := hv0
  subst hsz
  have C0 : Cx cX10_forget RX10 wsX10_forget 2 (some .int) p s m ([.ref (ad 0), .int a1] : List Value).toArray meth c := ⟨B.exec, B.bytes, hml, findClass_of_methodNamed B.named, atoms_spec (ws := wsX10_forget) B.pre, B.returns, B.notSynchronized⟩
  have hl := lv_entry ([.ref (ad 0), .int a1]) (n := 2) (Nat.le_of_ble_eq_true rfl)
  rw [lg_entry_eq]
  generalize (lg_sl ([.ref (ad 0), .int a1]) ++ List.replicate (2 - (lg_sl ([.ref (ad 0), .int a1])).length) Slot.unset).toArray = ls at hl ⊢
  have hl : lv_has ls 2 [(0, .ref (ad 0)), (1, .int a1)] := hl
  exact w_X10_forget_e hi a1  C0 hK Q (R_X10_forget a1 Q) (y_X10_forget hi a1  C0 hK Q)  s0 hv hP va_S.rf hl
def lay_X1_says (ad : Nat → Nat) (a0 : Int32) (a1 : Int32) (a2 : Int32) (a3 : Int32) : Nat → List Int32 → List Int64 → Option (List (Nat × Value) × List Value) := fun P xs ys => match P, xs, ys with
  | _, _, _ => none
set_option maxHeartbeats 4000000 in
set_option maxRecDepth 100000 in
theorem w_X1_says_e {p : Program} {l : Launch} {e : Env} {s : State} {m : MethodId} {args : Array Value} {below : List Frame} {meth : Method} {c : Code} {dC : Nat → ClassId} {dI : Nat → Nat → Nat} {ad : Nat → Nat} {cA cZ : ClassId} (hi : Inj 81 ad) (a0 : Int32) (a1 : Int32) (a2 : Int32) (a3 : Int32)  (C0 : Cx cX1_says RX1 wsX1_says 4 (some .int) p s m args meth c) (hK : KK dC dI cA cZ s) (Q : Int32 → St → Prop) (Y : Nat → List Int32 → List Int64 → St → Prop) (hY : ∀ P xs ys σ, Y P xs ys σ → XX p l e ({ frames := 1, cells := 0, slots := 0, locals := 25 } : Room) s m args below meth c (dC, dI) 81 ad (celC ad cA) 4 (ZI below args s (dC, dI) 81 ad (celC ad cA) Q) (lay_X1_says ad a0 a1 a2 a3) P xs ys σ)  (s0 : St) (hv : B_X1_says_e a0 a1 a2 a3 Q Y  s0) {H : Heap} {locs : List Loc} {ls : Array Slot} (hP : va_P (dC, dI) vwCl (wd 81 ad (celC ad cA) s0) H) (hS : va_S (AA 81 ad s.heap.size) s.heap H locs) (hl : lv_has ls 4 [(0, .int a0), (1, .int a1), (2, .int a2), (3, .int a3)]) : W p l e ({ frames := 1, cells := 0, slots := 0, locals := 25 } : Room) s m args below meth c H locs 0 0 (ZI below args s (dC, dI) 81 ad (celC ad cA) Q) (F0 m 0 ls []) := by
  obtain ⟨hx, hb, hml, hown, hts, hr, hlocks⟩ := C0
  have hD := wd_D (s := s) (cel := celC ad cA) (σ := s0) hi
  unfold B_X1_says_e at hv
  refine lv_iload_n hx hb dX1_says_0 rfl (lv_at hl 0 rfl) ?_
  refine lv_if_eq (tgt := 13) hx hb dX1_says_1 (by decide) (fun c1 => ?_) (fun c1 => ?_)
  · have hv := hv.1 c1
    refine lv_iload_n hx hb dX1_says_13 rfl (lv_at hl 1 rfl) ?_
    refine lv_iload_n hx hb dX1_says_14 rfl (lv_at hl 2 rfl) ?_
    refine lv_iload_n hx hb dX1_says_15 rfl (lv_at hl 3 rfl) ?_
    refine r_ci (va_runS (As := [.int a1, .int a2, .int a3]) (rest := []) ⟨hx, hb, hml, hown, hts⟩ (c_X1_letOver hi a1 a2 a3 s0 _ hv H.size) (va_cwS 3 hts gX1_says_X1_letOver rfl rfl rfl (by decide +kernel) ⟨Nat.le_of_ble_eq_true rfl, Nat.le_of_ble_eq_true rfl⟩) ⟨pre_blind, pre_of hP hK⟩ rfl rfl hl.1 rfl (lv_room (Nat.le_of_ble_eq_true rfl)) dX1_says_16 ⟨Nat.zero_le _, Nat.zero_le _⟩) hS (fun r1 s1 H locs hv hP hS => ?_)
    have hD := wd_D (s := s) (cel := celC ad cA) (σ := s1) hi
    exact r_iret hx hb hr hlocks hv hP hS dX1_says_19
  · have hv := hv.2 c1
    refine lv_iload_n hx hb dX1_says_4 rfl (lv_at hl 1 rfl) ?_
    refine lv_iload_n hx hb dX1_says_5 rfl (lv_at hl 2 rfl) ?_
    refine lv_iload_n hx hb dX1_says_6 rfl (lv_at hl 3 rfl) ?_
    refine r_ci (va_runS (As := [.int a1, .int a2, .int a3]) (rest := []) ⟨hx, hb, hml, hown, hts⟩ (c_X1_spikesGone hi a1 a2 a3 s0 _ hv H.size) (va_cwS 3 hts gX1_says_X1_spikesGone rfl rfl rfl (by decide +kernel) ⟨Nat.le_of_ble_eq_true rfl, Nat.le_of_ble_eq_true rfl⟩) ⟨pre_blind, pre_of hP hK⟩ rfl rfl hl.1 rfl (lv_room (Nat.le_of_ble_eq_true rfl)) dX1_says_7 ⟨Nat.zero_le _, Nat.zero_le _⟩) hS (fun r2 s2 H locs hv hP hS => ?_)
    have hD := wd_D (s := s) (cel := celC ad cA) (σ := s2) hi
    refine lv_goto (tgt := 19) hx hb dX1_says_10 (by decide) ?_
    exact r_iret hx hb hr hlocks hv hP hS dX1_says_19
set_option maxHeartbeats 4000000 in
theorem y_X1_says {p : Program} {l : Launch} {e : Env} {s : State} {m : MethodId} {args : Array Value} {below : List Frame} {meth : Method} {c : Code} {dC : Nat → ClassId} {dI : Nat → Nat → Nat} {ad : Nat → Nat} {cA cZ : ClassId} (hi : Inj 81 ad) (a0 : Int32) (a1 : Int32) (a2 : Int32) (a3 : Int32)  (C0 : Cx cX1_says RX1 wsX1_says 4 (some .int) p s m args meth c) (hK : KK dC dI cA cZ s) (Q : Int32 → St → Prop) : ∀ P xs ys σ, R_X1_says a0 a1 a2 a3 Q P xs ys σ → XX p l e ({ frames := 1, cells := 0, slots := 0, locals := 25 } : Room) s m args below meth c (dC, dI) 81 ad (celC ad cA) 4 (ZI below args s (dC, dI) 81 ad (celC ad cA) Q) (lay_X1_says ad a0 a1 a2 a3) P xs ys σ := by
  refine Fx.elim _ (fun P xs ys σ Y hY hB => ?_)
  exact hB.elim
set_option maxHeartbeats 4000000 in
theorem c_X1_says {l : Launch} {dC : Nat → ClassId} {dI : Nat → Nat → Nat} {ad : Nat → Nat} {cA cZ : ClassId} (hi : Inj 81 ad) (a0 : Int32) (a1 : Int32) (a2 : Int32) (a3 : Int32)  (s0 : St) (Q : Int32 → St → Prop) (hv : V_X1_says a0 a1 a2 a3 s0 Q) (sz : Nat) : Met l yX1_says wsX1_says ({ frames := 1, cells := 0, slots := 0, locals := 25 } : Room) (va_Pc [.int a0, .int a1, .int a2, .int a3] (PW dC dI ad cA cZ 81 (celC ad cA) sz s0)) (va_Qi Q (fun u t => va_P (dC, dI) vwCl (wd 81 ad (celC ad cA) u) t.heap) (AA 81 ad sz)) 0 0 (AA 81 ad sz) := by
  refine Met.ofW (cc := cX1_says) (maxL := 4) (ret := (some .int)) (by decide) rfl ?_
  intro p e s m args below meth c s₁ B hml hv0
  obtain ⟨rfl, hsz, hP, hK⟩ := hv0
  subst hsz
  have C0 : Cx cX1_says RX1 wsX1_says 4 (some .int) p s m ([.int a0, .int a1, .int a2, .int a3] : List Value).toArray meth c := ⟨B.exec, B.bytes, hml, findClass_of_methodNamed B.named, atoms_spec (ws := wsX1_says) B.pre, B.returns, B.notSynchronized⟩
  have hl := lv_entry ([.int a0, .int a1, .int a2, .int a3]) (n := 4) (Nat.le_of_ble_eq_true rfl)
  rw [lg_entry_eq]
  generalize (lg_sl ([.int a0, .int a1, .int a2, .int a3]) ++ List.replicate (4 - (lg_sl ([.int a0, .int a1, .int a2, .int a3])).length) Slot.unset).toArray = ls at hl ⊢
  have hl : lv_has ls 4 [(0, .int a0), (1, .int a1), (2, .int a2), (3, .int a3)] := hl
  exact w_X1_says_e hi a0 a1 a2 a3  C0 hK Q (R_X1_says a0 a1 a2 a3 Q) (y_X1_says hi a0 a1 a2 a3  C0 hK Q)  s0 hv hP va_S.rf hl
def lay_X10_kindsThatFit (ad : Nat → Nat) (h0 : Nat) (a1 : Int32) (a2 : Int32) : Nat → List Int32 → List Int64 → Option (List (Nat × Value) × List Value) := fun P xs ys => match P, xs, ys with
  | 5, [x3, x4], [] => some ([(0, .ref (ad h0)), (1, .int a1), (2, .int a2), (3, .int x3), (4, .int x4)], [])
  | 18, [x3, x4, x5, x6], [] => some ([(0, .ref (ad h0)), (1, .int a1), (2, .int a2), (3, .int x3), (4, .int x4), (5, .int x5), (6, .int x6)], [])
  | _, _, _ => none
set_option maxHeartbeats 4000000 in
set_option maxRecDepth 100000 in
theorem w_X10_kindsThatFit_e {p : Program} {l : Launch} {e : Env} {s : State} {m : MethodId} {args : Array Value} {below : List Frame} {meth : Method} {c : Code} {dC : Nat → ClassId} {dI : Nat → Nat → Nat} {ad : Nat → Nat} {cA cZ : ClassId} (hi : Inj 81 ad) (h0 : Nat) (a1 : Int32) (a2 : Int32) (hh0 : isRo h0) (C0 : Cx cX10_kindsThatFit RX10 wsX10_kindsThatFit 8 (some .int) p s m args meth c) (hK : KK dC dI cA cZ s) (Q : Int32 → St → Prop) (Y : Nat → List Int32 → List Int64 → St → Prop) (hY : ∀ P xs ys σ, Y P xs ys σ → XX p l e ({ frames := 2, cells := 0, slots := 0, locals := 48 } : Room) s m args below meth c (dC, dI) 81 ad (celC ad cA) 8 (ZI below args s (dC, dI) 81 ad (celC ad cA) Q) (lay_X10_kindsThatFit ad h0 a1 a2) P xs ys σ)  (s0 : St) (hv : B_X10_kindsThatFit_e h0 a1 a2 Q Y  s0) {H : Heap} {locs : List Loc} {ls : Array Slot} (hP : va_P (dC, dI) vwCl (wd 81 ad (celC ad cA) s0) H) (hS : va_S (AA 81 ad s.heap.size) s.heap H locs) (hl : lv_has ls 8 [(0, .ref (ad h0)), (1, .int a1), (2, .int a2)]) : W p l e ({ frames := 2, cells := 0, slots := 0, locals := 48 } : Room) s m args below meth c H locs 0 0 (ZI below args s (dC, dI) 81 ad (celC ad cA) Q) (F0 m 0 ls []) := by
  obtain ⟨hx, hb, hml, hown, hts, hr, hlocks⟩ := C0
  have hD := wd_D (s := s) (cel := celC ad cA) (σ := s0) hi
  unfold B_X10_kindsThatFit_e at hv
  refine lv_iconst (v := 0) hx hb dX10_kindsThatFit_0 (by decide) ?_
  refine lv_istore_n (lv' := [(3, .int 0), (0, .ref (ad h0)), (1, .int a1), (2, .int a2)]) hx hb dX10_kindsThatFit_1 rfl hl (by decide) rfl (fun ls hl => ?_)
  refine lv_iconst (v := 0) hx hb dX10_kindsThatFit_2 (by decide) ?_
  refine lv_istore (lv' := [(4, .int 0), (3, .int 0), (0, .ref (ad h0)), (1, .int a1), (2, .int a2)]) hx hb dX10_kindsThatFit_3 hl (by decide) rfl (fun ls hl => ?_)
  exact hY 5 [0, 0] [] s0 hv _ _ rfl H locs ls hP hS (lv_sub hl [2, 3, 4, 1, 0] rfl)
set_option maxHeartbeats 4000000 in
set_option maxRecDepth 100000 in
theorem w_X10_kindsThatFit_5 {p : Program} {l : Launch} {e : Env} {s : State} {m : MethodId} {args : Array Value} {below : List Frame} {meth : Method} {c : Code} {dC : Nat → ClassId} {dI : Nat → Nat → Nat} {ad : Nat → Nat} {cA cZ : ClassId} (hi : Inj 81 ad) (h0 : Nat) (a1 : Int32) (a2 : Int32) (hh0 : isRo h0) (C0 : Cx cX10_kindsThatFit RX10 wsX10_kindsThatFit 8 (some .int) p s m args meth c) (hK : KK dC dI cA cZ s) (Q : Int32 → St → Prop) (Y : Nat → List Int32 → List Int64 → St → Prop) (hY : ∀ P xs ys σ, Y P xs ys σ → XX p l e ({ frames := 2, cells := 0, slots := 0, locals := 48 } : Room) s m args below meth c (dC, dI) 81 ad (celC ad cA) 8 (ZI below args s (dC, dI) 81 ad (celC ad cA) Q) (lay_X10_kindsThatFit ad h0 a1 a2) P xs ys σ) (x3 : Int32) (x4 : Int32) (s0 : St) (hv : B_X10_kindsThatFit_5 h0 a1 a2 Q Y x3 x4 s0) {H : Heap} {locs : List Loc} {ls : Array Slot} (hP : va_P (dC, dI) vwCl (wd 81 ad (celC ad cA) s0) H) (hS : va_S (AA 81 ad s.heap.size) s.heap H locs) (hl : lv_has ls 8 [(0, .ref (ad h0)), (1, .int a1), (2, .int a2), (3, .int x3), (4, .int x4)]) : W p l e ({ frames := 2, cells := 0, slots := 0, locals := 48 } : Room) s m args below meth c H locs 0 0 (ZI below args s (dC, dI) 81 ad (celC ad cA) Q) (F0 m 5 ls []) := by
  obtain ⟨hx, hb, hml, hown, hts, hr, hlocks⟩ := C0
  have hD := wd_D (s := s) (cel := celC ad cA) (σ := s0) hi
  unfold B_X10_kindsThatFit_5 at hv
  refine lv_iload hx hb dX10_kindsThatFit_5 (lv_at hl 4 rfl) ?_
  refine lv_bipush (v := 6) hx hb dX10_kindsThatFit_7 (by decide) ?_
  refine lv_icmp_ge (tgt := 108) hx hb dX10_kindsThatFit_9 (by decide) (fun c9 => ?_) (fun c9 => ?_)
  · have hv := hv.1 c9
    refine lv_iload_n hx hb dX10_kindsThatFit_108 rfl (lv_at hl 3 rfl) ?_
    exact r_iret hx hb hr hlocks hv hP hS dX10_kindsThatFit_109
  · have hv := hv.2 c9
    refine lv_iconst (v := 1) hx hb dX10_kindsThatFit_12 (by decide) ?_
    refine lv_istore (lv' := [(5, .int 1), (0, .ref (ad h0)), (1, .int a1), (2, .int a2), (3, .int x3), (4, .int x4)]) hx hb dX10_kindsThatFit_13 hl (by decide) rfl (fun ls hl => ?_)
    refine lv_iconst (v := 0) hx hb dX10_kindsThatFit_15 (by decide) ?_
    refine lv_istore (lv' := [(6, .int 0), (5, .int 1), (0, .ref (ad h0)), (1, .int a1), (2, .int a2), (3, .int x3), (4, .int x4)]) hx hb dX10_kindsThatFit_16 hl (by decide) rfl (fun ls hl => ?_)
    exact hY 18 [x3, x4, 1, 0] [] s0 hv _ _ rfl H locs ls hP hS (lv_sub hl [2, 3, 4, 5, 6, 1, 0] rfl)
set_option maxHeartbeats 4000000 in
set_option maxRecDepth 100000 in
theorem w_X10_kindsThatFit_18 {p : Program} {l : Launch} {e : Env} {s : State} {m : MethodId} {args : Array Value} {below : List Frame} {meth : Method} {c : Code} {dC : Nat → ClassId} {dI : Nat → Nat → Nat} {ad : Nat → Nat} {cA cZ : ClassId} (hi : Inj 81 ad) (h0 : Nat) (a1 : Int32) (a2 : Int32) (hh0 : isRo h0) (C0 : Cx cX10_kindsThatFit RX10 wsX10_kindsThatFit 8 (some .int) p s m args meth c) (hK : KK dC dI cA cZ s) (Q : Int32 → St → Prop) (Y : Nat → List Int32 → List Int64 → St → Prop) (hY : ∀ P xs ys σ, Y P xs ys σ → XX p l e ({ frames := 2, cells := 0, slots := 0, locals := 48 } : Room) s m args below meth c (dC, dI) 81 ad (celC ad cA) 8 (ZI below args s (dC, dI) 81 ad (celC ad cA) Q) (lay_X10_kindsThatFit ad h0 a1 a2) P xs ys σ) (x3 : Int32) (x4 : Int32) (x5 : Int32) (x6 : Int32) (s0 : St) (hv : B_X10_kindsThatFit_18 h0 a1 a2 Q Y x3 x4 x5 x6 s0) {H : Heap} {locs : List Loc} {ls : Array Slot} (hP : va_P (dC, dI) vwCl (wd 81 ad (celC ad cA) s0) H) (hS : va_S (AA 81 ad s.heap.size) s.heap H locs) (hl : lv_has ls 8 [(0, .ref (ad h0)), (1, .int a1), (2, .int a2), (3, .int x3), (4, .int x4), (5, .int x5), (6, .int x6)]) : W p l e ({ frames := 2, cells := 0, slots := 0, locals := 48 } : Room) s m args below meth c H locs 0 0 (ZI below args s (dC, dI) 81 ad (celC ad cA) Q) (F0 m 18 ls []) := by
  obtain ⟨hx, hb, hml, hown, hts, hr, hlocks⟩ := C0
  have hD := wd_D (s := s) (cel := celC ad cA) (σ := s0) hi
  unfold B_X10_kindsThatFit_18 at hv
  refine lv_iload hx hb dX10_kindsThatFit_18 (lv_at hl 6 rfl) ?_
  refine lv_aload_n hx hb dX10_kindsThatFit_20 rfl (lv_at hl 0 rfl) ?_
  refine r_get hx hb hts (iwX10_kindsThatFit_X6) hown hK.1 hP h0 (ltRo_0 hh0) (ceRo_0 hh0 (s0 h0)) rfl 3 (by decide) (hts _ kX10_kindsThatFit_1) (v := .int (s0 h0 3)) rfl dX10_kindsThatFit_21 ?_
  refine lv_icmp_ge (tgt := 90) hx hb dX10_kindsThatFit_24 (by decide) (fun c24 => ?_) (fun c24 => ?_)
  · have hv := hv.1 c24
    refine lv_iload hx hb dX10_kindsThatFit_90 (lv_at hl 5 rfl) ?_
    refine lv_if_eq (tgt := 102) hx hb dX10_kindsThatFit_92 (by decide) (fun c92 => ?_) (fun c92 => ?_)
    · have hv := hv.1 c92
      refine lv_iinc (v := x4 + 1) (lv' := [(4, .int (x4 + 1)), (0, .ref (ad h0)), (1, .int a1), (2, .int a2), (3, .int x3), (5, .int x5), (6, .int x6)]) hx hb dX10_kindsThatFit_102 hl (k := 4) rfl rfl (by decide) rfl (fun ls hl => ?_)
      refine lv_goto (tgt := 5) hx hb dX10_kindsThatFit_105 (by decide) ?_
      exact hY 5 [x3, x4 + 1] [] s0 hv _ _ rfl H locs ls hP hS (lv_sub hl [1, 2, 3, 4, 0] rfl)
    · have hv := hv.2 c92
      refine lv_iload_n hx hb dX10_kindsThatFit_95 rfl (lv_at hl 3 rfl) ?_
      refine lv_iconst (v := 1) hx hb dX10_kindsThatFit_96 (by decide) ?_
      refine lv_iload hx hb dX10_kindsThatFit_97 (lv_at hl 4 rfl) ?_
      refine lv_ishl hx hb dX10_kindsThatFit_99 ?_
      refine lv_ior hx hb dX10_kindsThatFit_100 ?_
      refine lv_topi (fun v1 ev1 => ?_)
      have hv := hv v1 ev1
      refine lv_istore_n (lv' := [(3, .int v1), (0, .ref (ad h0)), (1, .int a1), (2, .int a2), (4, .int x4), (5, .int x5), (6, .int x6)]) hx hb dX10_kindsThatFit_101 rfl hl (by decide) rfl (fun ls hl => ?_)
      refine lv_iinc (v := x4 + 1) (lv' := [(4, .int (x4 + 1)), (3, .int v1), (0, .ref (ad h0)), (1, .int a1), (2, .int a2), (5, .int x5), (6, .int x6)]) hx hb dX10_kindsThatFit_102 hl (k := 4) rfl rfl (by decide) rfl (fun ls hl => ?_)
      refine lv_goto (tgt := 5) hx hb dX10_kindsThatFit_105 (by decide) ?_
      exact hY 5 [v1, x4 + 1] [] s0 hv _ _ rfl H locs ls hP hS (lv_sub hl [2, 3, 4, 1, 0] rfl)
  · have hv := hv.2 c24
    refine lv_iload_n hx hb dX10_kindsThatFit_27 rfl (lv_at hl 2 rfl) ?_
    refine lv_iload hx hb dX10_kindsThatFit_28 (lv_at hl 4 rfl) ?_
    refine lv_aload_n hx hb dX10_kindsThatFit_30 rfl (lv_at hl 0 rfl) ?_
    refine lv_iload hx hb dX10_kindsThatFit_31 (lv_at hl 6 rfl) ?_
    refine lv_iconst (v := 1) hx hb dX10_kindsThatFit_33 (by decide) ?_
    refine r_ci (va_runV (As := [.int x6, .int 1]) (rest := [.int x4, .int a2]) ⟨hx, hb, hml, hown, hts⟩ (c_X6_cell hi h0 x6 1 hh0 s0 _ hv H.size) (cwV 2 hts gX10_kindsThatFit_X6_cell rfl rfl rfl (by decide +kernel) ⟨Nat.le_of_ble_eq_true rfl, Nat.le_of_ble_eq_true rfl⟩) ⟨pre_blind, r_recv hK.1 hP h0 (ltRo_0 hh0) (ceRo_0 hh0 (s0 h0)) rfl, pre_of hP hK⟩ rfl rfl hl.1 rfl (lv_room (Nat.le_of_ble_eq_true rfl)) dX10_kindsThatFit_34 ⟨Nat.zero_le _, Nat.zero_le _⟩) hS (fun r2 s2 H locs hv hP hS => ?_)
    have hD := wd_D (s := s) (cel := celC ad cA) (σ := s2) hi
    refine lv_aload_n hx hb dX10_kindsThatFit_37 rfl (lv_at hl 0 rfl) ?_
    refine lv_iload hx hb dX10_kindsThatFit_38 (lv_at hl 6 rfl) ?_
    refine lv_iconst (v := 2) hx hb dX10_kindsThatFit_40 (by decide) ?_
    refine r_ci (va_runV (As := [.int x6, .int 2]) (rest := [.int r2, .int x4, .int a2]) ⟨hx, hb, hml, hown, hts⟩ (c_X6_cell hi h0 x6 2 hh0 s2 _ hv H.size) (cwV 2 hts gX10_kindsThatFit_X6_cell rfl rfl rfl (by decide +kernel) ⟨Nat.le_of_ble_eq_true rfl, Nat.le_of_ble_eq_true rfl⟩) ⟨pre_blind, r_recv hK.1 hP h0 (ltRo_0 hh0) (ceRo_0 hh0 (s2 h0)) rfl, pre_of hP hK⟩ rfl rfl hl.1 rfl (lv_room (Nat.le_of_ble_eq_true rfl)) dX10_kindsThatFit_41 ⟨Nat.zero_le _, Nat.zero_le _⟩) hS (fun r3 s3 H locs hv hP hS => ?_)
    have hD := wd_D (s := s) (cel := celC ad cA) (σ := s3) hi
    refine r_ci (va_runS (As := [.int a2, .int x4, .int r2, .int r3]) (rest := []) ⟨hx, hb, hml, hown, hts⟩ (c_X1_says hi a2 x4 r2 r3 s3 _ hv H.size) (va_cwS 4 hts gX10_kindsThatFit_X1_says rfl rfl rfl (by decide +kernel) ⟨Nat.le_of_ble_eq_true rfl, Nat.le_of_ble_eq_true rfl⟩) ⟨pre_blind, pre_of hP hK⟩ rfl rfl hl.1 rfl (lv_room (Nat.le_of_ble_eq_true rfl)) dX10_kindsThatFit_44 ⟨Nat.zero_le _, Nat.zero_le _⟩) hS (fun r4 s4 H locs hv hP hS => ?_)
    have hD := wd_D (s := s) (cel := celC ad cA) (σ := s4) hi
    refine lv_istore (lv' := [(7, .int r4), (0, .ref (ad h0)), (1, .int a1), (2, .int a2), (3, .int x3), (4, .int x4), (5, .int x5), (6, .int x6)]) hx hb dX10_kindsThatFit_47 hl (by decide) rfl (fun ls hl => ?_)
    refine lv_iload hx hb dX10_kindsThatFit_49 (lv_at hl 6 rfl) ?_
    refine lv_if_eq (tgt := 81) hx hb dX10_kindsThatFit_51 (by decide) (fun c51 => ?_) (fun c51 => ?_)
    · have hv := hv.1 c51
      refine lv_iconst (v := 0) hx hb dX10_kindsThatFit_81 (by decide) ?_
      refine lv_istore (lv' := [(5, .int 0), (7, .int r4), (0, .ref (ad h0)), (1, .int a1), (2, .int a2), (3, .int x3), (4, .int x4), (6, .int x6)]) hx hb dX10_kindsThatFit_82 hl (by decide) rfl (fun ls hl => ?_)
      refine lv_iinc (v := x6 + 1) (lv' := [(6, .int (x6 + 1)), (5, .int 0), (7, .int r4), (0, .ref (ad h0)), (1, .int a1), (2, .int a2), (3, .int x3), (4, .int x4)]) hx hb dX10_kindsThatFit_84 hl (k := 7) rfl rfl (by decide) rfl (fun ls hl => ?_)
      refine lv_goto (tgt := 18) hx hb dX10_kindsThatFit_87 (by decide) ?_
      exact hY 18 [x3, x4, 0, x6 + 1] [] s4 hv _ _ rfl H locs ls hP hS (lv_sub hl [3, 4, 5, 6, 7, 1, 0] rfl)
    · have hv := hv.2 c51
      refine lv_aload_n hx hb dX10_kindsThatFit_54 rfl (lv_at hl 1 rfl) ?_
      refine lv_iload hx hb dX10_kindsThatFit_55 (lv_at hl 7 rfl) ?_
      refine lv_iconst (v := 0) hx hb dX10_kindsThatFit_57 (by decide) ?_
      refine r_ci (va_runV (As := [.int x6, .int 0]) (rest := []) ⟨hx, hb, hml, hown, hts⟩ (c_X6_cell hi h0 x6 0 hh0 s4 _ hv H.size) (cwV 2 hts gX10_kindsThatFit_X6_cell rfl rfl rfl (by decide +kernel) ⟨Nat.le_of_ble_eq_true rfl, Nat.le_of_ble_eq_true rfl⟩) ⟨pre_blind, r_recv hK.1 hP h0 (ltRo_0 hh0) (ceRo_0 hh0 (s4 h0)) rfl, pre_of hP hK⟩ rfl rfl hl.1 rfl (lv_room (Nat.le_of_ble_eq_true rfl)) dX10_kindsThatFit_58 ⟨Nat.zero_le _, Nat.zero_le _⟩) hS (fun r5 s5 H locs hv hP hS => ?_)
      have hD := wd_D (s := s) (cel := celC ad cA) (σ := s5) hi
      refine lv_iload_n hx hb dX10_kindsThatFit_61 rfl (lv_at hl 2 rfl) ?_
      refine lv_icmp_ne (tgt := 77) hx hb dX10_kindsThatFit_62 (by decide) (fun c62 => ?_) (fun c62 => ?_)
      · have hv := hv.1 c62
        refine lv_iconst (v := 1) hx hb dX10_kindsThatFit_77 (by decide) ?_
        refine lv_goto (tgt := 82) hx hb dX10_kindsThatFit_78 (by decide) ?_
        refine lv_istore (lv' := [(5, .int 1), (7, .int r4), (0, .ref (ad h0)), (1, .int a1), (2, .int a2), (3, .int x3), (4, .int x4), (6, .int x6)]) hx hb dX10_kindsThatFit_82 hl (by decide) rfl (fun ls hl => ?_)
        refine lv_iinc (v := x6 + 1) (lv' := [(6, .int (x6 + 1)), (5, .int 1), (7, .int r4), (0, .ref (ad h0)), (1, .int a1), (2, .int a2), (3, .int x3), (4, .int x4)]) hx hb dX10_kindsThatFit_84 hl (k := 7) rfl rfl (by decide) rfl (fun ls hl => ?_)
        refine lv_goto (tgt := 18) hx hb dX10_kindsThatFit_87 (by decide) ?_
        exact hY 18 [x3, x4, 1, x6 + 1] [] s5 hv _ _ rfl H locs ls hP hS (lv_sub hl [3, 4, 5, 6, 7, 1, 0] rfl)
      · have hv := hv.2 c62
        refine lv_iload hx hb dX10_kindsThatFit_65 (lv_at hl 0 rfl) ?_
        refine lv_aload_n hx hb dX10_kindsThatFit_67 rfl (lv_at hl 1 rfl) ?_
        refine lv_iload hx hb dX10_kindsThatFit_68 (lv_at hl 7 rfl) ?_
        refine lv_iconst (v := 3) hx hb dX10_kindsThatFit_70 (by decide) ?_
        refine r_ci (va_runV (As := [.int x6, .int 3]) (rest := [.int r4]) ⟨hx, hb, hml, hown, hts⟩ (c_X6_cell hi h0 x6 3 hh0 s5 _ hv H.size) (cwV 2 hts gX10_kindsThatFit_X6_cell rfl rfl rfl (by decide +kernel) ⟨Nat.le_of_ble_eq_true rfl, Nat.le_of_ble_eq_true rfl⟩) ⟨pre_blind, r_recv hK.1 hP h0 (ltRo_0 hh0) (ceRo_0 hh0 (s5 h0)) rfl, pre_of hP hK⟩ rfl rfl hl.1 rfl (lv_room (Nat.le_of_ble_eq_true rfl)) dX10_kindsThatFit_71 ⟨Nat.zero_le _, Nat.zero_le _⟩) hS (fun r6 s6 H locs hv hP hS => ?_)
        have hD := wd_D (s := s) (cel := celC ad cA) (σ := s6) hi
        refine lv_icmp_ne (tgt := 81) hx hb dX10_kindsThatFit_74 (by decide) (fun c74 => ?_) (fun c74 => ?_)
        · have hv := hv.1 c74
          refine lv_iconst (v := 0) hx hb dX10_kindsThatFit_81 (by decide) ?_
          refine lv_istore (lv' := [(5, .int 0), (7, .int r4), (0, .ref (ad h0)), (1, .int a1), (2, .int a2), (3, .int x3), (4, .int x4), (6, .int x6)]) hx hb dX10_kindsThatFit_82 hl (by decide) rfl (fun ls hl => ?_)
          refine lv_iinc (v := x6 + 1) (lv' := [(6, .int (x6 + 1)), (5, .int 0), (7, .int r4), (0, .ref (ad h0)), (1, .int a1), (2, .int a2), (3, .int x3), (4, .int x4)]) hx hb dX10_kindsThatFit_84 hl (k := 7) rfl rfl (by decide) rfl (fun ls hl => ?_)
          refine lv_goto (tgt := 18) hx hb dX10_kindsThatFit_87 (by decide) ?_
          exact hY 18 [x3, x4, 0, x6 + 1] [] s6 hv _ _ rfl H locs ls hP hS (lv_sub hl [3, 4, 5, 6, 7, 1, 0] rfl)
        · have hv := hv.2 c74
          refine lv_iconst (v := 1) hx hb dX10_kindsThatFit_77 (by decide) ?_
          refine lv_goto (tgt := 82) hx hb dX10_kindsThatFit_78 (by decide) ?_
          refine lv_istore (lv' := [(5, .int 1), (7, .int r4), (0, .ref (ad h0)), (1, .int a1), (2, .int a2), (3, .int x3), (4, .int x4), (6, .int x6)]) hx hb dX10_kindsThatFit_82 hl (by decide) rfl (fun ls hl => ?_)
          refine lv_iinc (v := x6 + 1) (lv' := [(6, .int (x6 + 1)), (5, .int 1), (7, .int r4), (0, .ref (ad h0)), (1, .int a1), (2, .int a2), (3, .int x3), (4, .int x4)]) hx hb dX10_kindsThatFit_84 hl (k := 7) rfl rfl (by decide) rfl (fun ls hl => ?_)
          refine lv_goto (tgt := 18) hx hb dX10_kindsThatFit_87 (by decide) ?_
          exact hY 18 [x3, x4, 1, x6 + 1] [] s6 hv _ _ rfl H locs ls hP hS (lv_sub hl [3, 4, 5, 6, 7, 1, 0] rfl)
set_option maxHeartbeats 4000000 in
theorem y_X10_kindsThatFit {p : Program} {l : Launch} {e : Env} {s : State} {m : MethodId} {args : Array Value} {below : List Frame} {meth : Method} {c : Code} {dC : Nat → ClassId} {dI : Nat → Nat → Nat} {ad : Nat → Nat} {cA cZ : ClassId} (hi : Inj 81 ad) (h0 : Nat) (a1 : Int32) (a2 : Int32) (hh0 : isRo h0) (C0 : Cx cX10_kindsThatFit RX10 wsX10_kindsThatFit 8 (some .int) p s m args meth c) (hK : KK dC dI cA cZ s) (Q : Int32 → St → Prop) : ∀ P xs ys σ, R_X10_kindsThatFit h0 a1 a2 Q P xs ys σ → XX p l e ({ frames := 2, cells := 0, slots := 0, locals := 48 } : Room) s m args below meth c (dC, dI) 81 ad (celC ad cA) 8 (ZI below args s (dC, dI) 81 ad (celC ad cA) Q) (lay_X10_kindsThatFit ad h0 a1 a2) P xs ys σ := by
  refine Fx.elim _ (fun P xs ys σ Y hY hB => ?_)
  rcases hB with ⟨rfl, x3, x4, rfl, rfl, hB⟩ | ⟨rfl, x3, x4, x5, x6, rfl, rfl, hB⟩
  · intro lv st he H locs ls hP hS hl
    cases he
    exact w_X10_kindsThatFit_5 hi h0 a1 a2 hh0 C0 hK Q Y hY x3 x4 σ hB hP hS hl
  · intro lv st he H locs ls hP hS hl
    cases he
    exact w_X10_kindsThatFit_18 hi h0 a1 a2 hh0 C0 hK Q Y hY x3 x4 x5 x6 σ hB hP hS hl
set_option maxHeartbeats 4000000 in
theorem c_X10_kindsThatFit {l : Launch} {dC : Nat → ClassId} {dI : Nat → Nat → Nat} {ad : Nat → Nat} {cA cZ : ClassId} (hi : Inj 81 ad) (h0 : Nat) (a1 : Int32) (a2 : Int32) (hh0 : isRo h0) (s0 : St) (Q : Int32 → St → Prop) (hv : V_X10_kindsThatFit h0 a1 a2 s0 Q) (sz : Nat) : Met l yX10_kindsThatFit wsX10_kindsThatFit ({ frames := 2, cells := 0, slots := 0, locals := 48 } : Room) (va_Pc [.ref (ad h0), .int a1, .int a2] (PW dC dI ad cA cZ 81 (celC ad cA) sz s0)) (va_Qi Q (fun u t => va_P (dC, dI) vwCl (wd 81 ad (celC ad cA) u) t.heap) (AA 81 ad sz)) 0 0 (AA 81 ad sz) := by
  refine Met.ofW (cc := cX10_kindsThatFit) (maxL := 8) (ret := (some .int)) (by decide) rfl ?_
  intro p e s m args below meth c s₁ B hml hv0
  obtain ⟨rfl, hsz, hP, hK⟩ := hv0
  subst hsz
  have C0 : Cx cX10_kindsThatFit RX10 wsX10_kindsThatFit 8 (some .int) p s m ([.ref (ad h0), .int a1, .int a2] : List Value).toArray meth c := ⟨B.exec, B.bytes, hml, findClass_of_methodNamed B.named, atoms_spec (ws := wsX10_kindsThatFit) B.pre, B.returns, B.notSynchronized⟩
  have hl := lv_entry ([.ref (ad h0), .int a1, .int a2]) (n := 8) (Nat.le_of_ble_eq_true rfl)
  rw [lg_entry_eq]
  generalize (lg_sl ([.ref (ad h0), .int a1, .int a2]) ++ List.replicate (8 - (lg_sl ([.ref (ad h0), .int a1, .int a2])).length) Slot.unset).toArray = ls at hl ⊢
  have hl : lv_has ls 8 [(0, .ref (ad h0)), (1, .int a1), (2, .int a2)] := hl
  exact w_X10_kindsThatFit_e hi h0 a1 a2 hh0 C0 hK Q (R_X10_kindsThatFit h0 a1 a2 Q) (y_X10_kindsThatFit hi h0 a1 a2 hh0 C0 hK Q)  s0 hv hP va_S.rf hl
def lay_X10_is (ad : Nat → Nat) (a1 : Int32) : Nat → List Int32 → List Int64 → Option (List (Nat × Value) × List Value) := fun P xs ys => match P, xs, ys with
  | _, _, _ => none
set_option maxHeartbeats 4000000 in
set_option maxRecDepth 100000 in
theorem w_X10_is_e {p : Program} {l : Launch} {e : Env} {s : State} {m : MethodId} {args : Array Value} {below : List Frame} {meth : Method} {c : Code} {dC : Nat → ClassId} {dI : Nat → Nat → Nat} {ad : Nat → Nat} {cA cZ : ClassId} (hi : Inj 81 ad) (a1 : Int32)  (C0 : Cx cX10_is RX10 wsX10_is 2 (some .int) p s m args meth c) (hK : KK dC dI cA cZ s) (Q : Int32 → St → Prop) (Y : Nat → List Int32 → List Int64 → St → Prop) (hY : ∀ P xs ys σ, Y P xs ys σ → XX p l e ({ frames := 3, cells := 0, slots := 0, locals := 75 } : Room) s m args below meth c (dC, dI) 81 ad (celC ad cA) 2 (ZI below args s (dC, dI) 81 ad (celC ad cA) Q) (lay_X10_is ad a1) P xs ys σ)  (s0 : St) (hv : B_X10_is_e a1 Q Y  s0) {H : Heap} {locs : List Loc} {ls : Array Slot} (hP : va_P (dC, dI) vwCl (wd 81 ad (celC ad cA) s0) H) (hS : va_S (AA 81 ad s.heap.size) s.heap H locs) (hl : lv_has ls 2 [(0, .ref (ad 0)), (1, .int a1)]) : W p l e ({ frames := 3, cells := 0, slots := 0, locals := 75 } : Room) s m args below meth c H locs 0 0 (ZI below args s (dC, dI) 81 ad (celC ad cA) Q) (F0 m 0 ls []) := by
  obtain ⟨hx, hb, hml, hown, hts, hr, hlocks⟩ := C0
  have hD := wd_D (s := s) (cel := celC ad cA) (σ := s0) hi
  unfold B_X10_is_e at hv
  refine lv_aload_n hx hb dX10_is_0 rfl (lv_at hl 0 rfl) ?_
  refine lv_iload_n hx hb dX10_is_1 rfl (lv_at hl 1 rfl) ?_
  refine r_ci (va_runV (As := [.int a1]) (rest := []) ⟨hx, hb, hml, hown, hts⟩ (c_X10_isGlove hi a1 s0 _ hv H.size) (cwV 1 hts gX10_is_X10_isGlove rfl rfl rfl (by decide +kernel) ⟨Nat.le_of_ble_eq_true rfl, Nat.le_of_ble_eq_true rfl⟩) ⟨pre_blind, r_recv hK.1 hP 0 (by decide) (ceGR_0 (s0 0)) rfl, pre_of hP hK⟩ rfl rfl hl.1 rfl (lv_room (Nat.le_of_ble_eq_true rfl)) dX10_is_2 ⟨Nat.zero_le _, Nat.zero_le _⟩) hS (fun r1 s1 H locs hv hP hS => ?_)
  obtain ⟨hz_r1, hv⟩ := hv
  have hD := wd_D (s := s) (cel := celC ad cA) (σ := s1) hi
  refine lv_if_eq (tgt := 23) hx hb dX10_is_5 (by decide) (fun c5 => ?_) (fun c5 => ?_)
  · have hv := hv.1 c5
    refine lv_aload_n hx hb dX10_is_23 rfl (lv_at hl 0 rfl) ?_
    refine r_ci (va_runV (As := []) (rest := []) ⟨hx, hb, hml, hown, hts⟩ (c_X10_bad hi  s1 _ hv H.size) (cwV 0 hts gX10_is_X10_bad rfl rfl rfl (by decide +kernel) ⟨Nat.le_of_ble_eq_true rfl, Nat.le_of_ble_eq_true rfl⟩) ⟨pre_blind, r_recv hK.1 hP 0 (by decide) (ceGR_0 (s1 0)) rfl, pre_of hP hK⟩ rfl rfl hl.1 rfl (lv_room (Nat.le_of_ble_eq_true rfl)) dX10_is_24 ⟨Nat.zero_le _, Nat.zero_le _⟩) hS (fun r2 s2 H locs hv hP hS => ?_)
    have hD := wd_D (s := s) (cel := celC ad cA) (σ := s2) hi
    exact r_iret hx hb hr hlocks hv hP hS dX10_is_27
  · have hv := hv.2 c5
    refine lv_aload_n hx hb dX10_is_8 rfl (lv_at hl 0 rfl) ?_
    refine r_get hx hb hts (iwX10_is_X10) hown hK.1 hP 0 (by decide) (ceGR_0 (s1 0)) rfl 0 (by decide) (hts _ kX10_is_1) (v := .ref (ad 1)) rfl dX10_is_9 ?_
    refine r_get hx hb hts (iwX10_is_X7) hown hK.1 hP 1 (ltSc_0 vSc_1) (ceSc_0 vSc_1 (s1 1)) rfl 3 (by decide) (hts _ kX10_is_2) (v := .ref (ad 15)) rfl dX10_is_12 ?_
    refine lv_iload_n hx hb dX10_is_15 rfl (lv_at hl 1 rfl) ?_
    refine lv_iconst (v := 1) hx hb dX10_is_16 (by decide) ?_
    refine r_ci (va_runS (As := [.ref (ad 15), .int a1, .int 1]) (rest := []) ⟨hx, hb, hml, hown, hts⟩ (c_X10_kindsThatFit hi 15 a1 1 (vSc14 vSc_1) s1 _ hv H.size) (va_cwS 3 hts gX10_is_X10_kindsThatFit rfl rfl rfl (by decide +kernel) ⟨Nat.le_of_ble_eq_true rfl, Nat.le_of_ble_eq_true rfl⟩) ⟨pre_blind, pre_of hP hK⟩ rfl rfl hl.1 rfl (lv_room (Nat.le_of_ble_eq_true rfl)) dX10_is_17 ⟨Nat.zero_le _, Nat.zero_le _⟩) hS (fun r3 s3 H locs hv hP hS => ?_)
    have hD := wd_D (s := s) (cel := celC ad cA) (σ := s3) hi
    refine lv_goto (tgt := 27) hx hb dX10_is_20 (by decide) ?_
    exact r_iret hx hb hr hlocks hv hP hS dX10_is_27
set_option maxHeartbeats 4000000 in
theorem y_X10_is {p : Program} {l : Launch} {e : Env} {s : State} {m : MethodId} {args : Array Value} {below : List Frame} {meth : Method} {c : Code} {dC : Nat → ClassId} {dI : Nat → Nat → Nat} {ad : Nat → Nat} {cA cZ : ClassId} (hi : Inj 81 ad) (a1 : Int32)  (C0 : Cx cX10_is RX10 wsX10_is 2 (some .int) p s m args meth c) (hK : KK dC dI cA cZ s) (Q : Int32 → St → Prop) : ∀ P xs ys σ, R_X10_is a1 Q P xs ys σ → XX p l e ({ frames := 3, cells := 0, slots := 0, locals := 75 } : Room) s m args below meth c (dC, dI) 81 ad (celC ad cA) 2 (ZI below args s (dC, dI) 81 ad (celC ad cA) Q) (lay_X10_is ad a1) P xs ys σ := by
  refine Fx.elim _ (fun P xs ys σ Y hY hB => ?_)
  exact hB.elim
set_option maxHeartbeats 4000000 in
theorem c_X10_is {l : Launch} {dC : Nat → ClassId} {dI : Nat → Nat → Nat} {ad : Nat → Nat} {cA cZ : ClassId} (hi : Inj 81 ad) (a1 : Int32)  (s0 : St) (Q : Int32 → St → Prop) (hv : V_X10_is a1 s0 Q) (sz : Nat) : Met l yX10_is wsX10_is ({ frames := 3, cells := 0, slots := 0, locals := 75 } : Room) (va_Pc [.ref (ad 0), .int a1] (PW dC dI ad cA cZ 81 (celC ad cA) sz s0)) (va_Qi Q (fun u t => va_P (dC, dI) vwCl (wd 81 ad (celC ad cA) u) t.heap) (AA 81 ad sz)) 0 0 (AA 81 ad sz) := by
  refine Met.ofW (cc := cX10_is) (maxL := 2) (ret := (some .int)) (by decide) rfl ?_
  intro p e s m args below meth c s₁ B hml hv0
  obtain ⟨rfl, hsz, hP, hK⟩ := hv0
  subst hsz
  have C0 : Cx cX10_is RX10 wsX10_is 2 (some .int) p s m ([.ref (ad 0), .int a1] : List Value).toArray meth c := ⟨B.exec, B.bytes, hml, findClass_of_methodNamed B.named, atoms_spec (ws := wsX10_is) B.pre, B.returns, B.notSynchronized⟩
  have hl := lv_entry ([.ref (ad 0), .int a1]) (n := 2) (Nat.le_of_ble_eq_true rfl)
  rw [lg_entry_eq]
  generalize (lg_sl ([.ref (ad 0), .int a1]) ++ List.replicate (2 - (lg_sl ([.ref (ad 0), .int a1])).length) Slot.unset).toArray = ls at hl ⊢
  have hl : lv_has ls 2 [(0, .ref (ad 0)), (1, .int a1)] := hl
  exact w_X10_is_e hi a1  C0 hK Q (R_X10_is a1 Q) (y_X10_is hi a1  C0 hK Q)  s0 hv hP va_S.rf hl
def lay_X10_nextLook (ad : Nat → Nat) (a1 : Int32) (a2 : Int32) : Nat → List Int32 → List Int64 → Option (List (Nat × Value) × List Value) := fun P xs ys => match P, xs, ys with
  | 11, [t0], [] => some ([(0, .ref (ad 0)), (1, .int a1), (2, .int a2)], [.int t0])
  | 21, [x3, t0], [] => some ([(0, .ref (ad 0)), (1, .int a1), (2, .int a2), (3, .int x3)], [.int t0])
  | 33, [x3, x4, t0], [] => some ([(0, .ref (ad 0)), (1, .int a1), (2, .int a2), (3, .int x3), (4, .int x4)], [.int t0])
  | 45, [x3, x4, x5, x6], [] => some ([(0, .ref (ad 0)), (1, .int a1), (2, .int a2), (3, .int x3), (4, .int x4), (5, .int x5), (6, .int x6)], [])
  | 55, [x3, x4, x5, x6, x7], [] => some ([(0, .ref (ad 0)), (1, .int a1), (2, .int a2), (3, .int x3), (4, .int x4), (5, .int x5), (6, .int x6), (7, .int x7)], [])
  | 72, [x3, x4, x5, x6, x7, x8], [] => some ([(0, .ref (ad 0)), (1, .int a1), (2, .int a2), (3, .int x3), (4, .int x4), (5, .int x5), (6, .int x6), (7, .int x7), (8, .int x8)], [])
  | _, _, _ => none
set_option maxHeartbeats 4000000 in
set_option maxRecDepth 100000 in
theorem w_X10_nextLook_e {p : Program} {l : Launch} {e : Env} {s : State} {m : MethodId} {args : Array Value} {below : List Frame} {meth : Method} {c : Code} {dC : Nat → ClassId} {dI : Nat → Nat → Nat} {ad : Nat → Nat} {cA cZ : ClassId} (hi : Inj 81 ad) (a1 : Int32) (a2 : Int32)  (C0 : Cx cX10_nextLook RX10 wsX10_nextLook 9 (some .int) p s m args meth c) (hK : KK dC dI cA cZ s) (Q : Int32 → St → Prop) (Y : Nat → List Int32 → List Int64 → St → Prop) (hY : ∀ P xs ys σ, Y P xs ys σ → XX p l e ({ frames := 2, cells := 0, slots := 0, locals := 48 } : Room) s m args below meth c (dC, dI) 81 ad (celC ad cA) 9 (ZI below args s (dC, dI) 81 ad (celC ad cA) Q) (lay_X10_nextLook ad a1 a2) P xs ys σ)  (s0 : St) (hv : B_X10_nextLook_e a1 a2 Q Y  s0) {H : Heap} {locs : List Loc} {ls : Array Slot} (hP : va_P (dC, dI) vwCl (wd 81 ad (celC ad cA) s0) H) (hS : va_S (AA 81 ad s.heap.size) s.heap H locs) (hl : lv_has ls 9 [(0, .ref (ad 0)), (1, .int a1), (2, .int a2)]) : W p l e ({ frames := 2, cells := 0, slots := 0, locals := 48 } : Room) s m args below meth c H locs 0 0 (ZI below args s (dC, dI) 81 ad (celC ad cA) Q) (F0 m 0 ls []) := by
  obtain ⟨hx, hb, hml, hown, hts, hr, hlocks⟩ := C0
  have hD := wd_D (s := s) (cel := celC ad cA) (σ := s0) hi
  unfold B_X10_nextLook_e at hv
  refine lv_iload_n hx hb dX10_nextLook_0 rfl (lv_at hl 2 rfl) ?_
  refine lv_if_eq (tgt := 9) hx hb dX10_nextLook_1 (by decide) (fun c1 => ?_) (fun c1 => ?_)
  · have hv := hv.1 c1
    refine lv_bipush (v := 24) hx hb dX10_nextLook_9 (by decide) ?_
    exact hY 11 [24] [] s0 hv _ _ rfl H locs ls hP hS (lv_sub hl [0, 1, 2] rfl)
  · have hv := hv.2 c1
    refine lv_bipush (v := 10) hx hb dX10_nextLook_4 (by decide) ?_
    refine lv_goto (tgt := 11) hx hb dX10_nextLook_6 (by decide) ?_
    exact hY 11 [10] [] s0 hv _ _ rfl H locs ls hP hS (lv_sub hl [0, 1, 2] rfl)
set_option maxHeartbeats 4000000 in
set_option maxRecDepth 100000 in
theorem w_X10_nextLook_11 {p : Program} {l : Launch} {e : Env} {s : State} {m : MethodId} {args : Array Value} {below : List Frame} {meth : Method} {c : Code} {dC : Nat → ClassId} {dI : Nat → Nat → Nat} {ad : Nat → Nat} {cA cZ : ClassId} (hi : Inj 81 ad) (a1 : Int32) (a2 : Int32)  (C0 : Cx cX10_nextLook RX10 wsX10_nextLook 9 (some .int) p s m args meth c) (hK : KK dC dI cA cZ s) (Q : Int32 → St → Prop) (Y : Nat → List Int32 → List Int64 → St → Prop) (hY : ∀ P xs ys σ, Y P xs ys σ → XX p l e ({ frames := 2, cells := 0, slots := 0, locals := 48 } : Room) s m args below meth c (dC, dI) 81 ad (celC ad cA) 9 (ZI below args s (dC, dI) 81 ad (celC ad cA) Q) (lay_X10_nextLook ad a1 a2) P xs ys σ) (t0 : Int32) (s0 : St) (hv : B_X10_nextLook_11 a1 a2 Q Y t0 s0) {H : Heap} {locs : List Loc} {ls : Array Slot} (hP : va_P (dC, dI) vwCl (wd 81 ad (celC ad cA) s0) H) (hS : va_S (AA 81 ad s.heap.size) s.heap H locs) (hl : lv_has ls 9 [(0, .ref (ad 0)), (1, .int a1), (2, .int a2)]) : W p l e ({ frames := 2, cells := 0, slots := 0, locals := 48 } : Room) s m args below meth c H locs 0 0 (ZI below args s (dC, dI) 81 ad (celC ad cA) Q) (F0 m 11 ls [.int t0]) := by
  obtain ⟨hx, hb, hml, hown, hts, hr, hlocks⟩ := C0
  have hD := wd_D (s := s) (cel := celC ad cA) (σ := s0) hi
  unfold B_X10_nextLook_11 at hv
  refine lv_istore_n (lv' := [(3, .int t0), (0, .ref (ad 0)), (1, .int a1), (2, .int a2)]) hx hb dX10_nextLook_11 rfl hl (by decide) rfl (fun ls hl => ?_)
  refine lv_iload_n hx hb dX10_nextLook_12 rfl (lv_at hl 3 rfl) ?_
  refine lv_if_eq (tgt := 20) hx hb dX10_nextLook_13 (by decide) (fun c13 => ?_) (fun c13 => ?_)
  · have hv := hv.1 c13
    refine lv_iconst (v := 1) hx hb dX10_nextLook_20 (by decide) ?_
    exact hY 21 [t0, 1] [] s0 hv _ _ rfl H locs ls hP hS (lv_sub hl [1, 2, 3, 0] rfl)
  · have hv := hv.2 c13
    refine lv_iconst (v := 0) hx hb dX10_nextLook_16 (by decide) ?_
    refine lv_goto (tgt := 21) hx hb dX10_nextLook_17 (by decide) ?_
    exact hY 21 [t0, 0] [] s0 hv _ _ rfl H locs ls hP hS (lv_sub hl [1, 2, 3, 0] rfl)
set_option maxHeartbeats 4000000 in
set_option maxRecDepth 100000 in
theorem w_X10_nextLook_21 {p : Program} {l : Launch} {e : Env} {s : State} {m : MethodId} {args : Array Value} {below : List Frame} {meth : Method} {c : Code} {dC : Nat → ClassId} {dI : Nat → Nat → Nat} {ad : Nat → Nat} {cA cZ : ClassId} (hi : Inj 81 ad) (a1 : Int32) (a2 : Int32)  (C0 : Cx cX10_nextLook RX10 wsX10_nextLook 9 (some .int) p s m args meth c) (hK : KK dC dI cA cZ s) (Q : Int32 → St → Prop) (Y : Nat → List Int32 → List Int64 → St → Prop) (hY : ∀ P xs ys σ, Y P xs ys σ → XX p l e ({ frames := 2, cells := 0, slots := 0, locals := 48 } : Room) s m args below meth c (dC, dI) 81 ad (celC ad cA) 9 (ZI below args s (dC, dI) 81 ad (celC ad cA) Q) (lay_X10_nextLook ad a1 a2) P xs ys σ) (x3 : Int32) (t0 : Int32) (s0 : St) (hv : B_X10_nextLook_21 a1 a2 Q Y x3 t0 s0) {H : Heap} {locs : List Loc} {ls : Array Slot} (hP : va_P (dC, dI) vwCl (wd 81 ad (celC ad cA) s0) H) (hS : va_S (AA 81 ad s.heap.size) s.heap H locs) (hl : lv_has ls 9 [(0, .ref (ad 0)), (1, .int a1), (2, .int a2), (3, .int x3)]) : W p l e ({ frames := 2, cells := 0, slots := 0, locals := 48 } : Room) s m args below meth c H locs 0 0 (ZI below args s (dC, dI) 81 ad (celC ad cA) Q) (F0 m 21 ls [.int t0]) := by
  obtain ⟨hx, hb, hml, hown, hts, hr, hlocks⟩ := C0
  have hD := wd_D (s := s) (cel := celC ad cA) (σ := s0) hi
  unfold B_X10_nextLook_21 at hv
  refine lv_istore (lv' := [(4, .int t0), (0, .ref (ad 0)), (1, .int a1), (2, .int a2), (3, .int x3)]) hx hb dX10_nextLook_21 hl (by decide) rfl (fun ls hl => ?_)
  refine lv_iload_n hx hb dX10_nextLook_23 rfl (lv_at hl 3 rfl) ?_
  refine lv_if_eq (tgt := 31) hx hb dX10_nextLook_24 (by decide) (fun c24 => ?_) (fun c24 => ?_)
  · have hv := hv.1 c24
    refine lv_bipush (v := 7) hx hb dX10_nextLook_31 (by decide) ?_
    exact hY 33 [x3, t0, 7] [] s0 hv _ _ rfl H locs ls hP hS (lv_sub hl [1, 2, 3, 4, 0] rfl)
  · have hv := hv.2 c24
    refine lv_iconst (v := 4) hx hb dX10_nextLook_27 (by decide) ?_
    refine lv_goto (tgt := 33) hx hb dX10_nextLook_28 (by decide) ?_
    exact hY 33 [x3, t0, 4] [] s0 hv _ _ rfl H locs ls hP hS (lv_sub hl [1, 2, 3, 4, 0] rfl)
set_option maxHeartbeats 4000000 in
set_option maxRecDepth 100000 in
theorem w_X10_nextLook_33 {p : Program} {l : Launch} {e : Env} {s : State} {m : MethodId} {args : Array Value} {below : List Frame} {meth : Method} {c : Code} {dC : Nat → ClassId} {dI : Nat → Nat → Nat} {ad : Nat → Nat} {cA cZ : ClassId} (hi : Inj 81 ad) (a1 : Int32) (a2 : Int32)  (C0 : Cx cX10_nextLook RX10 wsX10_nextLook 9 (some .int) p s m args meth c) (hK : KK dC dI cA cZ s) (Q : Int32 → St → Prop) (Y : Nat → List Int32 → List Int64 → St → Prop) (hY : ∀ P xs ys σ, Y P xs ys σ → XX p l e ({ frames := 2, cells := 0, slots := 0, locals := 48 } : Room) s m args below meth c (dC, dI) 81 ad (celC ad cA) 9 (ZI below args s (dC, dI) 81 ad (celC ad cA) Q) (lay_X10_nextLook ad a1 a2) P xs ys σ) (x3 : Int32) (x4 : Int32) (t0 : Int32) (s0 : St) (hv : B_X10_nextLook_33 a1 a2 Q Y x3 x4 t0 s0) {H : Heap} {locs : List Loc} {ls : Array Slot} (hP : va_P (dC, dI) vwCl (wd 81 ad (celC ad cA) s0) H) (hS : va_S (AA 81 ad s.heap.size) s.heap H locs) (hl : lv_has ls 9 [(0, .ref (ad 0)), (1, .int a1), (2, .int a2), (3, .int x3), (4, .int x4)]) : W p l e ({ frames := 2, cells := 0, slots := 0, locals := 48 } : Room) s m args below meth c H locs 0 0 (ZI below args s (dC, dI) 81 ad (celC ad cA) Q) (F0 m 33 ls [.int t0]) := by
  obtain ⟨hx, hb, hml, hown, hts, hr, hlocks⟩ := C0
  have hD := wd_D (s := s) (cel := celC ad cA) (σ := s0) hi
  unfold B_X10_nextLook_33 at hv
  refine lv_istore (lv' := [(5, .int t0), (0, .ref (ad 0)), (1, .int a1), (2, .int a2), (3, .int x3), (4, .int x4)]) hx hb dX10_nextLook_33 hl (by decide) rfl (fun ls hl => ?_)
  refine lv_aload_n hx hb dX10_nextLook_35 rfl (lv_at hl 1 rfl) ?_
  refine r_get hx hb hts (iwX10_nextLook_X10) hown hK.1 hP 0 (by decide) (ceGR_0 (s0 0)) rfl 5 (by decide) (hts _ kX10_nextLook_1) (v := .ref (ad 67)) rfl dX10_nextLook_36 ?_
  refine r_cv (va_runV (As := []) (rest := []) ⟨hx, hb, hml, hown, hts⟩ (c_X3_begin hi  s0 _ hv H.size) (cwV 0 hts gX10_nextLook_X3_begin rfl rfl rfl (by decide +kernel) ⟨Nat.le_of_ble_eq_true rfl, Nat.le_of_ble_eq_true rfl⟩) ⟨pre_blind, r_recv hK.1 hP 67 (by decide) (cePt_0 (s0 67)) rfl, pre_of hP hK⟩ rfl rfl hl.1 rfl (lv_room (Nat.le_of_ble_eq_true rfl)) dX10_nextLook_39 ⟨Nat.zero_le _, Nat.zero_le _⟩) hS (fun s1 H locs hv hP hS => ?_)
  have hD := wd_D (s := s) (cel := celC ad cA) (σ := s1) hi
  refine lv_iconst (v := 0) hx hb dX10_nextLook_42 (by decide) ?_
  refine lv_istore (lv' := [(6, .int 0), (5, .int t0), (0, .ref (ad 0)), (1, .int a1), (2, .int a2), (3, .int x3), (4, .int x4)]) hx hb dX10_nextLook_43 hl (by decide) rfl (fun ls hl => ?_)
  exact hY 45 [x3, x4, t0, 0] [] s1 hv _ _ rfl H locs ls hP hS (lv_sub hl [2, 3, 4, 5, 6, 1, 0] rfl)
set_option maxHeartbeats 4000000 in
set_option maxRecDepth 100000 in
theorem w_X10_nextLook_45 {p : Program} {l : Launch} {e : Env} {s : State} {m : MethodId} {args : Array Value} {below : List Frame} {meth : Method} {c : Code} {dC : Nat → ClassId} {dI : Nat → Nat → Nat} {ad : Nat → Nat} {cA cZ : ClassId} (hi : Inj 81 ad) (a1 : Int32) (a2 : Int32)  (C0 : Cx cX10_nextLook RX10 wsX10_nextLook 9 (some .int) p s m args meth c) (hK : KK dC dI cA cZ s) (Q : Int32 → St → Prop) (Y : Nat → List Int32 → List Int64 → St → Prop) (hY : ∀ P xs ys σ, Y P xs ys σ → XX p l e ({ frames := 2, cells := 0, slots := 0, locals := 48 } : Room) s m args below meth c (dC, dI) 81 ad (celC ad cA) 9 (ZI below args s (dC, dI) 81 ad (celC ad cA) Q) (lay_X10_nextLook ad a1 a2) P xs ys σ) (x3 : Int32) (x4 : Int32) (x5 : Int32) (x6 : Int32) (s0 : St) (hv : B_X10_nextLook_45 a1 a2 Q Y x3 x4 x5 x6 s0) {H : Heap} {locs : List Loc} {ls : Array Slot} (hP : va_P (dC, dI) vwCl (wd 81 ad (celC ad cA) s0) H) (hS : va_S (AA 81 ad s.heap.size) s.heap H locs) (hl : lv_has ls 9 [(0, .ref (ad 0)), (1, .int a1), (2, .int a2), (3, .int x3), (4, .int x4), (5, .int x5), (6, .int x6)]) : W p l e ({ frames := 2, cells := 0, slots := 0, locals := 48 } : Room) s m args below meth c H locs 0 0 (ZI below args s (dC, dI) 81 ad (celC ad cA) Q) (F0 m 45 ls []) := by
  obtain ⟨hx, hb, hml, hown, hts, hr, hlocks⟩ := C0
  have hD := wd_D (s := s) (cel := celC ad cA) (σ := s0) hi
  unfold B_X10_nextLook_45 at hv
  refine lv_iload hx hb dX10_nextLook_45 (lv_at hl 6 rfl) ?_
  refine lv_iload_n hx hb dX10_nextLook_47 rfl (lv_at hl 3 rfl) ?_
  refine lv_icmp_ge (tgt := 139) hx hb dX10_nextLook_48 (by decide) (fun c48 => ?_) (fun c48 => ?_)
  · have hv := hv.1 c48
    refine lv_aload_n hx hb dX10_nextLook_139 rfl (lv_at hl 0 rfl) ?_
    refine r_get hx hb hts (iwX10_nextLook_X10) hown hK.1 hP 0 (by decide) (ceGR_0 (s0 0)) rfl 5 (by decide) (hts _ kX10_nextLook_1) (v := .ref (ad 67)) rfl dX10_nextLook_140 ?_
    refine r_get hx hb hts (iwX10_nextLook_X3) hown hK.1 hP 67 (by decide) (cePt_0 (s0 67)) rfl 3 (by decide) (hts _ kX10_nextLook_2) (v := .int (s0 67 3)) rfl dX10_nextLook_143 ?_
    exact r_iret hx hb hr hlocks hv hP hS dX10_nextLook_146
  · have hv := hv.2 c48
    refine lv_iload hx hb dX10_nextLook_51 (lv_at hl 4 rfl) ?_
    refine lv_istore (lv' := [(7, .int x4), (0, .ref (ad 0)), (1, .int a1), (2, .int a2), (3, .int x3), (4, .int x4), (5, .int x5), (6, .int x6)]) hx hb dX10_nextLook_53 hl (by decide) rfl (fun ls hl => ?_)
    exact hY 55 [x3, x4, x5, x6, x4] [] s0 hv _ _ rfl H locs ls hP hS (lv_sub hl [1, 2, 3, 4, 5, 6, 7, 0] rfl)
set_option maxHeartbeats 4000000 in
set_option maxRecDepth 100000 in
theorem w_X10_nextLook_55 {p : Program} {l : Launch} {e : Env} {s : State} {m : MethodId} {args : Array Value} {below : List Frame} {meth : Method} {c : Code} {dC : Nat → ClassId} {dI : Nat → Nat → Nat} {ad : Nat → Nat} {cA cZ : ClassId} (hi : Inj 81 ad) (a1 : Int32) (a2 : Int32)  (C0 : Cx cX10_nextLook RX10 wsX10_nextLook 9 (some .int) p s m args meth c) (hK : KK dC dI cA cZ s) (Q : Int32 → St → Prop) (Y : Nat → List Int32 → List Int64 → St → Prop) (hY : ∀ P xs ys σ, Y P xs ys σ → XX p l e ({ frames := 2, cells := 0, slots := 0, locals := 48 } : Room) s m args below meth c (dC, dI) 81 ad (celC ad cA) 9 (ZI below args s (dC, dI) 81 ad (celC ad cA) Q) (lay_X10_nextLook ad a1 a2) P xs ys σ) (x3 : Int32) (x4 : Int32) (x5 : Int32) (x6 : Int32) (x7 : Int32) (s0 : St) (hv : B_X10_nextLook_55 a1 a2 Q Y x3 x4 x5 x6 x7 s0) {H : Heap} {locs : List Loc} {ls : Array Slot} (hP : va_P (dC, dI) vwCl (wd 81 ad (celC ad cA) s0) H) (hS : va_S (AA 81 ad s.heap.size) s.heap H locs) (hl : lv_has ls 9 [(0, .ref (ad 0)), (1, .int a1), (2, .int a2), (3, .int x3), (4, .int x4), (5, .int x5), (6, .int x6), (7, .int x7)]) : W p l e ({ frames := 2, cells := 0, slots := 0, locals := 48 } : Room) s m args below meth c H locs 0 0 (ZI below args s (dC, dI) 81 ad (celC ad cA) Q) (F0 m 55 ls []) := by
  obtain ⟨hx, hb, hml, hown, hts, hr, hlocks⟩ := C0
  have hD := wd_D (s := s) (cel := celC ad cA) (σ := s0) hi
  unfold B_X10_nextLook_55 at hv
  refine lv_iload hx hb dX10_nextLook_55 (lv_at hl 7 rfl) ?_
  refine lv_iload hx hb dX10_nextLook_57 (lv_at hl 5 rfl) ?_
  refine lv_icmp_gt (tgt := 133) hx hb dX10_nextLook_59 (by decide) (fun c59 => ?_) (fun c59 => ?_)
  · have hv := hv.1 c59
    refine lv_iinc (v := x6 + 1) (lv' := [(6, .int (x6 + 1)), (0, .ref (ad 0)), (1, .int a1), (2, .int a2), (3, .int x3), (4, .int x4), (5, .int x5), (7, .int x7)]) hx hb dX10_nextLook_133 hl (k := 6) rfl rfl (by decide) rfl (fun ls hl => ?_)
    refine lv_goto (tgt := 45) hx hb dX10_nextLook_136 (by decide) ?_
    exact hY 45 [x3, x4, x5, x6 + 1] [] s0 hv _ _ rfl H locs ls hP hS (lv_sub hl [1, 2, 3, 4, 5, 6, 0] rfl)
  · have hv := hv.2 c59
    refine lv_aload_n hx hb dX10_nextLook_62 rfl (lv_at hl 0 rfl) ?_
    refine r_get hx hb hts (iwX10_nextLook_X10) hown hK.1 hP 0 (by decide) (ceGR_0 (s0 0)) rfl 5 (by decide) (hts _ kX10_nextLook_1) (v := .ref (ad 67)) rfl dX10_nextLook_63 ?_
    refine r_cv (va_runV (As := []) (rest := []) ⟨hx, hb, hml, hown, hts⟩ (c_X3_empty hi  s0 _ hv H.size) (cwV 0 hts gX10_nextLook_X3_empty rfl rfl rfl (by decide +kernel) ⟨Nat.le_of_ble_eq_true rfl, Nat.le_of_ble_eq_true rfl⟩) ⟨pre_blind, r_recv hK.1 hP 67 (by decide) (cePt_0 (s0 67)) rfl, pre_of hP hK⟩ rfl rfl hl.1 rfl (lv_room (Nat.le_of_ble_eq_true rfl)) dX10_nextLook_66 ⟨Nat.zero_le _, Nat.zero_le _⟩) hS (fun s1 H locs hv hP hS => ?_)
    have hD := wd_D (s := s) (cel := celC ad cA) (σ := s1) hi
    refine lv_iconst (v := 0) hx hb dX10_nextLook_69 (by decide) ?_
    refine lv_istore (lv' := [(8, .int 0), (0, .ref (ad 0)), (1, .int a1), (2, .int a2), (3, .int x3), (4, .int x4), (5, .int x5), (6, .int x6), (7, .int x7)]) hx hb dX10_nextLook_70 hl (by decide) rfl (fun ls hl => ?_)
    exact hY 72 [x3, x4, x5, x6, x7, 0] [] s1 hv _ _ rfl H locs ls hP hS (lv_sub hl [1, 2, 3, 4, 5, 6, 7, 8, 0] rfl)
set_option maxHeartbeats 4000000 in
set_option maxRecDepth 100000 in
theorem w_X10_nextLook_72 {p : Program} {l : Launch} {e : Env} {s : State} {m : MethodId} {args : Array Value} {below : List Frame} {meth : Method} {c : Code} {dC : Nat → ClassId} {dI : Nat → Nat → Nat} {ad : Nat → Nat} {cA cZ : ClassId} (hi : Inj 81 ad) (a1 : Int32) (a2 : Int32)  (C0 : Cx cX10_nextLook RX10 wsX10_nextLook 9 (some .int) p s m args meth c) (hK : KK dC dI cA cZ s) (Q : Int32 → St → Prop) (Y : Nat → List Int32 → List Int64 → St → Prop) (hY : ∀ P xs ys σ, Y P xs ys σ → XX p l e ({ frames := 2, cells := 0, slots := 0, locals := 48 } : Room) s m args below meth c (dC, dI) 81 ad (celC ad cA) 9 (ZI below args s (dC, dI) 81 ad (celC ad cA) Q) (lay_X10_nextLook ad a1 a2) P xs ys σ) (x3 : Int32) (x4 : Int32) (x5 : Int32) (x6 : Int32) (x7 : Int32) (x8 : Int32) (s0 : St) (hv : B_X10_nextLook_72 a1 a2 Q Y x3 x4 x5 x6 x7 x8 s0) {H : Heap} {locs : List Loc} {ls : Array Slot} (hP : va_P (dC, dI) vwCl (wd 81 ad (celC ad cA) s0) H) (hS : va_S (AA 81 ad s.heap.size) s.heap H locs) (hl : lv_has ls 9 [(0, .ref (ad 0)), (1, .int a1), (2, .int a2), (3, .int x3), (4, .int x4), (5, .int x5), (6, .int x6), (7, .int x7), (8, .int x8)]) : W p l e ({ frames := 2, cells := 0, slots := 0, locals := 48 } : Room) s m args below meth c H locs 0 0 (ZI below args s (dC, dI) 81 ad (celC ad cA) Q) (F0 m 72 ls []) := by
  obtain ⟨hx, hb, hml, hown, hts, hr, hlocks⟩ := C0
  have hD := wd_D (s := s) (cel := celC ad cA) (σ := s0) hi
  unfold B_X10_nextLook_72 at hv
  refine lv_iload hx hb dX10_nextLook_72 (lv_at hl 8 rfl) ?_
  refine lv_bipush (v := 6) hx hb dX10_nextLook_74 (by decide) ?_
  refine lv_icmp_ge (tgt := 112) hx hb dX10_nextLook_76 (by decide) (fun c76 => ?_) (fun c76 => ?_)
  · have hv := hv.1 c76
    refine lv_aload_n hx hb dX10_nextLook_112 rfl (lv_at hl 0 rfl) ?_
    refine r_get hx hb hts (iwX10_nextLook_X10) hown hK.1 hP 0 (by decide) (ceGR_0 (s0 0)) rfl 5 (by decide) (hts _ kX10_nextLook_1) (v := .ref (ad 67)) rfl dX10_nextLook_113 ?_
    refine lv_bipush (v := 10) hx hb dX10_nextLook_116 (by decide) ?_
    refine lv_iload hx hb dX10_nextLook_118 (lv_at hl 6 rfl) ?_
    refine lv_imul hx hb dX10_nextLook_120 ?_
    refine lv_iload hx hb dX10_nextLook_121 (lv_at hl 7 rfl) ?_
    refine lv_iadd hx hb dX10_nextLook_123 ?_
    refine r_cv (va_runV (As := [.int ((10 * x6) + x7)]) (rest := []) ⟨hx, hb, hml, hown, hts⟩ (c_X3_offer hi ((10 * x6) + x7) s0 _ hv H.size) (cwV 1 hts gX10_nextLook_X3_offer rfl rfl rfl (by decide +kernel) ⟨Nat.le_of_ble_eq_true rfl, Nat.le_of_ble_eq_true rfl⟩) ⟨pre_blind, r_recv hK.1 hP 67 (by decide) (cePt_0 (s0 67)) rfl, pre_of hP hK⟩ rfl rfl hl.1 rfl (lv_room (Nat.le_of_ble_eq_true rfl)) dX10_nextLook_124 ⟨Nat.zero_le _, Nat.zero_le _⟩) hS (fun s1 H locs hv hP hS => ?_)
    have hD := wd_D (s := s) (cel := celC ad cA) (σ := s1) hi
    refine lv_iinc (v := x7 + 1) (lv' := [(7, .int (x7 + 1)), (0, .ref (ad 0)), (1, .int a1), (2, .int a2), (3, .int x3), (4, .int x4), (5, .int x5), (6, .int x6), (8, .int x8)]) hx hb dX10_nextLook_127 hl (k := 7) rfl rfl (by decide) rfl (fun ls hl => ?_)
    refine lv_goto (tgt := 55) hx hb dX10_nextLook_130 (by decide) ?_
    exact hY 55 [x3, x4, x5, x6, x7 + 1] [] s1 hv _ _ rfl H locs ls hP hS (lv_sub hl [1, 2, 3, 4, 5, 6, 7, 0] rfl)
  · have hv := hv.2 c76
    refine lv_iload_n hx hb dX10_nextLook_79 rfl (lv_at hl 1 rfl) ?_
    refine lv_iload hx hb dX10_nextLook_80 (lv_at hl 8 rfl) ?_
    refine lv_ishr hx hb dX10_nextLook_82 ?_
    refine lv_iconst (v := 1) hx hb dX10_nextLook_83 (by decide) ?_
    refine lv_iand hx hb dX10_nextLook_84 ?_
    refine lv_iconst (v := 1) hx hb dX10_nextLook_85 (by decide) ?_
    refine lv_icmp_ne (tgt := 106) hx hb dX10_nextLook_86 (by decide) (fun c86 => ?_) (fun c86 => ?_)
    · have hv := hv.1 c86
      refine lv_iinc (v := x8 + 1) (lv' := [(8, .int (x8 + 1)), (0, .ref (ad 0)), (1, .int a1), (2, .int a2), (3, .int x3), (4, .int x4), (5, .int x5), (6, .int x6), (7, .int x7)]) hx hb dX10_nextLook_106 hl (k := 8) rfl rfl (by decide) rfl (fun ls hl => ?_)
      refine lv_goto (tgt := 72) hx hb dX10_nextLook_109 (by decide) ?_
      exact hY 72 [x3, x4, x5, x6, x7, x8 + 1] [] s0 hv _ _ rfl H locs ls hP hS (lv_sub hl [1, 2, 3, 4, 5, 6, 7, 8, 0] rfl)
    · have hv := hv.2 c86
      refine lv_aload_n hx hb dX10_nextLook_89 rfl (lv_at hl 0 rfl) ?_
      refine r_get hx hb hts (iwX10_nextLook_X10) hown hK.1 hP 0 (by decide) (ceGR_0 (s0 0)) rfl 5 (by decide) (hts _ kX10_nextLook_1) (v := .ref (ad 67)) rfl dX10_nextLook_90 ?_
      refine lv_iload_n hx hb dX10_nextLook_93 rfl (lv_at hl 2 rfl) ?_
      refine lv_iload hx hb dX10_nextLook_94 (lv_at hl 8 rfl) ?_
      refine lv_iload hx hb dX10_nextLook_96 (lv_at hl 6 rfl) ?_
      refine lv_iload hx hb dX10_nextLook_98 (lv_at hl 7 rfl) ?_
      refine r_ci (va_runS (As := [.int a2, .int x8, .int x6, .int x7]) (rest := [.ref (ad 67)]) ⟨hx, hb, hml, hown, hts⟩ (c_X1_says hi a2 x8 x6 x7 s0 _ hv H.size) (va_cwS 4 hts gX10_nextLook_X1_says rfl rfl rfl (by decide +kernel) ⟨Nat.le_of_ble_eq_true rfl, Nat.le_of_ble_eq_true rfl⟩) ⟨pre_blind, pre_of hP hK⟩ rfl rfl hl.1 rfl (lv_room (Nat.le_of_ble_eq_true rfl)) dX10_nextLook_100 ⟨Nat.zero_le _, Nat.zero_le _⟩) hS (fun r2 s2 H locs hv hP hS => ?_)
      have hD := wd_D (s := s) (cel := celC ad cA) (σ := s2) hi
      refine r_cv (va_runV (As := [.int r2]) (rest := []) ⟨hx, hb, hml, hown, hts⟩ (c_X3_add hi r2 s2 _ hv H.size) (cwV 1 hts gX10_nextLook_X3_add rfl rfl rfl (by decide +kernel) ⟨Nat.le_of_ble_eq_true rfl, Nat.le_of_ble_eq_true rfl⟩) ⟨pre_blind, r_recv hK.1 hP 67 (by decide) (cePt_0 (s2 67)) rfl, pre_of hP hK⟩ rfl rfl hl.1 rfl (lv_room (Nat.le_of_ble_eq_true rfl)) dX10_nextLook_103 ⟨Nat.zero_le _, Nat.zero_le _⟩) hS (fun s3 H locs hv hP hS => ?_)
      have hD := wd_D (s := s) (cel := celC ad cA) (σ := s3) hi
      refine lv_iinc (v := x8 + 1) (lv' := [(8, .int (x8 + 1)), (0, .ref (ad 0)), (1, .int a1), (2, .int a2), (3, .int x3), (4, .int x4), (5, .int x5), (6, .int x6), (7, .int x7)]) hx hb dX10_nextLook_106 hl (k := 8) rfl rfl (by decide) rfl (fun ls hl => ?_)
      refine lv_goto (tgt := 72) hx hb dX10_nextLook_109 (by decide) ?_
      exact hY 72 [x3, x4, x5, x6, x7, x8 + 1] [] s3 hv _ _ rfl H locs ls hP hS (lv_sub hl [1, 2, 3, 4, 5, 6, 7, 8, 0] rfl)
set_option maxHeartbeats 4000000 in
theorem y_X10_nextLook {p : Program} {l : Launch} {e : Env} {s : State} {m : MethodId} {args : Array Value} {below : List Frame} {meth : Method} {c : Code} {dC : Nat → ClassId} {dI : Nat → Nat → Nat} {ad : Nat → Nat} {cA cZ : ClassId} (hi : Inj 81 ad) (a1 : Int32) (a2 : Int32)  (C0 : Cx cX10_nextLook RX10 wsX10_nextLook 9 (some .int) p s m args meth c) (hK : KK dC dI cA cZ s) (Q : Int32 → St → Prop) : ∀ P xs ys σ, R_X10_nextLook a1 a2 Q P xs ys σ → XX p l e ({ frames := 2, cells := 0, slots := 0, locals := 48 } : Room) s m args below meth c (dC, dI) 81 ad (celC ad cA) 9 (ZI below args s (dC, dI) 81 ad (celC ad cA) Q) (lay_X10_nextLook ad a1 a2) P xs ys σ := by
  refine Fx.elim _ (fun P xs ys σ Y hY hB => ?_)
  rcases hB with ⟨rfl, t0, rfl, rfl, hB⟩ | ⟨rfl, x3, t0, rfl, rfl, hB⟩ | ⟨rfl, x3, x4, t0, rfl, rfl, hB⟩ | ⟨rfl, x3, x4, x5, x6, rfl, rfl, hB⟩ | ⟨rfl, x3, x4, x5, x6, x7, rfl, rfl, hB⟩ | ⟨rfl, x3, x4, x5, x6, x7, x8, rfl, rfl, hB⟩
  · intro lv st he H locs ls hP hS hl
    cases he
    exact w_X10_nextLook_11 hi a1 a2  C0 hK Q Y hY t0 σ hB hP hS hl
  · intro lv st he H locs ls hP hS hl
    cases he
    exact w_X10_nextLook_21 hi a1 a2  C0 hK Q Y hY x3 t0 σ hB hP hS hl
  · intro lv st he H locs ls hP hS hl
    cases he
    exact w_X10_nextLook_33 hi a1 a2  C0 hK Q Y hY x3 x4 t0 σ hB hP hS hl
  · intro lv st he H locs ls hP hS hl
    cases he
    exact w_X10_nextLook_45 hi a1 a2  C0 hK Q Y hY x3 x4 x5 x6 σ hB hP hS hl
  · intro lv st he H locs ls hP hS hl
    cases he
    exact w_X10_nextLook_55 hi a1 a2  C0 hK Q Y hY x3 x4 x5 x6 x7 σ hB hP hS hl
  · intro lv st he H locs ls hP hS hl
    cases he
    exact w_X10_nextLook_72 hi a1 a2  C0 hK Q Y hY x3 x4 x5 x6 x7 x8 σ hB hP hS hl
set_option maxHeartbeats 4000000 in
theorem c_X10_nextLook {l : Launch} {dC : Nat → ClassId} {dI : Nat → Nat → Nat} {ad : Nat → Nat} {cA cZ : ClassId} (hi : Inj 81 ad) (a1 : Int32) (a2 : Int32)  (s0 : St) (Q : Int32 → St → Prop) (hv : V_X10_nextLook a1 a2 s0 Q) (sz : Nat) : Met l yX10_nextLook wsX10_nextLook ({ frames := 2, cells := 0, slots := 0, locals := 48 } : Room) (va_Pc [.ref (ad 0), .int a1, .int a2] (PW dC dI ad cA cZ 81 (celC ad cA) sz s0)) (va_Qi Q (fun u t => va_P (dC, dI) vwCl (wd 81 ad (celC ad cA) u) t.heap) (AA 81 ad sz)) 0 0 (AA 81 ad sz) := by
  refine Met.ofW (cc := cX10_nextLook) (maxL := 9) (ret := (some .int)) (by decide) rfl ?_
  intro p e s m args below meth c s₁ B hml hv0
  obtain ⟨rfl, hsz, hP, hK⟩ := hv0
  subst hsz
  have C0 : Cx cX10_nextLook RX10 wsX10_nextLook 9 (some .int) p s m ([.ref (ad 0), .int a1, .int a2] : List Value).toArray meth c := ⟨B.exec, B.bytes, hml, findClass_of_methodNamed B.named, atoms_spec (ws := wsX10_nextLook) B.pre, B.returns, B.notSynchronized⟩
  have hl := lv_entry ([.ref (ad 0), .int a1, .int a2]) (n := 9) (Nat.le_of_ble_eq_true rfl)
  rw [lg_entry_eq]
  generalize (lg_sl ([.ref (ad 0), .int a1, .int a2]) ++ List.replicate (9 - (lg_sl ([.ref (ad 0), .int a1, .int a2])).length) Slot.unset).toArray = ls at hl ⊢
  have hl : lv_has ls 9 [(0, .ref (ad 0)), (1, .int a1), (2, .int a2)] := hl
  exact w_X10_nextLook_e hi a1 a2  C0 hK Q (R_X10_nextLook a1 a2 Q) (y_X10_nextLook hi a1 a2  C0 hK Q)  s0 hv hP va_S.rf hl
def lay_X10_look (ad : Nat → Nat) (a1 : Int32) : Nat → List Int32 → List Int64 → Option (List (Nat × Value) × List Value) := fun P xs ys => match P, xs, ys with
  | _, _, _ => none
set_option maxHeartbeats 4000000 in
set_option maxRecDepth 100000 in
theorem w_X10_look_e {p : Program} {l : Launch} {e : Env} {s : State} {m : MethodId} {args : Array Value} {below : List Frame} {meth : Method} {c : Code} {dC : Nat → ClassId} {dI : Nat → Nat → Nat} {ad : Nat → Nat} {cA cZ : ClassId} (hi : Inj 81 ad) (a1 : Int32)  (C0 : Cx cX10_look RX10 wsX10_look 2 (some .int) p s m args meth c) (hK : KK dC dI cA cZ s) (Q : Int32 → St → Prop) (Y : Nat → List Int32 → List Int64 → St → Prop) (hY : ∀ P xs ys σ, Y P xs ys σ → XX p l e ({ frames := 3, cells := 0, slots := 0, locals := 76 } : Room) s m args below meth c (dC, dI) 81 ad (celC ad cA) 2 (ZI below args s (dC, dI) 81 ad (celC ad cA) Q) (lay_X10_look ad a1) P xs ys σ)  (s0 : St) (hv : B_X10_look_e a1 Q Y  s0) {H : Heap} {locs : List Loc} {ls : Array Slot} (hP : va_P (dC, dI) vwCl (wd 81 ad (celC ad cA) s0) H) (hS : va_S (AA 81 ad s.heap.size) s.heap H locs) (hl : lv_has ls 2 [(0, .ref (ad 0)), (1, .int a1)]) : W p l e ({ frames := 3, cells := 0, slots := 0, locals := 76 } : Room) s m args below meth c H locs 0 0 (ZI below args s (dC, dI) 81 ad (celC ad cA) Q) (F0 m 0 ls []) := by
  obtain ⟨hx, hb, hml, hown, hts, hr, hlocks⟩ := C0
  have hD := wd_D (s := s) (cel := celC ad cA) (σ := s0) hi
  unfold B_X10_look_e at hv
  refine lv_aload_n hx hb dX10_look_0 rfl (lv_at hl 0 rfl) ?_
  refine lv_iload_n hx hb dX10_look_1 rfl (lv_at hl 1 rfl) ?_
  refine r_ci (va_runV (As := [.int a1]) (rest := []) ⟨hx, hb, hml, hown, hts⟩ (c_X10_isGlove hi a1 s0 _ hv H.size) (cwV 1 hts gX10_look_X10_isGlove rfl rfl rfl (by decide +kernel) ⟨Nat.le_of_ble_eq_true rfl, Nat.le_of_ble_eq_true rfl⟩) ⟨pre_blind, r_recv hK.1 hP 0 (by decide) (ceGR_0 (s0 0)) rfl, pre_of hP hK⟩ rfl rfl hl.1 rfl (lv_room (Nat.le_of_ble_eq_true rfl)) dX10_look_2 ⟨Nat.zero_le _, Nat.zero_le _⟩) hS (fun r1 s1 H locs hv hP hS => ?_)
  obtain ⟨hz_r1, hv⟩ := hv
  have hD := wd_D (s := s) (cel := celC ad cA) (σ := s1) hi
  refine lv_if_ne (tgt := 13) hx hb dX10_look_5 (by decide) (fun c5 => ?_) (fun c5 => ?_)
  · have hv := hv.1 c5
    refine lv_aload_n hx hb dX10_look_13 rfl (lv_at hl 0 rfl) ?_
    refine lv_aload_n hx hb dX10_look_14 rfl (lv_at hl 0 rfl) ?_
    refine r_get hx hb hts (iwX10_look_X10) hown hK.1 hP 0 (by decide) (ceGR_0 (s1 0)) rfl 0 (by decide) (hts _ kX10_look_1) (v := .ref (ad 1)) rfl dX10_look_15 ?_
    refine r_get hx hb hts (iwX10_look_X7) hown hK.1 hP 1 (ltSc_0 vSc_1) (ceSc_0 vSc_1 (s1 1)) rfl 3 (by decide) (hts _ kX10_look_2) (v := .ref (ad 15)) rfl dX10_look_18 ?_
    refine lv_iload_n hx hb dX10_look_21 rfl (lv_at hl 1 rfl) ?_
    refine lv_iconst (v := 1) hx hb dX10_look_22 (by decide) ?_
    refine r_ci (va_runS (As := [.ref (ad 15), .int a1, .int 1]) (rest := [.ref (ad 0)]) ⟨hx, hb, hml, hown, hts⟩ (c_X10_kindsThatFit hi 15 a1 1 (vSc14 vSc_1) s1 _ hv H.size) (va_cwS 3 hts gX10_look_X10_kindsThatFit rfl rfl rfl (by decide +kernel) ⟨Nat.le_of_ble_eq_true rfl, Nat.le_of_ble_eq_true rfl⟩) ⟨pre_blind, pre_of hP hK⟩ rfl rfl hl.1 rfl (lv_room (Nat.le_of_ble_eq_true rfl)) dX10_look_23 ⟨Nat.zero_le _, Nat.zero_le _⟩) hS (fun r2 s2 H locs hv hP hS => ?_)
    have hD := wd_D (s := s) (cel := celC ad cA) (σ := s2) hi
    refine lv_iconst (v := 1) hx hb dX10_look_26 (by decide) ?_
    refine r_ci (va_runV (As := [.int r2, .int 1]) (rest := []) ⟨hx, hb, hml, hown, hts⟩ (c_X10_nextLook hi r2 1 s2 _ hv H.size) (cwV 2 hts gX10_look_X10_nextLook rfl rfl rfl (by decide +kernel) ⟨Nat.le_of_ble_eq_true rfl, Nat.le_of_ble_eq_true rfl⟩) ⟨pre_blind, r_recv hK.1 hP 0 (by decide) (ceGR_0 (s2 0)) rfl, pre_of hP hK⟩ rfl rfl hl.1 rfl (lv_room (Nat.le_of_ble_eq_true rfl)) dX10_look_27 ⟨Nat.zero_le _, Nat.zero_le _⟩) hS (fun r3 s3 H locs hv hP hS => ?_)
    have hD := wd_D (s := s) (cel := celC ad cA) (σ := s3) hi
    exact r_iret hx hb hr hlocks hv hP hS dX10_look_30
  · have hv := hv.2 c5
    refine lv_aload_n hx hb dX10_look_8 rfl (lv_at hl 0 rfl) ?_
    refine r_ci (va_runV (As := []) (rest := []) ⟨hx, hb, hml, hown, hts⟩ (c_X10_bad hi  s1 _ hv H.size) (cwV 0 hts gX10_look_X10_bad rfl rfl rfl (by decide +kernel) ⟨Nat.le_of_ble_eq_true rfl, Nat.le_of_ble_eq_true rfl⟩) ⟨pre_blind, r_recv hK.1 hP 0 (by decide) (ceGR_0 (s1 0)) rfl, pre_of hP hK⟩ rfl rfl hl.1 rfl (lv_room (Nat.le_of_ble_eq_true rfl)) dX10_look_9 ⟨Nat.zero_le _, Nat.zero_le _⟩) hS (fun r4 s4 H locs hv hP hS => ?_)
    have hD := wd_D (s := s) (cel := celC ad cA) (σ := s4) hi
    exact r_iret hx hb hr hlocks hv hP hS dX10_look_12
set_option maxHeartbeats 4000000 in
theorem y_X10_look {p : Program} {l : Launch} {e : Env} {s : State} {m : MethodId} {args : Array Value} {below : List Frame} {meth : Method} {c : Code} {dC : Nat → ClassId} {dI : Nat → Nat → Nat} {ad : Nat → Nat} {cA cZ : ClassId} (hi : Inj 81 ad) (a1 : Int32)  (C0 : Cx cX10_look RX10 wsX10_look 2 (some .int) p s m args meth c) (hK : KK dC dI cA cZ s) (Q : Int32 → St → Prop) : ∀ P xs ys σ, R_X10_look a1 Q P xs ys σ → XX p l e ({ frames := 3, cells := 0, slots := 0, locals := 76 } : Room) s m args below meth c (dC, dI) 81 ad (celC ad cA) 2 (ZI below args s (dC, dI) 81 ad (celC ad cA) Q) (lay_X10_look ad a1) P xs ys σ := by
  refine Fx.elim _ (fun P xs ys σ Y hY hB => ?_)
  exact hB.elim
set_option maxHeartbeats 4000000 in
theorem c_X10_look {l : Launch} {dC : Nat → ClassId} {dI : Nat → Nat → Nat} {ad : Nat → Nat} {cA cZ : ClassId} (hi : Inj 81 ad) (a1 : Int32)  (s0 : St) (Q : Int32 → St → Prop) (hv : V_X10_look a1 s0 Q) (sz : Nat) : Met l yX10_look wsX10_look ({ frames := 3, cells := 0, slots := 0, locals := 76 } : Room) (va_Pc [.ref (ad 0), .int a1] (PW dC dI ad cA cZ 81 (celC ad cA) sz s0)) (va_Qi Q (fun u t => va_P (dC, dI) vwCl (wd 81 ad (celC ad cA) u) t.heap) (AA 81 ad sz)) 0 0 (AA 81 ad sz) := by
  refine Met.ofW (cc := cX10_look) (maxL := 2) (ret := (some .int)) (by decide) rfl ?_
  intro p e s m args below meth c s₁ B hml hv0
  obtain ⟨rfl, hsz, hP, hK⟩ := hv0
  subst hsz
  have C0 : Cx cX10_look RX10 wsX10_look 2 (some .int) p s m ([.ref (ad 0), .int a1] : List Value).toArray meth c := ⟨B.exec, B.bytes, hml, findClass_of_methodNamed B.named, atoms_spec (ws := wsX10_look) B.pre, B.returns, B.notSynchronized⟩
  have hl := lv_entry ([.ref (ad 0), .int a1]) (n := 2) (Nat.le_of_ble_eq_true rfl)
  rw [lg_entry_eq]
  generalize (lg_sl ([.ref (ad 0), .int a1]) ++ List.replicate (2 - (lg_sl ([.ref (ad 0), .int a1])).length) Slot.unset).toArray = ls at hl ⊢
  have hl : lv_has ls 2 [(0, .ref (ad 0)), (1, .int a1)] := hl
  exact w_X10_look_e hi a1  C0 hK Q (R_X10_look a1 Q) (y_X10_look hi a1  C0 hK Q)  s0 hv hP va_S.rf hl
