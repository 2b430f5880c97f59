def lay_X11_in (ad : Nat → Nat) (a0 : Int64) (a2 : Int64) (a4 : Int64) : Nat → List Int32 → List Int64 → Option (List (Nat × Value) × List Value) := fun P xs ys => match P, xs, ys with
  | _, _, _ => none
set_option maxHeartbeats 4000000 in
set_option maxRecDepth 100000 in
theorem w_X11_in_e {p : Program} {l : Launch} {e : Env} {s : State} {m : MethodId} {args : Array Value} {below : List Frame} {meth : Method} {c : Code} {dC : Nat → ClassId} {dI : Nat → Nat → Nat} {ad : Nat → Nat} {cA cZ : ClassId} (hi : Inj 12 ad) (a0 : Int64) (a2 : Int64) (a4 : Int64)  (C0 : Cx cX11_in RX11 wsX11_in 6 (some .boolean) p s m args meth c) (hK : KK dC dI cA cZ s) (Q : Int32 → St → Prop) (Y : Nat → List Int32 → List Int64 → St → Prop) (hY : ∀ P xs ys σ, Y P xs ys σ → XX p l e ({ frames := 0, cells := 0, slots := 0, locals := 0 } : Room) s m args below meth c (dC, dI) 12 ad (celM ad cA cZ) 6 (ZZ below args s (dC, dI) 12 ad (celM ad cA cZ) Q) (lay_X11_in ad a0 a2 a4) P xs ys σ)  (s0 : St) (hv : B_X11_in_e a0 a2 a4 Q Y  s0) {H : Heap} {locs : List Loc} {ls : Array Slot} (hP : va_P (dC, dI) vwCl (wd 12 ad (celM ad cA cZ) s0) H) (hS : va_S (AA 12 ad s.heap.size) s.heap H locs) (hl : lv_has ls 6 [(0, .long a0), (2, .long a2), (4, .long a4)]) : W p l e ({ frames := 0, cells := 0, slots := 0, locals := 0 } : Room) s m args below meth c H locs 0 0 (ZZ below args s (dC, dI) 12 ad (celM ad cA cZ) Q) (F0 m 0 ls []) := by
  obtain ⟨hx, hb, hml, hown, hts, hr, hlocks⟩ := C0
  have hD := wd_D (s := s) (cel := celM ad cA cZ) (σ := s0) hi
  unfold B_X11_in_e at hv
  refine lv_lload_n hx hb dX11_in_0 rfl (lv_at hl 0 rfl) ?_
  refine lv_lload_n hx hb dX11_in_1 rfl (lv_at hl 1 rfl) ?_
  refine W.lcmp hx hb dX11_in_2 ?_
  refine lv_if_lt (tgt := 17) hx hb dX11_in_3 (by decide) (fun c3 => ?_) (fun c3 => ?_)
  · have hv := hv.1 c3
    refine lv_iconst (v := 0) hx hb dX11_in_17 (by decide) ?_
    exact r_zret hx hb hr hlocks (Or.inl rfl) hv hP hS dX11_in_18
  · have hv := hv.2 c3
    refine lv_lload_n hx hb dX11_in_6 rfl (lv_at hl 0 rfl) ?_
    refine lv_lload hx hb dX11_in_7 (lv_at hl 2 rfl) ?_
    refine W.lcmp hx hb dX11_in_9 ?_
    refine lv_if_gt (tgt := 17) hx hb dX11_in_10 (by decide) (fun c10 => ?_) (fun c10 => ?_)
    · have hv := hv.1 c10
      refine lv_iconst (v := 0) hx hb dX11_in_17 (by decide) ?_
      exact r_zret hx hb hr hlocks (Or.inl rfl) hv hP hS dX11_in_18
    · have hv := hv.2 c10
      refine lv_iconst (v := 1) hx hb dX11_in_13 (by decide) ?_
      refine lv_goto (tgt := 18) hx hb dX11_in_14 (by decide) ?_
      exact r_zret hx hb hr hlocks (Or.inr rfl) hv hP hS dX11_in_18
set_option maxHeartbeats 4000000 in
theorem y_X11_in {p : Program} {l : Launch} {e : Env} {s : State} {m : MethodId} {args : Array Value} {below : List Frame} {meth : Method} {c : Code} {dC : Nat → ClassId} {dI : Nat → Nat → Nat} {ad : Nat → Nat} {cA cZ : ClassId} (hi : Inj 12 ad) (a0 : Int64) (a2 : Int64) (a4 : Int64)  (C0 : Cx cX11_in RX11 wsX11_in 6 (some .boolean) p s m args meth c) (hK : KK dC dI cA cZ s) (Q : Int32 → St → Prop) : ∀ P xs ys σ, R_X11_in a0 a2 a4 Q P xs ys σ → XX p l e ({ frames := 0, cells := 0, slots := 0, locals := 0 } : Room) s m args below meth c (dC, dI) 12 ad (celM ad cA cZ) 6 (ZZ below args s (dC, dI) 12 ad (celM ad cA cZ) Q) (lay_X11_in ad a0 a2 a4) P xs ys σ := by
  refine Fx.elim _ (fun P xs ys σ Y hY hB => ?_)
  exact hB.elim
set_option maxHeartbeats 4000000 in
theorem c_X11_in {l : Launch} {dC : Nat → ClassId} {dI : Nat → Nat → Nat} {ad : Nat → Nat} {cA cZ : ClassId} (hi : Inj 12 ad) (a0 : Int64) (a2 : Int64) (a4 : Int64)  (s0 : St) (Q : Int32 → St → Prop) (hv : V_X11_in a0 a2 a4 s0 Q) (sz : Nat) : Met l yX11_in wsX11_in ({ frames := 0, cells := 0, slots := 0, locals := 0 } : Room) (va_Pc [.long a0, .long a2, .long a4] (PW dC dI ad cA cZ 12 (celM ad cA cZ) sz s0)) (va_Qi (fun r u => (r = 0 ∨ r = 1) ∧ Q r u) (fun u t => va_P (dC, dI) vwCl (wd 12 ad (celM ad cA cZ) u) t.heap) (AA 12 ad sz)) 0 0 (AA 12 ad sz) := by
  refine Met.ofW (cc := cX11_in) (maxL := 6) (ret := (some .boolean)) (by decide) rfl ?_
  intro p e s m args below meth c s₁ B hml hv0
  obtain ⟨rfl, hsz, hP, hK⟩ := hv0
  subst hsz
  have C0 : Cx cX11_in RX11 wsX11_in 6 (some .boolean) p s m ([.long a0, .long a2, .long a4] : List Value).toArray meth c := ⟨B.exec, B.bytes, hml, findClass_of_methodNamed B.named, atoms_spec (ws := wsX11_in) B.pre, B.returns, B.notSynchronized⟩
  have hl := lv_entry ([.long a0, .long a2, .long a4]) (n := 6) (Nat.le_of_ble_eq_true rfl)
  rw [lg_entry_eq]
  generalize (lg_sl ([.long a0, .long a2, .long a4]) ++ List.replicate (6 - (lg_sl ([.long a0, .long a2, .long a4])).length) Slot.unset).toArray = ls at hl ⊢
  have hl : lv_has ls 6 [(0, .long a0), (2, .long a2), (4, .long a4)] := hl
  exact w_X11_in_e hi a0 a2 a4  C0 hK Q (R_X11_in a0 a2 a4 Q) (y_X11_in hi a0 a2 a4  C0 hK Q)  s0 hv hP va_S.rf hl
def lay_X11_bad (ad : Nat → Nat) (a1 : Int32) : Nat → List Int32 → List Int64 → Option (List (Nat × Value) × List Value) := fun P xs ys => match P, xs, ys with
  | _, _, _ => none
set_option maxHeartbeats 4000000 in
set_option maxRecDepth 100000 in
theorem w_X11_bad_e {p : Program} {l : Launch} {e : Env} {s : State} {m : MethodId} {args : Array Value} {below : List Frame} {meth : Method} {c : Code} {dC : Nat → ClassId} {dI : Nat → Nat → Nat} {ad : Nat → Nat} {cA cZ : ClassId} (hi : Inj 12 ad) (a1 : Int32)  (C0 : Cx cX11_bad RX11 wsX11_bad 2 (some .int) p s m args meth c) (hK : KK dC dI cA cZ s) (Q : Int32 → St → Prop) (Y : Nat → List Int32 → List Int64 → St → Prop) (hY : ∀ P xs ys σ, Y P xs ys σ → XX p l e ({ frames := 0, cells := 0, slots := 0, locals := 0 } : Room) s m args below meth c (dC, dI) 12 ad (celM ad cA cZ) 2 (ZI below args s (dC, dI) 12 ad (celM ad cA cZ) Q) (lay_X11_bad ad a1) P xs ys σ)  (s0 : St) (hv : B_X11_bad_e a1 Q Y  s0) {H : Heap} {locs : List Loc} {ls : Array Slot} (hP : va_P (dC, dI) vwCl (wd 12 ad (celM ad cA cZ) s0) H) (hS : va_S (AA 12 ad s.heap.size) s.heap H locs) (hl : lv_has ls 2 [(0, .ref (ad 0)), (1, .int a1)]) : W p l e ({ frames := 0, cells := 0, slots := 0, locals := 0 } : Room) s m args below meth c H locs 0 0 (ZI below args s (dC, dI) 12 ad (celM ad cA cZ) Q) (F0 m 0 ls []) := by
  obtain ⟨hx, hb, hml, hown, hts, hr, hlocks⟩ := C0
  have hD := wd_D (s := s) (cel := celM ad cA cZ) (σ := s0) hi
  unfold B_X11_bad_e at hv
  refine lv_aload_n hx hb dX11_bad_0 rfl (lv_at hl 0 rfl) ?_
  refine r_get hx hb hts (iwX11_bad_X11) hown hK.1 hP 0 (by decide) (ceMo_0 (s0 0)) rfl 3 (by decide) (hts _ kX11_bad_1) (v := .ref (ad 4)) rfl dX11_bad_1 ?_
  refine lv_iconst (v := 0) hx hb dX11_bad_4 (by decide) ?_
  refine lv_dup2_11 hx hb dX11_bad_5 rfl rfl ?_
  refine r_iald hx hb hK.1 hP 4 (by decide) (ceMo_4 (s0 4)) (vp_in_of_dec (by decide)) dX11_bad_6 ?_
  refine lv_iconst (v := 1) hx hb dX11_bad_7 (by decide) ?_
  refine lv_iadd hx hb dX11_bad_8 ?_
  refine r_iast hx hb hK.1 hP hD hS 4 (by decide) (ceMo_4 (s0 4)) (ceMo_4 _) (vp_in_of_dec (by decide)) dX11_bad_9 (fun H locs s1 es1 hP hD hS => ?_)
  have hv := hv s1 es1
  refine lv_iload_n hx hb dX11_bad_10 rfl (lv_at hl 1 rfl) ?_
  exact r_iret hx hb hr hlocks hv hP hS dX11_bad_11
set_option maxHeartbeats 4000000 in
theorem y_X11_bad {p : Program} {l : Launch} {e : Env} {s : State} {m : MethodId} {args : Array Value} {below : List Frame} {meth : Method} {c : Code} {dC : Nat → ClassId} {dI : Nat → Nat → Nat} {ad : Nat → Nat} {cA cZ : ClassId} (hi : Inj 12 ad) (a1 : Int32)  (C0 : Cx cX11_bad RX11 wsX11_bad 2 (some .int) p s m args meth c) (hK : KK dC dI cA cZ s) (Q : Int32 → St → Prop) : ∀ P xs ys σ, R_X11_bad a1 Q P xs ys σ → XX p l e ({ frames := 0, cells := 0, slots := 0, locals := 0 } : Room) s m args below meth c (dC, dI) 12 ad (celM ad cA cZ) 2 (ZI below args s (dC, dI) 12 ad (celM ad cA cZ) Q) (lay_X11_bad ad a1) P xs ys σ := by
  refine Fx.elim _ (fun P xs ys σ Y hY hB => ?_)
  exact hB.elim
set_option maxHeartbeats 4000000 in
theorem c_X11_bad {l : Launch} {dC : Nat → ClassId} {dI : Nat → Nat → Nat} {ad : Nat → Nat} {cA cZ : ClassId} (hi : Inj 12 ad) (a1 : Int32)  (s0 : St) (Q : Int32 → St → Prop) (hv : V_X11_bad a1 s0 Q) (sz : Nat) : Met l yX11_bad wsX11_bad ({ frames := 0, cells := 0, slots := 0, locals := 0 } : Room) (va_Pc [.ref (ad 0), .int a1] (PW dC dI ad cA cZ 12 (celM ad cA cZ) sz s0)) (va_Qi Q (fun u t => va_P (dC, dI) vwCl (wd 12 ad (celM ad cA cZ) u) t.heap) (AA 12 ad sz)) 0 0 (AA 12 ad sz) := by
  refine Met.ofW (cc := cX11_bad) (maxL := 2) (ret := (some .int)) (by decide) rfl ?_
  intro p e s m args below meth c s₁ B hml hv0
  obtain ⟨rfl, hsz, hP, hK⟩ := hv0
  subst hsz
  have C0 : Cx cX11_bad RX11 wsX11_bad 2 (some .int) p s m ([.ref (ad 0), .int a1] : List Value).toArray meth c := ⟨B.exec, B.bytes, hml, findClass_of_methodNamed B.named, atoms_spec (ws := wsX11_bad) B.pre, B.returns, B.notSynchronized⟩
  have hl := lv_entry ([.ref (ad 0), .int a1]) (n := 2) (Nat.le_of_ble_eq_true rfl)
  rw [lg_entry_eq]
  generalize (lg_sl ([.ref (ad 0), .int a1]) ++ List.replicate (2 - (lg_sl ([.ref (ad 0), .int a1])).length) Slot.unset).toArray = ls at hl ⊢
  have hl : lv_has ls 2 [(0, .ref (ad 0)), (1, .int a1)] := hl
  exact w_X11_bad_e hi a1  C0 hK Q (R_X11_bad a1 Q) (y_X11_bad hi a1  C0 hK Q)  s0 hv hP va_S.rf hl
def lay_X11_no (ad : Nat → Nat)  : Nat → List Int32 → List Int64 → Option (List (Nat × Value) × List Value) := fun P xs ys => match P, xs, ys with
  | _, _, _ => none
set_option maxHeartbeats 4000000 in
set_option maxRecDepth 100000 in
theorem w_X11_no_e {p : Program} {l : Launch} {e : Env} {s : State} {m : MethodId} {args : Array Value} {below : List Frame} {meth : Method} {c : Code} {dC : Nat → ClassId} {dI : Nat → Nat → Nat} {ad : Nat → Nat} {cA cZ : ClassId} (hi : Inj 12 ad)   (C0 : Cx cX11_no RX11 wsX11_no 1 (some .int) p s m args meth c) (hK : KK dC dI cA cZ s) (Q : Int32 → St → Prop) (Y : Nat → List Int32 → List Int64 → St → Prop) (hY : ∀ P xs ys σ, Y P xs ys σ → XX p l e ({ frames := 0, cells := 0, slots := 0, locals := 0 } : Room) s m args below meth c (dC, dI) 12 ad (celM ad cA cZ) 1 (ZI below args s (dC, dI) 12 ad (celM ad cA cZ) Q) (lay_X11_no ad ) P xs ys σ)  (s0 : St) (hv : B_X11_no_e  Q Y  s0) {H : Heap} {locs : List Loc} {ls : Array Slot} (hP : va_P (dC, dI) vwCl (wd 12 ad (celM ad cA cZ) s0) H) (hS : va_S (AA 12 ad s.heap.size) s.heap H locs) (hl : lv_has ls 1 [(0, .ref (ad 0))]) : W p l e ({ frames := 0, cells := 0, slots := 0, locals := 0 } : Room) s m args below meth c H locs 0 0 (ZI below args s (dC, dI) 12 ad (celM ad cA cZ) Q) (F0 m 0 ls []) := by
  obtain ⟨hx, hb, hml, hown, hts, hr, hlocks⟩ := C0
  have hD := wd_D (s := s) (cel := celM ad cA cZ) (σ := s0) hi
  unfold B_X11_no_e at hv
  refine lv_aload_n hx hb dX11_no_0 rfl (lv_at hl 0 rfl) ?_
  refine r_get hx hb hts (iwX11_no_X11) hown hK.1 hP 0 (by decide) (ceMo_0 (s0 0)) rfl 3 (by decide) (hts _ kX11_no_1) (v := .ref (ad 4)) rfl dX11_no_1 ?_
  refine lv_iconst (v := 1) hx hb dX11_no_4 (by decide) ?_
  refine lv_dup2_11 hx hb dX11_no_5 rfl rfl ?_
  refine r_iald hx hb hK.1 hP 4 (by decide) (ceMo_4 (s0 4)) (vp_in_of_dec (by decide)) dX11_no_6 ?_
  refine lv_iconst (v := 1) hx hb dX11_no_7 (by decide) ?_
  refine lv_iadd hx hb dX11_no_8 ?_
  refine r_iast hx hb hK.1 hP hD hS 4 (by decide) (ceMo_4 (s0 4)) (ceMo_4 _) (vp_in_of_dec (by decide)) dX11_no_9 (fun H locs s1 es1 hP hD hS => ?_)
  have hv := hv s1 es1
  refine lv_bipush (v := (-3)) hx hb dX11_no_10 (by decide) ?_
  exact r_iret hx hb hr hlocks hv hP hS dX11_no_12
set_option maxHeartbeats 4000000 in
theorem y_X11_no {p : Program} {l : Launch} {e : Env} {s : State} {m : MethodId} {args : Array Value} {below : List Frame} {meth : Method} {c : Code} {dC : Nat → ClassId} {dI : Nat → Nat → Nat} {ad : Nat → Nat} {cA cZ : ClassId} (hi : Inj 12 ad)   (C0 : Cx cX11_no RX11 wsX11_no 1 (some .int) p s m args meth c) (hK : KK dC dI cA cZ s) (Q : Int32 → St → Prop) : ∀ P xs ys σ, R_X11_no  Q P xs ys σ → XX p l e ({ frames := 0, cells := 0, slots := 0, locals := 0 } : Room) s m args below meth c (dC, dI) 12 ad (celM ad cA cZ) 1 (ZI below args s (dC, dI) 12 ad (celM ad cA cZ) Q) (lay_X11_no ad ) P xs ys σ := by
  refine Fx.elim _ (fun P xs ys σ Y hY hB => ?_)
  exact hB.elim
set_option maxHeartbeats 4000000 in
theorem c_X11_no {l : Launch} {dC : Nat → ClassId} {dI : Nat → Nat → Nat} {ad : Nat → Nat} {cA cZ : ClassId} (hi : Inj 12 ad)   (s0 : St) (Q : Int32 → St → Prop) (hv : V_X11_no  s0 Q) (sz : Nat) : Met l yX11_no wsX11_no ({ frames := 0, cells := 0, slots := 0, locals := 0 } : Room) (va_Pc [.ref (ad 0)] (PW dC dI ad cA cZ 12 (celM ad cA cZ) sz s0)) (va_Qi Q (fun u t => va_P (dC, dI) vwCl (wd 12 ad (celM ad cA cZ) u) t.heap) (AA 12 ad sz)) 0 0 (AA 12 ad sz) := by
  refine Met.ofW (cc := cX11_no) (maxL := 1) (ret := (some .int)) (by decide) rfl ?_
  intro p e s m args below meth c s₁ B hml hv0
  obtain ⟨rfl, hsz, hP, hK⟩ := hv0
  subst hsz
  have C0 : Cx cX11_no RX11 wsX11_no 1 (some .int) p s m ([.ref (ad 0)] : List Value).toArray meth c := ⟨B.exec, B.bytes, hml, findClass_of_methodNamed B.named, atoms_spec (ws := wsX11_no) B.pre, B.returns, B.notSynchronized⟩
  have hl := lv_entry ([.ref (ad 0)]) (n := 1) (Nat.le_of_ble_eq_true rfl)
  rw [lg_entry_eq]
  generalize (lg_sl ([.ref (ad 0)]) ++ List.replicate (1 - (lg_sl ([.ref (ad 0)])).length) Slot.unset).toArray = ls at hl ⊢
  have hl : lv_has ls 1 [(0, .ref (ad 0))] := hl
  exact w_X11_no_e hi   C0 hK Q (R_X11_no  Q) (y_X11_no hi   C0 hK Q)  s0 hv hP va_S.rf hl
def lay_X11_full (ad : Nat → Nat)  : Nat → List Int32 → List Int64 → Option (List (Nat × Value) × List Value) := fun P xs ys => match P, xs, ys with
  | _, _, _ => none
set_option maxHeartbeats 4000000 in
set_option maxRecDepth 100000 in
theorem w_X11_full_e {p : Program} {l : Launch} {e : Env} {s : State} {m : MethodId} {args : Array Value} {below : List Frame} {meth : Method} {c : Code} {dC : Nat → ClassId} {dI : Nat → Nat → Nat} {ad : Nat → Nat} {cA cZ : ClassId} (hi : Inj 12 ad)   (C0 : Cx cX11_full RX11 wsX11_full 1 (some .int) p s m args meth c) (hK : KK dC dI cA cZ s) (Q : Int32 → St → Prop) (Y : Nat → List Int32 → List Int64 → St → Prop) (hY : ∀ P xs ys σ, Y P xs ys σ → XX p l e ({ frames := 0, cells := 0, slots := 0, locals := 0 } : Room) s m args below meth c (dC, dI) 12 ad (celM ad cA cZ) 1 (ZI below args s (dC, dI) 12 ad (celM ad cA cZ) Q) (lay_X11_full ad ) P xs ys σ)  (s0 : St) (hv : B_X11_full_e  Q Y  s0) {H : Heap} {locs : List Loc} {ls : Array Slot} (hP : va_P (dC, dI) vwCl (wd 12 ad (celM ad cA cZ) s0) H) (hS : va_S (AA 12 ad s.heap.size) s.heap H locs) (hl : lv_has ls 1 [(0, .ref (ad 0))]) : W p l e ({ frames := 0, cells := 0, slots := 0, locals := 0 } : Room) s m args below meth c H locs 0 0 (ZI below args s (dC, dI) 12 ad (celM ad cA cZ) Q) (F0 m 0 ls []) := by
  obtain ⟨hx, hb, hml, hown, hts, hr, hlocks⟩ := C0
  have hD := wd_D (s := s) (cel := celM ad cA cZ) (σ := s0) hi
  unfold B_X11_full_e at hv
  refine lv_aload_n hx hb dX11_full_0 rfl (lv_at hl 0 rfl) ?_
  refine r_get hx hb hts (iwX11_full_X11) hown hK.1 hP 0 (by decide) (ceMo_0 (s0 0)) rfl 3 (by decide) (hts _ kX11_full_1) (v := .ref (ad 4)) rfl dX11_full_1 ?_
  refine lv_iconst (v := 2) hx hb dX11_full_4 (by decide) ?_
  refine lv_dup2_11 hx hb dX11_full_5 rfl rfl ?_
  refine r_iald hx hb hK.1 hP 4 (by decide) (ceMo_4 (s0 4)) (vp_in_of_dec (by decide)) dX11_full_6 ?_
  refine lv_iconst (v := 1) hx hb dX11_full_7 (by decide) ?_
  refine lv_iadd hx hb dX11_full_8 ?_
  refine r_iast hx hb hK.1 hP hD hS 4 (by decide) (ceMo_4 (s0 4)) (ceMo_4 _) (vp_in_of_dec (by decide)) dX11_full_9 (fun H locs s1 es1 hP hD hS => ?_)
  have hv := hv s1 es1
  refine lv_bipush (v := (-4)) hx hb dX11_full_10 (by decide) ?_
  exact r_iret hx hb hr hlocks hv hP hS dX11_full_12
set_option maxHeartbeats 4000000 in
theorem y_X11_full {p : Program} {l : Launch} {e : Env} {s : State} {m : MethodId} {args : Array Value} {below : List Frame} {meth : Method} {c : Code} {dC : Nat → ClassId} {dI : Nat → Nat → Nat} {ad : Nat → Nat} {cA cZ : ClassId} (hi : Inj 12 ad)   (C0 : Cx cX11_full RX11 wsX11_full 1 (some .int) p s m args meth c) (hK : KK dC dI cA cZ s) (Q : Int32 → St → Prop) : ∀ P xs ys σ, R_X11_full  Q P xs ys σ → XX p l e ({ frames := 0, cells := 0, slots := 0, locals := 0 } : Room) s m args below meth c (dC, dI) 12 ad (celM ad cA cZ) 1 (ZI below args s (dC, dI) 12 ad (celM ad cA cZ) Q) (lay_X11_full ad ) P xs ys σ := by
  refine Fx.elim _ (fun P xs ys σ Y hY hB => ?_)
  exact hB.elim
set_option maxHeartbeats 4000000 in
theorem c_X11_full {l : Launch} {dC : Nat → ClassId} {dI : Nat → Nat → Nat} {ad : Nat → Nat} {cA cZ : ClassId} (hi : Inj 12 ad)   (s0 : St) (Q : Int32 → St → Prop) (hv : V_X11_full  s0 Q) (sz : Nat) : Met l yX11_full wsX11_full ({ frames := 0, cells := 0, slots := 0, locals := 0 } : Room) (va_Pc [.ref (ad 0)] (PW dC dI ad cA cZ 12 (celM ad cA cZ) sz s0)) (va_Qi Q (fun u t => va_P (dC, dI) vwCl (wd 12 ad (celM ad cA cZ) u) t.heap) (AA 12 ad sz)) 0 0 (AA 12 ad sz) := by
  refine Met.ofW (cc := cX11_full) (maxL := 1) (ret := (some .int)) (by decide) rfl ?_
  intro p e s m args below meth c s₁ B hml hv0
  obtain ⟨rfl, hsz, hP, hK⟩ := hv0
  subst hsz
  have C0 : Cx cX11_full RX11 wsX11_full 1 (some .int) p s m ([.ref (ad 0)] : List Value).toArray meth c := ⟨B.exec, B.bytes, hml, findClass_of_methodNamed B.named, atoms_spec (ws := wsX11_full) B.pre, B.returns, B.notSynchronized⟩
  have hl := lv_entry ([.ref (ad 0)]) (n := 1) (Nat.le_of_ble_eq_true rfl)
  rw [lg_entry_eq]
  generalize (lg_sl ([.ref (ad 0)]) ++ List.replicate (1 - (lg_sl ([.ref (ad 0)])).length) Slot.unset).toArray = ls at hl ⊢
  have hl : lv_has ls 1 [(0, .ref (ad 0))] := hl
  exact w_X11_full_e hi   C0 hK Q (R_X11_full  Q) (y_X11_full hi   C0 hK Q)  s0 hv hP va_S.rf hl
def lay_X11_has (ad : Nat → Nat) (a0 : Int32) (a1 : Int32) : Nat → List Int32 → List Int64 → Option (List (Nat × Value) × List Value) := fun P xs ys => match P, xs, ys with
  | _, _, _ => none
set_option maxHeartbeats 4000000 in
set_option maxRecDepth 100000 in
theorem w_X11_has_e {p : Program} {l : Launch} {e : Env} {s : State} {m : MethodId} {args : Array Value} {below : List Frame} {meth : Method} {c : Code} {dC : Nat → ClassId} {dI : Nat → Nat → Nat} {ad : Nat → Nat} {cA cZ : ClassId} (hi : Inj 12 ad) (a0 : Int32) (a1 : Int32)  (C0 : Cx cX11_has RX11 wsX11_has 2 (some .boolean) p s m args meth c) (hK : KK dC dI cA cZ s) (Q : Int32 → St → Prop) (Y : Nat → List Int32 → List Int64 → St → Prop) (hY : ∀ P xs ys σ, Y P xs ys σ → XX p l e ({ frames := 0, cells := 0, slots := 0, locals := 0 } : Room) s m args below meth c (dC, dI) 12 ad (celM ad cA cZ) 2 (ZZ below args s (dC, dI) 12 ad (celM ad cA cZ) Q) (lay_X11_has ad a0 a1) P xs ys σ)  (s0 : St) (hv : B_X11_has_e a0 a1 Q Y  s0) {H : Heap} {locs : List Loc} {ls : Array Slot} (hP : va_P (dC, dI) vwCl (wd 12 ad (celM ad cA cZ) s0) H) (hS : va_S (AA 12 ad s.heap.size) s.heap H locs) (hl : lv_has ls 2 [(0, .int a0), (1, .int a1)]) : W p l e ({ frames := 0, cells := 0, slots := 0, locals := 0 } : Room) s m args below meth c H locs 0 0 (ZZ below args s (dC, dI) 12 ad (celM ad cA cZ) Q) (F0 m 0 ls []) := by
  obtain ⟨hx, hb, hml, hown, hts, hr, hlocks⟩ := C0
  have hD := wd_D (s := s) (cel := celM ad cA cZ) (σ := s0) hi
  unfold B_X11_has_e at hv
  refine lv_iload_n hx hb dX11_has_0 rfl (lv_at hl 0 rfl) ?_
  refine lv_iload_n hx hb dX11_has_1 rfl (lv_at hl 1 rfl) ?_
  refine lv_ishr hx hb dX11_has_2 ?_
  refine lv_iconst (v := 1) hx hb dX11_has_3 (by decide) ?_
  refine lv_iand hx hb dX11_has_4 ?_
  refine lv_iconst (v := 1) hx hb dX11_has_5 (by decide) ?_
  refine lv_icmp_ne (tgt := 13) hx hb dX11_has_6 (by decide) (fun c6 => ?_) (fun c6 => ?_)
  · have hv := hv.1 c6
    refine lv_iconst (v := 0) hx hb dX11_has_13 (by decide) ?_
    exact r_zret hx hb hr hlocks (Or.inl rfl) hv hP hS dX11_has_14
  · have hv := hv.2 c6
    refine lv_iconst (v := 1) hx hb dX11_has_9 (by decide) ?_
    refine lv_goto (tgt := 14) hx hb dX11_has_10 (by decide) ?_
    exact r_zret hx hb hr hlocks (Or.inr rfl) hv hP hS dX11_has_14
set_option maxHeartbeats 4000000 in
theorem y_X11_has {p : Program} {l : Launch} {e : Env} {s : State} {m : MethodId} {args : Array Value} {below : List Frame} {meth : Method} {c : Code} {dC : Nat → ClassId} {dI : Nat → Nat → Nat} {ad : Nat → Nat} {cA cZ : ClassId} (hi : Inj 12 ad) (a0 : Int32) (a1 : Int32)  (C0 : Cx cX11_has RX11 wsX11_has 2 (some .boolean) p s m args meth c) (hK : KK dC dI cA cZ s) (Q : Int32 → St → Prop) : ∀ P xs ys σ, R_X11_has a0 a1 Q P xs ys σ → XX p l e ({ frames := 0, cells := 0, slots := 0, locals := 0 } : Room) s m args below meth c (dC, dI) 12 ad (celM ad cA cZ) 2 (ZZ below args s (dC, dI) 12 ad (celM ad cA cZ) Q) (lay_X11_has ad a0 a1) P xs ys σ := by
  refine Fx.elim _ (fun P xs ys σ Y hY hB => ?_)
  exact hB.elim
set_option maxHeartbeats 4000000 in
theorem c_X11_has {l : Launch} {dC : Nat → ClassId} {dI : Nat → Nat → Nat} {ad : Nat → Nat} {cA cZ : ClassId} (hi : Inj 12 ad) (a0 : Int32) (a1 : Int32)  (s0 : St) (Q : Int32 → St → Prop) (hv : V_X11_has a0 a1 s0 Q) (sz : Nat) : Met l yX11_has wsX11_has ({ frames := 0, cells := 0, slots := 0, locals := 0 } : Room) (va_Pc [.int a0, .int a1] (PW dC dI ad cA cZ 12 (celM ad cA cZ) sz s0)) (va_Qi (fun r u => (r = 0 ∨ r = 1) ∧ Q r u) (fun u t => va_P (dC, dI) vwCl (wd 12 ad (celM ad cA cZ) u) t.heap) (AA 12 ad sz)) 0 0 (AA 12 ad sz) := by
  refine Met.ofW (cc := cX11_has) (maxL := 2) (ret := (some .boolean)) (by decide) rfl ?_
  intro p e s m args below meth c s₁ B hml hv0
  obtain ⟨rfl, hsz, hP, hK⟩ := hv0
  subst hsz
  have C0 : Cx cX11_has RX11 wsX11_has 2 (some .boolean) p s m ([.int a0, .int a1] : List Value).toArray meth c := ⟨B.exec, B.bytes, hml, findClass_of_methodNamed B.named, atoms_spec (ws := wsX11_has) B.pre, B.returns, B.notSynchronized⟩
  have hl := lv_entry ([.int a0, .int a1]) (n := 2) (Nat.le_of_ble_eq_true rfl)
  rw [lg_entry_eq]
  generalize (lg_sl ([.int a0, .int a1]) ++ List.replicate (2 - (lg_sl ([.int a0, .int a1])).length) Slot.unset).toArray = ls at hl ⊢
  have hl : lv_has ls 2 [(0, .int a0), (1, .int a1)] := hl
  exact w_X11_has_e hi a0 a1  C0 hK Q (R_X11_has a0 a1 Q) (y_X11_has hi a0 a1  C0 hK Q)  s0 hv hP va_S.rf hl
def lay_X11_bits (ad : Nat → Nat) (a0 : Int32) : Nat → List Int32 → List Int64 → Option (List (Nat × Value) × List Value) := fun P xs ys => match P, xs, ys with
  | 4, [x1, x2], [] => some ([(1, .int x1), (2, .int x2)], [])
  | _, _, _ => none
set_option maxHeartbeats 4000000 in
set_option maxRecDepth 100000 in
theorem w_X11_bits_e {p : Program} {l : Launch} {e : Env} {s : State} {m : MethodId} {args : Array Value} {below : List Frame} {meth : Method} {c : Code} {dC : Nat → ClassId} {dI : Nat → Nat → Nat} {ad : Nat → Nat} {cA cZ : ClassId} (hi : Inj 12 ad) (a0 : Int32)  (C0 : Cx cX11_bits RX11 wsX11_bits 3 (some .int) p s m args meth c) (hK : KK dC dI cA cZ s) (Q : Int32 → St → Prop) (Y : Nat → List Int32 → List Int64 → St → Prop) (hY : ∀ P xs ys σ, Y P xs ys σ → XX p l e ({ frames := 0, cells := 0, slots := 0, locals := 0 } : Room) s m args below meth c (dC, dI) 12 ad (celM ad cA cZ) 3 (ZI below args s (dC, dI) 12 ad (celM ad cA cZ) Q) (lay_X11_bits ad a0) P xs ys σ)  (s0 : St) (hv : B_X11_bits_e a0 Q Y  s0) {H : Heap} {locs : List Loc} {ls : Array Slot} (hP : va_P (dC, dI) vwCl (wd 12 ad (celM ad cA cZ) s0) H) (hS : va_S (AA 12 ad s.heap.size) s.heap H locs) (hl : lv_has ls 3 [(0, .int a0)]) : W p l e ({ frames := 0, cells := 0, slots := 0, locals := 0 } : Room) s m args below meth c H locs 0 0 (ZI below args s (dC, dI) 12 ad (celM ad cA cZ) Q) (F0 m 0 ls []) := by
  obtain ⟨hx, hb, hml, hown, hts, hr, hlocks⟩ := C0
  have hD := wd_D (s := s) (cel := celM ad cA cZ) (σ := s0) hi
  unfold B_X11_bits_e at hv
  refine lv_iconst (v := 0) hx hb dX11_bits_0 (by decide) ?_
  refine lv_istore_n (lv' := [(1, .int 0), (0, .int a0)]) hx hb dX11_bits_1 rfl hl (by decide) rfl (fun ls hl => ?_)
  refine lv_iload_n hx hb dX11_bits_2 rfl (lv_at hl 1 rfl) ?_
  refine lv_istore_n (lv' := [(2, .int a0), (1, .int 0), (0, .int a0)]) hx hb dX11_bits_3 rfl hl (by decide) rfl (fun ls hl => ?_)
  exact hY 4 [0, a0] [] s0 hv _ _ rfl H locs ls hP hS (lv_sub hl [1, 0] rfl)
set_option maxHeartbeats 4000000 in
set_option maxRecDepth 100000 in
theorem w_X11_bits_4 {p : Program} {l : Launch} {e : Env} {s : State} {m : MethodId} {args : Array Value} {below : List Frame} {meth : Method} {c : Code} {dC : Nat → ClassId} {dI : Nat → Nat → Nat} {ad : Nat → Nat} {cA cZ : ClassId} (hi : Inj 12 ad) (a0 : Int32)  (C0 : Cx cX11_bits RX11 wsX11_bits 3 (some .int) p s m args meth c) (hK : KK dC dI cA cZ s) (Q : Int32 → St → Prop) (Y : Nat → List Int32 → List Int64 → St → Prop) (hY : ∀ P xs ys σ, Y P xs ys σ → XX p l e ({ frames := 0, cells := 0, slots := 0, locals := 0 } : Room) s m args below meth c (dC, dI) 12 ad (celM ad cA cZ) 3 (ZI below args s (dC, dI) 12 ad (celM ad cA cZ) Q) (lay_X11_bits ad a0) P xs ys σ) (x1 : Int32) (x2 : Int32) (s0 : St) (hv : B_X11_bits_4 a0 Q Y x1 x2 s0) {H : Heap} {locs : List Loc} {ls : Array Slot} (hP : va_P (dC, dI) vwCl (wd 12 ad (celM ad cA cZ) s0) H) (hS : va_S (AA 12 ad s.heap.size) s.heap H locs) (hl : lv_has ls 3 [(1, .int x1), (2, .int x2)]) : W p l e ({ frames := 0, cells := 0, slots := 0, locals := 0 } : Room) s m args below meth c H locs 0 0 (ZI below args s (dC, dI) 12 ad (celM ad cA cZ) Q) (F0 m 4 ls []) := by
  obtain ⟨hx, hb, hml, hown, hts, hr, hlocks⟩ := C0
  have hD := wd_D (s := s) (cel := celM ad cA cZ) (σ := s0) hi
  unfold B_X11_bits_4 at hv
  refine lv_iload_n hx hb dX11_bits_4 rfl (lv_at hl 1 rfl) ?_
  refine lv_if_le (tgt := 21) hx hb dX11_bits_5 (by decide) (fun c5 => ?_) (fun c5 => ?_)
  · have hv := hv.1 c5
    refine lv_iload_n hx hb dX11_bits_21 rfl (lv_at hl 0 rfl) ?_
    exact r_iret hx hb hr hlocks hv hP hS dX11_bits_22
  · have hv := hv.2 c5
    refine lv_iload_n hx hb dX11_bits_8 rfl (lv_at hl 0 rfl) ?_
    refine lv_iload_n hx hb dX11_bits_9 rfl (lv_at hl 1 rfl) ?_
    refine lv_iconst (v := 1) hx hb dX11_bits_10 (by decide) ?_
    refine lv_iand hx hb dX11_bits_11 ?_
    refine lv_iadd hx hb dX11_bits_12 ?_
    refine lv_istore_n (lv' := [(1, .int (x1 + (x2 &&& 1))), (2, .int x2)]) hx hb dX11_bits_13 rfl hl (by decide) rfl (fun ls hl => ?_)
    refine lv_iload_n hx hb dX11_bits_14 rfl (lv_at hl 1 rfl) ?_
    refine lv_iconst (v := 1) hx hb dX11_bits_15 (by decide) ?_
    refine lv_ishr hx hb dX11_bits_16 ?_
    refine lv_topi (fun v1 ev1 => ?_)
    have hv := hv v1 ev1
    refine lv_istore_n (lv' := [(2, .int v1), (1, .int (x1 + (x2 &&& 1)))]) hx hb dX11_bits_17 rfl hl (by decide) rfl (fun ls hl => ?_)
    refine lv_goto (tgt := 4) hx hb dX11_bits_18 (by decide) ?_
    exact hY 4 [x1 + (x2 &&& 1), v1] [] s0 hv _ _ rfl H locs ls hP hS (lv_sub hl [1, 0] rfl)
set_option maxHeartbeats 4000000 in
theorem y_X11_bits {p : Program} {l : Launch} {e : Env} {s : State} {m : MethodId} {args : Array Value} {below : List Frame} {meth : Method} {c : Code} {dC : Nat → ClassId} {dI : Nat → Nat → Nat} {ad : Nat → Nat} {cA cZ : ClassId} (hi : Inj 12 ad) (a0 : Int32)  (C0 : Cx cX11_bits RX11 wsX11_bits 3 (some .int) p s m args meth c) (hK : KK dC dI cA cZ s) (Q : Int32 → St → Prop) : ∀ P xs ys σ, R_X11_bits a0 Q P xs ys σ → XX p l e ({ frames := 0, cells := 0, slots := 0, locals := 0 } : Room) s m args below meth c (dC, dI) 12 ad (celM ad cA cZ) 3 (ZI below args s (dC, dI) 12 ad (celM ad cA cZ) Q) (lay_X11_bits ad a0) P xs ys σ := by
  refine Fx.elim _ (fun P xs ys σ Y hY hB => ?_)
  rcases hB with ⟨rfl, x1, x2, rfl, rfl, hB⟩
  · intro lv st he H locs ls hP hS hl
    cases he
    exact w_X11_bits_4 hi a0  C0 hK Q Y hY x1 x2 σ hB hP hS hl
set_option maxHeartbeats 4000000 in
theorem c_X11_bits {l : Launch} {dC : Nat → ClassId} {dI : Nat → Nat → Nat} {ad : Nat → Nat} {cA cZ : ClassId} (hi : Inj 12 ad) (a0 : Int32)  (s0 : St) (Q : Int32 → St → Prop) (hv : V_X11_bits a0 s0 Q) (sz : Nat) : Met l yX11_bits wsX11_bits ({ frames := 0, cells := 0, slots := 0, locals := 0 } : Room) (va_Pc [.int a0] (PW dC dI ad cA cZ 12 (celM ad cA cZ) sz s0)) (va_Qi Q (fun u t => va_P (dC, dI) vwCl (wd 12 ad (celM ad cA cZ) u) t.heap) (AA 12 ad sz)) 0 0 (AA 12 ad sz) := by
  refine Met.ofW (cc := cX11_bits) (maxL := 3) (ret := (some .int)) (by decide) rfl ?_
  intro p e s m args below meth c s₁ B hml hv0
  obtain ⟨rfl, hsz, hP, hK⟩ := hv0
  subst hsz
  have C0 : Cx cX11_bits RX11 wsX11_bits 3 (some .int) p s m ([.int a0] : List Value).toArray meth c := ⟨B.exec, B.bytes, hml, findClass_of_methodNamed B.named, atoms_spec (ws := wsX11_bits) B.pre, B.returns, B.notSynchronized⟩
  have hl := lv_entry ([.int a0]) (n := 3) (Nat.le_of_ble_eq_true rfl)
  rw [lg_entry_eq]
  generalize (lg_sl ([.int a0]) ++ List.replicate (3 - (lg_sl ([.int a0])).length) Slot.unset).toArray = ls at hl ⊢
  have hl : lv_has ls 3 [(0, .int a0)] := hl
  exact w_X11_bits_e hi a0  C0 hK Q (R_X11_bits a0 Q) (y_X11_bits hi a0  C0 hK Q)  s0 hv hP va_S.rf hl
def lay_X11_begin (ad : Nat → Nat) (h0 : Nat) (n0 : Nat) : Nat → List Int32 → List Int64 → Option (List (Nat × Value) × List Value) := fun P xs ys => match P, xs, ys with
  | 2, [x1], [] => some ([(0, .ref (ad h0)), (1, .int x1)], [])
  | _, _, _ => none
set_option maxHeartbeats 4000000 in
set_option maxRecDepth 100000 in
theorem w_X11_begin_e {p : Program} {l : Launch} {e : Env} {s : State} {m : MethodId} {args : Array Value} {below : List Frame} {meth : Method} {c : Code} {dC : Nat → ClassId} {dI : Nat → Nat → Nat} {ad : Nat → Nat} {cA cZ : ClassId} (hi : Inj 12 ad) (h0 : Nat) (n0 : Nat) (hh0 : isAr h0 n0) (C0 : Cx cX11_begin RX11 wsX11_begin 2 none p s m args meth c) (hK : KK dC dI cA cZ s) (Q : St → Prop) (Y : Nat → List Int32 → List Int64 → St → Prop) (hY : ∀ P xs ys σ, Y P xs ys σ → XX p l e ({ frames := 0, cells := 0, slots := 0, locals := 0 } : Room) s m args below meth c (dC, dI) 12 ad (celM ad cA cZ) 2 (ZV below args s (dC, dI) 12 ad (celM ad cA cZ) Q) (lay_X11_begin ad h0 n0) P xs ys σ)  (s0 : St) (hv : B_X11_begin_e h0 n0 Q Y  s0) {H : Heap} {locs : List Loc} {ls : Array Slot} (hP : va_P (dC, dI) vwCl (wd 12 ad (celM ad cA cZ) s0) H) (hS : va_S (AA 12 ad s.heap.size) s.heap H locs) (hl : lv_has ls 2 [(0, .ref (ad h0))]) : W p l e ({ frames := 0, cells := 0, slots := 0, locals := 0 } : Room) s m args below meth c H locs 0 0 (ZV below args s (dC, dI) 12 ad (celM ad cA cZ) Q) (F0 m 0 ls []) := by
  obtain ⟨hx, hb, hml, hown, hts, hr, hlocks⟩ := C0
  have hD := wd_D (s := s) (cel := celM ad cA cZ) (σ := s0) hi
  unfold B_X11_begin_e at hv
  refine lv_iconst (v := 0) hx hb dX11_begin_0 (by decide) ?_
  refine lv_istore_n (lv' := [(1, .int 0), (0, .ref (ad h0))]) hx hb dX11_begin_1 rfl hl (by decide) rfl (fun ls hl => ?_)
  exact hY 2 [0] [] s0 hv _ _ rfl H locs ls hP hS (lv_sub hl [1, 0] rfl)
set_option maxHeartbeats 4000000 in
set_option maxRecDepth 100000 in
theorem w_X11_begin_2 {p : Program} {l : Launch} {e : Env} {s : State} {m : MethodId} {args : Array Value} {below : List Frame} {meth : Method} {c : Code} {dC : Nat → ClassId} {dI : Nat → Nat → Nat} {ad : Nat → Nat} {cA cZ : ClassId} (hi : Inj 12 ad) (h0 : Nat) (n0 : Nat) (hh0 : isAr h0 n0) (C0 : Cx cX11_begin RX11 wsX11_begin 2 none p s m args meth c) (hK : KK dC dI cA cZ s) (Q : St → Prop) (Y : Nat → List Int32 → List Int64 → St → Prop) (hY : ∀ P xs ys σ, Y P xs ys σ → XX p l e ({ frames := 0, cells := 0, slots := 0, locals := 0 } : Room) s m args below meth c (dC, dI) 12 ad (celM ad cA cZ) 2 (ZV below args s (dC, dI) 12 ad (celM ad cA cZ) Q) (lay_X11_begin ad h0 n0) P xs ys σ) (x1 : Int32) (s0 : St) (hv : B_X11_begin_2 h0 n0 Q Y x1 s0) {H : Heap} {locs : List Loc} {ls : Array Slot} (hP : va_P (dC, dI) vwCl (wd 12 ad (celM ad cA cZ) s0) H) (hS : va_S (AA 12 ad s.heap.size) s.heap H locs) (hl : lv_has ls 2 [(0, .ref (ad h0)), (1, .int x1)]) : W p l e ({ frames := 0, cells := 0, slots := 0, locals := 0 } : Room) s m args below meth c H locs 0 0 (ZV below args s (dC, dI) 12 ad (celM ad cA cZ) Q) (F0 m 2 ls []) := by
  obtain ⟨hx, hb, hml, hown, hts, hr, hlocks⟩ := C0
  have hD := wd_D (s := s) (cel := celM ad cA cZ) (σ := s0) hi
  unfold B_X11_begin_2 at hv
  refine lv_iload_n hx hb dX11_begin_2 rfl (lv_at hl 1 rfl) ?_
  refine lv_bipush (v := 101) hx hb dX11_begin_3 (by decide) ?_
  refine lv_icmp_ge (tgt := 18) hx hb dX11_begin_5 (by decide) (fun c5 => ?_) (fun c5 => ?_)
  · have hv := hv.1 c5
    exact r_vret hx hb hr hlocks hv hP hS dX11_begin_18
  · have hv := hv.2 c5
    refine lv_aload_n hx hb dX11_begin_8 rfl (lv_at hl 0 rfl) ?_
    refine lv_iload_n hx hb dX11_begin_9 rfl (lv_at hl 1 rfl) ?_
    refine lv_iconst (v := 0) hx hb dX11_begin_10 (by decide) ?_
    obtain ⟨hin, hv⟩ := hv
    refine r_iast hx hb hK.1 hP hD hS h0 hh0.1 (hh0.2 ad cA cZ (s0 h0)) (hh0.2 ad cA cZ _) hin dX11_begin_11 (fun H locs s1 es1 hP hD hS => ?_)
    have hv := hv s1 es1
    refine lv_iinc (v := x1 + 1) (lv' := [(1, .int (x1 + 1)), (0, .ref (ad h0))]) hx hb dX11_begin_12 hl (k := 1) rfl rfl (by decide) rfl (fun ls hl => ?_)
    refine lv_goto (tgt := 2) hx hb dX11_begin_15 (by decide) ?_
    exact hY 2 [x1 + 1] [] s1 hv _ _ rfl H locs ls hP hS (lv_sub hl [1, 0] rfl)
set_option maxHeartbeats 4000000 in
theorem y_X11_begin {p : Program} {l : Launch} {e : Env} {s : State} {m : MethodId} {args : Array Value} {below : List Frame} {meth : Method} {c : Code} {dC : Nat → ClassId} {dI : Nat → Nat → Nat} {ad : Nat → Nat} {cA cZ : ClassId} (hi : Inj 12 ad) (h0 : Nat) (n0 : Nat) (hh0 : isAr h0 n0) (C0 : Cx cX11_begin RX11 wsX11_begin 2 none p s m args meth c) (hK : KK dC dI cA cZ s) (Q : St → Prop) : ∀ P xs ys σ, R_X11_begin h0 n0 Q P xs ys σ → XX p l e ({ frames := 0, cells := 0, slots := 0, locals := 0 } : Room) s m args below meth c (dC, dI) 12 ad (celM ad cA cZ) 2 (ZV below args s (dC, dI) 12 ad (celM ad cA cZ) Q) (lay_X11_begin ad h0 n0) P xs ys σ := by
  refine Fx.elim _ (fun P xs ys σ Y hY hB => ?_)
  rcases hB with ⟨rfl, x1, rfl, rfl, hB⟩
  · intro lv st he H locs ls hP hS hl
    cases he
    exact w_X11_begin_2 hi h0 n0 hh0 C0 hK Q Y hY x1 σ hB hP hS hl
set_option maxHeartbeats 4000000 in
theorem c_X11_begin {l : Launch} {dC : Nat → ClassId} {dI : Nat → Nat → Nat} {ad : Nat → Nat} {cA cZ : ClassId} (hi : Inj 12 ad) (h0 : Nat) (n0 : Nat) (hh0 : isAr h0 n0) (s0 : St) (Q : St → Prop) (hv : V_X11_begin h0 n0 s0 Q) (sz : Nat) : Met l yX11_begin wsX11_begin ({ frames := 0, cells := 0, slots := 0, locals := 0 } : Room) (va_Pc [.ref (ad h0)] (PW dC dI ad cA cZ 12 (celM ad cA cZ) sz s0)) (va_Qv Q (fun u t => va_P (dC, dI) vwCl (wd 12 ad (celM ad cA cZ) u) t.heap) (AA 12 ad sz)) 0 0 (AA 12 ad sz) := by
  refine Met.ofW (cc := cX11_begin) (maxL := 2) (ret := none) (by decide) rfl ?_
  intro p e s m args below meth c s₁ B hml hv0
  obtain ⟨rfl, hsz, hP, hK⟩ := hv0
  subst hsz
  have C0 : Cx cX11_begin RX11 wsX11_begin 2 none p s m ([.ref (ad h0)] : List Value).toArray meth c := ⟨B.exec, B.bytes, hml, findClass_of_methodNamed B.named, atoms_spec (ws := wsX11_begin) B.pre, B.returns, B.notSynchronized⟩
  have hl := lv_entry ([.ref (ad h0)]) (n := 2) (Nat.le_of_ble_eq_true rfl)
  rw [lg_entry_eq]
  generalize (lg_sl ([.ref (ad h0)]) ++ List.replicate (2 - (lg_sl ([.ref (ad h0)])).length) Slot.unset).toArray = ls at hl ⊢
  have hl : lv_has ls 2 [(0, .ref (ad h0))] := hl
  exact w_X11_begin_e hi h0 n0 hh0 C0 hK Q (R_X11_begin h0 n0 Q) (y_X11_begin hi h0 n0 hh0 C0 hK Q)  s0 hv hP va_S.rf hl
def lay_X11_many (ad : Nat → Nat)  : Nat → List Int32 → List Int64 → Option (List (Nat × Value) × List Value) := fun P xs ys => match P, xs, ys with
  | _, _, _ => none
set_option maxHeartbeats 4000000 in
set_option maxRecDepth 100000 in
theorem w_X11_many_e {p : Program} {l : Launch} {e : Env} {s : State} {m : MethodId} {args : Array Value} {below : List Frame} {meth : Method} {c : Code} {dC : Nat → ClassId} {dI : Nat → Nat → Nat} {ad : Nat → Nat} {cA cZ : ClassId} (hi : Inj 12 ad)   (C0 : Cx cX11_many RX11 wsX11_many 1 (some .int) p s m args meth c) (hK : KK dC dI cA cZ s) (Q : Int32 → St → Prop) (Y : Nat → List Int32 → List Int64 → St → Prop) (hY : ∀ P xs ys σ, Y P xs ys σ → XX p l e ({ frames := 0, cells := 0, slots := 0, locals := 0 } : Room) s m args below meth c (dC, dI) 12 ad (celM ad cA cZ) 1 (ZI below args s (dC, dI) 12 ad (celM ad cA cZ) Q) (lay_X11_many ad ) P xs ys σ)  (s0 : St) (hv : B_X11_many_e  Q Y  s0) {H : Heap} {locs : List Loc} {ls : Array Slot} (hP : va_P (dC, dI) vwCl (wd 12 ad (celM ad cA cZ) s0) H) (hS : va_S (AA 12 ad s.heap.size) s.heap H locs) (hl : lv_has ls 1 [(0, .ref (ad 0))]) : W p l e ({ frames := 0, cells := 0, slots := 0, locals := 0 } : Room) s m args below meth c H locs 0 0 (ZI below args s (dC, dI) 12 ad (celM ad cA cZ) Q) (F0 m 0 ls []) := by
  obtain ⟨hx, hb, hml, hown, hts, hr, hlocks⟩ := C0
  have hD := wd_D (s := s) (cel := celM ad cA cZ) (σ := s0) hi
  unfold B_X11_many_e at hv
  refine lv_aload_n hx hb dX11_many_0 rfl (lv_at hl 0 rfl) ?_
  refine r_get hx hb hts (iwX11_many_X11) hown hK.1 hP 0 (by decide) (ceMo_0 (s0 0)) rfl 0 (by decide) (hts _ kX11_many_1) (v := .ref (ad 1)) rfl dX11_many_1 ?_
  refine lv_iconst (v := 0) hx hb dX11_many_4 (by decide) ?_
  refine r_iald hx hb hK.1 hP 1 (by decide) (ceMo_1 (s0 1)) (vp_in_of_dec (by decide)) dX11_many_5 ?_
  exact r_iret hx hb hr hlocks hv hP hS dX11_many_6
set_option maxHeartbeats 4000000 in
theorem y_X11_many {p : Program} {l : Launch} {e : Env} {s : State} {m : MethodId} {args : Array Value} {below : List Frame} {meth : Method} {c : Code} {dC : Nat → ClassId} {dI : Nat → Nat → Nat} {ad : Nat → Nat} {cA cZ : ClassId} (hi : Inj 12 ad)   (C0 : Cx cX11_many RX11 wsX11_many 1 (some .int) p s m args meth c) (hK : KK dC dI cA cZ s) (Q : Int32 → St → Prop) : ∀ P xs ys σ, R_X11_many  Q P xs ys σ → XX p l e ({ frames := 0, cells := 0, slots := 0, locals := 0 } : Room) s m args below meth c (dC, dI) 12 ad (celM ad cA cZ) 1 (ZI below args s (dC, dI) 12 ad (celM ad cA cZ) Q) (lay_X11_many ad ) P xs ys σ := by
  refine Fx.elim _ (fun P xs ys σ Y hY hB => ?_)
  exact hB.elim
set_option maxHeartbeats 4000000 in
theorem c_X11_many {l : Launch} {dC : Nat → ClassId} {dI : Nat → Nat → Nat} {ad : Nat → Nat} {cA cZ : ClassId} (hi : Inj 12 ad)   (s0 : St) (Q : Int32 → St → Prop) (hv : V_X11_many  s0 Q) (sz : Nat) : Met l yX11_many wsX11_many ({ frames := 0, cells := 0, slots := 0, locals := 0 } : Room) (va_Pc [.ref (ad 0)] (PW dC dI ad cA cZ 12 (celM ad cA cZ) sz s0)) (va_Qi Q (fun u t => va_P (dC, dI) vwCl (wd 12 ad (celM ad cA cZ) u) t.heap) (AA 12 ad sz)) 0 0 (AA 12 ad sz) := by
  refine Met.ofW (cc := cX11_many) (maxL := 1) (ret := (some .int)) (by decide) rfl ?_
  intro p e s m args below meth c s₁ B hml hv0
  obtain ⟨rfl, hsz, hP, hK⟩ := hv0
  subst hsz
  have C0 : Cx cX11_many RX11 wsX11_many 1 (some .int) p s m ([.ref (ad 0)] : List Value).toArray meth c := ⟨B.exec, B.bytes, hml, findClass_of_methodNamed B.named, atoms_spec (ws := wsX11_many) B.pre, B.returns, B.notSynchronized⟩
  have hl := lv_entry ([.ref (ad 0)]) (n := 1) (Nat.le_of_ble_eq_true rfl)
  rw [lg_entry_eq]
  generalize (lg_sl ([.ref (ad 0)]) ++ List.replicate (1 - (lg_sl ([.ref (ad 0)])).length) Slot.unset).toArray = ls at hl ⊢
  have hl : lv_has ls 1 [(0, .ref (ad 0))] := hl
  exact w_X11_many_e hi   C0 hK Q (R_X11_many  Q) (y_X11_many hi   C0 hK Q)  s0 hv hP va_S.rf hl
def lay_X11_isGlove (ad : Nat → Nat) (a1 : Int32) : Nat → List Int32 → List Int64 → Option (List (Nat × Value) × List Value) := fun P xs ys => match P, xs, ys with
  | _, _, _ => none
set_option maxHeartbeats 4000000 in
set_option maxRecDepth 100000 in
theorem w_X11_isGlove_e {p : Program} {l : Launch} {e : Env} {s : State} {m : MethodId} {args : Array Value} {below : List Frame} {meth : Method} {c : Code} {dC : Nat → ClassId} {dI : Nat → Nat → Nat} {ad : Nat → Nat} {cA cZ : ClassId} (hi : Inj 12 ad) (a1 : Int32)  (C0 : Cx cX11_isGlove RX11 wsX11_isGlove 2 (some .boolean) p s m args meth c) (hK : KK dC dI cA cZ s) (Q : Int32 → St → Prop) (Y : Nat → List Int32 → List Int64 → St → Prop) (hY : ∀ P xs ys σ, Y P xs ys σ → XX p l e ({ frames := 1, cells := 0, slots := 0, locals := 25 } : Room) s m args below meth c (dC, dI) 12 ad (celM ad cA cZ) 2 (ZZ below args s (dC, dI) 12 ad (celM ad cA cZ) Q) (lay_X11_isGlove ad a1) P xs ys σ)  (s0 : St) (hv : B_X11_isGlove_e a1 Q Y  s0) {H : Heap} {locs : List Loc} {ls : Array Slot} (hP : va_P (dC, dI) vwCl (wd 12 ad (celM ad cA cZ) s0) H) (hS : va_S (AA 12 ad s.heap.size) s.heap H locs) (hl : lv_has ls 2 [(0, .ref (ad 0)), (1, .int a1)]) : W p l e ({ frames := 1, cells := 0, slots := 0, locals := 25 } : Room) s m args below meth c H locs 0 0 (ZZ below args s (dC, dI) 12 ad (celM ad cA cZ) Q) (F0 m 0 ls []) := by
  obtain ⟨hx, hb, hml, hown, hts, hr, hlocks⟩ := C0
  have hD := wd_D (s := s) (cel := celM ad cA cZ) (σ := s0) hi
  unfold B_X11_isGlove_e at hv
  refine lv_iload_n hx hb dX11_isGlove_0 rfl (lv_at hl 1 rfl) ?_
  refine lv_i2l (v := a1.toInt64) hx hb dX11_isGlove_1 rfl ?_
  refine lv_lconst (v := 0) hx hb dX11_isGlove_2 (by decide) ?_
  refine lv_aload_n hx hb dX11_isGlove_3 rfl (lv_at hl 0 rfl) ?_
  refine r_ci (va_runV (As := []) (rest := [.long 0, .long a1.toInt64]) ⟨hx, hb, hml, hown, hts⟩ (c_X11_many hi  s0 _ hv H.size) (cwV 0 hts gX11_isGlove_X11_many rfl rfl rfl (by decide +kernel) ⟨Nat.le_of_ble_eq_true rfl, Nat.le_of_ble_eq_true rfl⟩) ⟨pre_blind, r_recv hK.1 hP 0 (by decide) (ceMo_0 (s0 0)) rfl, pre_of hP hK⟩ rfl rfl hl.1 rfl (lv_room (Nat.le_of_ble_eq_true rfl)) dX11_isGlove_4 ⟨Nat.zero_le _, Nat.zero_le _⟩) hS (fun r1 s1 H locs hv hP hS => ?_)
  have hD := wd_D (s := s) (cel := celM ad cA cZ) (σ := s1) hi
  refine lv_iconst (v := 1) hx hb dX11_isGlove_7 (by decide) ?_
  refine lv_isub hx hb dX11_isGlove_8 ?_
  refine lv_i2l (v := (r1 - 1).toInt64) hx hb dX11_isGlove_9 rfl ?_
  refine r_ci (va_runS (As := [.long a1.toInt64, .long 0, .long ((r1 - 1).toInt64)]) (rest := []) ⟨hx, hb, hml, hown, hts⟩ (c_X11_in hi a1.toInt64 0 ((r1 - 1).toInt64) s1 _ hv H.size) (va_cwS 3 hts gX11_isGlove_X11_in rfl rfl rfl (by decide +kernel) ⟨Nat.le_of_ble_eq_true rfl, Nat.le_of_ble_eq_true rfl⟩) ⟨pre_blind, pre_of hP hK⟩ rfl rfl hl.1 rfl (lv_room (Nat.le_of_ble_eq_true rfl)) dX11_isGlove_10 ⟨Nat.zero_le _, Nat.zero_le _⟩) hS (fun r2 s2 H locs hv hP hS => ?_)
  obtain ⟨hz_r2, hv⟩ := hv
  have hD := wd_D (s := s) (cel := celM ad cA cZ) (σ := s2) hi
  exact r_zret hx hb hr hlocks hz_r2 hv hP hS dX11_isGlove_13
set_option maxHeartbeats 4000000 in
theorem y_X11_isGlove {p : Program} {l : Launch} {e : Env} {s : State} {m : MethodId} {args : Array Value} {below : List Frame} {meth : Method} {c : Code} {dC : Nat → ClassId} {dI : Nat → Nat → Nat} {ad : Nat → Nat} {cA cZ : ClassId} (hi : Inj 12 ad) (a1 : Int32)  (C0 : Cx cX11_isGlove RX11 wsX11_isGlove 2 (some .boolean) p s m args meth c) (hK : KK dC dI cA cZ s) (Q : Int32 → St → Prop) : ∀ P xs ys σ, R_X11_isGlove a1 Q P xs ys σ → XX p l e ({ frames := 1, cells := 0, slots := 0, locals := 25 } : Room) s m args below meth c (dC, dI) 12 ad (celM ad cA cZ) 2 (ZZ below args s (dC, dI) 12 ad (celM ad cA cZ) Q) (lay_X11_isGlove ad a1) P xs ys σ := by
  refine Fx.elim _ (fun P xs ys σ Y hY hB => ?_)
  exact hB.elim
set_option maxHeartbeats 4000000 in
theorem c_X11_isGlove {l : Launch} {dC : Nat → ClassId} {dI : Nat → Nat → Nat} {ad : Nat → Nat} {cA cZ : ClassId} (hi : Inj 12 ad) (a1 : Int32)  (s0 : St) (Q : Int32 → St → Prop) (hv : V_X11_isGlove a1 s0 Q) (sz : Nat) : Met l yX11_isGlove wsX11_isGlove ({ frames := 1, cells := 0, slots := 0, locals := 25 } : Room) (va_Pc [.ref (ad 0), .int a1] (PW dC dI ad cA cZ 12 (celM ad cA cZ) sz s0)) (va_Qi (fun r u => (r = 0 ∨ r = 1) ∧ Q r u) (fun u t => va_P (dC, dI) vwCl (wd 12 ad (celM ad cA cZ) u) t.heap) (AA 12 ad sz)) 0 0 (AA 12 ad sz) := by
  refine Met.ofW (cc := cX11_isGlove) (maxL := 2) (ret := (some .boolean)) (by decide) rfl ?_
  intro p e s m args below meth c s₁ B hml hv0
  obtain ⟨rfl, hsz, hP, hK⟩ := hv0
  subst hsz
  have C0 : Cx cX11_isGlove RX11 wsX11_isGlove 2 (some .boolean) p s m ([.ref (ad 0), .int a1] : List Value).toArray meth c := ⟨B.exec, B.bytes, hml, findClass_of_methodNamed B.named, atoms_spec (ws := wsX11_isGlove) B.pre, B.returns, B.notSynchronized⟩
  have hl := lv_entry ([.ref (ad 0), .int a1]) (n := 2) (Nat.le_of_ble_eq_true rfl)
  rw [lg_entry_eq]
  generalize (lg_sl ([.ref (ad 0), .int a1]) ++ List.replicate (2 - (lg_sl ([.ref (ad 0), .int a1])).length) Slot.unset).toArray = ls at hl ⊢
  have hl : lv_has ls 2 [(0, .ref (ad 0)), (1, .int a1)] := hl
  exact w_X11_isGlove_e hi a1  C0 hK Q (R_X11_isGlove a1 Q) (y_X11_isGlove hi a1  C0 hK Q)  s0 hv hP va_S.rf hl
def lay_X11_isCrossing (ad : Nat → Nat) (a1 : Int32) : Nat → List Int32 → List Int64 → Option (List (Nat × Value) × List Value) := fun P xs ys => match P, xs, ys with
  | _, _, _ => none
set_option maxHeartbeats 4000000 in
set_option maxRecDepth 100000 in
theorem w_X11_isCrossing_e {p : Program} {l : Launch} {e : Env} {s : State} {m : MethodId} {args : Array Value} {below : List Frame} {meth : Method} {c : Code} {dC : Nat → ClassId} {dI : Nat → Nat → Nat} {ad : Nat → Nat} {cA cZ : ClassId} (hi : Inj 12 ad) (a1 : Int32)  (C0 : Cx cX11_isCrossing RX11 wsX11_isCrossing 2 (some .boolean) p s m args meth c) (hK : KK dC dI cA cZ s) (Q : Int32 → St → Prop) (Y : Nat → List Int32 → List Int64 → St → Prop) (hY : ∀ P xs ys σ, Y P xs ys σ → XX p l e ({ frames := 1, cells := 0, slots := 0, locals := 25 } : Room) s m args below meth c (dC, dI) 12 ad (celM ad cA cZ) 2 (ZZ below args s (dC, dI) 12 ad (celM ad cA cZ) Q) (lay_X11_isCrossing ad a1) P xs ys σ)  (s0 : St) (hv : B_X11_isCrossing_e a1 Q Y  s0) {H : Heap} {locs : List Loc} {ls : Array Slot} (hP : va_P (dC, dI) vwCl (wd 12 ad (celM ad cA cZ) s0) H) (hS : va_S (AA 12 ad s.heap.size) s.heap H locs) (hl : lv_has ls 2 [(0, .ref (ad 0)), (1, .int a1)]) : W p l e ({ frames := 1, cells := 0, slots := 0, locals := 25 } : Room) s m args below meth c H locs 0 0 (ZZ below args s (dC, dI) 12 ad (celM ad cA cZ) Q) (F0 m 0 ls []) := by
  obtain ⟨hx, hb, hml, hown, hts, hr, hlocks⟩ := C0
  have hD := wd_D (s := s) (cel := celM ad cA cZ) (σ := s0) hi
  unfold B_X11_isCrossing_e at hv
  refine lv_iload_n hx hb dX11_isCrossing_0 rfl (lv_at hl 1 rfl) ?_
  refine lv_i2l (v := a1.toInt64) hx hb dX11_isCrossing_1 rfl ?_
  refine lv_lconst (v := 0) hx hb dX11_isCrossing_2 (by decide) ?_
  refine lv_aload_n hx hb dX11_isCrossing_3 rfl (lv_at hl 0 rfl) ?_
  refine r_get hx hb hts (iwX11_isCrossing_X11) hown hK.1 hP 0 (by decide) (ceMo_0 (s0 0)) rfl 0 (by decide) (hts _ kX11_isCrossing_1) (v := .ref (ad 1)) rfl dX11_isCrossing_4 ?_
  refine lv_iconst (v := 1) hx hb dX11_isCrossing_7 (by decide) ?_
  refine r_iald hx hb hK.1 hP 1 (by decide) (ceMo_1 (s0 1)) (vp_in_of_dec (by decide)) dX11_isCrossing_8 ?_
  refine lv_iconst (v := 1) hx hb dX11_isCrossing_9 (by decide) ?_
  refine lv_isub hx hb dX11_isCrossing_10 ?_
  refine lv_i2l (v := ((s0 1 1) - 1).toInt64) hx hb dX11_isCrossing_11 rfl ?_
  refine r_ci (va_runS (As := [.long a1.toInt64, .long 0, .long (((s0 1 1) - 1).toInt64)]) (rest := []) ⟨hx, hb, hml, hown, hts⟩ (c_X11_in hi a1.toInt64 0 (((s0 1 1) - 1).toInt64) s0 _ hv H.size) (va_cwS 3 hts gX11_isCrossing_X11_in rfl rfl rfl (by decide +kernel) ⟨Nat.le_of_ble_eq_true rfl, Nat.le_of_ble_eq_true rfl⟩) ⟨pre_blind, pre_of hP hK⟩ rfl rfl hl.1 rfl (lv_room (Nat.le_of_ble_eq_true rfl)) dX11_isCrossing_12 ⟨Nat.zero_le _, Nat.zero_le _⟩) hS (fun r1 s1 H locs hv hP hS => ?_)
  obtain ⟨hz_r1, hv⟩ := hv
  have hD := wd_D (s := s) (cel := celM ad cA cZ) (σ := s1) hi
  exact r_zret hx hb hr hlocks hz_r1 hv hP hS dX11_isCrossing_15
set_option maxHeartbeats 4000000 in
theorem y_X11_isCrossing {p : Program} {l : Launch} {e : Env} {s : State} {m : MethodId} {args : Array Value} {below : List Frame} {meth : Method} {c : Code} {dC : Nat → ClassId} {dI : Nat → Nat → Nat} {ad : Nat → Nat} {cA cZ : ClassId} (hi : Inj 12 ad) (a1 : Int32)  (C0 : Cx cX11_isCrossing RX11 wsX11_isCrossing 2 (some .boolean) p s m args meth c) (hK : KK dC dI cA cZ s) (Q : Int32 → St → Prop) : ∀ P xs ys σ, R_X11_isCrossing a1 Q P xs ys σ → XX p l e ({ frames := 1, cells := 0, slots := 0, locals := 25 } : Room) s m args below meth c (dC, dI) 12 ad (celM ad cA cZ) 2 (ZZ below args s (dC, dI) 12 ad (celM ad cA cZ) Q) (lay_X11_isCrossing ad a1) P xs ys σ := by
  refine Fx.elim _ (fun P xs ys σ Y hY hB => ?_)
  exact hB.elim
set_option maxHeartbeats 4000000 in
theorem c_X11_isCrossing {l : Launch} {dC : Nat → ClassId} {dI : Nat → Nat → Nat} {ad : Nat → Nat} {cA cZ : ClassId} (hi : Inj 12 ad) (a1 : Int32)  (s0 : St) (Q : Int32 → St → Prop) (hv : V_X11_isCrossing a1 s0 Q) (sz : Nat) : Met l yX11_isCrossing wsX11_isCrossing ({ frames := 1, cells := 0, slots := 0, locals := 25 } : Room) (va_Pc [.ref (ad 0), .int a1] (PW dC dI ad cA cZ 12 (celM ad cA cZ) sz s0)) (va_Qi (fun r u => (r = 0 ∨ r = 1) ∧ Q r u) (fun u t => va_P (dC, dI) vwCl (wd 12 ad (celM ad cA cZ) u) t.heap) (AA 12 ad sz)) 0 0 (AA 12 ad sz) := by
  refine Met.ofW (cc := cX11_isCrossing) (maxL := 2) (ret := (some .boolean)) (by decide) rfl ?_
  intro p e s m args below meth c s₁ B hml hv0
  obtain ⟨rfl, hsz, hP, hK⟩ := hv0
  subst hsz
  have C0 : Cx cX11_isCrossing RX11 wsX11_isCrossing 2 (some .boolean) p s m ([.ref (ad 0), .int a1] : List Value).toArray meth c := ⟨B.exec, B.bytes, hml, findClass_of_methodNamed B.named, atoms_spec (ws := wsX11_isCrossing) B.pre, B.returns, B.notSynchronized⟩
  have hl := lv_entry ([.ref (ad 0), .int a1]) (n := 2) (Nat.le_of_ble_eq_true rfl)
  rw [lg_entry_eq]
  generalize (lg_sl ([.ref (ad 0), .int a1]) ++ List.replicate (2 - (lg_sl ([.ref (ad 0), .int a1])).length) Slot.unset).toArray = ls at hl ⊢
  have hl : lv_has ls 2 [(0, .ref (ad 0)), (1, .int a1)] := hl
  exact w_X11_isCrossing_e hi a1  C0 hK Q (R_X11_isCrossing a1 Q) (y_X11_isCrossing hi a1  C0 hK Q)  s0 hv hP va_S.rf hl
def lay_X11_isKind (ad : Nat → Nat) (a0 : Int32) : Nat → List Int32 → List Int64 → Option (List (Nat × Value) × List Value) := fun P xs ys => match P, xs, ys with
  | _, _, _ => none
set_option maxHeartbeats 4000000 in
set_option maxRecDepth 100000 in
theorem w_X11_isKind_e {p : Program} {l : Launch} {e : Env} {s : State} {m : MethodId} {args : Array Value} {below : List Frame} {meth : Method} {c : Code} {dC : Nat → ClassId} {dI : Nat → Nat → Nat} {ad : Nat → Nat} {cA cZ : ClassId} (hi : Inj 12 ad) (a0 : Int32)  (C0 : Cx cX11_isKind RX11 wsX11_isKind 1 (some .boolean) p s m args meth c) (hK : KK dC dI cA cZ s) (Q : Int32 → St → Prop) (Y : Nat → List Int32 → List Int64 → St → Prop) (hY : ∀ P xs ys σ, Y P xs ys σ → XX p l e ({ frames := 1, cells := 0, slots := 0, locals := 25 } : Room) s m args below meth c (dC, dI) 12 ad (celM ad cA cZ) 1 (ZZ below args s (dC, dI) 12 ad (celM ad cA cZ) Q) (lay_X11_isKind ad a0) P xs ys σ)  (s0 : St) (hv : B_X11_isKind_e a0 Q Y  s0) {H : Heap} {locs : List Loc} {ls : Array Slot} (hP : va_P (dC, dI) vwCl (wd 12 ad (celM ad cA cZ) s0) H) (hS : va_S (AA 12 ad s.heap.size) s.heap H locs) (hl : lv_has ls 1 [(0, .int a0)]) : W p l e ({ frames := 1, cells := 0, slots := 0, locals := 25 } : Room) s m args below meth c H locs 0 0 (ZZ below args s (dC, dI) 12 ad (celM ad cA cZ) Q) (F0 m 0 ls []) := by
  obtain ⟨hx, hb, hml, hown, hts, hr, hlocks⟩ := C0
  have hD := wd_D (s := s) (cel := celM ad cA cZ) (σ := s0) hi
  unfold B_X11_isKind_e at hv
  refine lv_iload_n hx hb dX11_isKind_0 rfl (lv_at hl 0 rfl) ?_
  refine lv_i2l (v := a0.toInt64) hx hb dX11_isKind_1 rfl ?_
  refine lv_lconst (v := 0) hx hb dX11_isKind_2 (by decide) ?_
  refine lv_ldc2 (v := 5) hx hb hown (hts _ kX11_isKind_1) dX11_isKind_3 ?_
  refine r_ci (va_runS (As := [.long a0.toInt64, .long 0, .long 5]) (rest := []) ⟨hx, hb, hml, hown, hts⟩ (c_X11_in hi a0.toInt64 0 5 s0 _ hv H.size) (va_cwS 3 hts gX11_isKind_X11_in rfl rfl rfl (by decide +kernel) ⟨Nat.le_of_ble_eq_true rfl, Nat.le_of_ble_eq_true rfl⟩) ⟨pre_blind, pre_of hP hK⟩ rfl rfl hl.1 rfl (lv_room (Nat.le_of_ble_eq_true rfl)) dX11_isKind_6 ⟨Nat.zero_le _, Nat.zero_le _⟩) hS (fun r1 s1 H locs hv hP hS => ?_)
  obtain ⟨hz_r1, hv⟩ := hv
  have hD := wd_D (s := s) (cel := celM ad cA cZ) (σ := s1) hi
  exact r_zret hx hb hr hlocks hz_r1 hv hP hS dX11_isKind_9
set_option maxHeartbeats 4000000 in
theorem y_X11_isKind {p : Program} {l : Launch} {e : Env} {s : State} {m : MethodId} {args : Array Value} {below : List Frame} {meth : Method} {c : Code} {dC : Nat → ClassId} {dI : Nat → Nat → Nat} {ad : Nat → Nat} {cA cZ : ClassId} (hi : Inj 12 ad) (a0 : Int32)  (C0 : Cx cX11_isKind RX11 wsX11_isKind 1 (some .boolean) p s m args meth c) (hK : KK dC dI cA cZ s) (Q : Int32 → St → Prop) : ∀ P xs ys σ, R_X11_isKind a0 Q P xs ys σ → XX p l e ({ frames := 1, cells := 0, slots := 0, locals := 25 } : Room) s m args below meth c (dC, dI) 12 ad (celM ad cA cZ) 1 (ZZ below args s (dC, dI) 12 ad (celM ad cA cZ) Q) (lay_X11_isKind ad a0) P xs ys σ := by
  refine Fx.elim _ (fun P xs ys σ Y hY hB => ?_)
  exact hB.elim
set_option maxHeartbeats 4000000 in
theorem c_X11_isKind {l : Launch} {dC : Nat → ClassId} {dI : Nat → Nat → Nat} {ad : Nat → Nat} {cA cZ : ClassId} (hi : Inj 12 ad) (a0 : Int32)  (s0 : St) (Q : Int32 → St → Prop) (hv : V_X11_isKind a0 s0 Q) (sz : Nat) : Met l yX11_isKind wsX11_isKind ({ frames := 1, cells := 0, slots := 0, locals := 25 } : Room) (va_Pc [.int a0] (PW dC dI ad cA cZ 12 (celM ad cA cZ) sz s0)) (va_Qi (fun r u => (r = 0 ∨ r = 1) ∧ Q r u) (fun u t => va_P (dC, dI) vwCl (wd 12 ad (celM ad cA cZ) u) t.heap) (AA 12 ad sz)) 0 0 (AA 12 ad sz) := by
  refine Met.ofW (cc := cX11_isKind) (maxL := 1) (ret := (some .boolean)) (by decide) rfl ?_
  intro p e s m args below meth c s₁ B hml hv0
  obtain ⟨rfl, hsz, hP, hK⟩ := hv0
  subst hsz
  have C0 : Cx cX11_isKind RX11 wsX11_isKind 1 (some .boolean) p s m ([.int a0] : List Value).toArray meth c := ⟨B.exec, B.bytes, hml, findClass_of_methodNamed B.named, atoms_spec (ws := wsX11_isKind) B.pre, B.returns, B.notSynchronized⟩
  have hl := lv_entry ([.int a0]) (n := 1) (Nat.le_of_ble_eq_true rfl)
  rw [lg_entry_eq]
  generalize (lg_sl ([.int a0]) ++ List.replicate (1 - (lg_sl ([.int a0])).length) Slot.unset).toArray = ls at hl ⊢
  have hl : lv_has ls 1 [(0, .int a0)] := hl
  exact w_X11_isKind_e hi a0  C0 hK Q (R_X11_isKind a0 Q) (y_X11_isKind hi a0  C0 hK Q)  s0 hv hP va_S.rf hl
def lay_X11_isWet (ad : Nat → Nat) (a0 : Int32) : Nat → List Int32 → List Int64 → Option (List (Nat × Value) × List Value) := fun P xs ys => match P, xs, ys with
  | _, _, _ => none
set_option maxHeartbeats 4000000 in
set_option maxRecDepth 100000 in
theorem w_X11_isWet_e {p : Program} {l : Launch} {e : Env} {s : State} {m : MethodId} {args : Array Value} {below : List Frame} {meth : Method} {c : Code} {dC : Nat → ClassId} {dI : Nat → Nat → Nat} {ad : Nat → Nat} {cA cZ : ClassId} (hi : Inj 12 ad) (a0 : Int32)  (C0 : Cx cX11_isWet RX11 wsX11_isWet 1 (some .boolean) p s m args meth c) (hK : KK dC dI cA cZ s) (Q : Int32 → St → Prop) (Y : Nat → List Int32 → List Int64 → St → Prop) (hY : ∀ P xs ys σ, Y P xs ys σ → XX p l e ({ frames := 1, cells := 0, slots := 0, locals := 25 } : Room) s m args below meth c (dC, dI) 12 ad (celM ad cA cZ) 1 (ZZ below args s (dC, dI) 12 ad (celM ad cA cZ) Q) (lay_X11_isWet ad a0) P xs ys σ)  (s0 : St) (hv : B_X11_isWet_e a0 Q Y  s0) {H : Heap} {locs : List Loc} {ls : Array Slot} (hP : va_P (dC, dI) vwCl (wd 12 ad (celM ad cA cZ) s0) H) (hS : va_S (AA 12 ad s.heap.size) s.heap H locs) (hl : lv_has ls 1 [(0, .int a0)]) : W p l e ({ frames := 1, cells := 0, slots := 0, locals := 25 } : Room) s m args below meth c H locs 0 0 (ZZ below args s (dC, dI) 12 ad (celM ad cA cZ) Q) (F0 m 0 ls []) := by
  obtain ⟨hx, hb, hml, hown, hts, hr, hlocks⟩ := C0
  have hD := wd_D (s := s) (cel := celM ad cA cZ) (σ := s0) hi
  unfold B_X11_isWet_e at hv
  refine lv_iload_n hx hb dX11_isWet_0 rfl (lv_at hl 0 rfl) ?_
  refine lv_i2l (v := a0.toInt64) hx hb dX11_isWet_1 rfl ?_
  refine lv_lconst (v := 0) hx hb dX11_isWet_2 (by decide) ?_
  refine lv_ldc2 (v := 4) hx hb hown (hts _ kX11_isWet_1) dX11_isWet_3 ?_
  refine r_ci (va_runS (As := [.long a0.toInt64, .long 0, .long 4]) (rest := []) ⟨hx, hb, hml, hown, hts⟩ (c_X11_in hi a0.toInt64 0 4 s0 _ hv H.size) (va_cwS 3 hts gX11_isWet_X11_in rfl rfl rfl (by decide +kernel) ⟨Nat.le_of_ble_eq_true rfl, Nat.le_of_ble_eq_true rfl⟩) ⟨pre_blind, pre_of hP hK⟩ rfl rfl hl.1 rfl (lv_room (Nat.le_of_ble_eq_true rfl)) dX11_isWet_6 ⟨Nat.zero_le _, Nat.zero_le _⟩) hS (fun r1 s1 H locs hv hP hS => ?_)
  obtain ⟨hz_r1, hv⟩ := hv
  have hD := wd_D (s := s) (cel := celM ad cA cZ) (σ := s1) hi
  exact r_zret hx hb hr hlocks hz_r1 hv hP hS dX11_isWet_9
set_option maxHeartbeats 4000000 in
theorem y_X11_isWet {p : Program} {l : Launch} {e : Env} {s : State} {m : MethodId} {args : Array Value} {below : List Frame} {meth : Method} {c : Code} {dC : Nat → ClassId} {dI : Nat → Nat → Nat} {ad : Nat → Nat} {cA cZ : ClassId} (hi : Inj 12 ad) (a0 : Int32)  (C0 : Cx cX11_isWet RX11 wsX11_isWet 1 (some .boolean) p s m args meth c) (hK : KK dC dI cA cZ s) (Q : Int32 → St → Prop) : ∀ P xs ys σ, R_X11_isWet a0 Q P xs ys σ → XX p l e ({ frames := 1, cells := 0, slots := 0, locals := 25 } : Room) s m args below meth c (dC, dI) 12 ad (celM ad cA cZ) 1 (ZZ below args s (dC, dI) 12 ad (celM ad cA cZ) Q) (lay_X11_isWet ad a0) P xs ys σ := by
  refine Fx.elim _ (fun P xs ys σ Y hY hB => ?_)
  exact hB.elim
set_option maxHeartbeats 4000000 in
theorem c_X11_isWet {l : Launch} {dC : Nat → ClassId} {dI : Nat → Nat → Nat} {ad : Nat → Nat} {cA cZ : ClassId} (hi : Inj 12 ad) (a0 : Int32)  (s0 : St) (Q : Int32 → St → Prop) (hv : V_X11_isWet a0 s0 Q) (sz : Nat) : Met l yX11_isWet wsX11_isWet ({ frames := 1, cells := 0, slots := 0, locals := 25 } : Room) (va_Pc [.int a0] (PW dC dI ad cA cZ 12 (celM ad cA cZ) sz s0)) (va_Qi (fun r u => (r = 0 ∨ r = 1) ∧ Q r u) (fun u t => va_P (dC, dI) vwCl (wd 12 ad (celM ad cA cZ) u) t.heap) (AA 12 ad sz)) 0 0 (AA 12 ad sz) := by
  refine Met.ofW (cc := cX11_isWet) (maxL := 1) (ret := (some .boolean)) (by decide) rfl ?_
  intro p e s m args below meth c s₁ B hml hv0
  obtain ⟨rfl, hsz, hP, hK⟩ := hv0
  subst hsz
  have C0 : Cx cX11_isWet RX11 wsX11_isWet 1 (some .boolean) p s m ([.int a0] : List Value).toArray meth c := ⟨B.exec, B.bytes, hml, findClass_of_methodNamed B.named, atoms_spec (ws := wsX11_isWet) B.pre, B.returns, B.notSynchronized⟩
  have hl := lv_entry ([.int a0]) (n := 1) (Nat.le_of_ble_eq_true rfl)
  rw [lg_entry_eq]
  generalize (lg_sl ([.int a0]) ++ List.replicate (1 - (lg_sl ([.int a0])).length) Slot.unset).toArray = ls at hl ⊢
  have hl : lv_has ls 1 [(0, .int a0)] := hl
  exact w_X11_isWet_e hi a0  C0 hK Q (R_X11_isWet a0 Q) (y_X11_isWet hi a0  C0 hK Q)  s0 hv hP va_S.rf hl
def lay_X11_isMark (ad : Nat → Nat) (a0 : Int32) : Nat → List Int32 → List Int64 → Option (List (Nat × Value) × List Value) := fun P xs ys => match P, xs, ys with
  | _, _, _ => none
set_option maxHeartbeats 4000000 in
set_option maxRecDepth 100000 in
theorem w_X11_isMark_e {p : Program} {l : Launch} {e : Env} {s : State} {m : MethodId} {args : Array Value} {below : List Frame} {meth : Method} {c : Code} {dC : Nat → ClassId} {dI : Nat → Nat → Nat} {ad : Nat → Nat} {cA cZ : ClassId} (hi : Inj 12 ad) (a0 : Int32)  (C0 : Cx cX11_isMark RX11 wsX11_isMark 1 (some .boolean) p s m args meth c) (hK : KK dC dI cA cZ s) (Q : Int32 → St → Prop) (Y : Nat → List Int32 → List Int64 → St → Prop) (hY : ∀ P xs ys σ, Y P xs ys σ → XX p l e ({ frames := 1, cells := 0, slots := 0, locals := 25 } : Room) s m args below meth c (dC, dI) 12 ad (celM ad cA cZ) 1 (ZZ below args s (dC, dI) 12 ad (celM ad cA cZ) Q) (lay_X11_isMark ad a0) P xs ys σ)  (s0 : St) (hv : B_X11_isMark_e a0 Q Y  s0) {H : Heap} {locs : List Loc} {ls : Array Slot} (hP : va_P (dC, dI) vwCl (wd 12 ad (celM ad cA cZ) s0) H) (hS : va_S (AA 12 ad s.heap.size) s.heap H locs) (hl : lv_has ls 1 [(0, .int a0)]) : W p l e ({ frames := 1, cells := 0, slots := 0, locals := 25 } : Room) s m args below meth c H locs 0 0 (ZZ below args s (dC, dI) 12 ad (celM ad cA cZ) Q) (F0 m 0 ls []) := by
  obtain ⟨hx, hb, hml, hown, hts, hr, hlocks⟩ := C0
  have hD := wd_D (s := s) (cel := celM ad cA cZ) (σ := s0) hi
  unfold B_X11_isMark_e at hv
  refine lv_iload_n hx hb dX11_isMark_0 rfl (lv_at hl 0 rfl) ?_
  refine lv_i2l (v := a0.toInt64) hx hb dX11_isMark_1 rfl ?_
  refine lv_lconst (v := 1) hx hb dX11_isMark_2 (by decide) ?_
  refine lv_ldc2 (v := 9) hx hb hown (hts _ kX11_isMark_1) dX11_isMark_3 ?_
  refine r_ci (va_runS (As := [.long a0.toInt64, .long 1, .long 9]) (rest := []) ⟨hx, hb, hml, hown, hts⟩ (c_X11_in hi a0.toInt64 1 9 s0 _ hv H.size) (va_cwS 3 hts gX11_isMark_X11_in rfl rfl rfl (by decide +kernel) ⟨Nat.le_of_ble_eq_true rfl, Nat.le_of_ble_eq_true rfl⟩) ⟨pre_blind, pre_of hP hK⟩ rfl rfl hl.1 rfl (lv_room (Nat.le_of_ble_eq_true rfl)) dX11_isMark_6 ⟨Nat.zero_le _, Nat.zero_le _⟩) hS (fun r1 s1 H locs hv hP hS => ?_)
  obtain ⟨hz_r1, hv⟩ := hv
  have hD := wd_D (s := s) (cel := celM ad cA cZ) (σ := s1) hi
  exact r_zret hx hb hr hlocks hz_r1 hv hP hS dX11_isMark_9
set_option maxHeartbeats 4000000 in
theorem y_X11_isMark {p : Program} {l : Launch} {e : Env} {s : State} {m : MethodId} {args : Array Value} {below : List Frame} {meth : Method} {c : Code} {dC : Nat → ClassId} {dI : Nat → Nat → Nat} {ad : Nat → Nat} {cA cZ : ClassId} (hi : Inj 12 ad) (a0 : Int32)  (C0 : Cx cX11_isMark RX11 wsX11_isMark 1 (some .boolean) p s m args meth c) (hK : KK dC dI cA cZ s) (Q : Int32 → St → Prop) : ∀ P xs ys σ, R_X11_isMark a0 Q P xs ys σ → XX p l e ({ frames := 1, cells := 0, slots := 0, locals := 25 } : Room) s m args below meth c (dC, dI) 12 ad (celM ad cA cZ) 1 (ZZ below args s (dC, dI) 12 ad (celM ad cA cZ) Q) (lay_X11_isMark ad a0) P xs ys σ := by
  refine Fx.elim _ (fun P xs ys σ Y hY hB => ?_)
  exact hB.elim
set_option maxHeartbeats 4000000 in
theorem c_X11_isMark {l : Launch} {dC : Nat → ClassId} {dI : Nat → Nat → Nat} {ad : Nat → Nat} {cA cZ : ClassId} (hi : Inj 12 ad) (a0 : Int32)  (s0 : St) (Q : Int32 → St → Prop) (hv : V_X11_isMark a0 s0 Q) (sz : Nat) : Met l yX11_isMark wsX11_isMark ({ frames := 1, cells := 0, slots := 0, locals := 25 } : Room) (va_Pc [.int a0] (PW dC dI ad cA cZ 12 (celM ad cA cZ) sz s0)) (va_Qi (fun r u => (r = 0 ∨ r = 1) ∧ Q r u) (fun u t => va_P (dC, dI) vwCl (wd 12 ad (celM ad cA cZ) u) t.heap) (AA 12 ad sz)) 0 0 (AA 12 ad sz) := by
  refine Met.ofW (cc := cX11_isMark) (maxL := 1) (ret := (some .boolean)) (by decide) rfl ?_
  intro p e s m args below meth c s₁ B hml hv0
  obtain ⟨rfl, hsz, hP, hK⟩ := hv0
  subst hsz
  have C0 : Cx cX11_isMark RX11 wsX11_isMark 1 (some .boolean) p s m ([.int a0] : List Value).toArray meth c := ⟨B.exec, B.bytes, hml, findClass_of_methodNamed B.named, atoms_spec (ws := wsX11_isMark) B.pre, B.returns, B.notSynchronized⟩
  have hl := lv_entry ([.int a0]) (n := 1) (Nat.le_of_ble_eq_true rfl)
  rw [lg_entry_eq]
  generalize (lg_sl ([.int a0]) ++ List.replicate (1 - (lg_sl ([.int a0])).length) Slot.unset).toArray = ls at hl ⊢
  have hl : lv_has ls 1 [(0, .int a0)] := hl
  exact w_X11_isMark_e hi a0  C0 hK Q (R_X11_isMark a0 Q) (y_X11_isMark hi a0  C0 hK Q)  s0 hv hP va_S.rf hl
def lay_X11_behind (ad : Nat → Nat) (h0 : Nat) (n0 : Nat) (a1 : Int32) : Nat → List Int32 → List Int64 → Option (List (Nat × Value) × List Value) := fun P xs ys => match P, xs, ys with
  | 2, [x2], [] => some ([(0, .ref (ad h0)), (1, .int a1), (2, .int x2)], [])
  | _, _, _ => none
set_option maxHeartbeats 4000000 in
set_option maxRecDepth 100000 in
theorem w_X11_behind_e {p : Program} {l : Launch} {e : Env} {s : State} {m : MethodId} {args : Array Value} {below : List Frame} {meth : Method} {c : Code} {dC : Nat → ClassId} {dI : Nat → Nat → Nat} {ad : Nat → Nat} {cA cZ : ClassId} (hi : Inj 12 ad) (h0 : Nat) (n0 : Nat) (a1 : Int32) (hh0 : isAr h0 n0) (C0 : Cx cX11_behind RX11 wsX11_behind 3 (some .int) p s m args meth c) (hK : KK dC dI cA cZ s) (Q : Int32 → St → Prop) (Y : Nat → List Int32 → List Int64 → St → Prop) (hY : ∀ P xs ys σ, Y P xs ys σ → XX p l e ({ frames := 0, cells := 0, slots := 0, locals := 0 } : Room) s m args below meth c (dC, dI) 12 ad (celM ad cA cZ) 3 (ZI below args s (dC, dI) 12 ad (celM ad cA cZ) Q) (lay_X11_behind ad h0 n0 a1) P xs ys σ)  (s0 : St) (hv : B_X11_behind_e h0 n0 a1 Q Y  s0) {H : Heap} {locs : List Loc} {ls : Array Slot} (hP : va_P (dC, dI) vwCl (wd 12 ad (celM ad cA cZ) s0) H) (hS : va_S (AA 12 ad s.heap.size) s.heap H locs) (hl : lv_has ls 3 [(0, .ref (ad h0)), (1, .int a1)]) : W p l e ({ frames := 0, cells := 0, slots := 0, locals := 0 } : Room) s m args below meth c H locs 0 0 (ZI below args s (dC, dI) 12 ad (celM ad cA cZ) Q) (F0 m 0 ls []) := by
  obtain ⟨hx, hb, hml, hown, hts, hr, hlocks⟩ := C0
  have hD := wd_D (s := s) (cel := celM ad cA cZ) (σ := s0) hi
  unfold B_X11_behind_e at hv
  refine lv_iconst (v := 0) hx hb dX11_behind_0 (by decide) ?_
  refine lv_istore_n (lv' := [(2, .int 0), (0, .ref (ad h0)), (1, .int a1)]) hx hb dX11_behind_1 rfl hl (by decide) rfl (fun ls hl => ?_)
  exact hY 2 [0] [] s0 hv _ _ rfl H locs ls hP hS (lv_sub hl [1, 2, 0] rfl)
set_option maxHeartbeats 4000000 in
set_option maxRecDepth 100000 in
theorem w_X11_behind_2 {p : Program} {l : Launch} {e : Env} {s : State} {m : MethodId} {args : Array Value} {below : List Frame} {meth : Method} {c : Code} {dC : Nat → ClassId} {dI : Nat → Nat → Nat} {ad : Nat → Nat} {cA cZ : ClassId} (hi : Inj 12 ad) (h0 : Nat) (n0 : Nat) (a1 : Int32) (hh0 : isAr h0 n0) (C0 : Cx cX11_behind RX11 wsX11_behind 3 (some .int) p s m args meth c) (hK : KK dC dI cA cZ s) (Q : Int32 → St → Prop) (Y : Nat → List Int32 → List Int64 → St → Prop) (hY : ∀ P xs ys σ, Y P xs ys σ → XX p l e ({ frames := 0, cells := 0, slots := 0, locals := 0 } : Room) s m args below meth c (dC, dI) 12 ad (celM ad cA cZ) 3 (ZI below args s (dC, dI) 12 ad (celM ad cA cZ) Q) (lay_X11_behind ad h0 n0 a1) P xs ys σ) (x2 : Int32) (s0 : St) (hv : B_X11_behind_2 h0 n0 a1 Q Y x2 s0) {H : Heap} {locs : List Loc} {ls : Array Slot} (hP : va_P (dC, dI) vwCl (wd 12 ad (celM ad cA cZ) s0) H) (hS : va_S (AA 12 ad s.heap.size) s.heap H locs) (hl : lv_has ls 3 [(0, .ref (ad h0)), (1, .int a1), (2, .int x2)]) : W p l e ({ frames := 0, cells := 0, slots := 0, locals := 0 } : Room) s m args below meth c H locs 0 0 (ZI below args s (dC, dI) 12 ad (celM ad cA cZ) Q) (F0 m 2 ls []) := by
  obtain ⟨hx, hb, hml, hown, hts, hr, hlocks⟩ := C0
  have hD := wd_D (s := s) (cel := celM ad cA cZ) (σ := s0) hi
  unfold B_X11_behind_2 at hv
  refine lv_iload_n hx hb dX11_behind_2 rfl (lv_at hl 2 rfl) ?_
  refine lv_aload_n hx hb dX11_behind_3 rfl (lv_at hl 0 rfl) ?_
  refine lv_iconst (v := 1) hx hb dX11_behind_4 (by decide) ?_
  obtain ⟨hin, hv⟩ := hv
  refine r_iald hx hb hK.1 hP h0 hh0.1 (hh0.2 ad cA cZ (s0 h0)) hin dX11_behind_5 ?_
  refine lv_icmp_ge (tgt := 27) hx hb dX11_behind_6 (by decide) (fun c6 => ?_) (fun c6 => ?_)
  · have hv := hv.1 c6
    refine lv_iconst (v := (-1)) hx hb dX11_behind_27 (by decide) ?_
    exact r_iret hx hb hr hlocks hv hP hS dX11_behind_28
  · have hv := hv.2 c6
    refine lv_aload_n hx hb dX11_behind_9 rfl (lv_at hl 0 rfl) ?_
    refine lv_bipush (v := 40) hx hb dX11_behind_10 (by decide) ?_
    refine lv_iload_n hx hb dX11_behind_12 rfl (lv_at hl 2 rfl) ?_
    refine lv_iadd hx hb dX11_behind_13 ?_
    obtain ⟨hin, hv⟩ := hv
    refine r_iald hx hb hK.1 hP h0 hh0.1 (hh0.2 ad cA cZ (s0 h0)) hin dX11_behind_14 ?_
    refine lv_iload_n hx hb dX11_behind_15 rfl (lv_at hl 1 rfl) ?_
    refine lv_icmp_ne (tgt := 21) hx hb dX11_behind_16 (by decide) (fun c16 => ?_) (fun c16 => ?_)
    · have hv := hv.1 c16
      refine lv_iinc (v := x2 + 1) (lv' := [(2, .int (x2 + 1)), (0, .ref (ad h0)), (1, .int a1)]) hx hb dX11_behind_21 hl (k := 2) rfl rfl (by decide) rfl (fun ls hl => ?_)
      refine lv_goto (tgt := 2) hx hb dX11_behind_24 (by decide) ?_
      exact hY 2 [x2 + 1] [] s0 hv _ _ rfl H locs ls hP hS (lv_sub hl [1, 2, 0] rfl)
    · have hv := hv.2 c16
      refine lv_iload_n hx hb dX11_behind_19 rfl (lv_at hl 2 rfl) ?_
      exact r_iret hx hb hr hlocks hv hP hS dX11_behind_20
set_option maxHeartbeats 4000000 in
theorem y_X11_behind {p : Program} {l : Launch} {e : Env} {s : State} {m : MethodId} {args : Array Value} {below : List Frame} {meth : Method} {c : Code} {dC : Nat → ClassId} {dI : Nat → Nat → Nat} {ad : Nat → Nat} {cA cZ : ClassId} (hi : Inj 12 ad) (h0 : Nat) (n0 : Nat) (a1 : Int32) (hh0 : isAr h0 n0) (C0 : Cx cX11_behind RX11 wsX11_behind 3 (some .int) p s m args meth c) (hK : KK dC dI cA cZ s) (Q : Int32 → St → Prop) : ∀ P xs ys σ, R_X11_behind h0 n0 a1 Q P xs ys σ → XX p l e ({ frames := 0, cells := 0, slots := 0, locals := 0 } : Room) s m args below meth c (dC, dI) 12 ad (celM ad cA cZ) 3 (ZI below args s (dC, dI) 12 ad (celM ad cA cZ) Q) (lay_X11_behind ad h0 n0 a1) P xs ys σ := by
  refine Fx.elim _ (fun P xs ys σ Y hY hB => ?_)
  rcases hB with ⟨rfl, x2, rfl, rfl, hB⟩
  · intro lv st he H locs ls hP hS hl
    cases he
    exact w_X11_behind_2 hi h0 n0 a1 hh0 C0 hK Q Y hY x2 σ hB hP hS hl
set_option maxHeartbeats 4000000 in
theorem c_X11_behind {l : Launch} {dC : Nat → ClassId} {dI : Nat → Nat → Nat} {ad : Nat → Nat} {cA cZ : ClassId} (hi : Inj 12 ad) (h0 : Nat) (n0 : Nat) (a1 : Int32) (hh0 : isAr h0 n0) (s0 : St) (Q : Int32 → St → Prop) (hv : V_X11_behind h0 n0 a1 s0 Q) (sz : Nat) : Met l yX11_behind wsX11_behind ({ frames := 0, cells := 0, slots := 0, locals := 0 } : Room) (va_Pc [.ref (ad h0), .int a1] (PW dC dI ad cA cZ 12 (celM ad cA cZ) sz s0)) (va_Qi Q (fun u t => va_P (dC, dI) vwCl (wd 12 ad (celM ad cA cZ) u) t.heap) (AA 12 ad sz)) 0 0 (AA 12 ad sz) := by
  refine Met.ofW (cc := cX11_behind) (maxL := 3) (ret := (some .int)) (by decide) rfl ?_
  intro p e s m args below meth c s₁ B hml hv0
  obtain ⟨rfl, hsz, hP, hK⟩ := hv0
  subst hsz
  have C0 : Cx cX11_behind RX11 wsX11_behind 3 (some .int) p s m ([.ref (ad h0), .int a1] : List Value).toArray meth c := ⟨B.exec, B.bytes, hml, findClass_of_methodNamed B.named, atoms_spec (ws := wsX11_behind) B.pre, B.returns, B.notSynchronized⟩
  have hl := lv_entry ([.ref (ad h0), .int a1]) (n := 3) (Nat.le_of_ble_eq_true rfl)
  rw [lg_entry_eq]
  generalize (lg_sl ([.ref (ad h0), .int a1]) ++ List.replicate (3 - (lg_sl ([.ref (ad h0), .int a1])).length) Slot.unset).toArray = ls at hl ⊢
  have hl : lv_has ls 3 [(0, .ref (ad h0)), (1, .int a1)] := hl
  exact w_X11_behind_e hi h0 n0 a1 hh0 C0 hK Q (R_X11_behind h0 n0 a1 Q) (y_X11_behind hi h0 n0 a1 hh0 C0 hK Q)  s0 hv hP va_S.rf hl
def lay_X11_street (ad : Nat → Nat)  : Nat → List Int32 → List Int64 → Option (List (Nat × Value) × List Value) := fun P xs ys => match P, xs, ys with
  | _, _, _ => none
set_option maxHeartbeats 4000000 in
set_option maxRecDepth 100000 in
theorem w_X11_street_e {p : Program} {l : Launch} {e : Env} {s : State} {m : MethodId} {args : Array Value} {below : List Frame} {meth : Method} {c : Code} {dC : Nat → ClassId} {dI : Nat → Nat → Nat} {ad : Nat → Nat} {cA cZ : ClassId} (hi : Inj 12 ad)   (C0 : Cx cX11_street RX11 wsX11_street 2 (some .int) p s m args meth c) (hK : KK dC dI cA cZ s) (Q : Int32 → St → Prop) (Y : Nat → List Int32 → List Int64 → St → Prop) (hY : ∀ P xs ys σ, Y P xs ys σ → XX p l e ({ frames := 1, cells := 0, slots := 0, locals := 21 } : Room) s m args below meth c (dC, dI) 12 ad (celM ad cA cZ) 2 (ZI below args s (dC, dI) 12 ad (celM ad cA cZ) Q) (lay_X11_street ad ) P xs ys σ)  (s0 : St) (hv : B_X11_street_e  Q Y  s0) {H : Heap} {locs : List Loc} {ls : Array Slot} (hP : va_P (dC, dI) vwCl (wd 12 ad (celM ad cA cZ) s0) H) (hS : va_S (AA 12 ad s.heap.size) s.heap H locs) (hl : lv_has ls 2 [(0, .ref (ad 0))]) : W p l e ({ frames := 1, cells := 0, slots := 0, locals := 21 } : Room) s m args below meth c H locs 0 0 (ZI below args s (dC, dI) 12 ad (celM ad cA cZ) Q) (F0 m 0 ls []) := by
  obtain ⟨hx, hb, hml, hown, hts, hr, hlocks⟩ := C0
  have hD := wd_D (s := s) (cel := celM ad cA cZ) (σ := s0) hi
  unfold B_X11_street_e at hv
  refine lv_aload_n hx hb dX11_street_0 rfl (lv_at hl 0 rfl) ?_
  refine r_ci (va_runV (As := []) (rest := []) ⟨hx, hb, hml, hown, hts⟩ (c_X11_many hi  s0 _ hv H.size) (cwV 0 hts gX11_street_X11_many rfl rfl rfl (by decide +kernel) ⟨Nat.le_of_ble_eq_true rfl, Nat.le_of_ble_eq_true rfl⟩) ⟨pre_blind, r_recv hK.1 hP 0 (by decide) (ceMo_0 (s0 0)) rfl, pre_of hP hK⟩ rfl rfl hl.1 rfl (lv_room (Nat.le_of_ble_eq_true rfl)) dX11_street_1 ⟨Nat.zero_le _, Nat.zero_le _⟩) hS (fun r1 s1 H locs hv hP hS => ?_)
  have hD := wd_D (s := s) (cel := celM ad cA cZ) (σ := s1) hi
  refine lv_istore_n (lv' := [(1, .int r1), (0, .ref (ad 0))]) hx hb dX11_street_4 rfl hl (by decide) rfl (fun ls hl => ?_)
  refine lv_aload_n hx hb dX11_street_5 rfl (lv_at hl 1 rfl) ?_
  refine r_get hx hb hts (iwX11_street_X11) hown hK.1 hP 0 (by decide) (ceMo_0 (s1 0)) rfl 0 (by decide) (hts _ kX11_street_1) (v := .ref (ad 1)) rfl dX11_street_6 ?_
  refine r_cv (va_runS (As := [.ref (ad 1)]) (rest := []) ⟨hx, hb, hml, hown, hts⟩ (c_X11_begin hi 1 181 arM_1 s1 _ hv H.size) (va_cwS 1 hts gX11_street_X11_begin rfl rfl rfl (by decide +kernel) ⟨Nat.le_of_ble_eq_true rfl, Nat.le_of_ble_eq_true rfl⟩) ⟨pre_blind, pre_of hP hK⟩ rfl rfl hl.1 rfl (lv_room (Nat.le_of_ble_eq_true rfl)) dX11_street_9 ⟨Nat.zero_le _, Nat.zero_le _⟩) hS (fun s2 H locs hv hP hS => ?_)
  have hD := wd_D (s := s) (cel := celM ad cA cZ) (σ := s2) hi
  refine lv_iload_n hx hb dX11_street_12 rfl (lv_at hl 0 rfl) ?_
  exact r_iret hx hb hr hlocks hv hP hS dX11_street_13
set_option maxHeartbeats 4000000 in
theorem y_X11_street {p : Program} {l : Launch} {e : Env} {s : State} {m : MethodId} {args : Array Value} {below : List Frame} {meth : Method} {c : Code} {dC : Nat → ClassId} {dI : Nat → Nat → Nat} {ad : Nat → Nat} {cA cZ : ClassId} (hi : Inj 12 ad)   (C0 : Cx cX11_street RX11 wsX11_street 2 (some .int) p s m args meth c) (hK : KK dC dI cA cZ s) (Q : Int32 → St → Prop) : ∀ P xs ys σ, R_X11_street  Q P xs ys σ → XX p l e ({ frames := 1, cells := 0, slots := 0, locals := 21 } : Room) s m args below meth c (dC, dI) 12 ad (celM ad cA cZ) 2 (ZI below args s (dC, dI) 12 ad (celM ad cA cZ) Q) (lay_X11_street ad ) P xs ys σ := by
  refine Fx.elim _ (fun P xs ys σ Y hY hB => ?_)
  exact hB.elim
set_option maxHeartbeats 4000000 in
theorem c_X11_street {l : Launch} {dC : Nat → ClassId} {dI : Nat → Nat → Nat} {ad : Nat → Nat} {cA cZ : ClassId} (hi : Inj 12 ad)   (s0 : St) (Q : Int32 → St → Prop) (hv : V_X11_street  s0 Q) (sz : Nat) : Met l yX11_street wsX11_street ({ frames := 1, cells := 0, slots := 0, locals := 21 } : Room) (va_Pc [.ref (ad 0)] (PW dC dI ad cA cZ 12 (celM ad cA cZ) sz s0)) (va_Qi Q (fun u t => va_P (dC, dI) vwCl (wd 12 ad (celM ad cA cZ) u) t.heap) (AA 12 ad sz)) 0 0 (AA 12 ad sz) := by
  refine Met.ofW (cc := cX11_street) (maxL := 2) (ret := (some .int)) (by decide) rfl ?_
  intro p e s m args below meth c s₁ B hml hv0
  obtain ⟨rfl, hsz, hP, hK⟩ := hv0
  subst hsz
  have C0 : Cx cX11_street RX11 wsX11_street 2 (some .int) p s m ([.ref (ad 0)] : List Value).toArray meth c := ⟨B.exec, B.bytes, hml, findClass_of_methodNamed B.named, atoms_spec (ws := wsX11_street) B.pre, B.returns, B.notSynchronized⟩
  have hl := lv_entry ([.ref (ad 0)]) (n := 2) (Nat.le_of_ble_eq_true rfl)
  rw [lg_entry_eq]
  generalize (lg_sl ([.ref (ad 0)]) ++ List.replicate (2 - (lg_sl ([.ref (ad 0)])).length) Slot.unset).toArray = ls at hl ⊢
  have hl : lv_has ls 2 [(0, .ref (ad 0))] := hl
  exact w_X11_street_e hi   C0 hK Q (R_X11_street  Q) (y_X11_street hi   C0 hK Q)  s0 hv hP va_S.rf hl
def lay_X11_wet (ad : Nat → Nat) (a1 : Int32) (a2 : Int32) : Nat → List Int32 → List Int64 → Option (List (Nat × Value) × List Value) := fun P xs ys => match P, xs, ys with
  | 19, [], [] => some ([(0, .ref (ad 0))], [])
  | _, _, _ => none
set_option maxHeartbeats 4000000 in
set_option maxRecDepth 100000 in
theorem w_X11_wet_e {p : Program} {l : Launch} {e : Env} {s : State} {m : MethodId} {args : Array Value} {below : List Frame} {meth : Method} {c : Code} {dC : Nat → ClassId} {dI : Nat → Nat → Nat} {ad : Nat → Nat} {cA cZ : ClassId} (hi : Inj 12 ad) (a1 : Int32) (a2 : Int32)  (C0 : Cx cX11_wet RX11 wsX11_wet 4 (some .int) p s m args meth c) (hK : KK dC dI cA cZ s) (Q : Int32 → St → Prop) (Y : Nat → List Int32 → List Int64 → St → Prop) (hY : ∀ P xs ys σ, Y P xs ys σ → XX p l e ({ frames := 2, cells := 0, slots := 0, locals := 45 } : Room) s m args below meth c (dC, dI) 12 ad (celM ad cA cZ) 4 (ZI below args s (dC, dI) 12 ad (celM ad cA cZ) Q) (lay_X11_wet ad a1 a2) P xs ys σ)  (s0 : St) (hv : B_X11_wet_e a1 a2 Q Y  s0) {H : Heap} {locs : List Loc} {ls : Array Slot} (hP : va_P (dC, dI) vwCl (wd 12 ad (celM ad cA cZ) s0) H) (hS : va_S (AA 12 ad s.heap.size) s.heap H locs) (hl : lv_has ls 4 [(0, .ref (ad 0)), (1, .int a1), (2, .int a2)]) : W p l e ({ frames := 2, cells := 0, slots := 0, locals := 45 } : Room) s m args below meth c H locs 0 0 (ZI below args s (dC, dI) 12 ad (celM ad cA cZ) Q) (F0 m 0 ls []) := by
  obtain ⟨hx, hb, hml, hown, hts, hr, hlocks⟩ := C0
  have hD := wd_D (s := s) (cel := celM ad cA cZ) (σ := s0) hi
  unfold B_X11_wet_e at hv
  refine lv_iload_n hx hb dX11_wet_0 rfl (lv_at hl 1 rfl) ?_
  refine lv_i2l (v := a1.toInt64) hx hb dX11_wet_1 rfl ?_
  refine lv_lconst (v := 0) hx hb dX11_wet_2 (by decide) ?_
  refine lv_ldc2 (v := 5) hx hb hown (hts _ kX11_wet_1) dX11_wet_3 ?_
  refine r_ci (va_runS (As := [.long a1.toInt64, .long 0, .long 5]) (rest := []) ⟨hx, hb, hml, hown, hts⟩ (c_X11_in hi a1.toInt64 0 5 s0 _ hv H.size) (va_cwS 3 hts gX11_wet_X11_in rfl rfl rfl (by decide +kernel) ⟨Nat.le_of_ble_eq_true rfl, Nat.le_of_ble_eq_true rfl⟩) ⟨pre_blind, pre_of hP hK⟩ rfl rfl hl.1 rfl (lv_room (Nat.le_of_ble_eq_true rfl)) dX11_wet_6 ⟨Nat.zero_le _, Nat.zero_le _⟩) hS (fun r1 s1 H locs hv hP hS => ?_)
  obtain ⟨hz_r1, hv⟩ := hv
  have hD := wd_D (s := s) (cel := celM ad cA cZ) (σ := s1) hi
  refine lv_if_eq (tgt := 19) hx hb dX11_wet_9 (by decide) (fun c9 => ?_) (fun c9 => ?_)
  · have hv := hv.1 c9
    exact hY 19 [] [] s1 hv _ _ rfl H locs ls hP hS (lv_sub hl [0] rfl)
  · have hv := hv.2 c9
    refine lv_iload_n hx hb dX11_wet_12 rfl (lv_at hl 2 rfl) ?_
    refine r_ci (va_runS (As := [.int a2]) (rest := []) ⟨hx, hb, hml, hown, hts⟩ (c_X11_isWet hi a2 s1 _ hv H.size) (va_cwS 1 hts gX11_wet_X11_isWet rfl rfl rfl (by decide +kernel) ⟨Nat.le_of_ble_eq_true rfl, Nat.le_of_ble_eq_true rfl⟩) ⟨pre_blind, pre_of hP hK⟩ rfl rfl hl.1 rfl (lv_room (Nat.le_of_ble_eq_true rfl)) dX11_wet_13 ⟨Nat.zero_le _, Nat.zero_le _⟩) hS (fun r2 s2 H locs hv hP hS => ?_)
    obtain ⟨hz_r2, hv⟩ := hv
    have hD := wd_D (s := s) (cel := celM ad cA cZ) (σ := s2) hi
    refine lv_if_ne (tgt := 26) hx hb dX11_wet_16 (by decide) (fun c16 => ?_) (fun c16 => ?_)
    · have hv := hv.1 c16
      refine lv_aload_n hx hb dX11_wet_26 rfl (lv_at hl 0 rfl) ?_
      refine r_get hx hb hts (iwX11_wet_X11) hown hK.1 hP 0 (by decide) (ceMo_0 (s2 0)) rfl 0 (by decide) (hts _ kX11_wet_2) (v := .ref (ad 1)) rfl dX11_wet_27 ?_
      refine lv_bipush (v := 16) hx hb dX11_wet_30 (by decide) ?_
      refine lv_iload_n hx hb dX11_wet_32 rfl (lv_at hl 1 rfl) ?_
      refine lv_iadd hx hb dX11_wet_33 ?_
      obtain ⟨hin, hv⟩ := hv
      refine r_iald hx hb hK.1 hP 1 (by decide) (ceMo_1 (s2 1)) hin dX11_wet_34 ?_
      refine lv_topi (fun v3 ev3 => ?_)
      have hv := hv v3 ev3
      refine lv_istore_n (lv' := [(3, .int v3), (0, .ref (ad 0)), (1, .int a1), (2, .int a2)]) hx hb dX11_wet_35 rfl hl (by decide) rfl (fun ls hl => ?_)
      refine lv_aload_n hx hb dX11_wet_36 rfl (lv_at hl 1 rfl) ?_
      refine r_get hx hb hts (iwX11_wet_X11) hown hK.1 hP 0 (by decide) (ceMo_0 (s2 0)) rfl 0 (by decide) (hts _ kX11_wet_2) (v := .ref (ad 1)) rfl dX11_wet_37 ?_
      refine lv_bipush (v := 16) hx hb dX11_wet_40 (by decide) ?_
      refine lv_iload_n hx hb dX11_wet_42 rfl (lv_at hl 2 rfl) ?_
      refine lv_iadd hx hb dX11_wet_43 ?_
      refine lv_iload_n hx hb dX11_wet_44 rfl (lv_at hl 3 rfl) ?_
      obtain ⟨hin, hv⟩ := hv
      refine r_iast hx hb hK.1 hP hD hS 1 (by decide) (ceMo_1 (s2 1)) (ceMo_1 _) hin dX11_wet_45 (fun H locs s4 es4 hP hD hS => ?_)
      have hv := hv s4 es4
      refine lv_aload_n hx hb dX11_wet_46 rfl (lv_at hl 1 rfl) ?_
      refine r_get hx hb hts (iwX11_wet_X11) hown hK.1 hP 0 (by decide) (ceMo_0 (s4 0)) rfl 0 (by decide) (hts _ kX11_wet_2) (v := .ref (ad 1)) rfl dX11_wet_47 ?_
      refine lv_iconst (v := 5) hx hb dX11_wet_50 (by decide) ?_
      refine lv_iconst (v := 0) hx hb dX11_wet_51 (by decide) ?_
      refine r_iast hx hb hK.1 hP hD hS 1 (by decide) (ceMo_1 (s4 1)) (ceMo_1 _) (vp_in_of_dec (by decide)) dX11_wet_52 (fun H locs s5 es5 hP hD hS => ?_)
      have hv := hv s5 es5
      refine lv_iload_n hx hb dX11_wet_53 rfl (lv_at hl 0 rfl) ?_
      exact r_iret hx hb hr hlocks hv hP hS dX11_wet_54
    · have hv := hv.2 c16
      exact hY 19 [] [] s2 hv _ _ rfl H locs ls hP hS (lv_sub hl [0] rfl)
set_option maxHeartbeats 4000000 in
set_option maxRecDepth 100000 in
theorem w_X11_wet_19 {p : Program} {l : Launch} {e : Env} {s : State} {m : MethodId} {args : Array Value} {below : List Frame} {meth : Method} {c : Code} {dC : Nat → ClassId} {dI : Nat → Nat → Nat} {ad : Nat → Nat} {cA cZ : ClassId} (hi : Inj 12 ad) (a1 : Int32) (a2 : Int32)  (C0 : Cx cX11_wet RX11 wsX11_wet 4 (some .int) p s m args meth c) (hK : KK dC dI cA cZ s) (Q : Int32 → St → Prop) (Y : Nat → List Int32 → List Int64 → St → Prop) (hY : ∀ P xs ys σ, Y P xs ys σ → XX p l e ({ frames := 2, cells := 0, slots := 0, locals := 45 } : Room) s m args below meth c (dC, dI) 12 ad (celM ad cA cZ) 4 (ZI below args s (dC, dI) 12 ad (celM ad cA cZ) Q) (lay_X11_wet ad a1 a2) P xs ys σ)  (s0 : St) (hv : B_X11_wet_19 a1 a2 Q Y  s0) {H : Heap} {locs : List Loc} {ls : Array Slot} (hP : va_P (dC, dI) vwCl (wd 12 ad (celM ad cA cZ) s0) H) (hS : va_S (AA 12 ad s.heap.size) s.heap H locs) (hl : lv_has ls 4 [(0, .ref (ad 0))]) : W p l e ({ frames := 2, cells := 0, slots := 0, locals := 45 } : Room) s m args below meth c H locs 0 0 (ZI below args s (dC, dI) 12 ad (celM ad cA cZ) Q) (F0 m 19 ls []) := by
  obtain ⟨hx, hb, hml, hown, hts, hr, hlocks⟩ := C0
  have hD := wd_D (s := s) (cel := celM ad cA cZ) (σ := s0) hi
  unfold B_X11_wet_19 at hv
  refine lv_aload_n hx hb dX11_wet_19 rfl (lv_at hl 0 rfl) ?_
  refine lv_bipush (v := (-2)) hx hb dX11_wet_20 (by decide) ?_
  refine r_ci (va_runV (As := [.int ((-2))]) (rest := []) ⟨hx, hb, hml, hown, hts⟩ (c_X11_bad hi ((-2)) s0 _ hv H.size) (cwV 1 hts gX11_wet_X11_bad rfl rfl rfl (by decide +kernel) ⟨Nat.le_of_ble_eq_true rfl, Nat.le_of_ble_eq_true rfl⟩) ⟨pre_blind, r_recv hK.1 hP 0 (by decide) (ceMo_0 (s0 0)) rfl, pre_of hP hK⟩ rfl rfl hl.1 rfl (lv_room (Nat.le_of_ble_eq_true rfl)) dX11_wet_22 ⟨Nat.zero_le _, Nat.zero_le _⟩) hS (fun r1 s1 H locs hv hP hS => ?_)
  have hD := wd_D (s := s) (cel := celM ad cA cZ) (σ := s1) hi
  exact r_iret hx hb hr hlocks hv hP hS dX11_wet_25
set_option maxHeartbeats 4000000 in
theorem y_X11_wet {p : Program} {l : Launch} {e : Env} {s : State} {m : MethodId} {args : Array Value} {below : List Frame} {meth : Method} {c : Code} {dC : Nat → ClassId} {dI : Nat → Nat → Nat} {ad : Nat → Nat} {cA cZ : ClassId} (hi : Inj 12 ad) (a1 : Int32) (a2 : Int32)  (C0 : Cx cX11_wet RX11 wsX11_wet 4 (some .int) p s m args meth c) (hK : KK dC dI cA cZ s) (Q : Int32 → St → Prop) : ∀ P xs ys σ, R_X11_wet a1 a2 Q P xs ys σ → XX p l e ({ frames := 2, cells := 0, slots := 0, locals := 45 } : Room) s m args below meth c (dC, dI) 12 ad (celM ad cA cZ) 4 (ZI below args s (dC, dI) 12 ad (celM ad cA cZ) Q) (lay_X11_wet ad a1 a2) P xs ys σ := by
  refine Fx.elim _ (fun P xs ys σ Y hY hB => ?_)
  rcases hB with ⟨rfl, rfl, rfl, hB⟩
  · intro lv st he H locs ls hP hS hl
    cases he
    exact w_X11_wet_19 hi a1 a2  C0 hK Q Y hY  σ hB hP hS hl
set_option maxHeartbeats 4000000 in
theorem c_X11_wet {l : Launch} {dC : Nat → ClassId} {dI : Nat → Nat → Nat} {ad : Nat → Nat} {cA cZ : ClassId} (hi : Inj 12 ad) (a1 : Int32) (a2 : Int32)  (s0 : St) (Q : Int32 → St → Prop) (hv : V_X11_wet a1 a2 s0 Q) (sz : Nat) : Met l yX11_wet wsX11_wet ({ frames := 2, cells := 0, slots := 0, locals := 45 } : Room) (va_Pc [.ref (ad 0), .int a1, .int a2] (PW dC dI ad cA cZ 12 (celM ad cA cZ) sz s0)) (va_Qi Q (fun u t => va_P (dC, dI) vwCl (wd 12 ad (celM ad cA cZ) u) t.heap) (AA 12 ad sz)) 0 0 (AA 12 ad sz) := by
  refine Met.ofW (cc := cX11_wet) (maxL := 4) (ret := (some .int)) (by decide) rfl ?_
  intro p e s m args below meth c s₁ B hml hv0
  obtain ⟨rfl, hsz, hP, hK⟩ := hv0
  subst hsz
  have C0 : Cx cX11_wet RX11 wsX11_wet 4 (some .int) p s m ([.ref (ad 0), .int a1, .int a2] : List Value).toArray meth c := ⟨B.exec, B.bytes, hml, findClass_of_methodNamed B.named, atoms_spec (ws := wsX11_wet) B.pre, B.returns, B.notSynchronized⟩
  have hl := lv_entry ([.ref (ad 0), .int a1, .int a2]) (n := 4) (Nat.le_of_ble_eq_true rfl)
  rw [lg_entry_eq]
  generalize (lg_sl ([.ref (ad 0), .int a1, .int a2]) ++ List.replicate (4 - (lg_sl ([.ref (ad 0), .int a1, .int a2])).length) Slot.unset).toArray = ls at hl ⊢
  have hl : lv_has ls 4 [(0, .ref (ad 0)), (1, .int a1), (2, .int a2)] := hl
  exact w_X11_wet_e hi a1 a2  C0 hK Q (R_X11_wet a1 a2 Q) (y_X11_wet hi a1 a2  C0 hK Q)  s0 hv hP va_S.rf hl
def lay_X11_layGlove (ad : Nat → Nat) (h0 : Nat) (n0 : Nat) (a1 : Int32) (a2 : Int32) (a3 : Int32) : Nat → List Int32 → List Int64 → Option (List (Nat × Value) × List Value) := fun P xs ys => match P, xs, ys with
  | _, _, _ => none
set_option maxHeartbeats 4000000 in
set_option maxRecDepth 100000 in
theorem w_X11_layGlove_e {p : Program} {l : Launch} {e : Env} {s : State} {m : MethodId} {args : Array Value} {below : List Frame} {meth : Method} {c : Code} {dC : Nat → ClassId} {dI : Nat → Nat → Nat} {ad : Nat → Nat} {cA cZ : ClassId} (hi : Inj 12 ad) (h0 : Nat) (n0 : Nat) (a1 : Int32) (a2 : Int32) (a3 : Int32) (hh0 : isAr h0 n0) (C0 : Cx cX11_layGlove RX11 wsX11_layGlove 5 none p s m args meth c) (hK : KK dC dI cA cZ s) (Q : St → Prop) (Y : Nat → List Int32 → List Int64 → St → Prop) (hY : ∀ P xs ys σ, Y P xs ys σ → XX p l e ({ frames := 0, cells := 0, slots := 0, locals := 0 } : Room) s m args below meth c (dC, dI) 12 ad (celM ad cA cZ) 5 (ZV below args s (dC, dI) 12 ad (celM ad cA cZ) Q) (lay_X11_layGlove ad h0 n0 a1 a2 a3) P xs ys σ)  (s0 : St) (hv : B_X11_layGlove_e h0 n0 a1 a2 a3 Q Y  s0) {H : Heap} {locs : List Loc} {ls : Array Slot} (hP : va_P (dC, dI) vwCl (wd 12 ad (celM ad cA cZ) s0) H) (hS : va_S (AA 12 ad s.heap.size) s.heap H locs) (hl : lv_has ls 5 [(0, .ref (ad h0)), (1, .int a1), (2, .int a2), (3, .int a3)]) : W p l e ({ frames := 0, cells := 0, slots := 0, locals := 0 } : Room) s m args below meth c H locs 0 0 (ZV below args s (dC, dI) 12 ad (celM ad cA cZ) Q) (F0 m 0 ls []) := by
  obtain ⟨hx, hb, hml, hown, hts, hr, hlocks⟩ := C0
  have hD := wd_D (s := s) (cel := celM ad cA cZ) (σ := s0) hi
  unfold B_X11_layGlove_e at hv
  refine lv_aload_n hx hb dX11_layGlove_0 rfl (lv_at hl 0 rfl) ?_
  refine lv_iconst (v := 0) hx hb dX11_layGlove_1 (by decide) ?_
  obtain ⟨hin, hv⟩ := hv
  refine r_iald hx hb hK.1 hP h0 hh0.1 (hh0.2 ad cA cZ (s0 h0)) hin dX11_layGlove_2 ?_
  refine lv_istore (lv' := [(4, .int (s0 h0 0)), (0, .ref (ad h0)), (1, .int a1), (2, .int a2), (3, .int a3)]) hx hb dX11_layGlove_3 hl (by decide) rfl (fun ls hl => ?_)
  refine lv_aload_n hx hb dX11_layGlove_5 rfl (lv_at hl 1 rfl) ?_
  refine lv_bipush (v := 22) hx hb dX11_layGlove_6 (by decide) ?_
  refine lv_iload hx hb dX11_layGlove_8 (lv_at hl 0 rfl) ?_
  refine lv_iadd hx hb dX11_layGlove_10 ?_
  refine lv_iload_n hx hb dX11_layGlove_11 rfl (lv_at hl 2 rfl) ?_
  obtain ⟨hin, hv⟩ := hv
  refine r_iast hx hb hK.1 hP hD hS h0 hh0.1 (hh0.2 ad cA cZ (s0 h0)) (hh0.2 ad cA cZ _) hin dX11_layGlove_12 (fun H locs s1 es1 hP hD hS => ?_)
  have hv := hv s1 es1
  refine lv_aload_n hx hb dX11_layGlove_13 rfl (lv_at hl 1 rfl) ?_
  refine lv_bipush (v := 30) hx hb dX11_layGlove_14 (by decide) ?_
  refine lv_iload hx hb dX11_layGlove_16 (lv_at hl 0 rfl) ?_
  refine lv_iadd hx hb dX11_layGlove_18 ?_
  refine lv_iload_n hx hb dX11_layGlove_19 rfl (lv_at hl 3 rfl) ?_
  obtain ⟨hin, hv⟩ := hv
  refine r_iast hx hb hK.1 hP hD hS h0 hh0.1 (hh0.2 ad cA cZ (s1 h0)) (hh0.2 ad cA cZ _) hin dX11_layGlove_20 (fun H locs s2 es2 hP hD hS => ?_)
  have hv := hv s2 es2
  refine lv_aload_n hx hb dX11_layGlove_21 rfl (lv_at hl 1 rfl) ?_
  refine lv_bipush (v := 6) hx hb dX11_layGlove_22 (by decide) ?_
  refine lv_iload hx hb dX11_layGlove_24 (lv_at hl 0 rfl) ?_
  refine lv_iadd hx hb dX11_layGlove_26 ?_
  refine lv_iload_n hx hb dX11_layGlove_27 rfl (lv_at hl 4 rfl) ?_
  obtain ⟨hin, hv⟩ := hv
  refine r_iast hx hb hK.1 hP hD hS h0 hh0.1 (hh0.2 ad cA cZ (s2 h0)) (hh0.2 ad cA cZ _) hin dX11_layGlove_28 (fun H locs s3 es3 hP hD hS => ?_)
  have hv := hv s3 es3
  refine lv_aload_n hx hb dX11_layGlove_29 rfl (lv_at hl 1 rfl) ?_
  refine lv_iconst (v := 0) hx hb dX11_layGlove_30 (by decide) ?_
  refine lv_dup2_11 hx hb dX11_layGlove_31 rfl rfl ?_
  obtain ⟨hin, hv⟩ := hv
  refine r_iald hx hb hK.1 hP h0 hh0.1 (hh0.2 ad cA cZ (s3 h0)) hin dX11_layGlove_32 ?_
  refine lv_iconst (v := 1) hx hb dX11_layGlove_33 (by decide) ?_
  refine lv_iadd hx hb dX11_layGlove_34 ?_
  obtain ⟨hin, hv⟩ := hv
  refine r_iast hx hb hK.1 hP hD hS h0 hh0.1 (hh0.2 ad cA cZ (s3 h0)) (hh0.2 ad cA cZ _) hin dX11_layGlove_35 (fun H locs s4 es4 hP hD hS => ?_)
  have hv := hv s4 es4
  exact r_vret hx hb hr hlocks hv hP hS dX11_layGlove_36
set_option maxHeartbeats 4000000 in
theorem y_X11_layGlove {p : Program} {l : Launch} {e : Env} {s : State} {m : MethodId} {args : Array Value} {below : List Frame} {meth : Method} {c : Code} {dC : Nat → ClassId} {dI : Nat → Nat → Nat} {ad : Nat → Nat} {cA cZ : ClassId} (hi : Inj 12 ad) (h0 : Nat) (n0 : Nat) (a1 : Int32) (a2 : Int32) (a3 : Int32) (hh0 : isAr h0 n0) (C0 : Cx cX11_layGlove RX11 wsX11_layGlove 5 none p s m args meth c) (hK : KK dC dI cA cZ s) (Q : St → Prop) : ∀ P xs ys σ, R_X11_layGlove h0 n0 a1 a2 a3 Q P xs ys σ → XX p l e ({ frames := 0, cells := 0, slots := 0, locals := 0 } : Room) s m args below meth c (dC, dI) 12 ad (celM ad cA cZ) 5 (ZV below args s (dC, dI) 12 ad (celM ad cA cZ) Q) (lay_X11_layGlove ad h0 n0 a1 a2 a3) P xs ys σ := by
  refine Fx.elim _ (fun P xs ys σ Y hY hB => ?_)
  exact hB.elim
set_option maxHeartbeats 4000000 in
theorem c_X11_layGlove {l : Launch} {dC : Nat → ClassId} {dI : Nat → Nat → Nat} {ad : Nat → Nat} {cA cZ : ClassId} (hi : Inj 12 ad) (h0 : Nat) (n0 : Nat) (a1 : Int32) (a2 : Int32) (a3 : Int32) (hh0 : isAr h0 n0) (s0 : St) (Q : St → Prop) (hv : V_X11_layGlove h0 n0 a1 a2 a3 s0 Q) (sz : Nat) : Met l yX11_layGlove wsX11_layGlove ({ frames := 0, cells := 0, slots := 0, locals := 0 } : Room) (va_Pc [.ref (ad h0), .int a1, .int a2, .int a3] (PW dC dI ad cA cZ 12 (celM ad cA cZ) sz s0)) (va_Qv Q (fun u t => va_P (dC, dI) vwCl (wd 12 ad (celM ad cA cZ) u) t.heap) (AA 12 ad sz)) 0 0 (AA 12 ad sz) := by
  refine Met.ofW (cc := cX11_layGlove) (maxL := 5) (ret := none) (by decide) rfl ?_
  intro p e s m args below meth c s₁ B hml hv0
  obtain ⟨rfl, hsz, hP, hK⟩ := hv0
  subst hsz
  have C0 : Cx cX11_layGlove RX11 wsX11_layGlove 5 none p s m ([.ref (ad h0), .int a1, .int a2, .int a3] : List Value).toArray meth c := ⟨B.exec, B.bytes, hml, findClass_of_methodNamed B.named, atoms_spec (ws := wsX11_layGlove) B.pre, B.returns, B.notSynchronized⟩
  have hl := lv_entry ([.ref (ad h0), .int a1, .int a2, .int a3]) (n := 5) (Nat.le_of_ble_eq_true rfl)
  rw [lg_entry_eq]
  generalize (lg_sl ([.ref (ad h0), .int a1, .int a2, .int a3]) ++ List.replicate (5 - (lg_sl ([.ref (ad h0), .int a1, .int a2, .int a3])).length) Slot.unset).toArray = ls at hl ⊢
  have hl : lv_has ls 5 [(0, .ref (ad h0)), (1, .int a1), (2, .int a2), (3, .int a3)] := hl
  exact w_X11_layGlove_e hi h0 n0 a1 a2 a3 hh0 C0 hK Q (R_X11_layGlove h0 n0 a1 a2 a3 Q) (y_X11_layGlove hi h0 n0 a1 a2 a3 hh0 C0 hK Q)  s0 hv hP va_S.rf hl
def lay_X11_layCrossing (ad : Nat → Nat) (h0 : Nat) (n0 : Nat) (a1 : Int32) (a2 : Int32) : Nat → List Int32 → List Int64 → Option (List (Nat × Value) × List Value) := fun P xs ys => match P, xs, ys with
  | _, _, _ => none
set_option maxHeartbeats 4000000 in
set_option maxRecDepth 100000 in
theorem w_X11_layCrossing_e {p : Program} {l : Launch} {e : Env} {s : State} {m : MethodId} {args : Array Value} {below : List Frame} {meth : Method} {c : Code} {dC : Nat → ClassId} {dI : Nat → Nat → Nat} {ad : Nat → Nat} {cA cZ : ClassId} (hi : Inj 12 ad) (h0 : Nat) (n0 : Nat) (a1 : Int32) (a2 : Int32) (hh0 : isAr h0 n0) (C0 : Cx cX11_layCrossing RX11 wsX11_layCrossing 4 none p s m args meth c) (hK : KK dC dI cA cZ s) (Q : St → Prop) (Y : Nat → List Int32 → List Int64 → St → Prop) (hY : ∀ P xs ys σ, Y P xs ys σ → XX p l e ({ frames := 0, cells := 0, slots := 0, locals := 0 } : Room) s m args below meth c (dC, dI) 12 ad (celM ad cA cZ) 4 (ZV below args s (dC, dI) 12 ad (celM ad cA cZ) Q) (lay_X11_layCrossing ad h0 n0 a1 a2) P xs ys σ)  (s0 : St) (hv : B_X11_layCrossing_e h0 n0 a1 a2 Q Y  s0) {H : Heap} {locs : List Loc} {ls : Array Slot} (hP : va_P (dC, dI) vwCl (wd 12 ad (celM ad cA cZ) s0) H) (hS : va_S (AA 12 ad s.heap.size) s.heap H locs) (hl : lv_has ls 4 [(0, .ref (ad h0)), (1, .int a1), (2, .int a2)]) : W p l e ({ frames := 0, cells := 0, slots := 0, locals := 0 } : Room) s m args below meth c H locs 0 0 (ZV below args s (dC, dI) 12 ad (celM ad cA cZ) Q) (F0 m 0 ls []) := by
  obtain ⟨hx, hb, hml, hown, hts, hr, hlocks⟩ := C0
  have hD := wd_D (s := s) (cel := celM ad cA cZ) (σ := s0) hi
  unfold B_X11_layCrossing_e at hv
  refine lv_aload_n hx hb dX11_layCrossing_0 rfl (lv_at hl 0 rfl) ?_
  refine lv_iconst (v := 1) hx hb dX11_layCrossing_1 (by decide) ?_
  obtain ⟨hin, hv⟩ := hv
  refine r_iald hx hb hK.1 hP h0 hh0.1 (hh0.2 ad cA cZ (s0 h0)) hin dX11_layCrossing_2 ?_
  refine lv_istore_n (lv' := [(3, .int (s0 h0 1)), (0, .ref (ad h0)), (1, .int a1), (2, .int a2)]) hx hb dX11_layCrossing_3 rfl hl (by decide) rfl (fun ls hl => ?_)
  refine lv_aload_n hx hb dX11_layCrossing_4 rfl (lv_at hl 1 rfl) ?_
  refine lv_bipush (v := 37) hx hb dX11_layCrossing_5 (by decide) ?_
  refine lv_iload_n hx hb dX11_layCrossing_7 rfl (lv_at hl 0 rfl) ?_
  refine lv_iadd hx hb dX11_layCrossing_8 ?_
  refine lv_iload_n hx hb dX11_layCrossing_9 rfl (lv_at hl 2 rfl) ?_
  obtain ⟨hin, hv⟩ := hv
  refine r_iast hx hb hK.1 hP hD hS h0 hh0.1 (hh0.2 ad cA cZ (s0 h0)) (hh0.2 ad cA cZ _) hin dX11_layCrossing_10 (fun H locs s1 es1 hP hD hS => ?_)
  have hv := hv s1 es1
  refine lv_aload_n hx hb dX11_layCrossing_11 rfl (lv_at hl 1 rfl) ?_
  refine lv_bipush (v := 40) hx hb dX11_layCrossing_12 (by decide) ?_
  refine lv_iload_n hx hb dX11_layCrossing_14 rfl (lv_at hl 0 rfl) ?_
  refine lv_iadd hx hb dX11_layCrossing_15 ?_
  refine lv_iload_n hx hb dX11_layCrossing_16 rfl (lv_at hl 3 rfl) ?_
  obtain ⟨hin, hv⟩ := hv
  refine r_iast hx hb hK.1 hP hD hS h0 hh0.1 (hh0.2 ad cA cZ (s1 h0)) (hh0.2 ad cA cZ _) hin dX11_layCrossing_17 (fun H locs s2 es2 hP hD hS => ?_)
  have hv := hv s2 es2
  refine lv_aload_n hx hb dX11_layCrossing_18 rfl (lv_at hl 1 rfl) ?_
  refine lv_iconst (v := 1) hx hb dX11_layCrossing_19 (by decide) ?_
  refine lv_dup2_11 hx hb dX11_layCrossing_20 rfl rfl ?_
  obtain ⟨hin, hv⟩ := hv
  refine r_iald hx hb hK.1 hP h0 hh0.1 (hh0.2 ad cA cZ (s2 h0)) hin dX11_layCrossing_21 ?_
  refine lv_iconst (v := 1) hx hb dX11_layCrossing_22 (by decide) ?_
  refine lv_iadd hx hb dX11_layCrossing_23 ?_
  obtain ⟨hin, hv⟩ := hv
  refine r_iast hx hb hK.1 hP hD hS h0 hh0.1 (hh0.2 ad cA cZ (s2 h0)) (hh0.2 ad cA cZ _) hin dX11_layCrossing_24 (fun H locs s3 es3 hP hD hS => ?_)
  have hv := hv s3 es3
  exact r_vret hx hb hr hlocks hv hP hS dX11_layCrossing_25
set_option maxHeartbeats 4000000 in
theorem y_X11_layCrossing {p : Program} {l : Launch} {e : Env} {s : State} {m : MethodId} {args : Array Value} {below : List Frame} {meth : Method} {c : Code} {dC : Nat → ClassId} {dI : Nat → Nat → Nat} {ad : Nat → Nat} {cA cZ : ClassId} (hi : Inj 12 ad) (h0 : Nat) (n0 : Nat) (a1 : Int32) (a2 : Int32) (hh0 : isAr h0 n0) (C0 : Cx cX11_layCrossing RX11 wsX11_layCrossing 4 none p s m args meth c) (hK : KK dC dI cA cZ s) (Q : St → Prop) : ∀ P xs ys σ, R_X11_layCrossing h0 n0 a1 a2 Q P xs ys σ → XX p l e ({ frames := 0, cells := 0, slots := 0, locals := 0 } : Room) s m args below meth c (dC, dI) 12 ad (celM ad cA cZ) 4 (ZV below args s (dC, dI) 12 ad (celM ad cA cZ) Q) (lay_X11_layCrossing ad h0 n0 a1 a2) P xs ys σ := by
  refine Fx.elim _ (fun P xs ys σ Y hY hB => ?_)
  exact hB.elim
set_option maxHeartbeats 4000000 in
theorem c_X11_layCrossing {l : Launch} {dC : Nat → ClassId} {dI : Nat → Nat → Nat} {ad : Nat → Nat} {cA cZ : ClassId} (hi : Inj 12 ad) (h0 : Nat) (n0 : Nat) (a1 : Int32) (a2 : Int32) (hh0 : isAr h0 n0) (s0 : St) (Q : St → Prop) (hv : V_X11_layCrossing h0 n0 a1 a2 s0 Q) (sz : Nat) : Met l yX11_layCrossing wsX11_layCrossing ({ frames := 0, cells := 0, slots := 0, locals := 0 } : Room) (va_Pc [.ref (ad h0), .int a1, .int a2] (PW dC dI ad cA cZ 12 (celM ad cA cZ) sz s0)) (va_Qv Q (fun u t => va_P (dC, dI) vwCl (wd 12 ad (celM ad cA cZ) u) t.heap) (AA 12 ad sz)) 0 0 (AA 12 ad sz) := by
  refine Met.ofW (cc := cX11_layCrossing) (maxL := 4) (ret := none) (by decide) rfl ?_
  intro p e s m args below meth c s₁ B hml hv0
  obtain ⟨rfl, hsz, hP, hK⟩ := hv0
  subst hsz
  have C0 : Cx cX11_layCrossing RX11 wsX11_layCrossing 4 none p s m ([.ref (ad h0), .int a1, .int a2] : List Value).toArray meth c := ⟨B.exec, B.bytes, hml, findClass_of_methodNamed B.named, atoms_spec (ws := wsX11_layCrossing) B.pre, B.returns, B.notSynchronized⟩
  have hl := lv_entry ([.ref (ad h0), .int a1, .int a2]) (n := 4) (Nat.le_of_ble_eq_true rfl)
  rw [lg_entry_eq]
  generalize (lg_sl ([.ref (ad h0), .int a1, .int a2]) ++ List.replicate (4 - (lg_sl ([.ref (ad h0), .int a1, .int a2])).length) Slot.unset).toArray = ls at hl ⊢
  have hl : lv_has ls 4 [(0, .ref (ad h0)), (1, .int a1), (2, .int a2)] := hl
  exact w_X11_layCrossing_e hi h0 n0 a1 a2 hh0 C0 hK Q (R_X11_layCrossing h0 n0 a1 a2 Q) (y_X11_layCrossing hi h0 n0 a1 a2 hh0 C0 hK Q)  s0 hv hP va_S.rf hl
def lay_X11_glove (ad : Nat → Nat) (a1 : Int32) (a2 : Int32) (a3 : Int32) : Nat → List Int32 → List Int64 → Option (List (Nat × Value) × List Value) := fun P xs ys => match P, xs, ys with
  | 26, [], [] => some ([(0, .ref (ad 0))], [])
  | _, _, _ => none
set_option maxHeartbeats 4000000 in
set_option maxRecDepth 100000 in
theorem w_X11_glove_e {p : Program} {l : Launch} {e : Env} {s : State} {m : MethodId} {args : Array Value} {below : List Frame} {meth : Method} {c : Code} {dC : Nat → ClassId} {dI : Nat → Nat → Nat} {ad : Nat → Nat} {cA cZ : ClassId} (hi : Inj 12 ad) (a1 : Int32) (a2 : Int32) (a3 : Int32)  (C0 : Cx cX11_glove RX11 wsX11_glove 4 (some .int) p s m args meth c) (hK : KK dC dI cA cZ s) (Q : Int32 → St → Prop) (Y : Nat → List Int32 → List Int64 → St → Prop) (hY : ∀ P xs ys σ, Y P xs ys σ → XX p l e ({ frames := 2, cells := 0, slots := 0, locals := 45 } : Room) s m args below meth c (dC, dI) 12 ad (celM ad cA cZ) 4 (ZI below args s (dC, dI) 12 ad (celM ad cA cZ) Q) (lay_X11_glove ad a1 a2 a3) P xs ys σ)  (s0 : St) (hv : B_X11_glove_e a1 a2 a3 Q Y  s0) {H : Heap} {locs : List Loc} {ls : Array Slot} (hP : va_P (dC, dI) vwCl (wd 12 ad (celM ad cA cZ) s0) H) (hS : va_S (AA 12 ad s.heap.size) s.heap H locs) (hl : lv_has ls 4 [(0, .ref (ad 0)), (1, .int a1), (2, .int a2), (3, .int a3)]) : W p l e ({ frames := 2, cells := 0, slots := 0, locals := 45 } : Room) s m args below meth c H locs 0 0 (ZI below args s (dC, dI) 12 ad (celM ad cA cZ) Q) (F0 m 0 ls []) := by
  obtain ⟨hx, hb, hml, hown, hts, hr, hlocks⟩ := C0
  have hD := wd_D (s := s) (cel := celM ad cA cZ) (σ := s0) hi
  unfold B_X11_glove_e at hv
  refine lv_iload_n hx hb dX11_glove_0 rfl (lv_at hl 1 rfl) ?_
  refine r_ci (va_runS (As := [.int a1]) (rest := []) ⟨hx, hb, hml, hown, hts⟩ (c_X11_isKind hi a1 s0 _ hv H.size) (va_cwS 1 hts gX11_glove_X11_isKind rfl rfl rfl (by decide +kernel) ⟨Nat.le_of_ble_eq_true rfl, Nat.le_of_ble_eq_true rfl⟩) ⟨pre_blind, pre_of hP hK⟩ rfl rfl hl.1 rfl (lv_room (Nat.le_of_ble_eq_true rfl)) dX11_glove_1 ⟨Nat.zero_le _, Nat.zero_le _⟩) hS (fun r1 s1 H locs hv hP hS => ?_)
  obtain ⟨hz_r1, hv⟩ := hv
  have hD := wd_D (s := s) (cel := celM ad cA cZ) (σ := s1) hi
  refine lv_if_eq (tgt := 26) hx hb dX11_glove_4 (by decide) (fun c4 => ?_) (fun c4 => ?_)
  · have hv := hv.1 c4
    exact hY 26 [] [] s1 hv _ _ rfl H locs ls hP hS (lv_sub hl [0] rfl)
  · have hv := hv.2 c4
    refine lv_iload_n hx hb dX11_glove_7 rfl (lv_at hl 2 rfl) ?_
    refine r_ci (va_runS (As := [.int a2]) (rest := []) ⟨hx, hb, hml, hown, hts⟩ (c_X11_isMark hi a2 s1 _ hv H.size) (va_cwS 1 hts gX11_glove_X11_isMark rfl rfl rfl (by decide +kernel) ⟨Nat.le_of_ble_eq_true rfl, Nat.le_of_ble_eq_true rfl⟩) ⟨pre_blind, pre_of hP hK⟩ rfl rfl hl.1 rfl (lv_room (Nat.le_of_ble_eq_true rfl)) dX11_glove_8 ⟨Nat.zero_le _, Nat.zero_le _⟩) hS (fun r2 s2 H locs hv hP hS => ?_)
    obtain ⟨hz_r2, hv⟩ := hv
    have hD := wd_D (s := s) (cel := celM ad cA cZ) (σ := s2) hi
    refine lv_if_eq (tgt := 26) hx hb dX11_glove_11 (by decide) (fun c11 => ?_) (fun c11 => ?_)
    · have hv := hv.1 c11
      exact hY 26 [] [] s2 hv _ _ rfl H locs ls hP hS (lv_sub hl [0] rfl)
    · have hv := hv.2 c11
      refine lv_iload_n hx hb dX11_glove_14 rfl (lv_at hl 3 rfl) ?_
      refine lv_i2l (v := a3.toInt64) hx hb dX11_glove_15 rfl ?_
      refine lv_lconst (v := 0) hx hb dX11_glove_16 (by decide) ?_
      refine lv_ldc2 (v := 23) hx hb hown (hts _ kX11_glove_1) dX11_glove_17 ?_
      refine r_ci (va_runS (As := [.long a3.toInt64, .long 0, .long 23]) (rest := []) ⟨hx, hb, hml, hown, hts⟩ (c_X11_in hi a3.toInt64 0 23 s2 _ hv H.size) (va_cwS 3 hts gX11_glove_X11_in rfl rfl rfl (by decide +kernel) ⟨Nat.le_of_ble_eq_true rfl, Nat.le_of_ble_eq_true rfl⟩) ⟨pre_blind, pre_of hP hK⟩ rfl rfl hl.1 rfl (lv_room (Nat.le_of_ble_eq_true rfl)) dX11_glove_20 ⟨Nat.zero_le _, Nat.zero_le _⟩) hS (fun r3 s3 H locs hv hP hS => ?_)
      obtain ⟨hz_r3, hv⟩ := hv
      have hD := wd_D (s := s) (cel := celM ad cA cZ) (σ := s3) hi
      refine lv_if_ne (tgt := 33) hx hb dX11_glove_23 (by decide) (fun c23 => ?_) (fun c23 => ?_)
      · have hv := hv.1 c23
        refine lv_aload_n hx hb dX11_glove_33 rfl (lv_at hl 0 rfl) ?_
        refine r_ci (va_runV (As := []) (rest := []) ⟨hx, hb, hml, hown, hts⟩ (c_X11_many hi  s3 _ hv H.size) (cwV 0 hts gX11_glove_X11_many rfl rfl rfl (by decide +kernel) ⟨Nat.le_of_ble_eq_true rfl, Nat.le_of_ble_eq_true rfl⟩) ⟨pre_blind, r_recv hK.1 hP 0 (by decide) (ceMo_0 (s3 0)) rfl, pre_of hP hK⟩ rfl rfl hl.1 rfl (lv_room (Nat.le_of_ble_eq_true rfl)) dX11_glove_34 ⟨Nat.zero_le _, Nat.zero_le _⟩) hS (fun r4 s4 H locs hv hP hS => ?_)
        have hD := wd_D (s := s) (cel := celM ad cA cZ) (σ := s4) hi
        refine lv_bipush (v := 7) hx hb dX11_glove_37 (by decide) ?_
        refine lv_icmp_ne (tgt := 47) hx hb dX11_glove_39 (by decide) (fun c39 => ?_) (fun c39 => ?_)
        · have hv := hv.1 c39
          refine lv_aload_n hx hb dX11_glove_47 rfl (lv_at hl 0 rfl) ?_
          refine r_get hx hb hts (iwX11_glove_X11) hown hK.1 hP 0 (by decide) (ceMo_0 (s4 0)) rfl 0 (by decide) (hts _ kX11_glove_2) (v := .ref (ad 1)) rfl dX11_glove_48 ?_
          refine lv_iload_n hx hb dX11_glove_51 rfl (lv_at hl 1 rfl) ?_
          refine lv_iload_n hx hb dX11_glove_52 rfl (lv_at hl 2 rfl) ?_
          refine lv_iload_n hx hb dX11_glove_53 rfl (lv_at hl 3 rfl) ?_
          refine r_cv (va_runS (As := [.ref (ad 1), .int a1, .int a2, .int a3]) (rest := []) ⟨hx, hb, hml, hown, hts⟩ (c_X11_layGlove hi 1 181 a1 a2 a3 arM_1 s4 _ hv H.size) (va_cwS 4 hts gX11_glove_X11_layGlove rfl rfl rfl (by decide +kernel) ⟨Nat.le_of_ble_eq_true rfl, Nat.le_of_ble_eq_true rfl⟩) ⟨pre_blind, pre_of hP hK⟩ rfl rfl hl.1 rfl (lv_room (Nat.le_of_ble_eq_true rfl)) dX11_glove_54 ⟨Nat.zero_le _, Nat.zero_le _⟩) hS (fun s5 H locs hv hP hS => ?_)
          have hD := wd_D (s := s) (cel := celM ad cA cZ) (σ := s5) hi
          refine lv_aload_n hx hb dX11_glove_57 rfl (lv_at hl 0 rfl) ?_
          refine r_get hx hb hts (iwX11_glove_X11) hown hK.1 hP 0 (by decide) (ceMo_0 (s5 0)) rfl 0 (by decide) (hts _ kX11_glove_2) (v := .ref (ad 1)) rfl dX11_glove_58 ?_
          refine lv_iconst (v := 5) hx hb dX11_glove_61 (by decide) ?_
          refine lv_iconst (v := 0) hx hb dX11_glove_62 (by decide) ?_
          refine r_iast hx hb hK.1 hP hD hS 1 (by decide) (ceMo_1 (s5 1)) (ceMo_1 _) (vp_in_of_dec (by decide)) dX11_glove_63 (fun H locs s6 es6 hP hD hS => ?_)
          have hv := hv s6 es6
          refine lv_aload_n hx hb dX11_glove_64 rfl (lv_at hl 0 rfl) ?_
          refine r_ci (va_runV (As := []) (rest := []) ⟨hx, hb, hml, hown, hts⟩ (c_X11_many hi  s6 _ hv H.size) (cwV 0 hts gX11_glove_X11_many rfl rfl rfl (by decide +kernel) ⟨Nat.le_of_ble_eq_true rfl, Nat.le_of_ble_eq_true rfl⟩) ⟨pre_blind, r_recv hK.1 hP 0 (by decide) (ceMo_0 (s6 0)) rfl, pre_of hP hK⟩ rfl rfl hl.1 rfl (lv_room (Nat.le_of_ble_eq_true rfl)) dX11_glove_65 ⟨Nat.zero_le _, Nat.zero_le _⟩) hS (fun r7 s7 H locs hv hP hS => ?_)
          have hD := wd_D (s := s) (cel := celM ad cA cZ) (σ := s7) hi
          refine lv_iconst (v := 1) hx hb dX11_glove_68 (by decide) ?_
          refine lv_isub hx hb dX11_glove_69 ?_
          exact r_iret hx hb hr hlocks hv hP hS dX11_glove_70
        · have hv := hv.2 c39
          refine lv_aload_n hx hb dX11_glove_42 rfl (lv_at hl 0 rfl) ?_
          refine r_ci (va_runV (As := []) (rest := []) ⟨hx, hb, hml, hown, hts⟩ (c_X11_full hi  s4 _ hv H.size) (cwV 0 hts gX11_glove_X11_full rfl rfl rfl (by decide +kernel) ⟨Nat.le_of_ble_eq_true rfl, Nat.le_of_ble_eq_true rfl⟩) ⟨pre_blind, r_recv hK.1 hP 0 (by decide) (ceMo_0 (s4 0)) rfl, pre_of hP hK⟩ rfl rfl hl.1 rfl (lv_room (Nat.le_of_ble_eq_true rfl)) dX11_glove_43 ⟨Nat.zero_le _, Nat.zero_le _⟩) hS (fun r8 s8 H locs hv hP hS => ?_)
          have hD := wd_D (s := s) (cel := celM ad cA cZ) (σ := s8) hi
          exact r_iret hx hb hr hlocks hv hP hS dX11_glove_46
      · have hv := hv.2 c23
        exact hY 26 [] [] s3 hv _ _ rfl H locs ls hP hS (lv_sub hl [0] rfl)
set_option maxHeartbeats 4000000 in
set_option maxRecDepth 100000 in
theorem w_X11_glove_26 {p : Program} {l : Launch} {e : Env} {s : State} {m : MethodId} {args : Array Value} {below : List Frame} {meth : Method} {c : Code} {dC : Nat → ClassId} {dI : Nat → Nat → Nat} {ad : Nat → Nat} {cA cZ : ClassId} (hi : Inj 12 ad) (a1 : Int32) (a2 : Int32) (a3 : Int32)  (C0 : Cx cX11_glove RX11 wsX11_glove 4 (some .int) p s m args meth c) (hK : KK dC dI cA cZ s) (Q : Int32 → St → Prop) (Y : Nat → List Int32 → List Int64 → St → Prop) (hY : ∀ P xs ys σ, Y P xs ys σ → XX p l e ({ frames := 2, cells := 0, slots := 0, locals := 45 } : Room) s m args below meth c (dC, dI) 12 ad (celM ad cA cZ) 4 (ZI below args s (dC, dI) 12 ad (celM ad cA cZ) Q) (lay_X11_glove ad a1 a2 a3) P xs ys σ)  (s0 : St) (hv : B_X11_glove_26 a1 a2 a3 Q Y  s0) {H : Heap} {locs : List Loc} {ls : Array Slot} (hP : va_P (dC, dI) vwCl (wd 12 ad (celM ad cA cZ) s0) H) (hS : va_S (AA 12 ad s.heap.size) s.heap H locs) (hl : lv_has ls 4 [(0, .ref (ad 0))]) : W p l e ({ frames := 2, cells := 0, slots := 0, locals := 45 } : Room) s m args below meth c H locs 0 0 (ZI below args s (dC, dI) 12 ad (celM ad cA cZ) Q) (F0 m 26 ls []) := by
  obtain ⟨hx, hb, hml, hown, hts, hr, hlocks⟩ := C0
  have hD := wd_D (s := s) (cel := celM ad cA cZ) (σ := s0) hi
  unfold B_X11_glove_26 at hv
  refine lv_aload_n hx hb dX11_glove_26 rfl (lv_at hl 0 rfl) ?_
  refine lv_bipush (v := (-2)) hx hb dX11_glove_27 (by decide) ?_
  refine r_ci (va_runV (As := [.int ((-2))]) (rest := []) ⟨hx, hb, hml, hown, hts⟩ (c_X11_bad hi ((-2)) s0 _ hv H.size) (cwV 1 hts gX11_glove_X11_bad rfl rfl rfl (by decide +kernel) ⟨Nat.le_of_ble_eq_true rfl, Nat.le_of_ble_eq_true rfl⟩) ⟨pre_blind, r_recv hK.1 hP 0 (by decide) (ceMo_0 (s0 0)) rfl, pre_of hP hK⟩ rfl rfl hl.1 rfl (lv_room (Nat.le_of_ble_eq_true rfl)) dX11_glove_29 ⟨Nat.zero_le _, Nat.zero_le _⟩) hS (fun r1 s1 H locs hv hP hS => ?_)
  have hD := wd_D (s := s) (cel := celM ad cA cZ) (σ := s1) hi
  exact r_iret hx hb hr hlocks hv hP hS dX11_glove_32
set_option maxHeartbeats 4000000 in
theorem y_X11_glove {p : Program} {l : Launch} {e : Env} {s : State} {m : MethodId} {args : Array Value} {below : List Frame} {meth : Method} {c : Code} {dC : Nat → ClassId} {dI : Nat → Nat → Nat} {ad : Nat → Nat} {cA cZ : ClassId} (hi : Inj 12 ad) (a1 : Int32) (a2 : Int32) (a3 : Int32)  (C0 : Cx cX11_glove RX11 wsX11_glove 4 (some .int) p s m args meth c) (hK : KK dC dI cA cZ s) (Q : Int32 → St → Prop) : ∀ P xs ys σ, R_X11_glove a1 a2 a3 Q P xs ys σ → XX p l e ({ frames := 2, cells := 0, slots := 0, locals := 45 } : Room) s m args below meth c (dC, dI) 12 ad (celM ad cA cZ) 4 (ZI below args s (dC, dI) 12 ad (celM ad cA cZ) Q) (lay_X11_glove ad a1 a2 a3) P xs ys σ := by
  refine Fx.elim _ (fun P xs ys σ Y hY hB => ?_)
  rcases hB with ⟨rfl, rfl, rfl, hB⟩
  · intro lv st he H locs ls hP hS hl
    cases he
    exact w_X11_glove_26 hi a1 a2 a3  C0 hK Q Y hY  σ hB hP hS hl
set_option maxHeartbeats 4000000 in
theorem c_X11_glove {l : Launch} {dC : Nat → ClassId} {dI : Nat → Nat → Nat} {ad : Nat → Nat} {cA cZ : ClassId} (hi : Inj 12 ad) (a1 : Int32) (a2 : Int32) (a3 : Int32)  (s0 : St) (Q : Int32 → St → Prop) (hv : V_X11_glove a1 a2 a3 s0 Q) (sz : Nat) : Met l yX11_glove wsX11_glove ({ frames := 2, cells := 0, slots := 0, locals := 45 } : Room) (va_Pc [.ref (ad 0), .int a1, .int a2, .int a3] (PW dC dI ad cA cZ 12 (celM ad cA cZ) sz s0)) (va_Qi Q (fun u t => va_P (dC, dI) vwCl (wd 12 ad (celM ad cA cZ) u) t.heap) (AA 12 ad sz)) 0 0 (AA 12 ad sz) := by
  refine Met.ofW (cc := cX11_glove) (maxL := 4) (ret := (some .int)) (by decide) rfl ?_
  intro p e s m args below meth c s₁ B hml hv0
  obtain ⟨rfl, hsz, hP, hK⟩ := hv0
  subst hsz
  have C0 : Cx cX11_glove RX11 wsX11_glove 4 (some .int) p s m ([.ref (ad 0), .int a1, .int a2, .int a3] : List Value).toArray meth c := ⟨B.exec, B.bytes, hml, findClass_of_methodNamed B.named, atoms_spec (ws := wsX11_glove) B.pre, B.returns, B.notSynchronized⟩
  have hl := lv_entry ([.ref (ad 0), .int a1, .int a2, .int a3]) (n := 4) (Nat.le_of_ble_eq_true rfl)
  rw [lg_entry_eq]
  generalize (lg_sl ([.ref (ad 0), .int a1, .int a2, .int a3]) ++ List.replicate (4 - (lg_sl ([.ref (ad 0), .int a1, .int a2, .int a3])).length) Slot.unset).toArray = ls at hl ⊢
  have hl : lv_has ls 4 [(0, .ref (ad 0)), (1, .int a1), (2, .int a2), (3, .int a3)] := hl
  exact w_X11_glove_e hi a1 a2 a3  C0 hK Q (R_X11_glove a1 a2 a3 Q) (y_X11_glove hi a1 a2 a3  C0 hK Q)  s0 hv hP va_S.rf hl
def lay_X11_crossing (ad : Nat → Nat) (a1 : Int32) (a2 : Int32) : Nat → List Int32 → List Int64 → Option (List (Nat × Value) × List Value) := fun P xs ys => match P, xs, ys with
  | 31, [], [] => some ([(0, .ref (ad 0))], [])
  | _, _, _ => none
set_option maxHeartbeats 4000000 in
set_option maxRecDepth 100000 in
theorem w_X11_crossing_e {p : Program} {l : Launch} {e : Env} {s : State} {m : MethodId} {args : Array Value} {below : List Frame} {meth : Method} {c : Code} {dC : Nat → ClassId} {dI : Nat → Nat → Nat} {ad : Nat → Nat} {cA cZ : ClassId} (hi : Inj 12 ad) (a1 : Int32) (a2 : Int32)  (C0 : Cx cX11_crossing RX11 wsX11_crossing 3 (some .int) p s m args meth c) (hK : KK dC dI cA cZ s) (Q : Int32 → St → Prop) (Y : Nat → List Int32 → List Int64 → St → Prop) (hY : ∀ P xs ys σ, Y P xs ys σ → XX p l e ({ frames := 2, cells := 0, slots := 0, locals := 45 } : Room) s m args below meth c (dC, dI) 12 ad (celM ad cA cZ) 3 (ZI below args s (dC, dI) 12 ad (celM ad cA cZ) Q) (lay_X11_crossing ad a1 a2) P xs ys σ)  (s0 : St) (hv : B_X11_crossing_e a1 a2 Q Y  s0) {H : Heap} {locs : List Loc} {ls : Array Slot} (hP : va_P (dC, dI) vwCl (wd 12 ad (celM ad cA cZ) s0) H) (hS : va_S (AA 12 ad s.heap.size) s.heap H locs) (hl : lv_has ls 3 [(0, .ref (ad 0)), (1, .int a1), (2, .int a2)]) : W p l e ({ frames := 2, cells := 0, slots := 0, locals := 45 } : Room) s m args below meth c H locs 0 0 (ZI below args s (dC, dI) 12 ad (celM ad cA cZ) Q) (F0 m 0 ls []) := by
  obtain ⟨hx, hb, hml, hown, hts, hr, hlocks⟩ := C0
  have hD := wd_D (s := s) (cel := celM ad cA cZ) (σ := s0) hi
  unfold B_X11_crossing_e at hv
  refine lv_iload_n hx hb dX11_crossing_0 rfl (lv_at hl 1 rfl) ?_
  refine r_ci (va_runS (As := [.int a1]) (rest := []) ⟨hx, hb, hml, hown, hts⟩ (c_X11_isKind hi a1 s0 _ hv H.size) (va_cwS 1 hts gX11_crossing_X11_isKind rfl rfl rfl (by decide +kernel) ⟨Nat.le_of_ble_eq_true rfl, Nat.le_of_ble_eq_true rfl⟩) ⟨pre_blind, pre_of hP hK⟩ rfl rfl hl.1 rfl (lv_room (Nat.le_of_ble_eq_true rfl)) dX11_crossing_1 ⟨Nat.zero_le _, Nat.zero_le _⟩) hS (fun r1 s1 H locs hv hP hS => ?_)
  obtain ⟨hz_r1, hv⟩ := hv
  have hD := wd_D (s := s) (cel := celM ad cA cZ) (σ := s1) hi
  refine lv_if_eq (tgt := 31) hx hb dX11_crossing_4 (by decide) (fun c4 => ?_) (fun c4 => ?_)
  · have hv := hv.1 c4
    exact hY 31 [] [] s1 hv _ _ rfl H locs ls hP hS (lv_sub hl [0] rfl)
  · have hv := hv.2 c4
    refine lv_iload_n hx hb dX11_crossing_7 rfl (lv_at hl 2 rfl) ?_
    refine lv_i2l (v := a2.toInt64) hx hb dX11_crossing_8 rfl ?_
    refine lv_lconst (v := 0) hx hb dX11_crossing_9 (by decide) ?_
    refine lv_ldc2 (v := 22) hx hb hown (hts _ kX11_crossing_1) dX11_crossing_10 ?_
    refine r_ci (va_runS (As := [.long a2.toInt64, .long 0, .long 22]) (rest := []) ⟨hx, hb, hml, hown, hts⟩ (c_X11_in hi a2.toInt64 0 22 s1 _ hv H.size) (va_cwS 3 hts gX11_crossing_X11_in rfl rfl rfl (by decide +kernel) ⟨Nat.le_of_ble_eq_true rfl, Nat.le_of_ble_eq_true rfl⟩) ⟨pre_blind, pre_of hP hK⟩ rfl rfl hl.1 rfl (lv_room (Nat.le_of_ble_eq_true rfl)) dX11_crossing_13 ⟨Nat.zero_le _, Nat.zero_le _⟩) hS (fun r2 s2 H locs hv hP hS => ?_)
    obtain ⟨hz_r2, hv⟩ := hv
    have hD := wd_D (s := s) (cel := celM ad cA cZ) (σ := s2) hi
    refine lv_if_eq (tgt := 31) hx hb dX11_crossing_16 (by decide) (fun c16 => ?_) (fun c16 => ?_)
    · have hv := hv.1 c16
      exact hY 31 [] [] s2 hv _ _ rfl H locs ls hP hS (lv_sub hl [0] rfl)
    · have hv := hv.2 c16
      refine lv_aload_n hx hb dX11_crossing_19 rfl (lv_at hl 0 rfl) ?_
      refine r_get hx hb hts (iwX11_crossing_X11) hown hK.1 hP 0 (by decide) (ceMo_0 (s2 0)) rfl 0 (by decide) (hts _ kX11_crossing_2) (v := .ref (ad 1)) rfl dX11_crossing_20 ?_
      refine lv_iload_n hx hb dX11_crossing_23 rfl (lv_at hl 2 rfl) ?_
      refine r_ci (va_runS (As := [.ref (ad 1), .int a2]) (rest := []) ⟨hx, hb, hml, hown, hts⟩ (c_X11_behind hi 1 181 a2 arM_1 s2 _ hv H.size) (va_cwS 2 hts gX11_crossing_X11_behind rfl rfl rfl (by decide +kernel) ⟨Nat.le_of_ble_eq_true rfl, Nat.le_of_ble_eq_true rfl⟩) ⟨pre_blind, pre_of hP hK⟩ rfl rfl hl.1 rfl (lv_room (Nat.le_of_ble_eq_true rfl)) dX11_crossing_24 ⟨Nat.zero_le _, Nat.zero_le _⟩) hS (fun r3 s3 H locs hv hP hS => ?_)
      have hD := wd_D (s := s) (cel := celM ad cA cZ) (σ := s3) hi
      refine lv_iconst (v := (-1)) hx hb dX11_crossing_27 (by decide) ?_
      refine lv_icmp_eq (tgt := 38) hx hb dX11_crossing_28 (by decide) (fun c28 => ?_) (fun c28 => ?_)
      · have hv := hv.1 c28
        refine lv_aload_n hx hb dX11_crossing_38 rfl (lv_at hl 0 rfl) ?_
        refine r_get hx hb hts (iwX11_crossing_X11) hown hK.1 hP 0 (by decide) (ceMo_0 (s3 0)) rfl 0 (by decide) (hts _ kX11_crossing_2) (v := .ref (ad 1)) rfl dX11_crossing_39 ?_
        refine lv_iconst (v := 1) hx hb dX11_crossing_42 (by decide) ?_
        refine r_iald hx hb hK.1 hP 1 (by decide) (ceMo_1 (s3 1)) (vp_in_of_dec (by decide)) dX11_crossing_43 ?_
        refine lv_iconst (v := 3) hx hb dX11_crossing_44 (by decide) ?_
        refine lv_icmp_ne (tgt := 53) hx hb dX11_crossing_45 (by decide) (fun c45 => ?_) (fun c45 => ?_)
        · have hv := hv.1 c45
          refine lv_aload_n hx hb dX11_crossing_53 rfl (lv_at hl 0 rfl) ?_
          refine r_get hx hb hts (iwX11_crossing_X11) hown hK.1 hP 0 (by decide) (ceMo_0 (s3 0)) rfl 0 (by decide) (hts _ kX11_crossing_2) (v := .ref (ad 1)) rfl dX11_crossing_54 ?_
          refine lv_iload_n hx hb dX11_crossing_57 rfl (lv_at hl 1 rfl) ?_
          refine lv_iload_n hx hb dX11_crossing_58 rfl (lv_at hl 2 rfl) ?_
          refine r_cv (va_runS (As := [.ref (ad 1), .int a1, .int a2]) (rest := []) ⟨hx, hb, hml, hown, hts⟩ (c_X11_layCrossing hi 1 181 a1 a2 arM_1 s3 _ hv H.size) (va_cwS 3 hts gX11_crossing_X11_layCrossing rfl rfl rfl (by decide +kernel) ⟨Nat.le_of_ble_eq_true rfl, Nat.le_of_ble_eq_true rfl⟩) ⟨pre_blind, pre_of hP hK⟩ rfl rfl hl.1 rfl (lv_room (Nat.le_of_ble_eq_true rfl)) dX11_crossing_59 ⟨Nat.zero_le _, Nat.zero_le _⟩) hS (fun s4 H locs hv hP hS => ?_)
          have hD := wd_D (s := s) (cel := celM ad cA cZ) (σ := s4) hi
          refine lv_aload_n hx hb dX11_crossing_62 rfl (lv_at hl 0 rfl) ?_
          refine r_get hx hb hts (iwX11_crossing_X11) hown hK.1 hP 0 (by decide) (ceMo_0 (s4 0)) rfl 0 (by decide) (hts _ kX11_crossing_2) (v := .ref (ad 1)) rfl dX11_crossing_63 ?_
          refine lv_iconst (v := 5) hx hb dX11_crossing_66 (by decide) ?_
          refine lv_iconst (v := 0) hx hb dX11_crossing_67 (by decide) ?_
          refine r_iast hx hb hK.1 hP hD hS 1 (by decide) (ceMo_1 (s4 1)) (ceMo_1 _) (vp_in_of_dec (by decide)) dX11_crossing_68 (fun H locs s5 es5 hP hD hS => ?_)
          have hv := hv s5 es5
          refine lv_aload_n hx hb dX11_crossing_69 rfl (lv_at hl 0 rfl) ?_
          refine r_get hx hb hts (iwX11_crossing_X11) hown hK.1 hP 0 (by decide) (ceMo_0 (s5 0)) rfl 0 (by decide) (hts _ kX11_crossing_2) (v := .ref (ad 1)) rfl dX11_crossing_70 ?_
          refine lv_iconst (v := 1) hx hb dX11_crossing_73 (by decide) ?_
          refine r_iald hx hb hK.1 hP 1 (by decide) (ceMo_1 (s5 1)) (vp_in_of_dec (by decide)) dX11_crossing_74 ?_
          refine lv_iconst (v := 1) hx hb dX11_crossing_75 (by decide) ?_
          refine lv_isub hx hb dX11_crossing_76 ?_
          exact r_iret hx hb hr hlocks hv hP hS dX11_crossing_77
        · have hv := hv.2 c45
          refine lv_aload_n hx hb dX11_crossing_48 rfl (lv_at hl 0 rfl) ?_
          refine r_ci (va_runV (As := []) (rest := []) ⟨hx, hb, hml, hown, hts⟩ (c_X11_full hi  s3 _ hv H.size) (cwV 0 hts gX11_crossing_X11_full rfl rfl rfl (by decide +kernel) ⟨Nat.le_of_ble_eq_true rfl, Nat.le_of_ble_eq_true rfl⟩) ⟨pre_blind, r_recv hK.1 hP 0 (by decide) (ceMo_0 (s3 0)) rfl, pre_of hP hK⟩ rfl rfl hl.1 rfl (lv_room (Nat.le_of_ble_eq_true rfl)) dX11_crossing_49 ⟨Nat.zero_le _, Nat.zero_le _⟩) hS (fun r6 s6 H locs hv hP hS => ?_)
          have hD := wd_D (s := s) (cel := celM ad cA cZ) (σ := s6) hi
          exact r_iret hx hb hr hlocks hv hP hS dX11_crossing_52
      · have hv := hv.2 c28
        exact hY 31 [] [] s3 hv _ _ rfl H locs ls hP hS (lv_sub hl [0] rfl)
set_option maxHeartbeats 4000000 in
set_option maxRecDepth 100000 in
theorem w_X11_crossing_31 {p : Program} {l : Launch} {e : Env} {s : State} {m : MethodId} {args : Array Value} {below : List Frame} {meth : Method} {c : Code} {dC : Nat → ClassId} {dI : Nat → Nat → Nat} {ad : Nat → Nat} {cA cZ : ClassId} (hi : Inj 12 ad) (a1 : Int32) (a2 : Int32)  (C0 : Cx cX11_crossing RX11 wsX11_crossing 3 (some .int) p s m args meth c) (hK : KK dC dI cA cZ s) (Q : Int32 → St → Prop) (Y : Nat → List Int32 → List Int64 → St → Prop) (hY : ∀ P xs ys σ, Y P xs ys σ → XX p l e ({ frames := 2, cells := 0, slots := 0, locals := 45 } : Room) s m args below meth c (dC, dI) 12 ad (celM ad cA cZ) 3 (ZI below args s (dC, dI) 12 ad (celM ad cA cZ) Q) (lay_X11_crossing ad a1 a2) P xs ys σ)  (s0 : St) (hv : B_X11_crossing_31 a1 a2 Q Y  s0) {H : Heap} {locs : List Loc} {ls : Array Slot} (hP : va_P (dC, dI) vwCl (wd 12 ad (celM ad cA cZ) s0) H) (hS : va_S (AA 12 ad s.heap.size) s.heap H locs) (hl : lv_has ls 3 [(0, .ref (ad 0))]) : W p l e ({ frames := 2, cells := 0, slots := 0, locals := 45 } : Room) s m args below meth c H locs 0 0 (ZI below args s (dC, dI) 12 ad (celM ad cA cZ) Q) (F0 m 31 ls []) := by
  obtain ⟨hx, hb, hml, hown, hts, hr, hlocks⟩ := C0
  have hD := wd_D (s := s) (cel := celM ad cA cZ) (σ := s0) hi
  unfold B_X11_crossing_31 at hv
  refine lv_aload_n hx hb dX11_crossing_31 rfl (lv_at hl 0 rfl) ?_
  refine lv_bipush (v := (-2)) hx hb dX11_crossing_32 (by decide) ?_
  refine r_ci (va_runV (As := [.int ((-2))]) (rest := []) ⟨hx, hb, hml, hown, hts⟩ (c_X11_bad hi ((-2)) s0 _ hv H.size) (cwV 1 hts gX11_crossing_X11_bad rfl rfl rfl (by decide +kernel) ⟨Nat.le_of_ble_eq_true rfl, Nat.le_of_ble_eq_true rfl⟩) ⟨pre_blind, r_recv hK.1 hP 0 (by decide) (ceMo_0 (s0 0)) rfl, pre_of hP hK⟩ rfl rfl hl.1 rfl (lv_room (Nat.le_of_ble_eq_true rfl)) dX11_crossing_34 ⟨Nat.zero_le _, Nat.zero_le _⟩) hS (fun r1 s1 H locs hv hP hS => ?_)
  have hD := wd_D (s := s) (cel := celM ad cA cZ) (σ := s1) hi
  exact r_iret hx hb hr hlocks hv hP hS dX11_crossing_37
set_option maxHeartbeats 4000000 in
theorem y_X11_crossing {p : Program} {l : Launch} {e : Env} {s : State} {m : MethodId} {args : Array Value} {below : List Frame} {meth : Method} {c : Code} {dC : Nat → ClassId} {dI : Nat → Nat → Nat} {ad : Nat → Nat} {cA cZ : ClassId} (hi : Inj 12 ad) (a1 : Int32) (a2 : Int32)  (C0 : Cx cX11_crossing RX11 wsX11_crossing 3 (some .int) p s m args meth c) (hK : KK dC dI cA cZ s) (Q : Int32 → St → Prop) : ∀ P xs ys σ, R_X11_crossing a1 a2 Q P xs ys σ → XX p l e ({ frames := 2, cells := 0, slots := 0, locals := 45 } : Room) s m args below meth c (dC, dI) 12 ad (celM ad cA cZ) 3 (ZI below args s (dC, dI) 12 ad (celM ad cA cZ) Q) (lay_X11_crossing ad a1 a2) P xs ys σ := by
  refine Fx.elim _ (fun P xs ys σ Y hY hB => ?_)
  rcases hB with ⟨rfl, rfl, rfl, hB⟩
  · intro lv st he H locs ls hP hS hl
    cases he
    exact w_X11_crossing_31 hi a1 a2  C0 hK Q Y hY  σ hB hP hS hl
set_option maxHeartbeats 4000000 in
theorem c_X11_crossing {l : Launch} {dC : Nat → ClassId} {dI : Nat → Nat → Nat} {ad : Nat → Nat} {cA cZ : ClassId} (hi : Inj 12 ad) (a1 : Int32) (a2 : Int32)  (s0 : St) (Q : Int32 → St → Prop) (hv : V_X11_crossing a1 a2 s0 Q) (sz : Nat) : Met l yX11_crossing wsX11_crossing ({ frames := 2, cells := 0, slots := 0, locals := 45 } : Room) (va_Pc [.ref (ad 0), .int a1, .int a2] (PW dC dI ad cA cZ 12 (celM ad cA cZ) sz s0)) (va_Qi Q (fun u t => va_P (dC, dI) vwCl (wd 12 ad (celM ad cA cZ) u) t.heap) (AA 12 ad sz)) 0 0 (AA 12 ad sz) := by
  refine Met.ofW (cc := cX11_crossing) (maxL := 3) (ret := (some .int)) (by decide) rfl ?_
  intro p e s m args below meth c s₁ B hml hv0
  obtain ⟨rfl, hsz, hP, hK⟩ := hv0
  subst hsz
  have C0 : Cx cX11_crossing RX11 wsX11_crossing 3 (some .int) p s m ([.ref (ad 0), .int a1, .int a2] : List Value).toArray meth c := ⟨B.exec, B.bytes, hml, findClass_of_methodNamed B.named, atoms_spec (ws := wsX11_crossing) B.pre, B.returns, B.notSynchronized⟩
  have hl := lv_entry ([.ref (ad 0), .int a1, .int a2]) (n := 3) (Nat.le_of_ble_eq_true rfl)
  rw [lg_entry_eq]
  generalize (lg_sl ([.ref (ad 0), .int a1, .int a2]) ++ List.replicate (3 - (lg_sl ([.ref (ad 0), .int a1, .int a2])).length) Slot.unset).toArray = ls at hl ⊢
  have hl : lv_has ls 3 [(0, .ref (ad 0)), (1, .int a1), (2, .int a2)] := hl
  exact w_X11_crossing_e hi a1 a2  C0 hK Q (R_X11_crossing a1 a2 Q) (y_X11_crossing hi a1 a2  C0 hK Q)  s0 hv hP va_S.rf hl
def lay_X11_goesAs (ad : Nat → Nat) (a0 : Int32) (a1 : Int32) (a2 : Int32) : Nat → List Int32 → List Int64 → Option (List (Nat × Value) × List Value) := fun P xs ys => match P, xs, ys with
  | 9, [t0], [] => some ([(0, .int a0), (1, .int a1), (2, .int a2)], [.int t0])
  | 23, [x3, t0], [] => some ([(0, .int a0), (1, .int a1), (2, .int a2), (3, .int x3)], [.int t0])
  | _, _, _ => none
set_option maxHeartbeats 4000000 in
set_option maxRecDepth 100000 in
theorem w_X11_goesAs_e {p : Program} {l : Launch} {e : Env} {s : State} {m : MethodId} {args : Array Value} {below : List Frame} {meth : Method} {c : Code} {dC : Nat → ClassId} {dI : Nat → Nat → Nat} {ad : Nat → Nat} {cA cZ : ClassId} (hi : Inj 12 ad) (a0 : Int32) (a1 : Int32) (a2 : Int32)  (C0 : Cx cX11_goesAs RX11 wsX11_goesAs 5 (some .int) p s m args meth c) (hK : KK dC dI cA cZ s) (Q : Int32 → St → Prop) (Y : Nat → List Int32 → List Int64 → St → Prop) (hY : ∀ P xs ys σ, Y P xs ys σ → XX p l e ({ frames := 0, cells := 0, slots := 0, locals := 0 } : Room) s m args below meth c (dC, dI) 12 ad (celM ad cA cZ) 5 (ZI below args s (dC, dI) 12 ad (celM ad cA cZ) Q) (lay_X11_goesAs ad a0 a1 a2) P xs ys σ)  (s0 : St) (hv : B_X11_goesAs_e a0 a1 a2 Q Y  s0) {H : Heap} {locs : List Loc} {ls : Array Slot} (hP : va_P (dC, dI) vwCl (wd 12 ad (celM ad cA cZ) s0) H) (hS : va_S (AA 12 ad s.heap.size) s.heap H locs) (hl : lv_has ls 5 [(0, .int a0), (1, .int a1), (2, .int a2)]) : W p l e ({ frames := 0, cells := 0, slots := 0, locals := 0 } : Room) s m args below meth c H locs 0 0 (ZI below args s (dC, dI) 12 ad (celM ad cA cZ) Q) (F0 m 0 ls []) := by
  obtain ⟨hx, hb, hml, hown, hts, hr, hlocks⟩ := C0
  have hD := wd_D (s := s) (cel := celM ad cA cZ) (σ := s0) hi
  unfold B_X11_goesAs_e at hv
  refine lv_iload_n hx hb dX11_goesAs_0 rfl (lv_at hl 2 rfl) ?_
  refine lv_if_ne (tgt := 8) hx hb dX11_goesAs_1 (by decide) (fun c1 => ?_) (fun c1 => ?_)
  · have hv := hv.1 c1
    refine lv_iconst (v := 1) hx hb dX11_goesAs_8 (by decide) ?_
    exact hY 9 [1] [] s0 hv _ _ rfl H locs ls hP hS (lv_sub hl [0, 1, 2] rfl)
  · have hv := hv.2 c1
    refine lv_iconst (v := 2) hx hb dX11_goesAs_4 (by decide) ?_
    refine lv_goto (tgt := 9) hx hb dX11_goesAs_5 (by decide) ?_
    exact hY 9 [2] [] s0 hv _ _ rfl H locs ls hP hS (lv_sub hl [0, 1, 2] rfl)
set_option maxHeartbeats 4000000 in
set_option maxRecDepth 100000 in
theorem w_X11_goesAs_9 {p : Program} {l : Launch} {e : Env} {s : State} {m : MethodId} {args : Array Value} {below : List Frame} {meth : Method} {c : Code} {dC : Nat → ClassId} {dI : Nat → Nat → Nat} {ad : Nat → Nat} {cA cZ : ClassId} (hi : Inj 12 ad) (a0 : Int32) (a1 : Int32) (a2 : Int32)  (C0 : Cx cX11_goesAs RX11 wsX11_goesAs 5 (some .int) p s m args meth c) (hK : KK dC dI cA cZ s) (Q : Int32 → St → Prop) (Y : Nat → List Int32 → List Int64 → St → Prop) (hY : ∀ P xs ys σ, Y P xs ys σ → XX p l e ({ frames := 0, cells := 0, slots := 0, locals := 0 } : Room) s m args below meth c (dC, dI) 12 ad (celM ad cA cZ) 5 (ZI below args s (dC, dI) 12 ad (celM ad cA cZ) Q) (lay_X11_goesAs ad a0 a1 a2) P xs ys σ) (t0 : Int32) (s0 : St) (hv : B_X11_goesAs_9 a0 a1 a2 Q Y t0 s0) {H : Heap} {locs : List Loc} {ls : Array Slot} (hP : va_P (dC, dI) vwCl (wd 12 ad (celM ad cA cZ) s0) H) (hS : va_S (AA 12 ad s.heap.size) s.heap H locs) (hl : lv_has ls 5 [(0, .int a0), (1, .int a1), (2, .int a2)]) : W p l e ({ frames := 0, cells := 0, slots := 0, locals := 0 } : Room) s m args below meth c H locs 0 0 (ZI below args s (dC, dI) 12 ad (celM ad cA cZ) Q) (F0 m 9 ls [.int t0]) := by
  obtain ⟨hx, hb, hml, hown, hts, hr, hlocks⟩ := C0
  have hD := wd_D (s := s) (cel := celM ad cA cZ) (σ := s0) hi
  unfold B_X11_goesAs_9 at hv
  refine lv_istore_n (lv' := [(3, .int t0), (0, .int a0), (1, .int a1), (2, .int a2)]) hx hb dX11_goesAs_9 rfl hl (by decide) rfl (fun ls hl => ?_)
  refine lv_iload_n hx hb dX11_goesAs_10 rfl (lv_at hl 2 rfl) ?_
  refine lv_iconst (v := 2) hx hb dX11_goesAs_11 (by decide) ?_
  refine lv_irem hx hb dX11_goesAs_12 (by decide) ?_
  refine lv_if_ne (tgt := 22) hx hb dX11_goesAs_13 (by decide) (fun c13 => ?_) (fun c13 => ?_)
  · have hv := hv.1 c13
    refine lv_iload_n hx hb dX11_goesAs_22 rfl (lv_at hl 0 rfl) ?_
    exact hY 23 [t0, t0] [] s0 hv _ _ rfl H locs ls hP hS (lv_sub hl [1, 2, 3, 0] rfl)
  · have hv := hv.2 c13
    refine lv_iconst (v := 2) hx hb dX11_goesAs_16 (by decide) ?_
    refine lv_iload_n hx hb dX11_goesAs_17 rfl (lv_at hl 0 rfl) ?_
    refine lv_imul hx hb dX11_goesAs_18 ?_
    refine lv_goto (tgt := 23) hx hb dX11_goesAs_19 (by decide) ?_
    exact hY 23 [t0, 2 * t0] [] s0 hv _ _ rfl H locs ls hP hS (lv_sub hl [1, 2, 3, 0] rfl)
set_option maxHeartbeats 4000000 in
set_option maxRecDepth 100000 in
theorem w_X11_goesAs_23 {p : Program} {l : Launch} {e : Env} {s : State} {m : MethodId} {args : Array Value} {below : List Frame} {meth : Method} {c : Code} {dC : Nat → ClassId} {dI : Nat → Nat → Nat} {ad : Nat → Nat} {cA cZ : ClassId} (hi : Inj 12 ad) (a0 : Int32) (a1 : Int32) (a2 : Int32)  (C0 : Cx cX11_goesAs RX11 wsX11_goesAs 5 (some .int) p s m args meth c) (hK : KK dC dI cA cZ s) (Q : Int32 → St → Prop) (Y : Nat → List Int32 → List Int64 → St → Prop) (hY : ∀ P xs ys σ, Y P xs ys σ → XX p l e ({ frames := 0, cells := 0, slots := 0, locals := 0 } : Room) s m args below meth c (dC, dI) 12 ad (celM ad cA cZ) 5 (ZI below args s (dC, dI) 12 ad (celM ad cA cZ) Q) (lay_X11_goesAs ad a0 a1 a2) P xs ys σ) (x3 : Int32) (t0 : Int32) (s0 : St) (hv : B_X11_goesAs_23 a0 a1 a2 Q Y x3 t0 s0) {H : Heap} {locs : List Loc} {ls : Array Slot} (hP : va_P (dC, dI) vwCl (wd 12 ad (celM ad cA cZ) s0) H) (hS : va_S (AA 12 ad s.heap.size) s.heap H locs) (hl : lv_has ls 5 [(0, .int a0), (1, .int a1), (2, .int a2), (3, .int x3)]) : W p l e ({ frames := 0, cells := 0, slots := 0, locals := 0 } : Room) s m args below meth c H locs 0 0 (ZI below args s (dC, dI) 12 ad (celM ad cA cZ) Q) (F0 m 23 ls [.int t0]) := by
  obtain ⟨hx, hb, hml, hown, hts, hr, hlocks⟩ := C0
  have hD := wd_D (s := s) (cel := celM ad cA cZ) (σ := s0) hi
  unfold B_X11_goesAs_23 at hv
  refine lv_istore (lv' := [(4, .int t0), (0, .int a0), (1, .int a1), (2, .int a2), (3, .int x3)]) hx hb dX11_goesAs_23 hl (by decide) rfl (fun ls hl => ?_)
  refine lv_iload_n hx hb dX11_goesAs_25 rfl (lv_at hl 1 rfl) ?_
  by_cases c26_1 : a0 = 1
  · have hv := hv.1 c26_1
    refine lv_tableIn (off := 34) (tgt := 60) hx hb dX11_goesAs_26 (by rw [c26_1]; decide) (by rw [c26_1]; decide) (by rw [c26_1]; rfl) (by decide) ?_
    refine lv_iload_n hx hb dX11_goesAs_60 rfl (lv_at hl 4 rfl) ?_
    exact r_iret hx hb hr hlocks hv hP hS dX11_goesAs_61
  have hv := hv.2 c26_1
  by_cases c26_2 : a0 = 2
  · have hv := hv.1 c26_2
    refine lv_tableIn (off := 36) (tgt := 62) hx hb dX11_goesAs_26 (by rw [c26_2]; decide) (by rw [c26_2]; decide) (by rw [c26_2]; rfl) (by decide) ?_
    refine lv_iload_n hx hb dX11_goesAs_62 rfl (lv_at hl 3 rfl) ?_
    refine lv_iconst (v := 3) hx hb dX11_goesAs_63 (by decide) ?_
    refine lv_icmp_lt (tgt := 71) hx hb dX11_goesAs_64 (by decide) (fun c64 => ?_) (fun c64 => ?_)
    · have hv := hv.1 c64
      refine lv_iconst (v := 1) hx hb dX11_goesAs_71 (by decide) ?_
      exact r_iret hx hb hr hlocks hv hP hS dX11_goesAs_72
    · have hv := hv.2 c64
      refine lv_iconst (v := 0) hx hb dX11_goesAs_67 (by decide) ?_
      refine lv_goto (tgt := 72) hx hb dX11_goesAs_68 (by decide) ?_
      exact r_iret hx hb hr hlocks hv hP hS dX11_goesAs_72
  have hv := hv.2 c26_2
  by_cases c26_3 : a0 = 3
  · have hv := hv.1 c26_3
    refine lv_tableIn (off := 47) (tgt := 73) hx hb dX11_goesAs_26 (by rw [c26_3]; decide) (by rw [c26_3]; decide) (by rw [c26_3]; rfl) (by decide) ?_
    refine lv_iload hx hb dX11_goesAs_73 (lv_at hl 0 rfl) ?_
    exact r_iret hx hb hr hlocks hv hP hS dX11_goesAs_75
  have hv := hv.2 c26_3
  by_cases c26_4 : a0 = 4
  · have hv := hv.1 c26_4
    refine lv_tableIn (off := 50) (tgt := 76) hx hb dX11_goesAs_26 (by rw [c26_4]; decide) (by rw [c26_4]; decide) (by rw [c26_4]; rfl) (by decide) ?_
    refine lv_iload_n hx hb dX11_goesAs_76 rfl (lv_at hl 2 rfl) ?_
    refine lv_iconst (v := 5) hx hb dX11_goesAs_77 (by decide) ?_
    refine lv_irem hx hb dX11_goesAs_78 (by decide) ?_
    refine lv_if_ne (tgt := 86) hx hb dX11_goesAs_79 (by decide) (fun c79 => ?_) (fun c79 => ?_)
    · have hv := hv.1 c79
      refine lv_iconst (v := 1) hx hb dX11_goesAs_86 (by decide) ?_
      exact r_iret hx hb hr hlocks hv hP hS dX11_goesAs_87
    · have hv := hv.2 c79
      refine lv_iconst (v := 4) hx hb dX11_goesAs_82 (by decide) ?_
      refine lv_goto (tgt := 87) hx hb dX11_goesAs_83 (by decide) ?_
      exact r_iret hx hb hr hlocks hv hP hS dX11_goesAs_87
  have hv := hv.2 c26_4
  by_cases c26_5 : a0 = 5
  · have hv := hv.1 c26_5
    refine lv_tableIn (off := 62) (tgt := 88) hx hb dX11_goesAs_26 (by rw [c26_5]; decide) (by rw [c26_5]; decide) (by rw [c26_5]; rfl) (by decide) ?_
    refine lv_iload hx hb dX11_goesAs_88 (lv_at hl 0 rfl) ?_
    refine lv_iload_n hx hb dX11_goesAs_90 rfl (lv_at hl 3 rfl) ?_
    refine lv_icmp_le (tgt := 101) hx hb dX11_goesAs_91 (by decide) (fun c91 => ?_) (fun c91 => ?_)
    · have hv := hv.1 c91
      refine lv_iconst (v := 0) hx hb dX11_goesAs_101 (by decide) ?_
      exact r_iret hx hb hr hlocks hv hP hS dX11_goesAs_102
    · have hv := hv.2 c91
      refine lv_iload hx hb dX11_goesAs_94 (lv_at hl 0 rfl) ?_
      refine lv_iload_n hx hb dX11_goesAs_96 rfl (lv_at hl 3 rfl) ?_
      refine lv_isub hx hb dX11_goesAs_97 ?_
      refine lv_goto (tgt := 102) hx hb dX11_goesAs_98 (by decide) ?_
      exact r_iret hx hb hr hlocks hv hP hS dX11_goesAs_102
  have hv := hv.2 c26_5
  refine lv_tableOut (tgt := 103) hx hb dX11_goesAs_26 (by have w1 := lv_neT (a := 1) c26_1 (by decide); have w2 := lv_neT (a := 2) c26_2 (by decide); have w3 := lv_neT (a := 3) c26_3 (by decide); have w4 := lv_neT (a := 4) c26_4 (by decide); have w5 := lv_neT (a := 5) c26_5 (by decide); omega) (by decide) ?_
  refine lv_iconst (v := 1) hx hb dX11_goesAs_103 (by decide) ?_
  exact r_iret hx hb hr hlocks hv hP hS dX11_goesAs_104
set_option maxHeartbeats 4000000 in
theorem y_X11_goesAs {p : Program} {l : Launch} {e : Env} {s : State} {m : MethodId} {args : Array Value} {below : List Frame} {meth : Method} {c : Code} {dC : Nat → ClassId} {dI : Nat → Nat → Nat} {ad : Nat → Nat} {cA cZ : ClassId} (hi : Inj 12 ad) (a0 : Int32) (a1 : Int32) (a2 : Int32)  (C0 : Cx cX11_goesAs RX11 wsX11_goesAs 5 (some .int) p s m args meth c) (hK : KK dC dI cA cZ s) (Q : Int32 → St → Prop) : ∀ P xs ys σ, R_X11_goesAs a0 a1 a2 Q P xs ys σ → XX p l e ({ frames := 0, cells := 0, slots := 0, locals := 0 } : Room) s m args below meth c (dC, dI) 12 ad (celM ad cA cZ) 5 (ZI below args s (dC, dI) 12 ad (celM ad cA cZ) Q) (lay_X11_goesAs ad a0 a1 a2) P xs ys σ := by
  refine Fx.elim _ (fun P xs ys σ Y hY hB => ?_)
  rcases hB with ⟨rfl, t0, rfl, rfl, hB⟩ | ⟨rfl, x3, t0, rfl, rfl, hB⟩
  · intro lv st he H locs ls hP hS hl
    cases he
    exact w_X11_goesAs_9 hi a0 a1 a2  C0 hK Q Y hY t0 σ hB hP hS hl
  · intro lv st he H locs ls hP hS hl
    cases he
    exact w_X11_goesAs_23 hi a0 a1 a2  C0 hK Q Y hY x3 t0 σ hB hP hS hl
set_option maxHeartbeats 4000000 in
theorem c_X11_goesAs {l : Launch} {dC : Nat → ClassId} {dI : Nat → Nat → Nat} {ad : Nat → Nat} {cA cZ : ClassId} (hi : Inj 12 ad) (a0 : Int32) (a1 : Int32) (a2 : Int32)  (s0 : St) (Q : Int32 → St → Prop) (hv : V_X11_goesAs a0 a1 a2 s0 Q) (sz : Nat) : Met l yX11_goesAs wsX11_goesAs ({ frames := 0, cells := 0, slots := 0, locals := 0 } : Room) (va_Pc [.int a0, .int a1, .int a2] (PW dC dI ad cA cZ 12 (celM ad cA cZ) sz s0)) (va_Qi Q (fun u t => va_P (dC, dI) vwCl (wd 12 ad (celM ad cA cZ) u) t.heap) (AA 12 ad sz)) 0 0 (AA 12 ad sz) := by
  refine Met.ofW (cc := cX11_goesAs) (maxL := 5) (ret := (some .int)) (by decide) rfl ?_
  intro p e s m args below meth c s₁ B hml hv0
  obtain ⟨rfl, hsz, hP, hK⟩ := hv0
  subst hsz
  have C0 : Cx cX11_goesAs RX11 wsX11_goesAs 5 (some .int) p s m ([.int a0, .int a1, .int a2] : List Value).toArray meth c := ⟨B.exec, B.bytes, hml, findClass_of_methodNamed B.named, atoms_spec (ws := wsX11_goesAs) B.pre, B.returns, B.notSynchronized⟩
  have hl := lv_entry ([.int a0, .int a1, .int a2]) (n := 5) (Nat.le_of_ble_eq_true rfl)
  rw [lg_entry_eq]
  generalize (lg_sl ([.int a0, .int a1, .int a2]) ++ List.replicate (5 - (lg_sl ([.int a0, .int a1, .int a2])).length) Slot.unset).toArray = ls at hl ⊢
  have hl : lv_has ls 5 [(0, .int a0), (1, .int a1), (2, .int a2)] := hl
  exact w_X11_goesAs_e hi a0 a1 a2  C0 hK Q (R_X11_goesAs a0 a1 a2 Q) (y_X11_goesAs hi a0 a1 a2  C0 hK Q)  s0 hv hP va_S.rf hl
def lay_X11_letsAs (ad : Nat → Nat) (a0 : Int32) (a1 : Int32) (a2 : Int32) : Nat → List Int32 → List Int64 → Option (List (Nat × Value) × List Value) := fun P xs ys => match P, xs, ys with
  | 11, [t0], [] => some ([(0, .int a0), (1, .int a1), (2, .int a2)], [.int t0])
  | 23, [x3, t0], [] => some ([(0, .int a0), (1, .int a1), (2, .int a2), (3, .int x3)], [.int t0])
  | _, _, _ => none
set_option maxHeartbeats 4000000 in
set_option maxRecDepth 100000 in
theorem w_X11_letsAs_e {p : Program} {l : Launch} {e : Env} {s : State} {m : MethodId} {args : Array Value} {below : List Frame} {meth : Method} {c : Code} {dC : Nat → ClassId} {dI : Nat → Nat → Nat} {ad : Nat → Nat} {cA cZ : ClassId} (hi : Inj 12 ad) (a0 : Int32) (a1 : Int32) (a2 : Int32)  (C0 : Cx cX11_letsAs RX11 wsX11_letsAs 6 (some .int) p s m args meth c) (hK : KK dC dI cA cZ s) (Q : Int32 → St → Prop) (Y : Nat → List Int32 → List Int64 → St → Prop) (hY : ∀ P xs ys σ, Y P xs ys σ → XX p l e ({ frames := 0, cells := 0, slots := 0, locals := 0 } : Room) s m args below meth c (dC, dI) 12 ad (celM ad cA cZ) 6 (ZI below args s (dC, dI) 12 ad (celM ad cA cZ) Q) (lay_X11_letsAs ad a0 a1 a2) P xs ys σ)  (s0 : St) (hv : B_X11_letsAs_e a0 a1 a2 Q Y  s0) {H : Heap} {locs : List Loc} {ls : Array Slot} (hP : va_P (dC, dI) vwCl (wd 12 ad (celM ad cA cZ) s0) H) (hS : va_S (AA 12 ad s.heap.size) s.heap H locs) (hl : lv_has ls 6 [(0, .int a0), (1, .int a1), (2, .int a2)]) : W p l e ({ frames := 0, cells := 0, slots := 0, locals := 0 } : Room) s m args below meth c H locs 0 0 (ZI below args s (dC, dI) 12 ad (celM ad cA cZ) Q) (F0 m 0 ls []) := by
  obtain ⟨hx, hb, hml, hown, hts, hr, hlocks⟩ := C0
  have hD := wd_D (s := s) (cel := celM ad cA cZ) (σ := s0) hi
  unfold B_X11_letsAs_e at hv
  refine lv_iload_n hx hb dX11_letsAs_0 rfl (lv_at hl 1 rfl) ?_
  refine lv_iconst (v := 2) hx hb dX11_letsAs_1 (by decide) ?_
  refine lv_irem hx hb dX11_letsAs_2 (by decide) ?_
  refine lv_if_ne (tgt := 10) hx hb dX11_letsAs_3 (by decide) (fun c3 => ?_) (fun c3 => ?_)
  · have hv := hv.1 c3
    refine lv_iconst (v := 0) hx hb dX11_letsAs_10 (by decide) ?_
    exact hY 11 [0] [] s0 hv _ _ rfl H locs ls hP hS (lv_sub hl [0, 1, 2] rfl)
  · have hv := hv.2 c3
    refine lv_iconst (v := 2) hx hb dX11_letsAs_6 (by decide) ?_
    refine lv_goto (tgt := 11) hx hb dX11_letsAs_7 (by decide) ?_
    exact hY 11 [2] [] s0 hv _ _ rfl H locs ls hP hS (lv_sub hl [0, 1, 2] rfl)
set_option maxHeartbeats 4000000 in
set_option maxRecDepth 100000 in
theorem w_X11_letsAs_11 {p : Program} {l : Launch} {e : Env} {s : State} {m : MethodId} {args : Array Value} {below : List Frame} {meth : Method} {c : Code} {dC : Nat → ClassId} {dI : Nat → Nat → Nat} {ad : Nat → Nat} {cA cZ : ClassId} (hi : Inj 12 ad) (a0 : Int32) (a1 : Int32) (a2 : Int32)  (C0 : Cx cX11_letsAs RX11 wsX11_letsAs 6 (some .int) p s m args meth c) (hK : KK dC dI cA cZ s) (Q : Int32 → St → Prop) (Y : Nat → List Int32 → List Int64 → St → Prop) (hY : ∀ P xs ys σ, Y P xs ys σ → XX p l e ({ frames := 0, cells := 0, slots := 0, locals := 0 } : Room) s m args below meth c (dC, dI) 12 ad (celM ad cA cZ) 6 (ZI below args s (dC, dI) 12 ad (celM ad cA cZ) Q) (lay_X11_letsAs ad a0 a1 a2) P xs ys σ) (t0 : Int32) (s0 : St) (hv : B_X11_letsAs_11 a0 a1 a2 Q Y t0 s0) {H : Heap} {locs : List Loc} {ls : Array Slot} (hP : va_P (dC, dI) vwCl (wd 12 ad (celM ad cA cZ) s0) H) (hS : va_S (AA 12 ad s.heap.size) s.heap H locs) (hl : lv_has ls 6 [(0, .int a0), (1, .int a1), (2, .int a2)]) : W p l e ({ frames := 0, cells := 0, slots := 0, locals := 0 } : Room) s m args below meth c H locs 0 0 (ZI below args s (dC, dI) 12 ad (celM ad cA cZ) Q) (F0 m 11 ls [.int t0]) := by
  obtain ⟨hx, hb, hml, hown, hts, hr, hlocks⟩ := C0
  have hD := wd_D (s := s) (cel := celM ad cA cZ) (σ := s0) hi
  unfold B_X11_letsAs_11 at hv
  refine lv_istore_n (lv' := [(3, .int t0), (0, .int a0), (1, .int a1), (2, .int a2)]) hx hb dX11_letsAs_11 rfl hl (by decide) rfl (fun ls hl => ?_)
  refine lv_iload_n hx hb dX11_letsAs_12 rfl (lv_at hl 0 rfl) ?_
  refine lv_if_le (tgt := 22) hx hb dX11_letsAs_13 (by decide) (fun c13 => ?_) (fun c13 => ?_)
  · have hv := hv.1 c13
    refine lv_iconst (v := 0) hx hb dX11_letsAs_22 (by decide) ?_
    exact hY 23 [t0, 0] [] s0 hv _ _ rfl H locs ls hP hS (lv_sub hl [1, 2, 3, 0] rfl)
  · have hv := hv.2 c13
    refine lv_iload_n hx hb dX11_letsAs_16 rfl (lv_at hl 0 rfl) ?_
    refine lv_iconst (v := 1) hx hb dX11_letsAs_17 (by decide) ?_
    refine lv_isub hx hb dX11_letsAs_18 ?_
    refine lv_goto (tgt := 23) hx hb dX11_letsAs_19 (by decide) ?_
    exact hY 23 [t0, t0 - 1] [] s0 hv _ _ rfl H locs ls hP hS (lv_sub hl [1, 2, 3, 0] rfl)
set_option maxHeartbeats 4000000 in
set_option maxRecDepth 100000 in
theorem w_X11_letsAs_23 {p : Program} {l : Launch} {e : Env} {s : State} {m : MethodId} {args : Array Value} {below : List Frame} {meth : Method} {c : Code} {dC : Nat → ClassId} {dI : Nat → Nat → Nat} {ad : Nat → Nat} {cA cZ : ClassId} (hi : Inj 12 ad) (a0 : Int32) (a1 : Int32) (a2 : Int32)  (C0 : Cx cX11_letsAs RX11 wsX11_letsAs 6 (some .int) p s m args meth c) (hK : KK dC dI cA cZ s) (Q : Int32 → St → Prop) (Y : Nat → List Int32 → List Int64 → St → Prop) (hY : ∀ P xs ys σ, Y P xs ys σ → XX p l e ({ frames := 0, cells := 0, slots := 0, locals := 0 } : Room) s m args below meth c (dC, dI) 12 ad (celM ad cA cZ) 6 (ZI below args s (dC, dI) 12 ad (celM ad cA cZ) Q) (lay_X11_letsAs ad a0 a1 a2) P xs ys σ) (x3 : Int32) (t0 : Int32) (s0 : St) (hv : B_X11_letsAs_23 a0 a1 a2 Q Y x3 t0 s0) {H : Heap} {locs : List Loc} {ls : Array Slot} (hP : va_P (dC, dI) vwCl (wd 12 ad (celM ad cA cZ) s0) H) (hS : va_S (AA 12 ad s.heap.size) s.heap H locs) (hl : lv_has ls 6 [(0, .int a0), (1, .int a1), (2, .int a2), (3, .int x3)]) : W p l e ({ frames := 0, cells := 0, slots := 0, locals := 0 } : Room) s m args below meth c H locs 0 0 (ZI below args s (dC, dI) 12 ad (celM ad cA cZ) Q) (F0 m 23 ls [.int t0]) := by
  obtain ⟨hx, hb, hml, hown, hts, hr, hlocks⟩ := C0
  have hD := wd_D (s := s) (cel := celM ad cA cZ) (σ := s0) hi
  unfold B_X11_letsAs_23 at hv
  refine lv_istore (lv' := [(4, .int t0), (0, .int a0), (1, .int a1), (2, .int a2), (3, .int x3)]) hx hb dX11_letsAs_23 hl (by decide) rfl (fun ls hl => ?_)
  refine lv_iload_n hx hb dX11_letsAs_25 rfl (lv_at hl 4 rfl) ?_
  refine lv_iload_n hx hb dX11_letsAs_26 rfl (lv_at hl 3 rfl) ?_
  refine lv_iconst (v := 2) hx hb dX11_letsAs_27 (by decide) ?_
  refine lv_idiv hx hb dX11_letsAs_28 (by decide) ?_
  refine lv_iadd hx hb dX11_letsAs_29 ?_
  refine lv_istore (lv' := [(5, .int (x3 + (a2 / 2))), (4, .int t0), (0, .int a0), (1, .int a1), (2, .int a2), (3, .int x3)]) hx hb dX11_letsAs_30 hl (by decide) rfl (fun ls hl => ?_)
  refine lv_iload_n hx hb dX11_letsAs_32 rfl (lv_at hl 2 rfl) ?_
  by_cases c33_1 : a0 = 1
  · have hv := hv.1 c33_1
    refine lv_tableIn (off := 35) (tgt := 68) hx hb dX11_letsAs_33 (by rw [c33_1]; decide) (by rw [c33_1]; decide) (by rw [c33_1]; rfl) (by decide) ?_
    refine lv_iload hx hb dX11_letsAs_68 (lv_at hl 1 rfl) ?_
    exact r_iret hx hb hr hlocks hv hP hS dX11_letsAs_70
  have hv := hv.2 c33_1
  by_cases c33_2 : a0 = 2
  · have hv := hv.1 c33_2
    refine lv_tableIn (off := 38) (tgt := 71) hx hb dX11_letsAs_33 (by rw [c33_2]; decide) (by rw [c33_2]; decide) (by rw [c33_2]; rfl) (by decide) ?_
    refine lv_iload hx hb dX11_letsAs_71 (lv_at hl 0 rfl) ?_
    exact r_iret hx hb hr hlocks hv hP hS dX11_letsAs_73
  have hv := hv.2 c33_2
  by_cases c33_3 : a0 = 3
  · have hv := hv.1 c33_3
    refine lv_tableIn (off := 41) (tgt := 74) hx hb dX11_letsAs_33 (by rw [c33_3]; decide) (by rw [c33_3]; decide) (by rw [c33_3]; rfl) (by decide) ?_
    refine lv_iload_n hx hb dX11_letsAs_74 rfl (lv_at hl 4 rfl) ?_
    refine lv_iconst (v := 4) hx hb dX11_letsAs_75 (by decide) ?_
    refine lv_icmp_lt (tgt := 86) hx hb dX11_letsAs_76 (by decide) (fun c76 => ?_) (fun c76 => ?_)
    · have hv := hv.1 c76
      refine lv_iload hx hb dX11_letsAs_86 (lv_at hl 1 rfl) ?_
      exact r_iret hx hb hr hlocks hv hP hS dX11_letsAs_88
    · have hv := hv.2 c76
      refine lv_iload hx hb dX11_letsAs_79 (lv_at hl 1 rfl) ?_
      refine lv_iconst (v := 1) hx hb dX11_letsAs_81 (by decide) ?_
      refine lv_iadd hx hb dX11_letsAs_82 ?_
      refine lv_goto (tgt := 88) hx hb dX11_letsAs_83 (by decide) ?_
      exact r_iret hx hb hr hlocks hv hP hS dX11_letsAs_88
  have hv := hv.2 c33_3
  by_cases c33_4 : a0 = 4
  · have hv := hv.1 c33_4
    refine lv_tableIn (off := 56) (tgt := 89) hx hb dX11_letsAs_33 (by rw [c33_4]; decide) (by rw [c33_4]; decide) (by rw [c33_4]; rfl) (by decide) ?_
    refine lv_iload_n hx hb dX11_letsAs_89 rfl (lv_at hl 3 rfl) ?_
    refine lv_bipush (v := 8) hx hb dX11_letsAs_90 (by decide) ?_
    refine lv_irem hx hb dX11_letsAs_92 (by decide) ?_
    refine lv_bipush (v := 6) hx hb dX11_letsAs_93 (by decide) ?_
    refine lv_icmp_lt (tgt := 102) hx hb dX11_letsAs_95 (by decide) (fun c95 => ?_) (fun c95 => ?_)
    · have hv := hv.1 c95
      refine lv_iload_n hx hb dX11_letsAs_102 rfl (lv_at hl 5 rfl) ?_
      exact r_iret hx hb hr hlocks hv hP hS dX11_letsAs_103
    · have hv := hv.2 c95
      refine lv_iload_n hx hb dX11_letsAs_98 rfl (lv_at hl 4 rfl) ?_
      refine lv_goto (tgt := 103) hx hb dX11_letsAs_99 (by decide) ?_
      exact r_iret hx hb hr hlocks hv hP hS dX11_letsAs_103
  have hv := hv.2 c33_4
  by_cases c33_5 : a0 = 5
  · have hv := hv.1 c33_5
    refine lv_tableIn (off := 71) (tgt := 104) hx hb dX11_letsAs_33 (by rw [c33_5]; decide) (by rw [c33_5]; decide) (by rw [c33_5]; rfl) (by decide) ?_
    refine lv_iload_n hx hb dX11_letsAs_104 rfl (lv_at hl 3 rfl) ?_
    refine lv_iconst (v := 3) hx hb dX11_letsAs_105 (by decide) ?_
    refine lv_irem hx hb dX11_letsAs_106 (by decide) ?_
    refine lv_if_ne (tgt := 114) hx hb dX11_letsAs_107 (by decide) (fun c107 => ?_) (fun c107 => ?_)
    · have hv := hv.1 c107
      refine lv_iload hx hb dX11_letsAs_114 (lv_at hl 0 rfl) ?_
      exact r_iret hx hb hr hlocks hv hP hS dX11_letsAs_116
    · have hv := hv.2 c107
      refine lv_iconst (v := 0) hx hb dX11_letsAs_110 (by decide) ?_
      refine lv_goto (tgt := 116) hx hb dX11_letsAs_111 (by decide) ?_
      exact r_iret hx hb hr hlocks hv hP hS dX11_letsAs_116
  have hv := hv.2 c33_5
  refine lv_tableOut (tgt := 117) hx hb dX11_letsAs_33 (by have w1 := lv_neT (a := 1) c33_1 (by decide); have w2 := lv_neT (a := 2) c33_2 (by decide); have w3 := lv_neT (a := 3) c33_3 (by decide); have w4 := lv_neT (a := 4) c33_4 (by decide); have w5 := lv_neT (a := 5) c33_5 (by decide); omega) (by decide) ?_
  refine lv_iload_n hx hb dX11_letsAs_117 rfl (lv_at hl 5 rfl) ?_
  exact r_iret hx hb hr hlocks hv hP hS dX11_letsAs_118
set_option maxHeartbeats 4000000 in
theorem y_X11_letsAs {p : Program} {l : Launch} {e : Env} {s : State} {m : MethodId} {args : Array Value} {below : List Frame} {meth : Method} {c : Code} {dC : Nat → ClassId} {dI : Nat → Nat → Nat} {ad : Nat → Nat} {cA cZ : ClassId} (hi : Inj 12 ad) (a0 : Int32) (a1 : Int32) (a2 : Int32)  (C0 : Cx cX11_letsAs RX11 wsX11_letsAs 6 (some .int) p s m args meth c) (hK : KK dC dI cA cZ s) (Q : Int32 → St → Prop) : ∀ P xs ys σ, R_X11_letsAs a0 a1 a2 Q P xs ys σ → XX p l e ({ frames := 0, cells := 0, slots := 0, locals := 0 } : Room) s m args below meth c (dC, dI) 12 ad (celM ad cA cZ) 6 (ZI below args s (dC, dI) 12 ad (celM ad cA cZ) Q) (lay_X11_letsAs ad a0 a1 a2) P xs ys σ := by
  refine Fx.elim _ (fun P xs ys σ Y hY hB => ?_)
  rcases hB with ⟨rfl, t0, rfl, rfl, hB⟩ | ⟨rfl, x3, t0, rfl, rfl, hB⟩
  · intro lv st he H locs ls hP hS hl
    cases he
    exact w_X11_letsAs_11 hi a0 a1 a2  C0 hK Q Y hY t0 σ hB hP hS hl
  · intro lv st he H locs ls hP hS hl
    cases he
    exact w_X11_letsAs_23 hi a0 a1 a2  C0 hK Q Y hY x3 t0 σ hB hP hS hl
set_option maxHeartbeats 4000000 in
theorem c_X11_letsAs {l : Launch} {dC : Nat → ClassId} {dI : Nat → Nat → Nat} {ad : Nat → Nat} {cA cZ : ClassId} (hi : Inj 12 ad) (a0 : Int32) (a1 : Int32) (a2 : Int32)  (s0 : St) (Q : Int32 → St → Prop) (hv : V_X11_letsAs a0 a1 a2 s0 Q) (sz : Nat) : Met l yX11_letsAs wsX11_letsAs ({ frames := 0, cells := 0, slots := 0, locals := 0 } : Room) (va_Pc [.int a0, .int a1, .int a2] (PW dC dI ad cA cZ 12 (celM ad cA cZ) sz s0)) (va_Qi Q (fun u t => va_P (dC, dI) vwCl (wd 12 ad (celM ad cA cZ) u) t.heap) (AA 12 ad sz)) 0 0 (AA 12 ad sz) := by
  refine Met.ofW (cc := cX11_letsAs) (maxL := 6) (ret := (some .int)) (by decide) rfl ?_
  intro p e s m args below meth c s₁ B hml hv0
  obtain ⟨rfl, hsz, hP, hK⟩ := hv0
  subst hsz
  have C0 : Cx cX11_letsAs RX11 wsX11_letsAs 6 (some .int) p s m ([.int a0, .int a1, .int a2] : List Value).toArray meth c := ⟨B.exec, B.bytes, hml, findClass_of_methodNamed B.named, atoms_spec (ws := wsX11_letsAs) B.pre, B.returns, B.notSynchronized⟩
  have hl := lv_entry ([.int a0, .int a1, .int a2]) (n := 6) (Nat.le_of_ble_eq_true rfl)
  rw [lg_entry_eq]
  generalize (lg_sl ([.int a0, .int a1, .int a2]) ++ List.replicate (6 - (lg_sl ([.int a0, .int a1, .int a2])).length) Slot.unset).toArray = ls at hl ⊢
  have hl : lv_has ls 6 [(0, .int a0), (1, .int a1), (2, .int a2)] := hl
  exact w_X11_letsAs_e hi a0 a1 a2  C0 hK Q (R_X11_letsAs a0 a1 a2 Q) (y_X11_letsAs hi a0 a1 a2  C0 hK Q)  s0 hv hP va_S.rf hl
