def lay_X10_imageOf (ad : Nat → Nat) (a1 : Int32) : Nat → List Int32 → List Int64 → Option (List (Nat × Value) × List Value) := fun P xs ys => match P, xs, ys with
  | _, _, _ => none
set_option maxHeartbeats 4000000 in
set_option maxRecDepth 100000 in
theorem w_X10_imageOf_e {p : Program} {l : Launch} {e : Env} {s : State} {m : MethodId} {args : Array Value} {below : List Frame} {meth : Method} {c : Code} {dC : Nat → ClassId} {dI : Nat → Nat → Nat} {ad : Nat → Nat} {cA cZ : ClassId} (hi : Inj 81 ad) (a1 : Int32)  (C0 : Cx cX10_imageOf RX10 wsX10_imageOf 2 (some (.object "GloveRail$Scene")) p s m args meth c) (hK : KK dC dI cA cZ s) (Q : Nat → St → Prop) (Y : Nat → List Int32 → List Int64 → St → Prop) (hY : ∀ P xs ys σ, Y P xs ys σ → XX p l e ({ frames := 0, cells := 0, slots := 0, locals := 0 } : Room) s m args below meth c (dC, dI) 81 ad (celC ad cA) 2 (ZR below args s (dC, dI) 81 ad (celC ad cA) Q) (lay_X10_imageOf ad a1) P xs ys σ)  (s0 : St) (hv : B_X10_imageOf_e a1 Q Y  s0) {H : Heap} {locs : List Loc} {ls : Array Slot} (hP : va_P (dC, dI) vwCl (wd 81 ad (celC ad cA) s0) H) (hS : va_S (AA 81 ad s.heap.size) s.heap H locs) (hl : lv_has ls 2 [(0, .ref (ad 0)), (1, .int a1)]) : W p l e ({ frames := 0, cells := 0, slots := 0, locals := 0 } : Room) s m args below meth c H locs 0 0 (ZR below args s (dC, dI) 81 ad (celC ad cA) Q) (F0 m 0 ls []) := by
  obtain ⟨hx, hb, hml, hown, hts, hr, hlocks⟩ := C0
  have hD := wd_D (s := s) (cel := celC ad cA) (σ := s0) hi
  unfold B_X10_imageOf_e at hv
  refine lv_iload_n hx hb dX10_imageOf_0 rfl (lv_at hl 1 rfl) ?_
  refine lv_if_ne (tgt := 11) hx hb dX10_imageOf_1 (by decide) (fun c1 => ?_) (fun c1 => ?_)
  · have hv := hv.1 c1
    refine lv_aload_n hx hb dX10_imageOf_11 rfl (lv_at hl 0 rfl) ?_
    refine r_get hx hb hts (iwX10_imageOf_X10) hown hK.1 hP 0 (by decide) (ceGR_0 (s0 0)) rfl 2 (by decide) (hts _ kX10_imageOf_2) (v := .ref (ad 37)) rfl dX10_imageOf_12 ?_
    exact r_aret hx hb hr hlocks (Or.inl ⟨_, rfl⟩) vSc_37 hv hP hS dX10_imageOf_15
  · have hv := hv.2 c1
    refine lv_aload_n hx hb dX10_imageOf_4 rfl (lv_at hl 0 rfl) ?_
    refine r_get hx hb hts (iwX10_imageOf_X10) hown hK.1 hP 0 (by decide) (ceGR_0 (s0 0)) rfl 1 (by decide) (hts _ kX10_imageOf_1) (v := .ref (ad 19)) rfl dX10_imageOf_5 ?_
    refine lv_goto (tgt := 15) hx hb dX10_imageOf_8 (by decide) ?_
    exact r_aret hx hb hr hlocks (Or.inl ⟨_, rfl⟩) vSc_19 hv hP hS dX10_imageOf_15
set_option maxHeartbeats 4000000 in
theorem y_X10_imageOf {p : Program} {l : Launch} {e : Env} {s : State} {m : MethodId} {args : Array Value} {below : List Frame} {meth : Method} {c : Code} {dC : Nat → ClassId} {dI : Nat → Nat → Nat} {ad : Nat → Nat} {cA cZ : ClassId} (hi : Inj 81 ad) (a1 : Int32)  (C0 : Cx cX10_imageOf RX10 wsX10_imageOf 2 (some (.object "GloveRail$Scene")) p s m args meth c) (hK : KK dC dI cA cZ s) (Q : Nat → St → Prop) : ∀ P xs ys σ, R_X10_imageOf a1 Q P xs ys σ → XX p l e ({ frames := 0, cells := 0, slots := 0, locals := 0 } : Room) s m args below meth c (dC, dI) 81 ad (celC ad cA) 2 (ZR below args s (dC, dI) 81 ad (celC ad cA) Q) (lay_X10_imageOf ad a1) P xs ys σ := by
  refine Fx.elim _ (fun P xs ys σ Y hY hB => ?_)
  exact hB.elim
set_option maxHeartbeats 4000000 in
theorem c_X10_imageOf {l : Launch} {dC : Nat → ClassId} {dI : Nat → Nat → Nat} {ad : Nat → Nat} {cA cZ : ClassId} (hi : Inj 81 ad) (a1 : Int32)  (s0 : St) (Q : Nat → St → Prop) (hv : V_X10_imageOf a1 s0 Q) (sz : Nat) : Met l yX10_imageOf wsX10_imageOf ({ frames := 0, cells := 0, slots := 0, locals := 0 } : Room) (va_Pc [.ref (ad 0), .int a1] (PW dC dI ad cA cZ 81 (celC ad cA) sz s0)) (va_Qr (qR Q) (fun u a t => a = ad u.1 ∧ va_P (dC, dI) vwCl (wd 81 ad (celC ad cA) u.2) t.heap) (AA 81 ad sz)) 0 0 (AA 81 ad sz) := by
  refine Met.ofW (cc := cX10_imageOf) (maxL := 2) (ret := (some (.object "GloveRail$Scene"))) (by decide) rfl ?_
  intro p e s m args below meth c s₁ B hml hv0
  obtain ⟨rfl, hsz, hP, hK⟩ := hv0
  subst hsz
  have C0 : Cx cX10_imageOf RX10 wsX10_imageOf 2 (some (.object "GloveRail$Scene")) p s m ([.ref (ad 0), .int a1] : List Value).toArray meth c := ⟨B.exec, B.bytes, hml, findClass_of_methodNamed B.named, atoms_spec (ws := wsX10_imageOf) B.pre, B.returns, B.notSynchronized⟩
  have hl := lv_entry ([.ref (ad 0), .int a1]) (n := 2) (Nat.le_of_ble_eq_true rfl)
  rw [lg_entry_eq]
  generalize (lg_sl ([.ref (ad 0), .int a1]) ++ List.replicate (2 - (lg_sl ([.ref (ad 0), .int a1])).length) Slot.unset).toArray = ls at hl ⊢
  have hl : lv_has ls 2 [(0, .ref (ad 0)), (1, .int a1)] := hl
  exact w_X10_imageOf_e hi a1  C0 hK Q (R_X10_imageOf a1 Q) (y_X10_imageOf hi a1  C0 hK Q)  s0 hv hP va_S.rf hl
def lay_X4_copy (ad : Nat → Nat) (h0 : Nat) (h1 : Nat) : Nat → List Int32 → List Int64 → Option (List (Nat × Value) × List Value) := fun P xs ys => match P, xs, ys with
  | _, _, _ => none
set_option maxHeartbeats 4000000 in
set_option maxRecDepth 100000 in
theorem w_X4_copy_e {p : Program} {l : Launch} {e : Env} {s : State} {m : MethodId} {args : Array Value} {below : List Frame} {meth : Method} {c : Code} {dC : Nat → ClassId} {dI : Nat → Nat → Nat} {ad : Nat → Nat} {cA cZ : ClassId} (hi : Inj 81 ad) (h0 : Nat) (h1 : Nat) (hh0 : isPa h0) (hh1 : isPa h1) (C0 : Cx cX4_copy RX4 wsX4_copy 2 none p s m args meth c) (hK : KK dC dI cA cZ s) (Q : St → Prop) (Y : Nat → List Int32 → List Int64 → St → Prop) (hY : ∀ P xs ys σ, Y P xs ys σ → XX p l e ({ frames := 1, cells := 0, slots := 0, locals := 35 } : Room) s m args below meth c (dC, dI) 81 ad (celC ad cA) 2 (ZV below args s (dC, dI) 81 ad (celC ad cA) Q) (lay_X4_copy ad h0 h1) P xs ys σ)  (s0 : St) (hv : B_X4_copy_e h0 h1 Q Y  s0) {H : Heap} {locs : List Loc} {ls : Array Slot} (hP : va_P (dC, dI) vwCl (wd 81 ad (celC ad cA) s0) H) (hS : va_S (AA 81 ad s.heap.size) s.heap H locs) (hl : lv_has ls 2 [(0, .ref (ad h0)), (1, .ref (ad h1))]) : W p l e ({ frames := 1, cells := 0, slots := 0, locals := 35 } : Room) s m args below meth c H locs 0 0 (ZV below args s (dC, dI) 81 ad (celC ad cA) Q) (F0 m 0 ls []) := by
  obtain ⟨hx, hb, hml, hown, hts, hr, hlocks⟩ := C0
  have hD := wd_D (s := s) (cel := celC ad cA) (σ := s0) hi
  unfold B_X4_copy_e at hv
  refine lv_aload_n hx hb dX4_copy_0 rfl (lv_at hl 1 rfl) ?_
  refine r_get hx hb hts (iwX4_copy_X4) hown hK.1 hP h1 (ltPa_0 hh1) (cePa_0 hh1 (s0 h1)) rfl 0 (by decide) (hts _ kX4_copy_1) (v := .ref (ad (h1 + 1))) rfl dX4_copy_1 ?_
  refine lv_iconst (v := 0) hx hb dX4_copy_4 (by decide) ?_
  refine lv_aload_n hx hb dX4_copy_5 rfl (lv_at hl 0 rfl) ?_
  refine r_get hx hb hts (iwX4_copy_X4) hown hK.1 hP h0 (ltPa_0 hh0) (cePa_0 hh0 (s0 h0)) rfl 0 (by decide) (hts _ kX4_copy_1) (v := .ref (ad (h0 + 1))) rfl dX4_copy_6 ?_
  refine lv_iconst (v := 0) hx hb dX4_copy_9 (by decide) ?_
  refine lv_bipush (v := 72) hx hb dX4_copy_10 (by decide) ?_
  refine r_copy (sp' := 0) (dp' := 0) (n' := 72) hx hb (hml.trans hl.1.symm) hown (hts _ kX4_copy_2) (hts _ kX4_copy_3) (hts _ kX4_copy_4) (hts _ kX4_copy_5) hK.1 hP hD hS (h1 + 1) (h0 + 1) (ltPa_1 hh1) (ltPa_1 hh0) (cePa_1 hh1 (s0 (h1 + 1))) (cePa_1 hh0 (s0 (h0 + 1))) (cePa_1 hh0 _) (by decide) (by decide) (by decide) rfl rfl rfl (by decide) (by decide) (Nat.le_of_ble_eq_true rfl) (Nat.le_of_ble_eq_true rfl) dX4_copy_12 (fun H locs s1 es1 hP hD hS => ?_)
  have hv := hv s1 es1
  refine lv_aload_n hx hb dX4_copy_15 rfl (lv_at hl 0 rfl) ?_
  refine lv_aload_n hx hb dX4_copy_16 rfl (lv_at hl 1 rfl) ?_
  refine r_get hx hb hts (iwX4_copy_X4) hown hK.1 hP h1 (ltPa_0 hh1) (cePa_0 hh1 (s1 h1)) rfl 1 (by decide) (hts _ kX4_copy_6) (v := .int (s1 h1 1)) rfl dX4_copy_17 ?_
  refine r_put hx hb hts (iwX4_copy_X4) tyX4 tyX4_ok nmX4 hown hK.1 hP hD hS h0 (ltPa_0 hh0) (cePa_0 hh0 (s1 h0)) rfl 1 (by decide) (hts _ kX4_copy_6) rfl (ty := .int) (v := .int (s1 h1 1)) (by decide +kernel) rfl rfl (Nat.le_of_ble_eq_true rfl) (row := (upd (s1 h0) 1 (s1 h1 1))) (by rw [(cePa_0 hh0 (upd (s1 h0) 1 (s1 h1 1)))]; rfl) dX4_copy_20 (fun H locs s2 es2 hP hD hS => ?_)
  have hv := hv s2 es2
  exact r_vret hx hb hr hlocks hv hP hS dX4_copy_23
set_option maxHeartbeats 4000000 in
theorem y_X4_copy {p : Program} {l : Launch} {e : Env} {s : State} {m : MethodId} {args : Array Value} {below : List Frame} {meth : Method} {c : Code} {dC : Nat → ClassId} {dI : Nat → Nat → Nat} {ad : Nat → Nat} {cA cZ : ClassId} (hi : Inj 81 ad) (h0 : Nat) (h1 : Nat) (hh0 : isPa h0) (hh1 : isPa h1) (C0 : Cx cX4_copy RX4 wsX4_copy 2 none p s m args meth c) (hK : KK dC dI cA cZ s) (Q : St → Prop) : ∀ P xs ys σ, R_X4_copy h0 h1 Q P xs ys σ → XX p l e ({ frames := 1, cells := 0, slots := 0, locals := 35 } : Room) s m args below meth c (dC, dI) 81 ad (celC ad cA) 2 (ZV below args s (dC, dI) 81 ad (celC ad cA) Q) (lay_X4_copy ad h0 h1) P xs ys σ := by
  refine Fx.elim _ (fun P xs ys σ Y hY hB => ?_)
  exact hB.elim
set_option maxHeartbeats 4000000 in
theorem c_X4_copy {l : Launch} {dC : Nat → ClassId} {dI : Nat → Nat → Nat} {ad : Nat → Nat} {cA cZ : ClassId} (hi : Inj 81 ad) (h0 : Nat) (h1 : Nat) (hh0 : isPa h0) (hh1 : isPa h1) (s0 : St) (Q : St → Prop) (hv : V_X4_copy h0 h1 s0 Q) (sz : Nat) : Met l yX4_copy wsX4_copy ({ frames := 1, cells := 0, slots := 0, locals := 35 } : Room) (va_Pc [.ref (ad h0), .ref (ad h1)] (PW dC dI ad cA cZ 81 (celC ad cA) sz s0)) (va_Qv Q (fun u t => va_P (dC, dI) vwCl (wd 81 ad (celC ad cA) u) t.heap) (AA 81 ad sz)) 0 0 (AA 81 ad sz) := by
  refine Met.ofW (cc := cX4_copy) (maxL := 2) (ret := none) (by decide) rfl ?_
  intro p e s m args below meth c s₁ B hml hv0
  obtain ⟨rfl, hsz, hP, hK⟩ := hv0
  subst hsz
  have C0 : Cx cX4_copy RX4 wsX4_copy 2 none p s m ([.ref (ad h0), .ref (ad h1)] : List Value).toArray meth c := ⟨B.exec, B.bytes, hml, findClass_of_methodNamed B.named, atoms_spec (ws := wsX4_copy) B.pre, B.returns, B.notSynchronized⟩
  have hl := lv_entry ([.ref (ad h0), .ref (ad h1)]) (n := 2) (Nat.le_of_ble_eq_true rfl)
  rw [lg_entry_eq]
  generalize (lg_sl ([.ref (ad h0), .ref (ad h1)]) ++ List.replicate (2 - (lg_sl ([.ref (ad h0), .ref (ad h1)])).length) Slot.unset).toArray = ls at hl ⊢
  have hl : lv_has ls 2 [(0, .ref (ad h0)), (1, .ref (ad h1))] := hl
  exact w_X4_copy_e hi h0 h1 hh0 hh1 C0 hK Q (R_X4_copy h0 h1 Q) (y_X4_copy hi h0 h1 hh0 hh1 C0 hK Q)  s0 hv hP va_S.rf hl
def lay_X6_copy (ad : Nat → Nat) (h0 : Nat) (h1 : Nat) : Nat → List Int32 → List Int64 → Option (List (Nat × Value) × List Value) := fun P xs ys => match P, xs, ys with
  | _, _, _ => none
set_option maxHeartbeats 4000000 in
set_option maxRecDepth 100000 in
theorem w_X6_copy_e {p : Program} {l : Launch} {e : Env} {s : State} {m : MethodId} {args : Array Value} {below : List Frame} {meth : Method} {c : Code} {dC : Nat → ClassId} {dI : Nat → Nat → Nat} {ad : Nat → Nat} {cA cZ : ClassId} (hi : Inj 81 ad) (h0 : Nat) (h1 : Nat) (hh0 : isRo h0) (hh1 : isRo h1) (C0 : Cx cX6_copy RX6 wsX6_copy 2 none p s m args meth c) (hK : KK dC dI cA cZ s) (Q : St → Prop) (Y : Nat → List Int32 → List Int64 → St → Prop) (hY : ∀ P xs ys σ, Y P xs ys σ → XX p l e ({ frames := 1, cells := 0, slots := 0, locals := 35 } : Room) s m args below meth c (dC, dI) 81 ad (celC ad cA) 2 (ZV below args s (dC, dI) 81 ad (celC ad cA) Q) (lay_X6_copy ad h0 h1) P xs ys σ)  (s0 : St) (hv : B_X6_copy_e h0 h1 Q Y  s0) {H : Heap} {locs : List Loc} {ls : Array Slot} (hP : va_P (dC, dI) vwCl (wd 81 ad (celC ad cA) s0) H) (hS : va_S (AA 81 ad s.heap.size) s.heap H locs) (hl : lv_has ls 2 [(0, .ref (ad h0)), (1, .ref (ad h1))]) : W p l e ({ frames := 1, cells := 0, slots := 0, locals := 35 } : Room) s m args below meth c H locs 0 0 (ZV below args s (dC, dI) 81 ad (celC ad cA) Q) (F0 m 0 ls []) := by
  obtain ⟨hx, hb, hml, hown, hts, hr, hlocks⟩ := C0
  have hD := wd_D (s := s) (cel := celC ad cA) (σ := s0) hi
  unfold B_X6_copy_e at hv
  refine lv_aload_n hx hb dX6_copy_0 rfl (lv_at hl 1 rfl) ?_
  refine r_get hx hb hts (iwX6_copy_X6) hown hK.1 hP h1 (ltRo_0 hh1) (ceRo_0 hh1 (s0 h1)) rfl 0 (by decide) (hts _ kX6_copy_1) (v := .ref (ad (h1 + 1))) rfl dX6_copy_1 ?_
  refine lv_iconst (v := 0) hx hb dX6_copy_4 (by decide) ?_
  refine lv_aload_n hx hb dX6_copy_5 rfl (lv_at hl 0 rfl) ?_
  refine r_get hx hb hts (iwX6_copy_X6) hown hK.1 hP h0 (ltRo_0 hh0) (ceRo_0 hh0 (s0 h0)) rfl 0 (by decide) (hts _ kX6_copy_1) (v := .ref (ad (h0 + 1))) rfl dX6_copy_6 ?_
  refine lv_iconst (v := 0) hx hb dX6_copy_9 (by decide) ?_
  refine lv_bipush (v := 24) hx hb dX6_copy_10 (by decide) ?_
  refine r_copy (sp' := 0) (dp' := 0) (n' := 24) hx hb (hml.trans hl.1.symm) hown (hts _ kX6_copy_2) (hts _ kX6_copy_3) (hts _ kX6_copy_4) (hts _ kX6_copy_5) hK.1 hP hD hS (h1 + 1) (h0 + 1) (ltRo_1 hh1) (ltRo_1 hh0) (ceRo_1 hh1 (s0 (h1 + 1))) (ceRo_1 hh0 (s0 (h0 + 1))) (ceRo_1 hh0 _) (by decide) (by decide) (by decide) rfl rfl rfl (by decide) (by decide) (Nat.le_of_ble_eq_true rfl) (Nat.le_of_ble_eq_true rfl) dX6_copy_12 (fun H locs s1 es1 hP hD hS => ?_)
  have hv := hv s1 es1
  refine lv_aload_n hx hb dX6_copy_15 rfl (lv_at hl 0 rfl) ?_
  refine lv_aload_n hx hb dX6_copy_16 rfl (lv_at hl 1 rfl) ?_
  refine r_get hx hb hts (iwX6_copy_X6) hown hK.1 hP h1 (ltRo_0 hh1) (ceRo_0 hh1 (s1 h1)) rfl 3 (by decide) (hts _ kX6_copy_6) (v := .int (s1 h1 3)) rfl dX6_copy_17 ?_
  refine r_put hx hb hts (iwX6_copy_X6) tyX6 tyX6_ok nmX6 hown hK.1 hP hD hS h0 (ltRo_0 hh0) (ceRo_0 hh0 (s1 h0)) rfl 3 (by decide) (hts _ kX6_copy_6) rfl (ty := .int) (v := .int (s1 h1 3)) (by decide +kernel) rfl rfl (Nat.le_of_ble_eq_true rfl) (row := (upd (s1 h0) 3 (s1 h1 3))) (by rw [(ceRo_0 hh0 (upd (s1 h0) 3 (s1 h1 3)))]; rfl) dX6_copy_20 (fun H locs s2 es2 hP hD hS => ?_)
  have hv := hv s2 es2
  exact r_vret hx hb hr hlocks hv hP hS dX6_copy_23
set_option maxHeartbeats 4000000 in
theorem y_X6_copy {p : Program} {l : Launch} {e : Env} {s : State} {m : MethodId} {args : Array Value} {below : List Frame} {meth : Method} {c : Code} {dC : Nat → ClassId} {dI : Nat → Nat → Nat} {ad : Nat → Nat} {cA cZ : ClassId} (hi : Inj 81 ad) (h0 : Nat) (h1 : Nat) (hh0 : isRo h0) (hh1 : isRo h1) (C0 : Cx cX6_copy RX6 wsX6_copy 2 none p s m args meth c) (hK : KK dC dI cA cZ s) (Q : St → Prop) : ∀ P xs ys σ, R_X6_copy h0 h1 Q P xs ys σ → XX p l e ({ frames := 1, cells := 0, slots := 0, locals := 35 } : Room) s m args below meth c (dC, dI) 81 ad (celC ad cA) 2 (ZV below args s (dC, dI) 81 ad (celC ad cA) Q) (lay_X6_copy ad h0 h1) P xs ys σ := by
  refine Fx.elim _ (fun P xs ys σ Y hY hB => ?_)
  exact hB.elim
set_option maxHeartbeats 4000000 in
theorem c_X6_copy {l : Launch} {dC : Nat → ClassId} {dI : Nat → Nat → Nat} {ad : Nat → Nat} {cA cZ : ClassId} (hi : Inj 81 ad) (h0 : Nat) (h1 : Nat) (hh0 : isRo h0) (hh1 : isRo h1) (s0 : St) (Q : St → Prop) (hv : V_X6_copy h0 h1 s0 Q) (sz : Nat) : Met l yX6_copy wsX6_copy ({ frames := 1, cells := 0, slots := 0, locals := 35 } : Room) (va_Pc [.ref (ad h0), .ref (ad h1)] (PW dC dI ad cA cZ 81 (celC ad cA) sz s0)) (va_Qv Q (fun u t => va_P (dC, dI) vwCl (wd 81 ad (celC ad cA) u) t.heap) (AA 81 ad sz)) 0 0 (AA 81 ad sz) := by
  refine Met.ofW (cc := cX6_copy) (maxL := 2) (ret := none) (by decide) rfl ?_
  intro p e s m args below meth c s₁ B hml hv0
  obtain ⟨rfl, hsz, hP, hK⟩ := hv0
  subst hsz
  have C0 : Cx cX6_copy RX6 wsX6_copy 2 none p s m ([.ref (ad h0), .ref (ad h1)] : List Value).toArray meth c := ⟨B.exec, B.bytes, hml, findClass_of_methodNamed B.named, atoms_spec (ws := wsX6_copy) B.pre, B.returns, B.notSynchronized⟩
  have hl := lv_entry ([.ref (ad h0), .ref (ad h1)]) (n := 2) (Nat.le_of_ble_eq_true rfl)
  rw [lg_entry_eq]
  generalize (lg_sl ([.ref (ad h0), .ref (ad h1)]) ++ List.replicate (2 - (lg_sl ([.ref (ad h0), .ref (ad h1)])).length) Slot.unset).toArray = ls at hl ⊢
  have hl : lv_has ls 2 [(0, .ref (ad h0)), (1, .ref (ad h1))] := hl
  exact w_X6_copy_e hi h0 h1 hh0 hh1 C0 hK Q (R_X6_copy h0 h1 Q) (y_X6_copy hi h0 h1 hh0 hh1 C0 hK Q)  s0 hv hP va_S.rf hl
def lay_X7_copy (ad : Nat → Nat) (h0 : Nat) (h1 : Nat) : Nat → List Int32 → List Int64 → Option (List (Nat × Value) × List Value) := fun P xs ys => match P, xs, ys with
  | _, _, _ => none
set_option maxHeartbeats 4000000 in
set_option maxRecDepth 100000 in
theorem w_X7_copy_e {p : Program} {l : Launch} {e : Env} {s : State} {m : MethodId} {args : Array Value} {below : List Frame} {meth : Method} {c : Code} {dC : Nat → ClassId} {dI : Nat → Nat → Nat} {ad : Nat → Nat} {cA cZ : ClassId} (hi : Inj 81 ad) (h0 : Nat) (h1 : Nat) (hh0 : isSc h0) (hh1 : isSc h1) (C0 : Cx cX7_copy RX7 wsX7_copy 2 none p s m args meth c) (hK : KK dC dI cA cZ s) (Q : St → Prop) (Y : Nat → List Int32 → List Int64 → St → Prop) (hY : ∀ P xs ys σ, Y P xs ys σ → XX p l e ({ frames := 2, cells := 0, slots := 0, locals := 56 } : Room) s m args below meth c (dC, dI) 81 ad (celC ad cA) 2 (ZV below args s (dC, dI) 81 ad (celC ad cA) Q) (lay_X7_copy ad h0 h1) P xs ys σ)  (s0 : St) (hv : B_X7_copy_e h0 h1 Q Y  s0) {H : Heap} {locs : List Loc} {ls : Array Slot} (hP : va_P (dC, dI) vwCl (wd 81 ad (celC ad cA) s0) H) (hS : va_S (AA 81 ad s.heap.size) s.heap H locs) (hl : lv_has ls 2 [(0, .ref (ad h0)), (1, .ref (ad h1))]) : W p l e ({ frames := 2, cells := 0, slots := 0, locals := 56 } : Room) s m args below meth c H locs 0 0 (ZV below args s (dC, dI) 81 ad (celC ad cA) Q) (F0 m 0 ls []) := by
  obtain ⟨hx, hb, hml, hown, hts, hr, hlocks⟩ := C0
  have hD := wd_D (s := s) (cel := celC ad cA) (σ := s0) hi
  unfold B_X7_copy_e at hv
  refine lv_aload_n hx hb dX7_copy_0 rfl (lv_at hl 0 rfl) ?_
  refine r_get hx hb hts (iwX7_copy_X7) hown hK.1 hP h0 (ltSc_0 hh0) (ceSc_0 hh0 (s0 h0)) rfl 0 (by decide) (hts _ kX7_copy_1) (v := .ref (ad (h0 + 1))) rfl dX7_copy_1 ?_
  refine lv_aload_n hx hb dX7_copy_4 rfl (lv_at hl 1 rfl) ?_
  refine r_get hx hb hts (iwX7_copy_X7) hown hK.1 hP h1 (ltSc_0 hh1) (ceSc_0 hh1 (s0 h1)) rfl 0 (by decide) (hts _ kX7_copy_1) (v := .ref (ad (h1 + 1))) rfl dX7_copy_5 ?_
  refine r_cv (va_runV (As := [.ref (ad (h1 + 1))]) (rest := []) ⟨hx, hb, hml, hown, hts⟩ (c_X8_copy hi (h0 + 1) (h1 + 1) (vSc1 hh0) (vSc1 hh1) s0 _ hv H.size) (cwV 1 hts gX7_copy_X8_copy rfl rfl rfl (by decide +kernel) ⟨Nat.le_of_ble_eq_true rfl, Nat.le_of_ble_eq_true rfl⟩) ⟨pre_blind, r_recv hK.1 hP (h0 + 1) (ltSt_0 (vSc1 hh0)) (ceSt_0 (vSc1 hh0) (s0 (h0 + 1))) rfl, pre_of hP hK⟩ rfl rfl hl.1 rfl (lv_room (Nat.le_of_ble_eq_true rfl)) dX7_copy_8 ⟨Nat.zero_le _, Nat.zero_le _⟩) hS (fun s1 H locs hv hP hS => ?_)
  have hD := wd_D (s := s) (cel := celC ad cA) (σ := s1) hi
  refine lv_aload_n hx hb dX7_copy_11 rfl (lv_at hl 0 rfl) ?_
  refine r_get hx hb hts (iwX7_copy_X7) hown hK.1 hP h0 (ltSc_0 hh0) (ceSc_0 hh0 (s1 h0)) rfl 1 (by decide) (hts _ kX7_copy_2) (v := .ref (ad (h0 + 10))) rfl dX7_copy_12 ?_
  refine lv_aload_n hx hb dX7_copy_15 rfl (lv_at hl 1 rfl) ?_
  refine r_get hx hb hts (iwX7_copy_X7) hown hK.1 hP h1 (ltSc_0 hh1) (ceSc_0 hh1 (s1 h1)) rfl 1 (by decide) (hts _ kX7_copy_2) (v := .ref (ad (h1 + 10))) rfl dX7_copy_16 ?_
  refine r_cv (va_runV (As := [.ref (ad (h1 + 10))]) (rest := []) ⟨hx, hb, hml, hown, hts⟩ (c_X4_copy hi (h0 + 10) (h1 + 10) (vSc10 hh0) (vSc10 hh1) s1 _ hv H.size) (cwV 1 hts gX7_copy_X4_copy rfl rfl rfl (by decide +kernel) ⟨Nat.le_of_ble_eq_true rfl, Nat.le_of_ble_eq_true rfl⟩) ⟨pre_blind, r_recv hK.1 hP (h0 + 10) (ltPa_0 (vSc10 hh0)) (cePa_0 (vSc10 hh0) (s1 (h0 + 10))) rfl, pre_of hP hK⟩ rfl rfl hl.1 rfl (lv_room (Nat.le_of_ble_eq_true rfl)) dX7_copy_19 ⟨Nat.zero_le _, Nat.zero_le _⟩) hS (fun s2 H locs hv hP hS => ?_)
  have hD := wd_D (s := s) (cel := celC ad cA) (σ := s2) hi
  refine lv_aload_n hx hb dX7_copy_22 rfl (lv_at hl 0 rfl) ?_
  refine r_get hx hb hts (iwX7_copy_X7) hown hK.1 hP h0 (ltSc_0 hh0) (ceSc_0 hh0 (s2 h0)) rfl 2 (by decide) (hts _ kX7_copy_3) (v := .ref (ad (h0 + 12))) rfl dX7_copy_23 ?_
  refine lv_aload_n hx hb dX7_copy_26 rfl (lv_at hl 1 rfl) ?_
  refine r_get hx hb hts (iwX7_copy_X7) hown hK.1 hP h1 (ltSc_0 hh1) (ceSc_0 hh1 (s2 h1)) rfl 2 (by decide) (hts _ kX7_copy_3) (v := .ref (ad (h1 + 12))) rfl dX7_copy_27 ?_
  refine r_cv (va_runV (As := [.ref (ad (h1 + 12))]) (rest := []) ⟨hx, hb, hml, hown, hts⟩ (c_X6_copy hi (h0 + 12) (h1 + 12) (vSc12 hh0) (vSc12 hh1) s2 _ hv H.size) (cwV 1 hts gX7_copy_X6_copy rfl rfl rfl (by decide +kernel) ⟨Nat.le_of_ble_eq_true rfl, Nat.le_of_ble_eq_true rfl⟩) ⟨pre_blind, r_recv hK.1 hP (h0 + 12) (ltRo_0 (vSc12 hh0)) (ceRo_0 (vSc12 hh0) (s2 (h0 + 12))) rfl, pre_of hP hK⟩ rfl rfl hl.1 rfl (lv_room (Nat.le_of_ble_eq_true rfl)) dX7_copy_30 ⟨Nat.zero_le _, Nat.zero_le _⟩) hS (fun s3 H locs hv hP hS => ?_)
  have hD := wd_D (s := s) (cel := celC ad cA) (σ := s3) hi
  refine lv_aload_n hx hb dX7_copy_33 rfl (lv_at hl 0 rfl) ?_
  refine r_get hx hb hts (iwX7_copy_X7) hown hK.1 hP h0 (ltSc_0 hh0) (ceSc_0 hh0 (s3 h0)) rfl 3 (by decide) (hts _ kX7_copy_4) (v := .ref (ad (h0 + 14))) rfl dX7_copy_34 ?_
  refine lv_aload_n hx hb dX7_copy_37 rfl (lv_at hl 1 rfl) ?_
  refine r_get hx hb hts (iwX7_copy_X7) hown hK.1 hP h1 (ltSc_0 hh1) (ceSc_0 hh1 (s3 h1)) rfl 3 (by decide) (hts _ kX7_copy_4) (v := .ref (ad (h1 + 14))) rfl dX7_copy_38 ?_
  refine r_cv (va_runV (As := [.ref (ad (h1 + 14))]) (rest := []) ⟨hx, hb, hml, hown, hts⟩ (c_X6_copy hi (h0 + 14) (h1 + 14) (vSc14 hh0) (vSc14 hh1) s3 _ hv H.size) (cwV 1 hts gX7_copy_X6_copy rfl rfl rfl (by decide +kernel) ⟨Nat.le_of_ble_eq_true rfl, Nat.le_of_ble_eq_true rfl⟩) ⟨pre_blind, r_recv hK.1 hP (h0 + 14) (ltRo_0 (vSc14 hh0)) (ceRo_0 (vSc14 hh0) (s3 (h0 + 14))) rfl, pre_of hP hK⟩ rfl rfl hl.1 rfl (lv_room (Nat.le_of_ble_eq_true rfl)) dX7_copy_41 ⟨Nat.zero_le _, Nat.zero_le _⟩) hS (fun s4 H locs hv hP hS => ?_)
  have hD := wd_D (s := s) (cel := celC ad cA) (σ := s4) hi
  refine lv_aload_n hx hb dX7_copy_44 rfl (lv_at hl 0 rfl) ?_
  refine r_get hx hb hts (iwX7_copy_X7) hown hK.1 hP h0 (ltSc_0 hh0) (ceSc_0 hh0 (s4 h0)) rfl 4 (by decide) (hts _ kX7_copy_5) (v := .ref (ad (h0 + 16))) rfl dX7_copy_45 ?_
  refine lv_aload_n hx hb dX7_copy_48 rfl (lv_at hl 1 rfl) ?_
  refine r_get hx hb hts (iwX7_copy_X7) hown hK.1 hP h1 (ltSc_0 hh1) (ceSc_0 hh1 (s4 h1)) rfl 4 (by decide) (hts _ kX7_copy_5) (v := .ref (ad (h1 + 16))) rfl dX7_copy_49 ?_
  refine r_cv (va_runV (As := [.ref (ad (h1 + 16))]) (rest := []) ⟨hx, hb, hml, hown, hts⟩ (c_X6_copy hi (h0 + 16) (h1 + 16) (vSc16 hh0) (vSc16 hh1) s4 _ hv H.size) (cwV 1 hts gX7_copy_X6_copy rfl rfl rfl (by decide +kernel) ⟨Nat.le_of_ble_eq_true rfl, Nat.le_of_ble_eq_true rfl⟩) ⟨pre_blind, r_recv hK.1 hP (h0 + 16) (ltRo_0 (vSc16 hh0)) (ceRo_0 (vSc16 hh0) (s4 (h0 + 16))) rfl, pre_of hP hK⟩ rfl rfl hl.1 rfl (lv_room (Nat.le_of_ble_eq_true rfl)) dX7_copy_52 ⟨Nat.zero_le _, Nat.zero_le _⟩) hS (fun s5 H locs hv hP hS => ?_)
  have hD := wd_D (s := s) (cel := celC ad cA) (σ := s5) hi
  exact r_vret hx hb hr hlocks hv hP hS dX7_copy_55
set_option maxHeartbeats 4000000 in
theorem y_X7_copy {p : Program} {l : Launch} {e : Env} {s : State} {m : MethodId} {args : Array Value} {below : List Frame} {meth : Method} {c : Code} {dC : Nat → ClassId} {dI : Nat → Nat → Nat} {ad : Nat → Nat} {cA cZ : ClassId} (hi : Inj 81 ad) (h0 : Nat) (h1 : Nat) (hh0 : isSc h0) (hh1 : isSc h1) (C0 : Cx cX7_copy RX7 wsX7_copy 2 none p s m args meth c) (hK : KK dC dI cA cZ s) (Q : St → Prop) : ∀ P xs ys σ, R_X7_copy h0 h1 Q P xs ys σ → XX p l e ({ frames := 2, cells := 0, slots := 0, locals := 56 } : Room) s m args below meth c (dC, dI) 81 ad (celC ad cA) 2 (ZV below args s (dC, dI) 81 ad (celC ad cA) Q) (lay_X7_copy ad h0 h1) P xs ys σ := by
  refine Fx.elim _ (fun P xs ys σ Y hY hB => ?_)
  exact hB.elim
set_option maxHeartbeats 4000000 in
theorem c_X7_copy {l : Launch} {dC : Nat → ClassId} {dI : Nat → Nat → Nat} {ad : Nat → Nat} {cA cZ : ClassId} (hi : Inj 81 ad) (h0 : Nat) (h1 : Nat) (hh0 : isSc h0) (hh1 : isSc h1) (s0 : St) (Q : St → Prop) (hv : V_X7_copy h0 h1 s0 Q) (sz : Nat) : Met l yX7_copy wsX7_copy ({ frames := 2, cells := 0, slots := 0, locals := 56 } : Room) (va_Pc [.ref (ad h0), .ref (ad h1)] (PW dC dI ad cA cZ 81 (celC ad cA) sz s0)) (va_Qv Q (fun u t => va_P (dC, dI) vwCl (wd 81 ad (celC ad cA) u) t.heap) (AA 81 ad sz)) 0 0 (AA 81 ad sz) := by
  refine Met.ofW (cc := cX7_copy) (maxL := 2) (ret := none) (by decide) rfl ?_
  intro p e s m args below meth c s₁ B hml hv0
  obtain ⟨rfl, hsz, hP, hK⟩ := hv0
  subst hsz
  have C0 : Cx cX7_copy RX7 wsX7_copy 2 none p s m ([.ref (ad h0), .ref (ad h1)] : List Value).toArray meth c := ⟨B.exec, B.bytes, hml, findClass_of_methodNamed B.named, atoms_spec (ws := wsX7_copy) B.pre, B.returns, B.notSynchronized⟩
  have hl := lv_entry ([.ref (ad h0), .ref (ad h1)]) (n := 2) (Nat.le_of_ble_eq_true rfl)
  rw [lg_entry_eq]
  generalize (lg_sl ([.ref (ad h0), .ref (ad h1)]) ++ List.replicate (2 - (lg_sl ([.ref (ad h0), .ref (ad h1)])).length) Slot.unset).toArray = ls at hl ⊢
  have hl : lv_has ls 2 [(0, .ref (ad h0)), (1, .ref (ad h1))] := hl
  exact w_X7_copy_e hi h0 h1 hh0 hh1 C0 hK Q (R_X7_copy h0 h1 Q) (y_X7_copy hi h0 h1 hh0 hh1 C0 hK Q)  s0 hv hP va_S.rf hl
def lay_X10_image (ad : Nat → Nat) (a1 : Int32) : Nat → List Int32 → List Int64 → Option (List (Nat × Value) × List Value) := fun P xs ys => match P, xs, ys with
  | _, _, _ => none
set_option maxHeartbeats 4000000 in
set_option maxRecDepth 100000 in
theorem w_X10_image_e {p : Program} {l : Launch} {e : Env} {s : State} {m : MethodId} {args : Array Value} {below : List Frame} {meth : Method} {c : Code} {dC : Nat → ClassId} {dI : Nat → Nat → Nat} {ad : Nat → Nat} {cA cZ : ClassId} (hi : Inj 81 ad) (a1 : Int32)  (C0 : Cx cX10_image RX10 wsX10_image 2 (some .int) p s m args meth c) (hK : KK dC dI cA cZ s) (Q : Int32 → St → Prop) (Y : Nat → List Int32 → List Int64 → St → Prop) (hY : ∀ P xs ys σ, Y P xs ys σ → XX p l e ({ frames := 3, cells := 0, slots := 0, locals := 77 } : Room) s m args below meth c (dC, dI) 81 ad (celC ad cA) 2 (ZI below args s (dC, dI) 81 ad (celC ad cA) Q) (lay_X10_image ad a1) P xs ys σ)  (s0 : St) (hv : B_X10_image_e a1 Q Y  s0) {H : Heap} {locs : List Loc} {ls : Array Slot} (hP : va_P (dC, dI) vwCl (wd 81 ad (celC ad cA) s0) H) (hS : va_S (AA 81 ad s.heap.size) s.heap H locs) (hl : lv_has ls 2 [(0, .ref (ad 0)), (1, .int a1)]) : W p l e ({ frames := 3, cells := 0, slots := 0, locals := 77 } : Room) s m args below meth c H locs 0 0 (ZI below args s (dC, dI) 81 ad (celC ad cA) Q) (F0 m 0 ls []) := by
  obtain ⟨hx, hb, hml, hown, hts, hr, hlocks⟩ := C0
  have hD := wd_D (s := s) (cel := celC ad cA) (σ := s0) hi
  unfold B_X10_image_e at hv
  refine lv_iload_n hx hb dX10_image_0 rfl (lv_at hl 1 rfl) ?_
  refine lv_iconst (v := 0) hx hb dX10_image_1 (by decide) ?_
  refine lv_iconst (v := 1) hx hb dX10_image_2 (by decide) ?_
  refine r_ci (va_runS (As := [.int a1, .int 0, .int 1]) (rest := []) ⟨hx, hb, hml, hown, hts⟩ (c_X10_within hi a1 0 1 s0 _ hv H.size) (va_cwS 3 hts gX10_image_X10_within rfl rfl rfl (by decide +kernel) ⟨Nat.le_of_ble_eq_true rfl, Nat.le_of_ble_eq_true rfl⟩) ⟨pre_blind, pre_of hP hK⟩ rfl rfl hl.1 rfl (lv_room (Nat.le_of_ble_eq_true rfl)) dX10_image_3 ⟨Nat.zero_le _, Nat.zero_le _⟩) hS (fun r1 s1 H locs hv hP hS => ?_)
  obtain ⟨hz_r1, hv⟩ := hv
  have hD := wd_D (s := s) (cel := celC ad cA) (σ := s1) hi
  refine lv_if_ne (tgt := 14) hx hb dX10_image_6 (by decide) (fun c6 => ?_) (fun c6 => ?_)
  · have hv := hv.1 c6
    refine lv_aload_n hx hb dX10_image_14 rfl (lv_at hl 0 rfl) ?_
    refine lv_iload_n hx hb dX10_image_15 rfl (lv_at hl 1 rfl) ?_
    refine r_cr (va_runV (As := [.int a1]) (rest := []) ⟨hx, hb, hml, hown, hts⟩ (c_X10_imageOf hi a1 s1 _ hv H.size) (cwV 1 hts gX10_image_X10_imageOf rfl rfl rfl (by decide +kernel) ⟨Nat.le_of_ble_eq_true rfl, Nat.le_of_ble_eq_true rfl⟩) ⟨pre_blind, r_recv hK.1 hP 0 (by decide) (ceGR_0 (s1 0)) rfl, pre_of hP hK⟩ rfl rfl hl.1 rfl (lv_room (Nat.le_of_ble_eq_true rfl)) dX10_image_16 ⟨Nat.zero_le _, Nat.zero_le _⟩) hS (fun r2 s2 H locs hr2 hv hP hS => ?_)
    have hD := wd_D (s := s) (cel := celC ad cA) (σ := s2) hi
    refine lv_aload_n hx hb dX10_image_19 rfl (lv_at hl 0 rfl) ?_
    refine r_get hx hb hts (iwX10_image_X10) hown hK.1 hP 0 (by decide) (ceGR_0 (s2 0)) rfl 0 (by decide) (hts _ kX10_image_1) (v := .ref (ad 1)) rfl dX10_image_20 ?_
    refine r_cv (va_runV (As := [.ref (ad 1)]) (rest := []) ⟨hx, hb, hml, hown, hts⟩ (c_X7_copy hi r2 1 hr2 vSc_1 s2 _ hv H.size) (cwV 1 hts gX10_image_X7_copy rfl rfl rfl (by decide +kernel) ⟨Nat.le_of_ble_eq_true rfl, Nat.le_of_ble_eq_true rfl⟩) ⟨pre_blind, r_recv hK.1 hP r2 (ltSc_0 hr2) (ceSc_0 hr2 (s2 r2)) rfl, pre_of hP hK⟩ rfl rfl hl.1 rfl (lv_room (Nat.le_of_ble_eq_true rfl)) dX10_image_23 ⟨Nat.zero_le _, Nat.zero_le _⟩) hS (fun s3 H locs hv hP hS => ?_)
    have hD := wd_D (s := s) (cel := celC ad cA) (σ := s3) hi
    refine lv_aload_n hx hb dX10_image_26 rfl (lv_at hl 0 rfl) ?_
    refine lv_dup hx hb dX10_image_27 rfl ?_
    refine r_get hx hb hts (iwX10_image_X10) hown hK.1 hP 0 (by decide) (ceGR_0 (s3 0)) rfl 7 (by decide) (hts _ kX10_image_2) (v := .int (s3 0 7)) rfl dX10_image_28 ?_
    refine lv_iconst (v := 1) hx hb dX10_image_31 (by decide) ?_
    refine lv_iload_n hx hb dX10_image_32 rfl (lv_at hl 1 rfl) ?_
    refine lv_ishl hx hb dX10_image_33 ?_
    refine lv_ior hx hb dX10_image_34 ?_
    refine r_put hx hb hts (iwX10_image_X10) tyX10 tyX10_ok nmX10 hown hK.1 hP hD hS 0 (by decide) (ceGR_0 (s3 0)) rfl 7 (by decide) (hts _ kX10_image_2) rfl (ty := .int) (v := .int ((s3 0 7) ||| ((1 : Int32) <<< (a1 &&& 31)))) (by decide +kernel) rfl rfl (Nat.le_of_ble_eq_true rfl) (row := (upd (s3 0) 7 ((s3 0 7) ||| ((1 : Int32) <<< (a1 &&& 31))))) (by rw [(ceGR_0 (upd (s3 0) 7 ((s3 0 7) ||| ((1 : Int32) <<< (a1 &&& 31)))))]; rfl) dX10_image_35 (fun H locs s4 es4 hP hD hS => ?_)
    have hv := hv s4 es4
    refine lv_iconst (v := 1) hx hb dX10_image_38 (by decide) ?_
    exact r_iret hx hb hr hlocks hv hP hS dX10_image_39
  · have hv := hv.2 c6
    refine lv_aload_n hx hb dX10_image_9 rfl (lv_at hl 0 rfl) ?_
    refine r_ci (va_runV (As := []) (rest := []) ⟨hx, hb, hml, hown, hts⟩ (c_X10_bad hi  s1 _ hv H.size) (cwV 0 hts gX10_image_X10_bad rfl rfl rfl (by decide +kernel) ⟨Nat.le_of_ble_eq_true rfl, Nat.le_of_ble_eq_true rfl⟩) ⟨pre_blind, r_recv hK.1 hP 0 (by decide) (ceGR_0 (s1 0)) rfl, pre_of hP hK⟩ rfl rfl hl.1 rfl (lv_room (Nat.le_of_ble_eq_true rfl)) dX10_image_10 ⟨Nat.zero_le _, Nat.zero_le _⟩) hS (fun r5 s5 H locs hv hP hS => ?_)
    have hD := wd_D (s := s) (cel := celC ad cA) (σ := s5) hi
    exact r_iret hx hb hr hlocks hv hP hS dX10_image_13
set_option maxHeartbeats 4000000 in
theorem y_X10_image {p : Program} {l : Launch} {e : Env} {s : State} {m : MethodId} {args : Array Value} {below : List Frame} {meth : Method} {c : Code} {dC : Nat → ClassId} {dI : Nat → Nat → Nat} {ad : Nat → Nat} {cA cZ : ClassId} (hi : Inj 81 ad) (a1 : Int32)  (C0 : Cx cX10_image RX10 wsX10_image 2 (some .int) p s m args meth c) (hK : KK dC dI cA cZ s) (Q : Int32 → St → Prop) : ∀ P xs ys σ, R_X10_image a1 Q P xs ys σ → XX p l e ({ frames := 3, cells := 0, slots := 0, locals := 77 } : Room) s m args below meth c (dC, dI) 81 ad (celC ad cA) 2 (ZI below args s (dC, dI) 81 ad (celC ad cA) Q) (lay_X10_image ad a1) P xs ys σ := by
  refine Fx.elim _ (fun P xs ys σ Y hY hB => ?_)
  exact hB.elim
set_option maxHeartbeats 4000000 in
theorem c_X10_image {l : Launch} {dC : Nat → ClassId} {dI : Nat → Nat → Nat} {ad : Nat → Nat} {cA cZ : ClassId} (hi : Inj 81 ad) (a1 : Int32)  (s0 : St) (Q : Int32 → St → Prop) (hv : V_X10_image a1 s0 Q) (sz : Nat) : Met l yX10_image wsX10_image ({ frames := 3, cells := 0, slots := 0, locals := 77 } : Room) (va_Pc [.ref (ad 0), .int a1] (PW dC dI ad cA cZ 81 (celC ad cA) sz s0)) (va_Qi Q (fun u t => va_P (dC, dI) vwCl (wd 81 ad (celC ad cA) u) t.heap) (AA 81 ad sz)) 0 0 (AA 81 ad sz) := by
  refine Met.ofW (cc := cX10_image) (maxL := 2) (ret := (some .int)) (by decide) rfl ?_
  intro p e s m args below meth c s₁ B hml hv0
  obtain ⟨rfl, hsz, hP, hK⟩ := hv0
  subst hsz
  have C0 : Cx cX10_image RX10 wsX10_image 2 (some .int) p s m ([.ref (ad 0), .int a1] : List Value).toArray meth c := ⟨B.exec, B.bytes, hml, findClass_of_methodNamed B.named, atoms_spec (ws := wsX10_image) B.pre, B.returns, B.notSynchronized⟩
  have hl := lv_entry ([.ref (ad 0), .int a1]) (n := 2) (Nat.le_of_ble_eq_true rfl)
  rw [lg_entry_eq]
  generalize (lg_sl ([.ref (ad 0), .int a1]) ++ List.replicate (2 - (lg_sl ([.ref (ad 0), .int a1])).length) Slot.unset).toArray = ls at hl ⊢
  have hl : lv_has ls 2 [(0, .ref (ad 0)), (1, .int a1)] := hl
  exact w_X10_image_e hi a1  C0 hK Q (R_X10_image a1 Q) (y_X10_image hi a1  C0 hK Q)  s0 hv hP va_S.rf hl
def lay_X10_from (ad : Nat → Nat) (a1 : Int32) : Nat → List Int32 → List Int64 → Option (List (Nat × Value) × List Value) := fun P xs ys => match P, xs, ys with
  | _, _, _ => none
set_option maxHeartbeats 4000000 in
set_option maxRecDepth 100000 in
theorem w_X10_from_e {p : Program} {l : Launch} {e : Env} {s : State} {m : MethodId} {args : Array Value} {below : List Frame} {meth : Method} {c : Code} {dC : Nat → ClassId} {dI : Nat → Nat → Nat} {ad : Nat → Nat} {cA cZ : ClassId} (hi : Inj 81 ad) (a1 : Int32)  (C0 : Cx cX10_from RX10 wsX10_from 2 (some .int) p s m args meth c) (hK : KK dC dI cA cZ s) (Q : Int32 → St → Prop) (Y : Nat → List Int32 → List Int64 → St → Prop) (hY : ∀ P xs ys σ, Y P xs ys σ → XX p l e ({ frames := 3, cells := 0, slots := 0, locals := 77 } : Room) s m args below meth c (dC, dI) 81 ad (celC ad cA) 2 (ZI below args s (dC, dI) 81 ad (celC ad cA) Q) (lay_X10_from ad a1) P xs ys σ)  (s0 : St) (hv : B_X10_from_e a1 Q Y  s0) {H : Heap} {locs : List Loc} {ls : Array Slot} (hP : va_P (dC, dI) vwCl (wd 81 ad (celC ad cA) s0) H) (hS : va_S (AA 81 ad s.heap.size) s.heap H locs) (hl : lv_has ls 2 [(0, .ref (ad 0)), (1, .int a1)]) : W p l e ({ frames := 3, cells := 0, slots := 0, locals := 77 } : Room) s m args below meth c H locs 0 0 (ZI below args s (dC, dI) 81 ad (celC ad cA) Q) (F0 m 0 ls []) := by
  obtain ⟨hx, hb, hml, hown, hts, hr, hlocks⟩ := C0
  have hD := wd_D (s := s) (cel := celC ad cA) (σ := s0) hi
  unfold B_X10_from_e at hv
  refine lv_iload_n hx hb dX10_from_0 rfl (lv_at hl 1 rfl) ?_
  refine lv_iconst (v := 0) hx hb dX10_from_1 (by decide) ?_
  refine lv_iconst (v := 1) hx hb dX10_from_2 (by decide) ?_
  refine r_ci (va_runS (As := [.int a1, .int 0, .int 1]) (rest := []) ⟨hx, hb, hml, hown, hts⟩ (c_X10_within hi a1 0 1 s0 _ hv H.size) (va_cwS 3 hts gX10_from_X10_within rfl rfl rfl (by decide +kernel) ⟨Nat.le_of_ble_eq_true rfl, Nat.le_of_ble_eq_true rfl⟩) ⟨pre_blind, pre_of hP hK⟩ rfl rfl hl.1 rfl (lv_room (Nat.le_of_ble_eq_true rfl)) dX10_from_3 ⟨Nat.zero_le _, Nat.zero_le _⟩) hS (fun r1 s1 H locs hv hP hS => ?_)
  obtain ⟨hz_r1, hv⟩ := hv
  have hD := wd_D (s := s) (cel := celC ad cA) (σ := s1) hi
  refine lv_if_ne (tgt := 14) hx hb dX10_from_6 (by decide) (fun c6 => ?_) (fun c6 => ?_)
  · have hv := hv.1 c6
    refine lv_aload_n hx hb dX10_from_14 rfl (lv_at hl 0 rfl) ?_
    refine r_get hx hb hts (iwX10_from_X10) hown hK.1 hP 0 (by decide) (ceGR_0 (s1 0)) rfl 7 (by decide) (hts _ kX10_from_1) (v := .int (s1 0 7)) rfl dX10_from_15 ?_
    refine lv_iload_n hx hb dX10_from_18 rfl (lv_at hl 1 rfl) ?_
    refine lv_ishr hx hb dX10_from_19 ?_
    refine lv_iconst (v := 1) hx hb dX10_from_20 (by decide) ?_
    refine lv_iand hx hb dX10_from_21 ?_
    refine lv_if_ne (tgt := 30) hx hb dX10_from_22 (by decide) (fun c22 => ?_) (fun c22 => ?_)
    · have hv := hv.1 c22
      refine lv_aload_n hx hb dX10_from_30 rfl (lv_at hl 0 rfl) ?_
      refine r_get hx hb hts (iwX10_from_X10) hown hK.1 hP 0 (by decide) (ceGR_0 (s1 0)) rfl 0 (by decide) (hts _ kX10_from_2) (v := .ref (ad 1)) rfl dX10_from_31 ?_
      refine lv_aload_n hx hb dX10_from_34 rfl (lv_at hl 0 rfl) ?_
      refine lv_iload_n hx hb dX10_from_35 rfl (lv_at hl 1 rfl) ?_
      refine r_cr (va_runV (As := [.int a1]) (rest := [.ref (ad 1)]) ⟨hx, hb, hml, hown, hts⟩ (c_X10_imageOf hi a1 s1 _ hv H.size) (cwV 1 hts gX10_from_X10_imageOf rfl rfl rfl (by decide +kernel) ⟨Nat.le_of_ble_eq_true rfl, Nat.le_of_ble_eq_true rfl⟩) ⟨pre_blind, r_recv hK.1 hP 0 (by decide) (ceGR_0 (s1 0)) rfl, pre_of hP hK⟩ rfl rfl hl.1 rfl (lv_room (Nat.le_of_ble_eq_true rfl)) dX10_from_36 ⟨Nat.zero_le _, Nat.zero_le _⟩) hS (fun r2 s2 H locs hr2 hv hP hS => ?_)
      have hD := wd_D (s := s) (cel := celC ad cA) (σ := s2) hi
      refine r_cv (va_runV (As := [.ref (ad r2)]) (rest := []) ⟨hx, hb, hml, hown, hts⟩ (c_X7_copy hi 1 r2 vSc_1 hr2 s2 _ hv H.size) (cwV 1 hts gX10_from_X7_copy rfl rfl rfl (by decide +kernel) ⟨Nat.le_of_ble_eq_true rfl, Nat.le_of_ble_eq_true rfl⟩) ⟨pre_blind, r_recv hK.1 hP 1 (ltSc_0 vSc_1) (ceSc_0 vSc_1 (s2 1)) rfl, pre_of hP hK⟩ rfl rfl hl.1 rfl (lv_room (Nat.le_of_ble_eq_true rfl)) dX10_from_39 ⟨Nat.zero_le _, Nat.zero_le _⟩) hS (fun s3 H locs hv hP hS => ?_)
      have hD := wd_D (s := s) (cel := celC ad cA) (σ := s3) hi
      refine lv_iconst (v := 1) hx hb dX10_from_42 (by decide) ?_
      exact r_iret hx hb hr hlocks hv hP hS dX10_from_43
    · have hv := hv.2 c22
      refine lv_aload_n hx hb dX10_from_25 rfl (lv_at hl 0 rfl) ?_
      refine r_ci (va_runV (As := []) (rest := []) ⟨hx, hb, hml, hown, hts⟩ (c_X10_no hi  s1 _ hv H.size) (cwV 0 hts gX10_from_X10_no rfl rfl rfl (by decide +kernel) ⟨Nat.le_of_ble_eq_true rfl, Nat.le_of_ble_eq_true rfl⟩) ⟨pre_blind, r_recv hK.1 hP 0 (by decide) (ceGR_0 (s1 0)) rfl, pre_of hP hK⟩ rfl rfl hl.1 rfl (lv_room (Nat.le_of_ble_eq_true rfl)) dX10_from_26 ⟨Nat.zero_le _, Nat.zero_le _⟩) hS (fun r4 s4 H locs hv hP hS => ?_)
      have hD := wd_D (s := s) (cel := celC ad cA) (σ := s4) hi
      exact r_iret hx hb hr hlocks hv hP hS dX10_from_29
  · have hv := hv.2 c6
    refine lv_aload_n hx hb dX10_from_9 rfl (lv_at hl 0 rfl) ?_
    refine r_ci (va_runV (As := []) (rest := []) ⟨hx, hb, hml, hown, hts⟩ (c_X10_bad hi  s1 _ hv H.size) (cwV 0 hts gX10_from_X10_bad rfl rfl rfl (by decide +kernel) ⟨Nat.le_of_ble_eq_true rfl, Nat.le_of_ble_eq_true rfl⟩) ⟨pre_blind, r_recv hK.1 hP 0 (by decide) (ceGR_0 (s1 0)) rfl, pre_of hP hK⟩ rfl rfl hl.1 rfl (lv_room (Nat.le_of_ble_eq_true rfl)) dX10_from_10 ⟨Nat.zero_le _, Nat.zero_le _⟩) hS (fun r5 s5 H locs hv hP hS => ?_)
    have hD := wd_D (s := s) (cel := celC ad cA) (σ := s5) hi
    exact r_iret hx hb hr hlocks hv hP hS dX10_from_13
set_option maxHeartbeats 4000000 in
theorem y_X10_from {p : Program} {l : Launch} {e : Env} {s : State} {m : MethodId} {args : Array Value} {below : List Frame} {meth : Method} {c : Code} {dC : Nat → ClassId} {dI : Nat → Nat → Nat} {ad : Nat → Nat} {cA cZ : ClassId} (hi : Inj 81 ad) (a1 : Int32)  (C0 : Cx cX10_from RX10 wsX10_from 2 (some .int) p s m args meth c) (hK : KK dC dI cA cZ s) (Q : Int32 → St → Prop) : ∀ P xs ys σ, R_X10_from a1 Q P xs ys σ → XX p l e ({ frames := 3, cells := 0, slots := 0, locals := 77 } : Room) s m args below meth c (dC, dI) 81 ad (celC ad cA) 2 (ZI below args s (dC, dI) 81 ad (celC ad cA) Q) (lay_X10_from ad a1) P xs ys σ := by
  refine Fx.elim _ (fun P xs ys σ Y hY hB => ?_)
  exact hB.elim
set_option maxHeartbeats 4000000 in
theorem c_X10_from {l : Launch} {dC : Nat → ClassId} {dI : Nat → Nat → Nat} {ad : Nat → Nat} {cA cZ : ClassId} (hi : Inj 81 ad) (a1 : Int32)  (s0 : St) (Q : Int32 → St → Prop) (hv : V_X10_from a1 s0 Q) (sz : Nat) : Met l yX10_from wsX10_from ({ frames := 3, cells := 0, slots := 0, locals := 77 } : Room) (va_Pc [.ref (ad 0), .int a1] (PW dC dI ad cA cZ 81 (celC ad cA) sz s0)) (va_Qi Q (fun u t => va_P (dC, dI) vwCl (wd 81 ad (celC ad cA) u) t.heap) (AA 81 ad sz)) 0 0 (AA 81 ad sz) := by
  refine Met.ofW (cc := cX10_from) (maxL := 2) (ret := (some .int)) (by decide) rfl ?_
  intro p e s m args below meth c s₁ B hml hv0
  obtain ⟨rfl, hsz, hP, hK⟩ := hv0
  subst hsz
  have C0 : Cx cX10_from RX10 wsX10_from 2 (some .int) p s m ([.ref (ad 0), .int a1] : List Value).toArray meth c := ⟨B.exec, B.bytes, hml, findClass_of_methodNamed B.named, atoms_spec (ws := wsX10_from) B.pre, B.returns, B.notSynchronized⟩
  have hl := lv_entry ([.ref (ad 0), .int a1]) (n := 2) (Nat.le_of_ble_eq_true rfl)
  rw [lg_entry_eq]
  generalize (lg_sl ([.ref (ad 0), .int a1]) ++ List.replicate (2 - (lg_sl ([.ref (ad 0), .int a1])).length) Slot.unset).toArray = ls at hl ⊢
  have hl : lv_has ls 2 [(0, .ref (ad 0)), (1, .int a1)] := hl
  exact w_X10_from_e hi a1  C0 hK Q (R_X10_from a1 Q) (y_X10_from hi a1  C0 hK Q)  s0 hv hP va_S.rf hl
def lay_X10_status (ad : Nat → Nat) (a1 : Int32) : Nat → List Int32 → List Int64 → Option (List (Nat × Value) × List Value) := fun P xs ys => match P, xs, ys with
  | _, _, _ => none
set_option maxHeartbeats 4000000 in
set_option maxRecDepth 100000 in
theorem w_X10_status_e {p : Program} {l : Launch} {e : Env} {s : State} {m : MethodId} {args : Array Value} {below : List Frame} {meth : Method} {c : Code} {dC : Nat → ClassId} {dI : Nat → Nat → Nat} {ad : Nat → Nat} {cA cZ : ClassId} (hi : Inj 81 ad) (a1 : Int32)  (C0 : Cx cX10_status RX10 wsX10_status 2 (some .int) p s m args meth c) (hK : KK dC dI cA cZ s) (Q : Int32 → St → Prop) (Y : Nat → List Int32 → List Int64 → St → Prop) (hY : ∀ P xs ys σ, Y P xs ys σ → XX p l e ({ frames := 0, cells := 0, slots := 0, locals := 0 } : Room) s m args below meth c (dC, dI) 81 ad (celC ad cA) 2 (ZI below args s (dC, dI) 81 ad (celC ad cA) Q) (lay_X10_status ad a1) P xs ys σ)  (s0 : St) (hv : B_X10_status_e a1 Q Y  s0) {H : Heap} {locs : List Loc} {ls : Array Slot} (hP : va_P (dC, dI) vwCl (wd 81 ad (celC ad cA) s0) H) (hS : va_S (AA 81 ad s.heap.size) s.heap H locs) (hl : lv_has ls 2 [(0, .ref (ad 0)), (1, .int a1)]) : W p l e ({ frames := 0, cells := 0, slots := 0, locals := 0 } : Room) s m args below meth c H locs 0 0 (ZI below args s (dC, dI) 81 ad (celC ad cA) Q) (F0 m 0 ls []) := by
  obtain ⟨hx, hb, hml, hown, hts, hr, hlocks⟩ := C0
  have hD := wd_D (s := s) (cel := celC ad cA) (σ := s0) hi
  unfold B_X10_status_e at hv
  refine lv_iload_n hx hb dX10_status_0 rfl (lv_at hl 1 rfl) ?_
  by_cases c1_0 : a1 = 0
  · have hv := hv.1 c1_0
    refine lv_tableIn (off := 27) (tgt := 28) hx hb dX10_status_1 (by rw [c1_0]; decide) (by rw [c1_0]; decide) (by rw [c1_0]; rfl) (by decide) ?_
    refine lv_aload_n hx hb dX10_status_28 rfl (lv_at hl 0 rfl) ?_
    refine r_get hx hb hts (iwX10_status_X10) hown hK.1 hP 0 (by decide) (ceGR_0 (s0 0)) rfl 10 (by decide) (hts _ kX10_status_1) (v := .int (s0 0 10)) rfl dX10_status_29 ?_
    exact r_iret hx hb hr hlocks hv hP hS dX10_status_32
  have hv := hv.2 c1_0
  by_cases c1_1 : a1 = 1
  · have hv := hv.1 c1_1
    refine lv_tableIn (off := 32) (tgt := 33) hx hb dX10_status_1 (by rw [c1_1]; decide) (by rw [c1_1]; decide) (by rw [c1_1]; rfl) (by decide) ?_
    refine lv_aload_n hx hb dX10_status_33 rfl (lv_at hl 0 rfl) ?_
    refine r_get hx hb hts (iwX10_status_X10) hown hK.1 hP 0 (by decide) (ceGR_0 (s0 0)) rfl 11 (by decide) (hts _ kX10_status_2) (v := .int (s0 0 11)) rfl dX10_status_34 ?_
    exact r_iret hx hb hr hlocks hv hP hS dX10_status_37
  have hv := hv.2 c1_1
  by_cases c1_2 : a1 = 2
  · have hv := hv.1 c1_2
    refine lv_tableIn (off := 37) (tgt := 38) hx hb dX10_status_1 (by rw [c1_2]; decide) (by rw [c1_2]; decide) (by rw [c1_2]; rfl) (by decide) ?_
    refine lv_aload_n hx hb dX10_status_38 rfl (lv_at hl 0 rfl) ?_
    refine r_get hx hb hts (iwX10_status_X10) hown hK.1 hP 0 (by decide) (ceGR_0 (s0 0)) rfl 12 (by decide) (hts _ kX10_status_3) (v := .int (s0 0 12)) rfl dX10_status_39 ?_
    exact r_iret hx hb hr hlocks hv hP hS dX10_status_42
  have hv := hv.2 c1_2
  refine lv_tableOut (tgt := 43) hx hb dX10_status_1 (by have w0 := lv_neT (a := 0) c1_0 (by decide); have w1 := lv_neT (a := 1) c1_1 (by decide); have w2 := lv_neT (a := 2) c1_2 (by decide); omega) (by decide) ?_
  refine lv_aload_n hx hb dX10_status_43 rfl (lv_at hl 0 rfl) ?_
  refine lv_dup hx hb dX10_status_44 rfl ?_
  refine r_get hx hb hts (iwX10_status_X10) hown hK.1 hP 0 (by decide) (ceGR_0 (s0 0)) rfl 10 (by decide) (hts _ kX10_status_1) (v := .int (s0 0 10)) rfl dX10_status_45 ?_
  refine lv_iconst (v := 1) hx hb dX10_status_48 (by decide) ?_
  refine lv_iadd hx hb dX10_status_49 ?_
  refine r_put hx hb hts (iwX10_status_X10) tyX10 tyX10_ok nmX10 hown hK.1 hP hD hS 0 (by decide) (ceGR_0 (s0 0)) rfl 10 (by decide) (hts _ kX10_status_1) rfl (ty := .int) (v := .int ((s0 0 10) + 1)) (by decide +kernel) rfl rfl (Nat.le_of_ble_eq_true rfl) (row := (upd (s0 0) 10 ((s0 0 10) + 1))) (by rw [(ceGR_0 (upd (s0 0) 10 ((s0 0 10) + 1)))]; rfl) dX10_status_50 (fun H locs s1 es1 hP hD hS => ?_)
  have hv := hv s1 es1
  refine lv_iconst (v := (-1)) hx hb dX10_status_53 (by decide) ?_
  exact r_iret hx hb hr hlocks hv hP hS dX10_status_54
set_option maxHeartbeats 4000000 in
theorem y_X10_status {p : Program} {l : Launch} {e : Env} {s : State} {m : MethodId} {args : Array Value} {below : List Frame} {meth : Method} {c : Code} {dC : Nat → ClassId} {dI : Nat → Nat → Nat} {ad : Nat → Nat} {cA cZ : ClassId} (hi : Inj 81 ad) (a1 : Int32)  (C0 : Cx cX10_status RX10 wsX10_status 2 (some .int) p s m args meth c) (hK : KK dC dI cA cZ s) (Q : Int32 → St → Prop) : ∀ P xs ys σ, R_X10_status a1 Q P xs ys σ → XX p l e ({ frames := 0, cells := 0, slots := 0, locals := 0 } : Room) s m args below meth c (dC, dI) 81 ad (celC ad cA) 2 (ZI below args s (dC, dI) 81 ad (celC ad cA) Q) (lay_X10_status ad a1) P xs ys σ := by
  refine Fx.elim _ (fun P xs ys σ Y hY hB => ?_)
  exact hB.elim
set_option maxHeartbeats 4000000 in
theorem c_X10_status {l : Launch} {dC : Nat → ClassId} {dI : Nat → Nat → Nat} {ad : Nat → Nat} {cA cZ : ClassId} (hi : Inj 81 ad) (a1 : Int32)  (s0 : St) (Q : Int32 → St → Prop) (hv : V_X10_status a1 s0 Q) (sz : Nat) : Met l yX10_status wsX10_status ({ frames := 0, cells := 0, slots := 0, locals := 0 } : Room) (va_Pc [.ref (ad 0), .int a1] (PW dC dI ad cA cZ 81 (celC ad cA) sz s0)) (va_Qi Q (fun u t => va_P (dC, dI) vwCl (wd 81 ad (celC ad cA) u) t.heap) (AA 81 ad sz)) 0 0 (AA 81 ad sz) := by
  refine Met.ofW (cc := cX10_status) (maxL := 2) (ret := (some .int)) (by decide) rfl ?_
  intro p e s m args below meth c s₁ B hml hv0
  obtain ⟨rfl, hsz, hP, hK⟩ := hv0
  subst hsz
  have C0 : Cx cX10_status RX10 wsX10_status 2 (some .int) p s m ([.ref (ad 0), .int a1] : List Value).toArray meth c := ⟨B.exec, B.bytes, hml, findClass_of_methodNamed B.named, atoms_spec (ws := wsX10_status) B.pre, B.returns, B.notSynchronized⟩
  have hl := lv_entry ([.ref (ad 0), .int a1]) (n := 2) (Nat.le_of_ble_eq_true rfl)
  rw [lg_entry_eq]
  generalize (lg_sl ([.ref (ad 0), .int a1]) ++ List.replicate (2 - (lg_sl ([.ref (ad 0), .int a1])).length) Slot.unset).toArray = ls at hl ⊢
  have hl : lv_has ls 2 [(0, .ref (ad 0)), (1, .int a1)] := hl
  exact w_X10_status_e hi a1  C0 hK Q (R_X10_status a1 Q) (y_X10_status hi a1  C0 hK Q)  s0 hv hP va_S.rf hl
def lay_X8_waitingInAll (ad : Nat → Nat) (h0 : Nat) : Nat → List Int32 → List Int64 → Option (List (Nat × Value) × List Value) := fun P xs ys => match P, xs, ys with
  | 4, [x1, x2], [] => some ([(0, .ref (ad h0)), (1, .int x1), (2, .int x2)], [])
  | _, _, _ => none
set_option maxHeartbeats 4000000 in
set_option maxRecDepth 100000 in
theorem w_X8_waitingInAll_e {p : Program} {l : Launch} {e : Env} {s : State} {m : MethodId} {args : Array Value} {below : List Frame} {meth : Method} {c : Code} {dC : Nat → ClassId} {dI : Nat → Nat → Nat} {ad : Nat → Nat} {cA cZ : ClassId} (hi : Inj 81 ad) (h0 : Nat) (hh0 : isSt h0) (C0 : Cx cX8_waitingInAll RX8 wsX8_waitingInAll 3 (some .int) p s m args meth c) (hK : KK dC dI cA cZ s) (Q : Int32 → St → Prop) (Y : Nat → List Int32 → List Int64 → St → Prop) (hY : ∀ P xs ys σ, Y P xs ys σ → XX p l e ({ frames := 1, cells := 0, slots := 0, locals := 23 } : Room) s m args below meth c (dC, dI) 81 ad (celC ad cA) 3 (ZI below args s (dC, dI) 81 ad (celC ad cA) Q) (lay_X8_waitingInAll ad h0) P xs ys σ)  (s0 : St) (hv : B_X8_waitingInAll_e h0 Q Y  s0) {H : Heap} {locs : List Loc} {ls : Array Slot} (hP : va_P (dC, dI) vwCl (wd 81 ad (celC ad cA) s0) H) (hS : va_S (AA 81 ad s.heap.size) s.heap H locs) (hl : lv_has ls 3 [(0, .ref (ad h0))]) : W p l e ({ frames := 1, cells := 0, slots := 0, locals := 23 } : Room) s m args below meth c H locs 0 0 (ZI below args s (dC, dI) 81 ad (celC ad cA) Q) (F0 m 0 ls []) := by
  obtain ⟨hx, hb, hml, hown, hts, hr, hlocks⟩ := C0
  have hD := wd_D (s := s) (cel := celC ad cA) (σ := s0) hi
  unfold B_X8_waitingInAll_e at hv
  refine lv_iconst (v := 0) hx hb dX8_waitingInAll_0 (by decide) ?_
  refine lv_istore_n (lv' := [(1, .int 0), (0, .ref (ad h0))]) hx hb dX8_waitingInAll_1 rfl hl (by decide) rfl (fun ls hl => ?_)
  refine lv_iconst (v := 0) hx hb dX8_waitingInAll_2 (by decide) ?_
  refine lv_istore_n (lv' := [(2, .int 0), (1, .int 0), (0, .ref (ad h0))]) hx hb dX8_waitingInAll_3 rfl hl (by decide) rfl (fun ls hl => ?_)
  exact hY 4 [0, 0] [] s0 hv _ _ rfl H locs ls hP hS (lv_sub hl [2, 1, 0] rfl)
set_option maxHeartbeats 4000000 in
set_option maxRecDepth 100000 in
theorem w_X8_waitingInAll_4 {p : Program} {l : Launch} {e : Env} {s : State} {m : MethodId} {args : Array Value} {below : List Frame} {meth : Method} {c : Code} {dC : Nat → ClassId} {dI : Nat → Nat → Nat} {ad : Nat → Nat} {cA cZ : ClassId} (hi : Inj 81 ad) (h0 : Nat) (hh0 : isSt h0) (C0 : Cx cX8_waitingInAll RX8 wsX8_waitingInAll 3 (some .int) p s m args meth c) (hK : KK dC dI cA cZ s) (Q : Int32 → St → Prop) (Y : Nat → List Int32 → List Int64 → St → Prop) (hY : ∀ P xs ys σ, Y P xs ys σ → XX p l e ({ frames := 1, cells := 0, slots := 0, locals := 23 } : Room) s m args below meth c (dC, dI) 81 ad (celC ad cA) 3 (ZI below args s (dC, dI) 81 ad (celC ad cA) Q) (lay_X8_waitingInAll ad h0) P xs ys σ) (x1 : Int32) (x2 : Int32) (s0 : St) (hv : B_X8_waitingInAll_4 h0 Q Y x1 x2 s0) {H : Heap} {locs : List Loc} {ls : Array Slot} (hP : va_P (dC, dI) vwCl (wd 81 ad (celC ad cA) s0) H) (hS : va_S (AA 81 ad s.heap.size) s.heap H locs) (hl : lv_has ls 3 [(0, .ref (ad h0)), (1, .int x1), (2, .int x2)]) : W p l e ({ frames := 1, cells := 0, slots := 0, locals := 23 } : Room) s m args below meth c H locs 0 0 (ZI below args s (dC, dI) 81 ad (celC ad cA) Q) (F0 m 4 ls []) := by
  obtain ⟨hx, hb, hml, hown, hts, hr, hlocks⟩ := C0
  have hD := wd_D (s := s) (cel := celC ad cA) (σ := s0) hi
  unfold B_X8_waitingInAll_4 at hv
  refine lv_iload_n hx hb dX8_waitingInAll_4 rfl (lv_at hl 2 rfl) ?_
  refine lv_aload_n hx hb dX8_waitingInAll_5 rfl (lv_at hl 0 rfl) ?_
  refine r_get hx hb hts (iwX8_waitingInAll_X8) hown hK.1 hP h0 (ltSt_0 hh0) (ceSt_0 hh0 (s0 h0)) rfl 9 (by decide) (hts _ kX8_waitingInAll_1) (v := .int (s0 h0 9)) rfl dX8_waitingInAll_6 ?_
  refine lv_icmp_ge (tgt := 26) hx hb dX8_waitingInAll_9 (by decide) (fun c9 => ?_) (fun c9 => ?_)
  · have hv := hv.1 c9
    refine lv_iload_n hx hb dX8_waitingInAll_26 rfl (lv_at hl 1 rfl) ?_
    exact r_iret hx hb hr hlocks hv hP hS dX8_waitingInAll_27
  · have hv := hv.2 c9
    refine lv_iload_n hx hb dX8_waitingInAll_12 rfl (lv_at hl 1 rfl) ?_
    refine lv_aload_n hx hb dX8_waitingInAll_13 rfl (lv_at hl 0 rfl) ?_
    refine lv_iload_n hx hb dX8_waitingInAll_14 rfl (lv_at hl 2 rfl) ?_
    refine r_ci (va_runV (As := [.int x2]) (rest := [.int x1]) ⟨hx, hb, hml, hown, hts⟩ (c_X8_waitingBehind hi h0 x2 hh0 s0 _ hv H.size) (cwV 1 hts gX8_waitingInAll_X8_waitingBehind rfl rfl rfl (by decide +kernel) ⟨Nat.le_of_ble_eq_true rfl, Nat.le_of_ble_eq_true rfl⟩) ⟨pre_blind, r_recv hK.1 hP h0 (ltSt_0 hh0) (ceSt_0 hh0 (s0 h0)) rfl, pre_of hP hK⟩ rfl rfl hl.1 rfl (lv_room (Nat.le_of_ble_eq_true rfl)) dX8_waitingInAll_15 ⟨Nat.zero_le _, Nat.zero_le _⟩) hS (fun r1 s1 H locs hv hP hS => ?_)
    have hD := wd_D (s := s) (cel := celC ad cA) (σ := s1) hi
    refine lv_iadd hx hb dX8_waitingInAll_18 ?_
    refine lv_istore_n (lv' := [(1, .int (x1 + r1)), (0, .ref (ad h0)), (2, .int x2)]) hx hb dX8_waitingInAll_19 rfl hl (by decide) rfl (fun ls hl => ?_)
    refine lv_iinc (v := x2 + 1) (lv' := [(2, .int (x2 + 1)), (1, .int (x1 + r1)), (0, .ref (ad h0))]) hx hb dX8_waitingInAll_20 hl (k := 2) rfl rfl (by decide) rfl (fun ls hl => ?_)
    refine lv_goto (tgt := 4) hx hb dX8_waitingInAll_23 (by decide) ?_
    exact hY 4 [x1 + r1, x2 + 1] [] s1 hv _ _ rfl H locs ls hP hS (lv_sub hl [2, 1, 0] rfl)
set_option maxHeartbeats 4000000 in
theorem y_X8_waitingInAll {p : Program} {l : Launch} {e : Env} {s : State} {m : MethodId} {args : Array Value} {below : List Frame} {meth : Method} {c : Code} {dC : Nat → ClassId} {dI : Nat → Nat → Nat} {ad : Nat → Nat} {cA cZ : ClassId} (hi : Inj 81 ad) (h0 : Nat) (hh0 : isSt h0) (C0 : Cx cX8_waitingInAll RX8 wsX8_waitingInAll 3 (some .int) p s m args meth c) (hK : KK dC dI cA cZ s) (Q : Int32 → St → Prop) : ∀ P xs ys σ, R_X8_waitingInAll h0 Q P xs ys σ → XX p l e ({ frames := 1, cells := 0, slots := 0, locals := 23 } : Room) s m args below meth c (dC, dI) 81 ad (celC ad cA) 3 (ZI below args s (dC, dI) 81 ad (celC ad cA) Q) (lay_X8_waitingInAll ad h0) P xs ys σ := by
  refine Fx.elim _ (fun P xs ys σ Y hY hB => ?_)
  rcases hB with ⟨rfl, x1, x2, rfl, rfl, hB⟩
  · intro lv st he H locs ls hP hS hl
    cases he
    exact w_X8_waitingInAll_4 hi h0 hh0 C0 hK Q Y hY x1 x2 σ hB hP hS hl
set_option maxHeartbeats 4000000 in
theorem c_X8_waitingInAll {l : Launch} {dC : Nat → ClassId} {dI : Nat → Nat → Nat} {ad : Nat → Nat} {cA cZ : ClassId} (hi : Inj 81 ad) (h0 : Nat) (hh0 : isSt h0) (s0 : St) (Q : Int32 → St → Prop) (hv : V_X8_waitingInAll h0 s0 Q) (sz : Nat) : Met l yX8_waitingInAll wsX8_waitingInAll ({ frames := 1, cells := 0, slots := 0, locals := 23 } : Room) (va_Pc [.ref (ad h0)] (PW dC dI ad cA cZ 81 (celC ad cA) sz s0)) (va_Qi Q (fun u t => va_P (dC, dI) vwCl (wd 81 ad (celC ad cA) u) t.heap) (AA 81 ad sz)) 0 0 (AA 81 ad sz) := by
  refine Met.ofW (cc := cX8_waitingInAll) (maxL := 3) (ret := (some .int)) (by decide) rfl ?_
  intro p e s m args below meth c s₁ B hml hv0
  obtain ⟨rfl, hsz, hP, hK⟩ := hv0
  subst hsz
  have C0 : Cx cX8_waitingInAll RX8 wsX8_waitingInAll 3 (some .int) p s m ([.ref (ad h0)] : List Value).toArray meth c := ⟨B.exec, B.bytes, hml, findClass_of_methodNamed B.named, atoms_spec (ws := wsX8_waitingInAll) B.pre, B.returns, B.notSynchronized⟩
  have hl := lv_entry ([.ref (ad h0)]) (n := 3) (Nat.le_of_ble_eq_true rfl)
  rw [lg_entry_eq]
  generalize (lg_sl ([.ref (ad h0)]) ++ List.replicate (3 - (lg_sl ([.ref (ad h0)])).length) Slot.unset).toArray = ls at hl ⊢
  have hl : lv_has ls 3 [(0, .ref (ad h0))] := hl
  exact w_X8_waitingInAll_e hi h0 hh0 C0 hK Q (R_X8_waitingInAll h0 Q) (y_X8_waitingInAll hi h0 hh0 C0 hK Q)  s0 hv hP va_S.rf hl
def lay_X10_counted (ad : Nat → Nat) (a1 : Int32) : Nat → List Int32 → List Int64 → Option (List (Nat × Value) × List Value) := fun P xs ys => match P, xs, ys with
  | _, _, _ => none
set_option maxHeartbeats 4000000 in
set_option maxRecDepth 100000 in
theorem w_X10_counted_e {p : Program} {l : Launch} {e : Env} {s : State} {m : MethodId} {args : Array Value} {below : List Frame} {meth : Method} {c : Code} {dC : Nat → ClassId} {dI : Nat → Nat → Nat} {ad : Nat → Nat} {cA cZ : ClassId} (hi : Inj 81 ad) (a1 : Int32)  (C0 : Cx cX10_counted RX10 wsX10_counted 3 (some .int) p s m args meth c) (hK : KK dC dI cA cZ s) (Q : Int32 → St → Prop) (Y : Nat → List Int32 → List Int64 → St → Prop) (hY : ∀ P xs ys σ, Y P xs ys σ → XX p l e ({ frames := 2, cells := 0, slots := 0, locals := 45 } : Room) s m args below meth c (dC, dI) 81 ad (celC ad cA) 3 (ZI below args s (dC, dI) 81 ad (celC ad cA) Q) (lay_X10_counted ad a1) P xs ys σ)  (s0 : St) (hv : B_X10_counted_e a1 Q Y  s0) {H : Heap} {locs : List Loc} {ls : Array Slot} (hP : va_P (dC, dI) vwCl (wd 81 ad (celC ad cA) s0) H) (hS : va_S (AA 81 ad s.heap.size) s.heap H locs) (hl : lv_has ls 3 [(0, .ref (ad 0)), (1, .int a1)]) : W p l e ({ frames := 2, cells := 0, slots := 0, locals := 45 } : Room) s m args below meth c H locs 0 0 (ZI below args s (dC, dI) 81 ad (celC ad cA) Q) (F0 m 0 ls []) := by
  obtain ⟨hx, hb, hml, hown, hts, hr, hlocks⟩ := C0
  have hD := wd_D (s := s) (cel := celC ad cA) (σ := s0) hi
  unfold B_X10_counted_e at hv
  refine lv_aload_n hx hb dX10_counted_0 rfl (lv_at hl 0 rfl) ?_
  refine r_get hx hb hts (iwX10_counted_X10) hown hK.1 hP 0 (by decide) (ceGR_0 (s0 0)) rfl 0 (by decide) (hts _ kX10_counted_1) (v := .ref (ad 1)) rfl dX10_counted_1 ?_
  refine r_get hx hb hts (iwX10_counted_X7) hown hK.1 hP 1 (ltSc_0 vSc_1) (ceSc_0 vSc_1 (s0 1)) rfl 0 (by decide) (hts _ kX10_counted_2) (v := .ref (ad 2)) rfl dX10_counted_4 ?_
  refine lv_astore_n (lv' := [(2, .ref (ad 2)), (0, .ref (ad 0)), (1, .int a1)]) hx hb dX10_counted_7 rfl hl (by decide) rfl (fun ls hl => ?_)
  refine lv_iload_n hx hb dX10_counted_8 rfl (lv_at hl 2 rfl) ?_
  by_cases c9_0 : a1 = 0
  · have hv := hv.1 c9_0
    refine lv_tableIn (off := 55) (tgt := 64) hx hb dX10_counted_9 (by rw [c9_0]; decide) (by rw [c9_0]; decide) (by rw [c9_0]; rfl) (by decide) ?_
    refine lv_aload_n hx hb dX10_counted_64 rfl (lv_at hl 0 rfl) ?_
    refine r_get hx hb hts (iwX10_counted_X8) hown hK.1 hP 2 (ltSt_0 (vSc1 vSc_1)) (ceSt_0 (vSc1 vSc_1) (s0 2)) rfl 8 (by decide) (hts _ kX10_counted_3) (v := .int (s0 2 8)) rfl dX10_counted_65 ?_
    exact r_iret hx hb hr hlocks hv hP hS dX10_counted_68
  have hv := hv.2 c9_0
  by_cases c9_1 : a1 = 1
  · have hv := hv.1 c9_1
    refine lv_tableIn (off := 60) (tgt := 69) hx hb dX10_counted_9 (by rw [c9_1]; decide) (by rw [c9_1]; decide) (by rw [c9_1]; rfl) (by decide) ?_
    refine lv_aload_n hx hb dX10_counted_69 rfl (lv_at hl 0 rfl) ?_
    refine r_get hx hb hts (iwX10_counted_X8) hown hK.1 hP 2 (ltSt_0 (vSc1 vSc_1)) (ceSt_0 (vSc1 vSc_1) (s0 2)) rfl 9 (by decide) (hts _ kX10_counted_4) (v := .int (s0 2 9)) rfl dX10_counted_70 ?_
    exact r_iret hx hb hr hlocks hv hP hS dX10_counted_73
  have hv := hv.2 c9_1
  by_cases c9_2 : a1 = 2
  · have hv := hv.1 c9_2
    refine lv_tableIn (off := 65) (tgt := 74) hx hb dX10_counted_9 (by rw [c9_2]; decide) (by rw [c9_2]; decide) (by rw [c9_2]; rfl) (by decide) ?_
    refine lv_aload_n hx hb dX10_counted_74 rfl (lv_at hl 0 rfl) ?_
    refine r_get hx hb hts (iwX10_counted_X8) hown hK.1 hP 2 (ltSt_0 (vSc1 vSc_1)) (ceSt_0 (vSc1 vSc_1) (s0 2)) rfl 11 (by decide) (hts _ kX10_counted_5) (v := .int (s0 2 11)) rfl dX10_counted_75 ?_
    exact r_iret hx hb hr hlocks hv hP hS dX10_counted_78
  have hv := hv.2 c9_2
  by_cases c9_3 : a1 = 3
  · have hv := hv.1 c9_3
    refine lv_tableIn (off := 70) (tgt := 79) hx hb dX10_counted_9 (by rw [c9_3]; decide) (by rw [c9_3]; decide) (by rw [c9_3]; rfl) (by decide) ?_
    refine lv_aload_n hx hb dX10_counted_79 rfl (lv_at hl 0 rfl) ?_
    refine r_ci (va_runV (As := []) (rest := []) ⟨hx, hb, hml, hown, hts⟩ (c_X8_over hi 2 (vSc1 vSc_1) s0 _ hv H.size) (cwV 0 hts gX10_counted_X8_over rfl rfl rfl (by decide +kernel) ⟨Nat.le_of_ble_eq_true rfl, Nat.le_of_ble_eq_true rfl⟩) ⟨pre_blind, r_recv hK.1 hP 2 (ltSt_0 (vSc1 vSc_1)) (ceSt_0 (vSc1 vSc_1) (s0 2)) rfl, pre_of hP hK⟩ rfl rfl hl.1 rfl (lv_room (Nat.le_of_ble_eq_true rfl)) dX10_counted_80 ⟨Nat.zero_le _, Nat.zero_le _⟩) hS (fun r1 s1 H locs hv hP hS => ?_)
    have hD := wd_D (s := s) (cel := celC ad cA) (σ := s1) hi
    exact r_iret hx hb hr hlocks hv hP hS dX10_counted_83
  have hv := hv.2 c9_3
  by_cases c9_4 : a1 = 4
  · have hv := hv.1 c9_4
    refine lv_tableIn (off := 75) (tgt := 84) hx hb dX10_counted_9 (by rw [c9_4]; decide) (by rw [c9_4]; decide) (by rw [c9_4]; rfl) (by decide) ?_
    refine lv_aload_n hx hb dX10_counted_84 rfl (lv_at hl 0 rfl) ?_
    refine r_ci (va_runV (As := []) (rest := []) ⟨hx, hb, hml, hown, hts⟩ (c_X8_waitingInAll hi 2 (vSc1 vSc_1) s0 _ hv H.size) (cwV 0 hts gX10_counted_X8_waitingInAll rfl rfl rfl (by decide +kernel) ⟨Nat.le_of_ble_eq_true rfl, Nat.le_of_ble_eq_true rfl⟩) ⟨pre_blind, r_recv hK.1 hP 2 (ltSt_0 (vSc1 vSc_1)) (ceSt_0 (vSc1 vSc_1) (s0 2)) rfl, pre_of hP hK⟩ rfl rfl hl.1 rfl (lv_room (Nat.le_of_ble_eq_true rfl)) dX10_counted_85 ⟨Nat.zero_le _, Nat.zero_le _⟩) hS (fun r2 s2 H locs hv hP hS => ?_)
    have hD := wd_D (s := s) (cel := celC ad cA) (σ := s2) hi
    exact r_iret hx hb hr hlocks hv hP hS dX10_counted_88
  have hv := hv.2 c9_4
  by_cases c9_5 : a1 = 5
  · have hv := hv.1 c9_5
    refine lv_tableIn (off := 80) (tgt := 89) hx hb dX10_counted_9 (by rw [c9_5]; decide) (by rw [c9_5]; decide) (by rw [c9_5]; rfl) (by decide) ?_
    refine lv_aload_n hx hb dX10_counted_89 rfl (lv_at hl 0 rfl) ?_
    refine r_get hx hb hts (iwX10_counted_X8) hown hK.1 hP 2 (ltSt_0 (vSc1 vSc_1)) (ceSt_0 (vSc1 vSc_1) (s0 2)) rfl 10 (by decide) (hts _ kX10_counted_6) (v := .int (s0 2 10)) rfl dX10_counted_90 ?_
    refine r_ci (va_runS (As := [.int (s0 2 10)]) (rest := []) ⟨hx, hb, hml, hown, hts⟩ (c_J6_bitCount_0f7a4 hi (s0 2 10) s0 _ hv H.size) (va_cwS 1 hts gX10_counted_J6_bitCount_0f7a4 rfl rfl rfl (by decide +kernel) ⟨Nat.le_of_ble_eq_true rfl, Nat.le_of_ble_eq_true rfl⟩) ⟨pre_blind, pre_of hP hK⟩ rfl rfl hl.1 rfl (lv_room (Nat.le_of_ble_eq_true rfl)) dX10_counted_93 ⟨Nat.zero_le _, Nat.zero_le _⟩) hS (fun r3 s3 H locs hv hP hS => ?_)
    have hD := wd_D (s := s) (cel := celC ad cA) (σ := s3) hi
    exact r_iret hx hb hr hlocks hv hP hS dX10_counted_96
  have hv := hv.2 c9_5
  by_cases c9_6 : a1 = 6
  · have hv := hv.1 c9_6
    refine lv_tableIn (off := 88) (tgt := 97) hx hb dX10_counted_9 (by rw [c9_6]; decide) (by rw [c9_6]; decide) (by rw [c9_6]; rfl) (by decide) ?_
    refine lv_aload_n hx hb dX10_counted_97 rfl (lv_at hl 1 rfl) ?_
    refine r_get hx hb hts (iwX10_counted_X10) hown hK.1 hP 0 (by decide) (ceGR_0 (s0 0)) rfl 0 (by decide) (hts _ kX10_counted_1) (v := .ref (ad 1)) rfl dX10_counted_98 ?_
    refine r_get hx hb hts (iwX10_counted_X7) hown hK.1 hP 1 (ltSc_0 vSc_1) (ceSc_0 vSc_1 (s0 1)) rfl 2 (by decide) (hts _ kX10_counted_7) (v := .ref (ad 13)) rfl dX10_counted_101 ?_
    refine r_get hx hb hts (iwX10_counted_X6) hown hK.1 hP 13 (ltRo_0 (vSc12 vSc_1)) (ceRo_0 (vSc12 vSc_1) (s0 13)) rfl 3 (by decide) (hts _ kX10_counted_8) (v := .int (s0 13 3)) rfl dX10_counted_104 ?_
    exact r_iret hx hb hr hlocks hv hP hS dX10_counted_107
  have hv := hv.2 c9_6
  by_cases c9_7 : a1 = 7
  · have hv := hv.1 c9_7
    refine lv_tableIn (off := 99) (tgt := 108) hx hb dX10_counted_9 (by rw [c9_7]; decide) (by rw [c9_7]; decide) (by rw [c9_7]; rfl) (by decide) ?_
    refine lv_aload_n hx hb dX10_counted_108 rfl (lv_at hl 1 rfl) ?_
    refine r_get hx hb hts (iwX10_counted_X10) hown hK.1 hP 0 (by decide) (ceGR_0 (s0 0)) rfl 0 (by decide) (hts _ kX10_counted_1) (v := .ref (ad 1)) rfl dX10_counted_109 ?_
    refine r_get hx hb hts (iwX10_counted_X7) hown hK.1 hP 1 (ltSc_0 vSc_1) (ceSc_0 vSc_1 (s0 1)) rfl 3 (by decide) (hts _ kX10_counted_9) (v := .ref (ad 15)) rfl dX10_counted_112 ?_
    refine r_get hx hb hts (iwX10_counted_X6) hown hK.1 hP 15 (ltRo_0 (vSc14 vSc_1)) (ceRo_0 (vSc14 vSc_1) (s0 15)) rfl 3 (by decide) (hts _ kX10_counted_8) (v := .int (s0 15 3)) rfl dX10_counted_115 ?_
    exact r_iret hx hb hr hlocks hv hP hS dX10_counted_118
  have hv := hv.2 c9_7
  by_cases c9_8 : a1 = 8
  · have hv := hv.1 c9_8
    refine lv_tableIn (off := 110) (tgt := 119) hx hb dX10_counted_9 (by rw [c9_8]; decide) (by rw [c9_8]; decide) (by rw [c9_8]; rfl) (by decide) ?_
    refine lv_aload_n hx hb dX10_counted_119 rfl (lv_at hl 1 rfl) ?_
    refine r_get hx hb hts (iwX10_counted_X10) hown hK.1 hP 0 (by decide) (ceGR_0 (s0 0)) rfl 0 (by decide) (hts _ kX10_counted_1) (v := .ref (ad 1)) rfl dX10_counted_120 ?_
    refine r_get hx hb hts (iwX10_counted_X7) hown hK.1 hP 1 (ltSc_0 vSc_1) (ceSc_0 vSc_1 (s0 1)) rfl 4 (by decide) (hts _ kX10_counted_10) (v := .ref (ad 17)) rfl dX10_counted_123 ?_
    refine r_get hx hb hts (iwX10_counted_X6) hown hK.1 hP 17 (ltRo_0 (vSc16 vSc_1)) (ceRo_0 (vSc16 vSc_1) (s0 17)) rfl 3 (by decide) (hts _ kX10_counted_8) (v := .int (s0 17 3)) rfl dX10_counted_126 ?_
    exact r_iret hx hb hr hlocks hv hP hS dX10_counted_129
  have hv := hv.2 c9_8
  by_cases c9_9 : a1 = 9
  · have hv := hv.1 c9_9
    refine lv_tableIn (off := 121) (tgt := 130) hx hb dX10_counted_9 (by rw [c9_9]; decide) (by rw [c9_9]; decide) (by rw [c9_9]; rfl) (by decide) ?_
    refine lv_aload_n hx hb dX10_counted_130 rfl (lv_at hl 1 rfl) ?_
    refine r_get hx hb hts (iwX10_counted_X10) hown hK.1 hP 0 (by decide) (ceGR_0 (s0 0)) rfl 0 (by decide) (hts _ kX10_counted_1) (v := .ref (ad 1)) rfl dX10_counted_131 ?_
    refine r_get hx hb hts (iwX10_counted_X7) hown hK.1 hP 1 (ltSc_0 vSc_1) (ceSc_0 vSc_1 (s0 1)) rfl 1 (by decide) (hts _ kX10_counted_11) (v := .ref (ad 11)) rfl dX10_counted_134 ?_
    refine r_get hx hb hts (iwX10_counted_X4) hown hK.1 hP 11 (ltPa_0 (vSc10 vSc_1)) (cePa_0 (vSc10 vSc_1) (s0 11)) rfl 1 (by decide) (hts _ kX10_counted_12) (v := .int (s0 11 1)) rfl dX10_counted_137 ?_
    exact r_iret hx hb hr hlocks hv hP hS dX10_counted_140
  have hv := hv.2 c9_9
  refine lv_tableOut (tgt := 141) hx hb dX10_counted_9 (by have w0 := lv_neT (a := 0) c9_0 (by decide); have w1 := lv_neT (a := 1) c9_1 (by decide); have w2 := lv_neT (a := 2) c9_2 (by decide); have w3 := lv_neT (a := 3) c9_3 (by decide); have w4 := lv_neT (a := 4) c9_4 (by decide); have w5 := lv_neT (a := 5) c9_5 (by decide); have w6 := lv_neT (a := 6) c9_6 (by decide); have w7 := lv_neT (a := 7) c9_7 (by decide); have w8 := lv_neT (a := 8) c9_8 (by decide); have w9 := lv_neT (a := 9) c9_9 (by decide); omega) (by decide) ?_
  refine lv_aload_n hx hb dX10_counted_141 rfl (lv_at hl 1 rfl) ?_
  refine r_get hx hb hts (iwX10_counted_X10) hown hK.1 hP 0 (by decide) (ceGR_0 (s0 0)) rfl 6 (by decide) (hts _ kX10_counted_13) (v := .ref (ad 69)) rfl dX10_counted_142 ?_
  refine r_get hx hb hts (iwX10_counted_X5) hown hK.1 hP 69 (by decide) (ceRe_0 (s0 69)) rfl 0 (by decide) (hts _ kX10_counted_14) (v := .ref (ad 70)) rfl dX10_counted_145 ?_
  refine r_get hx hb hts (iwX10_counted_X9) hown hK.1 hP 70 (by decide) (ceTo_0 (s0 70)) rfl 1 (by decide) (hts _ kX10_counted_15) (v := .int (s0 70 1)) rfl dX10_counted_148 ?_
  exact r_iret hx hb hr hlocks hv hP hS dX10_counted_151
set_option maxHeartbeats 4000000 in
theorem y_X10_counted {p : Program} {l : Launch} {e : Env} {s : State} {m : MethodId} {args : Array Value} {below : List Frame} {meth : Method} {c : Code} {dC : Nat → ClassId} {dI : Nat → Nat → Nat} {ad : Nat → Nat} {cA cZ : ClassId} (hi : Inj 81 ad) (a1 : Int32)  (C0 : Cx cX10_counted RX10 wsX10_counted 3 (some .int) p s m args meth c) (hK : KK dC dI cA cZ s) (Q : Int32 → St → Prop) : ∀ P xs ys σ, R_X10_counted a1 Q P xs ys σ → XX p l e ({ frames := 2, cells := 0, slots := 0, locals := 45 } : Room) s m args below meth c (dC, dI) 81 ad (celC ad cA) 3 (ZI below args s (dC, dI) 81 ad (celC ad cA) Q) (lay_X10_counted ad a1) P xs ys σ := by
  refine Fx.elim _ (fun P xs ys σ Y hY hB => ?_)
  exact hB.elim
set_option maxHeartbeats 4000000 in
theorem c_X10_counted {l : Launch} {dC : Nat → ClassId} {dI : Nat → Nat → Nat} {ad : Nat → Nat} {cA cZ : ClassId} (hi : Inj 81 ad) (a1 : Int32)  (s0 : St) (Q : Int32 → St → Prop) (hv : V_X10_counted a1 s0 Q) (sz : Nat) : Met l yX10_counted wsX10_counted ({ frames := 2, cells := 0, slots := 0, locals := 45 } : Room) (va_Pc [.ref (ad 0), .int a1] (PW dC dI ad cA cZ 81 (celC ad cA) sz s0)) (va_Qi Q (fun u t => va_P (dC, dI) vwCl (wd 81 ad (celC ad cA) u) t.heap) (AA 81 ad sz)) 0 0 (AA 81 ad sz) := by
  refine Met.ofW (cc := cX10_counted) (maxL := 3) (ret := (some .int)) (by decide) rfl ?_
  intro p e s m args below meth c s₁ B hml hv0
  obtain ⟨rfl, hsz, hP, hK⟩ := hv0
  subst hsz
  have C0 : Cx cX10_counted RX10 wsX10_counted 3 (some .int) p s m ([.ref (ad 0), .int a1] : List Value).toArray meth c := ⟨B.exec, B.bytes, hml, findClass_of_methodNamed B.named, atoms_spec (ws := wsX10_counted) B.pre, B.returns, B.notSynchronized⟩
  have hl := lv_entry ([.ref (ad 0), .int a1]) (n := 3) (Nat.le_of_ble_eq_true rfl)
  rw [lg_entry_eq]
  generalize (lg_sl ([.ref (ad 0), .int a1]) ++ List.replicate (3 - (lg_sl ([.ref (ad 0), .int a1])).length) Slot.unset).toArray = ls at hl ⊢
  have hl : lv_has ls 3 [(0, .ref (ad 0)), (1, .int a1)] := hl
  exact w_X10_counted_e hi a1  C0 hK Q (R_X10_counted a1 Q) (y_X10_counted hi a1  C0 hK Q)  s0 hv hP va_S.rf hl
def lay_X10_count (ad : Nat → Nat) (a1 : Int32) : Nat → List Int32 → List Int64 → Option (List (Nat × Value) × List Value) := fun P xs ys => match P, xs, ys with
  | _, _, _ => none
set_option maxHeartbeats 4000000 in
set_option maxRecDepth 100000 in
theorem w_X10_count_e {p : Program} {l : Launch} {e : Env} {s : State} {m : MethodId} {args : Array Value} {below : List Frame} {meth : Method} {c : Code} {dC : Nat → ClassId} {dI : Nat → Nat → Nat} {ad : Nat → Nat} {cA cZ : ClassId} (hi : Inj 81 ad) (a1 : Int32)  (C0 : Cx cX10_count RX10 wsX10_count 2 (some .int) p s m args meth c) (hK : KK dC dI cA cZ s) (Q : Int32 → St → Prop) (Y : Nat → List Int32 → List Int64 → St → Prop) (hY : ∀ P xs ys σ, Y P xs ys σ → XX p l e ({ frames := 3, cells := 0, slots := 0, locals := 67 } : Room) s m args below meth c (dC, dI) 81 ad (celC ad cA) 2 (ZI below args s (dC, dI) 81 ad (celC ad cA) Q) (lay_X10_count ad a1) P xs ys σ)  (s0 : St) (hv : B_X10_count_e a1 Q Y  s0) {H : Heap} {locs : List Loc} {ls : Array Slot} (hP : va_P (dC, dI) vwCl (wd 81 ad (celC ad cA) s0) H) (hS : va_S (AA 81 ad s.heap.size) s.heap H locs) (hl : lv_has ls 2 [(0, .ref (ad 0)), (1, .int a1)]) : W p l e ({ frames := 3, cells := 0, slots := 0, locals := 67 } : Room) s m args below meth c H locs 0 0 (ZI below args s (dC, dI) 81 ad (celC ad cA) Q) (F0 m 0 ls []) := by
  obtain ⟨hx, hb, hml, hown, hts, hr, hlocks⟩ := C0
  have hD := wd_D (s := s) (cel := celC ad cA) (σ := s0) hi
  unfold B_X10_count_e at hv
  refine lv_iload_n hx hb dX10_count_0 rfl (lv_at hl 1 rfl) ?_
  refine lv_iconst (v := 0) hx hb dX10_count_1 (by decide) ?_
  refine lv_bipush (v := 10) hx hb dX10_count_2 (by decide) ?_
  refine r_ci (va_runS (As := [.int a1, .int 0, .int 10]) (rest := []) ⟨hx, hb, hml, hown, hts⟩ (c_X10_within hi a1 0 10 s0 _ hv H.size) (va_cwS 3 hts gX10_count_X10_within rfl rfl rfl (by decide +kernel) ⟨Nat.le_of_ble_eq_true rfl, Nat.le_of_ble_eq_true rfl⟩) ⟨pre_blind, pre_of hP hK⟩ rfl rfl hl.1 rfl (lv_room (Nat.le_of_ble_eq_true rfl)) dX10_count_4 ⟨Nat.zero_le _, Nat.zero_le _⟩) hS (fun r1 s1 H locs hv hP hS => ?_)
  obtain ⟨hz_r1, hv⟩ := hv
  have hD := wd_D (s := s) (cel := celC ad cA) (σ := s1) hi
  refine lv_if_eq (tgt := 18) hx hb dX10_count_7 (by decide) (fun c7 => ?_) (fun c7 => ?_)
  · have hv := hv.1 c7
    refine lv_aload_n hx hb dX10_count_18 rfl (lv_at hl 0 rfl) ?_
    refine r_ci (va_runV (As := []) (rest := []) ⟨hx, hb, hml, hown, hts⟩ (c_X10_bad hi  s1 _ hv H.size) (cwV 0 hts gX10_count_X10_bad rfl rfl rfl (by decide +kernel) ⟨Nat.le_of_ble_eq_true rfl, Nat.le_of_ble_eq_true rfl⟩) ⟨pre_blind, r_recv hK.1 hP 0 (by decide) (ceGR_0 (s1 0)) rfl, pre_of hP hK⟩ rfl rfl hl.1 rfl (lv_room (Nat.le_of_ble_eq_true rfl)) dX10_count_19 ⟨Nat.zero_le _, Nat.zero_le _⟩) hS (fun r2 s2 H locs hv hP hS => ?_)
    have hD := wd_D (s := s) (cel := celC ad cA) (σ := s2) hi
    exact r_iret hx hb hr hlocks hv hP hS dX10_count_22
  · have hv := hv.2 c7
    refine lv_aload_n hx hb dX10_count_10 rfl (lv_at hl 0 rfl) ?_
    refine lv_iload_n hx hb dX10_count_11 rfl (lv_at hl 1 rfl) ?_
    refine r_ci (va_runV (As := [.int a1]) (rest := []) ⟨hx, hb, hml, hown, hts⟩ (c_X10_counted hi a1 s1 _ hv H.size) (cwV 1 hts gX10_count_X10_counted rfl rfl rfl (by decide +kernel) ⟨Nat.le_of_ble_eq_true rfl, Nat.le_of_ble_eq_true rfl⟩) ⟨pre_blind, r_recv hK.1 hP 0 (by decide) (ceGR_0 (s1 0)) rfl, pre_of hP hK⟩ rfl rfl hl.1 rfl (lv_room (Nat.le_of_ble_eq_true rfl)) dX10_count_12 ⟨Nat.zero_le _, Nat.zero_le _⟩) hS (fun r3 s3 H locs hv hP hS => ?_)
    have hD := wd_D (s := s) (cel := celC ad cA) (σ := s3) hi
    refine lv_goto (tgt := 22) hx hb dX10_count_15 (by decide) ?_
    exact r_iret hx hb hr hlocks hv hP hS dX10_count_22
set_option maxHeartbeats 4000000 in
theorem y_X10_count {p : Program} {l : Launch} {e : Env} {s : State} {m : MethodId} {args : Array Value} {below : List Frame} {meth : Method} {c : Code} {dC : Nat → ClassId} {dI : Nat → Nat → Nat} {ad : Nat → Nat} {cA cZ : ClassId} (hi : Inj 81 ad) (a1 : Int32)  (C0 : Cx cX10_count RX10 wsX10_count 2 (some .int) p s m args meth c) (hK : KK dC dI cA cZ s) (Q : Int32 → St → Prop) : ∀ P xs ys σ, R_X10_count a1 Q P xs ys σ → XX p l e ({ frames := 3, cells := 0, slots := 0, locals := 67 } : Room) s m args below meth c (dC, dI) 81 ad (celC ad cA) 2 (ZI below args s (dC, dI) 81 ad (celC ad cA) Q) (lay_X10_count ad a1) P xs ys σ := by
  refine Fx.elim _ (fun P xs ys σ Y hY hB => ?_)
  exact hB.elim
set_option maxHeartbeats 4000000 in
theorem c_X10_count {l : Launch} {dC : Nat → ClassId} {dI : Nat → Nat → Nat} {ad : Nat → Nat} {cA cZ : ClassId} (hi : Inj 81 ad) (a1 : Int32)  (s0 : St) (Q : Int32 → St → Prop) (hv : V_X10_count a1 s0 Q) (sz : Nat) : Met l yX10_count wsX10_count ({ frames := 3, cells := 0, slots := 0, locals := 67 } : Room) (va_Pc [.ref (ad 0), .int a1] (PW dC dI ad cA cZ 81 (celC ad cA) sz s0)) (va_Qi Q (fun u t => va_P (dC, dI) vwCl (wd 81 ad (celC ad cA) u) t.heap) (AA 81 ad sz)) 0 0 (AA 81 ad sz) := by
  refine Met.ofW (cc := cX10_count) (maxL := 2) (ret := (some .int)) (by decide) rfl ?_
  intro p e s m args below meth c s₁ B hml hv0
  obtain ⟨rfl, hsz, hP, hK⟩ := hv0
  subst hsz
  have C0 : Cx cX10_count RX10 wsX10_count 2 (some .int) p s m ([.ref (ad 0), .int a1] : List Value).toArray meth c := ⟨B.exec, B.bytes, hml, findClass_of_methodNamed B.named, atoms_spec (ws := wsX10_count) B.pre, B.returns, B.notSynchronized⟩
  have hl := lv_entry ([.ref (ad 0), .int a1]) (n := 2) (Nat.le_of_ble_eq_true rfl)
  rw [lg_entry_eq]
  generalize (lg_sl ([.ref (ad 0), .int a1]) ++ List.replicate (2 - (lg_sl ([.ref (ad 0), .int a1])).length) Slot.unset).toArray = ls at hl ⊢
  have hl : lv_has ls 2 [(0, .ref (ad 0)), (1, .int a1)] := hl
  exact w_X10_count_e hi a1  C0 hK Q (R_X10_count a1 Q) (y_X10_count hi a1  C0 hK Q)  s0 hv hP va_S.rf hl
def lay_X8_folded (ad : Nat → Nat) (h0 : Nat) (a1 : Int64) : Nat → List Int32 → List Int64 → Option (List (Nat × Value) × List Value) := fun P xs ys => match P, xs, ys with
  | 5, [x5], [y3] => some ([(0, .ref (ad h0)), (3, .long y3), (5, .int x5)], [])
  | 36, [x5], [y3] => some ([(0, .ref (ad h0)), (3, .long y3), (5, .int x5)], [])
  | 99, [x5], [y3] => some ([(0, .ref (ad h0)), (3, .long y3), (5, .int x5)], [])
  | _, _, _ => none
set_option maxHeartbeats 4000000 in
set_option maxRecDepth 100000 in
theorem w_X8_folded_e {p : Program} {l : Launch} {e : Env} {s : State} {m : MethodId} {args : Array Value} {below : List Frame} {meth : Method} {c : Code} {dC : Nat → ClassId} {dI : Nat → Nat → Nat} {ad : Nat → Nat} {cA cZ : ClassId} (hi : Inj 81 ad) (h0 : Nat) (a1 : Int64) (hh0 : isSt h0) (C0 : Cx cX8_folded RX8 wsX8_folded 6 (some .long) p s m args meth c) (hK : KK dC dI cA cZ s) (Q : Int64 → St → Prop) (Y : Nat → List Int32 → List Int64 → St → Prop) (hY : ∀ P xs ys σ, Y P xs ys σ → XX p l e ({ frames := 1, cells := 0, slots := 0, locals := 21 } : Room) s m args below meth c (dC, dI) 81 ad (celC ad cA) 6 (ZL below args s (dC, dI) 81 ad (celC ad cA) Q) (lay_X8_folded ad h0 a1) P xs ys σ)  (s0 : St) (hv : B_X8_folded_e h0 a1 Q Y  s0) {H : Heap} {locs : List Loc} {ls : Array Slot} (hP : va_P (dC, dI) vwCl (wd 81 ad (celC ad cA) s0) H) (hS : va_S (AA 81 ad s.heap.size) s.heap H locs) (hl : lv_has ls 6 [(0, .ref (ad h0)), (1, .long a1)]) : W p l e ({ frames := 1, cells := 0, slots := 0, locals := 21 } : Room) s m args below meth c H locs 0 0 (ZL below args s (dC, dI) 81 ad (celC ad cA) Q) (F0 m 0 ls []) := by
  obtain ⟨hx, hb, hml, hown, hts, hr, hlocks⟩ := C0
  have hD := wd_D (s := s) (cel := celC ad cA) (σ := s0) hi
  unfold B_X8_folded_e at hv
  refine lv_lload_n hx hb dX8_folded_0 rfl (lv_at hl 1 rfl) ?_
  refine lv_lstore_n (lv' := [(3, .long a1), (0, .ref (ad h0)), (1, .long a1)]) hx hb dX8_folded_1 rfl hl (by decide) rfl (fun ls hl => ?_)
  refine lv_iconst (v := 0) hx hb dX8_folded_2 (by decide) ?_
  refine lv_istore (lv' := [(5, .int 0), (3, .long a1), (0, .ref (ad h0)), (1, .long a1)]) hx hb dX8_folded_3 hl (by decide) rfl (fun ls hl => ?_)
  exact hY 5 [0] [a1] s0 hv _ _ rfl H locs ls hP hS (lv_sub hl [2, 1, 0] rfl)
set_option maxHeartbeats 4000000 in
set_option maxRecDepth 100000 in
theorem w_X8_folded_5 {p : Program} {l : Launch} {e : Env} {s : State} {m : MethodId} {args : Array Value} {below : List Frame} {meth : Method} {c : Code} {dC : Nat → ClassId} {dI : Nat → Nat → Nat} {ad : Nat → Nat} {cA cZ : ClassId} (hi : Inj 81 ad) (h0 : Nat) (a1 : Int64) (hh0 : isSt h0) (C0 : Cx cX8_folded RX8 wsX8_folded 6 (some .long) p s m args meth c) (hK : KK dC dI cA cZ s) (Q : Int64 → St → Prop) (Y : Nat → List Int32 → List Int64 → St → Prop) (hY : ∀ P xs ys σ, Y P xs ys σ → XX p l e ({ frames := 1, cells := 0, slots := 0, locals := 21 } : Room) s m args below meth c (dC, dI) 81 ad (celC ad cA) 6 (ZL below args s (dC, dI) 81 ad (celC ad cA) Q) (lay_X8_folded ad h0 a1) P xs ys σ) (x5 : Int32) (y3 : Int64) (s0 : St) (hv : B_X8_folded_5 h0 a1 Q Y x5 y3 s0) {H : Heap} {locs : List Loc} {ls : Array Slot} (hP : va_P (dC, dI) vwCl (wd 81 ad (celC ad cA) s0) H) (hS : va_S (AA 81 ad s.heap.size) s.heap H locs) (hl : lv_has ls 6 [(0, .ref (ad h0)), (3, .long y3), (5, .int x5)]) : W p l e ({ frames := 1, cells := 0, slots := 0, locals := 21 } : Room) s m args below meth c H locs 0 0 (ZL below args s (dC, dI) 81 ad (celC ad cA) Q) (F0 m 5 ls []) := by
  obtain ⟨hx, hb, hml, hown, hts, hr, hlocks⟩ := C0
  have hD := wd_D (s := s) (cel := celC ad cA) (σ := s0) hi
  unfold B_X8_folded_5 at hv
  refine lv_iload hx hb dX8_folded_5 (lv_at hl 2 rfl) ?_
  refine lv_bipush (v := 6) hx hb dX8_folded_7 (by decide) ?_
  refine lv_icmp_ge (tgt := 33) hx hb dX8_folded_9 (by decide) (fun c9 => ?_) (fun c9 => ?_)
  · have hv := hv.1 c9
    refine lv_iconst (v := 0) hx hb dX8_folded_33 (by decide) ?_
    refine lv_istore (lv' := [(5, .int 0), (0, .ref (ad h0)), (3, .long y3)]) hx hb dX8_folded_34 hl (by decide) rfl (fun ls hl => ?_)
    exact hY 36 [0] [y3] s0 hv _ _ rfl H locs ls hP hS (lv_sub hl [1, 2, 0] rfl)
  · have hv := hv.2 c9
    refine lv_ldc2 (v := 31) hx hb hown (hts _ kX8_folded_1) dX8_folded_12 ?_
    refine lv_lload_n hx hb dX8_folded_15 rfl (lv_at hl 1 rfl) ?_
    refine lv_lmul hx hb dX8_folded_16 ?_
    refine lv_aload_n hx hb dX8_folded_17 rfl (lv_at hl 0 rfl) ?_
    refine r_get hx hb hts (iwX8_folded_X8) hown hK.1 hP h0 (ltSt_0 hh0) (ceSt_0 hh0 (s0 h0)) rfl 0 (by decide) (hts _ kX8_folded_2) (v := .ref (ad (h0 + 1))) rfl dX8_folded_18 ?_
    refine lv_iload hx hb dX8_folded_21 (lv_at hl 2 rfl) ?_
    obtain ⟨hin, hv⟩ := hv
    refine r_iald hx hb hK.1 hP (h0 + 1) (ltSt_1 hh0) (ceSt_1 hh0 (s0 (h0 + 1))) hin dX8_folded_23 ?_
    refine lv_i2l (v := (s0 (h0 + 1) x5.toNatClampNeg).toInt64) hx hb dX8_folded_24 rfl ?_
    refine lv_ladd hx hb dX8_folded_25 ?_
    refine lv_topl (fun v1 ev1 => ?_)
    have hv := hv v1 ev1
    refine lv_lstore_n (lv' := [(3, .long v1), (0, .ref (ad h0)), (5, .int x5)]) hx hb dX8_folded_26 rfl hl (by decide) rfl (fun ls hl => ?_)
    refine lv_iinc (v := x5 + 1) (lv' := [(5, .int (x5 + 1)), (3, .long v1), (0, .ref (ad h0))]) hx hb dX8_folded_27 hl (k := 2) rfl rfl (by decide) rfl (fun ls hl => ?_)
    refine lv_goto (tgt := 5) hx hb dX8_folded_30 (by decide) ?_
    exact hY 5 [x5 + 1] [v1] s0 hv _ _ rfl H locs ls hP hS (lv_sub hl [2, 1, 0] rfl)
set_option maxHeartbeats 4000000 in
set_option maxRecDepth 100000 in
theorem w_X8_folded_36 {p : Program} {l : Launch} {e : Env} {s : State} {m : MethodId} {args : Array Value} {below : List Frame} {meth : Method} {c : Code} {dC : Nat → ClassId} {dI : Nat → Nat → Nat} {ad : Nat → Nat} {cA cZ : ClassId} (hi : Inj 81 ad) (h0 : Nat) (a1 : Int64) (hh0 : isSt h0) (C0 : Cx cX8_folded RX8 wsX8_folded 6 (some .long) p s m args meth c) (hK : KK dC dI cA cZ s) (Q : Int64 → St → Prop) (Y : Nat → List Int32 → List Int64 → St → Prop) (hY : ∀ P xs ys σ, Y P xs ys σ → XX p l e ({ frames := 1, cells := 0, slots := 0, locals := 21 } : Room) s m args below meth c (dC, dI) 81 ad (celC ad cA) 6 (ZL below args s (dC, dI) 81 ad (celC ad cA) Q) (lay_X8_folded ad h0 a1) P xs ys σ) (x5 : Int32) (y3 : Int64) (s0 : St) (hv : B_X8_folded_36 h0 a1 Q Y x5 y3 s0) {H : Heap} {locs : List Loc} {ls : Array Slot} (hP : va_P (dC, dI) vwCl (wd 81 ad (celC ad cA) s0) H) (hS : va_S (AA 81 ad s.heap.size) s.heap H locs) (hl : lv_has ls 6 [(0, .ref (ad h0)), (3, .long y3), (5, .int x5)]) : W p l e ({ frames := 1, cells := 0, slots := 0, locals := 21 } : Room) s m args below meth c H locs 0 0 (ZL below args s (dC, dI) 81 ad (celC ad cA) Q) (F0 m 36 ls []) := by
  obtain ⟨hx, hb, hml, hown, hts, hr, hlocks⟩ := C0
  have hD := wd_D (s := s) (cel := celC ad cA) (σ := s0) hi
  unfold B_X8_folded_36 at hv
  refine lv_iload hx hb dX8_folded_36 (lv_at hl 2 rfl) ?_
  refine lv_aload_n hx hb dX8_folded_38 rfl (lv_at hl 0 rfl) ?_
  refine r_get hx hb hts (iwX8_folded_X8) hown hK.1 hP h0 (ltSt_0 hh0) (ceSt_0 hh0 (s0 h0)) rfl 8 (by decide) (hts _ kX8_folded_3) (v := .int (s0 h0 8)) rfl dX8_folded_39 ?_
  refine lv_icmp_ge (tgt := 96) hx hb dX8_folded_42 (by decide) (fun c42 => ?_) (fun c42 => ?_)
  · have hv := hv.1 c42
    refine lv_iconst (v := 0) hx hb dX8_folded_96 (by decide) ?_
    refine lv_istore (lv' := [(5, .int 0), (0, .ref (ad h0)), (3, .long y3)]) hx hb dX8_folded_97 hl (by decide) rfl (fun ls hl => ?_)
    exact hY 99 [0] [y3] s0 hv _ _ rfl H locs ls hP hS (lv_sub hl [1, 2, 0] rfl)
  · have hv := hv.2 c42
    refine lv_ldc2 (v := 31) hx hb hown (hts _ kX8_folded_1) dX8_folded_45 ?_
    refine lv_lload_n hx hb dX8_folded_48 rfl (lv_at hl 1 rfl) ?_
    refine lv_lmul hx hb dX8_folded_49 ?_
    refine lv_aload_n hx hb dX8_folded_50 rfl (lv_at hl 0 rfl) ?_
    refine r_get hx hb hts (iwX8_folded_X8) hown hK.1 hP h0 (ltSt_0 hh0) (ceSt_0 hh0 (s0 h0)) rfl 1 (by decide) (hts _ kX8_folded_4) (v := .ref (ad (h0 + 2))) rfl dX8_folded_51 ?_
    refine lv_iload hx hb dX8_folded_54 (lv_at hl 2 rfl) ?_
    obtain ⟨hin, hv⟩ := hv
    refine r_iald hx hb hK.1 hP (h0 + 2) (ltSt_2 hh0) (ceSt_2 hh0 (s0 (h0 + 2))) hin dX8_folded_56 ?_
    refine lv_i2l (v := (s0 (h0 + 2) x5.toNatClampNeg).toInt64) hx hb dX8_folded_57 rfl ?_
    refine lv_ladd hx hb dX8_folded_58 ?_
    refine lv_topl (fun v1 ev1 => ?_)
    have hv := hv v1 ev1
    refine lv_lstore_n (lv' := [(3, .long v1), (0, .ref (ad h0)), (5, .int x5)]) hx hb dX8_folded_59 rfl hl (by decide) rfl (fun ls hl => ?_)
    refine lv_ldc2 (v := 31) hx hb hown (hts _ kX8_folded_1) dX8_folded_60 ?_
    refine lv_lload_n hx hb dX8_folded_63 rfl (lv_at hl 0 rfl) ?_
    refine lv_lmul hx hb dX8_folded_64 ?_
    refine lv_aload_n hx hb dX8_folded_65 rfl (lv_at hl 1 rfl) ?_
    refine r_get hx hb hts (iwX8_folded_X8) hown hK.1 hP h0 (ltSt_0 hh0) (ceSt_0 hh0 (s0 h0)) rfl 2 (by decide) (hts _ kX8_folded_5) (v := .ref (ad (h0 + 3))) rfl dX8_folded_66 ?_
    refine lv_iload hx hb dX8_folded_69 (lv_at hl 2 rfl) ?_
    obtain ⟨hin, hv⟩ := hv
    refine r_iald hx hb hK.1 hP (h0 + 3) (ltSt_3 hh0) (ceSt_3 hh0 (s0 (h0 + 3))) hin dX8_folded_71 ?_
    refine lv_i2l (v := (s0 (h0 + 3) x5.toNatClampNeg).toInt64) hx hb dX8_folded_72 rfl ?_
    refine lv_ladd hx hb dX8_folded_73 ?_
    refine lv_topl (fun v2 ev2 => ?_)
    have hv := hv v2 ev2
    refine lv_lstore_n (lv' := [(3, .long v2), (0, .ref (ad h0)), (5, .int x5)]) hx hb dX8_folded_74 rfl hl (by decide) rfl (fun ls hl => ?_)
    refine lv_ldc2 (v := 31) hx hb hown (hts _ kX8_folded_1) dX8_folded_75 ?_
    refine lv_lload_n hx hb dX8_folded_78 rfl (lv_at hl 0 rfl) ?_
    refine lv_lmul hx hb dX8_folded_79 ?_
    refine lv_aload_n hx hb dX8_folded_80 rfl (lv_at hl 1 rfl) ?_
    refine r_get hx hb hts (iwX8_folded_X8) hown hK.1 hP h0 (ltSt_0 hh0) (ceSt_0 hh0 (s0 h0)) rfl 3 (by decide) (hts _ kX8_folded_6) (v := .ref (ad (h0 + 4))) rfl dX8_folded_81 ?_
    refine lv_iload hx hb dX8_folded_84 (lv_at hl 2 rfl) ?_
    obtain ⟨hin, hv⟩ := hv
    refine r_iald hx hb hK.1 hP (h0 + 4) (ltSt_4 hh0) (ceSt_4 hh0 (s0 (h0 + 4))) hin dX8_folded_86 ?_
    refine lv_i2l (v := (s0 (h0 + 4) x5.toNatClampNeg).toInt64) hx hb dX8_folded_87 rfl ?_
    refine lv_ladd hx hb dX8_folded_88 ?_
    refine lv_topl (fun v3 ev3 => ?_)
    have hv := hv v3 ev3
    refine lv_lstore_n (lv' := [(3, .long v3), (0, .ref (ad h0)), (5, .int x5)]) hx hb dX8_folded_89 rfl hl (by decide) rfl (fun ls hl => ?_)
    refine lv_iinc (v := x5 + 1) (lv' := [(5, .int (x5 + 1)), (3, .long v3), (0, .ref (ad h0))]) hx hb dX8_folded_90 hl (k := 2) rfl rfl (by decide) rfl (fun ls hl => ?_)
    refine lv_goto (tgt := 36) hx hb dX8_folded_93 (by decide) ?_
    exact hY 36 [x5 + 1] [v3] s0 hv _ _ rfl H locs ls hP hS (lv_sub hl [2, 1, 0] rfl)
set_option maxHeartbeats 4000000 in
set_option maxRecDepth 100000 in
theorem w_X8_folded_99 {p : Program} {l : Launch} {e : Env} {s : State} {m : MethodId} {args : Array Value} {below : List Frame} {meth : Method} {c : Code} {dC : Nat → ClassId} {dI : Nat → Nat → Nat} {ad : Nat → Nat} {cA cZ : ClassId} (hi : Inj 81 ad) (h0 : Nat) (a1 : Int64) (hh0 : isSt h0) (C0 : Cx cX8_folded RX8 wsX8_folded 6 (some .long) p s m args meth c) (hK : KK dC dI cA cZ s) (Q : Int64 → St → Prop) (Y : Nat → List Int32 → List Int64 → St → Prop) (hY : ∀ P xs ys σ, Y P xs ys σ → XX p l e ({ frames := 1, cells := 0, slots := 0, locals := 21 } : Room) s m args below meth c (dC, dI) 81 ad (celC ad cA) 6 (ZL below args s (dC, dI) 81 ad (celC ad cA) Q) (lay_X8_folded ad h0 a1) P xs ys σ) (x5 : Int32) (y3 : Int64) (s0 : St) (hv : B_X8_folded_99 h0 a1 Q Y x5 y3 s0) {H : Heap} {locs : List Loc} {ls : Array Slot} (hP : va_P (dC, dI) vwCl (wd 81 ad (celC ad cA) s0) H) (hS : va_S (AA 81 ad s.heap.size) s.heap H locs) (hl : lv_has ls 6 [(0, .ref (ad h0)), (3, .long y3), (5, .int x5)]) : W p l e ({ frames := 1, cells := 0, slots := 0, locals := 21 } : Room) s m args below meth c H locs 0 0 (ZL below args s (dC, dI) 81 ad (celC ad cA) Q) (F0 m 99 ls []) := by
  obtain ⟨hx, hb, hml, hown, hts, hr, hlocks⟩ := C0
  have hD := wd_D (s := s) (cel := celC ad cA) (σ := s0) hi
  unfold B_X8_folded_99 at hv
  refine lv_iload hx hb dX8_folded_99 (lv_at hl 2 rfl) ?_
  refine lv_aload_n hx hb dX8_folded_101 rfl (lv_at hl 0 rfl) ?_
  refine r_get hx hb hts (iwX8_folded_X8) hown hK.1 hP h0 (ltSt_0 hh0) (ceSt_0 hh0 (s0 h0)) rfl 9 (by decide) (hts _ kX8_folded_7) (v := .int (s0 h0 9)) rfl dX8_folded_102 ?_
  refine lv_icmp_ge (tgt := 158) hx hb dX8_folded_105 (by decide) (fun c105 => ?_) (fun c105 => ?_)
  · have hv := hv.1 c105
    refine lv_lload_n hx hb dX8_folded_158 rfl (lv_at hl 1 rfl) ?_
    exact r_lret hx hb hr hlocks hv hP hS dX8_folded_159
  · have hv := hv.2 c105
    refine lv_ldc2 (v := 31) hx hb hown (hts _ kX8_folded_1) dX8_folded_108 ?_
    refine lv_lload_n hx hb dX8_folded_111 rfl (lv_at hl 1 rfl) ?_
    refine lv_lmul hx hb dX8_folded_112 ?_
    refine lv_aload_n hx hb dX8_folded_113 rfl (lv_at hl 0 rfl) ?_
    refine r_get hx hb hts (iwX8_folded_X8) hown hK.1 hP h0 (ltSt_0 hh0) (ceSt_0 hh0 (s0 h0)) rfl 4 (by decide) (hts _ kX8_folded_8) (v := .ref (ad (h0 + 5))) rfl dX8_folded_114 ?_
    refine lv_iload hx hb dX8_folded_117 (lv_at hl 2 rfl) ?_
    obtain ⟨hin, hv⟩ := hv
    refine r_iald hx hb hK.1 hP (h0 + 5) (ltSt_5 hh0) (ceSt_5 hh0 (s0 (h0 + 5))) hin dX8_folded_119 ?_
    refine lv_i2l (v := (s0 (h0 + 5) x5.toNatClampNeg).toInt64) hx hb dX8_folded_120 rfl ?_
    refine lv_ladd hx hb dX8_folded_121 ?_
    refine lv_topl (fun v1 ev1 => ?_)
    have hv := hv v1 ev1
    refine lv_lstore_n (lv' := [(3, .long v1), (0, .ref (ad h0)), (5, .int x5)]) hx hb dX8_folded_122 rfl hl (by decide) rfl (fun ls hl => ?_)
    refine lv_ldc2 (v := 31) hx hb hown (hts _ kX8_folded_1) dX8_folded_123 ?_
    refine lv_lload_n hx hb dX8_folded_126 rfl (lv_at hl 0 rfl) ?_
    refine lv_lmul hx hb dX8_folded_127 ?_
    refine lv_aload_n hx hb dX8_folded_128 rfl (lv_at hl 1 rfl) ?_
    refine r_get hx hb hts (iwX8_folded_X8) hown hK.1 hP h0 (ltSt_0 hh0) (ceSt_0 hh0 (s0 h0)) rfl 5 (by decide) (hts _ kX8_folded_9) (v := .ref (ad (h0 + 6))) rfl dX8_folded_129 ?_
    refine lv_iload hx hb dX8_folded_132 (lv_at hl 2 rfl) ?_
    obtain ⟨hin, hv⟩ := hv
    refine r_iald hx hb hK.1 hP (h0 + 6) (ltSt_6 hh0) (ceSt_6 hh0 (s0 (h0 + 6))) hin dX8_folded_134 ?_
    refine lv_i2l (v := (s0 (h0 + 6) x5.toNatClampNeg).toInt64) hx hb dX8_folded_135 rfl ?_
    refine lv_ladd hx hb dX8_folded_136 ?_
    refine lv_topl (fun v2 ev2 => ?_)
    have hv := hv v2 ev2
    refine lv_lstore_n (lv' := [(3, .long v2), (0, .ref (ad h0)), (5, .int x5)]) hx hb dX8_folded_137 rfl hl (by decide) rfl (fun ls hl => ?_)
    refine lv_ldc2 (v := 31) hx hb hown (hts _ kX8_folded_1) dX8_folded_138 ?_
    refine lv_lload_n hx hb dX8_folded_141 rfl (lv_at hl 0 rfl) ?_
    refine lv_lmul hx hb dX8_folded_142 ?_
    refine lv_aload_n hx hb dX8_folded_143 rfl (lv_at hl 1 rfl) ?_
    refine lv_iload hx hb dX8_folded_144 (lv_at hl 2 rfl) ?_
    refine r_ci (va_runV (As := [.int x5]) (rest := [.long (31 * v2)]) ⟨hx, hb, hml, hown, hts⟩ (c_X8_shutBit hi h0 x5 hh0 s0 _ hv H.size) (cwV 1 hts gX8_folded_X8_shutBit rfl rfl rfl (by decide +kernel) ⟨Nat.le_of_ble_eq_true rfl, Nat.le_of_ble_eq_true rfl⟩) ⟨pre_blind, r_recv hK.1 hP h0 (ltSt_0 hh0) (ceSt_0 hh0 (s0 h0)) rfl, pre_of hP hK⟩ rfl rfl hl.1 rfl (lv_room (Nat.le_of_ble_eq_true rfl)) dX8_folded_146 ⟨Nat.zero_le _, Nat.zero_le _⟩) hS (fun r3 s3 H locs hv hP hS => ?_)
    have hD := wd_D (s := s) (cel := celC ad cA) (σ := s3) hi
    refine lv_i2l (v := r3.toInt64) hx hb dX8_folded_149 rfl ?_
    refine lv_ladd hx hb dX8_folded_150 ?_
    refine lv_lstore_n (lv' := [(3, .long ((31 * v2) + r3.toInt64)), (0, .ref (ad h0)), (5, .int x5)]) hx hb dX8_folded_151 rfl hl (by decide) rfl (fun ls hl => ?_)
    refine lv_iinc (v := x5 + 1) (lv' := [(5, .int (x5 + 1)), (3, .long ((31 * v2) + r3.toInt64)), (0, .ref (ad h0))]) hx hb dX8_folded_152 hl (k := 2) rfl rfl (by decide) rfl (fun ls hl => ?_)
    refine lv_goto (tgt := 99) hx hb dX8_folded_155 (by decide) ?_
    exact hY 99 [x5 + 1] [(31 * v2) + r3.toInt64] s3 hv _ _ rfl H locs ls hP hS (lv_sub hl [2, 1, 0] rfl)
set_option maxHeartbeats 4000000 in
theorem y_X8_folded {p : Program} {l : Launch} {e : Env} {s : State} {m : MethodId} {args : Array Value} {below : List Frame} {meth : Method} {c : Code} {dC : Nat → ClassId} {dI : Nat → Nat → Nat} {ad : Nat → Nat} {cA cZ : ClassId} (hi : Inj 81 ad) (h0 : Nat) (a1 : Int64) (hh0 : isSt h0) (C0 : Cx cX8_folded RX8 wsX8_folded 6 (some .long) p s m args meth c) (hK : KK dC dI cA cZ s) (Q : Int64 → St → Prop) : ∀ P xs ys σ, R_X8_folded h0 a1 Q P xs ys σ → XX p l e ({ frames := 1, cells := 0, slots := 0, locals := 21 } : Room) s m args below meth c (dC, dI) 81 ad (celC ad cA) 6 (ZL below args s (dC, dI) 81 ad (celC ad cA) Q) (lay_X8_folded ad h0 a1) P xs ys σ := by
  refine Fx.elim _ (fun P xs ys σ Y hY hB => ?_)
  rcases hB with ⟨rfl, x5, y3, rfl, rfl, hB⟩ | ⟨rfl, x5, y3, rfl, rfl, hB⟩ | ⟨rfl, x5, y3, rfl, rfl, hB⟩
  · intro lv st he H locs ls hP hS hl
    cases he
    exact w_X8_folded_5 hi h0 a1 hh0 C0 hK Q Y hY x5 y3 σ hB hP hS hl
  · intro lv st he H locs ls hP hS hl
    cases he
    exact w_X8_folded_36 hi h0 a1 hh0 C0 hK Q Y hY x5 y3 σ hB hP hS hl
  · intro lv st he H locs ls hP hS hl
    cases he
    exact w_X8_folded_99 hi h0 a1 hh0 C0 hK Q Y hY x5 y3 σ hB hP hS hl
set_option maxHeartbeats 4000000 in
theorem c_X8_folded {l : Launch} {dC : Nat → ClassId} {dI : Nat → Nat → Nat} {ad : Nat → Nat} {cA cZ : ClassId} (hi : Inj 81 ad) (h0 : Nat) (a1 : Int64) (hh0 : isSt h0) (s0 : St) (Q : Int64 → St → Prop) (hv : V_X8_folded h0 a1 s0 Q) (sz : Nat) : Met l yX8_folded wsX8_folded ({ frames := 1, cells := 0, slots := 0, locals := 21 } : Room) (va_Pc [.ref (ad h0), .long a1] (PW dC dI ad cA cZ 81 (celC ad cA) sz s0)) (va_Ql Q (fun u t => va_P (dC, dI) vwCl (wd 81 ad (celC ad cA) u) t.heap) (AA 81 ad sz)) 0 0 (AA 81 ad sz) := by
  refine Met.ofW (cc := cX8_folded) (maxL := 6) (ret := (some .long)) (by decide) rfl ?_
  intro p e s m args below meth c s₁ B hml hv0
  obtain ⟨rfl, hsz, hP, hK⟩ := hv0
  subst hsz
  have C0 : Cx cX8_folded RX8 wsX8_folded 6 (some .long) p s m ([.ref (ad h0), .long a1] : List Value).toArray meth c := ⟨B.exec, B.bytes, hml, findClass_of_methodNamed B.named, atoms_spec (ws := wsX8_folded) B.pre, B.returns, B.notSynchronized⟩
  have hl := lv_entry ([.ref (ad h0), .long a1]) (n := 6) (Nat.le_of_ble_eq_true rfl)
  rw [lg_entry_eq]
  generalize (lg_sl ([.ref (ad h0), .long a1]) ++ List.replicate (6 - (lg_sl ([.ref (ad h0), .long a1])).length) Slot.unset).toArray = ls at hl ⊢
  have hl : lv_has ls 6 [(0, .ref (ad h0)), (1, .long a1)] := hl
  exact w_X8_folded_e hi h0 a1 hh0 C0 hK Q (R_X8_folded h0 a1 Q) (y_X8_folded hi h0 a1 hh0 C0 hK Q)  s0 hv hP va_S.rf hl
def lay_X6_folded (ad : Nat → Nat) (h0 : Nat) (a1 : Int64) : Nat → List Int32 → List Int64 → Option (List (Nat × Value) × List Value) := fun P xs ys => match P, xs, ys with
  | 5, [x5], [y3] => some ([(0, .ref (ad h0)), (3, .long y3), (5, .int x5)], [])
  | 17, [x5, x6], [y3] => some ([(0, .ref (ad h0)), (3, .long y3), (5, .int x5), (6, .int x6)], [])
  | _, _, _ => none
set_option maxHeartbeats 4000000 in
set_option maxRecDepth 100000 in
theorem w_X6_folded_e {p : Program} {l : Launch} {e : Env} {s : State} {m : MethodId} {args : Array Value} {below : List Frame} {meth : Method} {c : Code} {dC : Nat → ClassId} {dI : Nat → Nat → Nat} {ad : Nat → Nat} {cA cZ : ClassId} (hi : Inj 81 ad) (h0 : Nat) (a1 : Int64) (hh0 : isRo h0) (C0 : Cx cX6_folded RX6 wsX6_folded 7 (some .long) p s m args meth c) (hK : KK dC dI cA cZ s) (Q : Int64 → St → Prop) (Y : Nat → List Int32 → List Int64 → St → Prop) (hY : ∀ P xs ys σ, Y P xs ys σ → XX p l e ({ frames := 1, cells := 0, slots := 0, locals := 22 } : Room) s m args below meth c (dC, dI) 81 ad (celC ad cA) 7 (ZL below args s (dC, dI) 81 ad (celC ad cA) Q) (lay_X6_folded ad h0 a1) P xs ys σ)  (s0 : St) (hv : B_X6_folded_e h0 a1 Q Y  s0) {H : Heap} {locs : List Loc} {ls : Array Slot} (hP : va_P (dC, dI) vwCl (wd 81 ad (celC ad cA) s0) H) (hS : va_S (AA 81 ad s.heap.size) s.heap H locs) (hl : lv_has ls 7 [(0, .ref (ad h0)), (1, .long a1)]) : W p l e ({ frames := 1, cells := 0, slots := 0, locals := 22 } : Room) s m args below meth c H locs 0 0 (ZL below args s (dC, dI) 81 ad (celC ad cA) Q) (F0 m 0 ls []) := by
  obtain ⟨hx, hb, hml, hown, hts, hr, hlocks⟩ := C0
  have hD := wd_D (s := s) (cel := celC ad cA) (σ := s0) hi
  unfold B_X6_folded_e at hv
  refine lv_lload_n hx hb dX6_folded_0 rfl (lv_at hl 1 rfl) ?_
  refine lv_lstore_n (lv' := [(3, .long a1), (0, .ref (ad h0)), (1, .long a1)]) hx hb dX6_folded_1 rfl hl (by decide) rfl (fun ls hl => ?_)
  refine lv_iconst (v := 0) hx hb dX6_folded_2 (by decide) ?_
  refine lv_istore (lv' := [(5, .int 0), (3, .long a1), (0, .ref (ad h0)), (1, .long a1)]) hx hb dX6_folded_3 hl (by decide) rfl (fun ls hl => ?_)
  exact hY 5 [0] [a1] s0 hv _ _ rfl H locs ls hP hS (lv_sub hl [2, 1, 0] rfl)
set_option maxHeartbeats 4000000 in
set_option maxRecDepth 100000 in
theorem w_X6_folded_5 {p : Program} {l : Launch} {e : Env} {s : State} {m : MethodId} {args : Array Value} {below : List Frame} {meth : Method} {c : Code} {dC : Nat → ClassId} {dI : Nat → Nat → Nat} {ad : Nat → Nat} {cA cZ : ClassId} (hi : Inj 81 ad) (h0 : Nat) (a1 : Int64) (hh0 : isRo h0) (C0 : Cx cX6_folded RX6 wsX6_folded 7 (some .long) p s m args meth c) (hK : KK dC dI cA cZ s) (Q : Int64 → St → Prop) (Y : Nat → List Int32 → List Int64 → St → Prop) (hY : ∀ P xs ys σ, Y P xs ys σ → XX p l e ({ frames := 1, cells := 0, slots := 0, locals := 22 } : Room) s m args below meth c (dC, dI) 81 ad (celC ad cA) 7 (ZL below args s (dC, dI) 81 ad (celC ad cA) Q) (lay_X6_folded ad h0 a1) P xs ys σ) (x5 : Int32) (y3 : Int64) (s0 : St) (hv : B_X6_folded_5 h0 a1 Q Y x5 y3 s0) {H : Heap} {locs : List Loc} {ls : Array Slot} (hP : va_P (dC, dI) vwCl (wd 81 ad (celC ad cA) s0) H) (hS : va_S (AA 81 ad s.heap.size) s.heap H locs) (hl : lv_has ls 7 [(0, .ref (ad h0)), (3, .long y3), (5, .int x5)]) : W p l e ({ frames := 1, cells := 0, slots := 0, locals := 22 } : Room) s m args below meth c H locs 0 0 (ZL below args s (dC, dI) 81 ad (celC ad cA) Q) (F0 m 5 ls []) := by
  obtain ⟨hx, hb, hml, hown, hts, hr, hlocks⟩ := C0
  have hD := wd_D (s := s) (cel := celC ad cA) (σ := s0) hi
  unfold B_X6_folded_5 at hv
  refine lv_iload hx hb dX6_folded_5 (lv_at hl 2 rfl) ?_
  refine lv_aload_n hx hb dX6_folded_7 rfl (lv_at hl 0 rfl) ?_
  refine r_get hx hb hts (iwX6_folded_X6) hown hK.1 hP h0 (ltRo_0 hh0) (ceRo_0 hh0 (s0 h0)) rfl 3 (by decide) (hts _ kX6_folded_1) (v := .int (s0 h0 3)) rfl dX6_folded_8 ?_
  refine lv_icmp_ge (tgt := 54) hx hb dX6_folded_11 (by decide) (fun c11 => ?_) (fun c11 => ?_)
  · have hv := hv.1 c11
    refine lv_lload_n hx hb dX6_folded_54 rfl (lv_at hl 1 rfl) ?_
    exact r_lret hx hb hr hlocks hv hP hS dX6_folded_55
  · have hv := hv.2 c11
    refine lv_iconst (v := 0) hx hb dX6_folded_14 (by decide) ?_
    refine lv_istore (lv' := [(6, .int 0), (0, .ref (ad h0)), (3, .long y3), (5, .int x5)]) hx hb dX6_folded_15 hl (by decide) rfl (fun ls hl => ?_)
    exact hY 17 [x5, 0] [y3] s0 hv _ _ rfl H locs ls hP hS (lv_sub hl [1, 2, 3, 0] rfl)
set_option maxHeartbeats 4000000 in
set_option maxRecDepth 100000 in
theorem w_X6_folded_17 {p : Program} {l : Launch} {e : Env} {s : State} {m : MethodId} {args : Array Value} {below : List Frame} {meth : Method} {c : Code} {dC : Nat → ClassId} {dI : Nat → Nat → Nat} {ad : Nat → Nat} {cA cZ : ClassId} (hi : Inj 81 ad) (h0 : Nat) (a1 : Int64) (hh0 : isRo h0) (C0 : Cx cX6_folded RX6 wsX6_folded 7 (some .long) p s m args meth c) (hK : KK dC dI cA cZ s) (Q : Int64 → St → Prop) (Y : Nat → List Int32 → List Int64 → St → Prop) (hY : ∀ P xs ys σ, Y P xs ys σ → XX p l e ({ frames := 1, cells := 0, slots := 0, locals := 22 } : Room) s m args below meth c (dC, dI) 81 ad (celC ad cA) 7 (ZL below args s (dC, dI) 81 ad (celC ad cA) Q) (lay_X6_folded ad h0 a1) P xs ys σ) (x5 : Int32) (x6 : Int32) (y3 : Int64) (s0 : St) (hv : B_X6_folded_17 h0 a1 Q Y x5 x6 y3 s0) {H : Heap} {locs : List Loc} {ls : Array Slot} (hP : va_P (dC, dI) vwCl (wd 81 ad (celC ad cA) s0) H) (hS : va_S (AA 81 ad s.heap.size) s.heap H locs) (hl : lv_has ls 7 [(0, .ref (ad h0)), (3, .long y3), (5, .int x5), (6, .int x6)]) : W p l e ({ frames := 1, cells := 0, slots := 0, locals := 22 } : Room) s m args below meth c H locs 0 0 (ZL below args s (dC, dI) 81 ad (celC ad cA) Q) (F0 m 17 ls []) := by
  obtain ⟨hx, hb, hml, hown, hts, hr, hlocks⟩ := C0
  have hD := wd_D (s := s) (cel := celC ad cA) (σ := s0) hi
  unfold B_X6_folded_17 at hv
  refine lv_iload hx hb dX6_folded_17 (lv_at hl 3 rfl) ?_
  refine lv_aload_n hx hb dX6_folded_19 rfl (lv_at hl 0 rfl) ?_
  refine r_get hx hb hts (iwX6_folded_X6) hown hK.1 hP h0 (ltRo_0 hh0) (ceRo_0 hh0 (s0 h0)) rfl 2 (by decide) (hts _ kX6_folded_2) (v := .int (s0 h0 2)) rfl dX6_folded_20 ?_
  refine lv_icmp_ge (tgt := 48) hx hb dX6_folded_23 (by decide) (fun c23 => ?_) (fun c23 => ?_)
  · have hv := hv.1 c23
    refine lv_iinc (v := x5 + 1) (lv' := [(5, .int (x5 + 1)), (0, .ref (ad h0)), (3, .long y3), (6, .int x6)]) hx hb dX6_folded_48 hl (k := 2) rfl rfl (by decide) rfl (fun ls hl => ?_)
    refine lv_goto (tgt := 5) hx hb dX6_folded_51 (by decide) ?_
    exact hY 5 [x5 + 1] [y3] s0 hv _ _ rfl H locs ls hP hS (lv_sub hl [1, 2, 0] rfl)
  · have hv := hv.2 c23
    refine lv_ldc2 (v := 31) hx hb hown (hts _ kX6_folded_3) dX6_folded_26 ?_
    refine lv_lload_n hx hb dX6_folded_29 rfl (lv_at hl 1 rfl) ?_
    refine lv_lmul hx hb dX6_folded_30 ?_
    refine lv_aload_n hx hb dX6_folded_31 rfl (lv_at hl 0 rfl) ?_
    refine lv_iload hx hb dX6_folded_32 (lv_at hl 2 rfl) ?_
    refine lv_iload hx hb dX6_folded_34 (lv_at hl 3 rfl) ?_
    refine r_ci (va_runV (As := [.int x5, .int x6]) (rest := [.long (31 * y3)]) ⟨hx, hb, hml, hown, hts⟩ (c_X6_cell hi h0 x5 x6 hh0 s0 _ hv H.size) (cwV 2 hts gX6_folded_X6_cell rfl rfl rfl (by decide +kernel) ⟨Nat.le_of_ble_eq_true rfl, Nat.le_of_ble_eq_true rfl⟩) ⟨pre_blind, r_recv hK.1 hP h0 (ltRo_0 hh0) (ceRo_0 hh0 (s0 h0)) rfl, pre_of hP hK⟩ rfl rfl hl.1 rfl (lv_room (Nat.le_of_ble_eq_true rfl)) dX6_folded_36 ⟨Nat.zero_le _, Nat.zero_le _⟩) hS (fun r1 s1 H locs hv hP hS => ?_)
    have hD := wd_D (s := s) (cel := celC ad cA) (σ := s1) hi
    refine lv_i2l (v := r1.toInt64) hx hb dX6_folded_39 rfl ?_
    refine lv_ladd hx hb dX6_folded_40 ?_
    refine lv_lstore_n (lv' := [(3, .long ((31 * y3) + r1.toInt64)), (0, .ref (ad h0)), (5, .int x5), (6, .int x6)]) hx hb dX6_folded_41 rfl hl (by decide) rfl (fun ls hl => ?_)
    refine lv_iinc (v := x6 + 1) (lv' := [(6, .int (x6 + 1)), (3, .long ((31 * y3) + r1.toInt64)), (0, .ref (ad h0)), (5, .int x5)]) hx hb dX6_folded_42 hl (k := 3) rfl rfl (by decide) rfl (fun ls hl => ?_)
    refine lv_goto (tgt := 17) hx hb dX6_folded_45 (by decide) ?_
    exact hY 17 [x5, x6 + 1] [(31 * y3) + r1.toInt64] s1 hv _ _ rfl H locs ls hP hS (lv_sub hl [2, 1, 3, 0] rfl)
set_option maxHeartbeats 4000000 in
theorem y_X6_folded {p : Program} {l : Launch} {e : Env} {s : State} {m : MethodId} {args : Array Value} {below : List Frame} {meth : Method} {c : Code} {dC : Nat → ClassId} {dI : Nat → Nat → Nat} {ad : Nat → Nat} {cA cZ : ClassId} (hi : Inj 81 ad) (h0 : Nat) (a1 : Int64) (hh0 : isRo h0) (C0 : Cx cX6_folded RX6 wsX6_folded 7 (some .long) p s m args meth c) (hK : KK dC dI cA cZ s) (Q : Int64 → St → Prop) : ∀ P xs ys σ, R_X6_folded h0 a1 Q P xs ys σ → XX p l e ({ frames := 1, cells := 0, slots := 0, locals := 22 } : Room) s m args below meth c (dC, dI) 81 ad (celC ad cA) 7 (ZL below args s (dC, dI) 81 ad (celC ad cA) Q) (lay_X6_folded ad h0 a1) P xs ys σ := by
  refine Fx.elim _ (fun P xs ys σ Y hY hB => ?_)
  rcases hB with ⟨rfl, x5, y3, rfl, rfl, hB⟩ | ⟨rfl, x5, x6, y3, rfl, rfl, hB⟩
  · intro lv st he H locs ls hP hS hl
    cases he
    exact w_X6_folded_5 hi h0 a1 hh0 C0 hK Q Y hY x5 y3 σ hB hP hS hl
  · intro lv st he H locs ls hP hS hl
    cases he
    exact w_X6_folded_17 hi h0 a1 hh0 C0 hK Q Y hY x5 x6 y3 σ hB hP hS hl
set_option maxHeartbeats 4000000 in
theorem c_X6_folded {l : Launch} {dC : Nat → ClassId} {dI : Nat → Nat → Nat} {ad : Nat → Nat} {cA cZ : ClassId} (hi : Inj 81 ad) (h0 : Nat) (a1 : Int64) (hh0 : isRo h0) (s0 : St) (Q : Int64 → St → Prop) (hv : V_X6_folded h0 a1 s0 Q) (sz : Nat) : Met l yX6_folded wsX6_folded ({ frames := 1, cells := 0, slots := 0, locals := 22 } : Room) (va_Pc [.ref (ad h0), .long a1] (PW dC dI ad cA cZ 81 (celC ad cA) sz s0)) (va_Ql Q (fun u t => va_P (dC, dI) vwCl (wd 81 ad (celC ad cA) u) t.heap) (AA 81 ad sz)) 0 0 (AA 81 ad sz) := by
  refine Met.ofW (cc := cX6_folded) (maxL := 7) (ret := (some .long)) (by decide) rfl ?_
  intro p e s m args below meth c s₁ B hml hv0
  obtain ⟨rfl, hsz, hP, hK⟩ := hv0
  subst hsz
  have C0 : Cx cX6_folded RX6 wsX6_folded 7 (some .long) p s m ([.ref (ad h0), .long a1] : List Value).toArray meth c := ⟨B.exec, B.bytes, hml, findClass_of_methodNamed B.named, atoms_spec (ws := wsX6_folded) B.pre, B.returns, B.notSynchronized⟩
  have hl := lv_entry ([.ref (ad h0), .long a1]) (n := 7) (Nat.le_of_ble_eq_true rfl)
  rw [lg_entry_eq]
  generalize (lg_sl ([.ref (ad h0), .long a1]) ++ List.replicate (7 - (lg_sl ([.ref (ad h0), .long a1])).length) Slot.unset).toArray = ls at hl ⊢
  have hl : lv_has ls 7 [(0, .ref (ad h0)), (1, .long a1)] := hl
  exact w_X6_folded_e hi h0 a1 hh0 C0 hK Q (R_X6_folded h0 a1 Q) (y_X6_folded hi h0 a1 hh0 C0 hK Q)  s0 hv hP va_S.rf hl
def lay_X10_digest (ad : Nat → Nat)  : Nat → List Int32 → List Int64 → Option (List (Nat × Value) × List Value) := fun P xs ys => match P, xs, ys with
  | 6, [x3], [y1] => some ([(0, .ref (ad 0)), (1, .long y1), (3, .int x3)], [])
  | _, _, _ => none
set_option maxHeartbeats 4000000 in
set_option maxRecDepth 100000 in
theorem w_X10_digest_e {p : Program} {l : Launch} {e : Env} {s : State} {m : MethodId} {args : Array Value} {below : List Frame} {meth : Method} {c : Code} {dC : Nat → ClassId} {dI : Nat → Nat → Nat} {ad : Nat → Nat} {cA cZ : ClassId} (hi : Inj 81 ad)   (C0 : Cx cX10_digest RX10 wsX10_digest 4 (some .long) p s m args meth c) (hK : KK dC dI cA cZ s) (Q : Int64 → St → Prop) (Y : Nat → List Int32 → List Int64 → St → Prop) (hY : ∀ P xs ys σ, Y P xs ys σ → XX p l e ({ frames := 3, cells := 0, slots := 0, locals := 67 } : Room) s m args below meth c (dC, dI) 81 ad (celC ad cA) 4 (ZL below args s (dC, dI) 81 ad (celC ad cA) Q) (lay_X10_digest ad ) P xs ys σ)  (s0 : St) (hv : B_X10_digest_e  Q Y  s0) {H : Heap} {locs : List Loc} {ls : Array Slot} (hP : va_P (dC, dI) vwCl (wd 81 ad (celC ad cA) s0) H) (hS : va_S (AA 81 ad s.heap.size) s.heap H locs) (hl : lv_has ls 4 [(0, .ref (ad 0))]) : W p l e ({ frames := 3, cells := 0, slots := 0, locals := 67 } : Room) s m args below meth c H locs 0 0 (ZL below args s (dC, dI) 81 ad (celC ad cA) Q) (F0 m 0 ls []) := by
  obtain ⟨hx, hb, hml, hown, hts, hr, hlocks⟩ := C0
  have hD := wd_D (s := s) (cel := celC ad cA) (σ := s0) hi
  unfold B_X10_digest_e at hv
  refine lv_ldc2 (v := 1619) hx hb hown (hts _ kX10_digest_1) dX10_digest_0 ?_
  refine lv_lstore_n (lv' := [(1, .long 1619), (0, .ref (ad 0))]) hx hb dX10_digest_3 rfl hl (by decide) rfl (fun ls hl => ?_)
  refine lv_iconst (v := 0) hx hb dX10_digest_4 (by decide) ?_
  refine lv_istore_n (lv' := [(3, .int 0), (1, .long 1619), (0, .ref (ad 0))]) hx hb dX10_digest_5 rfl hl (by decide) rfl (fun ls hl => ?_)
  exact hY 6 [0] [1619] s0 hv _ _ rfl H locs ls hP hS (lv_sub hl [2, 1, 0] rfl)
set_option maxHeartbeats 4000000 in
set_option maxRecDepth 100000 in
theorem w_X10_digest_6 {p : Program} {l : Launch} {e : Env} {s : State} {m : MethodId} {args : Array Value} {below : List Frame} {meth : Method} {c : Code} {dC : Nat → ClassId} {dI : Nat → Nat → Nat} {ad : Nat → Nat} {cA cZ : ClassId} (hi : Inj 81 ad)   (C0 : Cx cX10_digest RX10 wsX10_digest 4 (some .long) p s m args meth c) (hK : KK dC dI cA cZ s) (Q : Int64 → St → Prop) (Y : Nat → List Int32 → List Int64 → St → Prop) (hY : ∀ P xs ys σ, Y P xs ys σ → XX p l e ({ frames := 3, cells := 0, slots := 0, locals := 67 } : Room) s m args below meth c (dC, dI) 81 ad (celC ad cA) 4 (ZL below args s (dC, dI) 81 ad (celC ad cA) Q) (lay_X10_digest ad ) P xs ys σ) (x3 : Int32) (y1 : Int64) (s0 : St) (hv : B_X10_digest_6  Q Y x3 y1 s0) {H : Heap} {locs : List Loc} {ls : Array Slot} (hP : va_P (dC, dI) vwCl (wd 81 ad (celC ad cA) s0) H) (hS : va_S (AA 81 ad s.heap.size) s.heap H locs) (hl : lv_has ls 4 [(0, .ref (ad 0)), (1, .long y1), (3, .int x3)]) : W p l e ({ frames := 3, cells := 0, slots := 0, locals := 67 } : Room) s m args below meth c H locs 0 0 (ZL below args s (dC, dI) 81 ad (celC ad cA) Q) (F0 m 6 ls []) := by
  obtain ⟨hx, hb, hml, hown, hts, hr, hlocks⟩ := C0
  have hD := wd_D (s := s) (cel := celC ad cA) (σ := s0) hi
  unfold B_X10_digest_6 at hv
  refine lv_iload_n hx hb dX10_digest_6 rfl (lv_at hl 2 rfl) ?_
  refine lv_bipush (v := 11) hx hb dX10_digest_7 (by decide) ?_
  refine lv_icmp_ge (tgt := 31) hx hb dX10_digest_9 (by decide) (fun c9 => ?_) (fun c9 => ?_)
  · have hv := hv.1 c9
    refine lv_aload_n hx hb dX10_digest_31 rfl (lv_at hl 0 rfl) ?_
    refine r_get hx hb hts (iwX10_digest_X10) hown hK.1 hP 0 (by decide) (ceGR_0 (s0 0)) rfl 0 (by decide) (hts _ kX10_digest_3) (v := .ref (ad 1)) rfl dX10_digest_32 ?_
    refine r_get hx hb hts (iwX10_digest_X7) hown hK.1 hP 1 (ltSc_0 vSc_1) (ceSc_0 vSc_1 (s0 1)) rfl 0 (by decide) (hts _ kX10_digest_4) (v := .ref (ad 2)) rfl dX10_digest_35 ?_
    refine lv_lload_n hx hb dX10_digest_38 rfl (lv_at hl 1 rfl) ?_
    refine r_cl (va_runV (As := [.long y1]) (rest := []) ⟨hx, hb, hml, hown, hts⟩ (c_X8_folded hi 2 y1 (vSc1 vSc_1) s0 _ hv H.size) (cwV 1 hts gX10_digest_X8_folded rfl rfl rfl (by decide +kernel) ⟨Nat.le_of_ble_eq_true rfl, Nat.le_of_ble_eq_true rfl⟩) ⟨pre_blind, r_recv hK.1 hP 2 (ltSt_0 (vSc1 vSc_1)) (ceSt_0 (vSc1 vSc_1) (s0 2)) rfl, pre_of hP hK⟩ rfl rfl hl.1 rfl (lv_room (Nat.le_of_ble_eq_true rfl)) dX10_digest_39 ⟨Nat.zero_le _, Nat.zero_le _⟩) hS (fun r1 s1 H locs hv hP hS => ?_)
    have hD := wd_D (s := s) (cel := celC ad cA) (σ := s1) hi
    refine lv_lstore_n (lv' := [(1, .long r1), (0, .ref (ad 0)), (3, .int x3)]) hx hb dX10_digest_42 rfl hl (by decide) rfl (fun ls hl => ?_)
    refine lv_aload_n hx hb dX10_digest_43 rfl (lv_at hl 1 rfl) ?_
    refine r_get hx hb hts (iwX10_digest_X10) hown hK.1 hP 0 (by decide) (ceGR_0 (s1 0)) rfl 0 (by decide) (hts _ kX10_digest_3) (v := .ref (ad 1)) rfl dX10_digest_44 ?_
    refine r_get hx hb hts (iwX10_digest_X7) hown hK.1 hP 1 (ltSc_0 vSc_1) (ceSc_0 vSc_1 (s1 1)) rfl 2 (by decide) (hts _ kX10_digest_5) (v := .ref (ad 13)) rfl dX10_digest_47 ?_
    refine lv_lload_n hx hb dX10_digest_50 rfl (lv_at hl 0 rfl) ?_
    refine r_cl (va_runV (As := [.long r1]) (rest := []) ⟨hx, hb, hml, hown, hts⟩ (c_X6_folded hi 13 r1 (vSc12 vSc_1) s1 _ hv H.size) (cwV 1 hts gX10_digest_X6_folded rfl rfl rfl (by decide +kernel) ⟨Nat.le_of_ble_eq_true rfl, Nat.le_of_ble_eq_true rfl⟩) ⟨pre_blind, r_recv hK.1 hP 13 (ltRo_0 (vSc12 vSc_1)) (ceRo_0 (vSc12 vSc_1) (s1 13)) rfl, pre_of hP hK⟩ rfl rfl hl.1 rfl (lv_room (Nat.le_of_ble_eq_true rfl)) dX10_digest_51 ⟨Nat.zero_le _, Nat.zero_le _⟩) hS (fun r2 s2 H locs hv hP hS => ?_)
    have hD := wd_D (s := s) (cel := celC ad cA) (σ := s2) hi
    refine lv_lstore_n (lv' := [(1, .long r2), (0, .ref (ad 0)), (3, .int x3)]) hx hb dX10_digest_54 rfl hl (by decide) rfl (fun ls hl => ?_)
    refine lv_aload_n hx hb dX10_digest_55 rfl (lv_at hl 1 rfl) ?_
    refine r_get hx hb hts (iwX10_digest_X10) hown hK.1 hP 0 (by decide) (ceGR_0 (s2 0)) rfl 0 (by decide) (hts _ kX10_digest_3) (v := .ref (ad 1)) rfl dX10_digest_56 ?_
    refine r_get hx hb hts (iwX10_digest_X7) hown hK.1 hP 1 (ltSc_0 vSc_1) (ceSc_0 vSc_1 (s2 1)) rfl 3 (by decide) (hts _ kX10_digest_6) (v := .ref (ad 15)) rfl dX10_digest_59 ?_
    refine lv_lload_n hx hb dX10_digest_62 rfl (lv_at hl 0 rfl) ?_
    refine r_cl (va_runV (As := [.long r2]) (rest := []) ⟨hx, hb, hml, hown, hts⟩ (c_X6_folded hi 15 r2 (vSc14 vSc_1) s2 _ hv H.size) (cwV 1 hts gX10_digest_X6_folded rfl rfl rfl (by decide +kernel) ⟨Nat.le_of_ble_eq_true rfl, Nat.le_of_ble_eq_true rfl⟩) ⟨pre_blind, r_recv hK.1 hP 15 (ltRo_0 (vSc14 vSc_1)) (ceRo_0 (vSc14 vSc_1) (s2 15)) rfl, pre_of hP hK⟩ rfl rfl hl.1 rfl (lv_room (Nat.le_of_ble_eq_true rfl)) dX10_digest_63 ⟨Nat.zero_le _, Nat.zero_le _⟩) hS (fun r3 s3 H locs hv hP hS => ?_)
    have hD := wd_D (s := s) (cel := celC ad cA) (σ := s3) hi
    refine lv_lstore_n (lv' := [(1, .long r3), (0, .ref (ad 0)), (3, .int x3)]) hx hb dX10_digest_66 rfl hl (by decide) rfl (fun ls hl => ?_)
    refine lv_aload_n hx hb dX10_digest_67 rfl (lv_at hl 1 rfl) ?_
    refine r_get hx hb hts (iwX10_digest_X10) hown hK.1 hP 0 (by decide) (ceGR_0 (s3 0)) rfl 0 (by decide) (hts _ kX10_digest_3) (v := .ref (ad 1)) rfl dX10_digest_68 ?_
    refine r_get hx hb hts (iwX10_digest_X7) hown hK.1 hP 1 (ltSc_0 vSc_1) (ceSc_0 vSc_1 (s3 1)) rfl 4 (by decide) (hts _ kX10_digest_7) (v := .ref (ad 17)) rfl dX10_digest_71 ?_
    refine lv_lload_n hx hb dX10_digest_74 rfl (lv_at hl 0 rfl) ?_
    refine r_cl (va_runV (As := [.long r3]) (rest := []) ⟨hx, hb, hml, hown, hts⟩ (c_X6_folded hi 17 r3 (vSc16 vSc_1) s3 _ hv H.size) (cwV 1 hts gX10_digest_X6_folded rfl rfl rfl (by decide +kernel) ⟨Nat.le_of_ble_eq_true rfl, Nat.le_of_ble_eq_true rfl⟩) ⟨pre_blind, r_recv hK.1 hP 17 (ltRo_0 (vSc16 vSc_1)) (ceRo_0 (vSc16 vSc_1) (s3 17)) rfl, pre_of hP hK⟩ rfl rfl hl.1 rfl (lv_room (Nat.le_of_ble_eq_true rfl)) dX10_digest_75 ⟨Nat.zero_le _, Nat.zero_le _⟩) hS (fun r4 s4 H locs hv hP hS => ?_)
    have hD := wd_D (s := s) (cel := celC ad cA) (σ := s4) hi
    refine lv_lstore_n (lv' := [(1, .long r4), (0, .ref (ad 0)), (3, .int x3)]) hx hb dX10_digest_78 rfl hl (by decide) rfl (fun ls hl => ?_)
    refine lv_ldc2 (v := 31) hx hb hown (hts _ kX10_digest_2) dX10_digest_79 ?_
    refine lv_lload_n hx hb dX10_digest_82 rfl (lv_at hl 0 rfl) ?_
    refine lv_lmul hx hb dX10_digest_83 ?_
    refine lv_aload_n hx hb dX10_digest_84 rfl (lv_at hl 1 rfl) ?_
    refine r_get hx hb hts (iwX10_digest_X10) hown hK.1 hP 0 (by decide) (ceGR_0 (s4 0)) rfl 8 (by decide) (hts _ kX10_digest_8) (v := .int (s4 0 8)) rfl dX10_digest_85 ?_
    refine lv_i2l (v := (s4 0 8).toInt64) hx hb dX10_digest_88 rfl ?_
    refine lv_ladd hx hb dX10_digest_89 ?_
    refine lv_topl (fun v5 ev5 => ?_)
    have hv := hv v5 ev5
    refine lv_lstore_n (lv' := [(1, .long v5), (0, .ref (ad 0)), (3, .int x3)]) hx hb dX10_digest_90 rfl hl (by decide) rfl (fun ls hl => ?_)
    refine lv_ldc2 (v := 31) hx hb hown (hts _ kX10_digest_2) dX10_digest_91 ?_
    refine lv_lload_n hx hb dX10_digest_94 rfl (lv_at hl 0 rfl) ?_
    refine lv_lmul hx hb dX10_digest_95 ?_
    refine lv_aload_n hx hb dX10_digest_96 rfl (lv_at hl 1 rfl) ?_
    refine r_get hx hb hts (iwX10_digest_X10) hown hK.1 hP 0 (by decide) (ceGR_0 (s4 0)) rfl 9 (by decide) (hts _ kX10_digest_9) (v := .int (s4 0 9)) rfl dX10_digest_97 ?_
    refine lv_i2l (v := (s4 0 9).toInt64) hx hb dX10_digest_100 rfl ?_
    refine lv_ladd hx hb dX10_digest_101 ?_
    exact r_lret hx hb hr hlocks hv hP hS dX10_digest_102
  · have hv := hv.2 c9
    refine lv_ldc2 (v := 31) hx hb hown (hts _ kX10_digest_2) dX10_digest_12 ?_
    refine lv_lload_n hx hb dX10_digest_15 rfl (lv_at hl 1 rfl) ?_
    refine lv_lmul hx hb dX10_digest_16 ?_
    refine lv_aload_n hx hb dX10_digest_17 rfl (lv_at hl 0 rfl) ?_
    refine lv_iload_n hx hb dX10_digest_18 rfl (lv_at hl 2 rfl) ?_
    refine r_ci (va_runV (As := [.int x3]) (rest := [.long (31 * y1)]) ⟨hx, hb, hml, hown, hts⟩ (c_X10_counted hi x3 s0 _ hv H.size) (cwV 1 hts gX10_digest_X10_counted rfl rfl rfl (by decide +kernel) ⟨Nat.le_of_ble_eq_true rfl, Nat.le_of_ble_eq_true rfl⟩) ⟨pre_blind, r_recv hK.1 hP 0 (by decide) (ceGR_0 (s0 0)) rfl, pre_of hP hK⟩ rfl rfl hl.1 rfl (lv_room (Nat.le_of_ble_eq_true rfl)) dX10_digest_19 ⟨Nat.zero_le _, Nat.zero_le _⟩) hS (fun r6 s6 H locs hv hP hS => ?_)
    have hD := wd_D (s := s) (cel := celC ad cA) (σ := s6) hi
    refine lv_i2l (v := r6.toInt64) hx hb dX10_digest_22 rfl ?_
    refine lv_ladd hx hb dX10_digest_23 ?_
    refine lv_lstore_n (lv' := [(1, .long ((31 * y1) + r6.toInt64)), (0, .ref (ad 0)), (3, .int x3)]) hx hb dX10_digest_24 rfl hl (by decide) rfl (fun ls hl => ?_)
    refine lv_iinc (v := x3 + 1) (lv' := [(3, .int (x3 + 1)), (1, .long ((31 * y1) + r6.toInt64)), (0, .ref (ad 0))]) hx hb dX10_digest_25 hl (k := 2) rfl rfl (by decide) rfl (fun ls hl => ?_)
    refine lv_goto (tgt := 6) hx hb dX10_digest_28 (by decide) ?_
    exact hY 6 [x3 + 1] [(31 * y1) + r6.toInt64] s6 hv _ _ rfl H locs ls hP hS (lv_sub hl [2, 1, 0] rfl)
set_option maxHeartbeats 4000000 in
theorem y_X10_digest {p : Program} {l : Launch} {e : Env} {s : State} {m : MethodId} {args : Array Value} {below : List Frame} {meth : Method} {c : Code} {dC : Nat → ClassId} {dI : Nat → Nat → Nat} {ad : Nat → Nat} {cA cZ : ClassId} (hi : Inj 81 ad)   (C0 : Cx cX10_digest RX10 wsX10_digest 4 (some .long) p s m args meth c) (hK : KK dC dI cA cZ s) (Q : Int64 → St → Prop) : ∀ P xs ys σ, R_X10_digest  Q P xs ys σ → XX p l e ({ frames := 3, cells := 0, slots := 0, locals := 67 } : Room) s m args below meth c (dC, dI) 81 ad (celC ad cA) 4 (ZL below args s (dC, dI) 81 ad (celC ad cA) Q) (lay_X10_digest ad ) P xs ys σ := by
  refine Fx.elim _ (fun P xs ys σ Y hY hB => ?_)
  rcases hB with ⟨rfl, x3, y1, rfl, rfl, hB⟩
  · intro lv st he H locs ls hP hS hl
    cases he
    exact w_X10_digest_6 hi   C0 hK Q Y hY x3 y1 σ hB hP hS hl
set_option maxHeartbeats 4000000 in
theorem c_X10_digest {l : Launch} {dC : Nat → ClassId} {dI : Nat → Nat → Nat} {ad : Nat → Nat} {cA cZ : ClassId} (hi : Inj 81 ad)   (s0 : St) (Q : Int64 → St → Prop) (hv : V_X10_digest  s0 Q) (sz : Nat) : Met l yX10_digest wsX10_digest ({ frames := 3, cells := 0, slots := 0, locals := 67 } : Room) (va_Pc [.ref (ad 0)] (PW dC dI ad cA cZ 81 (celC ad cA) sz s0)) (va_Ql Q (fun u t => va_P (dC, dI) vwCl (wd 81 ad (celC ad cA) u) t.heap) (AA 81 ad sz)) 0 0 (AA 81 ad sz) := by
  refine Met.ofW (cc := cX10_digest) (maxL := 4) (ret := (some .long)) (by decide) rfl ?_
  intro p e s m args below meth c s₁ B hml hv0
  obtain ⟨rfl, hsz, hP, hK⟩ := hv0
  subst hsz
  have C0 : Cx cX10_digest RX10 wsX10_digest 4 (some .long) p s m ([.ref (ad 0)] : List Value).toArray meth c := ⟨B.exec, B.bytes, hml, findClass_of_methodNamed B.named, atoms_spec (ws := wsX10_digest) B.pre, B.returns, B.notSynchronized⟩
  have hl := lv_entry ([.ref (ad 0)]) (n := 4) (Nat.le_of_ble_eq_true rfl)
  rw [lg_entry_eq]
  generalize (lg_sl ([.ref (ad 0)]) ++ List.replicate (4 - (lg_sl ([.ref (ad 0)])).length) Slot.unset).toArray = ls at hl ⊢
  have hl : lv_has ls 4 [(0, .ref (ad 0))] := hl
  exact w_X10_digest_e hi   C0 hK Q (R_X10_digest  Q) (y_X10_digest hi   C0 hK Q)  s0 hv hP va_S.rf hl
def lay_X5_fault (ad : Nat → Nat)  : Nat → List Int32 → List Int64 → Option (List (Nat × Value) × List Value) := fun P xs ys => match P, xs, ys with
  | _, _, _ => none
set_option maxHeartbeats 4000000 in
set_option maxRecDepth 100000 in
theorem w_X5_fault_e {p : Program} {l : Launch} {e : Env} {s : State} {m : MethodId} {args : Array Value} {below : List Frame} {meth : Method} {c : Code} {dC : Nat → ClassId} {dI : Nat → Nat → Nat} {ad : Nat → Nat} {cA cZ : ClassId} (hi : Inj 81 ad)   (C0 : Cx cX5_fault RX5 wsX5_fault 1 (some .int) p s m args meth c) (hK : KK dC dI cA cZ s) (Q : Int32 → St → Prop) (Y : Nat → List Int32 → List Int64 → St → Prop) (hY : ∀ P xs ys σ, Y P xs ys σ → XX p l e ({ frames := 0, cells := 0, slots := 0, locals := 0 } : Room) s m args below meth c (dC, dI) 81 ad (celC ad cA) 1 (ZI below args s (dC, dI) 81 ad (celC ad cA) Q) (lay_X5_fault ad ) P xs ys σ)  (s0 : St) (hv : B_X5_fault_e  Q Y  s0) {H : Heap} {locs : List Loc} {ls : Array Slot} (hP : va_P (dC, dI) vwCl (wd 81 ad (celC ad cA) s0) H) (hS : va_S (AA 81 ad s.heap.size) s.heap H locs) (hl : lv_has ls 1 [(0, .ref (ad 69))]) : W p l e ({ frames := 0, cells := 0, slots := 0, locals := 0 } : Room) s m args below meth c H locs 0 0 (ZI below args s (dC, dI) 81 ad (celC ad cA) Q) (F0 m 0 ls []) := by
  obtain ⟨hx, hb, hml, hown, hts, hr, hlocks⟩ := C0
  have hD := wd_D (s := s) (cel := celC ad cA) (σ := s0) hi
  unfold B_X5_fault_e at hv
  refine lv_bipush (v := (-10)) hx hb dX5_fault_0 (by decide) ?_
  refine lv_aload_n hx hb dX5_fault_2 rfl (lv_at hl 0 rfl) ?_
  refine r_get hx hb hts (iwX5_fault_X5) hown hK.1 hP 69 (by decide) (ceRe_0 (s0 69)) rfl 0 (by decide) (hts _ kX5_fault_1) (v := .ref (ad 70)) rfl dX5_fault_3 ?_
  refine r_get hx hb hts (iwX5_fault_X9) hown hK.1 hP 70 (by decide) (ceTo_0 (s0 70)) rfl 3 (by decide) (hts _ kX5_fault_2) (v := .int (s0 70 3)) rfl dX5_fault_6 ?_
  refine lv_isub hx hb dX5_fault_9 ?_
  exact r_iret hx hb hr hlocks hv hP hS dX5_fault_10
set_option maxHeartbeats 4000000 in
theorem y_X5_fault {p : Program} {l : Launch} {e : Env} {s : State} {m : MethodId} {args : Array Value} {below : List Frame} {meth : Method} {c : Code} {dC : Nat → ClassId} {dI : Nat → Nat → Nat} {ad : Nat → Nat} {cA cZ : ClassId} (hi : Inj 81 ad)   (C0 : Cx cX5_fault RX5 wsX5_fault 1 (some .int) p s m args meth c) (hK : KK dC dI cA cZ s) (Q : Int32 → St → Prop) : ∀ P xs ys σ, R_X5_fault  Q P xs ys σ → XX p l e ({ frames := 0, cells := 0, slots := 0, locals := 0 } : Room) s m args below meth c (dC, dI) 81 ad (celC ad cA) 1 (ZI below args s (dC, dI) 81 ad (celC ad cA) Q) (lay_X5_fault ad ) P xs ys σ := by
  refine Fx.elim _ (fun P xs ys σ Y hY hB => ?_)
  exact hB.elim
set_option maxHeartbeats 4000000 in
theorem c_X5_fault {l : Launch} {dC : Nat → ClassId} {dI : Nat → Nat → Nat} {ad : Nat → Nat} {cA cZ : ClassId} (hi : Inj 81 ad)   (s0 : St) (Q : Int32 → St → Prop) (hv : V_X5_fault  s0 Q) (sz : Nat) : Met l yX5_fault wsX5_fault ({ frames := 0, cells := 0, slots := 0, locals := 0 } : Room) (va_Pc [.ref (ad 69)] (PW dC dI ad cA cZ 81 (celC ad cA) sz s0)) (va_Qi Q (fun u t => va_P (dC, dI) vwCl (wd 81 ad (celC ad cA) u) t.heap) (AA 81 ad sz)) 0 0 (AA 81 ad sz) := by
  refine Met.ofW (cc := cX5_fault) (maxL := 1) (ret := (some .int)) (by decide) rfl ?_
  intro p e s m args below meth c s₁ B hml hv0
  obtain ⟨rfl, hsz, hP, hK⟩ := hv0
  subst hsz
  have C0 : Cx cX5_fault RX5 wsX5_fault 1 (some .int) p s m ([.ref (ad 69)] : List Value).toArray meth c := ⟨B.exec, B.bytes, hml, findClass_of_methodNamed B.named, atoms_spec (ws := wsX5_fault) B.pre, B.returns, B.notSynchronized⟩
  have hl := lv_entry ([.ref (ad 69)]) (n := 1) (Nat.le_of_ble_eq_true rfl)
  rw [lg_entry_eq]
  generalize (lg_sl ([.ref (ad 69)]) ++ List.replicate (1 - (lg_sl ([.ref (ad 69)])).length) Slot.unset).toArray = ls at hl ⊢
  have hl : lv_has ls 1 [(0, .ref (ad 69))] := hl
  exact w_X5_fault_e hi   C0 hK Q (R_X5_fault  Q) (y_X5_fault hi   C0 hK Q)  s0 hv hP va_S.rf hl
def lay_X9_kindOf (ad : Nat → Nat) (a0 : Int32) : Nat → List Int32 → List Int64 → Option (List (Nat × Value) × List Value) := fun P xs ys => match P, xs, ys with
  | 14, [], [] => some ([(0, .int a0)], [])
  | 28, [], [] => some ([(0, .int a0)], [])
  | _, _, _ => none
set_option maxHeartbeats 4000000 in
set_option maxRecDepth 100000 in
theorem w_X9_kindOf_e {p : Program} {l : Launch} {e : Env} {s : State} {m : MethodId} {args : Array Value} {below : List Frame} {meth : Method} {c : Code} {dC : Nat → ClassId} {dI : Nat → Nat → Nat} {ad : Nat → Nat} {cA cZ : ClassId} (hi : Inj 81 ad) (a0 : Int32)  (C0 : Cx cX9_kindOf RX9 wsX9_kindOf 1 (some .int) p s m args meth c) (hK : KK dC dI cA cZ s) (Q : Int32 → St → Prop) (Y : Nat → List Int32 → List Int64 → St → Prop) (hY : ∀ P xs ys σ, Y P xs ys σ → XX p l e ({ frames := 0, cells := 0, slots := 0, locals := 0 } : Room) s m args below meth c (dC, dI) 81 ad (celC ad cA) 1 (ZI below args s (dC, dI) 81 ad (celC ad cA) Q) (lay_X9_kindOf ad a0) P xs ys σ)  (s0 : St) (hv : B_X9_kindOf_e a0 Q Y  s0) {H : Heap} {locs : List Loc} {ls : Array Slot} (hP : va_P (dC, dI) vwCl (wd 81 ad (celC ad cA) s0) H) (hS : va_S (AA 81 ad s.heap.size) s.heap H locs) (hl : lv_has ls 1 [(0, .int a0)]) : W p l e ({ frames := 0, cells := 0, slots := 0, locals := 0 } : Room) s m args below meth c H locs 0 0 (ZI below args s (dC, dI) 81 ad (celC ad cA) Q) (F0 m 0 ls []) := by
  obtain ⟨hx, hb, hml, hown, hts, hr, hlocks⟩ := C0
  have hD := wd_D (s := s) (cel := celC ad cA) (σ := s0) hi
  unfold B_X9_kindOf_e at hv
  refine lv_iload_n hx hb dX9_kindOf_0 rfl (lv_at hl 0 rfl) ?_
  refine lv_bipush (v := 97) hx hb dX9_kindOf_1 (by decide) ?_
  refine lv_icmp_lt (tgt := 14) hx hb dX9_kindOf_3 (by decide) (fun c3 => ?_) (fun c3 => ?_)
  · have hv := hv.1 c3
    exact hY 14 [] [] s0 hv _ _ rfl H locs ls hP hS (lv_sub hl [0] rfl)
  · have hv := hv.2 c3
    refine lv_iload_n hx hb dX9_kindOf_6 rfl (lv_at hl 0 rfl) ?_
    refine lv_bipush (v := 122) hx hb dX9_kindOf_7 (by decide) ?_
    refine lv_icmp_gt (tgt := 14) hx hb dX9_kindOf_9 (by decide) (fun c9 => ?_) (fun c9 => ?_)
    · have hv := hv.1 c9
      exact hY 14 [] [] s0 hv _ _ rfl H locs ls hP hS (lv_sub hl [0] rfl)
    · have hv := hv.2 c9
      refine lv_iconst (v := 1) hx hb dX9_kindOf_12 (by decide) ?_
      exact r_iret hx hb hr hlocks hv hP hS dX9_kindOf_13
set_option maxHeartbeats 4000000 in
set_option maxRecDepth 100000 in
theorem w_X9_kindOf_14 {p : Program} {l : Launch} {e : Env} {s : State} {m : MethodId} {args : Array Value} {below : List Frame} {meth : Method} {c : Code} {dC : Nat → ClassId} {dI : Nat → Nat → Nat} {ad : Nat → Nat} {cA cZ : ClassId} (hi : Inj 81 ad) (a0 : Int32)  (C0 : Cx cX9_kindOf RX9 wsX9_kindOf 1 (some .int) p s m args meth c) (hK : KK dC dI cA cZ s) (Q : Int32 → St → Prop) (Y : Nat → List Int32 → List Int64 → St → Prop) (hY : ∀ P xs ys σ, Y P xs ys σ → XX p l e ({ frames := 0, cells := 0, slots := 0, locals := 0 } : Room) s m args below meth c (dC, dI) 81 ad (celC ad cA) 1 (ZI below args s (dC, dI) 81 ad (celC ad cA) Q) (lay_X9_kindOf ad a0) P xs ys σ)  (s0 : St) (hv : B_X9_kindOf_14 a0 Q Y  s0) {H : Heap} {locs : List Loc} {ls : Array Slot} (hP : va_P (dC, dI) vwCl (wd 81 ad (celC ad cA) s0) H) (hS : va_S (AA 81 ad s.heap.size) s.heap H locs) (hl : lv_has ls 1 [(0, .int a0)]) : W p l e ({ frames := 0, cells := 0, slots := 0, locals := 0 } : Room) s m args below meth c H locs 0 0 (ZI below args s (dC, dI) 81 ad (celC ad cA) Q) (F0 m 14 ls []) := by
  obtain ⟨hx, hb, hml, hown, hts, hr, hlocks⟩ := C0
  have hD := wd_D (s := s) (cel := celC ad cA) (σ := s0) hi
  unfold B_X9_kindOf_14 at hv
  refine lv_iload_n hx hb dX9_kindOf_14 rfl (lv_at hl 0 rfl) ?_
  refine lv_bipush (v := 48) hx hb dX9_kindOf_15 (by decide) ?_
  refine lv_icmp_lt (tgt := 28) hx hb dX9_kindOf_17 (by decide) (fun c17 => ?_) (fun c17 => ?_)
  · have hv := hv.1 c17
    exact hY 28 [] [] s0 hv _ _ rfl H locs ls hP hS (lv_sub hl [0] rfl)
  · have hv := hv.2 c17
    refine lv_iload_n hx hb dX9_kindOf_20 rfl (lv_at hl 0 rfl) ?_
    refine lv_bipush (v := 57) hx hb dX9_kindOf_21 (by decide) ?_
    refine lv_icmp_gt (tgt := 28) hx hb dX9_kindOf_23 (by decide) (fun c23 => ?_) (fun c23 => ?_)
    · have hv := hv.1 c23
      exact hY 28 [] [] s0 hv _ _ rfl H locs ls hP hS (lv_sub hl [0] rfl)
    · have hv := hv.2 c23
      refine lv_iconst (v := 2) hx hb dX9_kindOf_26 (by decide) ?_
      exact r_iret hx hb hr hlocks hv hP hS dX9_kindOf_27
set_option maxHeartbeats 4000000 in
set_option maxRecDepth 100000 in
theorem w_X9_kindOf_28 {p : Program} {l : Launch} {e : Env} {s : State} {m : MethodId} {args : Array Value} {below : List Frame} {meth : Method} {c : Code} {dC : Nat → ClassId} {dI : Nat → Nat → Nat} {ad : Nat → Nat} {cA cZ : ClassId} (hi : Inj 81 ad) (a0 : Int32)  (C0 : Cx cX9_kindOf RX9 wsX9_kindOf 1 (some .int) p s m args meth c) (hK : KK dC dI cA cZ s) (Q : Int32 → St → Prop) (Y : Nat → List Int32 → List Int64 → St → Prop) (hY : ∀ P xs ys σ, Y P xs ys σ → XX p l e ({ frames := 0, cells := 0, slots := 0, locals := 0 } : Room) s m args below meth c (dC, dI) 81 ad (celC ad cA) 1 (ZI below args s (dC, dI) 81 ad (celC ad cA) Q) (lay_X9_kindOf ad a0) P xs ys σ)  (s0 : St) (hv : B_X9_kindOf_28 a0 Q Y  s0) {H : Heap} {locs : List Loc} {ls : Array Slot} (hP : va_P (dC, dI) vwCl (wd 81 ad (celC ad cA) s0) H) (hS : va_S (AA 81 ad s.heap.size) s.heap H locs) (hl : lv_has ls 1 [(0, .int a0)]) : W p l e ({ frames := 0, cells := 0, slots := 0, locals := 0 } : Room) s m args below meth c H locs 0 0 (ZI below args s (dC, dI) 81 ad (celC ad cA) Q) (F0 m 28 ls []) := by
  obtain ⟨hx, hb, hml, hown, hts, hr, hlocks⟩ := C0
  have hD := wd_D (s := s) (cel := celC ad cA) (σ := s0) hi
  unfold B_X9_kindOf_28 at hv
  refine lv_iload_n hx hb dX9_kindOf_28 rfl (lv_at hl 0 rfl) ?_
  refine lv_bipush (v := 59) hx hb dX9_kindOf_29 (by decide) ?_
  refine lv_icmp_ne (tgt := 38) hx hb dX9_kindOf_31 (by decide) (fun c31 => ?_) (fun c31 => ?_)
  · have hv := hv.1 c31
    refine lv_iconst (v := 4) hx hb dX9_kindOf_38 (by decide) ?_
    exact r_iret hx hb hr hlocks hv hP hS dX9_kindOf_39
  · have hv := hv.2 c31
    refine lv_iconst (v := 3) hx hb dX9_kindOf_34 (by decide) ?_
    refine lv_goto (tgt := 39) hx hb dX9_kindOf_35 (by decide) ?_
    exact r_iret hx hb hr hlocks hv hP hS dX9_kindOf_39
set_option maxHeartbeats 4000000 in
theorem y_X9_kindOf {p : Program} {l : Launch} {e : Env} {s : State} {m : MethodId} {args : Array Value} {below : List Frame} {meth : Method} {c : Code} {dC : Nat → ClassId} {dI : Nat → Nat → Nat} {ad : Nat → Nat} {cA cZ : ClassId} (hi : Inj 81 ad) (a0 : Int32)  (C0 : Cx cX9_kindOf RX9 wsX9_kindOf 1 (some .int) p s m args meth c) (hK : KK dC dI cA cZ s) (Q : Int32 → St → Prop) : ∀ P xs ys σ, R_X9_kindOf a0 Q P xs ys σ → XX p l e ({ frames := 0, cells := 0, slots := 0, locals := 0 } : Room) s m args below meth c (dC, dI) 81 ad (celC ad cA) 1 (ZI below args s (dC, dI) 81 ad (celC ad cA) Q) (lay_X9_kindOf ad a0) P xs ys σ := by
  refine Fx.elim _ (fun P xs ys σ Y hY hB => ?_)
  rcases hB with ⟨rfl, rfl, rfl, hB⟩ | ⟨rfl, rfl, rfl, hB⟩
  · intro lv st he H locs ls hP hS hl
    cases he
    exact w_X9_kindOf_14 hi a0  C0 hK Q Y hY  σ hB hP hS hl
  · intro lv st he H locs ls hP hS hl
    cases he
    exact w_X9_kindOf_28 hi a0  C0 hK Q Y hY  σ hB hP hS hl
set_option maxHeartbeats 4000000 in
theorem c_X9_kindOf {l : Launch} {dC : Nat → ClassId} {dI : Nat → Nat → Nat} {ad : Nat → Nat} {cA cZ : ClassId} (hi : Inj 81 ad) (a0 : Int32)  (s0 : St) (Q : Int32 → St → Prop) (hv : V_X9_kindOf a0 s0 Q) (sz : Nat) : Met l yX9_kindOf wsX9_kindOf ({ frames := 0, cells := 0, slots := 0, locals := 0 } : Room) (va_Pc [.int a0] (PW dC dI ad cA cZ 81 (celC ad cA) sz s0)) (va_Qi Q (fun u t => va_P (dC, dI) vwCl (wd 81 ad (celC ad cA) u) t.heap) (AA 81 ad sz)) 0 0 (AA 81 ad sz) := by
  refine Met.ofW (cc := cX9_kindOf) (maxL := 1) (ret := (some .int)) (by decide) rfl ?_
  intro p e s m args below meth c s₁ B hml hv0
  obtain ⟨rfl, hsz, hP, hK⟩ := hv0
  subst hsz
  have C0 : Cx cX9_kindOf RX9 wsX9_kindOf 1 (some .int) p s m ([.int a0] : List Value).toArray meth c := ⟨B.exec, B.bytes, hml, findClass_of_methodNamed B.named, atoms_spec (ws := wsX9_kindOf) B.pre, B.returns, B.notSynchronized⟩
  have hl := lv_entry ([.int a0]) (n := 1) (Nat.le_of_ble_eq_true rfl)
  rw [lg_entry_eq]
  generalize (lg_sl ([.int a0]) ++ List.replicate (1 - (lg_sl ([.int a0])).length) Slot.unset).toArray = ls at hl ⊢
  have hl : lv_has ls 1 [(0, .int a0)] := hl
  exact w_X9_kindOf_e hi a0  C0 hK Q (R_X9_kindOf a0 Q) (y_X9_kindOf hi a0  C0 hK Q)  s0 hv hP va_S.rf hl
