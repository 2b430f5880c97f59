def lay_X8_empty (ad : Nat → Nat) (h0 : Nat) : Nat → List Int32 → List Int64 → Option (List (Nat × Value) × List Value) := fun P xs ys => match P, xs, ys with
  | 2, [x1], [] => some ([(0, .ref (ad h0)), (1, .int x1)], [])
  | 23, [x1], [] => some ([(0, .ref (ad h0)), (1, .int x1)], [])
  | _, _, _ => none
set_option maxHeartbeats 4000000 in
set_option maxRecDepth 100000 in
theorem w_X8_empty_e {p : Program} {l : Launch} {e : Env} {s : State} {m : MethodId} {args : Array Value} {below : List Frame} {meth : Method} {c : Code} {dC : Nat → ClassId} {dI : Nat → Nat → Nat} {ad : Nat → Nat} {cA cZ : ClassId} (hi : Inj 81 ad) (h0 : Nat) (hh0 : isSt h0) (C0 : Cx cX8_empty RX8 wsX8_empty 2 none p s m args meth c) (hK : KK dC dI cA cZ s) (Q : St → Prop) (Y : Nat → List Int32 → List Int64 → St → Prop) (hY : ∀ P xs ys σ, Y P xs ys σ → XX p l e ({ frames := 0, cells := 0, slots := 0, locals := 0 } : Room) s m args below meth c (dC, dI) 81 ad (celC ad cA) 2 (ZV below args s (dC, dI) 81 ad (celC ad cA) Q) (lay_X8_empty ad h0) P xs ys σ)  (s0 : St) (hv : B_X8_empty_e h0 Q Y  s0) {H : Heap} {locs : List Loc} {ls : Array Slot} (hP : va_P (dC, dI) vwCl (wd 81 ad (celC ad cA) s0) H) (hS : va_S (AA 81 ad s.heap.size) s.heap H locs) (hl : lv_has ls 2 [(0, .ref (ad h0))]) : W p l e ({ frames := 0, cells := 0, slots := 0, locals := 0 } : Room) s m args below meth c H locs 0 0 (ZV below args s (dC, dI) 81 ad (celC ad cA) Q) (F0 m 0 ls []) := by
  obtain ⟨hx, hb, hml, hown, hts, hr, hlocks⟩ := C0
  have hD := wd_D (s := s) (cel := celC ad cA) (σ := s0) hi
  unfold B_X8_empty_e at hv
  refine lv_iconst (v := 0) hx hb dX8_empty_0 (by decide) ?_
  refine lv_istore_n (lv' := [(1, .int 0), (0, .ref (ad h0))]) hx hb dX8_empty_1 rfl hl (by decide) rfl (fun ls hl => ?_)
  exact hY 2 [0] [] s0 hv _ _ rfl H locs ls hP hS (lv_sub hl [1, 0] rfl)
set_option maxHeartbeats 4000000 in
set_option maxRecDepth 100000 in
theorem w_X8_empty_2 {p : Program} {l : Launch} {e : Env} {s : State} {m : MethodId} {args : Array Value} {below : List Frame} {meth : Method} {c : Code} {dC : Nat → ClassId} {dI : Nat → Nat → Nat} {ad : Nat → Nat} {cA cZ : ClassId} (hi : Inj 81 ad) (h0 : Nat) (hh0 : isSt h0) (C0 : Cx cX8_empty RX8 wsX8_empty 2 none p s m args meth c) (hK : KK dC dI cA cZ s) (Q : St → Prop) (Y : Nat → List Int32 → List Int64 → St → Prop) (hY : ∀ P xs ys σ, Y P xs ys σ → XX p l e ({ frames := 0, cells := 0, slots := 0, locals := 0 } : Room) s m args below meth c (dC, dI) 81 ad (celC ad cA) 2 (ZV below args s (dC, dI) 81 ad (celC ad cA) Q) (lay_X8_empty ad h0) P xs ys σ) (x1 : Int32) (s0 : St) (hv : B_X8_empty_2 h0 Q Y x1 s0) {H : Heap} {locs : List Loc} {ls : Array Slot} (hP : va_P (dC, dI) vwCl (wd 81 ad (celC ad cA) s0) H) (hS : va_S (AA 81 ad s.heap.size) s.heap H locs) (hl : lv_has ls 2 [(0, .ref (ad h0)), (1, .int x1)]) : W p l e ({ frames := 0, cells := 0, slots := 0, locals := 0 } : Room) s m args below meth c H locs 0 0 (ZV below args s (dC, dI) 81 ad (celC ad cA) Q) (F0 m 2 ls []) := by
  obtain ⟨hx, hb, hml, hown, hts, hr, hlocks⟩ := C0
  have hD := wd_D (s := s) (cel := celC ad cA) (σ := s0) hi
  unfold B_X8_empty_2 at hv
  refine lv_iload_n hx hb dX8_empty_2 rfl (lv_at hl 1 rfl) ?_
  refine lv_bipush (v := 6) hx hb dX8_empty_3 (by decide) ?_
  refine lv_icmp_ge (tgt := 21) hx hb dX8_empty_5 (by decide) (fun c5 => ?_) (fun c5 => ?_)
  · have hv := hv.1 c5
    refine lv_iconst (v := 0) hx hb dX8_empty_21 (by decide) ?_
    refine lv_istore_n (lv' := [(1, .int 0), (0, .ref (ad h0))]) hx hb dX8_empty_22 rfl hl (by decide) rfl (fun ls hl => ?_)
    exact hY 23 [0] [] s0 hv _ _ rfl H locs ls hP hS (lv_sub hl [1, 0] rfl)
  · have hv := hv.2 c5
    refine lv_aload_n hx hb dX8_empty_8 rfl (lv_at hl 0 rfl) ?_
    refine r_get hx hb hts (iwX8_empty_X8) hown hK.1 hP h0 (ltSt_0 hh0) (ceSt_0 hh0 (s0 h0)) rfl 0 (by decide) (hts _ kX8_empty_1) (v := .ref (ad (h0 + 1))) rfl dX8_empty_9 ?_
    refine lv_iload_n hx hb dX8_empty_12 rfl (lv_at hl 1 rfl) ?_
    refine lv_iconst (v := 0) hx hb dX8_empty_13 (by decide) ?_
    obtain ⟨hin, hv⟩ := hv
    refine r_iast hx hb hK.1 hP hD hS (h0 + 1) (ltSt_1 hh0) (ceSt_1 hh0 (s0 (h0 + 1))) (ceSt_1 hh0 _) hin dX8_empty_14 (fun H locs s1 es1 hP hD hS => ?_)
    have hv := hv s1 es1
    refine lv_iinc (v := x1 + 1) (lv' := [(1, .int (x1 + 1)), (0, .ref (ad h0))]) hx hb dX8_empty_15 hl (k := 1) rfl rfl (by decide) rfl (fun ls hl => ?_)
    refine lv_goto (tgt := 2) hx hb dX8_empty_18 (by decide) ?_
    exact hY 2 [x1 + 1] [] s1 hv _ _ rfl H locs ls hP hS (lv_sub hl [1, 0] rfl)
set_option maxHeartbeats 4000000 in
set_option maxRecDepth 100000 in
theorem w_X8_empty_23 {p : Program} {l : Launch} {e : Env} {s : State} {m : MethodId} {args : Array Value} {below : List Frame} {meth : Method} {c : Code} {dC : Nat → ClassId} {dI : Nat → Nat → Nat} {ad : Nat → Nat} {cA cZ : ClassId} (hi : Inj 81 ad) (h0 : Nat) (hh0 : isSt h0) (C0 : Cx cX8_empty RX8 wsX8_empty 2 none p s m args meth c) (hK : KK dC dI cA cZ s) (Q : St → Prop) (Y : Nat → List Int32 → List Int64 → St → Prop) (hY : ∀ P xs ys σ, Y P xs ys σ → XX p l e ({ frames := 0, cells := 0, slots := 0, locals := 0 } : Room) s m args below meth c (dC, dI) 81 ad (celC ad cA) 2 (ZV below args s (dC, dI) 81 ad (celC ad cA) Q) (lay_X8_empty ad h0) P xs ys σ) (x1 : Int32) (s0 : St) (hv : B_X8_empty_23 h0 Q Y x1 s0) {H : Heap} {locs : List Loc} {ls : Array Slot} (hP : va_P (dC, dI) vwCl (wd 81 ad (celC ad cA) s0) H) (hS : va_S (AA 81 ad s.heap.size) s.heap H locs) (hl : lv_has ls 2 [(0, .ref (ad h0)), (1, .int x1)]) : W p l e ({ frames := 0, cells := 0, slots := 0, locals := 0 } : Room) s m args below meth c H locs 0 0 (ZV below args s (dC, dI) 81 ad (celC ad cA) Q) (F0 m 23 ls []) := by
  obtain ⟨hx, hb, hml, hown, hts, hr, hlocks⟩ := C0
  have hD := wd_D (s := s) (cel := celC ad cA) (σ := s0) hi
  unfold B_X8_empty_23 at hv
  refine lv_iload_n hx hb dX8_empty_23 rfl (lv_at hl 1 rfl) ?_
  refine lv_bipush (v := 23) hx hb dX8_empty_24 (by decide) ?_
  refine lv_icmp_gt (tgt := 42) hx hb dX8_empty_26 (by decide) (fun c26 => ?_) (fun c26 => ?_)
  · have hv := hv.1 c26
    refine lv_aload_n hx hb dX8_empty_42 rfl (lv_at hl 0 rfl) ?_
    refine lv_iconst (v := 0) hx hb dX8_empty_43 (by decide) ?_
    refine r_put hx hb hts (iwX8_empty_X8) tyX8 tyX8_ok nmX8 hown hK.1 hP hD hS h0 (ltSt_0 hh0) (ceSt_0 hh0 (s0 h0)) rfl 8 (by decide) (hts _ kX8_empty_3) rfl (ty := .int) (v := .int 0) (by decide +kernel) rfl rfl (Nat.le_of_ble_eq_true rfl) (row := (upd (s0 h0) 8 0)) (by rw [(ceSt_0 hh0 (upd (s0 h0) 8 0))]; rfl) dX8_empty_44 (fun H locs s1 es1 hP hD hS => ?_)
    have hv := hv s1 es1
    refine lv_aload_n hx hb dX8_empty_47 rfl (lv_at hl 0 rfl) ?_
    refine lv_iconst (v := 0) hx hb dX8_empty_48 (by decide) ?_
    refine r_put hx hb hts (iwX8_empty_X8) tyX8 tyX8_ok nmX8 hown hK.1 hP hD hS h0 (ltSt_0 hh0) (ceSt_0 hh0 (s1 h0)) rfl 9 (by decide) (hts _ kX8_empty_4) rfl (ty := .int) (v := .int 0) (by decide +kernel) rfl rfl (Nat.le_of_ble_eq_true rfl) (row := (upd (s1 h0) 9 0)) (by rw [(ceSt_0 hh0 (upd (s1 h0) 9 0))]; rfl) dX8_empty_49 (fun H locs s2 es2 hP hD hS => ?_)
    have hv := hv s2 es2
    refine lv_aload_n hx hb dX8_empty_52 rfl (lv_at hl 0 rfl) ?_
    refine lv_iconst (v := 0) hx hb dX8_empty_53 (by decide) ?_
    refine r_put hx hb hts (iwX8_empty_X8) tyX8 tyX8_ok nmX8 hown hK.1 hP hD hS h0 (ltSt_0 hh0) (ceSt_0 hh0 (s2 h0)) rfl 10 (by decide) (hts _ kX8_empty_5) rfl (ty := .int) (v := .int 0) (by decide +kernel) rfl rfl (Nat.le_of_ble_eq_true rfl) (row := (upd (s2 h0) 10 0)) (by rw [(ceSt_0 hh0 (upd (s2 h0) 10 0))]; rfl) dX8_empty_54 (fun H locs s3 es3 hP hD hS => ?_)
    have hv := hv s3 es3
    refine lv_aload_n hx hb dX8_empty_57 rfl (lv_at hl 0 rfl) ?_
    refine lv_iconst (v := 0) hx hb dX8_empty_58 (by decide) ?_
    refine r_put hx hb hts (iwX8_empty_X8) tyX8 tyX8_ok nmX8 hown hK.1 hP hD hS h0 (ltSt_0 hh0) (ceSt_0 hh0 (s3 h0)) rfl 11 (by decide) (hts _ kX8_empty_6) rfl (ty := .int) (v := .int 0) (by decide +kernel) rfl rfl (Nat.le_of_ble_eq_true rfl) (row := (upd (s3 h0) 11 0)) (by rw [(ceSt_0 hh0 (upd (s3 h0) 11 0))]; rfl) dX8_empty_59 (fun H locs s4 es4 hP hD hS => ?_)
    have hv := hv s4 es4
    exact r_vret hx hb hr hlocks hv hP hS dX8_empty_62
  · have hv := hv.2 c26
    refine lv_aload_n hx hb dX8_empty_29 rfl (lv_at hl 0 rfl) ?_
    refine r_get hx hb hts (iwX8_empty_X8) hown hK.1 hP h0 (ltSt_0 hh0) (ceSt_0 hh0 (s0 h0)) rfl 6 (by decide) (hts _ kX8_empty_2) (v := .ref (ad (h0 + 7))) rfl dX8_empty_30 ?_
    refine lv_iload_n hx hb dX8_empty_33 rfl (lv_at hl 1 rfl) ?_
    refine lv_iconst (v := 0) hx hb dX8_empty_34 (by decide) ?_
    obtain ⟨hin, hv⟩ := hv
    refine r_iast hx hb hK.1 hP hD hS (h0 + 7) (ltSt_7 hh0) (ceSt_7 hh0 (s0 (h0 + 7))) (ceSt_7 hh0 _) hin dX8_empty_35 (fun H locs s5 es5 hP hD hS => ?_)
    have hv := hv s5 es5
    refine lv_iinc (v := x1 + 1) (lv' := [(1, .int (x1 + 1)), (0, .ref (ad h0))]) hx hb dX8_empty_36 hl (k := 1) rfl rfl (by decide) rfl (fun ls hl => ?_)
    refine lv_goto (tgt := 23) hx hb dX8_empty_39 (by decide) ?_
    exact hY 23 [x1 + 1] [] s5 hv _ _ rfl H locs ls hP hS (lv_sub hl [1, 0] rfl)
set_option maxHeartbeats 4000000 in
theorem y_X8_empty {p : Program} {l : Launch} {e : Env} {s : State} {m : MethodId} {args : Array Value} {below : List Frame} {meth : Method} {c : Code} {dC : Nat → ClassId} {dI : Nat → Nat → Nat} {ad : Nat → Nat} {cA cZ : ClassId} (hi : Inj 81 ad) (h0 : Nat) (hh0 : isSt h0) (C0 : Cx cX8_empty RX8 wsX8_empty 2 none p s m args meth c) (hK : KK dC dI cA cZ s) (Q : St → Prop) : ∀ P xs ys σ, R_X8_empty h0 Q P xs ys σ → XX p l e ({ frames := 0, cells := 0, slots := 0, locals := 0 } : Room) s m args below meth c (dC, dI) 81 ad (celC ad cA) 2 (ZV below args s (dC, dI) 81 ad (celC ad cA) Q) (lay_X8_empty ad h0) P xs ys σ := by
  refine Fx.elim _ (fun P xs ys σ Y hY hB => ?_)
  rcases hB with ⟨rfl, x1, rfl, rfl, hB⟩ | ⟨rfl, x1, rfl, rfl, hB⟩
  · intro lv st he H locs ls hP hS hl
    cases he
    exact w_X8_empty_2 hi h0 hh0 C0 hK Q Y hY x1 σ hB hP hS hl
  · intro lv st he H locs ls hP hS hl
    cases he
    exact w_X8_empty_23 hi h0 hh0 C0 hK Q Y hY x1 σ hB hP hS hl
set_option maxHeartbeats 4000000 in
theorem c_X8_empty {l : Launch} {dC : Nat → ClassId} {dI : Nat → Nat → Nat} {ad : Nat → Nat} {cA cZ : ClassId} (hi : Inj 81 ad) (h0 : Nat) (hh0 : isSt h0) (s0 : St) (Q : St → Prop) (hv : V_X8_empty h0 s0 Q) (sz : Nat) : Met l yX8_empty wsX8_empty ({ frames := 0, cells := 0, slots := 0, locals := 0 } : Room) (va_Pc [.ref (ad h0)] (PW dC dI ad cA cZ 81 (celC ad cA) sz s0)) (va_Qv Q (fun u t => va_P (dC, dI) vwCl (wd 81 ad (celC ad cA) u) t.heap) (AA 81 ad sz)) 0 0 (AA 81 ad sz) := by
  refine Met.ofW (cc := cX8_empty) (maxL := 2) (ret := none) (by decide) rfl ?_
  intro p e s m args below meth c s₁ B hml hv0
  obtain ⟨rfl, hsz, hP, hK⟩ := hv0
  subst hsz
  have C0 : Cx cX8_empty RX8 wsX8_empty 2 none p s m ([.ref (ad h0)] : List Value).toArray meth c := ⟨B.exec, B.bytes, hml, findClass_of_methodNamed B.named, atoms_spec (ws := wsX8_empty) B.pre, B.returns, B.notSynchronized⟩
  have hl := lv_entry ([.ref (ad h0)]) (n := 2) (Nat.le_of_ble_eq_true rfl)
  rw [lg_entry_eq]
  generalize (lg_sl ([.ref (ad h0)]) ++ List.replicate (2 - (lg_sl ([.ref (ad h0)])).length) Slot.unset).toArray = ls at hl ⊢
  have hl : lv_has ls 2 [(0, .ref (ad h0))] := hl
  exact w_X8_empty_e hi h0 hh0 C0 hK Q (R_X8_empty h0 Q) (y_X8_empty hi h0 hh0 C0 hK Q)  s0 hv hP va_S.rf hl
def lay_X6_empty (ad : Nat → Nat) (h0 : Nat) : Nat → List Int32 → List Int64 → Option (List (Nat × Value) × List Value) := fun P xs ys => match P, xs, ys with
  | _, _, _ => none
set_option maxHeartbeats 4000000 in
set_option maxRecDepth 100000 in
theorem w_X6_empty_e {p : Program} {l : Launch} {e : Env} {s : State} {m : MethodId} {args : Array Value} {below : List Frame} {meth : Method} {c : Code} {dC : Nat → ClassId} {dI : Nat → Nat → Nat} {ad : Nat → Nat} {cA cZ : ClassId} (hi : Inj 81 ad) (h0 : Nat) (hh0 : isRo h0) (C0 : Cx cX6_empty RX6 wsX6_empty 2 (some .int) p s m args meth c) (hK : KK dC dI cA cZ s) (Q : Int32 → St → Prop) (Y : Nat → List Int32 → List Int64 → St → Prop) (hY : ∀ P xs ys σ, Y P xs ys σ → XX p l e ({ frames := 0, cells := 0, slots := 0, locals := 0 } : Room) s m args below meth c (dC, dI) 81 ad (celC ad cA) 2 (ZI below args s (dC, dI) 81 ad (celC ad cA) Q) (lay_X6_empty ad h0) P xs ys σ)  (s0 : St) (hv : B_X6_empty_e h0 Q Y  s0) {H : Heap} {locs : List Loc} {ls : Array Slot} (hP : va_P (dC, dI) vwCl (wd 81 ad (celC ad cA) s0) H) (hS : va_S (AA 81 ad s.heap.size) s.heap H locs) (hl : lv_has ls 2 [(0, .ref (ad h0))]) : W p l e ({ frames := 0, cells := 0, slots := 0, locals := 0 } : Room) s m args below meth c H locs 0 0 (ZI below args s (dC, dI) 81 ad (celC ad cA) Q) (F0 m 0 ls []) := by
  obtain ⟨hx, hb, hml, hown, hts, hr, hlocks⟩ := C0
  have hD := wd_D (s := s) (cel := celC ad cA) (σ := s0) hi
  unfold B_X6_empty_e at hv
  refine lv_aload_n hx hb dX6_empty_0 rfl (lv_at hl 0 rfl) ?_
  refine r_get hx hb hts (iwX6_empty_X6) hown hK.1 hP h0 (ltRo_0 hh0) (ceRo_0 hh0 (s0 h0)) rfl 3 (by decide) (hts _ kX6_empty_1) (v := .int (s0 h0 3)) rfl dX6_empty_1 ?_
  refine lv_istore_n (lv' := [(1, .int (s0 h0 3)), (0, .ref (ad h0))]) hx hb dX6_empty_4 rfl hl (by decide) rfl (fun ls hl => ?_)
  refine lv_aload_n hx hb dX6_empty_5 rfl (lv_at hl 1 rfl) ?_
  refine lv_iconst (v := 0) hx hb dX6_empty_6 (by decide) ?_
  refine r_put hx hb hts (iwX6_empty_X6) tyX6 tyX6_ok nmX6 hown hK.1 hP hD hS h0 (ltRo_0 hh0) (ceRo_0 hh0 (s0 h0)) rfl 3 (by decide) (hts _ kX6_empty_1) rfl (ty := .int) (v := .int 0) (by decide +kernel) rfl rfl (Nat.le_of_ble_eq_true rfl) (row := (upd (s0 h0) 3 0)) (by rw [(ceRo_0 hh0 (upd (s0 h0) 3 0))]; rfl) dX6_empty_7 (fun H locs s1 es1 hP hD hS => ?_)
  have hv := hv s1 es1
  refine lv_iload_n hx hb dX6_empty_10 rfl (lv_at hl 0 rfl) ?_
  exact r_iret hx hb hr hlocks hv hP hS dX6_empty_11
set_option maxHeartbeats 4000000 in
theorem y_X6_empty {p : Program} {l : Launch} {e : Env} {s : State} {m : MethodId} {args : Array Value} {below : List Frame} {meth : Method} {c : Code} {dC : Nat → ClassId} {dI : Nat → Nat → Nat} {ad : Nat → Nat} {cA cZ : ClassId} (hi : Inj 81 ad) (h0 : Nat) (hh0 : isRo h0) (C0 : Cx cX6_empty RX6 wsX6_empty 2 (some .int) p s m args meth c) (hK : KK dC dI cA cZ s) (Q : Int32 → St → Prop) : ∀ P xs ys σ, R_X6_empty h0 Q P xs ys σ → XX p l e ({ frames := 0, cells := 0, slots := 0, locals := 0 } : Room) s m args below meth c (dC, dI) 81 ad (celC ad cA) 2 (ZI below args s (dC, dI) 81 ad (celC ad cA) Q) (lay_X6_empty ad h0) P xs ys σ := by
  refine Fx.elim _ (fun P xs ys σ Y hY hB => ?_)
  exact hB.elim
set_option maxHeartbeats 4000000 in
theorem c_X6_empty {l : Launch} {dC : Nat → ClassId} {dI : Nat → Nat → Nat} {ad : Nat → Nat} {cA cZ : ClassId} (hi : Inj 81 ad) (h0 : Nat) (hh0 : isRo h0) (s0 : St) (Q : Int32 → St → Prop) (hv : V_X6_empty h0 s0 Q) (sz : Nat) : Met l yX6_empty wsX6_empty ({ frames := 0, cells := 0, slots := 0, locals := 0 } : Room) (va_Pc [.ref (ad h0)] (PW dC dI ad cA cZ 81 (celC ad cA) sz s0)) (va_Qi Q (fun u t => va_P (dC, dI) vwCl (wd 81 ad (celC ad cA) u) t.heap) (AA 81 ad sz)) 0 0 (AA 81 ad sz) := by
  refine Met.ofW (cc := cX6_empty) (maxL := 2) (ret := (some .int)) (by decide) rfl ?_
  intro p e s m args below meth c s₁ B hml hv0
  obtain ⟨rfl, hsz, hP, hK⟩ := hv0
  subst hsz
  have C0 : Cx cX6_empty RX6 wsX6_empty 2 (some .int) p s m ([.ref (ad h0)] : List Value).toArray meth c := ⟨B.exec, B.bytes, hml, findClass_of_methodNamed B.named, atoms_spec (ws := wsX6_empty) B.pre, B.returns, B.notSynchronized⟩
  have hl := lv_entry ([.ref (ad h0)]) (n := 2) (Nat.le_of_ble_eq_true rfl)
  rw [lg_entry_eq]
  generalize (lg_sl ([.ref (ad h0)]) ++ List.replicate (2 - (lg_sl ([.ref (ad h0)])).length) Slot.unset).toArray = ls at hl ⊢
  have hl : lv_has ls 2 [(0, .ref (ad h0))] := hl
  exact w_X6_empty_e hi h0 hh0 C0 hK Q (R_X6_empty h0 Q) (y_X6_empty hi h0 hh0 C0 hK Q)  s0 hv hP va_S.rf hl
def lay_X7_empty (ad : Nat → Nat) (h0 : Nat) : Nat → List Int32 → List Int64 → Option (List (Nat × Value) × List Value) := fun P xs ys => match P, xs, ys with
  | _, _, _ => none
set_option maxHeartbeats 4000000 in
set_option maxRecDepth 100000 in
theorem w_X7_empty_e {p : Program} {l : Launch} {e : Env} {s : State} {m : MethodId} {args : Array Value} {below : List Frame} {meth : Method} {c : Code} {dC : Nat → ClassId} {dI : Nat → Nat → Nat} {ad : Nat → Nat} {cA cZ : ClassId} (hi : Inj 81 ad) (h0 : Nat) (hh0 : isSc h0) (C0 : Cx cX7_empty RX7 wsX7_empty 1 none p s m args meth c) (hK : KK dC dI cA cZ s) (Q : St → Prop) (Y : Nat → List Int32 → List Int64 → St → Prop) (hY : ∀ P xs ys σ, Y P xs ys σ → XX p l e ({ frames := 1, cells := 0, slots := 0, locals := 21 } : Room) s m args below meth c (dC, dI) 81 ad (celC ad cA) 1 (ZV below args s (dC, dI) 81 ad (celC ad cA) Q) (lay_X7_empty ad h0) P xs ys σ)  (s0 : St) (hv : B_X7_empty_e h0 Q Y  s0) {H : Heap} {locs : List Loc} {ls : Array Slot} (hP : va_P (dC, dI) vwCl (wd 81 ad (celC ad cA) s0) H) (hS : va_S (AA 81 ad s.heap.size) s.heap H locs) (hl : lv_has ls 1 [(0, .ref (ad h0))]) : W p l e ({ frames := 1, cells := 0, slots := 0, locals := 21 } : Room) s m args below meth c H locs 0 0 (ZV below args s (dC, dI) 81 ad (celC ad cA) Q) (F0 m 0 ls []) := by
  obtain ⟨hx, hb, hml, hown, hts, hr, hlocks⟩ := C0
  have hD := wd_D (s := s) (cel := celC ad cA) (σ := s0) hi
  unfold B_X7_empty_e at hv
  refine lv_aload_n hx hb dX7_empty_0 rfl (lv_at hl 0 rfl) ?_
  refine r_get hx hb hts (iwX7_empty_X7) hown hK.1 hP h0 (ltSc_0 hh0) (ceSc_0 hh0 (s0 h0)) rfl 0 (by decide) (hts _ kX7_empty_1) (v := .ref (ad (h0 + 1))) rfl dX7_empty_1 ?_
  refine r_cv (va_runV (As := []) (rest := []) ⟨hx, hb, hml, hown, hts⟩ (c_X8_empty hi (h0 + 1) (vSc1 hh0) s0 _ hv H.size) (cwV 0 hts gX7_empty_X8_empty rfl rfl rfl (by decide +kernel) ⟨Nat.le_of_ble_eq_true rfl, Nat.le_of_ble_eq_true rfl⟩) ⟨pre_blind, r_recv hK.1 hP (h0 + 1) (ltSt_0 (vSc1 hh0)) (ceSt_0 (vSc1 hh0) (s0 (h0 + 1))) rfl, pre_of hP hK⟩ rfl rfl hl.1 rfl (lv_room (Nat.le_of_ble_eq_true rfl)) dX7_empty_4 ⟨Nat.zero_le _, Nat.zero_le _⟩) hS (fun s1 H locs hv hP hS => ?_)
  have hD := wd_D (s := s) (cel := celC ad cA) (σ := s1) hi
  refine lv_aload_n hx hb dX7_empty_7 rfl (lv_at hl 0 rfl) ?_
  refine r_get hx hb hts (iwX7_empty_X7) hown hK.1 hP h0 (ltSc_0 hh0) (ceSc_0 hh0 (s1 h0)) rfl 1 (by decide) (hts _ kX7_empty_2) (v := .ref (ad (h0 + 10))) rfl dX7_empty_8 ?_
  refine lv_iconst (v := 0) hx hb dX7_empty_11 (by decide) ?_
  refine r_put hx hb hts (iwX7_empty_X4) tyX4 tyX4_ok nmX4 hown hK.1 hP hD hS (h0 + 10) (ltPa_0 (vSc10 hh0)) (cePa_0 (vSc10 hh0) (s1 (h0 + 10))) rfl 1 (by decide) (hts _ kX7_empty_3) rfl (ty := .int) (v := .int 0) (by decide +kernel) rfl rfl (Nat.le_of_ble_eq_true rfl) (row := (upd (s1 (h0 + 10)) 1 0)) (by rw [(cePa_0 (vSc10 hh0) (upd (s1 (h0 + 10)) 1 0))]; rfl) dX7_empty_12 (fun H locs s2 es2 hP hD hS => ?_)
  have hv := hv s2 es2
  refine lv_aload_n hx hb dX7_empty_15 rfl (lv_at hl 0 rfl) ?_
  refine r_get hx hb hts (iwX7_empty_X7) hown hK.1 hP h0 (ltSc_0 hh0) (ceSc_0 hh0 (s2 h0)) rfl 2 (by decide) (hts _ kX7_empty_4) (v := .ref (ad (h0 + 12))) rfl dX7_empty_16 ?_
  refine r_ci (va_runV (As := []) (rest := []) ⟨hx, hb, hml, hown, hts⟩ (c_X6_empty hi (h0 + 12) (vSc12 hh0) s2 _ hv H.size) (cwV 0 hts gX7_empty_X6_empty rfl rfl rfl (by decide +kernel) ⟨Nat.le_of_ble_eq_true rfl, Nat.le_of_ble_eq_true rfl⟩) ⟨pre_blind, r_recv hK.1 hP (h0 + 12) (ltRo_0 (vSc12 hh0)) (ceRo_0 (vSc12 hh0) (s2 (h0 + 12))) rfl, pre_of hP hK⟩ rfl rfl hl.1 rfl (lv_room (Nat.le_of_ble_eq_true rfl)) dX7_empty_19 ⟨Nat.zero_le _, Nat.zero_le _⟩) hS (fun r3 s3 H locs hv hP hS => ?_)
  have hD := wd_D (s := s) (cel := celC ad cA) (σ := s3) hi
  refine lv_pop hx hb dX7_empty_22 rfl ?_
  refine lv_aload_n hx hb dX7_empty_23 rfl (lv_at hl 0 rfl) ?_
  refine r_get hx hb hts (iwX7_empty_X7) hown hK.1 hP h0 (ltSc_0 hh0) (ceSc_0 hh0 (s3 h0)) rfl 3 (by decide) (hts _ kX7_empty_5) (v := .ref (ad (h0 + 14))) rfl dX7_empty_24 ?_
  refine r_ci (va_runV (As := []) (rest := []) ⟨hx, hb, hml, hown, hts⟩ (c_X6_empty hi (h0 + 14) (vSc14 hh0) s3 _ hv H.size) (cwV 0 hts gX7_empty_X6_empty rfl rfl rfl (by decide +kernel) ⟨Nat.le_of_ble_eq_true rfl, Nat.le_of_ble_eq_true rfl⟩) ⟨pre_blind, r_recv hK.1 hP (h0 + 14) (ltRo_0 (vSc14 hh0)) (ceRo_0 (vSc14 hh0) (s3 (h0 + 14))) rfl, pre_of hP hK⟩ rfl rfl hl.1 rfl (lv_room (Nat.le_of_ble_eq_true rfl)) dX7_empty_27 ⟨Nat.zero_le _, Nat.zero_le _⟩) hS (fun r4 s4 H locs hv hP hS => ?_)
  have hD := wd_D (s := s) (cel := celC ad cA) (σ := s4) hi
  refine lv_pop hx hb dX7_empty_30 rfl ?_
  refine lv_aload_n hx hb dX7_empty_31 rfl (lv_at hl 0 rfl) ?_
  refine r_get hx hb hts (iwX7_empty_X7) hown hK.1 hP h0 (ltSc_0 hh0) (ceSc_0 hh0 (s4 h0)) rfl 4 (by decide) (hts _ kX7_empty_6) (v := .ref (ad (h0 + 16))) rfl dX7_empty_32 ?_
  refine r_ci (va_runV (As := []) (rest := []) ⟨hx, hb, hml, hown, hts⟩ (c_X6_empty hi (h0 + 16) (vSc16 hh0) s4 _ hv H.size) (cwV 0 hts gX7_empty_X6_empty rfl rfl rfl (by decide +kernel) ⟨Nat.le_of_ble_eq_true rfl, Nat.le_of_ble_eq_true rfl⟩) ⟨pre_blind, r_recv hK.1 hP (h0 + 16) (ltRo_0 (vSc16 hh0)) (ceRo_0 (vSc16 hh0) (s4 (h0 + 16))) rfl, pre_of hP hK⟩ rfl rfl hl.1 rfl (lv_room (Nat.le_of_ble_eq_true rfl)) dX7_empty_35 ⟨Nat.zero_le _, Nat.zero_le _⟩) hS (fun r5 s5 H locs hv hP hS => ?_)
  have hD := wd_D (s := s) (cel := celC ad cA) (σ := s5) hi
  refine lv_pop hx hb dX7_empty_38 rfl ?_
  exact r_vret hx hb hr hlocks hv hP hS dX7_empty_39
set_option maxHeartbeats 4000000 in
theorem y_X7_empty {p : Program} {l : Launch} {e : Env} {s : State} {m : MethodId} {args : Array Value} {below : List Frame} {meth : Method} {c : Code} {dC : Nat → ClassId} {dI : Nat → Nat → Nat} {ad : Nat → Nat} {cA cZ : ClassId} (hi : Inj 81 ad) (h0 : Nat) (hh0 : isSc h0) (C0 : Cx cX7_empty RX7 wsX7_empty 1 none p s m args meth c) (hK : KK dC dI cA cZ s) (Q : St → Prop) : ∀ P xs ys σ, R_X7_empty h0 Q P xs ys σ → XX p l e ({ frames := 1, cells := 0, slots := 0, locals := 21 } : Room) s m args below meth c (dC, dI) 81 ad (celC ad cA) 1 (ZV below args s (dC, dI) 81 ad (celC ad cA) Q) (lay_X7_empty ad h0) P xs ys σ := by
  refine Fx.elim _ (fun P xs ys σ Y hY hB => ?_)
  exact hB.elim
set_option maxHeartbeats 4000000 in
theorem c_X7_empty {l : Launch} {dC : Nat → ClassId} {dI : Nat → Nat → Nat} {ad : Nat → Nat} {cA cZ : ClassId} (hi : Inj 81 ad) (h0 : Nat) (hh0 : isSc h0) (s0 : St) (Q : St → Prop) (hv : V_X7_empty h0 s0 Q) (sz : Nat) : Met l yX7_empty wsX7_empty ({ frames := 1, cells := 0, slots := 0, locals := 21 } : Room) (va_Pc [.ref (ad h0)] (PW dC dI ad cA cZ 81 (celC ad cA) sz s0)) (va_Qv Q (fun u t => va_P (dC, dI) vwCl (wd 81 ad (celC ad cA) u) t.heap) (AA 81 ad sz)) 0 0 (AA 81 ad sz) := by
  refine Met.ofW (cc := cX7_empty) (maxL := 1) (ret := none) (by decide) rfl ?_
  intro p e s m args below meth c s₁ B hml hv0
  obtain ⟨rfl, hsz, hP, hK⟩ := hv0
  subst hsz
  have C0 : Cx cX7_empty RX7 wsX7_empty 1 none p s m ([.ref (ad h0)] : List Value).toArray meth c := ⟨B.exec, B.bytes, hml, findClass_of_methodNamed B.named, atoms_spec (ws := wsX7_empty) B.pre, B.returns, B.notSynchronized⟩
  have hl := lv_entry ([.ref (ad h0)]) (n := 1) (Nat.le_of_ble_eq_true rfl)
  rw [lg_entry_eq]
  generalize (lg_sl ([.ref (ad h0)]) ++ List.replicate (1 - (lg_sl ([.ref (ad h0)])).length) Slot.unset).toArray = ls at hl ⊢
  have hl : lv_has ls 1 [(0, .ref (ad h0))] := hl
  exact w_X7_empty_e hi h0 hh0 C0 hK Q (R_X7_empty h0 Q) (y_X7_empty hi h0 hh0 C0 hK Q)  s0 hv hP va_S.rf hl
def lay_X10_street (ad : Nat → Nat)  : Nat → List Int32 → List Int64 → Option (List (Nat × Value) × List Value) := fun P xs ys => match P, xs, ys with
  | _, _, _ => none
set_option maxHeartbeats 4000000 in
set_option maxRecDepth 100000 in
theorem w_X10_street_e {p : Program} {l : Launch} {e : Env} {s : State} {m : MethodId} {args : Array Value} {below : List Frame} {meth : Method} {c : Code} {dC : Nat → ClassId} {dI : Nat → Nat → Nat} {ad : Nat → Nat} {cA cZ : ClassId} (hi : Inj 81 ad)   (C0 : Cx cX10_street RX10 wsX10_street 2 (some .int) p s m args meth c) (hK : KK dC dI cA cZ s) (Q : Int32 → St → Prop) (Y : Nat → List Int32 → List Int64 → St → Prop) (hY : ∀ P xs ys σ, Y P xs ys σ → XX p l e ({ frames := 2, cells := 0, slots := 0, locals := 41 } : Room) s m args below meth c (dC, dI) 81 ad (celC ad cA) 2 (ZI below args s (dC, dI) 81 ad (celC ad cA) Q) (lay_X10_street ad ) P xs ys σ)  (s0 : St) (hv : B_X10_street_e  Q Y  s0) {H : Heap} {locs : List Loc} {ls : Array Slot} (hP : va_P (dC, dI) vwCl (wd 81 ad (celC ad cA) s0) H) (hS : va_S (AA 81 ad s.heap.size) s.heap H locs) (hl : lv_has ls 2 [(0, .ref (ad 0))]) : W p l e ({ frames := 2, cells := 0, slots := 0, locals := 41 } : Room) s m args below meth c H locs 0 0 (ZI below args s (dC, dI) 81 ad (celC ad cA) Q) (F0 m 0 ls []) := by
  obtain ⟨hx, hb, hml, hown, hts, hr, hlocks⟩ := C0
  have hD := wd_D (s := s) (cel := celC ad cA) (σ := s0) hi
  unfold B_X10_street_e at hv
  refine lv_aload_n hx hb dX10_street_0 rfl (lv_at hl 0 rfl) ?_
  refine r_get hx hb hts (iwX10_street_X10) hown hK.1 hP 0 (by decide) (ceGR_0 (s0 0)) rfl 0 (by decide) (hts _ kX10_street_1) (v := .ref (ad 1)) rfl dX10_street_1 ?_
  refine r_get hx hb hts (iwX10_street_X7) hown hK.1 hP 1 (ltSc_0 vSc_1) (ceSc_0 vSc_1 (s0 1)) rfl 0 (by decide) (hts _ kX10_street_2) (v := .ref (ad 2)) rfl dX10_street_4 ?_
  refine r_get hx hb hts (iwX10_street_X8) hown hK.1 hP 2 (ltSt_0 (vSc1 vSc_1)) (ceSt_0 (vSc1 vSc_1) (s0 2)) rfl 8 (by decide) (hts _ kX10_street_3) (v := .int (s0 2 8)) rfl dX10_street_7 ?_
  refine lv_istore_n (lv' := [(1, .int (s0 2 8)), (0, .ref (ad 0))]) hx hb dX10_street_10 rfl hl (by decide) rfl (fun ls hl => ?_)
  refine lv_aload_n hx hb dX10_street_11 rfl (lv_at hl 1 rfl) ?_
  refine r_get hx hb hts (iwX10_street_X10) hown hK.1 hP 0 (by decide) (ceGR_0 (s0 0)) rfl 0 (by decide) (hts _ kX10_street_1) (v := .ref (ad 1)) rfl dX10_street_12 ?_
  refine r_cv (va_runV (As := []) (rest := []) ⟨hx, hb, hml, hown, hts⟩ (c_X7_empty hi 1 vSc_1 s0 _ hv H.size) (cwV 0 hts gX10_street_X7_empty rfl rfl rfl (by decide +kernel) ⟨Nat.le_of_ble_eq_true rfl, Nat.le_of_ble_eq_true rfl⟩) ⟨pre_blind, r_recv hK.1 hP 1 (ltSc_0 vSc_1) (ceSc_0 vSc_1 (s0 1)) rfl, pre_of hP hK⟩ rfl rfl hl.1 rfl (lv_room (Nat.le_of_ble_eq_true rfl)) dX10_street_15 ⟨Nat.zero_le _, Nat.zero_le _⟩) hS (fun s1 H locs hv hP hS => ?_)
  have hD := wd_D (s := s) (cel := celC ad cA) (σ := s1) hi
  refine lv_iload_n hx hb dX10_street_18 rfl (lv_at hl 0 rfl) ?_
  exact r_iret hx hb hr hlocks hv hP hS dX10_street_19
set_option maxHeartbeats 4000000 in
theorem y_X10_street {p : Program} {l : Launch} {e : Env} {s : State} {m : MethodId} {args : Array Value} {below : List Frame} {meth : Method} {c : Code} {dC : Nat → ClassId} {dI : Nat → Nat → Nat} {ad : Nat → Nat} {cA cZ : ClassId} (hi : Inj 81 ad)   (C0 : Cx cX10_street RX10 wsX10_street 2 (some .int) p s m args meth c) (hK : KK dC dI cA cZ s) (Q : Int32 → St → Prop) : ∀ P xs ys σ, R_X10_street  Q P xs ys σ → XX p l e ({ frames := 2, cells := 0, slots := 0, locals := 41 } : Room) s m args below meth c (dC, dI) 81 ad (celC ad cA) 2 (ZI below args s (dC, dI) 81 ad (celC ad cA) Q) (lay_X10_street ad ) P xs ys σ := by
  refine Fx.elim _ (fun P xs ys σ Y hY hB => ?_)
  exact hB.elim
set_option maxHeartbeats 4000000 in
theorem c_X10_street {l : Launch} {dC : Nat → ClassId} {dI : Nat → Nat → Nat} {ad : Nat → Nat} {cA cZ : ClassId} (hi : Inj 81 ad)   (s0 : St) (Q : Int32 → St → Prop) (hv : V_X10_street  s0 Q) (sz : Nat) : Met l yX10_street wsX10_street ({ frames := 2, cells := 0, slots := 0, locals := 41 } : Room) (va_Pc [.ref (ad 0)] (PW dC dI ad cA cZ 81 (celC ad cA) sz s0)) (va_Qi Q (fun u t => va_P (dC, dI) vwCl (wd 81 ad (celC ad cA) u) t.heap) (AA 81 ad sz)) 0 0 (AA 81 ad sz) := by
  refine Met.ofW (cc := cX10_street) (maxL := 2) (ret := (some .int)) (by decide) rfl ?_
  intro p e s m args below meth c s₁ B hml hv0
  obtain ⟨rfl, hsz, hP, hK⟩ := hv0
  subst hsz
  have C0 : Cx cX10_street RX10 wsX10_street 2 (some .int) p s m ([.ref (ad 0)] : List Value).toArray meth c := ⟨B.exec, B.bytes, hml, findClass_of_methodNamed B.named, atoms_spec (ws := wsX10_street) B.pre, B.returns, B.notSynchronized⟩
  have hl := lv_entry ([.ref (ad 0)]) (n := 2) (Nat.le_of_ble_eq_true rfl)
  rw [lg_entry_eq]
  generalize (lg_sl ([.ref (ad 0)]) ++ List.replicate (2 - (lg_sl ([.ref (ad 0)])).length) Slot.unset).toArray = ls at hl ⊢
  have hl : lv_has ls 2 [(0, .ref (ad 0))] := hl
  exact w_X10_street_e hi   C0 hK Q (R_X10_street  Q) (y_X10_street hi   C0 hK Q)  s0 hv hP va_S.rf hl
def lay_X10_within (ad : Nat → Nat) (a0 : Int32) (a1 : Int32) (a2 : Int32) : Nat → List Int32 → List Int64 → Option (List (Nat × Value) × List Value) := fun P xs ys => match P, xs, ys with
  | _, _, _ => none
set_option maxHeartbeats 4000000 in
set_option maxRecDepth 100000 in
theorem w_X10_within_e {p : Program} {l : Launch} {e : Env} {s : State} {m : MethodId} {args : Array Value} {below : List Frame} {meth : Method} {c : Code} {dC : Nat → ClassId} {dI : Nat → Nat → Nat} {ad : Nat → Nat} {cA cZ : ClassId} (hi : Inj 81 ad) (a0 : Int32) (a1 : Int32) (a2 : Int32)  (C0 : Cx cX10_within RX10 wsX10_within 3 (some .boolean) p s m args meth c) (hK : KK dC dI cA cZ s) (Q : Int32 → St → Prop) (Y : Nat → List Int32 → List Int64 → St → Prop) (hY : ∀ P xs ys σ, Y P xs ys σ → XX p l e ({ frames := 0, cells := 0, slots := 0, locals := 0 } : Room) s m args below meth c (dC, dI) 81 ad (celC ad cA) 3 (ZZ below args s (dC, dI) 81 ad (celC ad cA) Q) (lay_X10_within ad a0 a1 a2) P xs ys σ)  (s0 : St) (hv : B_X10_within_e a0 a1 a2 Q Y  s0) {H : Heap} {locs : List Loc} {ls : Array Slot} (hP : va_P (dC, dI) vwCl (wd 81 ad (celC ad cA) s0) H) (hS : va_S (AA 81 ad s.heap.size) s.heap H locs) (hl : lv_has ls 3 [(0, .int a0), (1, .int a1), (2, .int a2)]) : W p l e ({ frames := 0, cells := 0, slots := 0, locals := 0 } : Room) s m args below meth c H locs 0 0 (ZZ below args s (dC, dI) 81 ad (celC ad cA) Q) (F0 m 0 ls []) := by
  obtain ⟨hx, hb, hml, hown, hts, hr, hlocks⟩ := C0
  have hD := wd_D (s := s) (cel := celC ad cA) (σ := s0) hi
  unfold B_X10_within_e at hv
  refine lv_iload_n hx hb dX10_within_0 rfl (lv_at hl 0 rfl) ?_
  refine lv_iload_n hx hb dX10_within_1 rfl (lv_at hl 1 rfl) ?_
  refine lv_icmp_lt (tgt := 14) hx hb dX10_within_2 (by decide) (fun c2 => ?_) (fun c2 => ?_)
  · have hv := hv.1 c2
    refine lv_iconst (v := 0) hx hb dX10_within_14 (by decide) ?_
    exact r_zret hx hb hr hlocks (Or.inl rfl) hv hP hS dX10_within_15
  · have hv := hv.2 c2
    refine lv_iload_n hx hb dX10_within_5 rfl (lv_at hl 0 rfl) ?_
    refine lv_iload_n hx hb dX10_within_6 rfl (lv_at hl 2 rfl) ?_
    refine lv_icmp_gt (tgt := 14) hx hb dX10_within_7 (by decide) (fun c7 => ?_) (fun c7 => ?_)
    · have hv := hv.1 c7
      refine lv_iconst (v := 0) hx hb dX10_within_14 (by decide) ?_
      exact r_zret hx hb hr hlocks (Or.inl rfl) hv hP hS dX10_within_15
    · have hv := hv.2 c7
      refine lv_iconst (v := 1) hx hb dX10_within_10 (by decide) ?_
      refine lv_goto (tgt := 15) hx hb dX10_within_11 (by decide) ?_
      exact r_zret hx hb hr hlocks (Or.inr rfl) hv hP hS dX10_within_15
set_option maxHeartbeats 4000000 in
theorem y_X10_within {p : Program} {l : Launch} {e : Env} {s : State} {m : MethodId} {args : Array Value} {below : List Frame} {meth : Method} {c : Code} {dC : Nat → ClassId} {dI : Nat → Nat → Nat} {ad : Nat → Nat} {cA cZ : ClassId} (hi : Inj 81 ad) (a0 : Int32) (a1 : Int32) (a2 : Int32)  (C0 : Cx cX10_within RX10 wsX10_within 3 (some .boolean) p s m args meth c) (hK : KK dC dI cA cZ s) (Q : Int32 → St → Prop) : ∀ P xs ys σ, R_X10_within a0 a1 a2 Q P xs ys σ → XX p l e ({ frames := 0, cells := 0, slots := 0, locals := 0 } : Room) s m args below meth c (dC, dI) 81 ad (celC ad cA) 3 (ZZ below args s (dC, dI) 81 ad (celC ad cA) Q) (lay_X10_within ad a0 a1 a2) P xs ys σ := by
  refine Fx.elim _ (fun P xs ys σ Y hY hB => ?_)
  exact hB.elim
set_option maxHeartbeats 4000000 in
theorem c_X10_within {l : Launch} {dC : Nat → ClassId} {dI : Nat → Nat → Nat} {ad : Nat → Nat} {cA cZ : ClassId} (hi : Inj 81 ad) (a0 : Int32) (a1 : Int32) (a2 : Int32)  (s0 : St) (Q : Int32 → St → Prop) (hv : V_X10_within a0 a1 a2 s0 Q) (sz : Nat) : Met l yX10_within wsX10_within ({ frames := 0, cells := 0, slots := 0, locals := 0 } : Room) (va_Pc [.int a0, .int a1, .int a2] (PW dC dI ad cA cZ 81 (celC ad cA) sz s0)) (va_Qi (fun r u => (r = 0 ∨ r = 1) ∧ Q r u) (fun u t => va_P (dC, dI) vwCl (wd 81 ad (celC ad cA) u) t.heap) (AA 81 ad sz)) 0 0 (AA 81 ad sz) := by
  refine Met.ofW (cc := cX10_within) (maxL := 3) (ret := (some .boolean)) (by decide) rfl ?_
  intro p e s m args below meth c s₁ B hml hv0
  obtain ⟨rfl, hsz, hP, hK⟩ := hv0
  subst hsz
  have C0 : Cx cX10_within RX10 wsX10_within 3 (some .boolean) p s m ([.int a0, .int a1, .int a2] : List Value).toArray meth c := ⟨B.exec, B.bytes, hml, findClass_of_methodNamed B.named, atoms_spec (ws := wsX10_within) B.pre, B.returns, B.notSynchronized⟩
  have hl := lv_entry ([.int a0, .int a1, .int a2]) (n := 3) (Nat.le_of_ble_eq_true rfl)
  rw [lg_entry_eq]
  generalize (lg_sl ([.int a0, .int a1, .int a2]) ++ List.replicate (3 - (lg_sl ([.int a0, .int a1, .int a2])).length) Slot.unset).toArray = ls at hl ⊢
  have hl : lv_has ls 3 [(0, .int a0), (1, .int a1), (2, .int a2)] := hl
  exact w_X10_within_e hi a0 a1 a2  C0 hK Q (R_X10_within a0 a1 a2 Q) (y_X10_within hi a0 a1 a2  C0 hK Q)  s0 hv hP va_S.rf hl
def lay_X10_bad (ad : Nat → Nat)  : Nat → List Int32 → List Int64 → Option (List (Nat × Value) × List Value) := fun P xs ys => match P, xs, ys with
  | _, _, _ => none
set_option maxHeartbeats 4000000 in
set_option maxRecDepth 100000 in
theorem w_X10_bad_e {p : Program} {l : Launch} {e : Env} {s : State} {m : MethodId} {args : Array Value} {below : List Frame} {meth : Method} {c : Code} {dC : Nat → ClassId} {dI : Nat → Nat → Nat} {ad : Nat → Nat} {cA cZ : ClassId} (hi : Inj 81 ad)   (C0 : Cx cX10_bad RX10 wsX10_bad 1 (some .int) p s m args meth c) (hK : KK dC dI cA cZ s) (Q : Int32 → St → Prop) (Y : Nat → List Int32 → List Int64 → St → Prop) (hY : ∀ P xs ys σ, Y P xs ys σ → XX p l e ({ frames := 0, cells := 0, slots := 0, locals := 0 } : Room) s m args below meth c (dC, dI) 81 ad (celC ad cA) 1 (ZI below args s (dC, dI) 81 ad (celC ad cA) Q) (lay_X10_bad ad ) P xs ys σ)  (s0 : St) (hv : B_X10_bad_e  Q Y  s0) {H : Heap} {locs : List Loc} {ls : Array Slot} (hP : va_P (dC, dI) vwCl (wd 81 ad (celC ad cA) s0) H) (hS : va_S (AA 81 ad s.heap.size) s.heap H locs) (hl : lv_has ls 1 [(0, .ref (ad 0))]) : W p l e ({ frames := 0, cells := 0, slots := 0, locals := 0 } : Room) s m args below meth c H locs 0 0 (ZI below args s (dC, dI) 81 ad (celC ad cA) Q) (F0 m 0 ls []) := by
  obtain ⟨hx, hb, hml, hown, hts, hr, hlocks⟩ := C0
  have hD := wd_D (s := s) (cel := celC ad cA) (σ := s0) hi
  unfold B_X10_bad_e at hv
  refine lv_aload_n hx hb dX10_bad_0 rfl (lv_at hl 0 rfl) ?_
  refine lv_dup hx hb dX10_bad_1 rfl ?_
  refine r_get hx hb hts (iwX10_bad_X10) hown hK.1 hP 0 (by decide) (ceGR_0 (s0 0)) rfl 10 (by decide) (hts _ kX10_bad_1) (v := .int (s0 0 10)) rfl dX10_bad_2 ?_
  refine lv_iconst (v := 1) hx hb dX10_bad_5 (by decide) ?_
  refine lv_iadd hx hb dX10_bad_6 ?_
  refine r_put hx hb hts (iwX10_bad_X10) tyX10 tyX10_ok nmX10 hown hK.1 hP hD hS 0 (by decide) (ceGR_0 (s0 0)) rfl 10 (by decide) (hts _ kX10_bad_1) rfl (ty := .int) (v := .int ((s0 0 10) + 1)) (by decide +kernel) rfl rfl (Nat.le_of_ble_eq_true rfl) (row := (upd (s0 0) 10 ((s0 0 10) + 1))) (by rw [(ceGR_0 (upd (s0 0) 10 ((s0 0 10) + 1)))]; rfl) dX10_bad_7 (fun H locs s1 es1 hP hD hS => ?_)
  have hv := hv s1 es1
  refine lv_bipush (v := (-2)) hx hb dX10_bad_10 (by decide) ?_
  exact r_iret hx hb hr hlocks hv hP hS dX10_bad_12
set_option maxHeartbeats 4000000 in
theorem y_X10_bad {p : Program} {l : Launch} {e : Env} {s : State} {m : MethodId} {args : Array Value} {below : List Frame} {meth : Method} {c : Code} {dC : Nat → ClassId} {dI : Nat → Nat → Nat} {ad : Nat → Nat} {cA cZ : ClassId} (hi : Inj 81 ad)   (C0 : Cx cX10_bad RX10 wsX10_bad 1 (some .int) p s m args meth c) (hK : KK dC dI cA cZ s) (Q : Int32 → St → Prop) : ∀ P xs ys σ, R_X10_bad  Q P xs ys σ → XX p l e ({ frames := 0, cells := 0, slots := 0, locals := 0 } : Room) s m args below meth c (dC, dI) 81 ad (celC ad cA) 1 (ZI below args s (dC, dI) 81 ad (celC ad cA) Q) (lay_X10_bad ad ) P xs ys σ := by
  refine Fx.elim _ (fun P xs ys σ Y hY hB => ?_)
  exact hB.elim
set_option maxHeartbeats 4000000 in
theorem c_X10_bad {l : Launch} {dC : Nat → ClassId} {dI : Nat → Nat → Nat} {ad : Nat → Nat} {cA cZ : ClassId} (hi : Inj 81 ad)   (s0 : St) (Q : Int32 → St → Prop) (hv : V_X10_bad  s0 Q) (sz : Nat) : Met l yX10_bad wsX10_bad ({ frames := 0, cells := 0, slots := 0, locals := 0 } : Room) (va_Pc [.ref (ad 0)] (PW dC dI ad cA cZ 81 (celC ad cA) sz s0)) (va_Qi Q (fun u t => va_P (dC, dI) vwCl (wd 81 ad (celC ad cA) u) t.heap) (AA 81 ad sz)) 0 0 (AA 81 ad sz) := by
  refine Met.ofW (cc := cX10_bad) (maxL := 1) (ret := (some .int)) (by decide) rfl ?_
  intro p e s m args below meth c s₁ B hml hv0
  obtain ⟨rfl, hsz, hP, hK⟩ := hv0
  subst hsz
  have C0 : Cx cX10_bad RX10 wsX10_bad 1 (some .int) p s m ([.ref (ad 0)] : List Value).toArray meth c := ⟨B.exec, B.bytes, hml, findClass_of_methodNamed B.named, atoms_spec (ws := wsX10_bad) B.pre, B.returns, B.notSynchronized⟩
  have hl := lv_entry ([.ref (ad 0)]) (n := 1) (Nat.le_of_ble_eq_true rfl)
  rw [lg_entry_eq]
  generalize (lg_sl ([.ref (ad 0)]) ++ List.replicate (1 - (lg_sl ([.ref (ad 0)])).length) Slot.unset).toArray = ls at hl ⊢
  have hl : lv_has ls 1 [(0, .ref (ad 0))] := hl
  exact w_X10_bad_e hi   C0 hK Q (R_X10_bad  Q) (y_X10_bad hi   C0 hK Q)  s0 hv hP va_S.rf hl
def lay_X10_wet (ad : Nat → Nat) (a1 : Int32) (a2 : Int32) : Nat → List Int32 → List Int64 → Option (List (Nat × Value) × List Value) := fun P xs ys => match P, xs, ys with
  | _, _, _ => none
set_option maxHeartbeats 4000000 in
set_option maxRecDepth 100000 in
theorem w_X10_wet_e {p : Program} {l : Launch} {e : Env} {s : State} {m : MethodId} {args : Array Value} {below : List Frame} {meth : Method} {c : Code} {dC : Nat → ClassId} {dI : Nat → Nat → Nat} {ad : Nat → Nat} {cA cZ : ClassId} (hi : Inj 81 ad) (a1 : Int32) (a2 : Int32)  (C0 : Cx cX10_wet RX10 wsX10_wet 4 (some .int) p s m args meth c) (hK : KK dC dI cA cZ s) (Q : Int32 → St → Prop) (Y : Nat → List Int32 → List Int64 → St → Prop) (hY : ∀ P xs ys σ, Y P xs ys σ → XX p l e ({ frames := 1, cells := 0, slots := 0, locals := 22 } : Room) s m args below meth c (dC, dI) 81 ad (celC ad cA) 4 (ZI below args s (dC, dI) 81 ad (celC ad cA) Q) (lay_X10_wet ad a1 a2) P xs ys σ)  (s0 : St) (hv : B_X10_wet_e a1 a2 Q Y  s0) {H : Heap} {locs : List Loc} {ls : Array Slot} (hP : va_P (dC, dI) vwCl (wd 81 ad (celC ad cA) s0) H) (hS : va_S (AA 81 ad s.heap.size) s.heap H locs) (hl : lv_has ls 4 [(0, .ref (ad 0)), (1, .int a1), (2, .int a2)]) : W p l e ({ frames := 1, cells := 0, slots := 0, locals := 22 } : Room) s m args below meth c H locs 0 0 (ZI below args s (dC, dI) 81 ad (celC ad cA) Q) (F0 m 0 ls []) := by
  obtain ⟨hx, hb, hml, hown, hts, hr, hlocks⟩ := C0
  have hD := wd_D (s := s) (cel := celC ad cA) (σ := s0) hi
  unfold B_X10_wet_e at hv
  refine lv_iload_n hx hb dX10_wet_0 rfl (lv_at hl 1 rfl) ?_
  refine lv_iconst (v := 0) hx hb dX10_wet_1 (by decide) ?_
  refine lv_iconst (v := 5) hx hb dX10_wet_2 (by decide) ?_
  refine r_ci (va_runS (As := [.int a1, .int 0, .int 5]) (rest := []) ⟨hx, hb, hml, hown, hts⟩ (c_X10_within hi a1 0 5 s0 _ hv H.size) (va_cwS 3 hts gX10_wet_X10_within rfl rfl rfl (by decide +kernel) ⟨Nat.le_of_ble_eq_true rfl, Nat.le_of_ble_eq_true rfl⟩) ⟨pre_blind, pre_of hP hK⟩ rfl rfl hl.1 rfl (lv_room (Nat.le_of_ble_eq_true rfl)) dX10_wet_3 ⟨Nat.zero_le _, Nat.zero_le _⟩) hS (fun r1 s1 H locs hv hP hS => ?_)
  obtain ⟨hz_r1, hv⟩ := hv
  have hD := wd_D (s := s) (cel := celC ad cA) (σ := s1) hi
  refine lv_if_eq (tgt := 18) hx hb dX10_wet_6 (by decide) (fun c6 => ?_) (fun c6 => ?_)
  · have hv := hv.1 c6
    refine lv_aload_n hx hb dX10_wet_18 rfl (lv_at hl 0 rfl) ?_
    refine r_ci (va_runV (As := []) (rest := []) ⟨hx, hb, hml, hown, hts⟩ (c_X10_bad hi  s1 _ hv H.size) (cwV 0 hts gX10_wet_X10_bad rfl rfl rfl (by decide +kernel) ⟨Nat.le_of_ble_eq_true rfl, Nat.le_of_ble_eq_true rfl⟩) ⟨pre_blind, r_recv hK.1 hP 0 (by decide) (ceGR_0 (s1 0)) rfl, pre_of hP hK⟩ rfl rfl hl.1 rfl (lv_room (Nat.le_of_ble_eq_true rfl)) dX10_wet_19 ⟨Nat.zero_le _, Nat.zero_le _⟩) hS (fun r2 s2 H locs hv hP hS => ?_)
    have hD := wd_D (s := s) (cel := celC ad cA) (σ := s2) hi
    exact r_iret hx hb hr hlocks hv hP hS dX10_wet_22
  · have hv := hv.2 c6
    refine lv_iload_n hx hb dX10_wet_9 rfl (lv_at hl 2 rfl) ?_
    refine lv_iconst (v := 0) hx hb dX10_wet_10 (by decide) ?_
    refine lv_iconst (v := 4) hx hb dX10_wet_11 (by decide) ?_
    refine r_ci (va_runS (As := [.int a2, .int 0, .int 4]) (rest := []) ⟨hx, hb, hml, hown, hts⟩ (c_X10_within hi a2 0 4 s1 _ hv H.size) (va_cwS 3 hts gX10_wet_X10_within rfl rfl rfl (by decide +kernel) ⟨Nat.le_of_ble_eq_true rfl, Nat.le_of_ble_eq_true rfl⟩) ⟨pre_blind, pre_of hP hK⟩ rfl rfl hl.1 rfl (lv_room (Nat.le_of_ble_eq_true rfl)) dX10_wet_12 ⟨Nat.zero_le _, Nat.zero_le _⟩) hS (fun r3 s3 H locs hv hP hS => ?_)
    obtain ⟨hz_r3, hv⟩ := hv
    have hD := wd_D (s := s) (cel := celC ad cA) (σ := s3) hi
    refine lv_if_ne (tgt := 23) hx hb dX10_wet_15 (by decide) (fun c15 => ?_) (fun c15 => ?_)
    · have hv := hv.1 c15
      refine lv_aload_n hx hb dX10_wet_23 rfl (lv_at hl 0 rfl) ?_
      refine r_get hx hb hts (iwX10_wet_X10) hown hK.1 hP 0 (by decide) (ceGR_0 (s3 0)) rfl 0 (by decide) (hts _ kX10_wet_1) (v := .ref (ad 1)) rfl dX10_wet_24 ?_
      refine r_get hx hb hts (iwX10_wet_X7) hown hK.1 hP 1 (ltSc_0 vSc_1) (ceSc_0 vSc_1 (s3 1)) rfl 0 (by decide) (hts _ kX10_wet_2) (v := .ref (ad 2)) rfl dX10_wet_27 ?_
      refine r_get hx hb hts (iwX10_wet_X8) hown hK.1 hP 2 (ltSt_0 (vSc1 vSc_1)) (ceSt_0 (vSc1 vSc_1) (s3 2)) rfl 0 (by decide) (hts _ kX10_wet_3) (v := .ref (ad 3)) rfl dX10_wet_30 ?_
      refine lv_iload_n hx hb dX10_wet_33 rfl (lv_at hl 1 rfl) ?_
      obtain ⟨hin, hv⟩ := hv
      refine r_iald hx hb hK.1 hP 3 (ltSt_1 (vSc1 vSc_1)) (ceSt_1 (vSc1 vSc_1) (s3 3)) hin dX10_wet_34 ?_
      refine lv_istore_n (lv' := [(3, .int (s3 3 a1.toNatClampNeg)), (0, .ref (ad 0)), (1, .int a1), (2, .int a2)]) hx hb dX10_wet_35 rfl hl (by decide) rfl (fun ls hl => ?_)
      refine lv_aload_n hx hb dX10_wet_36 rfl (lv_at hl 1 rfl) ?_
      refine r_get hx hb hts (iwX10_wet_X10) hown hK.1 hP 0 (by decide) (ceGR_0 (s3 0)) rfl 0 (by decide) (hts _ kX10_wet_1) (v := .ref (ad 1)) rfl dX10_wet_37 ?_
      refine r_get hx hb hts (iwX10_wet_X7) hown hK.1 hP 1 (ltSc_0 vSc_1) (ceSc_0 vSc_1 (s3 1)) rfl 0 (by decide) (hts _ kX10_wet_2) (v := .ref (ad 2)) rfl dX10_wet_40 ?_
      refine r_get hx hb hts (iwX10_wet_X8) hown hK.1 hP 2 (ltSt_0 (vSc1 vSc_1)) (ceSt_0 (vSc1 vSc_1) (s3 2)) rfl 0 (by decide) (hts _ kX10_wet_3) (v := .ref (ad 3)) rfl dX10_wet_43 ?_
      refine lv_iload_n hx hb dX10_wet_46 rfl (lv_at hl 2 rfl) ?_
      refine lv_iload_n hx hb dX10_wet_47 rfl (lv_at hl 3 rfl) ?_
      obtain ⟨hin, hv⟩ := hv
      refine r_iast hx hb hK.1 hP hD hS 3 (ltSt_1 (vSc1 vSc_1)) (ceSt_1 (vSc1 vSc_1) (s3 3)) (ceSt_1 (vSc1 vSc_1) _) hin dX10_wet_48 (fun H locs s4 es4 hP hD hS => ?_)
      have hv := hv s4 es4
      refine lv_aload_n hx hb dX10_wet_49 rfl (lv_at hl 1 rfl) ?_
      refine r_get hx hb hts (iwX10_wet_X10) hown hK.1 hP 0 (by decide) (ceGR_0 (s4 0)) rfl 0 (by decide) (hts _ kX10_wet_1) (v := .ref (ad 1)) rfl dX10_wet_50 ?_
      refine r_get hx hb hts (iwX10_wet_X7) hown hK.1 hP 1 (ltSc_0 vSc_1) (ceSc_0 vSc_1 (s4 1)) rfl 1 (by decide) (hts _ kX10_wet_4) (v := .ref (ad 11)) rfl dX10_wet_53 ?_
      refine lv_iconst (v := 0) hx hb dX10_wet_56 (by decide) ?_
      refine r_put hx hb hts (iwX10_wet_X4) tyX4 tyX4_ok nmX4 hown hK.1 hP hD hS 11 (ltPa_0 (vSc10 vSc_1)) (cePa_0 (vSc10 vSc_1) (s4 11)) rfl 1 (by decide) (hts _ kX10_wet_5) rfl (ty := .int) (v := .int 0) (by decide +kernel) rfl rfl (Nat.le_of_ble_eq_true rfl) (row := (upd (s4 11) 1 0)) (by rw [(cePa_0 (vSc10 vSc_1) (upd (s4 11) 1 0))]; rfl) dX10_wet_57 (fun H locs s5 es5 hP hD hS => ?_)
      have hv := hv s5 es5
      refine lv_iload_n hx hb dX10_wet_60 rfl (lv_at hl 0 rfl) ?_
      exact r_iret hx hb hr hlocks hv hP hS dX10_wet_61
    · have hv := hv.2 c15
      refine lv_aload_n hx hb dX10_wet_18 rfl (lv_at hl 0 rfl) ?_
      refine r_ci (va_runV (As := []) (rest := []) ⟨hx, hb, hml, hown, hts⟩ (c_X10_bad hi  s3 _ hv H.size) (cwV 0 hts gX10_wet_X10_bad rfl rfl rfl (by decide +kernel) ⟨Nat.le_of_ble_eq_true rfl, Nat.le_of_ble_eq_true rfl⟩) ⟨pre_blind, r_recv hK.1 hP 0 (by decide) (ceGR_0 (s3 0)) rfl, pre_of hP hK⟩ rfl rfl hl.1 rfl (lv_room (Nat.le_of_ble_eq_true rfl)) dX10_wet_19 ⟨Nat.zero_le _, Nat.zero_le _⟩) hS (fun r6 s6 H locs hv hP hS => ?_)
      have hD := wd_D (s := s) (cel := celC ad cA) (σ := s6) hi
      exact r_iret hx hb hr hlocks hv hP hS dX10_wet_22
set_option maxHeartbeats 4000000 in
theorem y_X10_wet {p : Program} {l : Launch} {e : Env} {s : State} {m : MethodId} {args : Array Value} {below : List Frame} {meth : Method} {c : Code} {dC : Nat → ClassId} {dI : Nat → Nat → Nat} {ad : Nat → Nat} {cA cZ : ClassId} (hi : Inj 81 ad) (a1 : Int32) (a2 : Int32)  (C0 : Cx cX10_wet RX10 wsX10_wet 4 (some .int) p s m args meth c) (hK : KK dC dI cA cZ s) (Q : Int32 → St → Prop) : ∀ P xs ys σ, R_X10_wet a1 a2 Q P xs ys σ → XX p l e ({ frames := 1, cells := 0, slots := 0, locals := 22 } : Room) s m args below meth c (dC, dI) 81 ad (celC ad cA) 4 (ZI below args s (dC, dI) 81 ad (celC ad cA) Q) (lay_X10_wet ad a1 a2) P xs ys σ := by
  refine Fx.elim _ (fun P xs ys σ Y hY hB => ?_)
  exact hB.elim
set_option maxHeartbeats 4000000 in
theorem c_X10_wet {l : Launch} {dC : Nat → ClassId} {dI : Nat → Nat → Nat} {ad : Nat → Nat} {cA cZ : ClassId} (hi : Inj 81 ad) (a1 : Int32) (a2 : Int32)  (s0 : St) (Q : Int32 → St → Prop) (hv : V_X10_wet a1 a2 s0 Q) (sz : Nat) : Met l yX10_wet wsX10_wet ({ frames := 1, cells := 0, slots := 0, locals := 22 } : Room) (va_Pc [.ref (ad 0), .int a1, .int a2] (PW dC dI ad cA cZ 81 (celC ad cA) sz s0)) (va_Qi Q (fun u t => va_P (dC, dI) vwCl (wd 81 ad (celC ad cA) u) t.heap) (AA 81 ad sz)) 0 0 (AA 81 ad sz) := by
  refine Met.ofW (cc := cX10_wet) (maxL := 4) (ret := (some .int)) (by decide) rfl ?_
  intro p e s m args below meth c s₁ B hml hv0
  obtain ⟨rfl, hsz, hP, hK⟩ := hv0
  subst hsz
  have C0 : Cx cX10_wet RX10 wsX10_wet 4 (some .int) p s m ([.ref (ad 0), .int a1, .int a2] : List Value).toArray meth c := ⟨B.exec, B.bytes, hml, findClass_of_methodNamed B.named, atoms_spec (ws := wsX10_wet) B.pre, B.returns, B.notSynchronized⟩
  have hl := lv_entry ([.ref (ad 0), .int a1, .int a2]) (n := 4) (Nat.le_of_ble_eq_true rfl)
  rw [lg_entry_eq]
  generalize (lg_sl ([.ref (ad 0), .int a1, .int a2]) ++ List.replicate (4 - (lg_sl ([.ref (ad 0), .int a1, .int a2])).length) Slot.unset).toArray = ls at hl ⊢
  have hl : lv_has ls 4 [(0, .ref (ad 0)), (1, .int a1), (2, .int a2)] := hl
  exact w_X10_wet_e hi a1 a2  C0 hK Q (R_X10_wet a1 a2 Q) (y_X10_wet hi a1 a2  C0 hK Q)  s0 hv hP va_S.rf hl
def lay_X10_isKind (ad : Nat → Nat) (a0 : Int32) : Nat → List Int32 → List Int64 → Option (List (Nat × Value) × List Value) := fun P xs ys => match P, xs, ys with
  | _, _, _ => none
set_option maxHeartbeats 4000000 in
set_option maxRecDepth 100000 in
theorem w_X10_isKind_e {p : Program} {l : Launch} {e : Env} {s : State} {m : MethodId} {args : Array Value} {below : List Frame} {meth : Method} {c : Code} {dC : Nat → ClassId} {dI : Nat → Nat → Nat} {ad : Nat → Nat} {cA cZ : ClassId} (hi : Inj 81 ad) (a0 : Int32)  (C0 : Cx cX10_isKind RX10 wsX10_isKind 1 (some .boolean) p s m args meth c) (hK : KK dC dI cA cZ s) (Q : Int32 → St → Prop) (Y : Nat → List Int32 → List Int64 → St → Prop) (hY : ∀ P xs ys σ, Y P xs ys σ → XX p l e ({ frames := 1, cells := 0, slots := 0, locals := 22 } : Room) s m args below meth c (dC, dI) 81 ad (celC ad cA) 1 (ZZ below args s (dC, dI) 81 ad (celC ad cA) Q) (lay_X10_isKind ad a0) P xs ys σ)  (s0 : St) (hv : B_X10_isKind_e a0 Q Y  s0) {H : Heap} {locs : List Loc} {ls : Array Slot} (hP : va_P (dC, dI) vwCl (wd 81 ad (celC ad cA) s0) H) (hS : va_S (AA 81 ad s.heap.size) s.heap H locs) (hl : lv_has ls 1 [(0, .int a0)]) : W p l e ({ frames := 1, cells := 0, slots := 0, locals := 22 } : Room) s m args below meth c H locs 0 0 (ZZ below args s (dC, dI) 81 ad (celC ad cA) Q) (F0 m 0 ls []) := by
  obtain ⟨hx, hb, hml, hown, hts, hr, hlocks⟩ := C0
  have hD := wd_D (s := s) (cel := celC ad cA) (σ := s0) hi
  unfold B_X10_isKind_e at hv
  refine lv_iload_n hx hb dX10_isKind_0 rfl (lv_at hl 0 rfl) ?_
  refine lv_iconst (v := 0) hx hb dX10_isKind_1 (by decide) ?_
  refine lv_iconst (v := 5) hx hb dX10_isKind_2 (by decide) ?_
  refine r_ci (va_runS (As := [.int a0, .int 0, .int 5]) (rest := []) ⟨hx, hb, hml, hown, hts⟩ (c_X10_within hi a0 0 5 s0 _ hv H.size) (va_cwS 3 hts gX10_isKind_X10_within rfl rfl rfl (by decide +kernel) ⟨Nat.le_of_ble_eq_true rfl, Nat.le_of_ble_eq_true rfl⟩) ⟨pre_blind, pre_of hP hK⟩ rfl rfl hl.1 rfl (lv_room (Nat.le_of_ble_eq_true rfl)) dX10_isKind_3 ⟨Nat.zero_le _, Nat.zero_le _⟩) hS (fun r1 s1 H locs hv hP hS => ?_)
  obtain ⟨hz_r1, hv⟩ := hv
  have hD := wd_D (s := s) (cel := celC ad cA) (σ := s1) hi
  exact r_zret hx hb hr hlocks hz_r1 hv hP hS dX10_isKind_6
set_option maxHeartbeats 4000000 in
theorem y_X10_isKind {p : Program} {l : Launch} {e : Env} {s : State} {m : MethodId} {args : Array Value} {below : List Frame} {meth : Method} {c : Code} {dC : Nat → ClassId} {dI : Nat → Nat → Nat} {ad : Nat → Nat} {cA cZ : ClassId} (hi : Inj 81 ad) (a0 : Int32)  (C0 : Cx cX10_isKind RX10 wsX10_isKind 1 (some .boolean) p s m args meth c) (hK : KK dC dI cA cZ s) (Q : Int32 → St → Prop) : ∀ P xs ys σ, R_X10_isKind a0 Q P xs ys σ → XX p l e ({ frames := 1, cells := 0, slots := 0, locals := 22 } : Room) s m args below meth c (dC, dI) 81 ad (celC ad cA) 1 (ZZ below args s (dC, dI) 81 ad (celC ad cA) Q) (lay_X10_isKind ad a0) P xs ys σ := by
  refine Fx.elim _ (fun P xs ys σ Y hY hB => ?_)
  exact hB.elim
set_option maxHeartbeats 4000000 in
theorem c_X10_isKind {l : Launch} {dC : Nat → ClassId} {dI : Nat → Nat → Nat} {ad : Nat → Nat} {cA cZ : ClassId} (hi : Inj 81 ad) (a0 : Int32)  (s0 : St) (Q : Int32 → St → Prop) (hv : V_X10_isKind a0 s0 Q) (sz : Nat) : Met l yX10_isKind wsX10_isKind ({ frames := 1, cells := 0, slots := 0, locals := 22 } : Room) (va_Pc [.int a0] (PW dC dI ad cA cZ 81 (celC ad cA) sz s0)) (va_Qi (fun r u => (r = 0 ∨ r = 1) ∧ Q r u) (fun u t => va_P (dC, dI) vwCl (wd 81 ad (celC ad cA) u) t.heap) (AA 81 ad sz)) 0 0 (AA 81 ad sz) := by
  refine Met.ofW (cc := cX10_isKind) (maxL := 1) (ret := (some .boolean)) (by decide) rfl ?_
  intro p e s m args below meth c s₁ B hml hv0
  obtain ⟨rfl, hsz, hP, hK⟩ := hv0
  subst hsz
  have C0 : Cx cX10_isKind RX10 wsX10_isKind 1 (some .boolean) p s m ([.int a0] : List Value).toArray meth c := ⟨B.exec, B.bytes, hml, findClass_of_methodNamed B.named, atoms_spec (ws := wsX10_isKind) B.pre, B.returns, B.notSynchronized⟩
  have hl := lv_entry ([.int a0]) (n := 1) (Nat.le_of_ble_eq_true rfl)
  rw [lg_entry_eq]
  generalize (lg_sl ([.int a0]) ++ List.replicate (1 - (lg_sl ([.int a0])).length) Slot.unset).toArray = ls at hl ⊢
  have hl : lv_has ls 1 [(0, .int a0)] := hl
  exact w_X10_isKind_e hi a0  C0 hK Q (R_X10_isKind a0 Q) (y_X10_isKind hi a0  C0 hK Q)  s0 hv hP va_S.rf hl
def lay_X10_full (ad : Nat → Nat)  : Nat → List Int32 → List Int64 → Option (List (Nat × Value) × List Value) := fun P xs ys => match P, xs, ys with
  | _, _, _ => none
set_option maxHeartbeats 4000000 in
set_option maxRecDepth 100000 in
theorem w_X10_full_e {p : Program} {l : Launch} {e : Env} {s : State} {m : MethodId} {args : Array Value} {below : List Frame} {meth : Method} {c : Code} {dC : Nat → ClassId} {dI : Nat → Nat → Nat} {ad : Nat → Nat} {cA cZ : ClassId} (hi : Inj 81 ad)   (C0 : Cx cX10_full RX10 wsX10_full 1 (some .int) p s m args meth c) (hK : KK dC dI cA cZ s) (Q : Int32 → St → Prop) (Y : Nat → List Int32 → List Int64 → St → Prop) (hY : ∀ P xs ys σ, Y P xs ys σ → XX p l e ({ frames := 0, cells := 0, slots := 0, locals := 0 } : Room) s m args below meth c (dC, dI) 81 ad (celC ad cA) 1 (ZI below args s (dC, dI) 81 ad (celC ad cA) Q) (lay_X10_full ad ) P xs ys σ)  (s0 : St) (hv : B_X10_full_e  Q Y  s0) {H : Heap} {locs : List Loc} {ls : Array Slot} (hP : va_P (dC, dI) vwCl (wd 81 ad (celC ad cA) s0) H) (hS : va_S (AA 81 ad s.heap.size) s.heap H locs) (hl : lv_has ls 1 [(0, .ref (ad 0))]) : W p l e ({ frames := 0, cells := 0, slots := 0, locals := 0 } : Room) s m args below meth c H locs 0 0 (ZI below args s (dC, dI) 81 ad (celC ad cA) Q) (F0 m 0 ls []) := by
  obtain ⟨hx, hb, hml, hown, hts, hr, hlocks⟩ := C0
  have hD := wd_D (s := s) (cel := celC ad cA) (σ := s0) hi
  unfold B_X10_full_e at hv
  refine lv_aload_n hx hb dX10_full_0 rfl (lv_at hl 0 rfl) ?_
  refine lv_dup hx hb dX10_full_1 rfl ?_
  refine r_get hx hb hts (iwX10_full_X10) hown hK.1 hP 0 (by decide) (ceGR_0 (s0 0)) rfl 12 (by decide) (hts _ kX10_full_1) (v := .int (s0 0 12)) rfl dX10_full_2 ?_
  refine lv_iconst (v := 1) hx hb dX10_full_5 (by decide) ?_
  refine lv_iadd hx hb dX10_full_6 ?_
  refine r_put hx hb hts (iwX10_full_X10) tyX10 tyX10_ok nmX10 hown hK.1 hP hD hS 0 (by decide) (ceGR_0 (s0 0)) rfl 12 (by decide) (hts _ kX10_full_1) rfl (ty := .int) (v := .int ((s0 0 12) + 1)) (by decide +kernel) rfl rfl (Nat.le_of_ble_eq_true rfl) (row := (upd (s0 0) 12 ((s0 0 12) + 1))) (by rw [(ceGR_0 (upd (s0 0) 12 ((s0 0 12) + 1)))]; rfl) dX10_full_7 (fun H locs s1 es1 hP hD hS => ?_)
  have hv := hv s1 es1
  refine lv_bipush (v := (-4)) hx hb dX10_full_10 (by decide) ?_
  exact r_iret hx hb hr hlocks hv hP hS dX10_full_12
set_option maxHeartbeats 4000000 in
theorem y_X10_full {p : Program} {l : Launch} {e : Env} {s : State} {m : MethodId} {args : Array Value} {below : List Frame} {meth : Method} {c : Code} {dC : Nat → ClassId} {dI : Nat → Nat → Nat} {ad : Nat → Nat} {cA cZ : ClassId} (hi : Inj 81 ad)   (C0 : Cx cX10_full RX10 wsX10_full 1 (some .int) p s m args meth c) (hK : KK dC dI cA cZ s) (Q : Int32 → St → Prop) : ∀ P xs ys σ, R_X10_full  Q P xs ys σ → XX p l e ({ frames := 0, cells := 0, slots := 0, locals := 0 } : Room) s m args below meth c (dC, dI) 81 ad (celC ad cA) 1 (ZI below args s (dC, dI) 81 ad (celC ad cA) Q) (lay_X10_full ad ) P xs ys σ := by
  refine Fx.elim _ (fun P xs ys σ Y hY hB => ?_)
  exact hB.elim
set_option maxHeartbeats 4000000 in
theorem c_X10_full {l : Launch} {dC : Nat → ClassId} {dI : Nat → Nat → Nat} {ad : Nat → Nat} {cA cZ : ClassId} (hi : Inj 81 ad)   (s0 : St) (Q : Int32 → St → Prop) (hv : V_X10_full  s0 Q) (sz : Nat) : Met l yX10_full wsX10_full ({ frames := 0, cells := 0, slots := 0, locals := 0 } : Room) (va_Pc [.ref (ad 0)] (PW dC dI ad cA cZ 81 (celC ad cA) sz s0)) (va_Qi Q (fun u t => va_P (dC, dI) vwCl (wd 81 ad (celC ad cA) u) t.heap) (AA 81 ad sz)) 0 0 (AA 81 ad sz) := by
  refine Met.ofW (cc := cX10_full) (maxL := 1) (ret := (some .int)) (by decide) rfl ?_
  intro p e s m args below meth c s₁ B hml hv0
  obtain ⟨rfl, hsz, hP, hK⟩ := hv0
  subst hsz
  have C0 : Cx cX10_full RX10 wsX10_full 1 (some .int) p s m ([.ref (ad 0)] : List Value).toArray meth c := ⟨B.exec, B.bytes, hml, findClass_of_methodNamed B.named, atoms_spec (ws := wsX10_full) B.pre, B.returns, B.notSynchronized⟩
  have hl := lv_entry ([.ref (ad 0)]) (n := 1) (Nat.le_of_ble_eq_true rfl)
  rw [lg_entry_eq]
  generalize (lg_sl ([.ref (ad 0)]) ++ List.replicate (1 - (lg_sl ([.ref (ad 0)])).length) Slot.unset).toArray = ls at hl ⊢
  have hl : lv_has ls 1 [(0, .ref (ad 0))] := hl
  exact w_X10_full_e hi   C0 hK Q (R_X10_full  Q) (y_X10_full hi   C0 hK Q)  s0 hv hP va_S.rf hl
def lay_X8_addGlove (ad : Nat → Nat) (h0 : Nat) (a1 : Int32) (a2 : Int32) (a3 : Int32) : Nat → List Int32 → List Int64 → Option (List (Nat × Value) × List Value) := fun P xs ys => match P, xs, ys with
  | _, _, _ => none
set_option maxHeartbeats 4000000 in
set_option maxRecDepth 100000 in
theorem w_X8_addGlove_e {p : Program} {l : Launch} {e : Env} {s : State} {m : MethodId} {args : Array Value} {below : List Frame} {meth : Method} {c : Code} {dC : Nat → ClassId} {dI : Nat → Nat → Nat} {ad : Nat → Nat} {cA cZ : ClassId} (hi : Inj 81 ad) (h0 : Nat) (a1 : Int32) (a2 : Int32) (a3 : Int32) (hh0 : isSt h0) (C0 : Cx cX8_addGlove RX8 wsX8_addGlove 4 (some .int) p s m args meth c) (hK : KK dC dI cA cZ s) (Q : Int32 → St → Prop) (Y : Nat → List Int32 → List Int64 → St → Prop) (hY : ∀ P xs ys σ, Y P xs ys σ → XX p l e ({ frames := 0, cells := 0, slots := 0, locals := 0 } : Room) s m args below meth c (dC, dI) 81 ad (celC ad cA) 4 (ZI below args s (dC, dI) 81 ad (celC ad cA) Q) (lay_X8_addGlove ad h0 a1 a2 a3) P xs ys σ)  (s0 : St) (hv : B_X8_addGlove_e h0 a1 a2 a3 Q Y  s0) {H : Heap} {locs : List Loc} {ls : Array Slot} (hP : va_P (dC, dI) vwCl (wd 81 ad (celC ad cA) s0) H) (hS : va_S (AA 81 ad s.heap.size) s.heap H locs) (hl : lv_has ls 4 [(0, .ref (ad h0)), (1, .int a1), (2, .int a2), (3, .int a3)]) : W p l e ({ frames := 0, cells := 0, slots := 0, locals := 0 } : Room) s m args below meth c H locs 0 0 (ZI below args s (dC, dI) 81 ad (celC ad cA) Q) (F0 m 0 ls []) := by
  obtain ⟨hx, hb, hml, hown, hts, hr, hlocks⟩ := C0
  have hD := wd_D (s := s) (cel := celC ad cA) (σ := s0) hi
  unfold B_X8_addGlove_e at hv
  refine lv_aload_n hx hb dX8_addGlove_0 rfl (lv_at hl 0 rfl) ?_
  refine r_get hx hb hts (iwX8_addGlove_X8) hown hK.1 hP h0 (ltSt_0 hh0) (ceSt_0 hh0 (s0 h0)) rfl 8 (by decide) (hts _ kX8_addGlove_1) (v := .int (s0 h0 8)) rfl dX8_addGlove_1 ?_
  refine lv_bipush (v := 7) hx hb dX8_addGlove_4 (by decide) ?_
  refine lv_icmp_le (tgt := 12) hx hb dX8_addGlove_6 (by decide) (fun c6 => ?_) (fun c6 => ?_)
  · have hv := hv.1 c6
    refine lv_aload_n hx hb dX8_addGlove_12 rfl (lv_at hl 0 rfl) ?_
    refine r_get hx hb hts (iwX8_addGlove_X8) hown hK.1 hP h0 (ltSt_0 hh0) (ceSt_0 hh0 (s0 h0)) rfl 1 (by decide) (hts _ kX8_addGlove_2) (v := .ref (ad (h0 + 2))) rfl dX8_addGlove_13 ?_
    refine lv_aload_n hx hb dX8_addGlove_16 rfl (lv_at hl 0 rfl) ?_
    refine r_get hx hb hts (iwX8_addGlove_X8) hown hK.1 hP h0 (ltSt_0 hh0) (ceSt_0 hh0 (s0 h0)) rfl 8 (by decide) (hts _ kX8_addGlove_1) (v := .int (s0 h0 8)) rfl dX8_addGlove_17 ?_
    refine lv_iload_n hx hb dX8_addGlove_20 rfl (lv_at hl 1 rfl) ?_
    obtain ⟨hin, hv⟩ := hv
    refine r_iast hx hb hK.1 hP hD hS (h0 + 2) (ltSt_2 hh0) (ceSt_2 hh0 (s0 (h0 + 2))) (ceSt_2 hh0 _) hin dX8_addGlove_21 (fun H locs s1 es1 hP hD hS => ?_)
    have hv := hv s1 es1
    refine lv_aload_n hx hb dX8_addGlove_22 rfl (lv_at hl 0 rfl) ?_
    refine r_get hx hb hts (iwX8_addGlove_X8) hown hK.1 hP h0 (ltSt_0 hh0) (ceSt_0 hh0 (s1 h0)) rfl 2 (by decide) (hts _ kX8_addGlove_3) (v := .ref (ad (h0 + 3))) rfl dX8_addGlove_23 ?_
    refine lv_aload_n hx hb dX8_addGlove_26 rfl (lv_at hl 0 rfl) ?_
    refine r_get hx hb hts (iwX8_addGlove_X8) hown hK.1 hP h0 (ltSt_0 hh0) (ceSt_0 hh0 (s1 h0)) rfl 8 (by decide) (hts _ kX8_addGlove_1) (v := .int (s1 h0 8)) rfl dX8_addGlove_27 ?_
    refine lv_iload_n hx hb dX8_addGlove_30 rfl (lv_at hl 2 rfl) ?_
    obtain ⟨hin, hv⟩ := hv
    refine r_iast hx hb hK.1 hP hD hS (h0 + 3) (ltSt_3 hh0) (ceSt_3 hh0 (s1 (h0 + 3))) (ceSt_3 hh0 _) hin dX8_addGlove_31 (fun H locs s2 es2 hP hD hS => ?_)
    have hv := hv s2 es2
    refine lv_aload_n hx hb dX8_addGlove_32 rfl (lv_at hl 0 rfl) ?_
    refine r_get hx hb hts (iwX8_addGlove_X8) hown hK.1 hP h0 (ltSt_0 hh0) (ceSt_0 hh0 (s2 h0)) rfl 3 (by decide) (hts _ kX8_addGlove_4) (v := .ref (ad (h0 + 4))) rfl dX8_addGlove_33 ?_
    refine lv_aload_n hx hb dX8_addGlove_36 rfl (lv_at hl 0 rfl) ?_
    refine r_get hx hb hts (iwX8_addGlove_X8) hown hK.1 hP h0 (ltSt_0 hh0) (ceSt_0 hh0 (s2 h0)) rfl 8 (by decide) (hts _ kX8_addGlove_1) (v := .int (s2 h0 8)) rfl dX8_addGlove_37 ?_
    refine lv_iload_n hx hb dX8_addGlove_40 rfl (lv_at hl 3 rfl) ?_
    obtain ⟨hin, hv⟩ := hv
    refine r_iast hx hb hK.1 hP hD hS (h0 + 4) (ltSt_4 hh0) (ceSt_4 hh0 (s2 (h0 + 4))) (ceSt_4 hh0 _) hin dX8_addGlove_41 (fun H locs s3 es3 hP hD hS => ?_)
    have hv := hv s3 es3
    refine lv_aload_n hx hb dX8_addGlove_42 rfl (lv_at hl 0 rfl) ?_
    refine lv_dup hx hb dX8_addGlove_43 rfl ?_
    refine r_get hx hb hts (iwX8_addGlove_X8) hown hK.1 hP h0 (ltSt_0 hh0) (ceSt_0 hh0 (s3 h0)) rfl 8 (by decide) (hts _ kX8_addGlove_1) (v := .int (s3 h0 8)) rfl dX8_addGlove_44 ?_
    refine lv_iconst (v := 1) hx hb dX8_addGlove_47 (by decide) ?_
    refine lv_iadd hx hb dX8_addGlove_48 ?_
    refine r_put hx hb hts (iwX8_addGlove_X8) tyX8 tyX8_ok nmX8 hown hK.1 hP hD hS h0 (ltSt_0 hh0) (ceSt_0 hh0 (s3 h0)) rfl 8 (by decide) (hts _ kX8_addGlove_1) rfl (ty := .int) (v := .int ((s3 h0 8) + 1)) (by decide +kernel) rfl rfl (Nat.le_of_ble_eq_true rfl) (row := (upd (s3 h0) 8 ((s3 h0 8) + 1))) (by rw [(ceSt_0 hh0 (upd (s3 h0) 8 ((s3 h0 8) + 1)))]; rfl) dX8_addGlove_49 (fun H locs s4 es4 hP hD hS => ?_)
    have hv := hv s4 es4
    refine lv_aload_n hx hb dX8_addGlove_52 rfl (lv_at hl 0 rfl) ?_
    refine r_get hx hb hts (iwX8_addGlove_X8) hown hK.1 hP h0 (ltSt_0 hh0) (ceSt_0 hh0 (s4 h0)) rfl 8 (by decide) (hts _ kX8_addGlove_1) (v := .int (s4 h0 8)) rfl dX8_addGlove_53 ?_
    refine lv_iconst (v := 1) hx hb dX8_addGlove_56 (by decide) ?_
    refine lv_isub hx hb dX8_addGlove_57 ?_
    exact r_iret hx hb hr hlocks hv hP hS dX8_addGlove_58
  · have hv := hv.2 c6
    refine lv_bipush (v := (-4)) hx hb dX8_addGlove_9 (by decide) ?_
    exact r_iret hx hb hr hlocks hv hP hS dX8_addGlove_11
set_option maxHeartbeats 4000000 in
theorem y_X8_addGlove {p : Program} {l : Launch} {e : Env} {s : State} {m : MethodId} {args : Array Value} {below : List Frame} {meth : Method} {c : Code} {dC : Nat → ClassId} {dI : Nat → Nat → Nat} {ad : Nat → Nat} {cA cZ : ClassId} (hi : Inj 81 ad) (h0 : Nat) (a1 : Int32) (a2 : Int32) (a3 : Int32) (hh0 : isSt h0) (C0 : Cx cX8_addGlove RX8 wsX8_addGlove 4 (some .int) p s m args meth c) (hK : KK dC dI cA cZ s) (Q : Int32 → St → Prop) : ∀ P xs ys σ, R_X8_addGlove h0 a1 a2 a3 Q P xs ys σ → XX p l e ({ frames := 0, cells := 0, slots := 0, locals := 0 } : Room) s m args below meth c (dC, dI) 81 ad (celC ad cA) 4 (ZI below args s (dC, dI) 81 ad (celC ad cA) Q) (lay_X8_addGlove ad h0 a1 a2 a3) P xs ys σ := by
  refine Fx.elim _ (fun P xs ys σ Y hY hB => ?_)
  exact hB.elim
set_option maxHeartbeats 4000000 in
theorem c_X8_addGlove {l : Launch} {dC : Nat → ClassId} {dI : Nat → Nat → Nat} {ad : Nat → Nat} {cA cZ : ClassId} (hi : Inj 81 ad) (h0 : Nat) (a1 : Int32) (a2 : Int32) (a3 : Int32) (hh0 : isSt h0) (s0 : St) (Q : Int32 → St → Prop) (hv : V_X8_addGlove h0 a1 a2 a3 s0 Q) (sz : Nat) : Met l yX8_addGlove wsX8_addGlove ({ frames := 0, cells := 0, slots := 0, locals := 0 } : Room) (va_Pc [.ref (ad h0), .int a1, .int a2, .int a3] (PW dC dI ad cA cZ 81 (celC ad cA) sz s0)) (va_Qi Q (fun u t => va_P (dC, dI) vwCl (wd 81 ad (celC ad cA) u) t.heap) (AA 81 ad sz)) 0 0 (AA 81 ad sz) := by
  refine Met.ofW (cc := cX8_addGlove) (maxL := 4) (ret := (some .int)) (by decide) rfl ?_
  intro p e s m args below meth c s₁ B hml hv0
  obtain ⟨rfl, hsz, hP, hK⟩ := hv0
  subst hsz
  have C0 : Cx cX8_addGlove RX8 wsX8_addGlove 4 (some .int) p s m ([.ref (ad h0), .int a1, .int a2, .int a3] : List Value).toArray meth c := ⟨B.exec, B.bytes, hml, findClass_of_methodNamed B.named, atoms_spec (ws := wsX8_addGlove) B.pre, B.returns, B.notSynchronized⟩
  have hl := lv_entry ([.ref (ad h0), .int a1, .int a2, .int a3]) (n := 4) (Nat.le_of_ble_eq_true rfl)
  rw [lg_entry_eq]
  generalize (lg_sl ([.ref (ad h0), .int a1, .int a2, .int a3]) ++ List.replicate (4 - (lg_sl ([.ref (ad h0), .int a1, .int a2, .int a3])).length) Slot.unset).toArray = ls at hl ⊢
  have hl : lv_has ls 4 [(0, .ref (ad h0)), (1, .int a1), (2, .int a2), (3, .int a3)] := hl
  exact w_X8_addGlove_e hi h0 a1 a2 a3 hh0 C0 hK Q (R_X8_addGlove h0 a1 a2 a3 Q) (y_X8_addGlove hi h0 a1 a2 a3 hh0 C0 hK Q)  s0 hv hP va_S.rf hl
def lay_X10_glove (ad : Nat → Nat) (a1 : Int32) (a2 : Int32) (a3 : Int32) : Nat → List Int32 → List Int64 → Option (List (Nat × Value) × List Value) := fun P xs ys => match P, xs, ys with
  | _, _, _ => none
set_option maxHeartbeats 4000000 in
set_option maxRecDepth 100000 in
theorem w_X10_glove_e {p : Program} {l : Launch} {e : Env} {s : State} {m : MethodId} {args : Array Value} {below : List Frame} {meth : Method} {c : Code} {dC : Nat → ClassId} {dI : Nat → Nat → Nat} {ad : Nat → Nat} {cA cZ : ClassId} (hi : Inj 81 ad) (a1 : Int32) (a2 : Int32) (a3 : Int32)  (C0 : Cx cX10_glove RX10 wsX10_glove 4 (some .int) p s m args meth c) (hK : KK dC dI cA cZ s) (Q : Int32 → St → Prop) (Y : Nat → List Int32 → List Int64 → St → Prop) (hY : ∀ P xs ys σ, Y P xs ys σ → XX p l e ({ frames := 2, cells := 0, slots := 0, locals := 42 } : Room) s m args below meth c (dC, dI) 81 ad (celC ad cA) 4 (ZI below args s (dC, dI) 81 ad (celC ad cA) Q) (lay_X10_glove ad a1 a2 a3) P xs ys σ)  (s0 : St) (hv : B_X10_glove_e a1 a2 a3 Q Y  s0) {H : Heap} {locs : List Loc} {ls : Array Slot} (hP : va_P (dC, dI) vwCl (wd 81 ad (celC ad cA) s0) H) (hS : va_S (AA 81 ad s.heap.size) s.heap H locs) (hl : lv_has ls 4 [(0, .ref (ad 0)), (1, .int a1), (2, .int a2), (3, .int a3)]) : W p l e ({ frames := 2, cells := 0, slots := 0, locals := 42 } : Room) s m args below meth c H locs 0 0 (ZI below args s (dC, dI) 81 ad (celC ad cA) Q) (F0 m 0 ls []) := by
  obtain ⟨hx, hb, hml, hown, hts, hr, hlocks⟩ := C0
  have hD := wd_D (s := s) (cel := celC ad cA) (σ := s0) hi
  unfold B_X10_glove_e at hv
  refine lv_iload_n hx hb dX10_glove_0 rfl (lv_at hl 1 rfl) ?_
  refine r_ci (va_runS (As := [.int a1]) (rest := []) ⟨hx, hb, hml, hown, hts⟩ (c_X10_isKind hi a1 s0 _ hv H.size) (va_cwS 1 hts gX10_glove_X10_isKind rfl rfl rfl (by decide +kernel) ⟨Nat.le_of_ble_eq_true rfl, Nat.le_of_ble_eq_true rfl⟩) ⟨pre_blind, pre_of hP hK⟩ rfl rfl hl.1 rfl (lv_room (Nat.le_of_ble_eq_true rfl)) dX10_glove_1 ⟨Nat.zero_le _, Nat.zero_le _⟩) hS (fun r1 s1 H locs hv hP hS => ?_)
  obtain ⟨hz_r1, hv⟩ := hv
  have hD := wd_D (s := s) (cel := celC ad cA) (σ := s1) hi
  refine lv_if_eq (tgt := 27) hx hb dX10_glove_4 (by decide) (fun c4 => ?_) (fun c4 => ?_)
  · have hv := hv.1 c4
    refine lv_aload_n hx hb dX10_glove_27 rfl (lv_at hl 0 rfl) ?_
    refine r_ci (va_runV (As := []) (rest := []) ⟨hx, hb, hml, hown, hts⟩ (c_X10_bad hi  s1 _ hv H.size) (cwV 0 hts gX10_glove_X10_bad rfl rfl rfl (by decide +kernel) ⟨Nat.le_of_ble_eq_true rfl, Nat.le_of_ble_eq_true rfl⟩) ⟨pre_blind, r_recv hK.1 hP 0 (by decide) (ceGR_0 (s1 0)) rfl, pre_of hP hK⟩ rfl rfl hl.1 rfl (lv_room (Nat.le_of_ble_eq_true rfl)) dX10_glove_28 ⟨Nat.zero_le _, Nat.zero_le _⟩) hS (fun r2 s2 H locs hv hP hS => ?_)
    have hD := wd_D (s := s) (cel := celC ad cA) (σ := s2) hi
    exact r_iret hx hb hr hlocks hv hP hS dX10_glove_31
  · have hv := hv.2 c4
    refine lv_iload_n hx hb dX10_glove_7 rfl (lv_at hl 2 rfl) ?_
    refine lv_iconst (v := 1) hx hb dX10_glove_8 (by decide) ?_
    refine lv_bipush (v := 9) hx hb dX10_glove_9 (by decide) ?_
    refine r_ci (va_runS (As := [.int a2, .int 1, .int 9]) (rest := []) ⟨hx, hb, hml, hown, hts⟩ (c_X10_within hi a2 1 9 s1 _ hv H.size) (va_cwS 3 hts gX10_glove_X10_within rfl rfl rfl (by decide +kernel) ⟨Nat.le_of_ble_eq_true rfl, Nat.le_of_ble_eq_true rfl⟩) ⟨pre_blind, pre_of hP hK⟩ rfl rfl hl.1 rfl (lv_room (Nat.le_of_ble_eq_true rfl)) dX10_glove_11 ⟨Nat.zero_le _, Nat.zero_le _⟩) hS (fun r3 s3 H locs hv hP hS => ?_)
    obtain ⟨hz_r3, hv⟩ := hv
    have hD := wd_D (s := s) (cel := celC ad cA) (σ := s3) hi
    refine lv_if_eq (tgt := 27) hx hb dX10_glove_14 (by decide) (fun c14 => ?_) (fun c14 => ?_)
    · have hv := hv.1 c14
      refine lv_aload_n hx hb dX10_glove_27 rfl (lv_at hl 0 rfl) ?_
      refine r_ci (va_runV (As := []) (rest := []) ⟨hx, hb, hml, hown, hts⟩ (c_X10_bad hi  s3 _ hv H.size) (cwV 0 hts gX10_glove_X10_bad rfl rfl rfl (by decide +kernel) ⟨Nat.le_of_ble_eq_true rfl, Nat.le_of_ble_eq_true rfl⟩) ⟨pre_blind, r_recv hK.1 hP 0 (by decide) (ceGR_0 (s3 0)) rfl, pre_of hP hK⟩ rfl rfl hl.1 rfl (lv_room (Nat.le_of_ble_eq_true rfl)) dX10_glove_28 ⟨Nat.zero_le _, Nat.zero_le _⟩) hS (fun r4 s4 H locs hv hP hS => ?_)
      have hD := wd_D (s := s) (cel := celC ad cA) (σ := s4) hi
      exact r_iret hx hb hr hlocks hv hP hS dX10_glove_31
    · have hv := hv.2 c14
      refine lv_iload_n hx hb dX10_glove_17 rfl (lv_at hl 3 rfl) ?_
      refine lv_iconst (v := 0) hx hb dX10_glove_18 (by decide) ?_
      refine lv_bipush (v := 23) hx hb dX10_glove_19 (by decide) ?_
      refine r_ci (va_runS (As := [.int a3, .int 0, .int 23]) (rest := []) ⟨hx, hb, hml, hown, hts⟩ (c_X10_within hi a3 0 23 s3 _ hv H.size) (va_cwS 3 hts gX10_glove_X10_within rfl rfl rfl (by decide +kernel) ⟨Nat.le_of_ble_eq_true rfl, Nat.le_of_ble_eq_true rfl⟩) ⟨pre_blind, pre_of hP hK⟩ rfl rfl hl.1 rfl (lv_room (Nat.le_of_ble_eq_true rfl)) dX10_glove_21 ⟨Nat.zero_le _, Nat.zero_le _⟩) hS (fun r5 s5 H locs hv hP hS => ?_)
      obtain ⟨hz_r5, hv⟩ := hv
      have hD := wd_D (s := s) (cel := celC ad cA) (σ := s5) hi
      refine lv_if_ne (tgt := 32) hx hb dX10_glove_24 (by decide) (fun c24 => ?_) (fun c24 => ?_)
      · have hv := hv.1 c24
        refine lv_aload_n hx hb dX10_glove_32 rfl (lv_at hl 0 rfl) ?_
        refine r_get hx hb hts (iwX10_glove_X10) hown hK.1 hP 0 (by decide) (ceGR_0 (s5 0)) rfl 0 (by decide) (hts _ kX10_glove_1) (v := .ref (ad 1)) rfl dX10_glove_33 ?_
        refine r_get hx hb hts (iwX10_glove_X7) hown hK.1 hP 1 (ltSc_0 vSc_1) (ceSc_0 vSc_1 (s5 1)) rfl 0 (by decide) (hts _ kX10_glove_2) (v := .ref (ad 2)) rfl dX10_glove_36 ?_
        refine r_get hx hb hts (iwX10_glove_X8) hown hK.1 hP 2 (ltSt_0 (vSc1 vSc_1)) (ceSt_0 (vSc1 vSc_1) (s5 2)) rfl 8 (by decide) (hts _ kX10_glove_3) (v := .int (s5 2 8)) rfl dX10_glove_39 ?_
        refine lv_bipush (v := 7) hx hb dX10_glove_42 (by decide) ?_
        refine lv_icmp_lt (tgt := 52) hx hb dX10_glove_44 (by decide) (fun c44 => ?_) (fun c44 => ?_)
        · have hv := hv.1 c44
          refine lv_aload_n hx hb dX10_glove_52 rfl (lv_at hl 0 rfl) ?_
          refine r_get hx hb hts (iwX10_glove_X10) hown hK.1 hP 0 (by decide) (ceGR_0 (s5 0)) rfl 0 (by decide) (hts _ kX10_glove_1) (v := .ref (ad 1)) rfl dX10_glove_53 ?_
          refine r_get hx hb hts (iwX10_glove_X7) hown hK.1 hP 1 (ltSc_0 vSc_1) (ceSc_0 vSc_1 (s5 1)) rfl 1 (by decide) (hts _ kX10_glove_4) (v := .ref (ad 11)) rfl dX10_glove_56 ?_
          refine lv_iconst (v := 0) hx hb dX10_glove_59 (by decide) ?_
          refine r_put hx hb hts (iwX10_glove_X4) tyX4 tyX4_ok nmX4 hown hK.1 hP hD hS 11 (ltPa_0 (vSc10 vSc_1)) (cePa_0 (vSc10 vSc_1) (s5 11)) rfl 1 (by decide) (hts _ kX10_glove_5) rfl (ty := .int) (v := .int 0) (by decide +kernel) rfl rfl (Nat.le_of_ble_eq_true rfl) (row := (upd (s5 11) 1 0)) (by rw [(cePa_0 (vSc10 vSc_1) (upd (s5 11) 1 0))]; rfl) dX10_glove_60 (fun H locs s6 es6 hP hD hS => ?_)
          have hv := hv s6 es6
          refine lv_aload_n hx hb dX10_glove_63 rfl (lv_at hl 0 rfl) ?_
          refine r_get hx hb hts (iwX10_glove_X10) hown hK.1 hP 0 (by decide) (ceGR_0 (s6 0)) rfl 0 (by decide) (hts _ kX10_glove_1) (v := .ref (ad 1)) rfl dX10_glove_64 ?_
          refine r_get hx hb hts (iwX10_glove_X7) hown hK.1 hP 1 (ltSc_0 vSc_1) (ceSc_0 vSc_1 (s6 1)) rfl 0 (by decide) (hts _ kX10_glove_2) (v := .ref (ad 2)) rfl dX10_glove_67 ?_
          refine lv_iload_n hx hb dX10_glove_70 rfl (lv_at hl 1 rfl) ?_
          refine lv_iload_n hx hb dX10_glove_71 rfl (lv_at hl 2 rfl) ?_
          refine lv_iload_n hx hb dX10_glove_72 rfl (lv_at hl 3 rfl) ?_
          refine r_ci (va_runV (As := [.int a1, .int a2, .int a3]) (rest := []) ⟨hx, hb, hml, hown, hts⟩ (c_X8_addGlove hi 2 a1 a2 a3 (vSc1 vSc_1) s6 _ hv H.size) (cwV 3 hts gX10_glove_X8_addGlove rfl rfl rfl (by decide +kernel) ⟨Nat.le_of_ble_eq_true rfl, Nat.le_of_ble_eq_true rfl⟩) ⟨pre_blind, r_recv hK.1 hP 2 (ltSt_0 (vSc1 vSc_1)) (ceSt_0 (vSc1 vSc_1) (s6 2)) rfl, pre_of hP hK⟩ rfl rfl hl.1 rfl (lv_room (Nat.le_of_ble_eq_true rfl)) dX10_glove_73 ⟨Nat.zero_le _, Nat.zero_le _⟩) hS (fun r7 s7 H locs hv hP hS => ?_)
          have hD := wd_D (s := s) (cel := celC ad cA) (σ := s7) hi
          exact r_iret hx hb hr hlocks hv hP hS dX10_glove_76
        · have hv := hv.2 c44
          refine lv_aload_n hx hb dX10_glove_47 rfl (lv_at hl 0 rfl) ?_
          refine r_ci (va_runV (As := []) (rest := []) ⟨hx, hb, hml, hown, hts⟩ (c_X10_full hi  s5 _ hv H.size) (cwV 0 hts gX10_glove_X10_full rfl rfl rfl (by decide +kernel) ⟨Nat.le_of_ble_eq_true rfl, Nat.le_of_ble_eq_true rfl⟩) ⟨pre_blind, r_recv hK.1 hP 0 (by decide) (ceGR_0 (s5 0)) rfl, pre_of hP hK⟩ rfl rfl hl.1 rfl (lv_room (Nat.le_of_ble_eq_true rfl)) dX10_glove_48 ⟨Nat.zero_le _, Nat.zero_le _⟩) hS (fun r8 s8 H locs hv hP hS => ?_)
          have hD := wd_D (s := s) (cel := celC ad cA) (σ := s8) hi
          exact r_iret hx hb hr hlocks hv hP hS dX10_glove_51
      · have hv := hv.2 c24
        refine lv_aload_n hx hb dX10_glove_27 rfl (lv_at hl 0 rfl) ?_
        refine r_ci (va_runV (As := []) (rest := []) ⟨hx, hb, hml, hown, hts⟩ (c_X10_bad hi  s5 _ hv H.size) (cwV 0 hts gX10_glove_X10_bad rfl rfl rfl (by decide +kernel) ⟨Nat.le_of_ble_eq_true rfl, Nat.le_of_ble_eq_true rfl⟩) ⟨pre_blind, r_recv hK.1 hP 0 (by decide) (ceGR_0 (s5 0)) rfl, pre_of hP hK⟩ rfl rfl hl.1 rfl (lv_room (Nat.le_of_ble_eq_true rfl)) dX10_glove_28 ⟨Nat.zero_le _, Nat.zero_le _⟩) hS (fun r9 s9 H locs hv hP hS => ?_)
        have hD := wd_D (s := s) (cel := celC ad cA) (σ := s9) hi
        exact r_iret hx hb hr hlocks hv hP hS dX10_glove_31
set_option maxHeartbeats 4000000 in
theorem y_X10_glove {p : Program} {l : Launch} {e : Env} {s : State} {m : MethodId} {args : Array Value} {below : List Frame} {meth : Method} {c : Code} {dC : Nat → ClassId} {dI : Nat → Nat → Nat} {ad : Nat → Nat} {cA cZ : ClassId} (hi : Inj 81 ad) (a1 : Int32) (a2 : Int32) (a3 : Int32)  (C0 : Cx cX10_glove RX10 wsX10_glove 4 (some .int) p s m args meth c) (hK : KK dC dI cA cZ s) (Q : Int32 → St → Prop) : ∀ P xs ys σ, R_X10_glove a1 a2 a3 Q P xs ys σ → XX p l e ({ frames := 2, cells := 0, slots := 0, locals := 42 } : Room) s m args below meth c (dC, dI) 81 ad (celC ad cA) 4 (ZI below args s (dC, dI) 81 ad (celC ad cA) Q) (lay_X10_glove ad a1 a2 a3) P xs ys σ := by
  refine Fx.elim _ (fun P xs ys σ Y hY hB => ?_)
  exact hB.elim
set_option maxHeartbeats 4000000 in
theorem c_X10_glove {l : Launch} {dC : Nat → ClassId} {dI : Nat → Nat → Nat} {ad : Nat → Nat} {cA cZ : ClassId} (hi : Inj 81 ad) (a1 : Int32) (a2 : Int32) (a3 : Int32)  (s0 : St) (Q : Int32 → St → Prop) (hv : V_X10_glove a1 a2 a3 s0 Q) (sz : Nat) : Met l yX10_glove wsX10_glove ({ frames := 2, cells := 0, slots := 0, locals := 42 } : Room) (va_Pc [.ref (ad 0), .int a1, .int a2, .int a3] (PW dC dI ad cA cZ 81 (celC ad cA) sz s0)) (va_Qi Q (fun u t => va_P (dC, dI) vwCl (wd 81 ad (celC ad cA) u) t.heap) (AA 81 ad sz)) 0 0 (AA 81 ad sz) := by
  refine Met.ofW (cc := cX10_glove) (maxL := 4) (ret := (some .int)) (by decide) rfl ?_
  intro p e s m args below meth c s₁ B hml hv0
  obtain ⟨rfl, hsz, hP, hK⟩ := hv0
  subst hsz
  have C0 : Cx cX10_glove RX10 wsX10_glove 4 (some .int) p s m ([.ref (ad 0), .int a1, .int a2, .int a3] : List Value).toArray meth c := ⟨B.exec, B.bytes, hml, findClass_of_methodNamed B.named, atoms_spec (ws := wsX10_glove) B.pre, B.returns, B.notSynchronized⟩
  have hl := lv_entry ([.ref (ad 0), .int a1, .int a2, .int a3]) (n := 4) (Nat.le_of_ble_eq_true rfl)
  rw [lg_entry_eq]
  generalize (lg_sl ([.ref (ad 0), .int a1, .int a2, .int a3]) ++ List.replicate (4 - (lg_sl ([.ref (ad 0), .int a1, .int a2, .int a3])).length) Slot.unset).toArray = ls at hl ⊢
  have hl : lv_has ls 4 [(0, .ref (ad 0)), (1, .int a1), (2, .int a2), (3, .int a3)] := hl
  exact w_X10_glove_e hi a1 a2 a3  C0 hK Q (R_X10_glove a1 a2 a3 Q) (y_X10_glove hi a1 a2 a3  C0 hK Q)  s0 hv hP va_S.rf hl
def lay_X8_hasCrossing (ad : Nat → Nat) (h0 : Nat) (a1 : Int32) : Nat → List Int32 → List Int64 → Option (List (Nat × Value) × List Value) := fun P xs ys => match P, xs, ys with
  | _, _, _ => none
set_option maxHeartbeats 4000000 in
set_option maxRecDepth 100000 in
theorem w_X8_hasCrossing_e {p : Program} {l : Launch} {e : Env} {s : State} {m : MethodId} {args : Array Value} {below : List Frame} {meth : Method} {c : Code} {dC : Nat → ClassId} {dI : Nat → Nat → Nat} {ad : Nat → Nat} {cA cZ : ClassId} (hi : Inj 81 ad) (h0 : Nat) (a1 : Int32) (hh0 : isSt h0) (C0 : Cx cX8_hasCrossing RX8 wsX8_hasCrossing 2 (some .boolean) p s m args meth c) (hK : KK dC dI cA cZ s) (Q : Int32 → St → Prop) (Y : Nat → List Int32 → List Int64 → St → Prop) (hY : ∀ P xs ys σ, Y P xs ys σ → XX p l e ({ frames := 1, cells := 0, slots := 0, locals := 22 } : Room) s m args below meth c (dC, dI) 81 ad (celC ad cA) 2 (ZZ below args s (dC, dI) 81 ad (celC ad cA) Q) (lay_X8_hasCrossing ad h0 a1) P xs ys σ)  (s0 : St) (hv : B_X8_hasCrossing_e h0 a1 Q Y  s0) {H : Heap} {locs : List Loc} {ls : Array Slot} (hP : va_P (dC, dI) vwCl (wd 81 ad (celC ad cA) s0) H) (hS : va_S (AA 81 ad s.heap.size) s.heap H locs) (hl : lv_has ls 2 [(0, .ref (ad h0)), (1, .int a1)]) : W p l e ({ frames := 1, cells := 0, slots := 0, locals := 22 } : Room) s m args below meth c H locs 0 0 (ZZ below args s (dC, dI) 81 ad (celC ad cA) Q) (F0 m 0 ls []) := by
  obtain ⟨hx, hb, hml, hown, hts, hr, hlocks⟩ := C0
  have hD := wd_D (s := s) (cel := celC ad cA) (σ := s0) hi
  unfold B_X8_hasCrossing_e at hv
  refine lv_iload_n hx hb dX8_hasCrossing_0 rfl (lv_at hl 1 rfl) ?_
  refine lv_iconst (v := 0) hx hb dX8_hasCrossing_1 (by decide) ?_
  refine lv_bipush (v := 23) hx hb dX8_hasCrossing_2 (by decide) ?_
  refine r_ci (va_runSN (As := [.int a1, .int 0, .int 23]) (rest := []) ⟨hx, hb, hml, hown, hts⟩ (c_X10_within hi a1 0 23 s0 _ hv H.size) ⟨va_cnB 3 hts gX8_hasCrossing_X10_within_n55 rfl rfl rfl hK.2.1 (hts _ kX8_hasCrossing_3) (by decide +kernel) ⟨Nat.le_of_ble_eq_true rfl, Nat.le_of_ble_eq_true rfl⟩, (hts _ kX8_hasCrossing_2), trivial⟩ ⟨pre_blind, pre_of hP hK⟩ rfl rfl hl.1 rfl (lv_room (Nat.le_of_ble_eq_true rfl)) dX8_hasCrossing_4 ⟨Nat.zero_le _, Nat.zero_le _⟩) hS (fun r1 s1 H locs hv hP hS => ?_)
  obtain ⟨hz_r1, hv⟩ := hv
  have hD := wd_D (s := s) (cel := celC ad cA) (σ := s1) hi
  refine lv_if_eq (tgt := 23) hx hb dX8_hasCrossing_7 (by decide) (fun c7 => ?_) (fun c7 => ?_)
  · have hv := hv.1 c7
    refine lv_iconst (v := 0) hx hb dX8_hasCrossing_23 (by decide) ?_
    exact r_zret hx hb hr hlocks (Or.inl rfl) hv hP hS dX8_hasCrossing_24
  · have hv := hv.2 c7
    refine lv_aload_n hx hb dX8_hasCrossing_10 rfl (lv_at hl 0 rfl) ?_
    refine r_get hx hb hts (iwX8_hasCrossing_X8) hown hK.1 hP h0 (ltSt_0 hh0) (ceSt_0 hh0 (s1 h0)) rfl 6 (by decide) (hts _ kX8_hasCrossing_1) (v := .ref (ad (h0 + 7))) rfl dX8_hasCrossing_11 ?_
    refine lv_iload_n hx hb dX8_hasCrossing_14 rfl (lv_at hl 1 rfl) ?_
    obtain ⟨hin, hv⟩ := hv
    refine r_iald hx hb hK.1 hP (h0 + 7) (ltSt_7 hh0) (ceSt_7 hh0 (s1 (h0 + 7))) hin dX8_hasCrossing_15 ?_
    refine lv_if_eq (tgt := 23) hx hb dX8_hasCrossing_16 (by decide) (fun c16 => ?_) (fun c16 => ?_)
    · have hv := hv.1 c16
      refine lv_iconst (v := 0) hx hb dX8_hasCrossing_23 (by decide) ?_
      exact r_zret hx hb hr hlocks (Or.inl rfl) hv hP hS dX8_hasCrossing_24
    · have hv := hv.2 c16
      refine lv_iconst (v := 1) hx hb dX8_hasCrossing_19 (by decide) ?_
      refine lv_goto (tgt := 24) hx hb dX8_hasCrossing_20 (by decide) ?_
      exact r_zret hx hb hr hlocks (Or.inr rfl) hv hP hS dX8_hasCrossing_24
set_option maxHeartbeats 4000000 in
theorem y_X8_hasCrossing {p : Program} {l : Launch} {e : Env} {s : State} {m : MethodId} {args : Array Value} {below : List Frame} {meth : Method} {c : Code} {dC : Nat → ClassId} {dI : Nat → Nat → Nat} {ad : Nat → Nat} {cA cZ : ClassId} (hi : Inj 81 ad) (h0 : Nat) (a1 : Int32) (hh0 : isSt h0) (C0 : Cx cX8_hasCrossing RX8 wsX8_hasCrossing 2 (some .boolean) p s m args meth c) (hK : KK dC dI cA cZ s) (Q : Int32 → St → Prop) : ∀ P xs ys σ, R_X8_hasCrossing h0 a1 Q P xs ys σ → XX p l e ({ frames := 1, cells := 0, slots := 0, locals := 22 } : Room) s m args below meth c (dC, dI) 81 ad (celC ad cA) 2 (ZZ below args s (dC, dI) 81 ad (celC ad cA) Q) (lay_X8_hasCrossing ad h0 a1) P xs ys σ := by
  refine Fx.elim _ (fun P xs ys σ Y hY hB => ?_)
  exact hB.elim
set_option maxHeartbeats 4000000 in
theorem c_X8_hasCrossing {l : Launch} {dC : Nat → ClassId} {dI : Nat → Nat → Nat} {ad : Nat → Nat} {cA cZ : ClassId} (hi : Inj 81 ad) (h0 : Nat) (a1 : Int32) (hh0 : isSt h0) (s0 : St) (Q : Int32 → St → Prop) (hv : V_X8_hasCrossing h0 a1 s0 Q) (sz : Nat) : Met l yX8_hasCrossing wsX8_hasCrossing ({ frames := 1, cells := 0, slots := 0, locals := 22 } : Room) (va_Pc [.ref (ad h0), .int a1] (PW dC dI ad cA cZ 81 (celC ad cA) sz s0)) (va_Qi (fun r u => (r = 0 ∨ r = 1) ∧ Q r u) (fun u t => va_P (dC, dI) vwCl (wd 81 ad (celC ad cA) u) t.heap) (AA 81 ad sz)) 0 0 (AA 81 ad sz) := by
  refine Met.ofW (cc := cX8_hasCrossing) (maxL := 2) (ret := (some .boolean)) (by decide) rfl ?_
  intro p e s m args below meth c s₁ B hml hv0
  obtain ⟨rfl, hsz, hP, hK⟩ := hv0
  subst hsz
  have C0 : Cx cX8_hasCrossing RX8 wsX8_hasCrossing 2 (some .boolean) p s m ([.ref (ad h0), .int a1] : List Value).toArray meth c := ⟨B.exec, B.bytes, hml, findClass_of_methodNamed B.named, atoms_spec (ws := wsX8_hasCrossing) B.pre, B.returns, B.notSynchronized⟩
  have hl := lv_entry ([.ref (ad h0), .int a1]) (n := 2) (Nat.le_of_ble_eq_true rfl)
  rw [lg_entry_eq]
  generalize (lg_sl ([.ref (ad h0), .int a1]) ++ List.replicate (2 - (lg_sl ([.ref (ad h0), .int a1])).length) Slot.unset).toArray = ls at hl ⊢
  have hl : lv_has ls 2 [(0, .ref (ad h0)), (1, .int a1)] := hl
  exact w_X8_hasCrossing_e hi h0 a1 hh0 C0 hK Q (R_X8_hasCrossing h0 a1 Q) (y_X8_hasCrossing hi h0 a1 hh0 C0 hK Q)  s0 hv hP va_S.rf hl
def lay_X8_addCrossing (ad : Nat → Nat) (h0 : Nat) (a1 : Int32) (a2 : Int32) : Nat → List Int32 → List Int64 → Option (List (Nat × Value) × List Value) := fun P xs ys => match P, xs, ys with
  | _, _, _ => none
set_option maxHeartbeats 4000000 in
set_option maxRecDepth 100000 in
theorem w_X8_addCrossing_e {p : Program} {l : Launch} {e : Env} {s : State} {m : MethodId} {args : Array Value} {below : List Frame} {meth : Method} {c : Code} {dC : Nat → ClassId} {dI : Nat → Nat → Nat} {ad : Nat → Nat} {cA cZ : ClassId} (hi : Inj 81 ad) (h0 : Nat) (a1 : Int32) (a2 : Int32) (hh0 : isSt h0) (C0 : Cx cX8_addCrossing RX8 wsX8_addCrossing 3 (some .int) p s m args meth c) (hK : KK dC dI cA cZ s) (Q : Int32 → St → Prop) (Y : Nat → List Int32 → List Int64 → St → Prop) (hY : ∀ P xs ys σ, Y P xs ys σ → XX p l e ({ frames := 0, cells := 0, slots := 0, locals := 0 } : Room) s m args below meth c (dC, dI) 81 ad (celC ad cA) 3 (ZI below args s (dC, dI) 81 ad (celC ad cA) Q) (lay_X8_addCrossing ad h0 a1 a2) P xs ys σ)  (s0 : St) (hv : B_X8_addCrossing_e h0 a1 a2 Q Y  s0) {H : Heap} {locs : List Loc} {ls : Array Slot} (hP : va_P (dC, dI) vwCl (wd 81 ad (celC ad cA) s0) H) (hS : va_S (AA 81 ad s.heap.size) s.heap H locs) (hl : lv_has ls 3 [(0, .ref (ad h0)), (1, .int a1), (2, .int a2)]) : W p l e ({ frames := 0, cells := 0, slots := 0, locals := 0 } : Room) s m args below meth c H locs 0 0 (ZI below args s (dC, dI) 81 ad (celC ad cA) Q) (F0 m 0 ls []) := by
  obtain ⟨hx, hb, hml, hown, hts, hr, hlocks⟩ := C0
  have hD := wd_D (s := s) (cel := celC ad cA) (σ := s0) hi
  unfold B_X8_addCrossing_e at hv
  refine lv_aload_n hx hb dX8_addCrossing_0 rfl (lv_at hl 0 rfl) ?_
  refine r_get hx hb hts (iwX8_addCrossing_X8) hown hK.1 hP h0 (ltSt_0 hh0) (ceSt_0 hh0 (s0 h0)) rfl 9 (by decide) (hts _ kX8_addCrossing_1) (v := .int (s0 h0 9)) rfl dX8_addCrossing_1 ?_
  refine lv_iconst (v := 3) hx hb dX8_addCrossing_4 (by decide) ?_
  refine lv_icmp_lt (tgt := 11) hx hb dX8_addCrossing_5 (by decide) (fun c5 => ?_) (fun c5 => ?_)
  · have hv := hv.1 c5
    refine lv_aload_n hx hb dX8_addCrossing_11 rfl (lv_at hl 0 rfl) ?_
    refine r_get hx hb hts (iwX8_addCrossing_X8) hown hK.1 hP h0 (ltSt_0 hh0) (ceSt_0 hh0 (s0 h0)) rfl 4 (by decide) (hts _ kX8_addCrossing_2) (v := .ref (ad (h0 + 5))) rfl dX8_addCrossing_12 ?_
    refine lv_aload_n hx hb dX8_addCrossing_15 rfl (lv_at hl 0 rfl) ?_
    refine r_get hx hb hts (iwX8_addCrossing_X8) hown hK.1 hP h0 (ltSt_0 hh0) (ceSt_0 hh0 (s0 h0)) rfl 9 (by decide) (hts _ kX8_addCrossing_1) (v := .int (s0 h0 9)) rfl dX8_addCrossing_16 ?_
    refine lv_iload_n hx hb dX8_addCrossing_19 rfl (lv_at hl 1 rfl) ?_
    obtain ⟨hin, hv⟩ := hv
    refine r_iast hx hb hK.1 hP hD hS (h0 + 5) (ltSt_5 hh0) (ceSt_5 hh0 (s0 (h0 + 5))) (ceSt_5 hh0 _) hin dX8_addCrossing_20 (fun H locs s1 es1 hP hD hS => ?_)
    have hv := hv s1 es1
    refine lv_aload_n hx hb dX8_addCrossing_21 rfl (lv_at hl 0 rfl) ?_
    refine r_get hx hb hts (iwX8_addCrossing_X8) hown hK.1 hP h0 (ltSt_0 hh0) (ceSt_0 hh0 (s1 h0)) rfl 5 (by decide) (hts _ kX8_addCrossing_3) (v := .ref (ad (h0 + 6))) rfl dX8_addCrossing_22 ?_
    refine lv_aload_n hx hb dX8_addCrossing_25 rfl (lv_at hl 0 rfl) ?_
    refine r_get hx hb hts (iwX8_addCrossing_X8) hown hK.1 hP h0 (ltSt_0 hh0) (ceSt_0 hh0 (s1 h0)) rfl 9 (by decide) (hts _ kX8_addCrossing_1) (v := .int (s1 h0 9)) rfl dX8_addCrossing_26 ?_
    refine lv_iload_n hx hb dX8_addCrossing_29 rfl (lv_at hl 2 rfl) ?_
    obtain ⟨hin, hv⟩ := hv
    refine r_iast hx hb hK.1 hP hD hS (h0 + 6) (ltSt_6 hh0) (ceSt_6 hh0 (s1 (h0 + 6))) (ceSt_6 hh0 _) hin dX8_addCrossing_30 (fun H locs s2 es2 hP hD hS => ?_)
    have hv := hv s2 es2
    refine lv_aload_n hx hb dX8_addCrossing_31 rfl (lv_at hl 0 rfl) ?_
    refine lv_dup hx hb dX8_addCrossing_32 rfl ?_
    refine r_get hx hb hts (iwX8_addCrossing_X8) hown hK.1 hP h0 (ltSt_0 hh0) (ceSt_0 hh0 (s2 h0)) rfl 9 (by decide) (hts _ kX8_addCrossing_1) (v := .int (s2 h0 9)) rfl dX8_addCrossing_33 ?_
    refine lv_iconst (v := 1) hx hb dX8_addCrossing_36 (by decide) ?_
    refine lv_iadd hx hb dX8_addCrossing_37 ?_
    refine r_put hx hb hts (iwX8_addCrossing_X8) tyX8 tyX8_ok nmX8 hown hK.1 hP hD hS h0 (ltSt_0 hh0) (ceSt_0 hh0 (s2 h0)) rfl 9 (by decide) (hts _ kX8_addCrossing_1) rfl (ty := .int) (v := .int ((s2 h0 9) + 1)) (by decide +kernel) rfl rfl (Nat.le_of_ble_eq_true rfl) (row := (upd (s2 h0) 9 ((s2 h0 9) + 1))) (by rw [(ceSt_0 hh0 (upd (s2 h0) 9 ((s2 h0 9) + 1)))]; rfl) dX8_addCrossing_38 (fun H locs s3 es3 hP hD hS => ?_)
    have hv := hv s3 es3
    refine lv_aload_n hx hb dX8_addCrossing_41 rfl (lv_at hl 0 rfl) ?_
    refine r_get hx hb hts (iwX8_addCrossing_X8) hown hK.1 hP h0 (ltSt_0 hh0) (ceSt_0 hh0 (s3 h0)) rfl 6 (by decide) (hts _ kX8_addCrossing_4) (v := .ref (ad (h0 + 7))) rfl dX8_addCrossing_42 ?_
    refine lv_iload_n hx hb dX8_addCrossing_45 rfl (lv_at hl 2 rfl) ?_
    refine lv_aload_n hx hb dX8_addCrossing_46 rfl (lv_at hl 0 rfl) ?_
    refine r_get hx hb hts (iwX8_addCrossing_X8) hown hK.1 hP h0 (ltSt_0 hh0) (ceSt_0 hh0 (s3 h0)) rfl 9 (by decide) (hts _ kX8_addCrossing_1) (v := .int (s3 h0 9)) rfl dX8_addCrossing_47 ?_
    obtain ⟨hin, hv⟩ := hv
    refine r_iast hx hb hK.1 hP hD hS (h0 + 7) (ltSt_7 hh0) (ceSt_7 hh0 (s3 (h0 + 7))) (ceSt_7 hh0 _) hin dX8_addCrossing_50 (fun H locs s4 es4 hP hD hS => ?_)
    have hv := hv s4 es4
    refine lv_aload_n hx hb dX8_addCrossing_51 rfl (lv_at hl 0 rfl) ?_
    refine r_get hx hb hts (iwX8_addCrossing_X8) hown hK.1 hP h0 (ltSt_0 hh0) (ceSt_0 hh0 (s4 h0)) rfl 9 (by decide) (hts _ kX8_addCrossing_1) (v := .int (s4 h0 9)) rfl dX8_addCrossing_52 ?_
    refine lv_iconst (v := 1) hx hb dX8_addCrossing_55 (by decide) ?_
    refine lv_isub hx hb dX8_addCrossing_56 ?_
    exact r_iret hx hb hr hlocks hv hP hS dX8_addCrossing_57
  · have hv := hv.2 c5
    refine lv_bipush (v := (-4)) hx hb dX8_addCrossing_8 (by decide) ?_
    exact r_iret hx hb hr hlocks hv hP hS dX8_addCrossing_10
set_option maxHeartbeats 4000000 in
theorem y_X8_addCrossing {p : Program} {l : Launch} {e : Env} {s : State} {m : MethodId} {args : Array Value} {below : List Frame} {meth : Method} {c : Code} {dC : Nat → ClassId} {dI : Nat → Nat → Nat} {ad : Nat → Nat} {cA cZ : ClassId} (hi : Inj 81 ad) (h0 : Nat) (a1 : Int32) (a2 : Int32) (hh0 : isSt h0) (C0 : Cx cX8_addCrossing RX8 wsX8_addCrossing 3 (some .int) p s m args meth c) (hK : KK dC dI cA cZ s) (Q : Int32 → St → Prop) : ∀ P xs ys σ, R_X8_addCrossing h0 a1 a2 Q P xs ys σ → XX p l e ({ frames := 0, cells := 0, slots := 0, locals := 0 } : Room) s m args below meth c (dC, dI) 81 ad (celC ad cA) 3 (ZI below args s (dC, dI) 81 ad (celC ad cA) Q) (lay_X8_addCrossing ad h0 a1 a2) P xs ys σ := by
  refine Fx.elim _ (fun P xs ys σ Y hY hB => ?_)
  exact hB.elim
set_option maxHeartbeats 4000000 in
theorem c_X8_addCrossing {l : Launch} {dC : Nat → ClassId} {dI : Nat → Nat → Nat} {ad : Nat → Nat} {cA cZ : ClassId} (hi : Inj 81 ad) (h0 : Nat) (a1 : Int32) (a2 : Int32) (hh0 : isSt h0) (s0 : St) (Q : Int32 → St → Prop) (hv : V_X8_addCrossing h0 a1 a2 s0 Q) (sz : Nat) : Met l yX8_addCrossing wsX8_addCrossing ({ frames := 0, cells := 0, slots := 0, locals := 0 } : Room) (va_Pc [.ref (ad h0), .int a1, .int a2] (PW dC dI ad cA cZ 81 (celC ad cA) sz s0)) (va_Qi Q (fun u t => va_P (dC, dI) vwCl (wd 81 ad (celC ad cA) u) t.heap) (AA 81 ad sz)) 0 0 (AA 81 ad sz) := by
  refine Met.ofW (cc := cX8_addCrossing) (maxL := 3) (ret := (some .int)) (by decide) rfl ?_
  intro p e s m args below meth c s₁ B hml hv0
  obtain ⟨rfl, hsz, hP, hK⟩ := hv0
  subst hsz
  have C0 : Cx cX8_addCrossing RX8 wsX8_addCrossing 3 (some .int) p s m ([.ref (ad h0), .int a1, .int a2] : List Value).toArray meth c := ⟨B.exec, B.bytes, hml, findClass_of_methodNamed B.named, atoms_spec (ws := wsX8_addCrossing) B.pre, B.returns, B.notSynchronized⟩
  have hl := lv_entry ([.ref (ad h0), .int a1, .int a2]) (n := 3) (Nat.le_of_ble_eq_true rfl)
  rw [lg_entry_eq]
  generalize (lg_sl ([.ref (ad h0), .int a1, .int a2]) ++ List.replicate (3 - (lg_sl ([.ref (ad h0), .int a1, .int a2])).length) Slot.unset).toArray = ls at hl ⊢
  have hl : lv_has ls 3 [(0, .ref (ad h0)), (1, .int a1), (2, .int a2)] := hl
  exact w_X8_addCrossing_e hi h0 a1 a2 hh0 C0 hK Q (R_X8_addCrossing h0 a1 a2 Q) (y_X8_addCrossing hi h0 a1 a2 hh0 C0 hK Q)  s0 hv hP va_S.rf hl
def lay_X10_crossing (ad : Nat → Nat) (a1 : Int32) (a2 : Int32) : Nat → List Int32 → List Int64 → Option (List (Nat × Value) × List Value) := fun P xs ys => match P, xs, ys with
  | _, _, _ => none
set_option maxHeartbeats 4000000 in
set_option maxRecDepth 100000 in
theorem w_X10_crossing_e {p : Program} {l : Launch} {e : Env} {s : State} {m : MethodId} {args : Array Value} {below : List Frame} {meth : Method} {c : Code} {dC : Nat → ClassId} {dI : Nat → Nat → Nat} {ad : Nat → Nat} {cA cZ : ClassId} (hi : Inj 81 ad) (a1 : Int32) (a2 : Int32)  (C0 : Cx cX10_crossing RX10 wsX10_crossing 3 (some .int) p s m args meth c) (hK : KK dC dI cA cZ s) (Q : Int32 → St → Prop) (Y : Nat → List Int32 → List Int64 → St → Prop) (hY : ∀ P xs ys σ, Y P xs ys σ → XX p l e ({ frames := 2, cells := 0, slots := 0, locals := 43 } : Room) s m args below meth c (dC, dI) 81 ad (celC ad cA) 3 (ZI below args s (dC, dI) 81 ad (celC ad cA) Q) (lay_X10_crossing ad a1 a2) P xs ys σ)  (s0 : St) (hv : B_X10_crossing_e a1 a2 Q Y  s0) {H : Heap} {locs : List Loc} {ls : Array Slot} (hP : va_P (dC, dI) vwCl (wd 81 ad (celC ad cA) s0) H) (hS : va_S (AA 81 ad s.heap.size) s.heap H locs) (hl : lv_has ls 3 [(0, .ref (ad 0)), (1, .int a1), (2, .int a2)]) : W p l e ({ frames := 2, cells := 0, slots := 0, locals := 43 } : Room) s m args below meth c H locs 0 0 (ZI below args s (dC, dI) 81 ad (celC ad cA) Q) (F0 m 0 ls []) := by
  obtain ⟨hx, hb, hml, hown, hts, hr, hlocks⟩ := C0
  have hD := wd_D (s := s) (cel := celC ad cA) (σ := s0) hi
  unfold B_X10_crossing_e at hv
  refine lv_iload_n hx hb dX10_crossing_0 rfl (lv_at hl 1 rfl) ?_
  refine r_ci (va_runS (As := [.int a1]) (rest := []) ⟨hx, hb, hml, hown, hts⟩ (c_X10_isKind hi a1 s0 _ hv H.size) (va_cwS 1 hts gX10_crossing_X10_isKind rfl rfl rfl (by decide +kernel) ⟨Nat.le_of_ble_eq_true rfl, Nat.le_of_ble_eq_true rfl⟩) ⟨pre_blind, pre_of hP hK⟩ rfl rfl hl.1 rfl (lv_room (Nat.le_of_ble_eq_true rfl)) dX10_crossing_1 ⟨Nat.zero_le _, Nat.zero_le _⟩) hS (fun r1 s1 H locs hv hP hS => ?_)
  obtain ⟨hz_r1, hv⟩ := hv
  have hD := wd_D (s := s) (cel := celC ad cA) (σ := s1) hi
  refine lv_if_eq (tgt := 31) hx hb dX10_crossing_4 (by decide) (fun c4 => ?_) (fun c4 => ?_)
  · have hv := hv.1 c4
    refine lv_aload_n hx hb dX10_crossing_31 rfl (lv_at hl 0 rfl) ?_
    refine r_ci (va_runV (As := []) (rest := []) ⟨hx, hb, hml, hown, hts⟩ (c_X10_bad hi  s1 _ hv H.size) (cwV 0 hts gX10_crossing_X10_bad rfl rfl rfl (by decide +kernel) ⟨Nat.le_of_ble_eq_true rfl, Nat.le_of_ble_eq_true rfl⟩) ⟨pre_blind, r_recv hK.1 hP 0 (by decide) (ceGR_0 (s1 0)) rfl, pre_of hP hK⟩ rfl rfl hl.1 rfl (lv_room (Nat.le_of_ble_eq_true rfl)) dX10_crossing_32 ⟨Nat.zero_le _, Nat.zero_le _⟩) hS (fun r2 s2 H locs hv hP hS => ?_)
    have hD := wd_D (s := s) (cel := celC ad cA) (σ := s2) hi
    exact r_iret hx hb hr hlocks hv hP hS dX10_crossing_35
  · have hv := hv.2 c4
    refine lv_iload_n hx hb dX10_crossing_7 rfl (lv_at hl 2 rfl) ?_
    refine lv_iconst (v := 0) hx hb dX10_crossing_8 (by decide) ?_
    refine lv_bipush (v := 22) hx hb dX10_crossing_9 (by decide) ?_
    refine r_ci (va_runS (As := [.int a2, .int 0, .int 22]) (rest := []) ⟨hx, hb, hml, hown, hts⟩ (c_X10_within hi a2 0 22 s1 _ hv H.size) (va_cwS 3 hts gX10_crossing_X10_within rfl rfl rfl (by decide +kernel) ⟨Nat.le_of_ble_eq_true rfl, Nat.le_of_ble_eq_true rfl⟩) ⟨pre_blind, pre_of hP hK⟩ rfl rfl hl.1 rfl (lv_room (Nat.le_of_ble_eq_true rfl)) dX10_crossing_11 ⟨Nat.zero_le _, Nat.zero_le _⟩) hS (fun r3 s3 H locs hv hP hS => ?_)
    obtain ⟨hz_r3, hv⟩ := hv
    have hD := wd_D (s := s) (cel := celC ad cA) (σ := s3) hi
    refine lv_if_eq (tgt := 31) hx hb dX10_crossing_14 (by decide) (fun c14 => ?_) (fun c14 => ?_)
    · have hv := hv.1 c14
      refine lv_aload_n hx hb dX10_crossing_31 rfl (lv_at hl 0 rfl) ?_
      refine r_ci (va_runV (As := []) (rest := []) ⟨hx, hb, hml, hown, hts⟩ (c_X10_bad hi  s3 _ hv H.size) (cwV 0 hts gX10_crossing_X10_bad rfl rfl rfl (by decide +kernel) ⟨Nat.le_of_ble_eq_true rfl, Nat.le_of_ble_eq_true rfl⟩) ⟨pre_blind, r_recv hK.1 hP 0 (by decide) (ceGR_0 (s3 0)) rfl, pre_of hP hK⟩ rfl rfl hl.1 rfl (lv_room (Nat.le_of_ble_eq_true rfl)) dX10_crossing_32 ⟨Nat.zero_le _, Nat.zero_le _⟩) hS (fun r4 s4 H locs hv hP hS => ?_)
      have hD := wd_D (s := s) (cel := celC ad cA) (σ := s4) hi
      exact r_iret hx hb hr hlocks hv hP hS dX10_crossing_35
    · have hv := hv.2 c14
      refine lv_aload_n hx hb dX10_crossing_17 rfl (lv_at hl 0 rfl) ?_
      refine r_get hx hb hts (iwX10_crossing_X10) hown hK.1 hP 0 (by decide) (ceGR_0 (s3 0)) rfl 0 (by decide) (hts _ kX10_crossing_1) (v := .ref (ad 1)) rfl dX10_crossing_18 ?_
      refine r_get hx hb hts (iwX10_crossing_X7) hown hK.1 hP 1 (ltSc_0 vSc_1) (ceSc_0 vSc_1 (s3 1)) rfl 0 (by decide) (hts _ kX10_crossing_2) (v := .ref (ad 2)) rfl dX10_crossing_21 ?_
      refine lv_iload_n hx hb dX10_crossing_24 rfl (lv_at hl 2 rfl) ?_
      refine r_ci (va_runV (As := [.int a2]) (rest := []) ⟨hx, hb, hml, hown, hts⟩ (c_X8_hasCrossing hi 2 a2 (vSc1 vSc_1) s3 _ hv H.size) (cwV 1 hts gX10_crossing_X8_hasCrossing rfl rfl rfl (by decide +kernel) ⟨Nat.le_of_ble_eq_true rfl, Nat.le_of_ble_eq_true rfl⟩) ⟨pre_blind, r_recv hK.1 hP 2 (ltSt_0 (vSc1 vSc_1)) (ceSt_0 (vSc1 vSc_1) (s3 2)) rfl, pre_of hP hK⟩ rfl rfl hl.1 rfl (lv_room (Nat.le_of_ble_eq_true rfl)) dX10_crossing_25 ⟨Nat.zero_le _, Nat.zero_le _⟩) hS (fun r5 s5 H locs hv hP hS => ?_)
      obtain ⟨hz_r5, hv⟩ := hv
      have hD := wd_D (s := s) (cel := celC ad cA) (σ := s5) hi
      refine lv_if_eq (tgt := 36) hx hb dX10_crossing_28 (by decide) (fun c28 => ?_) (fun c28 => ?_)
      · have hv := hv.1 c28
        refine lv_aload_n hx hb dX10_crossing_36 rfl (lv_at hl 0 rfl) ?_
        refine r_get hx hb hts (iwX10_crossing_X10) hown hK.1 hP 0 (by decide) (ceGR_0 (s5 0)) rfl 0 (by decide) (hts _ kX10_crossing_1) (v := .ref (ad 1)) rfl dX10_crossing_37 ?_
        refine r_get hx hb hts (iwX10_crossing_X7) hown hK.1 hP 1 (ltSc_0 vSc_1) (ceSc_0 vSc_1 (s5 1)) rfl 0 (by decide) (hts _ kX10_crossing_2) (v := .ref (ad 2)) rfl dX10_crossing_40 ?_
        refine r_get hx hb hts (iwX10_crossing_X8) hown hK.1 hP 2 (ltSt_0 (vSc1 vSc_1)) (ceSt_0 (vSc1 vSc_1) (s5 2)) rfl 9 (by decide) (hts _ kX10_crossing_3) (v := .int (s5 2 9)) rfl dX10_crossing_43 ?_
        refine lv_iconst (v := 3) hx hb dX10_crossing_46 (by decide) ?_
        refine lv_icmp_lt (tgt := 55) hx hb dX10_crossing_47 (by decide) (fun c47 => ?_) (fun c47 => ?_)
        · have hv := hv.1 c47
          refine lv_aload_n hx hb dX10_crossing_55 rfl (lv_at hl 0 rfl) ?_
          refine r_get hx hb hts (iwX10_crossing_X10) hown hK.1 hP 0 (by decide) (ceGR_0 (s5 0)) rfl 0 (by decide) (hts _ kX10_crossing_1) (v := .ref (ad 1)) rfl dX10_crossing_56 ?_
          refine r_get hx hb hts (iwX10_crossing_X7) hown hK.1 hP 1 (ltSc_0 vSc_1) (ceSc_0 vSc_1 (s5 1)) rfl 1 (by decide) (hts _ kX10_crossing_4) (v := .ref (ad 11)) rfl dX10_crossing_59 ?_
          refine lv_iconst (v := 0) hx hb dX10_crossing_62 (by decide) ?_
          refine r_put hx hb hts (iwX10_crossing_X4) tyX4 tyX4_ok nmX4 hown hK.1 hP hD hS 11 (ltPa_0 (vSc10 vSc_1)) (cePa_0 (vSc10 vSc_1) (s5 11)) rfl 1 (by decide) (hts _ kX10_crossing_5) rfl (ty := .int) (v := .int 0) (by decide +kernel) rfl rfl (Nat.le_of_ble_eq_true rfl) (row := (upd (s5 11) 1 0)) (by rw [(cePa_0 (vSc10 vSc_1) (upd (s5 11) 1 0))]; rfl) dX10_crossing_63 (fun H locs s6 es6 hP hD hS => ?_)
          have hv := hv s6 es6
          refine lv_aload_n hx hb dX10_crossing_66 rfl (lv_at hl 0 rfl) ?_
          refine r_get hx hb hts (iwX10_crossing_X10) hown hK.1 hP 0 (by decide) (ceGR_0 (s6 0)) rfl 0 (by decide) (hts _ kX10_crossing_1) (v := .ref (ad 1)) rfl dX10_crossing_67 ?_
          refine r_get hx hb hts (iwX10_crossing_X7) hown hK.1 hP 1 (ltSc_0 vSc_1) (ceSc_0 vSc_1 (s6 1)) rfl 0 (by decide) (hts _ kX10_crossing_2) (v := .ref (ad 2)) rfl dX10_crossing_70 ?_
          refine lv_iload_n hx hb dX10_crossing_73 rfl (lv_at hl 1 rfl) ?_
          refine lv_iload_n hx hb dX10_crossing_74 rfl (lv_at hl 2 rfl) ?_
          refine r_ci (va_runV (As := [.int a1, .int a2]) (rest := []) ⟨hx, hb, hml, hown, hts⟩ (c_X8_addCrossing hi 2 a1 a2 (vSc1 vSc_1) s6 _ hv H.size) (cwV 2 hts gX10_crossing_X8_addCrossing rfl rfl rfl (by decide +kernel) ⟨Nat.le_of_ble_eq_true rfl, Nat.le_of_ble_eq_true rfl⟩) ⟨pre_blind, r_recv hK.1 hP 2 (ltSt_0 (vSc1 vSc_1)) (ceSt_0 (vSc1 vSc_1) (s6 2)) rfl, pre_of hP hK⟩ rfl rfl hl.1 rfl (lv_room (Nat.le_of_ble_eq_true rfl)) dX10_crossing_75 ⟨Nat.zero_le _, Nat.zero_le _⟩) hS (fun r7 s7 H locs hv hP hS => ?_)
          have hD := wd_D (s := s) (cel := celC ad cA) (σ := s7) hi
          exact r_iret hx hb hr hlocks hv hP hS dX10_crossing_78
        · have hv := hv.2 c47
          refine lv_aload_n hx hb dX10_crossing_50 rfl (lv_at hl 0 rfl) ?_
          refine r_ci (va_runV (As := []) (rest := []) ⟨hx, hb, hml, hown, hts⟩ (c_X10_full hi  s5 _ hv H.size) (cwV 0 hts gX10_crossing_X10_full rfl rfl rfl (by decide +kernel) ⟨Nat.le_of_ble_eq_true rfl, Nat.le_of_ble_eq_true rfl⟩) ⟨pre_blind, r_recv hK.1 hP 0 (by decide) (ceGR_0 (s5 0)) rfl, pre_of hP hK⟩ rfl rfl hl.1 rfl (lv_room (Nat.le_of_ble_eq_true rfl)) dX10_crossing_51 ⟨Nat.zero_le _, Nat.zero_le _⟩) hS (fun r8 s8 H locs hv hP hS => ?_)
          have hD := wd_D (s := s) (cel := celC ad cA) (σ := s8) hi
          exact r_iret hx hb hr hlocks hv hP hS dX10_crossing_54
      · have hv := hv.2 c28
        refine lv_aload_n hx hb dX10_crossing_31 rfl (lv_at hl 0 rfl) ?_
        refine r_ci (va_runV (As := []) (rest := []) ⟨hx, hb, hml, hown, hts⟩ (c_X10_bad hi  s5 _ hv H.size) (cwV 0 hts gX10_crossing_X10_bad rfl rfl rfl (by decide +kernel) ⟨Nat.le_of_ble_eq_true rfl, Nat.le_of_ble_eq_true rfl⟩) ⟨pre_blind, r_recv hK.1 hP 0 (by decide) (ceGR_0 (s5 0)) rfl, pre_of hP hK⟩ rfl rfl hl.1 rfl (lv_room (Nat.le_of_ble_eq_true rfl)) dX10_crossing_32 ⟨Nat.zero_le _, Nat.zero_le _⟩) hS (fun r9 s9 H locs hv hP hS => ?_)
        have hD := wd_D (s := s) (cel := celC ad cA) (σ := s9) hi
        exact r_iret hx hb hr hlocks hv hP hS dX10_crossing_35
set_option maxHeartbeats 4000000 in
theorem y_X10_crossing {p : Program} {l : Launch} {e : Env} {s : State} {m : MethodId} {args : Array Value} {below : List Frame} {meth : Method} {c : Code} {dC : Nat → ClassId} {dI : Nat → Nat → Nat} {ad : Nat → Nat} {cA cZ : ClassId} (hi : Inj 81 ad) (a1 : Int32) (a2 : Int32)  (C0 : Cx cX10_crossing RX10 wsX10_crossing 3 (some .int) p s m args meth c) (hK : KK dC dI cA cZ s) (Q : Int32 → St → Prop) : ∀ P xs ys σ, R_X10_crossing a1 a2 Q P xs ys σ → XX p l e ({ frames := 2, cells := 0, slots := 0, locals := 43 } : Room) s m args below meth c (dC, dI) 81 ad (celC ad cA) 3 (ZI below args s (dC, dI) 81 ad (celC ad cA) Q) (lay_X10_crossing ad a1 a2) P xs ys σ := by
  refine Fx.elim _ (fun P xs ys σ Y hY hB => ?_)
  exact hB.elim
set_option maxHeartbeats 4000000 in
theorem c_X10_crossing {l : Launch} {dC : Nat → ClassId} {dI : Nat → Nat → Nat} {ad : Nat → Nat} {cA cZ : ClassId} (hi : Inj 81 ad) (a1 : Int32) (a2 : Int32)  (s0 : St) (Q : Int32 → St → Prop) (hv : V_X10_crossing a1 a2 s0 Q) (sz : Nat) : Met l yX10_crossing wsX10_crossing ({ frames := 2, cells := 0, slots := 0, locals := 43 } : Room) (va_Pc [.ref (ad 0), .int a1, .int a2] (PW dC dI ad cA cZ 81 (celC ad cA) sz s0)) (va_Qi Q (fun u t => va_P (dC, dI) vwCl (wd 81 ad (celC ad cA) u) t.heap) (AA 81 ad sz)) 0 0 (AA 81 ad sz) := by
  refine Met.ofW (cc := cX10_crossing) (maxL := 3) (ret := (some .int)) (by decide) rfl ?_
  intro p e s m args below meth c s₁ B hml hv0
  obtain ⟨rfl, hsz, hP, hK⟩ := hv0
  subst hsz
  have C0 : Cx cX10_crossing RX10 wsX10_crossing 3 (some .int) p s m ([.ref (ad 0), .int a1, .int a2] : List Value).toArray meth c := ⟨B.exec, B.bytes, hml, findClass_of_methodNamed B.named, atoms_spec (ws := wsX10_crossing) B.pre, B.returns, B.notSynchronized⟩
  have hl := lv_entry ([.ref (ad 0), .int a1, .int a2]) (n := 3) (Nat.le_of_ble_eq_true rfl)
  rw [lg_entry_eq]
  generalize (lg_sl ([.ref (ad 0), .int a1, .int a2]) ++ List.replicate (3 - (lg_sl ([.ref (ad 0), .int a1, .int a2])).length) Slot.unset).toArray = ls at hl ⊢
  have hl : lv_has ls 3 [(0, .ref (ad 0)), (1, .int a1), (2, .int a2)] := hl
  exact w_X10_crossing_e hi a1 a2  C0 hK Q (R_X10_crossing a1 a2 Q) (y_X10_crossing hi a1 a2  C0 hK Q)  s0 hv hP va_S.rf hl
def lay_X4_keep (ad : Nat → Nat) (h0 : Nat) (h1 : Nat) : Nat → List Int32 → List Int64 → Option (List (Nat × Value) × List Value) := fun P xs ys => match P, xs, ys with
  | 31, [], [] => some ([(0, .ref (ad h0)), (1, .ref (ad h1))], [])
  | _, _, _ => none
set_option maxHeartbeats 4000000 in
set_option maxRecDepth 100000 in
theorem w_X4_keep_e {p : Program} {l : Launch} {e : Env} {s : State} {m : MethodId} {args : Array Value} {below : List Frame} {meth : Method} {c : Code} {dC : Nat → ClassId} {dI : Nat → Nat → Nat} {ad : Nat → Nat} {cA cZ : ClassId} (hi : Inj 81 ad) (h0 : Nat) (h1 : Nat) (hh0 : isPa h0) (hh1 : isSt h1) (C0 : Cx cX4_keep RX4 wsX4_keep 3 none p s m args meth c) (hK : KK dC dI cA cZ s) (Q : St → Prop) (Y : Nat → List Int32 → List Int64 → St → Prop) (hY : ∀ P xs ys σ, Y P xs ys σ → XX p l e ({ frames := 1, cells := 0, slots := 0, locals := 35 } : Room) s m args below meth c (dC, dI) 81 ad (celC ad cA) 3 (ZV below args s (dC, dI) 81 ad (celC ad cA) Q) (lay_X4_keep ad h0 h1) P xs ys σ)  (s0 : St) (hv : B_X4_keep_e h0 h1 Q Y  s0) {H : Heap} {locs : List Loc} {ls : Array Slot} (hP : va_P (dC, dI) vwCl (wd 81 ad (celC ad cA) s0) H) (hS : va_S (AA 81 ad s.heap.size) s.heap H locs) (hl : lv_has ls 3 [(0, .ref (ad h0)), (1, .ref (ad h1))]) : W p l e ({ frames := 1, cells := 0, slots := 0, locals := 35 } : Room) s m args below meth c H locs 0 0 (ZV below args s (dC, dI) 81 ad (celC ad cA) Q) (F0 m 0 ls []) := by
  obtain ⟨hx, hb, hml, hown, hts, hr, hlocks⟩ := C0
  have hD := wd_D (s := s) (cel := celC ad cA) (σ := s0) hi
  unfold B_X4_keep_e at hv
  refine lv_aload_n hx hb dX4_keep_0 rfl (lv_at hl 0 rfl) ?_
  refine r_get hx hb hts (iwX4_keep_X4) hown hK.1 hP h0 (ltPa_0 hh0) (cePa_0 hh0 (s0 h0)) rfl 1 (by decide) (hts _ kX4_keep_1) (v := .int (s0 h0 1)) rfl dX4_keep_1 ?_
  refine lv_bipush (v := 8) hx hb dX4_keep_4 (by decide) ?_
  refine lv_icmp_lt (tgt := 31) hx hb dX4_keep_6 (by decide) (fun c6 => ?_) (fun c6 => ?_)
  · have hv := hv.1 c6
    exact hY 31 [] [] s0 hv _ _ rfl H locs ls hP hS (lv_sub hl [0, 1] rfl)
  · have hv := hv.2 c6
    refine lv_aload_n hx hb dX4_keep_9 rfl (lv_at hl 0 rfl) ?_
    refine r_get hx hb hts (iwX4_keep_X4) hown hK.1 hP h0 (ltPa_0 hh0) (cePa_0 hh0 (s0 h0)) rfl 0 (by decide) (hts _ kX4_keep_2) (v := .ref (ad (h0 + 1))) rfl dX4_keep_10 ?_
    refine lv_bipush (v := 9) hx hb dX4_keep_13 (by decide) ?_
    refine lv_aload_n hx hb dX4_keep_15 rfl (lv_at hl 0 rfl) ?_
    refine r_get hx hb hts (iwX4_keep_X4) hown hK.1 hP h0 (ltPa_0 hh0) (cePa_0 hh0 (s0 h0)) rfl 0 (by decide) (hts _ kX4_keep_2) (v := .ref (ad (h0 + 1))) rfl dX4_keep_16 ?_
    refine lv_iconst (v := 0) hx hb dX4_keep_19 (by decide) ?_
    refine lv_bipush (v := 63) hx hb dX4_keep_20 (by decide) ?_
    refine r_copy (sp' := 9) (dp' := 0) (n' := 63) hx hb (hml.trans hl.1.symm) hown (hts _ kX4_keep_3) (hts _ kX4_keep_4) (hts _ kX4_keep_5) (hts _ kX4_keep_6) hK.1 hP hD hS (h0 + 1) (h0 + 1) (ltPa_1 hh0) (ltPa_1 hh0) (cePa_1 hh0 (s0 (h0 + 1))) (cePa_1 hh0 (s0 (h0 + 1))) (cePa_1 hh0 _) (by decide) (by decide) (by decide) rfl rfl rfl (by decide) (by decide) (Nat.le_of_ble_eq_true rfl) (Nat.le_of_ble_eq_true rfl) dX4_keep_22 (fun H locs s1 es1 hP hD hS => ?_)
    have hv := hv s1 es1
    refine lv_aload_n hx hb dX4_keep_25 rfl (lv_at hl 0 rfl) ?_
    refine lv_bipush (v := 7) hx hb dX4_keep_26 (by decide) ?_
    refine r_put hx hb hts (iwX4_keep_X4) tyX4 tyX4_ok nmX4 hown hK.1 hP hD hS h0 (ltPa_0 hh0) (cePa_0 hh0 (s1 h0)) rfl 1 (by decide) (hts _ kX4_keep_1) rfl (ty := .int) (v := .int 7) (by decide +kernel) rfl rfl (Nat.le_of_ble_eq_true rfl) (row := (upd (s1 h0) 1 7)) (by rw [(cePa_0 hh0 (upd (s1 h0) 1 7))]; rfl) dX4_keep_28 (fun H locs s2 es2 hP hD hS => ?_)
    have hv := hv s2 es2
    exact hY 31 [] [] s2 hv _ _ rfl H locs ls hP hS (lv_sub hl [0, 1] rfl)
set_option maxHeartbeats 4000000 in
set_option maxRecDepth 100000 in
theorem w_X4_keep_31 {p : Program} {l : Launch} {e : Env} {s : State} {m : MethodId} {args : Array Value} {below : List Frame} {meth : Method} {c : Code} {dC : Nat → ClassId} {dI : Nat → Nat → Nat} {ad : Nat → Nat} {cA cZ : ClassId} (hi : Inj 81 ad) (h0 : Nat) (h1 : Nat) (hh0 : isPa h0) (hh1 : isSt h1) (C0 : Cx cX4_keep RX4 wsX4_keep 3 none p s m args meth c) (hK : KK dC dI cA cZ s) (Q : St → Prop) (Y : Nat → List Int32 → List Int64 → St → Prop) (hY : ∀ P xs ys σ, Y P xs ys σ → XX p l e ({ frames := 1, cells := 0, slots := 0, locals := 35 } : Room) s m args below meth c (dC, dI) 81 ad (celC ad cA) 3 (ZV below args s (dC, dI) 81 ad (celC ad cA) Q) (lay_X4_keep ad h0 h1) P xs ys σ)  (s0 : St) (hv : B_X4_keep_31 h0 h1 Q Y  s0) {H : Heap} {locs : List Loc} {ls : Array Slot} (hP : va_P (dC, dI) vwCl (wd 81 ad (celC ad cA) s0) H) (hS : va_S (AA 81 ad s.heap.size) s.heap H locs) (hl : lv_has ls 3 [(0, .ref (ad h0)), (1, .ref (ad h1))]) : W p l e ({ frames := 1, cells := 0, slots := 0, locals := 35 } : Room) s m args below meth c H locs 0 0 (ZV below args s (dC, dI) 81 ad (celC ad cA) Q) (F0 m 31 ls []) := by
  obtain ⟨hx, hb, hml, hown, hts, hr, hlocks⟩ := C0
  have hD := wd_D (s := s) (cel := celC ad cA) (σ := s0) hi
  unfold B_X4_keep_31 at hv
  refine lv_aload_n hx hb dX4_keep_31 rfl (lv_at hl 0 rfl) ?_
  refine r_get hx hb hts (iwX4_keep_X4) hown hK.1 hP h0 (ltPa_0 hh0) (cePa_0 hh0 (s0 h0)) rfl 1 (by decide) (hts _ kX4_keep_1) (v := .int (s0 h0 1)) rfl dX4_keep_32 ?_
  refine lv_bipush (v := 9) hx hb dX4_keep_35 (by decide) ?_
  refine lv_imul hx hb dX4_keep_37 ?_
  refine lv_istore_n (lv' := [(2, .int ((s0 h0 1) * 9)), (0, .ref (ad h0)), (1, .ref (ad h1))]) hx hb dX4_keep_38 rfl hl (by decide) rfl (fun ls hl => ?_)
  refine lv_aload_n hx hb dX4_keep_39 rfl (lv_at hl 2 rfl) ?_
  refine r_get hx hb hts (iwX4_keep_X8) hown hK.1 hP h1 (ltSt_0 hh1) (ceSt_0 hh1 (s0 h1)) rfl 3 (by decide) (hts _ kX4_keep_7) (v := .ref (ad (h1 + 4))) rfl dX4_keep_40 ?_
  refine lv_iconst (v := 0) hx hb dX4_keep_43 (by decide) ?_
  refine lv_aload_n hx hb dX4_keep_44 rfl (lv_at hl 1 rfl) ?_
  refine r_get hx hb hts (iwX4_keep_X4) hown hK.1 hP h0 (ltPa_0 hh0) (cePa_0 hh0 (s0 h0)) rfl 0 (by decide) (hts _ kX4_keep_2) (v := .ref (ad (h0 + 1))) rfl dX4_keep_45 ?_
  refine lv_iload_n hx hb dX4_keep_48 rfl (lv_at hl 0 rfl) ?_
  refine lv_bipush (v := 7) hx hb dX4_keep_49 (by decide) ?_
  obtain ⟨hcp1, hv⟩ := hv
  obtain ⟨hcp4, hv⟩ := hv
  refine r_copy (sp' := 0) (dp' := (((s0 h0 1) * 9).toNatClampNeg)) (n' := 7) hx hb (hml.trans hl.1.symm) hown (hts _ kX4_keep_3) (hts _ kX4_keep_4) (hts _ kX4_keep_5) (hts _ kX4_keep_6) hK.1 hP hD hS (h1 + 4) (h0 + 1) (ltSt_4 hh1) (ltPa_1 hh0) (ceSt_4 hh1 (s0 (h1 + 4))) (cePa_1 hh0 (s0 (h0 + 1))) (cePa_1 hh0 _) (by decide) hcp1 (by decide) rfl rfl rfl (by decide) hcp4 (Nat.le_of_ble_eq_true rfl) (Nat.le_of_ble_eq_true rfl) dX4_keep_51 (fun H locs s1 es1 hP hD hS => ?_)
  have hv := hv s1 es1
  refine lv_aload_n hx hb dX4_keep_54 rfl (lv_at hl 1 rfl) ?_
  refine r_get hx hb hts (iwX4_keep_X4) hown hK.1 hP h0 (ltPa_0 hh0) (cePa_0 hh0 (s1 h0)) rfl 0 (by decide) (hts _ kX4_keep_2) (v := .ref (ad (h0 + 1))) rfl dX4_keep_55 ?_
  refine lv_iload_n hx hb dX4_keep_58 rfl (lv_at hl 0 rfl) ?_
  refine lv_bipush (v := 7) hx hb dX4_keep_59 (by decide) ?_
  refine lv_iadd hx hb dX4_keep_61 ?_
  refine lv_aload_n hx hb dX4_keep_62 rfl (lv_at hl 2 rfl) ?_
  refine r_get hx hb hts (iwX4_keep_X8) hown hK.1 hP h1 (ltSt_0 hh1) (ceSt_0 hh1 (s1 h1)) rfl 10 (by decide) (hts _ kX4_keep_8) (v := .int (s1 h1 10)) rfl dX4_keep_63 ?_
  obtain ⟨hin, hv⟩ := hv
  refine r_iast hx hb hK.1 hP hD hS (h0 + 1) (ltPa_1 hh0) (cePa_1 hh0 (s1 (h0 + 1))) (cePa_1 hh0 _) hin dX4_keep_66 (fun H locs s2 es2 hP hD hS => ?_)
  have hv := hv s2 es2
  refine lv_aload_n hx hb dX4_keep_67 rfl (lv_at hl 1 rfl) ?_
  refine r_get hx hb hts (iwX4_keep_X4) hown hK.1 hP h0 (ltPa_0 hh0) (cePa_0 hh0 (s2 h0)) rfl 0 (by decide) (hts _ kX4_keep_2) (v := .ref (ad (h0 + 1))) rfl dX4_keep_68 ?_
  refine lv_iload_n hx hb dX4_keep_71 rfl (lv_at hl 0 rfl) ?_
  refine lv_bipush (v := 8) hx hb dX4_keep_72 (by decide) ?_
  refine lv_iadd hx hb dX4_keep_74 ?_
  refine lv_aload_n hx hb dX4_keep_75 rfl (lv_at hl 2 rfl) ?_
  refine r_get hx hb hts (iwX4_keep_X8) hown hK.1 hP h1 (ltSt_0 hh1) (ceSt_0 hh1 (s2 h1)) rfl 11 (by decide) (hts _ kX4_keep_9) (v := .int (s2 h1 11)) rfl dX4_keep_76 ?_
  obtain ⟨hin, hv⟩ := hv
  refine r_iast hx hb hK.1 hP hD hS (h0 + 1) (ltPa_1 hh0) (cePa_1 hh0 (s2 (h0 + 1))) (cePa_1 hh0 _) hin dX4_keep_79 (fun H locs s3 es3 hP hD hS => ?_)
  have hv := hv s3 es3
  refine lv_aload_n hx hb dX4_keep_80 rfl (lv_at hl 1 rfl) ?_
  refine lv_dup hx hb dX4_keep_81 rfl ?_
  refine r_get hx hb hts (iwX4_keep_X4) hown hK.1 hP h0 (ltPa_0 hh0) (cePa_0 hh0 (s3 h0)) rfl 1 (by decide) (hts _ kX4_keep_1) (v := .int (s3 h0 1)) rfl dX4_keep_82 ?_
  refine lv_iconst (v := 1) hx hb dX4_keep_85 (by decide) ?_
  refine lv_iadd hx hb dX4_keep_86 ?_
  refine r_put hx hb hts (iwX4_keep_X4) tyX4 tyX4_ok nmX4 hown hK.1 hP hD hS h0 (ltPa_0 hh0) (cePa_0 hh0 (s3 h0)) rfl 1 (by decide) (hts _ kX4_keep_1) rfl (ty := .int) (v := .int ((s3 h0 1) + 1)) (by decide +kernel) rfl rfl (Nat.le_of_ble_eq_true rfl) (row := (upd (s3 h0) 1 ((s3 h0 1) + 1))) (by rw [(cePa_0 hh0 (upd (s3 h0) 1 ((s3 h0 1) + 1)))]; rfl) dX4_keep_87 (fun H locs s4 es4 hP hD hS => ?_)
  have hv := hv s4 es4
  exact r_vret hx hb hr hlocks hv hP hS dX4_keep_90
set_option maxHeartbeats 4000000 in
theorem y_X4_keep {p : Program} {l : Launch} {e : Env} {s : State} {m : MethodId} {args : Array Value} {below : List Frame} {meth : Method} {c : Code} {dC : Nat → ClassId} {dI : Nat → Nat → Nat} {ad : Nat → Nat} {cA cZ : ClassId} (hi : Inj 81 ad) (h0 : Nat) (h1 : Nat) (hh0 : isPa h0) (hh1 : isSt h1) (C0 : Cx cX4_keep RX4 wsX4_keep 3 none p s m args meth c) (hK : KK dC dI cA cZ s) (Q : St → Prop) : ∀ P xs ys σ, R_X4_keep h0 h1 Q P xs ys σ → XX p l e ({ frames := 1, cells := 0, slots := 0, locals := 35 } : Room) s m args below meth c (dC, dI) 81 ad (celC ad cA) 3 (ZV below args s (dC, dI) 81 ad (celC ad cA) Q) (lay_X4_keep ad h0 h1) P xs ys σ := by
  refine Fx.elim _ (fun P xs ys σ Y hY hB => ?_)
  rcases hB with ⟨rfl, rfl, rfl, hB⟩
  · intro lv st he H locs ls hP hS hl
    cases he
    exact w_X4_keep_31 hi h0 h1 hh0 hh1 C0 hK Q Y hY  σ hB hP hS hl
set_option maxHeartbeats 4000000 in
theorem c_X4_keep {l : Launch} {dC : Nat → ClassId} {dI : Nat → Nat → Nat} {ad : Nat → Nat} {cA cZ : ClassId} (hi : Inj 81 ad) (h0 : Nat) (h1 : Nat) (hh0 : isPa h0) (hh1 : isSt h1) (s0 : St) (Q : St → Prop) (hv : V_X4_keep h0 h1 s0 Q) (sz : Nat) : Met l yX4_keep wsX4_keep ({ frames := 1, cells := 0, slots := 0, locals := 35 } : Room) (va_Pc [.ref (ad h0), .ref (ad h1)] (PW dC dI ad cA cZ 81 (celC ad cA) sz s0)) (va_Qv Q (fun u t => va_P (dC, dI) vwCl (wd 81 ad (celC ad cA) u) t.heap) (AA 81 ad sz)) 0 0 (AA 81 ad sz) := by
  refine Met.ofW (cc := cX4_keep) (maxL := 3) (ret := none) (by decide) rfl ?_
  intro p e s m args below meth c s₁ B hml hv0
  obtain ⟨rfl, hsz, hP, hK⟩ := hv0
  subst hsz
  have C0 : Cx cX4_keep RX4 wsX4_keep 3 none p s m ([.ref (ad h0), .ref (ad h1)] : List Value).toArray meth c := ⟨B.exec, B.bytes, hml, findClass_of_methodNamed B.named, atoms_spec (ws := wsX4_keep) B.pre, B.returns, B.notSynchronized⟩
  have hl := lv_entry ([.ref (ad h0), .ref (ad h1)]) (n := 3) (Nat.le_of_ble_eq_true rfl)
  rw [lg_entry_eq]
  generalize (lg_sl ([.ref (ad h0), .ref (ad h1)]) ++ List.replicate (3 - (lg_sl ([.ref (ad h0), .ref (ad h1)])).length) Slot.unset).toArray = ls at hl ⊢
  have hl : lv_has ls 3 [(0, .ref (ad h0)), (1, .ref (ad h1))] := hl
  exact w_X4_keep_e hi h0 h1 hh0 hh1 C0 hK Q (R_X4_keep h0 h1 Q) (y_X4_keep hi h0 h1 hh0 hh1 C0 hK Q)  s0 hv hP va_S.rf hl
def lay_X8_shutBit (ad : Nat → Nat) (h0 : Nat) (a1 : Int32) : Nat → List Int32 → List Int64 → Option (List (Nat × Value) × List Value) := fun P xs ys => match P, xs, ys with
  | _, _, _ => none
set_option maxHeartbeats 4000000 in
set_option maxRecDepth 100000 in
theorem w_X8_shutBit_e {p : Program} {l : Launch} {e : Env} {s : State} {m : MethodId} {args : Array Value} {below : List Frame} {meth : Method} {c : Code} {dC : Nat → ClassId} {dI : Nat → Nat → Nat} {ad : Nat → Nat} {cA cZ : ClassId} (hi : Inj 81 ad) (h0 : Nat) (a1 : Int32) (hh0 : isSt h0) (C0 : Cx cX8_shutBit RX8 wsX8_shutBit 2 (some .int) p s m args meth c) (hK : KK dC dI cA cZ s) (Q : Int32 → St → Prop) (Y : Nat → List Int32 → List Int64 → St → Prop) (hY : ∀ P xs ys σ, Y P xs ys σ → XX p l e ({ frames := 0, cells := 0, slots := 0, locals := 0 } : Room) s m args below meth c (dC, dI) 81 ad (celC ad cA) 2 (ZI below args s (dC, dI) 81 ad (celC ad cA) Q) (lay_X8_shutBit ad h0 a1) P xs ys σ)  (s0 : St) (hv : B_X8_shutBit_e h0 a1 Q Y  s0) {H : Heap} {locs : List Loc} {ls : Array Slot} (hP : va_P (dC, dI) vwCl (wd 81 ad (celC ad cA) s0) H) (hS : va_S (AA 81 ad s.heap.size) s.heap H locs) (hl : lv_has ls 2 [(0, .ref (ad h0)), (1, .int a1)]) : W p l e ({ frames := 0, cells := 0, slots := 0, locals := 0 } : Room) s m args below meth c H locs 0 0 (ZI below args s (dC, dI) 81 ad (celC ad cA) Q) (F0 m 0 ls []) := by
  obtain ⟨hx, hb, hml, hown, hts, hr, hlocks⟩ := C0
  have hD := wd_D (s := s) (cel := celC ad cA) (σ := s0) hi
  unfold B_X8_shutBit_e at hv
  refine lv_aload_n hx hb dX8_shutBit_0 rfl (lv_at hl 0 rfl) ?_
  refine r_get hx hb hts (iwX8_shutBit_X8) hown hK.1 hP h0 (ltSt_0 hh0) (ceSt_0 hh0 (s0 h0)) rfl 10 (by decide) (hts _ kX8_shutBit_1) (v := .int (s0 h0 10)) rfl dX8_shutBit_1 ?_
  refine lv_iload_n hx hb dX8_shutBit_4 rfl (lv_at hl 1 rfl) ?_
  refine lv_ishr hx hb dX8_shutBit_5 ?_
  refine lv_iconst (v := 1) hx hb dX8_shutBit_6 (by decide) ?_
  refine lv_iand hx hb dX8_shutBit_7 ?_
  exact r_iret hx hb hr hlocks hv hP hS dX8_shutBit_8
set_option maxHeartbeats 4000000 in
theorem y_X8_shutBit {p : Program} {l : Launch} {e : Env} {s : State} {m : MethodId} {args : Array Value} {below : List Frame} {meth : Method} {c : Code} {dC : Nat → ClassId} {dI : Nat → Nat → Nat} {ad : Nat → Nat} {cA cZ : ClassId} (hi : Inj 81 ad) (h0 : Nat) (a1 : Int32) (hh0 : isSt h0) (C0 : Cx cX8_shutBit RX8 wsX8_shutBit 2 (some .int) p s m args meth c) (hK : KK dC dI cA cZ s) (Q : Int32 → St → Prop) : ∀ P xs ys σ, R_X8_shutBit h0 a1 Q P xs ys σ → XX p l e ({ frames := 0, cells := 0, slots := 0, locals := 0 } : Room) s m args below meth c (dC, dI) 81 ad (celC ad cA) 2 (ZI below args s (dC, dI) 81 ad (celC ad cA) Q) (lay_X8_shutBit ad h0 a1) P xs ys σ := by
  refine Fx.elim _ (fun P xs ys σ Y hY hB => ?_)
  exact hB.elim
set_option maxHeartbeats 4000000 in
theorem c_X8_shutBit {l : Launch} {dC : Nat → ClassId} {dI : Nat → Nat → Nat} {ad : Nat → Nat} {cA cZ : ClassId} (hi : Inj 81 ad) (h0 : Nat) (a1 : Int32) (hh0 : isSt h0) (s0 : St) (Q : Int32 → St → Prop) (hv : V_X8_shutBit h0 a1 s0 Q) (sz : Nat) : Met l yX8_shutBit wsX8_shutBit ({ frames := 0, cells := 0, slots := 0, locals := 0 } : Room) (va_Pc [.ref (ad h0), .int a1] (PW dC dI ad cA cZ 81 (celC ad cA) sz s0)) (va_Qi Q (fun u t => va_P (dC, dI) vwCl (wd 81 ad (celC ad cA) u) t.heap) (AA 81 ad sz)) 0 0 (AA 81 ad sz) := by
  refine Met.ofW (cc := cX8_shutBit) (maxL := 2) (ret := (some .int)) (by decide) rfl ?_
  intro p e s m args below meth c s₁ B hml hv0
  obtain ⟨rfl, hsz, hP, hK⟩ := hv0
  subst hsz
  have C0 : Cx cX8_shutBit RX8 wsX8_shutBit 2 (some .int) p s m ([.ref (ad h0), .int a1] : List Value).toArray meth c := ⟨B.exec, B.bytes, hml, findClass_of_methodNamed B.named, atoms_spec (ws := wsX8_shutBit) B.pre, B.returns, B.notSynchronized⟩
  have hl := lv_entry ([.ref (ad h0), .int a1]) (n := 2) (Nat.le_of_ble_eq_true rfl)
  rw [lg_entry_eq]
  generalize (lg_sl ([.ref (ad h0), .int a1]) ++ List.replicate (2 - (lg_sl ([.ref (ad h0), .int a1])).length) Slot.unset).toArray = ls at hl ⊢
  have hl : lv_has ls 2 [(0, .ref (ad h0)), (1, .int a1)] := hl
  exact w_X8_shutBit_e hi h0 a1 hh0 C0 hK Q (R_X8_shutBit h0 a1 Q) (y_X8_shutBit hi h0 a1 hh0 C0 hK Q)  s0 hv hP va_S.rf hl
def lay_X8_waitingBehind (ad : Nat → Nat) (h0 : Nat) (a1 : Int32) : Nat → List Int32 → List Int64 → Option (List (Nat × Value) × List Value) := fun P xs ys => match P, xs, ys with
  | 4, [x2, x3], [] => some ([(0, .ref (ad h0)), (1, .int a1), (2, .int x2), (3, .int x3)], [])
  | _, _, _ => none
set_option maxHeartbeats 4000000 in
set_option maxRecDepth 100000 in
theorem w_X8_waitingBehind_e {p : Program} {l : Launch} {e : Env} {s : State} {m : MethodId} {args : Array Value} {below : List Frame} {meth : Method} {c : Code} {dC : Nat → ClassId} {dI : Nat → Nat → Nat} {ad : Nat → Nat} {cA cZ : ClassId} (hi : Inj 81 ad) (h0 : Nat) (a1 : Int32) (hh0 : isSt h0) (C0 : Cx cX8_waitingBehind RX8 wsX8_waitingBehind 4 (some .int) p s m args meth c) (hK : KK dC dI cA cZ s) (Q : Int32 → St → Prop) (Y : Nat → List Int32 → List Int64 → St → Prop) (hY : ∀ P xs ys σ, Y P xs ys σ → XX p l e ({ frames := 0, cells := 0, slots := 0, locals := 0 } : Room) s m args below meth c (dC, dI) 81 ad (celC ad cA) 4 (ZI below args s (dC, dI) 81 ad (celC ad cA) Q) (lay_X8_waitingBehind ad h0 a1) P xs ys σ)  (s0 : St) (hv : B_X8_waitingBehind_e h0 a1 Q Y  s0) {H : Heap} {locs : List Loc} {ls : Array Slot} (hP : va_P (dC, dI) vwCl (wd 81 ad (celC ad cA) s0) H) (hS : va_S (AA 81 ad s.heap.size) s.heap H locs) (hl : lv_has ls 4 [(0, .ref (ad h0)), (1, .int a1)]) : W p l e ({ frames := 0, cells := 0, slots := 0, locals := 0 } : Room) s m args below meth c H locs 0 0 (ZI below args s (dC, dI) 81 ad (celC ad cA) Q) (F0 m 0 ls []) := by
  obtain ⟨hx, hb, hml, hown, hts, hr, hlocks⟩ := C0
  have hD := wd_D (s := s) (cel := celC ad cA) (σ := s0) hi
  unfold B_X8_waitingBehind_e at hv
  refine lv_iconst (v := 0) hx hb dX8_waitingBehind_0 (by decide) ?_
  refine lv_istore_n (lv' := [(2, .int 0), (0, .ref (ad h0)), (1, .int a1)]) hx hb dX8_waitingBehind_1 rfl hl (by decide) rfl (fun ls hl => ?_)
  refine lv_iconst (v := 0) hx hb dX8_waitingBehind_2 (by decide) ?_
  refine lv_istore_n (lv' := [(3, .int 0), (2, .int 0), (0, .ref (ad h0)), (1, .int a1)]) hx hb dX8_waitingBehind_3 rfl hl (by decide) rfl (fun ls hl => ?_)
  exact hY 4 [0, 0] [] s0 hv _ _ rfl H locs ls hP hS (lv_sub hl [2, 3, 1, 0] rfl)
set_option maxHeartbeats 4000000 in
set_option maxRecDepth 100000 in
theorem w_X8_waitingBehind_4 {p : Program} {l : Launch} {e : Env} {s : State} {m : MethodId} {args : Array Value} {below : List Frame} {meth : Method} {c : Code} {dC : Nat → ClassId} {dI : Nat → Nat → Nat} {ad : Nat → Nat} {cA cZ : ClassId} (hi : Inj 81 ad) (h0 : Nat) (a1 : Int32) (hh0 : isSt h0) (C0 : Cx cX8_waitingBehind RX8 wsX8_waitingBehind 4 (some .int) p s m args meth c) (hK : KK dC dI cA cZ s) (Q : Int32 → St → Prop) (Y : Nat → List Int32 → List Int64 → St → Prop) (hY : ∀ P xs ys σ, Y P xs ys σ → XX p l e ({ frames := 0, cells := 0, slots := 0, locals := 0 } : Room) s m args below meth c (dC, dI) 81 ad (celC ad cA) 4 (ZI below args s (dC, dI) 81 ad (celC ad cA) Q) (lay_X8_waitingBehind ad h0 a1) P xs ys σ) (x2 : Int32) (x3 : Int32) (s0 : St) (hv : B_X8_waitingBehind_4 h0 a1 Q Y x2 x3 s0) {H : Heap} {locs : List Loc} {ls : Array Slot} (hP : va_P (dC, dI) vwCl (wd 81 ad (celC ad cA) s0) H) (hS : va_S (AA 81 ad s.heap.size) s.heap H locs) (hl : lv_has ls 4 [(0, .ref (ad h0)), (1, .int a1), (2, .int x2), (3, .int x3)]) : W p l e ({ frames := 0, cells := 0, slots := 0, locals := 0 } : Room) s m args below meth c H locs 0 0 (ZI below args s (dC, dI) 81 ad (celC ad cA) Q) (F0 m 4 ls []) := by
  obtain ⟨hx, hb, hml, hown, hts, hr, hlocks⟩ := C0
  have hD := wd_D (s := s) (cel := celC ad cA) (σ := s0) hi
  unfold B_X8_waitingBehind_4 at hv
  refine lv_iload_n hx hb dX8_waitingBehind_4 rfl (lv_at hl 3 rfl) ?_
  refine lv_aload_n hx hb dX8_waitingBehind_5 rfl (lv_at hl 0 rfl) ?_
  refine r_get hx hb hts (iwX8_waitingBehind_X8) hown hK.1 hP h0 (ltSt_0 hh0) (ceSt_0 hh0 (s0 h0)) rfl 8 (by decide) (hts _ kX8_waitingBehind_1) (v := .int (s0 h0 8)) rfl dX8_waitingBehind_6 ?_
  refine lv_icmp_ge (tgt := 36) hx hb dX8_waitingBehind_9 (by decide) (fun c9 => ?_) (fun c9 => ?_)
  · have hv := hv.1 c9
    refine lv_iload_n hx hb dX8_waitingBehind_36 rfl (lv_at hl 2 rfl) ?_
    exact r_iret hx hb hr hlocks hv hP hS dX8_waitingBehind_37
  · have hv := hv.2 c9
    refine lv_aload_n hx hb dX8_waitingBehind_12 rfl (lv_at hl 0 rfl) ?_
    refine r_get hx hb hts (iwX8_waitingBehind_X8) hown hK.1 hP h0 (ltSt_0 hh0) (ceSt_0 hh0 (s0 h0)) rfl 3 (by decide) (hts _ kX8_waitingBehind_2) (v := .ref (ad (h0 + 4))) rfl dX8_waitingBehind_13 ?_
    refine lv_iload_n hx hb dX8_waitingBehind_16 rfl (lv_at hl 3 rfl) ?_
    obtain ⟨hin, hv⟩ := hv
    refine r_iald hx hb hK.1 hP (h0 + 4) (ltSt_4 hh0) (ceSt_4 hh0 (s0 (h0 + 4))) hin dX8_waitingBehind_17 ?_
    refine lv_aload_n hx hb dX8_waitingBehind_18 rfl (lv_at hl 0 rfl) ?_
    refine r_get hx hb hts (iwX8_waitingBehind_X8) hown hK.1 hP h0 (ltSt_0 hh0) (ceSt_0 hh0 (s0 h0)) rfl 5 (by decide) (hts _ kX8_waitingBehind_3) (v := .ref (ad (h0 + 6))) rfl dX8_waitingBehind_19 ?_
    refine lv_iload_n hx hb dX8_waitingBehind_22 rfl (lv_at hl 1 rfl) ?_
    obtain ⟨hin, hv⟩ := hv
    refine r_iald hx hb hK.1 hP (h0 + 6) (ltSt_6 hh0) (ceSt_6 hh0 (s0 (h0 + 6))) hin dX8_waitingBehind_23 ?_
    refine lv_icmp_ne (tgt := 30) hx hb dX8_waitingBehind_24 (by decide) (fun c24 => ?_) (fun c24 => ?_)
    · have hv := hv.1 c24
      refine lv_iinc (v := x3 + 1) (lv' := [(3, .int (x3 + 1)), (0, .ref (ad h0)), (1, .int a1), (2, .int x2)]) hx hb dX8_waitingBehind_30 hl (k := 3) rfl rfl (by decide) rfl (fun ls hl => ?_)
      refine lv_goto (tgt := 4) hx hb dX8_waitingBehind_33 (by decide) ?_
      exact hY 4 [x2, x3 + 1] [] s0 hv _ _ rfl H locs ls hP hS (lv_sub hl [1, 2, 3, 0] rfl)
    · have hv := hv.2 c24
      refine lv_iinc (v := x2 + 1) (lv' := [(2, .int (x2 + 1)), (0, .ref (ad h0)), (1, .int a1), (3, .int x3)]) hx hb dX8_waitingBehind_27 hl (k := 2) rfl rfl (by decide) rfl (fun ls hl => ?_)
      refine lv_iinc (v := x3 + 1) (lv' := [(3, .int (x3 + 1)), (2, .int (x2 + 1)), (0, .ref (ad h0)), (1, .int a1)]) hx hb dX8_waitingBehind_30 hl (k := 3) rfl rfl (by decide) rfl (fun ls hl => ?_)
      refine lv_goto (tgt := 4) hx hb dX8_waitingBehind_33 (by decide) ?_
      exact hY 4 [x2 + 1, x3 + 1] [] s0 hv _ _ rfl H locs ls hP hS (lv_sub hl [2, 3, 1, 0] rfl)
set_option maxHeartbeats 4000000 in
theorem y_X8_waitingBehind {p : Program} {l : Launch} {e : Env} {s : State} {m : MethodId} {args : Array Value} {below : List Frame} {meth : Method} {c : Code} {dC : Nat → ClassId} {dI : Nat → Nat → Nat} {ad : Nat → Nat} {cA cZ : ClassId} (hi : Inj 81 ad) (h0 : Nat) (a1 : Int32) (hh0 : isSt h0) (C0 : Cx cX8_waitingBehind RX8 wsX8_waitingBehind 4 (some .int) p s m args meth c) (hK : KK dC dI cA cZ s) (Q : Int32 → St → Prop) : ∀ P xs ys σ, R_X8_waitingBehind h0 a1 Q P xs ys σ → XX p l e ({ frames := 0, cells := 0, slots := 0, locals := 0 } : Room) s m args below meth c (dC, dI) 81 ad (celC ad cA) 4 (ZI below args s (dC, dI) 81 ad (celC ad cA) Q) (lay_X8_waitingBehind ad h0 a1) P xs ys σ := by
  refine Fx.elim _ (fun P xs ys σ Y hY hB => ?_)
  rcases hB with ⟨rfl, x2, x3, rfl, rfl, hB⟩
  · intro lv st he H locs ls hP hS hl
    cases he
    exact w_X8_waitingBehind_4 hi h0 a1 hh0 C0 hK Q Y hY x2 x3 σ hB hP hS hl
set_option maxHeartbeats 4000000 in
theorem c_X8_waitingBehind {l : Launch} {dC : Nat → ClassId} {dI : Nat → Nat → Nat} {ad : Nat → Nat} {cA cZ : ClassId} (hi : Inj 81 ad) (h0 : Nat) (a1 : Int32) (hh0 : isSt h0) (s0 : St) (Q : Int32 → St → Prop) (hv : V_X8_waitingBehind h0 a1 s0 Q) (sz : Nat) : Met l yX8_waitingBehind wsX8_waitingBehind ({ frames := 0, cells := 0, slots := 0, locals := 0 } : Room) (va_Pc [.ref (ad h0), .int a1] (PW dC dI ad cA cZ 81 (celC ad cA) sz s0)) (va_Qi Q (fun u t => va_P (dC, dI) vwCl (wd 81 ad (celC ad cA) u) t.heap) (AA 81 ad sz)) 0 0 (AA 81 ad sz) := by
  refine Met.ofW (cc := cX8_waitingBehind) (maxL := 4) (ret := (some .int)) (by decide) rfl ?_
  intro p e s m args below meth c s₁ B hml hv0
  obtain ⟨rfl, hsz, hP, hK⟩ := hv0
  subst hsz
  have C0 : Cx cX8_waitingBehind RX8 wsX8_waitingBehind 4 (some .int) p s m ([.ref (ad h0), .int a1] : List Value).toArray meth c := ⟨B.exec, B.bytes, hml, findClass_of_methodNamed B.named, atoms_spec (ws := wsX8_waitingBehind) B.pre, B.returns, B.notSynchronized⟩
  have hl := lv_entry ([.ref (ad h0), .int a1]) (n := 4) (Nat.le_of_ble_eq_true rfl)
  rw [lg_entry_eq]
  generalize (lg_sl ([.ref (ad h0), .int a1]) ++ List.replicate (4 - (lg_sl ([.ref (ad h0), .int a1])).length) Slot.unset).toArray = ls at hl ⊢
  have hl : lv_has ls 4 [(0, .ref (ad h0)), (1, .int a1)] := hl
  exact w_X8_waitingBehind_e hi h0 a1 hh0 C0 hK Q (R_X8_waitingBehind h0 a1 Q) (y_X8_waitingBehind hi h0 a1 hh0 C0 hK Q)  s0 hv hP va_S.rf hl
def lay_X1_letOver (ad : Nat → Nat) (a0 : Int32) (a1 : Int32) (a2 : Int32) : Nat → List Int32 → List Int64 → Option (List (Nat × Value) × List Value) := fun P xs ys => match P, xs, ys with
  | 11, [t0], [] => some ([(0, .int a0), (1, .int a1), (2, .int a2)], [.int t0])
  | 23, [x3, t0], [] => some ([(0, .int a0), (1, .int a1), (2, .int a2), (3, .int x3)], [.int t0])
  | _, _, _ => none
set_option maxHeartbeats 4000000 in
set_option maxRecDepth 100000 in
theorem w_X1_letOver_e {p : Program} {l : Launch} {e : Env} {s : State} {m : MethodId} {args : Array Value} {below : List Frame} {meth : Method} {c : Code} {dC : Nat → ClassId} {dI : Nat → Nat → Nat} {ad : Nat → Nat} {cA cZ : ClassId} (hi : Inj 81 ad) (a0 : Int32) (a1 : Int32) (a2 : Int32)  (C0 : Cx cX1_letOver RX1 wsX1_letOver 6 (some .int) p s m args meth c) (hK : KK dC dI cA cZ s) (Q : Int32 → St → Prop) (Y : Nat → List Int32 → List Int64 → St → Prop) (hY : ∀ P xs ys σ, Y P xs ys σ → XX p l e ({ frames := 0, cells := 0, slots := 0, locals := 0 } : Room) s m args below meth c (dC, dI) 81 ad (celC ad cA) 6 (ZI below args s (dC, dI) 81 ad (celC ad cA) Q) (lay_X1_letOver ad a0 a1 a2) P xs ys σ)  (s0 : St) (hv : B_X1_letOver_e a0 a1 a2 Q Y  s0) {H : Heap} {locs : List Loc} {ls : Array Slot} (hP : va_P (dC, dI) vwCl (wd 81 ad (celC ad cA) s0) H) (hS : va_S (AA 81 ad s.heap.size) s.heap H locs) (hl : lv_has ls 6 [(0, .int a0), (1, .int a1), (2, .int a2)]) : W p l e ({ frames := 0, cells := 0, slots := 0, locals := 0 } : Room) s m args below meth c H locs 0 0 (ZI below args s (dC, dI) 81 ad (celC ad cA) Q) (F0 m 0 ls []) := by
  obtain ⟨hx, hb, hml, hown, hts, hr, hlocks⟩ := C0
  have hD := wd_D (s := s) (cel := celC ad cA) (σ := s0) hi
  unfold B_X1_letOver_e at hv
  refine lv_iload_n hx hb dX1_letOver_0 rfl (lv_at hl 1 rfl) ?_
  refine lv_iconst (v := 2) hx hb dX1_letOver_1 (by decide) ?_
  refine lv_irem hx hb dX1_letOver_2 (by decide) ?_
  refine lv_if_ne (tgt := 10) hx hb dX1_letOver_3 (by decide) (fun c3 => ?_) (fun c3 => ?_)
  · have hv := hv.1 c3
    refine lv_iconst (v := 0) hx hb dX1_letOver_10 (by decide) ?_
    exact hY 11 [0] [] s0 hv _ _ rfl H locs ls hP hS (lv_sub hl [0, 1, 2] rfl)
  · have hv := hv.2 c3
    refine lv_iconst (v := 2) hx hb dX1_letOver_6 (by decide) ?_
    refine lv_goto (tgt := 11) hx hb dX1_letOver_7 (by decide) ?_
    exact hY 11 [2] [] s0 hv _ _ rfl H locs ls hP hS (lv_sub hl [0, 1, 2] rfl)
set_option maxHeartbeats 4000000 in
set_option maxRecDepth 100000 in
theorem w_X1_letOver_11 {p : Program} {l : Launch} {e : Env} {s : State} {m : MethodId} {args : Array Value} {below : List Frame} {meth : Method} {c : Code} {dC : Nat → ClassId} {dI : Nat → Nat → Nat} {ad : Nat → Nat} {cA cZ : ClassId} (hi : Inj 81 ad) (a0 : Int32) (a1 : Int32) (a2 : Int32)  (C0 : Cx cX1_letOver RX1 wsX1_letOver 6 (some .int) p s m args meth c) (hK : KK dC dI cA cZ s) (Q : Int32 → St → Prop) (Y : Nat → List Int32 → List Int64 → St → Prop) (hY : ∀ P xs ys σ, Y P xs ys σ → XX p l e ({ frames := 0, cells := 0, slots := 0, locals := 0 } : Room) s m args below meth c (dC, dI) 81 ad (celC ad cA) 6 (ZI below args s (dC, dI) 81 ad (celC ad cA) Q) (lay_X1_letOver ad a0 a1 a2) P xs ys σ) (t0 : Int32) (s0 : St) (hv : B_X1_letOver_11 a0 a1 a2 Q Y t0 s0) {H : Heap} {locs : List Loc} {ls : Array Slot} (hP : va_P (dC, dI) vwCl (wd 81 ad (celC ad cA) s0) H) (hS : va_S (AA 81 ad s.heap.size) s.heap H locs) (hl : lv_has ls 6 [(0, .int a0), (1, .int a1), (2, .int a2)]) : W p l e ({ frames := 0, cells := 0, slots := 0, locals := 0 } : Room) s m args below meth c H locs 0 0 (ZI below args s (dC, dI) 81 ad (celC ad cA) Q) (F0 m 11 ls [.int t0]) := by
  obtain ⟨hx, hb, hml, hown, hts, hr, hlocks⟩ := C0
  have hD := wd_D (s := s) (cel := celC ad cA) (σ := s0) hi
  unfold B_X1_letOver_11 at hv
  refine lv_istore_n (lv' := [(3, .int t0), (0, .int a0), (1, .int a1), (2, .int a2)]) hx hb dX1_letOver_11 rfl hl (by decide) rfl (fun ls hl => ?_)
  refine lv_iload_n hx hb dX1_letOver_12 rfl (lv_at hl 0 rfl) ?_
  refine lv_if_le (tgt := 22) hx hb dX1_letOver_13 (by decide) (fun c13 => ?_) (fun c13 => ?_)
  · have hv := hv.1 c13
    refine lv_iconst (v := 0) hx hb dX1_letOver_22 (by decide) ?_
    exact hY 23 [t0, 0] [] s0 hv _ _ rfl H locs ls hP hS (lv_sub hl [1, 2, 3, 0] rfl)
  · have hv := hv.2 c13
    refine lv_iload_n hx hb dX1_letOver_16 rfl (lv_at hl 0 rfl) ?_
    refine lv_iconst (v := 1) hx hb dX1_letOver_17 (by decide) ?_
    refine lv_isub hx hb dX1_letOver_18 ?_
    refine lv_goto (tgt := 23) hx hb dX1_letOver_19 (by decide) ?_
    exact hY 23 [t0, t0 - 1] [] s0 hv _ _ rfl H locs ls hP hS (lv_sub hl [1, 2, 3, 0] rfl)
set_option maxHeartbeats 4000000 in
set_option maxRecDepth 100000 in
theorem w_X1_letOver_23 {p : Program} {l : Launch} {e : Env} {s : State} {m : MethodId} {args : Array Value} {below : List Frame} {meth : Method} {c : Code} {dC : Nat → ClassId} {dI : Nat → Nat → Nat} {ad : Nat → Nat} {cA cZ : ClassId} (hi : Inj 81 ad) (a0 : Int32) (a1 : Int32) (a2 : Int32)  (C0 : Cx cX1_letOver RX1 wsX1_letOver 6 (some .int) p s m args meth c) (hK : KK dC dI cA cZ s) (Q : Int32 → St → Prop) (Y : Nat → List Int32 → List Int64 → St → Prop) (hY : ∀ P xs ys σ, Y P xs ys σ → XX p l e ({ frames := 0, cells := 0, slots := 0, locals := 0 } : Room) s m args below meth c (dC, dI) 81 ad (celC ad cA) 6 (ZI below args s (dC, dI) 81 ad (celC ad cA) Q) (lay_X1_letOver ad a0 a1 a2) P xs ys σ) (x3 : Int32) (t0 : Int32) (s0 : St) (hv : B_X1_letOver_23 a0 a1 a2 Q Y x3 t0 s0) {H : Heap} {locs : List Loc} {ls : Array Slot} (hP : va_P (dC, dI) vwCl (wd 81 ad (celC ad cA) s0) H) (hS : va_S (AA 81 ad s.heap.size) s.heap H locs) (hl : lv_has ls 6 [(0, .int a0), (1, .int a1), (2, .int a2), (3, .int x3)]) : W p l e ({ frames := 0, cells := 0, slots := 0, locals := 0 } : Room) s m args below meth c H locs 0 0 (ZI below args s (dC, dI) 81 ad (celC ad cA) Q) (F0 m 23 ls [.int t0]) := by
  obtain ⟨hx, hb, hml, hown, hts, hr, hlocks⟩ := C0
  have hD := wd_D (s := s) (cel := celC ad cA) (σ := s0) hi
  unfold B_X1_letOver_23 at hv
  refine lv_istore (lv' := [(4, .int t0), (0, .int a0), (1, .int a1), (2, .int a2), (3, .int x3)]) hx hb dX1_letOver_23 hl (by decide) rfl (fun ls hl => ?_)
  refine lv_iload_n hx hb dX1_letOver_25 rfl (lv_at hl 4 rfl) ?_
  refine lv_iload_n hx hb dX1_letOver_26 rfl (lv_at hl 3 rfl) ?_
  refine lv_iconst (v := 2) hx hb dX1_letOver_27 (by decide) ?_
  refine lv_idiv hx hb dX1_letOver_28 (by decide) ?_
  refine lv_iadd hx hb dX1_letOver_29 ?_
  refine lv_istore (lv' := [(5, .int (x3 + (a2 / 2))), (4, .int t0), (0, .int a0), (1, .int a1), (2, .int a2), (3, .int x3)]) hx hb dX1_letOver_30 hl (by decide) rfl (fun ls hl => ?_)
  refine lv_iload_n hx hb dX1_letOver_32 rfl (lv_at hl 2 rfl) ?_
  by_cases c33_1 : a0 = 1
  · have hv := hv.1 c33_1
    refine lv_tableIn (off := 35) (tgt := 68) hx hb dX1_letOver_33 (by rw [c33_1]; decide) (by rw [c33_1]; decide) (by rw [c33_1]; rfl) (by decide) ?_
    refine lv_iload hx hb dX1_letOver_68 (lv_at hl 1 rfl) ?_
    exact r_iret hx hb hr hlocks hv hP hS dX1_letOver_70
  have hv := hv.2 c33_1
  by_cases c33_2 : a0 = 2
  · have hv := hv.1 c33_2
    refine lv_tableIn (off := 38) (tgt := 71) hx hb dX1_letOver_33 (by rw [c33_2]; decide) (by rw [c33_2]; decide) (by rw [c33_2]; rfl) (by decide) ?_
    refine lv_iload hx hb dX1_letOver_71 (lv_at hl 0 rfl) ?_
    exact r_iret hx hb hr hlocks hv hP hS dX1_letOver_73
  have hv := hv.2 c33_2
  by_cases c33_3 : a0 = 3
  · have hv := hv.1 c33_3
    refine lv_tableIn (off := 41) (tgt := 74) hx hb dX1_letOver_33 (by rw [c33_3]; decide) (by rw [c33_3]; decide) (by rw [c33_3]; rfl) (by decide) ?_
    refine lv_iload_n hx hb dX1_letOver_74 rfl (lv_at hl 4 rfl) ?_
    refine lv_iconst (v := 4) hx hb dX1_letOver_75 (by decide) ?_
    refine lv_icmp_lt (tgt := 86) hx hb dX1_letOver_76 (by decide) (fun c76 => ?_) (fun c76 => ?_)
    · have hv := hv.1 c76
      refine lv_iload hx hb dX1_letOver_86 (lv_at hl 1 rfl) ?_
      exact r_iret hx hb hr hlocks hv hP hS dX1_letOver_88
    · have hv := hv.2 c76
      refine lv_iload hx hb dX1_letOver_79 (lv_at hl 1 rfl) ?_
      refine lv_iconst (v := 1) hx hb dX1_letOver_81 (by decide) ?_
      refine lv_iadd hx hb dX1_letOver_82 ?_
      refine lv_goto (tgt := 88) hx hb dX1_letOver_83 (by decide) ?_
      exact r_iret hx hb hr hlocks hv hP hS dX1_letOver_88
  have hv := hv.2 c33_3
  by_cases c33_4 : a0 = 4
  · have hv := hv.1 c33_4
    refine lv_tableIn (off := 56) (tgt := 89) hx hb dX1_letOver_33 (by rw [c33_4]; decide) (by rw [c33_4]; decide) (by rw [c33_4]; rfl) (by decide) ?_
    refine lv_iload_n hx hb dX1_letOver_89 rfl (lv_at hl 3 rfl) ?_
    refine lv_bipush (v := 8) hx hb dX1_letOver_90 (by decide) ?_
    refine lv_irem hx hb dX1_letOver_92 (by decide) ?_
    refine lv_bipush (v := 6) hx hb dX1_letOver_93 (by decide) ?_
    refine lv_icmp_lt (tgt := 102) hx hb dX1_letOver_95 (by decide) (fun c95 => ?_) (fun c95 => ?_)
    · have hv := hv.1 c95
      refine lv_iload_n hx hb dX1_letOver_102 rfl (lv_at hl 5 rfl) ?_
      exact r_iret hx hb hr hlocks hv hP hS dX1_letOver_103
    · have hv := hv.2 c95
      refine lv_iload_n hx hb dX1_letOver_98 rfl (lv_at hl 4 rfl) ?_
      refine lv_goto (tgt := 103) hx hb dX1_letOver_99 (by decide) ?_
      exact r_iret hx hb hr hlocks hv hP hS dX1_letOver_103
  have hv := hv.2 c33_4
  by_cases c33_5 : a0 = 5
  · have hv := hv.1 c33_5
    refine lv_tableIn (off := 71) (tgt := 104) hx hb dX1_letOver_33 (by rw [c33_5]; decide) (by rw [c33_5]; decide) (by rw [c33_5]; rfl) (by decide) ?_
    refine lv_iload_n hx hb dX1_letOver_104 rfl (lv_at hl 3 rfl) ?_
    refine lv_iconst (v := 3) hx hb dX1_letOver_105 (by decide) ?_
    refine lv_irem hx hb dX1_letOver_106 (by decide) ?_
    refine lv_if_ne (tgt := 114) hx hb dX1_letOver_107 (by decide) (fun c107 => ?_) (fun c107 => ?_)
    · have hv := hv.1 c107
      refine lv_iload hx hb dX1_letOver_114 (lv_at hl 0 rfl) ?_
      exact r_iret hx hb hr hlocks hv hP hS dX1_letOver_116
    · have hv := hv.2 c107
      refine lv_iconst (v := 0) hx hb dX1_letOver_110 (by decide) ?_
      refine lv_goto (tgt := 116) hx hb dX1_letOver_111 (by decide) ?_
      exact r_iret hx hb hr hlocks hv hP hS dX1_letOver_116
  have hv := hv.2 c33_5
  refine lv_tableOut (tgt := 117) hx hb dX1_letOver_33 (by have w1 := lv_neT (a := 1) c33_1 (by decide); have w2 := lv_neT (a := 2) c33_2 (by decide); have w3 := lv_neT (a := 3) c33_3 (by decide); have w4 := lv_neT (a := 4) c33_4 (by decide); have w5 := lv_neT (a := 5) c33_5 (by decide); omega) (by decide) ?_
  refine lv_iload_n hx hb dX1_letOver_117 rfl (lv_at hl 5 rfl) ?_
  exact r_iret hx hb hr hlocks hv hP hS dX1_letOver_118
set_option maxHeartbeats 4000000 in
theorem y_X1_letOver {p : Program} {l : Launch} {e : Env} {s : State} {m : MethodId} {args : Array Value} {below : List Frame} {meth : Method} {c : Code} {dC : Nat → ClassId} {dI : Nat → Nat → Nat} {ad : Nat → Nat} {cA cZ : ClassId} (hi : Inj 81 ad) (a0 : Int32) (a1 : Int32) (a2 : Int32)  (C0 : Cx cX1_letOver RX1 wsX1_letOver 6 (some .int) p s m args meth c) (hK : KK dC dI cA cZ s) (Q : Int32 → St → Prop) : ∀ P xs ys σ, R_X1_letOver a0 a1 a2 Q P xs ys σ → XX p l e ({ frames := 0, cells := 0, slots := 0, locals := 0 } : Room) s m args below meth c (dC, dI) 81 ad (celC ad cA) 6 (ZI below args s (dC, dI) 81 ad (celC ad cA) Q) (lay_X1_letOver ad a0 a1 a2) P xs ys σ := by
  refine Fx.elim _ (fun P xs ys σ Y hY hB => ?_)
  rcases hB with ⟨rfl, t0, rfl, rfl, hB⟩ | ⟨rfl, x3, t0, rfl, rfl, hB⟩
  · intro lv st he H locs ls hP hS hl
    cases he
    exact w_X1_letOver_11 hi a0 a1 a2  C0 hK Q Y hY t0 σ hB hP hS hl
  · intro lv st he H locs ls hP hS hl
    cases he
    exact w_X1_letOver_23 hi a0 a1 a2  C0 hK Q Y hY x3 t0 σ hB hP hS hl
set_option maxHeartbeats 4000000 in
theorem c_X1_letOver {l : Launch} {dC : Nat → ClassId} {dI : Nat → Nat → Nat} {ad : Nat → Nat} {cA cZ : ClassId} (hi : Inj 81 ad) (a0 : Int32) (a1 : Int32) (a2 : Int32)  (s0 : St) (Q : Int32 → St → Prop) (hv : V_X1_letOver a0 a1 a2 s0 Q) (sz : Nat) : Met l yX1_letOver wsX1_letOver ({ frames := 0, cells := 0, slots := 0, locals := 0 } : Room) (va_Pc [.int a0, .int a1, .int a2] (PW dC dI ad cA cZ 81 (celC ad cA) sz s0)) (va_Qi Q (fun u t => va_P (dC, dI) vwCl (wd 81 ad (celC ad cA) u) t.heap) (AA 81 ad sz)) 0 0 (AA 81 ad sz) := by
  refine Met.ofW (cc := cX1_letOver) (maxL := 6) (ret := (some .int)) (by decide) rfl ?_
  intro p e s m args below meth c s₁ B hml hv0
  obtain ⟨rfl, hsz, hP, hK⟩ := hv0
  subst hsz
  have C0 : Cx cX1_letOver RX1 wsX1_letOver 6 (some .int) p s m ([.int a0, .int a1, .int a2] : List Value).toArray meth c := ⟨B.exec, B.bytes, hml, findClass_of_methodNamed B.named, atoms_spec (ws := wsX1_letOver) B.pre, B.returns, B.notSynchronized⟩
  have hl := lv_entry ([.int a0, .int a1, .int a2]) (n := 6) (Nat.le_of_ble_eq_true rfl)
  rw [lg_entry_eq]
  generalize (lg_sl ([.int a0, .int a1, .int a2]) ++ List.replicate (6 - (lg_sl ([.int a0, .int a1, .int a2])).length) Slot.unset).toArray = ls at hl ⊢
  have hl : lv_has ls 6 [(0, .int a0), (1, .int a1), (2, .int a2)] := hl
  exact w_X1_letOver_e hi a0 a1 a2  C0 hK Q (R_X1_letOver a0 a1 a2 Q) (y_X1_letOver hi a0 a1 a2  C0 hK Q)  s0 hv hP va_S.rf hl
def lay_X8_letsNow (ad : Nat → Nat) (h0 : Nat) (a1 : Int32) : Nat → List Int32 → List Int64 → Option (List (Nat × Value) × List Value) := fun P xs ys => match P, xs, ys with
  | _, _, _ => none
set_option maxHeartbeats 4000000 in
set_option maxRecDepth 100000 in
theorem w_X8_letsNow_e {p : Program} {l : Launch} {e : Env} {s : State} {m : MethodId} {args : Array Value} {below : List Frame} {meth : Method} {c : Code} {dC : Nat → ClassId} {dI : Nat → Nat → Nat} {ad : Nat → Nat} {cA cZ : ClassId} (hi : Inj 81 ad) (h0 : Nat) (a1 : Int32) (hh0 : isSt h0) (C0 : Cx cX8_letsNow RX8 wsX8_letsNow 3 (some .int) p s m args meth c) (hK : KK dC dI cA cZ s) (Q : Int32 → St → Prop) (Y : Nat → List Int32 → List Int64 → St → Prop) (hY : ∀ P xs ys σ, Y P xs ys σ → XX p l e ({ frames := 1, cells := 0, slots := 0, locals := 25 } : Room) s m args below meth c (dC, dI) 81 ad (celC ad cA) 3 (ZI below args s (dC, dI) 81 ad (celC ad cA) Q) (lay_X8_letsNow ad h0 a1) P xs ys σ)  (s0 : St) (hv : B_X8_letsNow_e h0 a1 Q Y  s0) {H : Heap} {locs : List Loc} {ls : Array Slot} (hP : va_P (dC, dI) vwCl (wd 81 ad (celC ad cA) s0) H) (hS : va_S (AA 81 ad s.heap.size) s.heap H locs) (hl : lv_has ls 3 [(0, .ref (ad h0)), (1, .int a1)]) : W p l e ({ frames := 1, cells := 0, slots := 0, locals := 25 } : Room) s m args below meth c H locs 0 0 (ZI below args s (dC, dI) 81 ad (celC ad cA) Q) (F0 m 0 ls []) := by
  obtain ⟨hx, hb, hml, hown, hts, hr, hlocks⟩ := C0
  have hD := wd_D (s := s) (cel := celC ad cA) (σ := s0) hi
  unfold B_X8_letsNow_e at hv
  refine lv_aload_n hx hb dX8_letsNow_0 rfl (lv_at hl 0 rfl) ?_
  refine lv_iload_n hx hb dX8_letsNow_1 rfl (lv_at hl 1 rfl) ?_
  refine r_ci (va_runV (As := [.int a1]) (rest := []) ⟨hx, hb, hml, hown, hts⟩ (c_X8_waitingBehind hi h0 a1 hh0 s0 _ hv H.size) (cwV 1 hts gX8_letsNow_X8_waitingBehind rfl rfl rfl (by decide +kernel) ⟨Nat.le_of_ble_eq_true rfl, Nat.le_of_ble_eq_true rfl⟩) ⟨pre_blind, r_recv hK.1 hP h0 (ltSt_0 hh0) (ceSt_0 hh0 (s0 h0)) rfl, pre_of hP hK⟩ rfl rfl hl.1 rfl (lv_room (Nat.le_of_ble_eq_true rfl)) dX8_letsNow_2 ⟨Nat.zero_le _, Nat.zero_le _⟩) hS (fun r1 s1 H locs hv hP hS => ?_)
  have hD := wd_D (s := s) (cel := celC ad cA) (σ := s1) hi
  refine lv_istore_n (lv' := [(2, .int r1), (0, .ref (ad h0)), (1, .int a1)]) hx hb dX8_letsNow_5 rfl hl (by decide) rfl (fun ls hl => ?_)
  refine lv_iload_n hx hb dX8_letsNow_6 rfl (lv_at hl 0 rfl) ?_
  refine lv_if_ne (tgt := 14) hx hb dX8_letsNow_7 (by decide) (fun c7 => ?_) (fun c7 => ?_)
  · have hv := hv.1 c7
    refine lv_aload_n hx hb dX8_letsNow_14 rfl (lv_at hl 1 rfl) ?_
    refine r_get hx hb hts (iwX8_letsNow_X8) hown hK.1 hP h0 (ltSt_0 hh0) (ceSt_0 hh0 (s1 h0)) rfl 4 (by decide) (hts _ kX8_letsNow_1) (v := .ref (ad (h0 + 5))) rfl dX8_letsNow_15 ?_
    refine lv_iload_n hx hb dX8_letsNow_18 rfl (lv_at hl 2 rfl) ?_
    obtain ⟨hin, hv⟩ := hv
    refine r_iald hx hb hK.1 hP (h0 + 5) (ltSt_5 hh0) (ceSt_5 hh0 (s1 (h0 + 5))) hin dX8_letsNow_19 ?_
    refine lv_aload_n hx hb dX8_letsNow_20 rfl (lv_at hl 1 rfl) ?_
    refine r_get hx hb hts (iwX8_letsNow_X8) hown hK.1 hP h0 (ltSt_0 hh0) (ceSt_0 hh0 (s1 h0)) rfl 11 (by decide) (hts _ kX8_letsNow_2) (v := .int (s1 h0 11)) rfl dX8_letsNow_21 ?_
    refine lv_iload_n hx hb dX8_letsNow_24 rfl (lv_at hl 0 rfl) ?_
    refine r_ci (va_runS (As := [.int (s1 (h0 + 5) a1.toNatClampNeg), .int (s1 h0 11), .int r1]) (rest := []) ⟨hx, hb, hml, hown, hts⟩ (c_X1_letOver hi (s1 (h0 + 5) a1.toNatClampNeg) (s1 h0 11) r1 s1 _ hv H.size) (va_cwS 3 hts gX8_letsNow_X1_letOver rfl rfl rfl (by decide +kernel) ⟨Nat.le_of_ble_eq_true rfl, Nat.le_of_ble_eq_true rfl⟩) ⟨pre_blind, pre_of hP hK⟩ rfl rfl hl.1 rfl (lv_room (Nat.le_of_ble_eq_true rfl)) dX8_letsNow_25 ⟨Nat.zero_le _, Nat.zero_le _⟩) hS (fun r2 s2 H locs hv hP hS => ?_)
    have hD := wd_D (s := s) (cel := celC ad cA) (σ := s2) hi
    exact r_iret hx hb hr hlocks hv hP hS dX8_letsNow_28
  · have hv := hv.2 c7
    refine lv_iconst (v := 0) hx hb dX8_letsNow_10 (by decide) ?_
    refine lv_goto (tgt := 28) hx hb dX8_letsNow_11 (by decide) ?_
    exact r_iret hx hb hr hlocks hv hP hS dX8_letsNow_28
set_option maxHeartbeats 4000000 in
theorem y_X8_letsNow {p : Program} {l : Launch} {e : Env} {s : State} {m : MethodId} {args : Array Value} {below : List Frame} {meth : Method} {c : Code} {dC : Nat → ClassId} {dI : Nat → Nat → Nat} {ad : Nat → Nat} {cA cZ : ClassId} (hi : Inj 81 ad) (h0 : Nat) (a1 : Int32) (hh0 : isSt h0) (C0 : Cx cX8_letsNow RX8 wsX8_letsNow 3 (some .int) p s m args meth c) (hK : KK dC dI cA cZ s) (Q : Int32 → St → Prop) : ∀ P xs ys σ, R_X8_letsNow h0 a1 Q P xs ys σ → XX p l e ({ frames := 1, cells := 0, slots := 0, locals := 25 } : Room) s m args below meth c (dC, dI) 81 ad (celC ad cA) 3 (ZI below args s (dC, dI) 81 ad (celC ad cA) Q) (lay_X8_letsNow ad h0 a1) P xs ys σ := by
  refine Fx.elim _ (fun P xs ys σ Y hY hB => ?_)
  exact hB.elim
set_option maxHeartbeats 4000000 in
theorem c_X8_letsNow {l : Launch} {dC : Nat → ClassId} {dI : Nat → Nat → Nat} {ad : Nat → Nat} {cA cZ : ClassId} (hi : Inj 81 ad) (h0 : Nat) (a1 : Int32) (hh0 : isSt h0) (s0 : St) (Q : Int32 → St → Prop) (hv : V_X8_letsNow h0 a1 s0 Q) (sz : Nat) : Met l yX8_letsNow wsX8_letsNow ({ frames := 1, cells := 0, slots := 0, locals := 25 } : Room) (va_Pc [.ref (ad h0), .int a1] (PW dC dI ad cA cZ 81 (celC ad cA) sz s0)) (va_Qi Q (fun u t => va_P (dC, dI) vwCl (wd 81 ad (celC ad cA) u) t.heap) (AA 81 ad sz)) 0 0 (AA 81 ad sz) := by
  refine Met.ofW (cc := cX8_letsNow) (maxL := 3) (ret := (some .int)) (by decide) rfl ?_
  intro p e s m args below meth c s₁ B hml hv0
  obtain ⟨rfl, hsz, hP, hK⟩ := hv0
  subst hsz
  have C0 : Cx cX8_letsNow RX8 wsX8_letsNow 3 (some .int) p s m ([.ref (ad h0), .int a1] : List Value).toArray meth c := ⟨B.exec, B.bytes, hml, findClass_of_methodNamed B.named, atoms_spec (ws := wsX8_letsNow) B.pre, B.returns, B.notSynchronized⟩
  have hl := lv_entry ([.ref (ad h0), .int a1]) (n := 3) (Nat.le_of_ble_eq_true rfl)
  rw [lg_entry_eq]
  generalize (lg_sl ([.ref (ad h0), .int a1]) ++ List.replicate (3 - (lg_sl ([.ref (ad h0), .int a1])).length) Slot.unset).toArray = ls at hl ⊢
  have hl : lv_has ls 3 [(0, .ref (ad h0)), (1, .int a1)] := hl
  exact w_X8_letsNow_e hi h0 a1 hh0 C0 hK Q (R_X8_letsNow h0 a1 Q) (y_X8_letsNow hi h0 a1 hh0 C0 hK Q)  s0 hv hP va_S.rf hl
