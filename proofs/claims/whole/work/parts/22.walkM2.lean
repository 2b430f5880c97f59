def lay_X11_goesNow (ad : Nat → Nat) (h0 : Nat) (n0 : Nat) (a1 : Int32) : Nat → List Int32 → List Int64 → Option (List (Nat × Value) × List Value) := fun P xs ys => match P, xs, ys with
  | _, _, _ => none
set_option maxHeartbeats 4000000 in
set_option maxRecDepth 100000 in
theorem w_X11_goesNow_e {p : Program} {l : Launch} {e : Env} {s : State} {m : MethodId} {args : Array Value} {below : List Frame} {meth : Method} {c : Code} {dC : Nat → ClassId} {dI : Nat → Nat → Nat} {ad : Nat → Nat} {cA cZ : ClassId} (hi : Inj 12 ad) (h0 : Nat) (n0 : Nat) (a1 : Int32) (hh0 : isAr h0 n0) (C0 : Cx cX11_goesNow RX11 wsX11_goesNow 2 (some .int) p s m args meth c) (hK : KK dC dI cA cZ s) (Q : Int32 → St → Prop) (Y : Nat → List Int32 → List Int64 → St → Prop) (hY : ∀ P xs ys σ, Y P xs ys σ → XX p l e ({ frames := 1, cells := 0, slots := 0, locals := 24 } : Room) s m args below meth c (dC, dI) 12 ad (celM ad cA cZ) 2 (ZI below args s (dC, dI) 12 ad (celM ad cA cZ) Q) (lay_X11_goesNow ad h0 n0 a1) P xs ys σ)  (s0 : St) (hv : B_X11_goesNow_e h0 n0 a1 Q Y  s0) {H : Heap} {locs : List Loc} {ls : Array Slot} (hP : va_P (dC, dI) vwCl (wd 12 ad (celM ad cA cZ) s0) H) (hS : va_S (AA 12 ad s.heap.size) s.heap H locs) (hl : lv_has ls 2 [(0, .ref (ad h0)), (1, .int a1)]) : W p l e ({ frames := 1, cells := 0, slots := 0, locals := 24 } : Room) s m args below meth c H locs 0 0 (ZI below args s (dC, dI) 12 ad (celM ad cA cZ) Q) (F0 m 0 ls []) := by
  obtain ⟨hx, hb, hml, hown, hts, hr, hlocks⟩ := C0
  have hD := wd_D (s := s) (cel := celM ad cA cZ) (σ := s0) hi
  unfold B_X11_goesNow_e at hv
  refine lv_aload_n hx hb dX11_goesNow_0 rfl (lv_at hl 0 rfl) ?_
  refine lv_bipush (v := 22) hx hb dX11_goesNow_1 (by decide) ?_
  refine lv_iload_n hx hb dX11_goesNow_3 rfl (lv_at hl 1 rfl) ?_
  refine lv_iadd hx hb dX11_goesNow_4 ?_
  obtain ⟨hin, hv⟩ := hv
  refine r_iald hx hb hK.1 hP h0 hh0.1 (hh0.2 ad cA cZ (s0 h0)) hin dX11_goesNow_5 ?_
  refine lv_aload_n hx hb dX11_goesNow_6 rfl (lv_at hl 0 rfl) ?_
  refine lv_bipush (v := 15) hx hb dX11_goesNow_7 (by decide) ?_
  obtain ⟨hin, hv⟩ := hv
  refine r_iald hx hb hK.1 hP h0 hh0.1 (hh0.2 ad cA cZ (s0 h0)) hin dX11_goesNow_9 ?_
  refine lv_aload_n hx hb dX11_goesNow_10 rfl (lv_at hl 0 rfl) ?_
  refine lv_bipush (v := 16) hx hb dX11_goesNow_11 (by decide) ?_
  refine lv_aload_n hx hb dX11_goesNow_13 rfl (lv_at hl 0 rfl) ?_
  refine lv_bipush (v := 15) hx hb dX11_goesNow_14 (by decide) ?_
  obtain ⟨hin, hv⟩ := hv
  refine r_iald hx hb hK.1 hP h0 hh0.1 (hh0.2 ad cA cZ (s0 h0)) hin dX11_goesNow_16 ?_
  refine lv_bipush (v := 6) hx hb dX11_goesNow_17 (by decide) ?_
  refine lv_irem hx hb dX11_goesNow_19 (by decide) ?_
  refine lv_iadd hx hb dX11_goesNow_20 ?_
  obtain ⟨hin, hv⟩ := hv
  refine r_iald hx hb hK.1 hP h0 hh0.1 (hh0.2 ad cA cZ (s0 h0)) hin dX11_goesNow_21 ?_
  refine r_ci (va_runS (As := [.int (s0 h0 (22 + a1).toNatClampNeg), .int (s0 h0 15), .int (s0 h0 (16 + ((s0 h0 15) - (s0 h0 15) / 6 * 6)).toNatClampNeg)]) (rest := []) ⟨hx, hb, hml, hown, hts⟩ (c_X11_goesAs hi (s0 h0 (22 + a1).toNatClampNeg) (s0 h0 15) (s0 h0 (16 + ((s0 h0 15) - (s0 h0 15) / 6 * 6)).toNatClampNeg) s0 _ hv H.size) (va_cwS 3 hts gX11_goesNow_X11_goesAs rfl rfl rfl (by decide +kernel) ⟨Nat.le_of_ble_eq_true rfl, Nat.le_of_ble_eq_true rfl⟩) ⟨pre_blind, pre_of hP hK⟩ rfl rfl hl.1 rfl (lv_room (Nat.le_of_ble_eq_true rfl)) dX11_goesNow_22 ⟨Nat.zero_le _, Nat.zero_le _⟩) hS (fun r1 s1 H locs hv hP hS => ?_)
  have hD := wd_D (s := s) (cel := celM ad cA cZ) (σ := s1) hi
  exact r_iret hx hb hr hlocks hv hP hS dX11_goesNow_25
set_option maxHeartbeats 4000000 in
theorem y_X11_goesNow {p : Program} {l : Launch} {e : Env} {s : State} {m : MethodId} {args : Array Value} {below : List Frame} {meth : Method} {c : Code} {dC : Nat → ClassId} {dI : Nat → Nat → Nat} {ad : Nat → Nat} {cA cZ : ClassId} (hi : Inj 12 ad) (h0 : Nat) (n0 : Nat) (a1 : Int32) (hh0 : isAr h0 n0) (C0 : Cx cX11_goesNow RX11 wsX11_goesNow 2 (some .int) p s m args meth c) (hK : KK dC dI cA cZ s) (Q : Int32 → St → Prop) : ∀ P xs ys σ, R_X11_goesNow h0 n0 a1 Q P xs ys σ → XX p l e ({ frames := 1, cells := 0, slots := 0, locals := 24 } : Room) s m args below meth c (dC, dI) 12 ad (celM ad cA cZ) 2 (ZI below args s (dC, dI) 12 ad (celM ad cA cZ) Q) (lay_X11_goesNow ad h0 n0 a1) P xs ys σ := by
  refine Fx.elim _ (fun P xs ys σ Y hY hB => ?_)
  exact hB.elim
set_option maxHeartbeats 4000000 in
theorem c_X11_goesNow {l : Launch} {dC : Nat → ClassId} {dI : Nat → Nat → Nat} {ad : Nat → Nat} {cA cZ : ClassId} (hi : Inj 12 ad) (h0 : Nat) (n0 : Nat) (a1 : Int32) (hh0 : isAr h0 n0) (s0 : St) (Q : Int32 → St → Prop) (hv : V_X11_goesNow h0 n0 a1 s0 Q) (sz : Nat) : Met l yX11_goesNow wsX11_goesNow ({ frames := 1, cells := 0, slots := 0, locals := 24 } : Room) (va_Pc [.ref (ad h0), .int a1] (PW dC dI ad cA cZ 12 (celM ad cA cZ) sz s0)) (va_Qi Q (fun u t => va_P (dC, dI) vwCl (wd 12 ad (celM ad cA cZ) u) t.heap) (AA 12 ad sz)) 0 0 (AA 12 ad sz) := by
  refine Met.ofW (cc := cX11_goesNow) (maxL := 2) (ret := (some .int)) (by decide) rfl ?_
  intro p e s m args below meth c s₁ B hml hv0
  obtain ⟨rfl, hsz, hP, hK⟩ := hv0
  subst hsz
  have C0 : Cx cX11_goesNow RX11 wsX11_goesNow 2 (some .int) p s m ([.ref (ad h0), .int a1] : List Value).toArray meth c := ⟨B.exec, B.bytes, hml, findClass_of_methodNamed B.named, atoms_spec (ws := wsX11_goesNow) B.pre, B.returns, B.notSynchronized⟩
  have hl := lv_entry ([.ref (ad h0), .int a1]) (n := 2) (Nat.le_of_ble_eq_true rfl)
  rw [lg_entry_eq]
  generalize (lg_sl ([.ref (ad h0), .int a1]) ++ List.replicate (2 - (lg_sl ([.ref (ad h0), .int a1])).length) Slot.unset).toArray = ls at hl ⊢
  have hl : lv_has ls 2 [(0, .ref (ad h0)), (1, .int a1)] := hl
  exact w_X11_goesNow_e hi h0 n0 a1 hh0 C0 hK Q (R_X11_goesNow h0 n0 a1 Q) (y_X11_goesNow hi h0 n0 a1 hh0 C0 hK Q)  s0 hv hP va_S.rf hl
def lay_X11_manyAt (ad : Nat → Nat) (h0 : Nat) (n0 : Nat) (a1 : Int32) : Nat → List Int32 → List Int64 → Option (List (Nat × Value) × List Value) := fun P xs ys => match P, xs, ys with
  | 4, [x2, x3], [] => some ([(0, .ref (ad h0)), (1, .int a1), (2, .int x2), (3, .int x3)], [])
  | _, _, _ => none
set_option maxHeartbeats 4000000 in
set_option maxRecDepth 100000 in
theorem w_X11_manyAt_e {p : Program} {l : Launch} {e : Env} {s : State} {m : MethodId} {args : Array Value} {below : List Frame} {meth : Method} {c : Code} {dC : Nat → ClassId} {dI : Nat → Nat → Nat} {ad : Nat → Nat} {cA cZ : ClassId} (hi : Inj 12 ad) (h0 : Nat) (n0 : Nat) (a1 : Int32) (hh0 : isAr h0 n0) (C0 : Cx cX11_manyAt RX11 wsX11_manyAt 4 (some .int) p s m args meth c) (hK : KK dC dI cA cZ s) (Q : Int32 → St → Prop) (Y : Nat → List Int32 → List Int64 → St → Prop) (hY : ∀ P xs ys σ, Y P xs ys σ → XX p l e ({ frames := 0, cells := 0, slots := 0, locals := 0 } : Room) s m args below meth c (dC, dI) 12 ad (celM ad cA cZ) 4 (ZI below args s (dC, dI) 12 ad (celM ad cA cZ) Q) (lay_X11_manyAt ad h0 n0 a1) P xs ys σ)  (s0 : St) (hv : B_X11_manyAt_e h0 n0 a1 Q Y  s0) {H : Heap} {locs : List Loc} {ls : Array Slot} (hP : va_P (dC, dI) vwCl (wd 12 ad (celM ad cA cZ) s0) H) (hS : va_S (AA 12 ad s.heap.size) s.heap H locs) (hl : lv_has ls 4 [(0, .ref (ad h0)), (1, .int a1)]) : W p l e ({ frames := 0, cells := 0, slots := 0, locals := 0 } : Room) s m args below meth c H locs 0 0 (ZI below args s (dC, dI) 12 ad (celM ad cA cZ) Q) (F0 m 0 ls []) := by
  obtain ⟨hx, hb, hml, hown, hts, hr, hlocks⟩ := C0
  have hD := wd_D (s := s) (cel := celM ad cA cZ) (σ := s0) hi
  unfold B_X11_manyAt_e at hv
  refine lv_iconst (v := 0) hx hb dX11_manyAt_0 (by decide) ?_
  refine lv_istore_n (lv' := [(2, .int 0), (0, .ref (ad h0)), (1, .int a1)]) hx hb dX11_manyAt_1 rfl hl (by decide) rfl (fun ls hl => ?_)
  refine lv_iconst (v := 0) hx hb dX11_manyAt_2 (by decide) ?_
  refine lv_istore_n (lv' := [(3, .int 0), (2, .int 0), (0, .ref (ad h0)), (1, .int a1)]) hx hb dX11_manyAt_3 rfl hl (by decide) rfl (fun ls hl => ?_)
  exact hY 4 [0, 0] [] s0 hv _ _ rfl H locs ls hP hS (lv_sub hl [2, 3, 1, 0] rfl)
set_option maxHeartbeats 4000000 in
set_option maxRecDepth 100000 in
theorem w_X11_manyAt_4 {p : Program} {l : Launch} {e : Env} {s : State} {m : MethodId} {args : Array Value} {below : List Frame} {meth : Method} {c : Code} {dC : Nat → ClassId} {dI : Nat → Nat → Nat} {ad : Nat → Nat} {cA cZ : ClassId} (hi : Inj 12 ad) (h0 : Nat) (n0 : Nat) (a1 : Int32) (hh0 : isAr h0 n0) (C0 : Cx cX11_manyAt RX11 wsX11_manyAt 4 (some .int) p s m args meth c) (hK : KK dC dI cA cZ s) (Q : Int32 → St → Prop) (Y : Nat → List Int32 → List Int64 → St → Prop) (hY : ∀ P xs ys σ, Y P xs ys σ → XX p l e ({ frames := 0, cells := 0, slots := 0, locals := 0 } : Room) s m args below meth c (dC, dI) 12 ad (celM ad cA cZ) 4 (ZI below args s (dC, dI) 12 ad (celM ad cA cZ) Q) (lay_X11_manyAt ad h0 n0 a1) P xs ys σ) (x2 : Int32) (x3 : Int32) (s0 : St) (hv : B_X11_manyAt_4 h0 n0 a1 Q Y x2 x3 s0) {H : Heap} {locs : List Loc} {ls : Array Slot} (hP : va_P (dC, dI) vwCl (wd 12 ad (celM ad cA cZ) s0) H) (hS : va_S (AA 12 ad s.heap.size) s.heap H locs) (hl : lv_has ls 4 [(0, .ref (ad h0)), (1, .int a1), (2, .int x2), (3, .int x3)]) : W p l e ({ frames := 0, cells := 0, slots := 0, locals := 0 } : Room) s m args below meth c H locs 0 0 (ZI below args s (dC, dI) 12 ad (celM ad cA cZ) Q) (F0 m 4 ls []) := by
  obtain ⟨hx, hb, hml, hown, hts, hr, hlocks⟩ := C0
  have hD := wd_D (s := s) (cel := celM ad cA cZ) (σ := s0) hi
  unfold B_X11_manyAt_4 at hv
  refine lv_iload_n hx hb dX11_manyAt_4 rfl (lv_at hl 3 rfl) ?_
  refine lv_aload_n hx hb dX11_manyAt_5 rfl (lv_at hl 0 rfl) ?_
  refine lv_iconst (v := 0) hx hb dX11_manyAt_6 (by decide) ?_
  obtain ⟨hin, hv⟩ := hv
  refine r_iald hx hb hK.1 hP h0 hh0.1 (hh0.2 ad cA cZ (s0 h0)) hin dX11_manyAt_7 ?_
  refine lv_icmp_ge (tgt := 35) hx hb dX11_manyAt_8 (by decide) (fun c8 => ?_) (fun c8 => ?_)
  · have hv := hv.1 c8
    refine lv_iload_n hx hb dX11_manyAt_35 rfl (lv_at hl 2 rfl) ?_
    exact r_iret hx hb hr hlocks hv hP hS dX11_manyAt_36
  · have hv := hv.2 c8
    refine lv_iload_n hx hb dX11_manyAt_11 rfl (lv_at hl 2 rfl) ?_
    refine lv_aload_n hx hb dX11_manyAt_12 rfl (lv_at hl 0 rfl) ?_
    refine lv_bipush (v := 6) hx hb dX11_manyAt_13 (by decide) ?_
    refine lv_iload_n hx hb dX11_manyAt_15 rfl (lv_at hl 3 rfl) ?_
    refine lv_iadd hx hb dX11_manyAt_16 ?_
    obtain ⟨hin, hv⟩ := hv
    refine r_iald hx hb hK.1 hP h0 hh0.1 (hh0.2 ad cA cZ (s0 h0)) hin dX11_manyAt_17 ?_
    refine lv_iload_n hx hb dX11_manyAt_18 rfl (lv_at hl 1 rfl) ?_
    refine lv_icmp_ne (tgt := 26) hx hb dX11_manyAt_19 (by decide) (fun c19 => ?_) (fun c19 => ?_)
    · have hv := hv.1 c19
      refine lv_iconst (v := 0) hx hb dX11_manyAt_26 (by decide) ?_
      refine lv_iadd hx hb dX11_manyAt_27 ?_
      refine lv_istore_n (lv' := [(2, .int (x2 + 0)), (0, .ref (ad h0)), (1, .int a1), (3, .int x3)]) hx hb dX11_manyAt_28 rfl hl (by decide) rfl (fun ls hl => ?_)
      refine lv_iinc (v := x3 + 1) (lv' := [(3, .int (x3 + 1)), (2, .int (x2 + 0)), (0, .ref (ad h0)), (1, .int a1)]) hx hb dX11_manyAt_29 hl (k := 3) rfl rfl (by decide) rfl (fun ls hl => ?_)
      refine lv_goto (tgt := 4) hx hb dX11_manyAt_32 (by decide) ?_
      exact hY 4 [x2 + 0, x3 + 1] [] s0 hv _ _ rfl H locs ls hP hS (lv_sub hl [2, 3, 1, 0] rfl)
    · have hv := hv.2 c19
      refine lv_iconst (v := 1) hx hb dX11_manyAt_22 (by decide) ?_
      refine lv_goto (tgt := 27) hx hb dX11_manyAt_23 (by decide) ?_
      refine lv_iadd hx hb dX11_manyAt_27 ?_
      refine lv_istore_n (lv' := [(2, .int (x2 + 1)), (0, .ref (ad h0)), (1, .int a1), (3, .int x3)]) hx hb dX11_manyAt_28 rfl hl (by decide) rfl (fun ls hl => ?_)
      refine lv_iinc (v := x3 + 1) (lv' := [(3, .int (x3 + 1)), (2, .int (x2 + 1)), (0, .ref (ad h0)), (1, .int a1)]) hx hb dX11_manyAt_29 hl (k := 3) rfl rfl (by decide) rfl (fun ls hl => ?_)
      refine lv_goto (tgt := 4) hx hb dX11_manyAt_32 (by decide) ?_
      exact hY 4 [x2 + 1, x3 + 1] [] s0 hv _ _ rfl H locs ls hP hS (lv_sub hl [2, 3, 1, 0] rfl)
set_option maxHeartbeats 4000000 in
theorem y_X11_manyAt {p : Program} {l : Launch} {e : Env} {s : State} {m : MethodId} {args : Array Value} {below : List Frame} {meth : Method} {c : Code} {dC : Nat → ClassId} {dI : Nat → Nat → Nat} {ad : Nat → Nat} {cA cZ : ClassId} (hi : Inj 12 ad) (h0 : Nat) (n0 : Nat) (a1 : Int32) (hh0 : isAr h0 n0) (C0 : Cx cX11_manyAt RX11 wsX11_manyAt 4 (some .int) p s m args meth c) (hK : KK dC dI cA cZ s) (Q : Int32 → St → Prop) : ∀ P xs ys σ, R_X11_manyAt h0 n0 a1 Q P xs ys σ → XX p l e ({ frames := 0, cells := 0, slots := 0, locals := 0 } : Room) s m args below meth c (dC, dI) 12 ad (celM ad cA cZ) 4 (ZI below args s (dC, dI) 12 ad (celM ad cA cZ) Q) (lay_X11_manyAt ad h0 n0 a1) P xs ys σ := by
  refine Fx.elim _ (fun P xs ys σ Y hY hB => ?_)
  rcases hB with ⟨rfl, x2, x3, rfl, rfl, hB⟩
  · intro lv st he H locs ls hP hS hl
    cases he
    exact w_X11_manyAt_4 hi h0 n0 a1 hh0 C0 hK Q Y hY x2 x3 σ hB hP hS hl
set_option maxHeartbeats 4000000 in
theorem c_X11_manyAt {l : Launch} {dC : Nat → ClassId} {dI : Nat → Nat → Nat} {ad : Nat → Nat} {cA cZ : ClassId} (hi : Inj 12 ad) (h0 : Nat) (n0 : Nat) (a1 : Int32) (hh0 : isAr h0 n0) (s0 : St) (Q : Int32 → St → Prop) (hv : V_X11_manyAt h0 n0 a1 s0 Q) (sz : Nat) : Met l yX11_manyAt wsX11_manyAt ({ frames := 0, cells := 0, slots := 0, locals := 0 } : Room) (va_Pc [.ref (ad h0), .int a1] (PW dC dI ad cA cZ 12 (celM ad cA cZ) sz s0)) (va_Qi Q (fun u t => va_P (dC, dI) vwCl (wd 12 ad (celM ad cA cZ) u) t.heap) (AA 12 ad sz)) 0 0 (AA 12 ad sz) := by
  refine Met.ofW (cc := cX11_manyAt) (maxL := 4) (ret := (some .int)) (by decide) rfl ?_
  intro p e s m args below meth c s₁ B hml hv0
  obtain ⟨rfl, hsz, hP, hK⟩ := hv0
  subst hsz
  have C0 : Cx cX11_manyAt RX11 wsX11_manyAt 4 (some .int) p s m ([.ref (ad h0), .int a1] : List Value).toArray meth c := ⟨B.exec, B.bytes, hml, findClass_of_methodNamed B.named, atoms_spec (ws := wsX11_manyAt) B.pre, B.returns, B.notSynchronized⟩
  have hl := lv_entry ([.ref (ad h0), .int a1]) (n := 4) (Nat.le_of_ble_eq_true rfl)
  rw [lg_entry_eq]
  generalize (lg_sl ([.ref (ad h0), .int a1]) ++ List.replicate (4 - (lg_sl ([.ref (ad h0), .int a1])).length) Slot.unset).toArray = ls at hl ⊢
  have hl : lv_has ls 4 [(0, .ref (ad h0)), (1, .int a1)] := hl
  exact w_X11_manyAt_e hi h0 n0 a1 hh0 C0 hK Q (R_X11_manyAt h0 n0 a1 Q) (y_X11_manyAt hi h0 n0 a1 hh0 C0 hK Q)  s0 hv hP va_S.rf hl
def lay_X11_waits (ad : Nat → Nat) (h0 : Nat) (n0 : Nat) (a1 : Int32) : Nat → List Int32 → List Int64 → Option (List (Nat × Value) × List Value) := fun P xs ys => match P, xs, ys with
  | _, _, _ => none
set_option maxHeartbeats 4000000 in
set_option maxRecDepth 100000 in
theorem w_X11_waits_e {p : Program} {l : Launch} {e : Env} {s : State} {m : MethodId} {args : Array Value} {below : List Frame} {meth : Method} {c : Code} {dC : Nat → ClassId} {dI : Nat → Nat → Nat} {ad : Nat → Nat} {cA cZ : ClassId} (hi : Inj 12 ad) (h0 : Nat) (n0 : Nat) (a1 : Int32) (hh0 : isAr h0 n0) (C0 : Cx cX11_waits RX11 wsX11_waits 2 (some .boolean) p s m args meth c) (hK : KK dC dI cA cZ s) (Q : Int32 → St → Prop) (Y : Nat → List Int32 → List Int64 → St → Prop) (hY : ∀ P xs ys σ, Y P xs ys σ → XX p l e ({ frames := 1, cells := 0, slots := 0, locals := 22 } : Room) s m args below meth c (dC, dI) 12 ad (celM ad cA cZ) 2 (ZZ below args s (dC, dI) 12 ad (celM ad cA cZ) Q) (lay_X11_waits ad h0 n0 a1) P xs ys σ)  (s0 : St) (hv : B_X11_waits_e h0 n0 a1 Q Y  s0) {H : Heap} {locs : List Loc} {ls : Array Slot} (hP : va_P (dC, dI) vwCl (wd 12 ad (celM ad cA cZ) s0) H) (hS : va_S (AA 12 ad s.heap.size) s.heap H locs) (hl : lv_has ls 2 [(0, .ref (ad h0)), (1, .int a1)]) : W p l e ({ frames := 1, cells := 0, slots := 0, locals := 22 } : Room) s m args below meth c H locs 0 0 (ZZ below args s (dC, dI) 12 ad (celM ad cA cZ) Q) (F0 m 0 ls []) := by
  obtain ⟨hx, hb, hml, hown, hts, hr, hlocks⟩ := C0
  have hD := wd_D (s := s) (cel := celM ad cA cZ) (σ := s0) hi
  unfold B_X11_waits_e at hv
  refine lv_aload_n hx hb dX11_waits_0 rfl (lv_at hl 0 rfl) ?_
  refine lv_aload_n hx hb dX11_waits_1 rfl (lv_at hl 0 rfl) ?_
  refine lv_bipush (v := 6) hx hb dX11_waits_2 (by decide) ?_
  refine lv_iload_n hx hb dX11_waits_4 rfl (lv_at hl 1 rfl) ?_
  refine lv_iadd hx hb dX11_waits_5 ?_
  obtain ⟨hin, hv⟩ := hv
  refine r_iald hx hb hK.1 hP h0 hh0.1 (hh0.2 ad cA cZ (s0 h0)) hin dX11_waits_6 ?_
  refine r_ci (va_runS (As := [.ref (ad h0), .int (s0 h0 (6 + a1).toNatClampNeg)]) (rest := []) ⟨hx, hb, hml, hown, hts⟩ (c_X11_behind hi h0 n0 (s0 h0 (6 + a1).toNatClampNeg) hh0 s0 _ hv H.size) (va_cwS 2 hts gX11_waits_X11_behind rfl rfl rfl (by decide +kernel) ⟨Nat.le_of_ble_eq_true rfl, Nat.le_of_ble_eq_true rfl⟩) ⟨pre_blind, pre_of hP hK⟩ rfl rfl hl.1 rfl (lv_room (Nat.le_of_ble_eq_true rfl)) dX11_waits_7 ⟨Nat.zero_le _, Nat.zero_le _⟩) hS (fun r1 s1 H locs hv hP hS => ?_)
  have hD := wd_D (s := s) (cel := celM ad cA cZ) (σ := s1) hi
  refine lv_iconst (v := (-1)) hx hb dX11_waits_10 (by decide) ?_
  refine lv_icmp_eq (tgt := 18) hx hb dX11_waits_11 (by decide) (fun c11 => ?_) (fun c11 => ?_)
  · have hv := hv.1 c11
    refine lv_iconst (v := 0) hx hb dX11_waits_18 (by decide) ?_
    exact r_zret hx hb hr hlocks (Or.inl rfl) hv hP hS dX11_waits_19
  · have hv := hv.2 c11
    refine lv_iconst (v := 1) hx hb dX11_waits_14 (by decide) ?_
    refine lv_goto (tgt := 19) hx hb dX11_waits_15 (by decide) ?_
    exact r_zret hx hb hr hlocks (Or.inr rfl) hv hP hS dX11_waits_19
set_option maxHeartbeats 4000000 in
theorem y_X11_waits {p : Program} {l : Launch} {e : Env} {s : State} {m : MethodId} {args : Array Value} {below : List Frame} {meth : Method} {c : Code} {dC : Nat → ClassId} {dI : Nat → Nat → Nat} {ad : Nat → Nat} {cA cZ : ClassId} (hi : Inj 12 ad) (h0 : Nat) (n0 : Nat) (a1 : Int32) (hh0 : isAr h0 n0) (C0 : Cx cX11_waits RX11 wsX11_waits 2 (some .boolean) p s m args meth c) (hK : KK dC dI cA cZ s) (Q : Int32 → St → Prop) : ∀ P xs ys σ, R_X11_waits h0 n0 a1 Q P xs ys σ → XX p l e ({ frames := 1, cells := 0, slots := 0, locals := 22 } : Room) s m args below meth c (dC, dI) 12 ad (celM ad cA cZ) 2 (ZZ below args s (dC, dI) 12 ad (celM ad cA cZ) Q) (lay_X11_waits ad h0 n0 a1) P xs ys σ := by
  refine Fx.elim _ (fun P xs ys σ Y hY hB => ?_)
  exact hB.elim
set_option maxHeartbeats 4000000 in
theorem c_X11_waits {l : Launch} {dC : Nat → ClassId} {dI : Nat → Nat → Nat} {ad : Nat → Nat} {cA cZ : ClassId} (hi : Inj 12 ad) (h0 : Nat) (n0 : Nat) (a1 : Int32) (hh0 : isAr h0 n0) (s0 : St) (Q : Int32 → St → Prop) (hv : V_X11_waits h0 n0 a1 s0 Q) (sz : Nat) : Met l yX11_waits wsX11_waits ({ frames := 1, cells := 0, slots := 0, locals := 22 } : Room) (va_Pc [.ref (ad h0), .int a1] (PW dC dI ad cA cZ 12 (celM ad cA cZ) sz s0)) (va_Qi (fun r u => (r = 0 ∨ r = 1) ∧ Q r u) (fun u t => va_P (dC, dI) vwCl (wd 12 ad (celM ad cA cZ) u) t.heap) (AA 12 ad sz)) 0 0 (AA 12 ad sz) := by
  refine Met.ofW (cc := cX11_waits) (maxL := 2) (ret := (some .boolean)) (by decide) rfl ?_
  intro p e s m args below meth c s₁ B hml hv0
  obtain ⟨rfl, hsz, hP, hK⟩ := hv0
  subst hsz
  have C0 : Cx cX11_waits RX11 wsX11_waits 2 (some .boolean) p s m ([.ref (ad h0), .int a1] : List Value).toArray meth c := ⟨B.exec, B.bytes, hml, findClass_of_methodNamed B.named, atoms_spec (ws := wsX11_waits) B.pre, B.returns, B.notSynchronized⟩
  have hl := lv_entry ([.ref (ad h0), .int a1]) (n := 2) (Nat.le_of_ble_eq_true rfl)
  rw [lg_entry_eq]
  generalize (lg_sl ([.ref (ad h0), .int a1]) ++ List.replicate (2 - (lg_sl ([.ref (ad h0), .int a1])).length) Slot.unset).toArray = ls at hl ⊢
  have hl : lv_has ls 2 [(0, .ref (ad h0)), (1, .int a1)] := hl
  exact w_X11_waits_e hi h0 n0 a1 hh0 C0 hK Q (R_X11_waits h0 n0 a1 Q) (y_X11_waits hi h0 n0 a1 hh0 C0 hK Q)  s0 hv hP va_S.rf hl
def lay_X11_goesTo (ad : Nat → Nat) (h0 : Nat) (n0 : Nat) (a1 : Int32) : Nat → List Int32 → List Int64 → Option (List (Nat × Value) × List Value) := fun P xs ys => match P, xs, ys with
  | 13, [x2, x3], [] => some ([(0, .ref (ad h0)), (2, .int x2), (3, .int x3)], [])
  | _, _, _ => none
set_option maxHeartbeats 4000000 in
set_option maxRecDepth 100000 in
theorem w_X11_goesTo_e {p : Program} {l : Launch} {e : Env} {s : State} {m : MethodId} {args : Array Value} {below : List Frame} {meth : Method} {c : Code} {dC : Nat → ClassId} {dI : Nat → Nat → Nat} {ad : Nat → Nat} {cA cZ : ClassId} (hi : Inj 12 ad) (h0 : Nat) (n0 : Nat) (a1 : Int32) (hh0 : isAr h0 n0) (C0 : Cx cX11_goesTo RX11 wsX11_goesTo 4 (some .int) p s m args meth c) (hK : KK dC dI cA cZ s) (Q : Int32 → St → Prop) (Y : Nat → List Int32 → List Int64 → St → Prop) (hY : ∀ P xs ys σ, Y P xs ys σ → XX p l e ({ frames := 2, cells := 0, slots := 0, locals := 45 } : Room) s m args below meth c (dC, dI) 12 ad (celM ad cA cZ) 4 (ZI below args s (dC, dI) 12 ad (celM ad cA cZ) Q) (lay_X11_goesTo ad h0 n0 a1) P xs ys σ)  (s0 : St) (hv : B_X11_goesTo_e h0 n0 a1 Q Y  s0) {H : Heap} {locs : List Loc} {ls : Array Slot} (hP : va_P (dC, dI) vwCl (wd 12 ad (celM ad cA cZ) s0) H) (hS : va_S (AA 12 ad s.heap.size) s.heap H locs) (hl : lv_has ls 4 [(0, .ref (ad h0)), (1, .int a1)]) : W p l e ({ frames := 2, cells := 0, slots := 0, locals := 45 } : Room) s m args below meth c H locs 0 0 (ZI below args s (dC, dI) 12 ad (celM ad cA cZ) Q) (F0 m 0 ls []) := by
  obtain ⟨hx, hb, hml, hown, hts, hr, hlocks⟩ := C0
  have hD := wd_D (s := s) (cel := celM ad cA cZ) (σ := s0) hi
  unfold B_X11_goesTo_e at hv
  refine lv_aload_n hx hb dX11_goesTo_0 rfl (lv_at hl 0 rfl) ?_
  refine lv_bipush (v := 6) hx hb dX11_goesTo_1 (by decide) ?_
  refine lv_iload_n hx hb dX11_goesTo_3 rfl (lv_at hl 1 rfl) ?_
  refine lv_iadd hx hb dX11_goesTo_4 ?_
  obtain ⟨hin, hv⟩ := hv
  refine r_iald hx hb hK.1 hP h0 hh0.1 (hh0.2 ad cA cZ (s0 h0)) hin dX11_goesTo_5 ?_
  refine lv_topi (fun v1 ev1 => ?_)
  have hv := hv v1 ev1
  refine lv_istore_n (lv' := [(2, .int v1), (0, .ref (ad h0)), (1, .int a1)]) hx hb dX11_goesTo_6 rfl hl (by decide) rfl (fun ls hl => ?_)
  refine lv_aload_n hx hb dX11_goesTo_7 rfl (lv_at hl 1 rfl) ?_
  refine lv_iload_n hx hb dX11_goesTo_8 rfl (lv_at hl 2 rfl) ?_
  refine r_ci (va_runS (As := [.ref (ad h0), .int a1]) (rest := []) ⟨hx, hb, hml, hown, hts⟩ (c_X11_goesNow hi h0 n0 a1 hh0 s0 _ hv H.size) (va_cwS 2 hts gX11_goesTo_X11_goesNow rfl rfl rfl (by decide +kernel) ⟨Nat.le_of_ble_eq_true rfl, Nat.le_of_ble_eq_true rfl⟩) ⟨pre_blind, pre_of hP hK⟩ rfl rfl hl.1 rfl (lv_room (Nat.le_of_ble_eq_true rfl)) dX11_goesTo_9 ⟨Nat.zero_le _, Nat.zero_le _⟩) hS (fun r2 s2 H locs hv hP hS => ?_)
  have hD := wd_D (s := s) (cel := celM ad cA cZ) (σ := s2) hi
  refine lv_istore_n (lv' := [(3, .int r2), (2, .int v1), (0, .ref (ad h0)), (1, .int a1)]) hx hb dX11_goesTo_12 rfl hl (by decide) rfl (fun ls hl => ?_)
  exact hY 13 [v1, r2] [] s2 hv _ _ rfl H locs ls hP hS (lv_sub hl [2, 1, 0] rfl)
set_option maxHeartbeats 4000000 in
set_option maxRecDepth 100000 in
theorem w_X11_goesTo_13 {p : Program} {l : Launch} {e : Env} {s : State} {m : MethodId} {args : Array Value} {below : List Frame} {meth : Method} {c : Code} {dC : Nat → ClassId} {dI : Nat → Nat → Nat} {ad : Nat → Nat} {cA cZ : ClassId} (hi : Inj 12 ad) (h0 : Nat) (n0 : Nat) (a1 : Int32) (hh0 : isAr h0 n0) (C0 : Cx cX11_goesTo RX11 wsX11_goesTo 4 (some .int) p s m args meth c) (hK : KK dC dI cA cZ s) (Q : Int32 → St → Prop) (Y : Nat → List Int32 → List Int64 → St → Prop) (hY : ∀ P xs ys σ, Y P xs ys σ → XX p l e ({ frames := 2, cells := 0, slots := 0, locals := 45 } : Room) s m args below meth c (dC, dI) 12 ad (celM ad cA cZ) 4 (ZI below args s (dC, dI) 12 ad (celM ad cA cZ) Q) (lay_X11_goesTo ad h0 n0 a1) P xs ys σ) (x2 : Int32) (x3 : Int32) (s0 : St) (hv : B_X11_goesTo_13 h0 n0 a1 Q Y x2 x3 s0) {H : Heap} {locs : List Loc} {ls : Array Slot} (hP : va_P (dC, dI) vwCl (wd 12 ad (celM ad cA cZ) s0) H) (hS : va_S (AA 12 ad s.heap.size) s.heap H locs) (hl : lv_has ls 4 [(0, .ref (ad h0)), (2, .int x2), (3, .int x3)]) : W p l e ({ frames := 2, cells := 0, slots := 0, locals := 45 } : Room) s m args below meth c H locs 0 0 (ZI below args s (dC, dI) 12 ad (celM ad cA cZ) Q) (F0 m 13 ls []) := by
  obtain ⟨hx, hb, hml, hown, hts, hr, hlocks⟩ := C0
  have hD := wd_D (s := s) (cel := celM ad cA cZ) (σ := s0) hi
  unfold B_X11_goesTo_13 at hv
  refine lv_iload_n hx hb dX11_goesTo_13 rfl (lv_at hl 2 rfl) ?_
  refine lv_if_le (tgt := 41) hx hb dX11_goesTo_14 (by decide) (fun c14 => ?_) (fun c14 => ?_)
  · have hv := hv.1 c14
    refine lv_iload_n hx hb dX11_goesTo_41 rfl (lv_at hl 1 rfl) ?_
    exact r_iret hx hb hr hlocks hv hP hS dX11_goesTo_42
  · have hv := hv.2 c14
    refine lv_iload_n hx hb dX11_goesTo_17 rfl (lv_at hl 1 rfl) ?_
    refine lv_bipush (v := 23) hx hb dX11_goesTo_18 (by decide) ?_
    refine lv_icmp_ge (tgt := 41) hx hb dX11_goesTo_20 (by decide) (fun c20 => ?_) (fun c20 => ?_)
    · have hv := hv.1 c20
      refine lv_iload_n hx hb dX11_goesTo_41 rfl (lv_at hl 1 rfl) ?_
      exact r_iret hx hb hr hlocks hv hP hS dX11_goesTo_42
    · have hv := hv.2 c20
      refine lv_aload_n hx hb dX11_goesTo_23 rfl (lv_at hl 0 rfl) ?_
      refine lv_iload_n hx hb dX11_goesTo_24 rfl (lv_at hl 1 rfl) ?_
      refine r_ci (va_runS (As := [.ref (ad h0), .int x2]) (rest := []) ⟨hx, hb, hml, hown, hts⟩ (c_X11_behind hi h0 n0 x2 hh0 s0 _ hv H.size) (va_cwS 2 hts gX11_goesTo_X11_behind rfl rfl rfl (by decide +kernel) ⟨Nat.le_of_ble_eq_true rfl, Nat.le_of_ble_eq_true rfl⟩) ⟨pre_blind, pre_of hP hK⟩ rfl rfl hl.1 rfl (lv_room (Nat.le_of_ble_eq_true rfl)) dX11_goesTo_25 ⟨Nat.zero_le _, Nat.zero_le _⟩) hS (fun r1 s1 H locs hv hP hS => ?_)
      have hD := wd_D (s := s) (cel := celM ad cA cZ) (σ := s1) hi
      refine lv_iconst (v := (-1)) hx hb dX11_goesTo_28 (by decide) ?_
      refine lv_icmp_ne (tgt := 41) hx hb dX11_goesTo_29 (by decide) (fun c29 => ?_) (fun c29 => ?_)
      · have hv := hv.1 c29
        refine lv_iload_n hx hb dX11_goesTo_41 rfl (lv_at hl 1 rfl) ?_
        exact r_iret hx hb hr hlocks hv hP hS dX11_goesTo_42
      · have hv := hv.2 c29
        refine lv_iinc (v := x2 + 1) (lv' := [(2, .int (x2 + 1)), (0, .ref (ad h0)), (3, .int x3)]) hx hb dX11_goesTo_32 hl (k := 1) rfl rfl (by decide) rfl (fun ls hl => ?_)
        refine lv_iinc (v := x3 + (-1)) (lv' := [(3, .int (x3 + (-1))), (2, .int (x2 + 1)), (0, .ref (ad h0))]) hx hb dX11_goesTo_35 hl (k := 2) rfl rfl (by decide) rfl (fun ls hl => ?_)
        refine lv_goto (tgt := 13) hx hb dX11_goesTo_38 (by decide) ?_
        exact hY 13 [x2 + 1, x3 + (-1)] [] s1 hv _ _ rfl H locs ls hP hS (lv_sub hl [2, 1, 0] rfl)
set_option maxHeartbeats 4000000 in
theorem y_X11_goesTo {p : Program} {l : Launch} {e : Env} {s : State} {m : MethodId} {args : Array Value} {below : List Frame} {meth : Method} {c : Code} {dC : Nat → ClassId} {dI : Nat → Nat → Nat} {ad : Nat → Nat} {cA cZ : ClassId} (hi : Inj 12 ad) (h0 : Nat) (n0 : Nat) (a1 : Int32) (hh0 : isAr h0 n0) (C0 : Cx cX11_goesTo RX11 wsX11_goesTo 4 (some .int) p s m args meth c) (hK : KK dC dI cA cZ s) (Q : Int32 → St → Prop) : ∀ P xs ys σ, R_X11_goesTo h0 n0 a1 Q P xs ys σ → XX p l e ({ frames := 2, cells := 0, slots := 0, locals := 45 } : Room) s m args below meth c (dC, dI) 12 ad (celM ad cA cZ) 4 (ZI below args s (dC, dI) 12 ad (celM ad cA cZ) Q) (lay_X11_goesTo ad h0 n0 a1) P xs ys σ := by
  refine Fx.elim _ (fun P xs ys σ Y hY hB => ?_)
  rcases hB with ⟨rfl, x2, x3, rfl, rfl, hB⟩
  · intro lv st he H locs ls hP hS hl
    cases he
    exact w_X11_goesTo_13 hi h0 n0 a1 hh0 C0 hK Q Y hY x2 x3 σ hB hP hS hl
set_option maxHeartbeats 4000000 in
theorem c_X11_goesTo {l : Launch} {dC : Nat → ClassId} {dI : Nat → Nat → Nat} {ad : Nat → Nat} {cA cZ : ClassId} (hi : Inj 12 ad) (h0 : Nat) (n0 : Nat) (a1 : Int32) (hh0 : isAr h0 n0) (s0 : St) (Q : Int32 → St → Prop) (hv : V_X11_goesTo h0 n0 a1 s0 Q) (sz : Nat) : Met l yX11_goesTo wsX11_goesTo ({ frames := 2, cells := 0, slots := 0, locals := 45 } : Room) (va_Pc [.ref (ad h0), .int a1] (PW dC dI ad cA cZ 12 (celM ad cA cZ) sz s0)) (va_Qi Q (fun u t => va_P (dC, dI) vwCl (wd 12 ad (celM ad cA cZ) u) t.heap) (AA 12 ad sz)) 0 0 (AA 12 ad sz) := by
  refine Met.ofW (cc := cX11_goesTo) (maxL := 4) (ret := (some .int)) (by decide) rfl ?_
  intro p e s m args below meth c s₁ B hml hv0
  obtain ⟨rfl, hsz, hP, hK⟩ := hv0
  subst hsz
  have C0 : Cx cX11_goesTo RX11 wsX11_goesTo 4 (some .int) p s m ([.ref (ad h0), .int a1] : List Value).toArray meth c := ⟨B.exec, B.bytes, hml, findClass_of_methodNamed B.named, atoms_spec (ws := wsX11_goesTo) B.pre, B.returns, B.notSynchronized⟩
  have hl := lv_entry ([.ref (ad h0), .int a1]) (n := 4) (Nat.le_of_ble_eq_true rfl)
  rw [lg_entry_eq]
  generalize (lg_sl ([.ref (ad h0), .int a1]) ++ List.replicate (4 - (lg_sl ([.ref (ad h0), .int a1])).length) Slot.unset).toArray = ls at hl ⊢
  have hl : lv_has ls 4 [(0, .ref (ad h0)), (1, .int a1)] := hl
  exact w_X11_goesTo_e hi h0 n0 a1 hh0 C0 hK Q (R_X11_goesTo h0 n0 a1 Q) (y_X11_goesTo hi h0 n0 a1 hh0 C0 hK Q)  s0 hv hP va_S.rf hl
def lay_X11_letsOf (ad : Nat → Nat) (h0 : Nat) (n0 : Nat) (a1 : Int32) : Nat → List Int32 → List Int64 → Option (List (Nat × Value) × List Value) := fun P xs ys => match P, xs, ys with
  | _, _, _ => none
set_option maxHeartbeats 4000000 in
set_option maxRecDepth 100000 in
theorem w_X11_letsOf_e {p : Program} {l : Launch} {e : Env} {s : State} {m : MethodId} {args : Array Value} {below : List Frame} {meth : Method} {c : Code} {dC : Nat → ClassId} {dI : Nat → Nat → Nat} {ad : Nat → Nat} {cA cZ : ClassId} (hi : Inj 12 ad) (h0 : Nat) (n0 : Nat) (a1 : Int32) (hh0 : isAr h0 n0) (C0 : Cx cX11_letsOf RX11 wsX11_letsOf 3 (some .int) p s m args meth c) (hK : KK dC dI cA cZ s) (Q : Int32 → St → Prop) (Y : Nat → List Int32 → List Int64 → St → Prop) (hY : ∀ P xs ys σ, Y P xs ys σ → XX p l e ({ frames := 1, cells := 0, slots := 0, locals := 25 } : Room) s m args below meth c (dC, dI) 12 ad (celM ad cA cZ) 3 (ZI below args s (dC, dI) 12 ad (celM ad cA cZ) Q) (lay_X11_letsOf ad h0 n0 a1) P xs ys σ)  (s0 : St) (hv : B_X11_letsOf_e h0 n0 a1 Q Y  s0) {H : Heap} {locs : List Loc} {ls : Array Slot} (hP : va_P (dC, dI) vwCl (wd 12 ad (celM ad cA cZ) s0) H) (hS : va_S (AA 12 ad s.heap.size) s.heap H locs) (hl : lv_has ls 3 [(0, .ref (ad h0)), (1, .int a1)]) : W p l e ({ frames := 1, cells := 0, slots := 0, locals := 25 } : Room) s m args below meth c H locs 0 0 (ZI below args s (dC, dI) 12 ad (celM ad cA cZ) Q) (F0 m 0 ls []) := by
  obtain ⟨hx, hb, hml, hown, hts, hr, hlocks⟩ := C0
  have hD := wd_D (s := s) (cel := celM ad cA cZ) (σ := s0) hi
  unfold B_X11_letsOf_e at hv
  refine lv_iload_n hx hb dX11_letsOf_0 rfl (lv_at hl 1 rfl) ?_
  refine lv_aload_n hx hb dX11_letsOf_1 rfl (lv_at hl 0 rfl) ?_
  refine lv_iconst (v := 1) hx hb dX11_letsOf_2 (by decide) ?_
  obtain ⟨hin, hv⟩ := hv
  refine r_iald hx hb hK.1 hP h0 hh0.1 (hh0.2 ad cA cZ (s0 h0)) hin dX11_letsOf_3 ?_
  refine lv_icmp_ge (tgt := 18) hx hb dX11_letsOf_4 (by decide) (fun c4 => ?_) (fun c4 => ?_)
  · have hv := hv.1 c4
    refine lv_iconst (v := 0) hx hb dX11_letsOf_18 (by decide) ?_
    exact r_iret hx hb hr hlocks hv hP hS dX11_letsOf_19
  · have hv := hv.2 c4
    refine lv_aload_n hx hb dX11_letsOf_7 rfl (lv_at hl 0 rfl) ?_
    refine lv_bipush (v := 14) hx hb dX11_letsOf_8 (by decide) ?_
    obtain ⟨hin, hv⟩ := hv
    refine r_iald hx hb hK.1 hP h0 hh0.1 (hh0.2 ad cA cZ (s0 h0)) hin dX11_letsOf_10 ?_
    refine lv_iload_n hx hb dX11_letsOf_11 rfl (lv_at hl 1 rfl) ?_
    refine r_ci (va_runS (As := [.int (s0 h0 14), .int a1]) (rest := []) ⟨hx, hb, hml, hown, hts⟩ (c_X11_has hi (s0 h0 14) a1 s0 _ hv H.size) (va_cwS 2 hts gX11_letsOf_X11_has rfl rfl rfl (by decide +kernel) ⟨Nat.le_of_ble_eq_true rfl, Nat.le_of_ble_eq_true rfl⟩) ⟨pre_blind, pre_of hP hK⟩ rfl rfl hl.1 rfl (lv_room (Nat.le_of_ble_eq_true rfl)) dX11_letsOf_12 ⟨Nat.zero_le _, Nat.zero_le _⟩) hS (fun r1 s1 H locs hv hP hS => ?_)
    obtain ⟨hz_r1, hv⟩ := hv
    have hD := wd_D (s := s) (cel := celM ad cA cZ) (σ := s1) hi
    refine lv_if_eq (tgt := 20) hx hb dX11_letsOf_15 (by decide) (fun c15 => ?_) (fun c15 => ?_)
    · have hv := hv.1 c15
      refine lv_aload_n hx hb dX11_letsOf_20 rfl (lv_at hl 0 rfl) ?_
      refine lv_aload_n hx hb dX11_letsOf_21 rfl (lv_at hl 0 rfl) ?_
      refine lv_bipush (v := 40) hx hb dX11_letsOf_22 (by decide) ?_
      refine lv_iload_n hx hb dX11_letsOf_24 rfl (lv_at hl 1 rfl) ?_
      refine lv_iadd hx hb dX11_letsOf_25 ?_
      obtain ⟨hin, hv⟩ := hv
      refine r_iald hx hb hK.1 hP h0 hh0.1 (hh0.2 ad cA cZ (s1 h0)) hin dX11_letsOf_26 ?_
      refine r_ci (va_runS (As := [.ref (ad h0), .int (s1 h0 (40 + a1).toNatClampNeg)]) (rest := []) ⟨hx, hb, hml, hown, hts⟩ (c_X11_manyAt hi h0 n0 (s1 h0 (40 + a1).toNatClampNeg) hh0 s1 _ hv H.size) (va_cwS 2 hts gX11_letsOf_X11_manyAt rfl rfl rfl (by decide +kernel) ⟨Nat.le_of_ble_eq_true rfl, Nat.le_of_ble_eq_true rfl⟩) ⟨pre_blind, pre_of hP hK⟩ rfl rfl hl.1 rfl (lv_room (Nat.le_of_ble_eq_true rfl)) dX11_letsOf_27 ⟨Nat.zero_le _, Nat.zero_le _⟩) hS (fun r2 s2 H locs hv hP hS => ?_)
      have hD := wd_D (s := s) (cel := celM ad cA cZ) (σ := s2) hi
      refine lv_istore_n (lv' := [(2, .int r2), (0, .ref (ad h0)), (1, .int a1)]) hx hb dX11_letsOf_30 rfl hl (by decide) rfl (fun ls hl => ?_)
      refine lv_iload_n hx hb dX11_letsOf_31 rfl (lv_at hl 0 rfl) ?_
      refine lv_if_ne (tgt := 39) hx hb dX11_letsOf_32 (by decide) (fun c32 => ?_) (fun c32 => ?_)
      · have hv := hv.1 c32
        refine lv_aload_n hx hb dX11_letsOf_39 rfl (lv_at hl 1 rfl) ?_
        refine lv_bipush (v := 37) hx hb dX11_letsOf_40 (by decide) ?_
        refine lv_iload_n hx hb dX11_letsOf_42 rfl (lv_at hl 2 rfl) ?_
        refine lv_iadd hx hb dX11_letsOf_43 ?_
        obtain ⟨hin, hv⟩ := hv
        refine r_iald hx hb hK.1 hP h0 hh0.1 (hh0.2 ad cA cZ (s2 h0)) hin dX11_letsOf_44 ?_
        refine lv_aload_n hx hb dX11_letsOf_45 rfl (lv_at hl 1 rfl) ?_
        refine lv_bipush (v := 15) hx hb dX11_letsOf_46 (by decide) ?_
        obtain ⟨hin, hv⟩ := hv
        refine r_iald hx hb hK.1 hP h0 hh0.1 (hh0.2 ad cA cZ (s2 h0)) hin dX11_letsOf_48 ?_
        refine lv_iload_n hx hb dX11_letsOf_49 rfl (lv_at hl 0 rfl) ?_
        refine r_ci (va_runS (As := [.int (s2 h0 (37 + a1).toNatClampNeg), .int (s2 h0 15), .int r2]) (rest := []) ⟨hx, hb, hml, hown, hts⟩ (c_X11_letsAs hi (s2 h0 (37 + a1).toNatClampNeg) (s2 h0 15) r2 s2 _ hv H.size) (va_cwS 3 hts gX11_letsOf_X11_letsAs rfl rfl rfl (by decide +kernel) ⟨Nat.le_of_ble_eq_true rfl, Nat.le_of_ble_eq_true rfl⟩) ⟨pre_blind, pre_of hP hK⟩ rfl rfl hl.1 rfl (lv_room (Nat.le_of_ble_eq_true rfl)) dX11_letsOf_50 ⟨Nat.zero_le _, Nat.zero_le _⟩) hS (fun r3 s3 H locs hv hP hS => ?_)
        have hD := wd_D (s := s) (cel := celM ad cA cZ) (σ := s3) hi
        exact r_iret hx hb hr hlocks hv hP hS dX11_letsOf_53
      · have hv := hv.2 c32
        refine lv_iconst (v := 0) hx hb dX11_letsOf_35 (by decide) ?_
        refine lv_goto (tgt := 53) hx hb dX11_letsOf_36 (by decide) ?_
        exact r_iret hx hb hr hlocks hv hP hS dX11_letsOf_53
    · have hv := hv.2 c15
      refine lv_iconst (v := 0) hx hb dX11_letsOf_18 (by decide) ?_
      exact r_iret hx hb hr hlocks hv hP hS dX11_letsOf_19
set_option maxHeartbeats 4000000 in
theorem y_X11_letsOf {p : Program} {l : Launch} {e : Env} {s : State} {m : MethodId} {args : Array Value} {below : List Frame} {meth : Method} {c : Code} {dC : Nat → ClassId} {dI : Nat → Nat → Nat} {ad : Nat → Nat} {cA cZ : ClassId} (hi : Inj 12 ad) (h0 : Nat) (n0 : Nat) (a1 : Int32) (hh0 : isAr h0 n0) (C0 : Cx cX11_letsOf RX11 wsX11_letsOf 3 (some .int) p s m args meth c) (hK : KK dC dI cA cZ s) (Q : Int32 → St → Prop) : ∀ P xs ys σ, R_X11_letsOf h0 n0 a1 Q P xs ys σ → XX p l e ({ frames := 1, cells := 0, slots := 0, locals := 25 } : Room) s m args below meth c (dC, dI) 12 ad (celM ad cA cZ) 3 (ZI below args s (dC, dI) 12 ad (celM ad cA cZ) Q) (lay_X11_letsOf ad h0 n0 a1) P xs ys σ := by
  refine Fx.elim _ (fun P xs ys σ Y hY hB => ?_)
  exact hB.elim
set_option maxHeartbeats 4000000 in
theorem c_X11_letsOf {l : Launch} {dC : Nat → ClassId} {dI : Nat → Nat → Nat} {ad : Nat → Nat} {cA cZ : ClassId} (hi : Inj 12 ad) (h0 : Nat) (n0 : Nat) (a1 : Int32) (hh0 : isAr h0 n0) (s0 : St) (Q : Int32 → St → Prop) (hv : V_X11_letsOf h0 n0 a1 s0 Q) (sz : Nat) : Met l yX11_letsOf wsX11_letsOf ({ frames := 1, cells := 0, slots := 0, locals := 25 } : Room) (va_Pc [.ref (ad h0), .int a1] (PW dC dI ad cA cZ 12 (celM ad cA cZ) sz s0)) (va_Qi Q (fun u t => va_P (dC, dI) vwCl (wd 12 ad (celM ad cA cZ) u) t.heap) (AA 12 ad sz)) 0 0 (AA 12 ad sz) := by
  refine Met.ofW (cc := cX11_letsOf) (maxL := 3) (ret := (some .int)) (by decide) rfl ?_
  intro p e s m args below meth c s₁ B hml hv0
  obtain ⟨rfl, hsz, hP, hK⟩ := hv0
  subst hsz
  have C0 : Cx cX11_letsOf RX11 wsX11_letsOf 3 (some .int) p s m ([.ref (ad h0), .int a1] : List Value).toArray meth c := ⟨B.exec, B.bytes, hml, findClass_of_methodNamed B.named, atoms_spec (ws := wsX11_letsOf) B.pre, B.returns, B.notSynchronized⟩
  have hl := lv_entry ([.ref (ad h0), .int a1]) (n := 3) (Nat.le_of_ble_eq_true rfl)
  rw [lg_entry_eq]
  generalize (lg_sl ([.ref (ad h0), .int a1]) ++ List.replicate (3 - (lg_sl ([.ref (ad h0), .int a1])).length) Slot.unset).toArray = ls at hl ⊢
  have hl : lv_has ls 3 [(0, .ref (ad h0)), (1, .int a1)] := hl
  exact w_X11_letsOf_e hi h0 n0 a1 hh0 C0 hK Q (R_X11_letsOf h0 n0 a1 Q) (y_X11_letsOf hi h0 n0 a1 hh0 C0 hK Q)  s0 hv hP va_S.rf hl
def lay_X11_goHour (ad : Nat → Nat) (h0 : Nat) (n0 : Nat) : Nat → List Int32 → List Int64 → Option (List (Nat × Value) × List Value) := fun P xs ys => match P, xs, ys with
  | 21, [x1, x2, x3, x4], [] => some ([(0, .ref (ad h0)), (1, .int x1), (2, .int x2), (3, .int x3), (4, .int x4)], [])
  | 84, [x1, x2, x3, x4, x5, t0], [] => some ([(0, .ref (ad h0)), (1, .int x1), (2, .int x2), (3, .int x3), (4, .int x4), (5, .int x5)], [.int t0])
  | 104, [x1, x2, x3, x4, x5, t0, t1, t2], [] => some ([(0, .ref (ad h0)), (1, .int x1), (2, .int x2), (3, .int x3), (4, .int x4), (5, .int x5)], [.int t0, .int t1, .int t2, .ref (ad h0)])
  | 117, [x2, x3, x4, x5, t0, t1], [] => some ([(0, .ref (ad h0)), (2, .int x2), (3, .int x3), (4, .int x4), (5, .int x5)], [.int t0, .int t1])
  | 131, [x1, x3, x4, x5, t0, t1], [] => some ([(0, .ref (ad h0)), (1, .int x1), (3, .int x3), (4, .int x4), (5, .int x5)], [.int t0, .int t1])
  | _, _, _ => none
set_option maxHeartbeats 4000000 in
set_option maxRecDepth 100000 in
theorem w_X11_goHour_e {p : Program} {l : Launch} {e : Env} {s : State} {m : MethodId} {args : Array Value} {below : List Frame} {meth : Method} {c : Code} {dC : Nat → ClassId} {dI : Nat → Nat → Nat} {ad : Nat → Nat} {cA cZ : ClassId} (hi : Inj 12 ad) (h0 : Nat) (n0 : Nat) (hh0 : isAr h0 n0) (C0 : Cx cX11_goHour RX11 wsX11_goHour 7 none p s m args meth c) (hK : KK dC dI cA cZ s) (Q : St → Prop) (Y : Nat → List Int32 → List Int64 → St → Prop) (hY : ∀ P xs ys σ, Y P xs ys σ → XX p l e ({ frames := 3, cells := 0, slots := 0, locals := 68 } : Room) s m args below meth c (dC, dI) 12 ad (celM ad cA cZ) 7 (ZV below args s (dC, dI) 12 ad (celM ad cA cZ) Q) (lay_X11_goHour ad h0 n0) P xs ys σ)  (s0 : St) (hv : B_X11_goHour_e h0 n0 Q Y  s0) {H : Heap} {locs : List Loc} {ls : Array Slot} (hP : va_P (dC, dI) vwCl (wd 12 ad (celM ad cA cZ) s0) H) (hS : va_S (AA 12 ad s.heap.size) s.heap H locs) (hl : lv_has ls 7 [(0, .ref (ad h0))]) : W p l e ({ frames := 3, cells := 0, slots := 0, locals := 68 } : Room) s m args below meth c H locs 0 0 (ZV below args s (dC, dI) 12 ad (celM ad cA cZ) Q) (F0 m 0 ls []) := by
  obtain ⟨hx, hb, hml, hown, hts, hr, hlocks⟩ := C0
  have hD := wd_D (s := s) (cel := celM ad cA cZ) (σ := s0) hi
  unfold B_X11_goHour_e at hv
  refine lv_aload_n hx hb dX11_goHour_0 rfl (lv_at hl 0 rfl) ?_
  refine lv_iconst (v := 0) hx hb dX11_goHour_1 (by decide) ?_
  refine r_ci (va_runS (As := [.ref (ad h0), .int 0]) (rest := []) ⟨hx, hb, hml, hown, hts⟩ (c_X11_letsOf hi h0 n0 0 hh0 s0 _ hv H.size) (va_cwS 2 hts gX11_goHour_X11_letsOf rfl rfl rfl (by decide +kernel) ⟨Nat.le_of_ble_eq_true rfl, Nat.le_of_ble_eq_true rfl⟩) ⟨pre_blind, pre_of hP hK⟩ rfl rfl hl.1 rfl (lv_room (Nat.le_of_ble_eq_true rfl)) dX11_goHour_2 ⟨Nat.zero_le _, Nat.zero_le _⟩) hS (fun r1 s1 H locs hv hP hS => ?_)
  have hD := wd_D (s := s) (cel := celM ad cA cZ) (σ := s1) hi
  refine lv_istore_n (lv' := [(1, .int r1), (0, .ref (ad h0))]) hx hb dX11_goHour_5 rfl hl (by decide) rfl (fun ls hl => ?_)
  refine lv_aload_n hx hb dX11_goHour_6 rfl (lv_at hl 1 rfl) ?_
  refine lv_iconst (v := 1) hx hb dX11_goHour_7 (by decide) ?_
  refine r_ci (va_runS (As := [.ref (ad h0), .int 1]) (rest := []) ⟨hx, hb, hml, hown, hts⟩ (c_X11_letsOf hi h0 n0 1 hh0 s1 _ hv H.size) (va_cwS 2 hts gX11_goHour_X11_letsOf rfl rfl rfl (by decide +kernel) ⟨Nat.le_of_ble_eq_true rfl, Nat.le_of_ble_eq_true rfl⟩) ⟨pre_blind, pre_of hP hK⟩ rfl rfl hl.1 rfl (lv_room (Nat.le_of_ble_eq_true rfl)) dX11_goHour_8 ⟨Nat.zero_le _, Nat.zero_le _⟩) hS (fun r2 s2 H locs hv hP hS => ?_)
  have hD := wd_D (s := s) (cel := celM ad cA cZ) (σ := s2) hi
  refine lv_istore_n (lv' := [(2, .int r2), (1, .int r1), (0, .ref (ad h0))]) hx hb dX11_goHour_11 rfl hl (by decide) rfl (fun ls hl => ?_)
  refine lv_aload_n hx hb dX11_goHour_12 rfl (lv_at hl 2 rfl) ?_
  refine lv_iconst (v := 2) hx hb dX11_goHour_13 (by decide) ?_
  refine r_ci (va_runS (As := [.ref (ad h0), .int 2]) (rest := []) ⟨hx, hb, hml, hown, hts⟩ (c_X11_letsOf hi h0 n0 2 hh0 s2 _ hv H.size) (va_cwS 2 hts gX11_goHour_X11_letsOf rfl rfl rfl (by decide +kernel) ⟨Nat.le_of_ble_eq_true rfl, Nat.le_of_ble_eq_true rfl⟩) ⟨pre_blind, pre_of hP hK⟩ rfl rfl hl.1 rfl (lv_room (Nat.le_of_ble_eq_true rfl)) dX11_goHour_14 ⟨Nat.zero_le _, Nat.zero_le _⟩) hS (fun r3 s3 H locs hv hP hS => ?_)
  have hD := wd_D (s := s) (cel := celM ad cA cZ) (σ := s3) hi
  refine lv_istore_n (lv' := [(3, .int r3), (2, .int r2), (1, .int r1), (0, .ref (ad h0))]) hx hb dX11_goHour_17 rfl hl (by decide) rfl (fun ls hl => ?_)
  refine lv_iconst (v := 0) hx hb dX11_goHour_18 (by decide) ?_
  refine lv_istore (lv' := [(4, .int 0), (3, .int r3), (2, .int r2), (1, .int r1), (0, .ref (ad h0))]) hx hb dX11_goHour_19 hl (by decide) rfl (fun ls hl => ?_)
  exact hY 21 [r1, r2, r3, 0] [] s3 hv _ _ rfl H locs ls hP hS (lv_sub hl [4, 3, 2, 1, 0] rfl)
set_option maxHeartbeats 4000000 in
set_option maxRecDepth 100000 in
theorem w_X11_goHour_21 {p : Program} {l : Launch} {e : Env} {s : State} {m : MethodId} {args : Array Value} {below : List Frame} {meth : Method} {c : Code} {dC : Nat → ClassId} {dI : Nat → Nat → Nat} {ad : Nat → Nat} {cA cZ : ClassId} (hi : Inj 12 ad) (h0 : Nat) (n0 : Nat) (hh0 : isAr h0 n0) (C0 : Cx cX11_goHour RX11 wsX11_goHour 7 none p s m args meth c) (hK : KK dC dI cA cZ s) (Q : St → Prop) (Y : Nat → List Int32 → List Int64 → St → Prop) (hY : ∀ P xs ys σ, Y P xs ys σ → XX p l e ({ frames := 3, cells := 0, slots := 0, locals := 68 } : Room) s m args below meth c (dC, dI) 12 ad (celM ad cA cZ) 7 (ZV below args s (dC, dI) 12 ad (celM ad cA cZ) Q) (lay_X11_goHour ad h0 n0) P xs ys σ) (x1 : Int32) (x2 : Int32) (x3 : Int32) (x4 : Int32) (s0 : St) (hv : B_X11_goHour_21 h0 n0 Q Y x1 x2 x3 x4 s0) {H : Heap} {locs : List Loc} {ls : Array Slot} (hP : va_P (dC, dI) vwCl (wd 12 ad (celM ad cA cZ) s0) H) (hS : va_S (AA 12 ad s.heap.size) s.heap H locs) (hl : lv_has ls 7 [(0, .ref (ad h0)), (1, .int x1), (2, .int x2), (3, .int x3), (4, .int x4)]) : W p l e ({ frames := 3, cells := 0, slots := 0, locals := 68 } : Room) s m args below meth c H locs 0 0 (ZV below args s (dC, dI) 12 ad (celM ad cA cZ) Q) (F0 m 21 ls []) := by
  obtain ⟨hx, hb, hml, hown, hts, hr, hlocks⟩ := C0
  have hD := wd_D (s := s) (cel := celM ad cA cZ) (σ := s0) hi
  unfold B_X11_goHour_21 at hv
  refine lv_iload hx hb dX11_goHour_21 (lv_at hl 4 rfl) ?_
  refine lv_aload_n hx hb dX11_goHour_23 rfl (lv_at hl 0 rfl) ?_
  refine lv_iconst (v := 0) hx hb dX11_goHour_24 (by decide) ?_
  obtain ⟨hin, hv⟩ := hv
  refine r_iald hx hb hK.1 hP h0 hh0.1 (hh0.2 ad cA cZ (s0 h0)) hin dX11_goHour_25 ?_
  refine lv_icmp_ge (tgt := 153) hx hb dX11_goHour_26 (by decide) (fun c26 => ?_) (fun c26 => ?_)
  · have hv := hv.1 c26
    refine lv_aload_n hx hb dX11_goHour_153 rfl (lv_at hl 0 rfl) ?_
    refine lv_bipush (v := 15) hx hb dX11_goHour_154 (by decide) ?_
    refine lv_dup2_11 hx hb dX11_goHour_156 rfl rfl ?_
    obtain ⟨hin, hv⟩ := hv
    refine r_iald hx hb hK.1 hP h0 hh0.1 (hh0.2 ad cA cZ (s0 h0)) hin dX11_goHour_157 ?_
    refine lv_iconst (v := 1) hx hb dX11_goHour_158 (by decide) ?_
    refine lv_iadd hx hb dX11_goHour_159 ?_
    obtain ⟨hin, hv⟩ := hv
    refine r_iast hx hb hK.1 hP hD hS h0 hh0.1 (hh0.2 ad cA cZ (s0 h0)) (hh0.2 ad cA cZ _) hin dX11_goHour_160 (fun H locs s1 es1 hP hD hS => ?_)
    have hv := hv s1 es1
    exact r_vret hx hb hr hlocks hv hP hS dX11_goHour_161
  · have hv := hv.2 c26
    refine lv_aload_n hx hb dX11_goHour_29 rfl (lv_at hl 0 rfl) ?_
    refine lv_aload_n hx hb dX11_goHour_30 rfl (lv_at hl 0 rfl) ?_
    refine lv_bipush (v := 6) hx hb dX11_goHour_31 (by decide) ?_
    refine lv_iload hx hb dX11_goHour_33 (lv_at hl 4 rfl) ?_
    refine lv_iadd hx hb dX11_goHour_35 ?_
    obtain ⟨hin, hv⟩ := hv
    refine r_iald hx hb hK.1 hP h0 hh0.1 (hh0.2 ad cA cZ (s0 h0)) hin dX11_goHour_36 ?_
    refine r_ci (va_runS (As := [.ref (ad h0), .int (s0 h0 (6 + x4).toNatClampNeg)]) (rest := []) ⟨hx, hb, hml, hown, hts⟩ (c_X11_behind hi h0 n0 (s0 h0 (6 + x4).toNatClampNeg) hh0 s0 _ hv H.size) (va_cwS 2 hts gX11_goHour_X11_behind rfl rfl rfl (by decide +kernel) ⟨Nat.le_of_ble_eq_true rfl, Nat.le_of_ble_eq_true rfl⟩) ⟨pre_blind, pre_of hP hK⟩ rfl rfl hl.1 rfl (lv_room (Nat.le_of_ble_eq_true rfl)) dX11_goHour_37 ⟨Nat.zero_le _, Nat.zero_le _⟩) hS (fun r2 s2 H locs hv hP hS => ?_)
    have hD := wd_D (s := s) (cel := celM ad cA cZ) (σ := s2) hi
    refine lv_istore (lv' := [(5, .int r2), (0, .ref (ad h0)), (1, .int x1), (2, .int x2), (3, .int x3), (4, .int x4)]) hx hb dX11_goHour_40 hl (by decide) rfl (fun ls hl => ?_)
    refine lv_iload hx hb dX11_goHour_42 (lv_at hl 0 rfl) ?_
    refine lv_iconst (v := (-1)) hx hb dX11_goHour_44 (by decide) ?_
    refine lv_icmp_ne (tgt := 64) hx hb dX11_goHour_45 (by decide) (fun c45 => ?_) (fun c45 => ?_)
    · have hv := hv.1 c45
      refine lv_iload hx hb dX11_goHour_64 (lv_at hl 0 rfl) ?_
      refine lv_if_ne (tgt := 73) hx hb dX11_goHour_66 (by decide) (fun c66 => ?_) (fun c66 => ?_)
      · have hv := hv.1 c66
        refine lv_iload hx hb dX11_goHour_73 (lv_at hl 0 rfl) ?_
        refine lv_iconst (v := 1) hx hb dX11_goHour_75 (by decide) ?_
        refine lv_icmp_ne (tgt := 83) hx hb dX11_goHour_76 (by decide) (fun c76 => ?_) (fun c76 => ?_)
        · have hv := hv.1 c76
          refine lv_iload_n hx hb dX11_goHour_83 rfl (lv_at hl 4 rfl) ?_
          exact hY 84 [x1, x2, x3, x4, r2, x3] [] s2 hv _ _ rfl H locs ls hP hS (lv_sub hl [1, 2, 3, 4, 5, 0] rfl)
        · have hv := hv.2 c76
          refine lv_iload_n hx hb dX11_goHour_79 rfl (lv_at hl 3 rfl) ?_
          refine lv_goto (tgt := 84) hx hb dX11_goHour_80 (by decide) ?_
          exact hY 84 [x1, x2, x3, x4, r2, x2] [] s2 hv _ _ rfl H locs ls hP hS (lv_sub hl [1, 2, 3, 4, 5, 0] rfl)
      · have hv := hv.2 c66
        refine lv_iload_n hx hb dX11_goHour_69 rfl (lv_at hl 2 rfl) ?_
        refine lv_goto (tgt := 84) hx hb dX11_goHour_70 (by decide) ?_
        exact hY 84 [x1, x2, x3, x4, r2, x1] [] s2 hv _ _ rfl H locs ls hP hS (lv_sub hl [1, 2, 3, 4, 5, 0] rfl)
    · have hv := hv.2 c45
      refine lv_aload_n hx hb dX11_goHour_48 rfl (lv_at hl 1 rfl) ?_
      refine lv_bipush (v := 6) hx hb dX11_goHour_49 (by decide) ?_
      refine lv_iload hx hb dX11_goHour_51 (lv_at hl 5 rfl) ?_
      refine lv_iadd hx hb dX11_goHour_53 ?_
      refine lv_aload_n hx hb dX11_goHour_54 rfl (lv_at hl 1 rfl) ?_
      refine lv_iload hx hb dX11_goHour_55 (lv_at hl 5 rfl) ?_
      refine r_ci (va_runS (As := [.ref (ad h0), .int x4]) (rest := [.int (6 + x4), .ref (ad h0)]) ⟨hx, hb, hml, hown, hts⟩ (c_X11_goesTo hi h0 n0 x4 hh0 s2 _ hv H.size) (va_cwS 2 hts gX11_goHour_X11_goesTo rfl rfl rfl (by decide +kernel) ⟨Nat.le_of_ble_eq_true rfl, Nat.le_of_ble_eq_true rfl⟩) ⟨pre_blind, pre_of hP hK⟩ rfl rfl hl.1 rfl (lv_room (Nat.le_of_ble_eq_true rfl)) dX11_goHour_57 ⟨Nat.zero_le _, Nat.zero_le _⟩) hS (fun r3 s3 H locs hv hP hS => ?_)
      have hD := wd_D (s := s) (cel := celM ad cA cZ) (σ := s3) hi
      obtain ⟨hin, hv⟩ := hv
      refine r_iast hx hb hK.1 hP hD hS h0 hh0.1 (hh0.2 ad cA cZ (s3 h0)) (hh0.2 ad cA cZ _) hin dX11_goHour_60 (fun H locs s4 es4 hP hD hS => ?_)
      have hv := hv s4 es4
      refine lv_goto (tgt := 147) hx hb dX11_goHour_61 (by decide) ?_
      refine lv_iinc (v := x4 + 1) (lv' := [(4, .int (x4 + 1)), (5, .int r2), (0, .ref (ad h0)), (1, .int x1), (2, .int x2), (3, .int x3)]) hx hb dX11_goHour_147 hl (k := 5) rfl rfl (by decide) rfl (fun ls hl => ?_)
      refine lv_goto (tgt := 21) hx hb dX11_goHour_150 (by decide) ?_
      exact hY 21 [x1, x2, x3, x4 + 1] [] s4 hv _ _ rfl H locs ls hP hS (lv_sub hl [2, 3, 4, 5, 0] rfl)
set_option maxHeartbeats 4000000 in
set_option maxRecDepth 100000 in
theorem w_X11_goHour_84 {p : Program} {l : Launch} {e : Env} {s : State} {m : MethodId} {args : Array Value} {below : List Frame} {meth : Method} {c : Code} {dC : Nat → ClassId} {dI : Nat → Nat → Nat} {ad : Nat → Nat} {cA cZ : ClassId} (hi : Inj 12 ad) (h0 : Nat) (n0 : Nat) (hh0 : isAr h0 n0) (C0 : Cx cX11_goHour RX11 wsX11_goHour 7 none p s m args meth c) (hK : KK dC dI cA cZ s) (Q : St → Prop) (Y : Nat → List Int32 → List Int64 → St → Prop) (hY : ∀ P xs ys σ, Y P xs ys σ → XX p l e ({ frames := 3, cells := 0, slots := 0, locals := 68 } : Room) s m args below meth c (dC, dI) 12 ad (celM ad cA cZ) 7 (ZV below args s (dC, dI) 12 ad (celM ad cA cZ) Q) (lay_X11_goHour ad h0 n0) P xs ys σ) (x1 : Int32) (x2 : Int32) (x3 : Int32) (x4 : Int32) (x5 : Int32) (t0 : Int32) (s0 : St) (hv : B_X11_goHour_84 h0 n0 Q Y x1 x2 x3 x4 x5 t0 s0) {H : Heap} {locs : List Loc} {ls : Array Slot} (hP : va_P (dC, dI) vwCl (wd 12 ad (celM ad cA cZ) s0) H) (hS : va_S (AA 12 ad s.heap.size) s.heap H locs) (hl : lv_has ls 7 [(0, .ref (ad h0)), (1, .int x1), (2, .int x2), (3, .int x3), (4, .int x4), (5, .int x5)]) : W p l e ({ frames := 3, cells := 0, slots := 0, locals := 68 } : Room) s m args below meth c H locs 0 0 (ZV below args s (dC, dI) 12 ad (celM ad cA cZ) Q) (F0 m 84 ls [.int t0]) := by
  obtain ⟨hx, hb, hml, hown, hts, hr, hlocks⟩ := C0
  have hD := wd_D (s := s) (cel := celM ad cA cZ) (σ := s0) hi
  unfold B_X11_goHour_84 at hv
  refine lv_istore (lv' := [(6, .int t0), (0, .ref (ad h0)), (1, .int x1), (2, .int x2), (3, .int x3), (4, .int x4), (5, .int x5)]) hx hb dX11_goHour_84 hl (by decide) rfl (fun ls hl => ?_)
  refine lv_aload_n hx hb dX11_goHour_86 rfl (lv_at hl 1 rfl) ?_
  refine lv_bipush (v := 6) hx hb dX11_goHour_87 (by decide) ?_
  refine lv_iload hx hb dX11_goHour_89 (lv_at hl 5 rfl) ?_
  refine lv_iadd hx hb dX11_goHour_91 ?_
  refine lv_dup2_11 hx hb dX11_goHour_92 rfl rfl ?_
  obtain ⟨hin, hv⟩ := hv
  refine r_iald hx hb hK.1 hP h0 hh0.1 (hh0.2 ad cA cZ (s0 h0)) hin dX11_goHour_93 ?_
  refine lv_iload hx hb dX11_goHour_94 (lv_at hl 0 rfl) ?_
  refine lv_if_le (tgt := 103) hx hb dX11_goHour_96 (by decide) (fun c96 => ?_) (fun c96 => ?_)
  · have hv := hv.1 c96
    refine lv_iconst (v := 0) hx hb dX11_goHour_103 (by decide) ?_
    exact hY 104 [x1, x2, x3, x4, x5, 0, s0 h0 (6 + x4).toNatClampNeg, 6 + x4] [] s0 hv _ _ rfl H locs ls hP hS (lv_sub hl [1, 2, 3, 4, 5, 6] rfl)
  · have hv := hv.2 c96
    refine lv_iconst (v := 1) hx hb dX11_goHour_99 (by decide) ?_
    refine lv_goto (tgt := 104) hx hb dX11_goHour_100 (by decide) ?_
    exact hY 104 [x1, x2, x3, x4, x5, 1, s0 h0 (6 + x4).toNatClampNeg, 6 + x4] [] s0 hv _ _ rfl H locs ls hP hS (lv_sub hl [1, 2, 3, 4, 5, 6] rfl)
set_option maxHeartbeats 4000000 in
set_option maxRecDepth 100000 in
theorem w_X11_goHour_104 {p : Program} {l : Launch} {e : Env} {s : State} {m : MethodId} {args : Array Value} {below : List Frame} {meth : Method} {c : Code} {dC : Nat → ClassId} {dI : Nat → Nat → Nat} {ad : Nat → Nat} {cA cZ : ClassId} (hi : Inj 12 ad) (h0 : Nat) (n0 : Nat) (hh0 : isAr h0 n0) (C0 : Cx cX11_goHour RX11 wsX11_goHour 7 none p s m args meth c) (hK : KK dC dI cA cZ s) (Q : St → Prop) (Y : Nat → List Int32 → List Int64 → St → Prop) (hY : ∀ P xs ys σ, Y P xs ys σ → XX p l e ({ frames := 3, cells := 0, slots := 0, locals := 68 } : Room) s m args below meth c (dC, dI) 12 ad (celM ad cA cZ) 7 (ZV below args s (dC, dI) 12 ad (celM ad cA cZ) Q) (lay_X11_goHour ad h0 n0) P xs ys σ) (x1 : Int32) (x2 : Int32) (x3 : Int32) (x4 : Int32) (x5 : Int32) (t0 : Int32) (t1 : Int32) (t2 : Int32) (s0 : St) (hv : B_X11_goHour_104 h0 n0 Q Y x1 x2 x3 x4 x5 t0 t1 t2 s0) {H : Heap} {locs : List Loc} {ls : Array Slot} (hP : va_P (dC, dI) vwCl (wd 12 ad (celM ad cA cZ) s0) H) (hS : va_S (AA 12 ad s.heap.size) s.heap H locs) (hl : lv_has ls 7 [(0, .ref (ad h0)), (1, .int x1), (2, .int x2), (3, .int x3), (4, .int x4), (5, .int x5)]) : W p l e ({ frames := 3, cells := 0, slots := 0, locals := 68 } : Room) s m args below meth c H locs 0 0 (ZV below args s (dC, dI) 12 ad (celM ad cA cZ) Q) (F0 m 104 ls [.int t0, .int t1, .int t2, .ref (ad h0)]) := by
  obtain ⟨hx, hb, hml, hown, hts, hr, hlocks⟩ := C0
  have hD := wd_D (s := s) (cel := celM ad cA cZ) (σ := s0) hi
  unfold B_X11_goHour_104 at hv
  refine lv_iadd hx hb dX11_goHour_104 ?_
  obtain ⟨hin, hv⟩ := hv
  refine r_iast hx hb hK.1 hP hD hS h0 hh0.1 (hh0.2 ad cA cZ (s0 h0)) (hh0.2 ad cA cZ _) hin dX11_goHour_105 (fun H locs s1 es1 hP hD hS => ?_)
  have hv := hv s1 es1
  refine lv_iload_n hx hb dX11_goHour_106 rfl (lv_at hl 1 rfl) ?_
  refine lv_iload hx hb dX11_goHour_107 (lv_at hl 5 rfl) ?_
  refine lv_if_ne (tgt := 116) hx hb dX11_goHour_109 (by decide) (fun c109 => ?_) (fun c109 => ?_)
  · have hv := hv.1 c109
    refine lv_iconst (v := 0) hx hb dX11_goHour_116 (by decide) ?_
    exact hY 117 [x2, x3, x4, x5, 0, x1] [] s1 hv _ _ rfl H locs ls hP hS (lv_sub hl [0, 2, 3, 4, 5] rfl)
  · have hv := hv.2 c109
    refine lv_iconst (v := 1) hx hb dX11_goHour_112 (by decide) ?_
    refine lv_goto (tgt := 117) hx hb dX11_goHour_113 (by decide) ?_
    exact hY 117 [x2, x3, x4, x5, 1, x1] [] s1 hv _ _ rfl H locs ls hP hS (lv_sub hl [0, 2, 3, 4, 5] rfl)
set_option maxHeartbeats 4000000 in
set_option maxRecDepth 100000 in
theorem w_X11_goHour_117 {p : Program} {l : Launch} {e : Env} {s : State} {m : MethodId} {args : Array Value} {below : List Frame} {meth : Method} {c : Code} {dC : Nat → ClassId} {dI : Nat → Nat → Nat} {ad : Nat → Nat} {cA cZ : ClassId} (hi : Inj 12 ad) (h0 : Nat) (n0 : Nat) (hh0 : isAr h0 n0) (C0 : Cx cX11_goHour RX11 wsX11_goHour 7 none p s m args meth c) (hK : KK dC dI cA cZ s) (Q : St → Prop) (Y : Nat → List Int32 → List Int64 → St → Prop) (hY : ∀ P xs ys σ, Y P xs ys σ → XX p l e ({ frames := 3, cells := 0, slots := 0, locals := 68 } : Room) s m args below meth c (dC, dI) 12 ad (celM ad cA cZ) 7 (ZV below args s (dC, dI) 12 ad (celM ad cA cZ) Q) (lay_X11_goHour ad h0 n0) P xs ys σ) (x2 : Int32) (x3 : Int32) (x4 : Int32) (x5 : Int32) (t0 : Int32) (t1 : Int32) (s0 : St) (hv : B_X11_goHour_117 h0 n0 Q Y x2 x3 x4 x5 t0 t1 s0) {H : Heap} {locs : List Loc} {ls : Array Slot} (hP : va_P (dC, dI) vwCl (wd 12 ad (celM ad cA cZ) s0) H) (hS : va_S (AA 12 ad s.heap.size) s.heap H locs) (hl : lv_has ls 7 [(0, .ref (ad h0)), (2, .int x2), (3, .int x3), (4, .int x4), (5, .int x5)]) : W p l e ({ frames := 3, cells := 0, slots := 0, locals := 68 } : Room) s m args below meth c H locs 0 0 (ZV below args s (dC, dI) 12 ad (celM ad cA cZ) Q) (F0 m 117 ls [.int t0, .int t1]) := by
  obtain ⟨hx, hb, hml, hown, hts, hr, hlocks⟩ := C0
  have hD := wd_D (s := s) (cel := celM ad cA cZ) (σ := s0) hi
  unfold B_X11_goHour_117 at hv
  refine lv_isub hx hb dX11_goHour_117 ?_
  refine lv_istore_n (lv' := [(1, .int (t1 - t0)), (0, .ref (ad h0)), (2, .int x2), (3, .int x3), (4, .int x4), (5, .int x5)]) hx hb dX11_goHour_118 rfl hl (by decide) rfl (fun ls hl => ?_)
  refine lv_iload_n hx hb dX11_goHour_119 rfl (lv_at hl 2 rfl) ?_
  refine lv_iload hx hb dX11_goHour_120 (lv_at hl 5 rfl) ?_
  refine lv_iconst (v := 1) hx hb dX11_goHour_122 (by decide) ?_
  refine lv_icmp_ne (tgt := 130) hx hb dX11_goHour_123 (by decide) (fun c123 => ?_) (fun c123 => ?_)
  · have hv := hv.1 c123
    refine lv_iconst (v := 0) hx hb dX11_goHour_130 (by decide) ?_
    exact hY 131 [t1 - t0, x3, x4, x5, 0, x2] [] s0 hv _ _ rfl H locs ls hP hS (lv_sub hl [1, 0, 3, 4, 5] rfl)
  · have hv := hv.2 c123
    refine lv_iconst (v := 1) hx hb dX11_goHour_126 (by decide) ?_
    refine lv_goto (tgt := 131) hx hb dX11_goHour_127 (by decide) ?_
    exact hY 131 [t1 - t0, x3, x4, x5, 1, x2] [] s0 hv _ _ rfl H locs ls hP hS (lv_sub hl [1, 0, 3, 4, 5] rfl)
set_option maxHeartbeats 4000000 in
set_option maxRecDepth 100000 in
theorem w_X11_goHour_131 {p : Program} {l : Launch} {e : Env} {s : State} {m : MethodId} {args : Array Value} {below : List Frame} {meth : Method} {c : Code} {dC : Nat → ClassId} {dI : Nat → Nat → Nat} {ad : Nat → Nat} {cA cZ : ClassId} (hi : Inj 12 ad) (h0 : Nat) (n0 : Nat) (hh0 : isAr h0 n0) (C0 : Cx cX11_goHour RX11 wsX11_goHour 7 none p s m args meth c) (hK : KK dC dI cA cZ s) (Q : St → Prop) (Y : Nat → List Int32 → List Int64 → St → Prop) (hY : ∀ P xs ys σ, Y P xs ys σ → XX p l e ({ frames := 3, cells := 0, slots := 0, locals := 68 } : Room) s m args below meth c (dC, dI) 12 ad (celM ad cA cZ) 7 (ZV below args s (dC, dI) 12 ad (celM ad cA cZ) Q) (lay_X11_goHour ad h0 n0) P xs ys σ) (x1 : Int32) (x3 : Int32) (x4 : Int32) (x5 : Int32) (t0 : Int32) (t1 : Int32) (s0 : St) (hv : B_X11_goHour_131 h0 n0 Q Y x1 x3 x4 x5 t0 t1 s0) {H : Heap} {locs : List Loc} {ls : Array Slot} (hP : va_P (dC, dI) vwCl (wd 12 ad (celM ad cA cZ) s0) H) (hS : va_S (AA 12 ad s.heap.size) s.heap H locs) (hl : lv_has ls 7 [(0, .ref (ad h0)), (1, .int x1), (3, .int x3), (4, .int x4), (5, .int x5)]) : W p l e ({ frames := 3, cells := 0, slots := 0, locals := 68 } : Room) s m args below meth c H locs 0 0 (ZV below args s (dC, dI) 12 ad (celM ad cA cZ) Q) (F0 m 131 ls [.int t0, .int t1]) := by
  obtain ⟨hx, hb, hml, hown, hts, hr, hlocks⟩ := C0
  have hD := wd_D (s := s) (cel := celM ad cA cZ) (σ := s0) hi
  unfold B_X11_goHour_131 at hv
  refine lv_isub hx hb dX11_goHour_131 ?_
  refine lv_istore_n (lv' := [(2, .int (t1 - t0)), (0, .ref (ad h0)), (1, .int x1), (3, .int x3), (4, .int x4), (5, .int x5)]) hx hb dX11_goHour_132 rfl hl (by decide) rfl (fun ls hl => ?_)
  refine lv_iload_n hx hb dX11_goHour_133 rfl (lv_at hl 3 rfl) ?_
  refine lv_iload hx hb dX11_goHour_134 (lv_at hl 5 rfl) ?_
  refine lv_iconst (v := 2) hx hb dX11_goHour_136 (by decide) ?_
  refine lv_icmp_ne (tgt := 144) hx hb dX11_goHour_137 (by decide) (fun c137 => ?_) (fun c137 => ?_)
  · have hv := hv.1 c137
    refine lv_iconst (v := 0) hx hb dX11_goHour_144 (by decide) ?_
    refine lv_isub hx hb dX11_goHour_145 ?_
    refine lv_istore_n (lv' := [(3, .int (x3 - 0)), (2, .int (t1 - t0)), (0, .ref (ad h0)), (1, .int x1), (4, .int x4), (5, .int x5)]) hx hb dX11_goHour_146 rfl hl (by decide) rfl (fun ls hl => ?_)
    refine lv_iinc (v := x4 + 1) (lv' := [(4, .int (x4 + 1)), (3, .int (x3 - 0)), (2, .int (t1 - t0)), (0, .ref (ad h0)), (1, .int x1), (5, .int x5)]) hx hb dX11_goHour_147 hl (k := 4) rfl rfl (by decide) rfl (fun ls hl => ?_)
    refine lv_goto (tgt := 21) hx hb dX11_goHour_150 (by decide) ?_
    exact hY 21 [x1, t1 - t0, x3 - 0, x4 + 1] [] s0 hv _ _ rfl H locs ls hP hS (lv_sub hl [3, 4, 2, 1, 0] rfl)
  · have hv := hv.2 c137
    refine lv_iconst (v := 1) hx hb dX11_goHour_140 (by decide) ?_
    refine lv_goto (tgt := 145) hx hb dX11_goHour_141 (by decide) ?_
    refine lv_isub hx hb dX11_goHour_145 ?_
    refine lv_istore_n (lv' := [(3, .int (x3 - 1)), (2, .int (t1 - t0)), (0, .ref (ad h0)), (1, .int x1), (4, .int x4), (5, .int x5)]) hx hb dX11_goHour_146 rfl hl (by decide) rfl (fun ls hl => ?_)
    refine lv_iinc (v := x4 + 1) (lv' := [(4, .int (x4 + 1)), (3, .int (x3 - 1)), (2, .int (t1 - t0)), (0, .ref (ad h0)), (1, .int x1), (5, .int x5)]) hx hb dX11_goHour_147 hl (k := 4) rfl rfl (by decide) rfl (fun ls hl => ?_)
    refine lv_goto (tgt := 21) hx hb dX11_goHour_150 (by decide) ?_
    exact hY 21 [x1, t1 - t0, x3 - 1, x4 + 1] [] s0 hv _ _ rfl H locs ls hP hS (lv_sub hl [3, 4, 2, 1, 0] rfl)
set_option maxHeartbeats 4000000 in
theorem y_X11_goHour {p : Program} {l : Launch} {e : Env} {s : State} {m : MethodId} {args : Array Value} {below : List Frame} {meth : Method} {c : Code} {dC : Nat → ClassId} {dI : Nat → Nat → Nat} {ad : Nat → Nat} {cA cZ : ClassId} (hi : Inj 12 ad) (h0 : Nat) (n0 : Nat) (hh0 : isAr h0 n0) (C0 : Cx cX11_goHour RX11 wsX11_goHour 7 none p s m args meth c) (hK : KK dC dI cA cZ s) (Q : St → Prop) : ∀ P xs ys σ, R_X11_goHour h0 n0 Q P xs ys σ → XX p l e ({ frames := 3, cells := 0, slots := 0, locals := 68 } : Room) s m args below meth c (dC, dI) 12 ad (celM ad cA cZ) 7 (ZV below args s (dC, dI) 12 ad (celM ad cA cZ) Q) (lay_X11_goHour ad h0 n0) P xs ys σ := by
  refine Fx.elim _ (fun P xs ys σ Y hY hB => ?_)
  rcases hB with ⟨rfl, x1, x2, x3, x4, rfl, rfl, hB⟩ | ⟨rfl, x1, x2, x3, x4, x5, t0, rfl, rfl, hB⟩ | ⟨rfl, x1, x2, x3, x4, x5, t0, t1, t2, rfl, rfl, hB⟩ | ⟨rfl, x2, x3, x4, x5, t0, t1, rfl, rfl, hB⟩ | ⟨rfl, x1, x3, x4, x5, t0, t1, rfl, rfl, hB⟩
  · intro lv st he H locs ls hP hS hl
    cases he
    exact w_X11_goHour_21 hi h0 n0 hh0 C0 hK Q Y hY x1 x2 x3 x4 σ hB hP hS hl
  · intro lv st he H locs ls hP hS hl
    cases he
    exact w_X11_goHour_84 hi h0 n0 hh0 C0 hK Q Y hY x1 x2 x3 x4 x5 t0 σ hB hP hS hl
  · intro lv st he H locs ls hP hS hl
    cases he
    exact w_X11_goHour_104 hi h0 n0 hh0 C0 hK Q Y hY x1 x2 x3 x4 x5 t0 t1 t2 σ hB hP hS hl
  · intro lv st he H locs ls hP hS hl
    cases he
    exact w_X11_goHour_117 hi h0 n0 hh0 C0 hK Q Y hY x2 x3 x4 x5 t0 t1 σ hB hP hS hl
  · intro lv st he H locs ls hP hS hl
    cases he
    exact w_X11_goHour_131 hi h0 n0 hh0 C0 hK Q Y hY x1 x3 x4 x5 t0 t1 σ hB hP hS hl
set_option maxHeartbeats 4000000 in
theorem c_X11_goHour {l : Launch} {dC : Nat → ClassId} {dI : Nat → Nat → Nat} {ad : Nat → Nat} {cA cZ : ClassId} (hi : Inj 12 ad) (h0 : Nat) (n0 : Nat) (hh0 : isAr h0 n0) (s0 : St) (Q : St → Prop) (hv : V_X11_goHour h0 n0 s0 Q) (sz : Nat) : Met l yX11_goHour wsX11_goHour ({ frames := 3, cells := 0, slots := 0, locals := 68 } : Room) (va_Pc [.ref (ad h0)] (PW dC dI ad cA cZ 12 (celM ad cA cZ) sz s0)) (va_Qv Q (fun u t => va_P (dC, dI) vwCl (wd 12 ad (celM ad cA cZ) u) t.heap) (AA 12 ad sz)) 0 0 (AA 12 ad sz) := by
  refine Met.ofW (cc := cX11_goHour) (maxL := 7) (ret := none) (by decide) rfl ?_
  intro p e s m args below meth c s₁ B hml hv0
  obtain ⟨rfl, hsz, hP, hK⟩ := hv0
  subst hsz
  have C0 : Cx cX11_goHour RX11 wsX11_goHour 7 none p s m ([.ref (ad h0)] : List Value).toArray meth c := ⟨B.exec, B.bytes, hml, findClass_of_methodNamed B.named, atoms_spec (ws := wsX11_goHour) B.pre, B.returns, B.notSynchronized⟩
  have hl := lv_entry ([.ref (ad h0)]) (n := 7) (Nat.le_of_ble_eq_true rfl)
  rw [lg_entry_eq]
  generalize (lg_sl ([.ref (ad h0)]) ++ List.replicate (7 - (lg_sl ([.ref (ad h0)])).length) Slot.unset).toArray = ls at hl ⊢
  have hl : lv_has ls 7 [(0, .ref (ad h0))] := hl
  exact w_X11_goHour_e hi h0 n0 hh0 C0 hK Q (R_X11_goHour h0 n0 Q) (y_X11_goHour hi h0 n0 hh0 C0 hK Q)  s0 hv hP va_S.rf hl
def lay_X11_goHours (ad : Nat → Nat) (h0 : Nat) (n0 : Nat) (a1 : Int32) : Nat → List Int32 → List Int64 → Option (List (Nat × Value) × List Value) := fun P xs ys => match P, xs, ys with
  | 2, [x2], [] => some ([(0, .ref (ad h0)), (1, .int a1), (2, .int x2)], [])
  | _, _, _ => none
set_option maxHeartbeats 4000000 in
set_option maxRecDepth 100000 in
theorem w_X11_goHours_e {p : Program} {l : Launch} {e : Env} {s : State} {m : MethodId} {args : Array Value} {below : List Frame} {meth : Method} {c : Code} {dC : Nat → ClassId} {dI : Nat → Nat → Nat} {ad : Nat → Nat} {cA cZ : ClassId} (hi : Inj 12 ad) (h0 : Nat) (n0 : Nat) (a1 : Int32) (hh0 : isAr h0 n0) (C0 : Cx cX11_goHours RX11 wsX11_goHours 3 none p s m args meth c) (hK : KK dC dI cA cZ s) (Q : St → Prop) (Y : Nat → List Int32 → List Int64 → St → Prop) (hY : ∀ P xs ys σ, Y P xs ys σ → XX p l e ({ frames := 4, cells := 0, slots := 0, locals := 94 } : Room) s m args below meth c (dC, dI) 12 ad (celM ad cA cZ) 3 (ZV below args s (dC, dI) 12 ad (celM ad cA cZ) Q) (lay_X11_goHours ad h0 n0 a1) P xs ys σ)  (s0 : St) (hv : B_X11_goHours_e h0 n0 a1 Q Y  s0) {H : Heap} {locs : List Loc} {ls : Array Slot} (hP : va_P (dC, dI) vwCl (wd 12 ad (celM ad cA cZ) s0) H) (hS : va_S (AA 12 ad s.heap.size) s.heap H locs) (hl : lv_has ls 3 [(0, .ref (ad h0)), (1, .int a1)]) : W p l e ({ frames := 4, cells := 0, slots := 0, locals := 94 } : Room) s m args below meth c H locs 0 0 (ZV below args s (dC, dI) 12 ad (celM ad cA cZ) Q) (F0 m 0 ls []) := by
  obtain ⟨hx, hb, hml, hown, hts, hr, hlocks⟩ := C0
  have hD := wd_D (s := s) (cel := celM ad cA cZ) (σ := s0) hi
  unfold B_X11_goHours_e at hv
  refine lv_iconst (v := 0) hx hb dX11_goHours_0 (by decide) ?_
  refine lv_istore_n (lv' := [(2, .int 0), (0, .ref (ad h0)), (1, .int a1)]) hx hb dX11_goHours_1 rfl hl (by decide) rfl (fun ls hl => ?_)
  exact hY 2 [0] [] s0 hv _ _ rfl H locs ls hP hS (lv_sub hl [1, 2, 0] rfl)
set_option maxHeartbeats 4000000 in
set_option maxRecDepth 100000 in
theorem w_X11_goHours_2 {p : Program} {l : Launch} {e : Env} {s : State} {m : MethodId} {args : Array Value} {below : List Frame} {meth : Method} {c : Code} {dC : Nat → ClassId} {dI : Nat → Nat → Nat} {ad : Nat → Nat} {cA cZ : ClassId} (hi : Inj 12 ad) (h0 : Nat) (n0 : Nat) (a1 : Int32) (hh0 : isAr h0 n0) (C0 : Cx cX11_goHours RX11 wsX11_goHours 3 none p s m args meth c) (hK : KK dC dI cA cZ s) (Q : St → Prop) (Y : Nat → List Int32 → List Int64 → St → Prop) (hY : ∀ P xs ys σ, Y P xs ys σ → XX p l e ({ frames := 4, cells := 0, slots := 0, locals := 94 } : Room) s m args below meth c (dC, dI) 12 ad (celM ad cA cZ) 3 (ZV below args s (dC, dI) 12 ad (celM ad cA cZ) Q) (lay_X11_goHours ad h0 n0 a1) P xs ys σ) (x2 : Int32) (s0 : St) (hv : B_X11_goHours_2 h0 n0 a1 Q Y x2 s0) {H : Heap} {locs : List Loc} {ls : Array Slot} (hP : va_P (dC, dI) vwCl (wd 12 ad (celM ad cA cZ) s0) H) (hS : va_S (AA 12 ad s.heap.size) s.heap H locs) (hl : lv_has ls 3 [(0, .ref (ad h0)), (1, .int a1), (2, .int x2)]) : W p l e ({ frames := 4, cells := 0, slots := 0, locals := 94 } : Room) s m args below meth c H locs 0 0 (ZV below args s (dC, dI) 12 ad (celM ad cA cZ) Q) (F0 m 2 ls []) := by
  obtain ⟨hx, hb, hml, hown, hts, hr, hlocks⟩ := C0
  have hD := wd_D (s := s) (cel := celM ad cA cZ) (σ := s0) hi
  unfold B_X11_goHours_2 at hv
  refine lv_iload_n hx hb dX11_goHours_2 rfl (lv_at hl 2 rfl) ?_
  refine lv_iload_n hx hb dX11_goHours_3 rfl (lv_at hl 1 rfl) ?_
  refine lv_icmp_ge (tgt := 27) hx hb dX11_goHours_4 (by decide) (fun c4 => ?_) (fun c4 => ?_)
  · have hv := hv.1 c4
    exact r_vret hx hb hr hlocks hv hP hS dX11_goHours_27
  · have hv := hv.2 c4
    refine lv_aload_n hx hb dX11_goHours_7 rfl (lv_at hl 0 rfl) ?_
    refine lv_bipush (v := 15) hx hb dX11_goHours_8 (by decide) ?_
    obtain ⟨hin, hv⟩ := hv
    refine r_iald hx hb hK.1 hP h0 hh0.1 (hh0.2 ad cA cZ (s0 h0)) hin dX11_goHours_10 ?_
    refine lv_sipush (v := 9999) hx hb dX11_goHours_11 (by decide) ?_
    refine lv_icmp_ge (tgt := 27) hx hb dX11_goHours_14 (by decide) (fun c14 => ?_) (fun c14 => ?_)
    · have hv := hv.1 c14
      exact r_vret hx hb hr hlocks hv hP hS dX11_goHours_27
    · have hv := hv.2 c14
      refine lv_aload_n hx hb dX11_goHours_17 rfl (lv_at hl 0 rfl) ?_
      refine r_cv (va_runS (As := [.ref (ad h0)]) (rest := []) ⟨hx, hb, hml, hown, hts⟩ (c_X11_goHour hi h0 n0 hh0 s0 _ hv H.size) (va_cwS 1 hts gX11_goHours_X11_goHour rfl rfl rfl (by decide +kernel) ⟨Nat.le_of_ble_eq_true rfl, Nat.le_of_ble_eq_true rfl⟩) ⟨pre_blind, pre_of hP hK⟩ rfl rfl hl.1 rfl (lv_room (Nat.le_of_ble_eq_true rfl)) dX11_goHours_18 ⟨Nat.zero_le _, Nat.zero_le _⟩) hS (fun s1 H locs hv hP hS => ?_)
      have hD := wd_D (s := s) (cel := celM ad cA cZ) (σ := s1) hi
      refine lv_iinc (v := x2 + 1) (lv' := [(2, .int (x2 + 1)), (0, .ref (ad h0)), (1, .int a1)]) hx hb dX11_goHours_21 hl (k := 2) rfl rfl (by decide) rfl (fun ls hl => ?_)
      refine lv_goto (tgt := 2) hx hb dX11_goHours_24 (by decide) ?_
      exact hY 2 [x2 + 1] [] s1 hv _ _ rfl H locs ls hP hS (lv_sub hl [1, 2, 0] rfl)
set_option maxHeartbeats 4000000 in
theorem y_X11_goHours {p : Program} {l : Launch} {e : Env} {s : State} {m : MethodId} {args : Array Value} {below : List Frame} {meth : Method} {c : Code} {dC : Nat → ClassId} {dI : Nat → Nat → Nat} {ad : Nat → Nat} {cA cZ : ClassId} (hi : Inj 12 ad) (h0 : Nat) (n0 : Nat) (a1 : Int32) (hh0 : isAr h0 n0) (C0 : Cx cX11_goHours RX11 wsX11_goHours 3 none p s m args meth c) (hK : KK dC dI cA cZ s) (Q : St → Prop) : ∀ P xs ys σ, R_X11_goHours h0 n0 a1 Q P xs ys σ → XX p l e ({ frames := 4, cells := 0, slots := 0, locals := 94 } : Room) s m args below meth c (dC, dI) 12 ad (celM ad cA cZ) 3 (ZV below args s (dC, dI) 12 ad (celM ad cA cZ) Q) (lay_X11_goHours ad h0 n0 a1) P xs ys σ := by
  refine Fx.elim _ (fun P xs ys σ Y hY hB => ?_)
  rcases hB with ⟨rfl, x2, rfl, rfl, hB⟩
  · intro lv st he H locs ls hP hS hl
    cases he
    exact w_X11_goHours_2 hi h0 n0 a1 hh0 C0 hK Q Y hY x2 σ hB hP hS hl
set_option maxHeartbeats 4000000 in
theorem c_X11_goHours {l : Launch} {dC : Nat → ClassId} {dI : Nat → Nat → Nat} {ad : Nat → Nat} {cA cZ : ClassId} (hi : Inj 12 ad) (h0 : Nat) (n0 : Nat) (a1 : Int32) (hh0 : isAr h0 n0) (s0 : St) (Q : St → Prop) (hv : V_X11_goHours h0 n0 a1 s0 Q) (sz : Nat) : Met l yX11_goHours wsX11_goHours ({ frames := 4, cells := 0, slots := 0, locals := 94 } : Room) (va_Pc [.ref (ad h0), .int a1] (PW dC dI ad cA cZ 12 (celM ad cA cZ) sz s0)) (va_Qv Q (fun u t => va_P (dC, dI) vwCl (wd 12 ad (celM ad cA cZ) u) t.heap) (AA 12 ad sz)) 0 0 (AA 12 ad sz) := by
  refine Met.ofW (cc := cX11_goHours) (maxL := 3) (ret := none) (by decide) rfl ?_
  intro p e s m args below meth c s₁ B hml hv0
  obtain ⟨rfl, hsz, hP, hK⟩ := hv0
  subst hsz
  have C0 : Cx cX11_goHours RX11 wsX11_goHours 3 none p s m ([.ref (ad h0), .int a1] : List Value).toArray meth c := ⟨B.exec, B.bytes, hml, findClass_of_methodNamed B.named, atoms_spec (ws := wsX11_goHours) B.pre, B.returns, B.notSynchronized⟩
  have hl := lv_entry ([.ref (ad h0), .int a1]) (n := 3) (Nat.le_of_ble_eq_true rfl)
  rw [lg_entry_eq]
  generalize (lg_sl ([.ref (ad h0), .int a1]) ++ List.replicate (3 - (lg_sl ([.ref (ad h0), .int a1])).length) Slot.unset).toArray = ls at hl ⊢
  have hl : lv_has ls 3 [(0, .ref (ad h0)), (1, .int a1)] := hl
  exact w_X11_goHours_e hi h0 n0 a1 hh0 C0 hK Q (R_X11_goHours h0 n0 a1 Q) (y_X11_goHours hi h0 n0 a1 hh0 C0 hK Q)  s0 hv hP va_S.rf hl
def lay_X11_save (ad : Nat → Nat)  : Nat → List Int32 → List Int64 → Option (List (Nat × Value) × List Value) := fun P xs ys => match P, xs, ys with
  | 13, [x1], [] => some ([(0, .ref (ad 0)), (1, .int x1)], [])
  | 53, [x1], [] => some ([(0, .ref (ad 0)), (1, .int x1)], [])
  | _, _, _ => none
set_option maxHeartbeats 4000000 in
set_option maxRecDepth 100000 in
theorem w_X11_save_e {p : Program} {l : Launch} {e : Env} {s : State} {m : MethodId} {args : Array Value} {below : List Frame} {meth : Method} {c : Code} {dC : Nat → ClassId} {dI : Nat → Nat → Nat} {ad : Nat → Nat} {cA cZ : ClassId} (hi : Inj 12 ad)   (C0 : Cx cX11_save RX11 wsX11_save 2 none p s m args meth c) (hK : KK dC dI cA cZ s) (Q : St → Prop) (Y : Nat → List Int32 → List Int64 → St → Prop) (hY : ∀ P xs ys σ, Y P xs ys σ → XX p l e ({ frames := 0, cells := 0, slots := 0, locals := 0 } : Room) s m args below meth c (dC, dI) 12 ad (celM ad cA cZ) 2 (ZV below args s (dC, dI) 12 ad (celM ad cA cZ) Q) (lay_X11_save ad ) P xs ys σ)  (s0 : St) (hv : B_X11_save_e  Q Y  s0) {H : Heap} {locs : List Loc} {ls : Array Slot} (hP : va_P (dC, dI) vwCl (wd 12 ad (celM ad cA cZ) s0) H) (hS : va_S (AA 12 ad s.heap.size) s.heap H locs) (hl : lv_has ls 2 [(0, .ref (ad 0))]) : W p l e ({ frames := 0, cells := 0, slots := 0, locals := 0 } : Room) s m args below meth c H locs 0 0 (ZV below args s (dC, dI) 12 ad (celM ad cA cZ) Q) (F0 m 0 ls []) := by
  obtain ⟨hx, hb, hml, hown, hts, hr, hlocks⟩ := C0
  have hD := wd_D (s := s) (cel := celM ad cA cZ) (σ := s0) hi
  unfold B_X11_save_e at hv
  refine lv_aload_n hx hb dX11_save_0 rfl (lv_at hl 0 rfl) ?_
  refine r_get hx hb hts (iwX11_save_X11) hown hK.1 hP 0 (by decide) (ceMo_0 (s0 0)) rfl 0 (by decide) (hts _ kX11_save_1) (v := .ref (ad 1)) rfl dX11_save_1 ?_
  refine lv_iconst (v := 5) hx hb dX11_save_4 (by decide) ?_
  refine r_iald hx hb hK.1 hP 1 (by decide) (ceMo_1 (s0 1)) (vp_in_of_dec (by decide)) dX11_save_5 ?_
  refine lv_bipush (v := 8) hx hb dX11_save_6 (by decide) ?_
  refine lv_icmp_ne (tgt := 51) hx hb dX11_save_8 (by decide) (fun c8 => ?_) (fun c8 => ?_)
  · have hv := hv.1 c8
    refine lv_iconst (v := 0) hx hb dX11_save_51 (by decide) ?_
    refine lv_istore_n (lv' := [(1, .int 0), (0, .ref (ad 0))]) hx hb dX11_save_52 rfl hl (by decide) rfl (fun ls hl => ?_)
    exact hY 53 [0] [] s0 hv _ _ rfl H locs ls hP hS (lv_sub hl [1, 0] rfl)
  · have hv := hv.2 c8
    refine lv_iconst (v := 0) hx hb dX11_save_11 (by decide) ?_
    refine lv_istore_n (lv' := [(1, .int 0), (0, .ref (ad 0))]) hx hb dX11_save_12 rfl hl (by decide) rfl (fun ls hl => ?_)
    exact hY 13 [0] [] s0 hv _ _ rfl H locs ls hP hS (lv_sub hl [1, 0] rfl)
set_option maxHeartbeats 4000000 in
set_option maxRecDepth 100000 in
theorem w_X11_save_13 {p : Program} {l : Launch} {e : Env} {s : State} {m : MethodId} {args : Array Value} {below : List Frame} {meth : Method} {c : Code} {dC : Nat → ClassId} {dI : Nat → Nat → Nat} {ad : Nat → Nat} {cA cZ : ClassId} (hi : Inj 12 ad)   (C0 : Cx cX11_save RX11 wsX11_save 2 none p s m args meth c) (hK : KK dC dI cA cZ s) (Q : St → Prop) (Y : Nat → List Int32 → List Int64 → St → Prop) (hY : ∀ P xs ys σ, Y P xs ys σ → XX p l e ({ frames := 0, cells := 0, slots := 0, locals := 0 } : Room) s m args below meth c (dC, dI) 12 ad (celM ad cA cZ) 2 (ZV below args s (dC, dI) 12 ad (celM ad cA cZ) Q) (lay_X11_save ad ) P xs ys σ) (x1 : Int32) (s0 : St) (hv : B_X11_save_13  Q Y x1 s0) {H : Heap} {locs : List Loc} {ls : Array Slot} (hP : va_P (dC, dI) vwCl (wd 12 ad (celM ad cA cZ) s0) H) (hS : va_S (AA 12 ad s.heap.size) s.heap H locs) (hl : lv_has ls 2 [(0, .ref (ad 0)), (1, .int x1)]) : W p l e ({ frames := 0, cells := 0, slots := 0, locals := 0 } : Room) s m args below meth c H locs 0 0 (ZV below args s (dC, dI) 12 ad (celM ad cA cZ) Q) (F0 m 13 ls []) := by
  obtain ⟨hx, hb, hml, hown, hts, hr, hlocks⟩ := C0
  have hD := wd_D (s := s) (cel := celM ad cA cZ) (σ := s0) hi
  unfold B_X11_save_13 at hv
  refine lv_iload_n hx hb dX11_save_13 rfl (lv_at hl 1 rfl) ?_
  refine lv_bipush (v := 70) hx hb dX11_save_14 (by decide) ?_
  refine lv_icmp_ge (tgt := 43) hx hb dX11_save_16 (by decide) (fun c16 => ?_) (fun c16 => ?_)
  · have hv := hv.1 c16
    refine lv_aload_n hx hb dX11_save_43 rfl (lv_at hl 0 rfl) ?_
    refine r_get hx hb hts (iwX11_save_X11) hown hK.1 hP 0 (by decide) (ceMo_0 (s0 0)) rfl 0 (by decide) (hts _ kX11_save_1) (v := .ref (ad 1)) rfl dX11_save_44 ?_
    refine lv_iconst (v := 5) hx hb dX11_save_47 (by decide) ?_
    refine lv_bipush (v := 7) hx hb dX11_save_48 (by decide) ?_
    refine r_iast hx hb hK.1 hP hD hS 1 (by decide) (ceMo_1 (s0 1)) (ceMo_1 _) (vp_in_of_dec (by decide)) dX11_save_50 (fun H locs s1 es1 hP hD hS => ?_)
    have hv := hv s1 es1
    refine lv_iconst (v := 0) hx hb dX11_save_51 (by decide) ?_
    refine lv_istore_n (lv' := [(1, .int 0), (0, .ref (ad 0))]) hx hb dX11_save_52 rfl hl (by decide) rfl (fun ls hl => ?_)
    exact hY 53 [0] [] s1 hv _ _ rfl H locs ls hP hS (lv_sub hl [1, 0] rfl)
  · have hv := hv.2 c16
    refine lv_aload_n hx hb dX11_save_19 rfl (lv_at hl 0 rfl) ?_
    refine r_get hx hb hts (iwX11_save_X11) hown hK.1 hP 0 (by decide) (ceMo_0 (s0 0)) rfl 0 (by decide) (hts _ kX11_save_1) (v := .ref (ad 1)) rfl dX11_save_20 ?_
    refine lv_bipush (v := 101) hx hb dX11_save_23 (by decide) ?_
    refine lv_iload_n hx hb dX11_save_25 rfl (lv_at hl 1 rfl) ?_
    refine lv_iadd hx hb dX11_save_26 ?_
    refine lv_aload_n hx hb dX11_save_27 rfl (lv_at hl 0 rfl) ?_
    refine r_get hx hb hts (iwX11_save_X11) hown hK.1 hP 0 (by decide) (ceMo_0 (s0 0)) rfl 0 (by decide) (hts _ kX11_save_1) (v := .ref (ad 1)) rfl dX11_save_28 ?_
    refine lv_bipush (v := 111) hx hb dX11_save_31 (by decide) ?_
    refine lv_iload_n hx hb dX11_save_33 rfl (lv_at hl 1 rfl) ?_
    refine lv_iadd hx hb dX11_save_34 ?_
    obtain ⟨hin, hv⟩ := hv
    refine r_iald hx hb hK.1 hP 1 (by decide) (ceMo_1 (s0 1)) hin dX11_save_35 ?_
    obtain ⟨hin, hv⟩ := hv
    refine r_iast hx hb hK.1 hP hD hS 1 (by decide) (ceMo_1 (s0 1)) (ceMo_1 _) hin dX11_save_36 (fun H locs s2 es2 hP hD hS => ?_)
    have hv := hv s2 es2
    refine lv_iinc (v := x1 + 1) (lv' := [(1, .int (x1 + 1)), (0, .ref (ad 0))]) hx hb dX11_save_37 hl (k := 1) rfl rfl (by decide) rfl (fun ls hl => ?_)
    refine lv_goto (tgt := 13) hx hb dX11_save_40 (by decide) ?_
    exact hY 13 [x1 + 1] [] s2 hv _ _ rfl H locs ls hP hS (lv_sub hl [1, 0] rfl)
set_option maxHeartbeats 4000000 in
set_option maxRecDepth 100000 in
theorem w_X11_save_53 {p : Program} {l : Launch} {e : Env} {s : State} {m : MethodId} {args : Array Value} {below : List Frame} {meth : Method} {c : Code} {dC : Nat → ClassId} {dI : Nat → Nat → Nat} {ad : Nat → Nat} {cA cZ : ClassId} (hi : Inj 12 ad)   (C0 : Cx cX11_save RX11 wsX11_save 2 none p s m args meth c) (hK : KK dC dI cA cZ s) (Q : St → Prop) (Y : Nat → List Int32 → List Int64 → St → Prop) (hY : ∀ P xs ys σ, Y P xs ys σ → XX p l e ({ frames := 0, cells := 0, slots := 0, locals := 0 } : Room) s m args below meth c (dC, dI) 12 ad (celM ad cA cZ) 2 (ZV below args s (dC, dI) 12 ad (celM ad cA cZ) Q) (lay_X11_save ad ) P xs ys σ) (x1 : Int32) (s0 : St) (hv : B_X11_save_53  Q Y x1 s0) {H : Heap} {locs : List Loc} {ls : Array Slot} (hP : va_P (dC, dI) vwCl (wd 12 ad (celM ad cA cZ) s0) H) (hS : va_S (AA 12 ad s.heap.size) s.heap H locs) (hl : lv_has ls 2 [(0, .ref (ad 0)), (1, .int x1)]) : W p l e ({ frames := 0, cells := 0, slots := 0, locals := 0 } : Room) s m args below meth c H locs 0 0 (ZV below args s (dC, dI) 12 ad (celM ad cA cZ) Q) (F0 m 53 ls []) := by
  obtain ⟨hx, hb, hml, hown, hts, hr, hlocks⟩ := C0
  have hD := wd_D (s := s) (cel := celM ad cA cZ) (σ := s0) hi
  unfold B_X11_save_53 at hv
  refine lv_iload_n hx hb dX11_save_53 rfl (lv_at hl 1 rfl) ?_
  refine lv_bipush (v := 10) hx hb dX11_save_54 (by decide) ?_
  refine lv_icmp_ge (tgt := 93) hx hb dX11_save_56 (by decide) (fun c56 => ?_) (fun c56 => ?_)
  · have hv := hv.1 c56
    refine lv_aload_n hx hb dX11_save_93 rfl (lv_at hl 0 rfl) ?_
    refine r_get hx hb hts (iwX11_save_X11) hown hK.1 hP 0 (by decide) (ceMo_0 (s0 0)) rfl 0 (by decide) (hts _ kX11_save_1) (v := .ref (ad 1)) rfl dX11_save_94 ?_
    refine lv_iconst (v := 5) hx hb dX11_save_97 (by decide) ?_
    refine lv_dup2_11 hx hb dX11_save_98 rfl rfl ?_
    refine r_iald hx hb hK.1 hP 1 (by decide) (ceMo_1 (s0 1)) (vp_in_of_dec (by decide)) dX11_save_99 ?_
    refine lv_iconst (v := 1) hx hb dX11_save_100 (by decide) ?_
    refine lv_iadd hx hb dX11_save_101 ?_
    refine r_iast hx hb hK.1 hP hD hS 1 (by decide) (ceMo_1 (s0 1)) (ceMo_1 _) (vp_in_of_dec (by decide)) dX11_save_102 (fun H locs s1 es1 hP hD hS => ?_)
    have hv := hv s1 es1
    exact r_vret hx hb hr hlocks hv hP hS dX11_save_103
  · have hv := hv.2 c56
    refine lv_aload_n hx hb dX11_save_59 rfl (lv_at hl 0 rfl) ?_
    refine r_get hx hb hts (iwX11_save_X11) hown hK.1 hP 0 (by decide) (ceMo_0 (s0 0)) rfl 0 (by decide) (hts _ kX11_save_1) (v := .ref (ad 1)) rfl dX11_save_60 ?_
    refine lv_bipush (v := 101) hx hb dX11_save_63 (by decide) ?_
    refine lv_bipush (v := 10) hx hb dX11_save_65 (by decide) ?_
    refine lv_aload_n hx hb dX11_save_67 rfl (lv_at hl 0 rfl) ?_
    refine r_get hx hb hts (iwX11_save_X11) hown hK.1 hP 0 (by decide) (ceMo_0 (s0 0)) rfl 0 (by decide) (hts _ kX11_save_1) (v := .ref (ad 1)) rfl dX11_save_68 ?_
    refine lv_iconst (v := 5) hx hb dX11_save_71 (by decide) ?_
    refine r_iald hx hb hK.1 hP 1 (by decide) (ceMo_1 (s0 1)) (vp_in_of_dec (by decide)) dX11_save_72 ?_
    refine lv_imul hx hb dX11_save_73 ?_
    refine lv_iadd hx hb dX11_save_74 ?_
    refine lv_iload_n hx hb dX11_save_75 rfl (lv_at hl 1 rfl) ?_
    refine lv_iadd hx hb dX11_save_76 ?_
    refine lv_aload_n hx hb dX11_save_77 rfl (lv_at hl 0 rfl) ?_
    refine r_get hx hb hts (iwX11_save_X11) hown hK.1 hP 0 (by decide) (ceMo_0 (s0 0)) rfl 0 (by decide) (hts _ kX11_save_1) (v := .ref (ad 1)) rfl dX11_save_78 ?_
    refine lv_bipush (v := 6) hx hb dX11_save_81 (by decide) ?_
    refine lv_iload_n hx hb dX11_save_83 rfl (lv_at hl 1 rfl) ?_
    refine lv_iadd hx hb dX11_save_84 ?_
    obtain ⟨hin, hv⟩ := hv
    refine r_iald hx hb hK.1 hP 1 (by decide) (ceMo_1 (s0 1)) hin dX11_save_85 ?_
    obtain ⟨hin, hv⟩ := hv
    refine r_iast hx hb hK.1 hP hD hS 1 (by decide) (ceMo_1 (s0 1)) (ceMo_1 _) hin dX11_save_86 (fun H locs s2 es2 hP hD hS => ?_)
    have hv := hv s2 es2
    refine lv_iinc (v := x1 + 1) (lv' := [(1, .int (x1 + 1)), (0, .ref (ad 0))]) hx hb dX11_save_87 hl (k := 1) rfl rfl (by decide) rfl (fun ls hl => ?_)
    refine lv_goto (tgt := 53) hx hb dX11_save_90 (by decide) ?_
    exact hY 53 [x1 + 1] [] s2 hv _ _ rfl H locs ls hP hS (lv_sub hl [1, 0] rfl)
set_option maxHeartbeats 4000000 in
theorem y_X11_save {p : Program} {l : Launch} {e : Env} {s : State} {m : MethodId} {args : Array Value} {below : List Frame} {meth : Method} {c : Code} {dC : Nat → ClassId} {dI : Nat → Nat → Nat} {ad : Nat → Nat} {cA cZ : ClassId} (hi : Inj 12 ad)   (C0 : Cx cX11_save RX11 wsX11_save 2 none p s m args meth c) (hK : KK dC dI cA cZ s) (Q : St → Prop) : ∀ P xs ys σ, R_X11_save  Q P xs ys σ → XX p l e ({ frames := 0, cells := 0, slots := 0, locals := 0 } : Room) s m args below meth c (dC, dI) 12 ad (celM ad cA cZ) 2 (ZV below args s (dC, dI) 12 ad (celM ad cA cZ) Q) (lay_X11_save ad ) P xs ys σ := by
  refine Fx.elim _ (fun P xs ys σ Y hY hB => ?_)
  rcases hB with ⟨rfl, x1, rfl, rfl, hB⟩ | ⟨rfl, x1, rfl, rfl, hB⟩
  · intro lv st he H locs ls hP hS hl
    cases he
    exact w_X11_save_13 hi   C0 hK Q Y hY x1 σ hB hP hS hl
  · intro lv st he H locs ls hP hS hl
    cases he
    exact w_X11_save_53 hi   C0 hK Q Y hY x1 σ hB hP hS hl
set_option maxHeartbeats 4000000 in
theorem c_X11_save {l : Launch} {dC : Nat → ClassId} {dI : Nat → Nat → Nat} {ad : Nat → Nat} {cA cZ : ClassId} (hi : Inj 12 ad)   (s0 : St) (Q : St → Prop) (hv : V_X11_save  s0 Q) (sz : Nat) : Met l yX11_save wsX11_save ({ frames := 0, cells := 0, slots := 0, locals := 0 } : Room) (va_Pc [.ref (ad 0)] (PW dC dI ad cA cZ 12 (celM ad cA cZ) sz s0)) (va_Qv Q (fun u t => va_P (dC, dI) vwCl (wd 12 ad (celM ad cA cZ) u) t.heap) (AA 12 ad sz)) 0 0 (AA 12 ad sz) := by
  refine Met.ofW (cc := cX11_save) (maxL := 2) (ret := none) (by decide) rfl ?_
  intro p e s m args below meth c s₁ B hml hv0
  obtain ⟨rfl, hsz, hP, hK⟩ := hv0
  subst hsz
  have C0 : Cx cX11_save RX11 wsX11_save 2 none p s m ([.ref (ad 0)] : List Value).toArray meth c := ⟨B.exec, B.bytes, hml, findClass_of_methodNamed B.named, atoms_spec (ws := wsX11_save) B.pre, B.returns, B.notSynchronized⟩
  have hl := lv_entry ([.ref (ad 0)]) (n := 2) (Nat.le_of_ble_eq_true rfl)
  rw [lg_entry_eq]
  generalize (lg_sl ([.ref (ad 0)]) ++ List.replicate (2 - (lg_sl ([.ref (ad 0)])).length) Slot.unset).toArray = ls at hl ⊢
  have hl : lv_has ls 2 [(0, .ref (ad 0))] := hl
  exact w_X11_save_e hi   C0 hK Q (R_X11_save  Q) (y_X11_save hi   C0 hK Q)  s0 hv hP va_S.rf hl
def lay_X11_hours (ad : Nat → Nat) (a1 : Int32) : Nat → List Int32 → List Int64 → Option (List (Nat × Value) × List Value) := fun P xs ys => match P, xs, ys with
  | _, _, _ => none
set_option maxHeartbeats 4000000 in
set_option maxRecDepth 100000 in
theorem w_X11_hours_e {p : Program} {l : Launch} {e : Env} {s : State} {m : MethodId} {args : Array Value} {below : List Frame} {meth : Method} {c : Code} {dC : Nat → ClassId} {dI : Nat → Nat → Nat} {ad : Nat → Nat} {cA cZ : ClassId} (hi : Inj 12 ad) (a1 : Int32)  (C0 : Cx cX11_hours RX11 wsX11_hours 2 (some .int) p s m args meth c) (hK : KK dC dI cA cZ s) (Q : Int32 → St → Prop) (Y : Nat → List Int32 → List Int64 → St → Prop) (hY : ∀ P xs ys σ, Y P xs ys σ → XX p l e ({ frames := 5, cells := 0, slots := 0, locals := 116 } : Room) s m args below meth c (dC, dI) 12 ad (celM ad cA cZ) 2 (ZI below args s (dC, dI) 12 ad (celM ad cA cZ) Q) (lay_X11_hours ad a1) P xs ys σ)  (s0 : St) (hv : B_X11_hours_e a1 Q Y  s0) {H : Heap} {locs : List Loc} {ls : Array Slot} (hP : va_P (dC, dI) vwCl (wd 12 ad (celM ad cA cZ) s0) H) (hS : va_S (AA 12 ad s.heap.size) s.heap H locs) (hl : lv_has ls 2 [(0, .ref (ad 0)), (1, .int a1)]) : W p l e ({ frames := 5, cells := 0, slots := 0, locals := 116 } : Room) s m args below meth c H locs 0 0 (ZI below args s (dC, dI) 12 ad (celM ad cA cZ) Q) (F0 m 0 ls []) := by
  obtain ⟨hx, hb, hml, hown, hts, hr, hlocks⟩ := C0
  have hD := wd_D (s := s) (cel := celM ad cA cZ) (σ := s0) hi
  unfold B_X11_hours_e at hv
  refine lv_iload_n hx hb dX11_hours_0 rfl (lv_at hl 1 rfl) ?_
  refine lv_i2l (v := a1.toInt64) hx hb dX11_hours_1 rfl ?_
  refine lv_lconst (v := 1) hx hb dX11_hours_2 (by decide) ?_
  refine lv_ldc2 (v := 60) hx hb hown (hts _ kX11_hours_1) dX11_hours_3 ?_
  refine r_ci (va_runS (As := [.long a1.toInt64, .long 1, .long 60]) (rest := []) ⟨hx, hb, hml, hown, hts⟩ (c_X11_in hi a1.toInt64 1 60 s0 _ hv H.size) (va_cwS 3 hts gX11_hours_X11_in rfl rfl rfl (by decide +kernel) ⟨Nat.le_of_ble_eq_true rfl, Nat.le_of_ble_eq_true rfl⟩) ⟨pre_blind, pre_of hP hK⟩ rfl rfl hl.1 rfl (lv_room (Nat.le_of_ble_eq_true rfl)) dX11_hours_6 ⟨Nat.zero_le _, Nat.zero_le _⟩) hS (fun r1 s1 H locs hv hP hS => ?_)
  obtain ⟨hz_r1, hv⟩ := hv
  have hD := wd_D (s := s) (cel := celM ad cA cZ) (σ := s1) hi
  refine lv_if_ne (tgt := 19) hx hb dX11_hours_9 (by decide) (fun c9 => ?_) (fun c9 => ?_)
  · have hv := hv.1 c9
    refine lv_aload_n hx hb dX11_hours_19 rfl (lv_at hl 0 rfl) ?_
    refine r_cv (va_runV (As := []) (rest := []) ⟨hx, hb, hml, hown, hts⟩ (c_X11_save hi  s1 _ hv H.size) (cwV 0 hts gX11_hours_X11_save rfl rfl rfl (by decide +kernel) ⟨Nat.le_of_ble_eq_true rfl, Nat.le_of_ble_eq_true rfl⟩) ⟨pre_blind, r_recv hK.1 hP 0 (by decide) (ceMo_0 (s1 0)) rfl, pre_of hP hK⟩ rfl rfl hl.1 rfl (lv_room (Nat.le_of_ble_eq_true rfl)) dX11_hours_20 ⟨Nat.zero_le _, Nat.zero_le _⟩) hS (fun s2 H locs hv hP hS => ?_)
    have hD := wd_D (s := s) (cel := celM ad cA cZ) (σ := s2) hi
    refine lv_aload_n hx hb dX11_hours_23 rfl (lv_at hl 0 rfl) ?_
    refine r_get hx hb hts (iwX11_hours_X11) hown hK.1 hP 0 (by decide) (ceMo_0 (s2 0)) rfl 0 (by decide) (hts _ kX11_hours_2) (v := .ref (ad 1)) rfl dX11_hours_24 ?_
    refine lv_iload_n hx hb dX11_hours_27 rfl (lv_at hl 1 rfl) ?_
    refine r_cv (va_runS (As := [.ref (ad 1), .int a1]) (rest := []) ⟨hx, hb, hml, hown, hts⟩ (c_X11_goHours hi 1 181 a1 arM_1 s2 _ hv H.size) (va_cwS 2 hts gX11_hours_X11_goHours rfl rfl rfl (by decide +kernel) ⟨Nat.le_of_ble_eq_true rfl, Nat.le_of_ble_eq_true rfl⟩) ⟨pre_blind, pre_of hP hK⟩ rfl rfl hl.1 rfl (lv_room (Nat.le_of_ble_eq_true rfl)) dX11_hours_28 ⟨Nat.zero_le _, Nat.zero_le _⟩) hS (fun s3 H locs hv hP hS => ?_)
    have hD := wd_D (s := s) (cel := celM ad cA cZ) (σ := s3) hi
    refine lv_aload_n hx hb dX11_hours_31 rfl (lv_at hl 0 rfl) ?_
    refine r_get hx hb hts (iwX11_hours_X11) hown hK.1 hP 0 (by decide) (ceMo_0 (s3 0)) rfl 0 (by decide) (hts _ kX11_hours_2) (v := .ref (ad 1)) rfl dX11_hours_32 ?_
    refine lv_bipush (v := 23) hx hb dX11_hours_35 (by decide) ?_
    refine r_ci (va_runS (As := [.ref (ad 1), .int 23]) (rest := []) ⟨hx, hb, hml, hown, hts⟩ (c_X11_manyAt hi 1 181 23 arM_1 s3 _ hv H.size) (va_cwS 2 hts gX11_hours_X11_manyAt rfl rfl rfl (by decide +kernel) ⟨Nat.le_of_ble_eq_true rfl, Nat.le_of_ble_eq_true rfl⟩) ⟨pre_blind, pre_of hP hK⟩ rfl rfl hl.1 rfl (lv_room (Nat.le_of_ble_eq_true rfl)) dX11_hours_37 ⟨Nat.zero_le _, Nat.zero_le _⟩) hS (fun r4 s4 H locs hv hP hS => ?_)
    have hD := wd_D (s := s) (cel := celM ad cA cZ) (σ := s4) hi
    exact r_iret hx hb hr hlocks hv hP hS dX11_hours_40
  · have hv := hv.2 c9
    refine lv_aload_n hx hb dX11_hours_12 rfl (lv_at hl 0 rfl) ?_
    refine lv_bipush (v := (-2)) hx hb dX11_hours_13 (by decide) ?_
    refine r_ci (va_runV (As := [.int ((-2))]) (rest := []) ⟨hx, hb, hml, hown, hts⟩ (c_X11_bad hi ((-2)) s1 _ hv H.size) (cwV 1 hts gX11_hours_X11_bad rfl rfl rfl (by decide +kernel) ⟨Nat.le_of_ble_eq_true rfl, Nat.le_of_ble_eq_true rfl⟩) ⟨pre_blind, r_recv hK.1 hP 0 (by decide) (ceMo_0 (s1 0)) rfl, pre_of hP hK⟩ rfl rfl hl.1 rfl (lv_room (Nat.le_of_ble_eq_true rfl)) dX11_hours_15 ⟨Nat.zero_le _, Nat.zero_le _⟩) hS (fun r5 s5 H locs hv hP hS => ?_)
    have hD := wd_D (s := s) (cel := celM ad cA cZ) (σ := s5) hi
    exact r_iret hx hb hr hlocks hv hP hS dX11_hours_18
set_option maxHeartbeats 4000000 in
theorem y_X11_hours {p : Program} {l : Launch} {e : Env} {s : State} {m : MethodId} {args : Array Value} {below : List Frame} {meth : Method} {c : Code} {dC : Nat → ClassId} {dI : Nat → Nat → Nat} {ad : Nat → Nat} {cA cZ : ClassId} (hi : Inj 12 ad) (a1 : Int32)  (C0 : Cx cX11_hours RX11 wsX11_hours 2 (some .int) p s m args meth c) (hK : KK dC dI cA cZ s) (Q : Int32 → St → Prop) : ∀ P xs ys σ, R_X11_hours a1 Q P xs ys σ → XX p l e ({ frames := 5, cells := 0, slots := 0, locals := 116 } : Room) s m args below meth c (dC, dI) 12 ad (celM ad cA cZ) 2 (ZI below args s (dC, dI) 12 ad (celM ad cA cZ) Q) (lay_X11_hours ad a1) P xs ys σ := by
  refine Fx.elim _ (fun P xs ys σ Y hY hB => ?_)
  exact hB.elim
set_option maxHeartbeats 4000000 in
theorem c_X11_hours {l : Launch} {dC : Nat → ClassId} {dI : Nat → Nat → Nat} {ad : Nat → Nat} {cA cZ : ClassId} (hi : Inj 12 ad) (a1 : Int32)  (s0 : St) (Q : Int32 → St → Prop) (hv : V_X11_hours a1 s0 Q) (sz : Nat) : Met l yX11_hours wsX11_hours ({ frames := 5, cells := 0, slots := 0, locals := 116 } : Room) (va_Pc [.ref (ad 0), .int a1] (PW dC dI ad cA cZ 12 (celM ad cA cZ) sz s0)) (va_Qi Q (fun u t => va_P (dC, dI) vwCl (wd 12 ad (celM ad cA cZ) u) t.heap) (AA 12 ad sz)) 0 0 (AA 12 ad sz) := by
  refine Met.ofW (cc := cX11_hours) (maxL := 2) (ret := (some .int)) (by decide) rfl ?_
  intro p e s m args below meth c s₁ B hml hv0
  obtain ⟨rfl, hsz, hP, hK⟩ := hv0
  subst hsz
  have C0 : Cx cX11_hours RX11 wsX11_hours 2 (some .int) p s m ([.ref (ad 0), .int a1] : List Value).toArray meth c := ⟨B.exec, B.bytes, hml, findClass_of_methodNamed B.named, atoms_spec (ws := wsX11_hours) B.pre, B.returns, B.notSynchronized⟩
  have hl := lv_entry ([.ref (ad 0), .int a1]) (n := 2) (Nat.le_of_ble_eq_true rfl)
  rw [lg_entry_eq]
  generalize (lg_sl ([.ref (ad 0), .int a1]) ++ List.replicate (2 - (lg_sl ([.ref (ad 0), .int a1])).length) Slot.unset).toArray = ls at hl ⊢
  have hl : lv_has ls 2 [(0, .ref (ad 0)), (1, .int a1)] := hl
  exact w_X11_hours_e hi a1  C0 hK Q (R_X11_hours a1 Q) (y_X11_hours hi a1  C0 hK Q)  s0 hv hP va_S.rf hl
def lay_X11_shuts (ad : Nat → Nat) (a1 : Int32) : Nat → List Int32 → List Int64 → Option (List (Nat × Value) × List Value) := fun P xs ys => match P, xs, ys with
  | _, _, _ => none
set_option maxHeartbeats 4000000 in
set_option maxRecDepth 100000 in
theorem w_X11_shuts_e {p : Program} {l : Launch} {e : Env} {s : State} {m : MethodId} {args : Array Value} {below : List Frame} {meth : Method} {c : Code} {dC : Nat → ClassId} {dI : Nat → Nat → Nat} {ad : Nat → Nat} {cA cZ : ClassId} (hi : Inj 12 ad) (a1 : Int32)  (C0 : Cx cX11_shuts RX11 wsX11_shuts 2 (some .int) p s m args meth c) (hK : KK dC dI cA cZ s) (Q : Int32 → St → Prop) (Y : Nat → List Int32 → List Int64 → St → Prop) (hY : ∀ P xs ys σ, Y P xs ys σ → XX p l e ({ frames := 2, cells := 0, slots := 0, locals := 46 } : Room) s m args below meth c (dC, dI) 12 ad (celM ad cA cZ) 2 (ZI below args s (dC, dI) 12 ad (celM ad cA cZ) Q) (lay_X11_shuts ad a1) P xs ys σ)  (s0 : St) (hv : B_X11_shuts_e a1 Q Y  s0) {H : Heap} {locs : List Loc} {ls : Array Slot} (hP : va_P (dC, dI) vwCl (wd 12 ad (celM ad cA cZ) s0) H) (hS : va_S (AA 12 ad s.heap.size) s.heap H locs) (hl : lv_has ls 2 [(0, .ref (ad 0)), (1, .int a1)]) : W p l e ({ frames := 2, cells := 0, slots := 0, locals := 46 } : Room) s m args below meth c H locs 0 0 (ZI below args s (dC, dI) 12 ad (celM ad cA cZ) Q) (F0 m 0 ls []) := by
  obtain ⟨hx, hb, hml, hown, hts, hr, hlocks⟩ := C0
  have hD := wd_D (s := s) (cel := celM ad cA cZ) (σ := s0) hi
  unfold B_X11_shuts_e at hv
  refine lv_aload_n hx hb dX11_shuts_0 rfl (lv_at hl 0 rfl) ?_
  refine lv_iload_n hx hb dX11_shuts_1 rfl (lv_at hl 1 rfl) ?_
  refine r_ci (va_runV (As := [.int a1]) (rest := []) ⟨hx, hb, hml, hown, hts⟩ (c_X11_isCrossing hi a1 s0 _ hv H.size) (cwV 1 hts gX11_shuts_X11_isCrossing rfl rfl rfl (by decide +kernel) ⟨Nat.le_of_ble_eq_true rfl, Nat.le_of_ble_eq_true rfl⟩) ⟨pre_blind, r_recv hK.1 hP 0 (by decide) (ceMo_0 (s0 0)) rfl, pre_of hP hK⟩ rfl rfl hl.1 rfl (lv_room (Nat.le_of_ble_eq_true rfl)) dX11_shuts_2 ⟨Nat.zero_le _, Nat.zero_le _⟩) hS (fun r1 s1 H locs hv hP hS => ?_)
  obtain ⟨hz_r1, hv⟩ := hv
  have hD := wd_D (s := s) (cel := celM ad cA cZ) (σ := s1) hi
  refine lv_if_ne (tgt := 15) hx hb dX11_shuts_5 (by decide) (fun c5 => ?_) (fun c5 => ?_)
  · have hv := hv.1 c5
    refine lv_aload_n hx hb dX11_shuts_15 rfl (lv_at hl 0 rfl) ?_
    refine r_cv (va_runV (As := []) (rest := []) ⟨hx, hb, hml, hown, hts⟩ (c_X11_save hi  s1 _ hv H.size) (cwV 0 hts gX11_shuts_X11_save rfl rfl rfl (by decide +kernel) ⟨Nat.le_of_ble_eq_true rfl, Nat.le_of_ble_eq_true rfl⟩) ⟨pre_blind, r_recv hK.1 hP 0 (by decide) (ceMo_0 (s1 0)) rfl, pre_of hP hK⟩ rfl rfl hl.1 rfl (lv_room (Nat.le_of_ble_eq_true rfl)) dX11_shuts_16 ⟨Nat.zero_le _, Nat.zero_le _⟩) hS (fun s2 H locs hv hP hS => ?_)
    have hD := wd_D (s := s) (cel := celM ad cA cZ) (σ := s2) hi
    refine lv_aload_n hx hb dX11_shuts_19 rfl (lv_at hl 0 rfl) ?_
    refine r_get hx hb hts (iwX11_shuts_X11) hown hK.1 hP 0 (by decide) (ceMo_0 (s2 0)) rfl 0 (by decide) (hts _ kX11_shuts_1) (v := .ref (ad 1)) rfl dX11_shuts_20 ?_
    refine lv_bipush (v := 14) hx hb dX11_shuts_23 (by decide) ?_
    refine lv_dup2_11 hx hb dX11_shuts_25 rfl rfl ?_
    refine r_iald hx hb hK.1 hP 1 (by decide) (ceMo_1 (s2 1)) (vp_in_of_dec (by decide)) dX11_shuts_26 ?_
    refine lv_iconst (v := 1) hx hb dX11_shuts_27 (by decide) ?_
    refine lv_iload_n hx hb dX11_shuts_28 rfl (lv_at hl 1 rfl) ?_
    refine lv_ishl hx hb dX11_shuts_29 ?_
    refine lv_ixor hx hb dX11_shuts_30 ?_
    refine r_iast hx hb hK.1 hP hD hS 1 (by decide) (ceMo_1 (s2 1)) (ceMo_1 _) (vp_in_of_dec (by decide)) dX11_shuts_31 (fun H locs s3 es3 hP hD hS => ?_)
    have hv := hv s3 es3
    refine lv_aload_n hx hb dX11_shuts_32 rfl (lv_at hl 0 rfl) ?_
    refine r_get hx hb hts (iwX11_shuts_X11) hown hK.1 hP 0 (by decide) (ceMo_0 (s3 0)) rfl 0 (by decide) (hts _ kX11_shuts_1) (v := .ref (ad 1)) rfl dX11_shuts_33 ?_
    refine lv_bipush (v := 14) hx hb dX11_shuts_36 (by decide) ?_
    refine r_iald hx hb hK.1 hP 1 (by decide) (ceMo_1 (s3 1)) (vp_in_of_dec (by decide)) dX11_shuts_38 ?_
    refine lv_iload_n hx hb dX11_shuts_39 rfl (lv_at hl 1 rfl) ?_
    refine lv_ishr hx hb dX11_shuts_40 ?_
    refine lv_iconst (v := 1) hx hb dX11_shuts_41 (by decide) ?_
    refine lv_iand hx hb dX11_shuts_42 ?_
    exact r_iret hx hb hr hlocks hv hP hS dX11_shuts_43
  · have hv := hv.2 c5
    refine lv_aload_n hx hb dX11_shuts_8 rfl (lv_at hl 0 rfl) ?_
    refine lv_bipush (v := (-2)) hx hb dX11_shuts_9 (by decide) ?_
    refine r_ci (va_runV (As := [.int ((-2))]) (rest := []) ⟨hx, hb, hml, hown, hts⟩ (c_X11_bad hi ((-2)) s1 _ hv H.size) (cwV 1 hts gX11_shuts_X11_bad rfl rfl rfl (by decide +kernel) ⟨Nat.le_of_ble_eq_true rfl, Nat.le_of_ble_eq_true rfl⟩) ⟨pre_blind, r_recv hK.1 hP 0 (by decide) (ceMo_0 (s1 0)) rfl, pre_of hP hK⟩ rfl rfl hl.1 rfl (lv_room (Nat.le_of_ble_eq_true rfl)) dX11_shuts_11 ⟨Nat.zero_le _, Nat.zero_le _⟩) hS (fun r4 s4 H locs hv hP hS => ?_)
    have hD := wd_D (s := s) (cel := celM ad cA cZ) (σ := s4) hi
    exact r_iret hx hb hr hlocks hv hP hS dX11_shuts_14
set_option maxHeartbeats 4000000 in
theorem y_X11_shuts {p : Program} {l : Launch} {e : Env} {s : State} {m : MethodId} {args : Array Value} {below : List Frame} {meth : Method} {c : Code} {dC : Nat → ClassId} {dI : Nat → Nat → Nat} {ad : Nat → Nat} {cA cZ : ClassId} (hi : Inj 12 ad) (a1 : Int32)  (C0 : Cx cX11_shuts RX11 wsX11_shuts 2 (some .int) p s m args meth c) (hK : KK dC dI cA cZ s) (Q : Int32 → St → Prop) : ∀ P xs ys σ, R_X11_shuts a1 Q P xs ys σ → XX p l e ({ frames := 2, cells := 0, slots := 0, locals := 46 } : Room) s m args below meth c (dC, dI) 12 ad (celM ad cA cZ) 2 (ZI below args s (dC, dI) 12 ad (celM ad cA cZ) Q) (lay_X11_shuts ad a1) P xs ys σ := by
  refine Fx.elim _ (fun P xs ys σ Y hY hB => ?_)
  exact hB.elim
set_option maxHeartbeats 4000000 in
theorem c_X11_shuts {l : Launch} {dC : Nat → ClassId} {dI : Nat → Nat → Nat} {ad : Nat → Nat} {cA cZ : ClassId} (hi : Inj 12 ad) (a1 : Int32)  (s0 : St) (Q : Int32 → St → Prop) (hv : V_X11_shuts a1 s0 Q) (sz : Nat) : Met l yX11_shuts wsX11_shuts ({ frames := 2, cells := 0, slots := 0, locals := 46 } : Room) (va_Pc [.ref (ad 0), .int a1] (PW dC dI ad cA cZ 12 (celM ad cA cZ) sz s0)) (va_Qi Q (fun u t => va_P (dC, dI) vwCl (wd 12 ad (celM ad cA cZ) u) t.heap) (AA 12 ad sz)) 0 0 (AA 12 ad sz) := by
  refine Met.ofW (cc := cX11_shuts) (maxL := 2) (ret := (some .int)) (by decide) rfl ?_
  intro p e s m args below meth c s₁ B hml hv0
  obtain ⟨rfl, hsz, hP, hK⟩ := hv0
  subst hsz
  have C0 : Cx cX11_shuts RX11 wsX11_shuts 2 (some .int) p s m ([.ref (ad 0), .int a1] : List Value).toArray meth c := ⟨B.exec, B.bytes, hml, findClass_of_methodNamed B.named, atoms_spec (ws := wsX11_shuts) B.pre, B.returns, B.notSynchronized⟩
  have hl := lv_entry ([.ref (ad 0), .int a1]) (n := 2) (Nat.le_of_ble_eq_true rfl)
  rw [lg_entry_eq]
  generalize (lg_sl ([.ref (ad 0), .int a1]) ++ List.replicate (2 - (lg_sl ([.ref (ad 0), .int a1])).length) Slot.unset).toArray = ls at hl ⊢
  have hl : lv_has ls 2 [(0, .ref (ad 0)), (1, .int a1)] := hl
  exact w_X11_shuts_e hi a1  C0 hK Q (R_X11_shuts a1 Q) (y_X11_shuts hi a1  C0 hK Q)  s0 hv hP va_S.rf hl
def lay_X11_undo (ad : Nat → Nat)  : Nat → List Int32 → List Int64 → Option (List (Nat × Value) × List Value) := fun P xs ys => match P, xs, ys with
  | 26, [x1], [] => some ([(0, .ref (ad 0)), (1, .int x1)], [])
  | _, _, _ => none
set_option maxHeartbeats 4000000 in
set_option maxRecDepth 100000 in
theorem w_X11_undo_e {p : Program} {l : Launch} {e : Env} {s : State} {m : MethodId} {args : Array Value} {below : List Frame} {meth : Method} {c : Code} {dC : Nat → ClassId} {dI : Nat → Nat → Nat} {ad : Nat → Nat} {cA cZ : ClassId} (hi : Inj 12 ad)   (C0 : Cx cX11_undo RX11 wsX11_undo 2 (some .int) p s m args meth c) (hK : KK dC dI cA cZ s) (Q : Int32 → St → Prop) (Y : Nat → List Int32 → List Int64 → St → Prop) (hY : ∀ P xs ys σ, Y P xs ys σ → XX p l e ({ frames := 1, cells := 0, slots := 0, locals := 20 } : Room) s m args below meth c (dC, dI) 12 ad (celM ad cA cZ) 2 (ZI below args s (dC, dI) 12 ad (celM ad cA cZ) Q) (lay_X11_undo ad ) P xs ys σ)  (s0 : St) (hv : B_X11_undo_e  Q Y  s0) {H : Heap} {locs : List Loc} {ls : Array Slot} (hP : va_P (dC, dI) vwCl (wd 12 ad (celM ad cA cZ) s0) H) (hS : va_S (AA 12 ad s.heap.size) s.heap H locs) (hl : lv_has ls 2 [(0, .ref (ad 0))]) : W p l e ({ frames := 1, cells := 0, slots := 0, locals := 20 } : Room) s m args below meth c H locs 0 0 (ZI below args s (dC, dI) 12 ad (celM ad cA cZ) Q) (F0 m 0 ls []) := by
  obtain ⟨hx, hb, hml, hown, hts, hr, hlocks⟩ := C0
  have hD := wd_D (s := s) (cel := celM ad cA cZ) (σ := s0) hi
  unfold B_X11_undo_e at hv
  refine lv_aload_n hx hb dX11_undo_0 rfl (lv_at hl 0 rfl) ?_
  refine r_get hx hb hts (iwX11_undo_X11) hown hK.1 hP 0 (by decide) (ceMo_0 (s0 0)) rfl 0 (by decide) (hts _ kX11_undo_1) (v := .ref (ad 1)) rfl dX11_undo_1 ?_
  refine lv_iconst (v := 5) hx hb dX11_undo_4 (by decide) ?_
  refine r_iald hx hb hK.1 hP 1 (by decide) (ceMo_1 (s0 1)) (vp_in_of_dec (by decide)) dX11_undo_5 ?_
  refine lv_if_ne (tgt := 14) hx hb dX11_undo_6 (by decide) (fun c6 => ?_) (fun c6 => ?_)
  · have hv := hv.1 c6
    refine lv_aload_n hx hb dX11_undo_14 rfl (lv_at hl 0 rfl) ?_
    refine r_get hx hb hts (iwX11_undo_X11) hown hK.1 hP 0 (by decide) (ceMo_0 (s0 0)) rfl 0 (by decide) (hts _ kX11_undo_1) (v := .ref (ad 1)) rfl dX11_undo_15 ?_
    refine lv_iconst (v := 5) hx hb dX11_undo_18 (by decide) ?_
    refine lv_dup2_11 hx hb dX11_undo_19 rfl rfl ?_
    refine r_iald hx hb hK.1 hP 1 (by decide) (ceMo_1 (s0 1)) (vp_in_of_dec (by decide)) dX11_undo_20 ?_
    refine lv_iconst (v := 1) hx hb dX11_undo_21 (by decide) ?_
    refine lv_isub hx hb dX11_undo_22 ?_
    refine r_iast hx hb hK.1 hP hD hS 1 (by decide) (ceMo_1 (s0 1)) (ceMo_1 _) (vp_in_of_dec (by decide)) dX11_undo_23 (fun H locs s1 es1 hP hD hS => ?_)
    have hv := hv s1 es1
    refine lv_iconst (v := 0) hx hb dX11_undo_24 (by decide) ?_
    refine lv_istore_n (lv' := [(1, .int 0), (0, .ref (ad 0))]) hx hb dX11_undo_25 rfl hl (by decide) rfl (fun ls hl => ?_)
    exact hY 26 [0] [] s1 hv _ _ rfl H locs ls hP hS (lv_sub hl [1, 0] rfl)
  · have hv := hv.2 c6
    refine lv_aload_n hx hb dX11_undo_9 rfl (lv_at hl 0 rfl) ?_
    refine r_ci (va_runV (As := []) (rest := []) ⟨hx, hb, hml, hown, hts⟩ (c_X11_no hi  s0 _ hv H.size) (cwV 0 hts gX11_undo_X11_no rfl rfl rfl (by decide +kernel) ⟨Nat.le_of_ble_eq_true rfl, Nat.le_of_ble_eq_true rfl⟩) ⟨pre_blind, r_recv hK.1 hP 0 (by decide) (ceMo_0 (s0 0)) rfl, pre_of hP hK⟩ rfl rfl hl.1 rfl (lv_room (Nat.le_of_ble_eq_true rfl)) dX11_undo_10 ⟨Nat.zero_le _, Nat.zero_le _⟩) hS (fun r2 s2 H locs hv hP hS => ?_)
    have hD := wd_D (s := s) (cel := celM ad cA cZ) (σ := s2) hi
    exact r_iret hx hb hr hlocks hv hP hS dX11_undo_13
set_option maxHeartbeats 4000000 in
set_option maxRecDepth 100000 in
theorem w_X11_undo_26 {p : Program} {l : Launch} {e : Env} {s : State} {m : MethodId} {args : Array Value} {below : List Frame} {meth : Method} {c : Code} {dC : Nat → ClassId} {dI : Nat → Nat → Nat} {ad : Nat → Nat} {cA cZ : ClassId} (hi : Inj 12 ad)   (C0 : Cx cX11_undo RX11 wsX11_undo 2 (some .int) p s m args meth c) (hK : KK dC dI cA cZ s) (Q : Int32 → St → Prop) (Y : Nat → List Int32 → List Int64 → St → Prop) (hY : ∀ P xs ys σ, Y P xs ys σ → XX p l e ({ frames := 1, cells := 0, slots := 0, locals := 20 } : Room) s m args below meth c (dC, dI) 12 ad (celM ad cA cZ) 2 (ZI below args s (dC, dI) 12 ad (celM ad cA cZ) Q) (lay_X11_undo ad ) P xs ys σ) (x1 : Int32) (s0 : St) (hv : B_X11_undo_26  Q Y x1 s0) {H : Heap} {locs : List Loc} {ls : Array Slot} (hP : va_P (dC, dI) vwCl (wd 12 ad (celM ad cA cZ) s0) H) (hS : va_S (AA 12 ad s.heap.size) s.heap H locs) (hl : lv_has ls 2 [(0, .ref (ad 0)), (1, .int x1)]) : W p l e ({ frames := 1, cells := 0, slots := 0, locals := 20 } : Room) s m args below meth c H locs 0 0 (ZI below args s (dC, dI) 12 ad (celM ad cA cZ) Q) (F0 m 26 ls []) := by
  obtain ⟨hx, hb, hml, hown, hts, hr, hlocks⟩ := C0
  have hD := wd_D (s := s) (cel := celM ad cA cZ) (σ := s0) hi
  unfold B_X11_undo_26 at hv
  refine lv_iload_n hx hb dX11_undo_26 rfl (lv_at hl 1 rfl) ?_
  refine lv_bipush (v := 10) hx hb dX11_undo_27 (by decide) ?_
  refine lv_icmp_ge (tgt := 66) hx hb dX11_undo_29 (by decide) (fun c29 => ?_) (fun c29 => ?_)
  · have hv := hv.1 c29
    refine lv_aload_n hx hb dX11_undo_66 rfl (lv_at hl 0 rfl) ?_
    refine r_get hx hb hts (iwX11_undo_X11) hown hK.1 hP 0 (by decide) (ceMo_0 (s0 0)) rfl 0 (by decide) (hts _ kX11_undo_1) (v := .ref (ad 1)) rfl dX11_undo_67 ?_
    refine lv_bipush (v := 15) hx hb dX11_undo_70 (by decide) ?_
    refine r_iald hx hb hK.1 hP 1 (by decide) (ceMo_1 (s0 1)) (vp_in_of_dec (by decide)) dX11_undo_72 ?_
    exact r_iret hx hb hr hlocks hv hP hS dX11_undo_73
  · have hv := hv.2 c29
    refine lv_aload_n hx hb dX11_undo_32 rfl (lv_at hl 0 rfl) ?_
    refine r_get hx hb hts (iwX11_undo_X11) hown hK.1 hP 0 (by decide) (ceMo_0 (s0 0)) rfl 0 (by decide) (hts _ kX11_undo_1) (v := .ref (ad 1)) rfl dX11_undo_33 ?_
    refine lv_bipush (v := 6) hx hb dX11_undo_36 (by decide) ?_
    refine lv_iload_n hx hb dX11_undo_38 rfl (lv_at hl 1 rfl) ?_
    refine lv_iadd hx hb dX11_undo_39 ?_
    refine lv_aload_n hx hb dX11_undo_40 rfl (lv_at hl 0 rfl) ?_
    refine r_get hx hb hts (iwX11_undo_X11) hown hK.1 hP 0 (by decide) (ceMo_0 (s0 0)) rfl 0 (by decide) (hts _ kX11_undo_1) (v := .ref (ad 1)) rfl dX11_undo_41 ?_
    refine lv_bipush (v := 101) hx hb dX11_undo_44 (by decide) ?_
    refine lv_bipush (v := 10) hx hb dX11_undo_46 (by decide) ?_
    refine lv_aload_n hx hb dX11_undo_48 rfl (lv_at hl 0 rfl) ?_
    refine r_get hx hb hts (iwX11_undo_X11) hown hK.1 hP 0 (by decide) (ceMo_0 (s0 0)) rfl 0 (by decide) (hts _ kX11_undo_1) (v := .ref (ad 1)) rfl dX11_undo_49 ?_
    refine lv_iconst (v := 5) hx hb dX11_undo_52 (by decide) ?_
    refine r_iald hx hb hK.1 hP 1 (by decide) (ceMo_1 (s0 1)) (vp_in_of_dec (by decide)) dX11_undo_53 ?_
    refine lv_imul hx hb dX11_undo_54 ?_
    refine lv_iadd hx hb dX11_undo_55 ?_
    refine lv_iload_n hx hb dX11_undo_56 rfl (lv_at hl 1 rfl) ?_
    refine lv_iadd hx hb dX11_undo_57 ?_
    obtain ⟨hin, hv⟩ := hv
    refine r_iald hx hb hK.1 hP 1 (by decide) (ceMo_1 (s0 1)) hin dX11_undo_58 ?_
    obtain ⟨hin, hv⟩ := hv
    refine r_iast hx hb hK.1 hP hD hS 1 (by decide) (ceMo_1 (s0 1)) (ceMo_1 _) hin dX11_undo_59 (fun H locs s1 es1 hP hD hS => ?_)
    have hv := hv s1 es1
    refine lv_iinc (v := x1 + 1) (lv' := [(1, .int (x1 + 1)), (0, .ref (ad 0))]) hx hb dX11_undo_60 hl (k := 1) rfl rfl (by decide) rfl (fun ls hl => ?_)
    refine lv_goto (tgt := 26) hx hb dX11_undo_63 (by decide) ?_
    exact hY 26 [x1 + 1] [] s1 hv _ _ rfl H locs ls hP hS (lv_sub hl [1, 0] rfl)
set_option maxHeartbeats 4000000 in
theorem y_X11_undo {p : Program} {l : Launch} {e : Env} {s : State} {m : MethodId} {args : Array Value} {below : List Frame} {meth : Method} {c : Code} {dC : Nat → ClassId} {dI : Nat → Nat → Nat} {ad : Nat → Nat} {cA cZ : ClassId} (hi : Inj 12 ad)   (C0 : Cx cX11_undo RX11 wsX11_undo 2 (some .int) p s m args meth c) (hK : KK dC dI cA cZ s) (Q : Int32 → St → Prop) : ∀ P xs ys σ, R_X11_undo  Q P xs ys σ → XX p l e ({ frames := 1, cells := 0, slots := 0, locals := 20 } : Room) s m args below meth c (dC, dI) 12 ad (celM ad cA cZ) 2 (ZI below args s (dC, dI) 12 ad (celM ad cA cZ) Q) (lay_X11_undo ad ) P xs ys σ := by
  refine Fx.elim _ (fun P xs ys σ Y hY hB => ?_)
  rcases hB with ⟨rfl, x1, rfl, rfl, hB⟩
  · intro lv st he H locs ls hP hS hl
    cases he
    exact w_X11_undo_26 hi   C0 hK Q Y hY x1 σ hB hP hS hl
set_option maxHeartbeats 4000000 in
theorem c_X11_undo {l : Launch} {dC : Nat → ClassId} {dI : Nat → Nat → Nat} {ad : Nat → Nat} {cA cZ : ClassId} (hi : Inj 12 ad)   (s0 : St) (Q : Int32 → St → Prop) (hv : V_X11_undo  s0 Q) (sz : Nat) : Met l yX11_undo wsX11_undo ({ frames := 1, cells := 0, slots := 0, locals := 20 } : Room) (va_Pc [.ref (ad 0)] (PW dC dI ad cA cZ 12 (celM ad cA cZ) sz s0)) (va_Qi Q (fun u t => va_P (dC, dI) vwCl (wd 12 ad (celM ad cA cZ) u) t.heap) (AA 12 ad sz)) 0 0 (AA 12 ad sz) := by
  refine Met.ofW (cc := cX11_undo) (maxL := 2) (ret := (some .int)) (by decide) rfl ?_
  intro p e s m args below meth c s₁ B hml hv0
  obtain ⟨rfl, hsz, hP, hK⟩ := hv0
  subst hsz
  have C0 : Cx cX11_undo RX11 wsX11_undo 2 (some .int) p s m ([.ref (ad 0)] : List Value).toArray meth c := ⟨B.exec, B.bytes, hml, findClass_of_methodNamed B.named, atoms_spec (ws := wsX11_undo) B.pre, B.returns, B.notSynchronized⟩
  have hl := lv_entry ([.ref (ad 0)]) (n := 2) (Nat.le_of_ble_eq_true rfl)
  rw [lg_entry_eq]
  generalize (lg_sl ([.ref (ad 0)]) ++ List.replicate (2 - (lg_sl ([.ref (ad 0)])).length) Slot.unset).toArray = ls at hl ⊢
  have hl : lv_has ls 2 [(0, .ref (ad 0))] := hl
  exact w_X11_undo_e hi   C0 hK Q (R_X11_undo  Q) (y_X11_undo hi   C0 hK Q)  s0 hv hP va_S.rf hl
def lay_X11_of (ad : Nat → Nat) (a1 : Int32) (a2 : Int32) : Nat → List Int32 → List Int64 → Option (List (Nat × Value) × List Value) := fun P xs ys => match P, xs, ys with
  | 20, [], [] => some ([(0, .ref (ad 0))], [])
  | _, _, _ => none
set_option maxHeartbeats 4000000 in
set_option maxRecDepth 100000 in
theorem w_X11_of_e {p : Program} {l : Launch} {e : Env} {s : State} {m : MethodId} {args : Array Value} {below : List Frame} {meth : Method} {c : Code} {dC : Nat → ClassId} {dI : Nat → Nat → Nat} {ad : Nat → Nat} {cA cZ : ClassId} (hi : Inj 12 ad) (a1 : Int32) (a2 : Int32)  (C0 : Cx cX11_of RX11 wsX11_of 3 (some .int) p s m args meth c) (hK : KK dC dI cA cZ s) (Q : Int32 → St → Prop) (Y : Nat → List Int32 → List Int64 → St → Prop) (hY : ∀ P xs ys σ, Y P xs ys σ → XX p l e ({ frames := 2, cells := 0, slots := 0, locals := 46 } : Room) s m args below meth c (dC, dI) 12 ad (celM ad cA cZ) 3 (ZI below args s (dC, dI) 12 ad (celM ad cA cZ) Q) (lay_X11_of ad a1 a2) P xs ys σ)  (s0 : St) (hv : B_X11_of_e a1 a2 Q Y  s0) {H : Heap} {locs : List Loc} {ls : Array Slot} (hP : va_P (dC, dI) vwCl (wd 12 ad (celM ad cA cZ) s0) H) (hS : va_S (AA 12 ad s.heap.size) s.heap H locs) (hl : lv_has ls 3 [(0, .ref (ad 0)), (1, .int a1), (2, .int a2)]) : W p l e ({ frames := 2, cells := 0, slots := 0, locals := 46 } : Room) s m args below meth c H locs 0 0 (ZI below args s (dC, dI) 12 ad (celM ad cA cZ) Q) (F0 m 0 ls []) := by
  obtain ⟨hx, hb, hml, hown, hts, hr, hlocks⟩ := C0
  have hD := wd_D (s := s) (cel := celM ad cA cZ) (σ := s0) hi
  unfold B_X11_of_e at hv
  refine lv_aload_n hx hb dX11_of_0 rfl (lv_at hl 0 rfl) ?_
  refine lv_iload_n hx hb dX11_of_1 rfl (lv_at hl 1 rfl) ?_
  refine r_ci (va_runV (As := [.int a1]) (rest := []) ⟨hx, hb, hml, hown, hts⟩ (c_X11_isGlove hi a1 s0 _ hv H.size) (cwV 1 hts gX11_of_X11_isGlove rfl rfl rfl (by decide +kernel) ⟨Nat.le_of_ble_eq_true rfl, Nat.le_of_ble_eq_true rfl⟩) ⟨pre_blind, r_recv hK.1 hP 0 (by decide) (ceMo_0 (s0 0)) rfl, pre_of hP hK⟩ rfl rfl hl.1 rfl (lv_room (Nat.le_of_ble_eq_true rfl)) dX11_of_2 ⟨Nat.zero_le _, Nat.zero_le _⟩) hS (fun r1 s1 H locs hv hP hS => ?_)
  obtain ⟨hz_r1, hv⟩ := hv
  have hD := wd_D (s := s) (cel := celM ad cA cZ) (σ := s1) hi
  refine lv_if_eq (tgt := 20) hx hb dX11_of_5 (by decide) (fun c5 => ?_) (fun c5 => ?_)
  · have hv := hv.1 c5
    exact hY 20 [] [] s1 hv _ _ rfl H locs ls hP hS (lv_sub hl [0] rfl)
  · have hv := hv.2 c5
    refine lv_iload_n hx hb dX11_of_8 rfl (lv_at hl 2 rfl) ?_
    refine lv_i2l (v := a2.toInt64) hx hb dX11_of_9 rfl ?_
    refine lv_lconst (v := 0) hx hb dX11_of_10 (by decide) ?_
    refine lv_ldc2 (v := 4) hx hb hown (hts _ kX11_of_1) dX11_of_11 ?_
    refine r_ci (va_runS (As := [.long a2.toInt64, .long 0, .long 4]) (rest := []) ⟨hx, hb, hml, hown, hts⟩ (c_X11_in hi a2.toInt64 0 4 s1 _ hv H.size) (va_cwS 3 hts gX11_of_X11_in rfl rfl rfl (by decide +kernel) ⟨Nat.le_of_ble_eq_true rfl, Nat.le_of_ble_eq_true rfl⟩) ⟨pre_blind, pre_of hP hK⟩ rfl rfl hl.1 rfl (lv_room (Nat.le_of_ble_eq_true rfl)) dX11_of_14 ⟨Nat.zero_le _, Nat.zero_le _⟩) hS (fun r2 s2 H locs hv hP hS => ?_)
    obtain ⟨hz_r2, hv⟩ := hv
    have hD := wd_D (s := s) (cel := celM ad cA cZ) (σ := s2) hi
    refine lv_if_ne (tgt := 27) hx hb dX11_of_17 (by decide) (fun c17 => ?_) (fun c17 => ?_)
    · have hv := hv.1 c17
      refine lv_iload_n hx hb dX11_of_27 rfl (lv_at hl 2 rfl) ?_
      by_cases c28_0 : a2 = 0
      · have hv := hv.1 c28_0
        refine lv_tableIn (off := 32) (tgt := 60) hx hb dX11_of_28 (by rw [c28_0]; decide) (by rw [c28_0]; decide) (by rw [c28_0]; rfl) (by decide) ?_
        refine lv_aload_n hx hb dX11_of_60 rfl (lv_at hl 0 rfl) ?_
        refine r_get hx hb hts (iwX11_of_X11) hown hK.1 hP 0 (by decide) (ceMo_0 (s2 0)) rfl 0 (by decide) (hts _ kX11_of_2) (v := .ref (ad 1)) rfl dX11_of_61 ?_
        refine lv_bipush (v := 22) hx hb dX11_of_64 (by decide) ?_
        refine lv_iload_n hx hb dX11_of_66 rfl (lv_at hl 1 rfl) ?_
        refine lv_iadd hx hb dX11_of_67 ?_
        obtain ⟨hin, hv⟩ := hv
        refine r_iald hx hb hK.1 hP 1 (by decide) (ceMo_1 (s2 1)) hin dX11_of_68 ?_
        exact r_iret hx hb hr hlocks hv hP hS dX11_of_69
      have hv := hv.2 c28_0
      by_cases c28_1 : a2 = 1
      · have hv := hv.1 c28_1
        refine lv_tableIn (off := 42) (tgt := 70) hx hb dX11_of_28 (by rw [c28_1]; decide) (by rw [c28_1]; decide) (by rw [c28_1]; rfl) (by decide) ?_
        refine lv_aload_n hx hb dX11_of_70 rfl (lv_at hl 0 rfl) ?_
        refine r_get hx hb hts (iwX11_of_X11) hown hK.1 hP 0 (by decide) (ceMo_0 (s2 0)) rfl 0 (by decide) (hts _ kX11_of_2) (v := .ref (ad 1)) rfl dX11_of_71 ?_
        refine lv_bipush (v := 30) hx hb dX11_of_74 (by decide) ?_
        refine lv_iload_n hx hb dX11_of_76 rfl (lv_at hl 1 rfl) ?_
        refine lv_iadd hx hb dX11_of_77 ?_
        obtain ⟨hin, hv⟩ := hv
        refine r_iald hx hb hK.1 hP 1 (by decide) (ceMo_1 (s2 1)) hin dX11_of_78 ?_
        exact r_iret hx hb hr hlocks hv hP hS dX11_of_79
      have hv := hv.2 c28_1
      by_cases c28_2 : a2 = 2
      · have hv := hv.1 c28_2
        refine lv_tableIn (off := 52) (tgt := 80) hx hb dX11_of_28 (by rw [c28_2]; decide) (by rw [c28_2]; decide) (by rw [c28_2]; rfl) (by decide) ?_
        refine lv_aload_n hx hb dX11_of_80 rfl (lv_at hl 0 rfl) ?_
        refine r_get hx hb hts (iwX11_of_X11) hown hK.1 hP 0 (by decide) (ceMo_0 (s2 0)) rfl 0 (by decide) (hts _ kX11_of_2) (v := .ref (ad 1)) rfl dX11_of_81 ?_
        refine lv_bipush (v := 6) hx hb dX11_of_84 (by decide) ?_
        refine lv_iload_n hx hb dX11_of_86 rfl (lv_at hl 1 rfl) ?_
        refine lv_iadd hx hb dX11_of_87 ?_
        obtain ⟨hin, hv⟩ := hv
        refine r_iald hx hb hK.1 hP 1 (by decide) (ceMo_1 (s2 1)) hin dX11_of_88 ?_
        exact r_iret hx hb hr hlocks hv hP hS dX11_of_89
      have hv := hv.2 c28_2
      by_cases c28_3 : a2 = 3
      · have hv := hv.1 c28_3
        refine lv_tableIn (off := 62) (tgt := 90) hx hb dX11_of_28 (by rw [c28_3]; decide) (by rw [c28_3]; decide) (by rw [c28_3]; rfl) (by decide) ?_
        refine lv_aload_n hx hb dX11_of_90 rfl (lv_at hl 0 rfl) ?_
        refine r_get hx hb hts (iwX11_of_X11) hown hK.1 hP 0 (by decide) (ceMo_0 (s2 0)) rfl 0 (by decide) (hts _ kX11_of_2) (v := .ref (ad 1)) rfl dX11_of_91 ?_
        refine lv_iload_n hx hb dX11_of_94 rfl (lv_at hl 1 rfl) ?_
        refine r_ci (va_runS (As := [.ref (ad 1), .int a1]) (rest := []) ⟨hx, hb, hml, hown, hts⟩ (c_X11_waits hi 1 181 a1 arM_1 s2 _ hv H.size) (va_cwS 2 hts gX11_of_X11_waits rfl rfl rfl (by decide +kernel) ⟨Nat.le_of_ble_eq_true rfl, Nat.le_of_ble_eq_true rfl⟩) ⟨pre_blind, pre_of hP hK⟩ rfl rfl hl.1 rfl (lv_room (Nat.le_of_ble_eq_true rfl)) dX11_of_95 ⟨Nat.zero_le _, Nat.zero_le _⟩) hS (fun r3 s3 H locs hv hP hS => ?_)
        obtain ⟨hz_r3, hv⟩ := hv
        have hD := wd_D (s := s) (cel := celM ad cA cZ) (σ := s3) hi
        refine lv_if_eq (tgt := 105) hx hb dX11_of_98 (by decide) (fun c98 => ?_) (fun c98 => ?_)
        · have hv := hv.1 c98
          refine lv_iconst (v := 0) hx hb dX11_of_105 (by decide) ?_
          exact r_iret hx hb hr hlocks hv hP hS dX11_of_106
        · have hv := hv.2 c98
          refine lv_iconst (v := 1) hx hb dX11_of_101 (by decide) ?_
          refine lv_goto (tgt := 106) hx hb dX11_of_102 (by decide) ?_
          exact r_iret hx hb hr hlocks hv hP hS dX11_of_106
      have hv := hv.2 c28_3
      refine lv_tableOut (tgt := 107) hx hb dX11_of_28 (by have w0 := lv_neT (a := 0) c28_0 (by decide); have w1 := lv_neT (a := 1) c28_1 (by decide); have w2 := lv_neT (a := 2) c28_2 (by decide); have w3 := lv_neT (a := 3) c28_3 (by decide); omega) (by decide) ?_
      refine lv_aload_n hx hb dX11_of_107 rfl (lv_at hl 0 rfl) ?_
      refine r_get hx hb hts (iwX11_of_X11) hown hK.1 hP 0 (by decide) (ceMo_0 (s2 0)) rfl 0 (by decide) (hts _ kX11_of_2) (v := .ref (ad 1)) rfl dX11_of_108 ?_
      refine lv_iload_n hx hb dX11_of_111 rfl (lv_at hl 1 rfl) ?_
      refine r_ci (va_runS (As := [.ref (ad 1), .int a1]) (rest := []) ⟨hx, hb, hml, hown, hts⟩ (c_X11_goesNow hi 1 181 a1 arM_1 s2 _ hv H.size) (va_cwS 2 hts gX11_of_X11_goesNow rfl rfl rfl (by decide +kernel) ⟨Nat.le_of_ble_eq_true rfl, Nat.le_of_ble_eq_true rfl⟩) ⟨pre_blind, pre_of hP hK⟩ rfl rfl hl.1 rfl (lv_room (Nat.le_of_ble_eq_true rfl)) dX11_of_112 ⟨Nat.zero_le _, Nat.zero_le _⟩) hS (fun r4 s4 H locs hv hP hS => ?_)
      have hD := wd_D (s := s) (cel := celM ad cA cZ) (σ := s4) hi
      exact r_iret hx hb hr hlocks hv hP hS dX11_of_115
    · have hv := hv.2 c17
      exact hY 20 [] [] s2 hv _ _ rfl H locs ls hP hS (lv_sub hl [0] rfl)
set_option maxHeartbeats 4000000 in
set_option maxRecDepth 100000 in
theorem w_X11_of_20 {p : Program} {l : Launch} {e : Env} {s : State} {m : MethodId} {args : Array Value} {below : List Frame} {meth : Method} {c : Code} {dC : Nat → ClassId} {dI : Nat → Nat → Nat} {ad : Nat → Nat} {cA cZ : ClassId} (hi : Inj 12 ad) (a1 : Int32) (a2 : Int32)  (C0 : Cx cX11_of RX11 wsX11_of 3 (some .int) p s m args meth c) (hK : KK dC dI cA cZ s) (Q : Int32 → St → Prop) (Y : Nat → List Int32 → List Int64 → St → Prop) (hY : ∀ P xs ys σ, Y P xs ys σ → XX p l e ({ frames := 2, cells := 0, slots := 0, locals := 46 } : Room) s m args below meth c (dC, dI) 12 ad (celM ad cA cZ) 3 (ZI below args s (dC, dI) 12 ad (celM ad cA cZ) Q) (lay_X11_of ad a1 a2) P xs ys σ)  (s0 : St) (hv : B_X11_of_20 a1 a2 Q Y  s0) {H : Heap} {locs : List Loc} {ls : Array Slot} (hP : va_P (dC, dI) vwCl (wd 12 ad (celM ad cA cZ) s0) H) (hS : va_S (AA 12 ad s.heap.size) s.heap H locs) (hl : lv_has ls 3 [(0, .ref (ad 0))]) : W p l e ({ frames := 2, cells := 0, slots := 0, locals := 46 } : Room) s m args below meth c H locs 0 0 (ZI below args s (dC, dI) 12 ad (celM ad cA cZ) Q) (F0 m 20 ls []) := by
  obtain ⟨hx, hb, hml, hown, hts, hr, hlocks⟩ := C0
  have hD := wd_D (s := s) (cel := celM ad cA cZ) (σ := s0) hi
  unfold B_X11_of_20 at hv
  refine lv_aload_n hx hb dX11_of_20 rfl (lv_at hl 0 rfl) ?_
  refine lv_bipush (v := (-2)) hx hb dX11_of_21 (by decide) ?_
  refine r_ci (va_runV (As := [.int ((-2))]) (rest := []) ⟨hx, hb, hml, hown, hts⟩ (c_X11_bad hi ((-2)) s0 _ hv H.size) (cwV 1 hts gX11_of_X11_bad rfl rfl rfl (by decide +kernel) ⟨Nat.le_of_ble_eq_true rfl, Nat.le_of_ble_eq_true rfl⟩) ⟨pre_blind, r_recv hK.1 hP 0 (by decide) (ceMo_0 (s0 0)) rfl, pre_of hP hK⟩ rfl rfl hl.1 rfl (lv_room (Nat.le_of_ble_eq_true rfl)) dX11_of_23 ⟨Nat.zero_le _, Nat.zero_le _⟩) hS (fun r1 s1 H locs hv hP hS => ?_)
  have hD := wd_D (s := s) (cel := celM ad cA cZ) (σ := s1) hi
  exact r_iret hx hb hr hlocks hv hP hS dX11_of_26
set_option maxHeartbeats 4000000 in
theorem y_X11_of {p : Program} {l : Launch} {e : Env} {s : State} {m : MethodId} {args : Array Value} {below : List Frame} {meth : Method} {c : Code} {dC : Nat → ClassId} {dI : Nat → Nat → Nat} {ad : Nat → Nat} {cA cZ : ClassId} (hi : Inj 12 ad) (a1 : Int32) (a2 : Int32)  (C0 : Cx cX11_of RX11 wsX11_of 3 (some .int) p s m args meth c) (hK : KK dC dI cA cZ s) (Q : Int32 → St → Prop) : ∀ P xs ys σ, R_X11_of a1 a2 Q P xs ys σ → XX p l e ({ frames := 2, cells := 0, slots := 0, locals := 46 } : Room) s m args below meth c (dC, dI) 12 ad (celM ad cA cZ) 3 (ZI below args s (dC, dI) 12 ad (celM ad cA cZ) Q) (lay_X11_of ad a1 a2) P xs ys σ := by
  refine Fx.elim _ (fun P xs ys σ Y hY hB => ?_)
  rcases hB with ⟨rfl, rfl, rfl, hB⟩
  · intro lv st he H locs ls hP hS hl
    cases he
    exact w_X11_of_20 hi a1 a2  C0 hK Q Y hY  σ hB hP hS hl
set_option maxHeartbeats 4000000 in
theorem c_X11_of {l : Launch} {dC : Nat → ClassId} {dI : Nat → Nat → Nat} {ad : Nat → Nat} {cA cZ : ClassId} (hi : Inj 12 ad) (a1 : Int32) (a2 : Int32)  (s0 : St) (Q : Int32 → St → Prop) (hv : V_X11_of a1 a2 s0 Q) (sz : Nat) : Met l yX11_of wsX11_of ({ frames := 2, cells := 0, slots := 0, locals := 46 } : Room) (va_Pc [.ref (ad 0), .int a1, .int a2] (PW dC dI ad cA cZ 12 (celM ad cA cZ) sz s0)) (va_Qi Q (fun u t => va_P (dC, dI) vwCl (wd 12 ad (celM ad cA cZ) u) t.heap) (AA 12 ad sz)) 0 0 (AA 12 ad sz) := by
  refine Met.ofW (cc := cX11_of) (maxL := 3) (ret := (some .int)) (by decide) rfl ?_
  intro p e s m args below meth c s₁ B hml hv0
  obtain ⟨rfl, hsz, hP, hK⟩ := hv0
  subst hsz
  have C0 : Cx cX11_of RX11 wsX11_of 3 (some .int) p s m ([.ref (ad 0), .int a1, .int a2] : List Value).toArray meth c := ⟨B.exec, B.bytes, hml, findClass_of_methodNamed B.named, atoms_spec (ws := wsX11_of) B.pre, B.returns, B.notSynchronized⟩
  have hl := lv_entry ([.ref (ad 0), .int a1, .int a2]) (n := 3) (Nat.le_of_ble_eq_true rfl)
  rw [lg_entry_eq]
  generalize (lg_sl ([.ref (ad 0), .int a1, .int a2]) ++ List.replicate (3 - (lg_sl ([.ref (ad 0), .int a1, .int a2])).length) Slot.unset).toArray = ls at hl ⊢
  have hl : lv_has ls 3 [(0, .ref (ad 0)), (1, .int a1), (2, .int a2)] := hl
  exact w_X11_of_e hi a1 a2  C0 hK Q (R_X11_of a1 a2 Q) (y_X11_of hi a1 a2  C0 hK Q)  s0 hv hP va_S.rf hl
def lay_X11_about (ad : Nat → Nat) (a1 : Int32) (a2 : Int32) : Nat → List Int32 → List Int64 → Option (List (Nat × Value) × List Value) := fun P xs ys => match P, xs, ys with
  | 20, [], [] => some ([(0, .ref (ad 0))], [])
  | _, _, _ => none
set_option maxHeartbeats 4000000 in
set_option maxRecDepth 100000 in
theorem w_X11_about_e {p : Program} {l : Launch} {e : Env} {s : State} {m : MethodId} {args : Array Value} {below : List Frame} {meth : Method} {c : Code} {dC : Nat → ClassId} {dI : Nat → Nat → Nat} {ad : Nat → Nat} {cA cZ : ClassId} (hi : Inj 12 ad) (a1 : Int32) (a2 : Int32)  (C0 : Cx cX11_about RX11 wsX11_about 4 (some .int) p s m args meth c) (hK : KK dC dI cA cZ s) (Q : Int32 → St → Prop) (Y : Nat → List Int32 → List Int64 → St → Prop) (hY : ∀ P xs ys σ, Y P xs ys σ → XX p l e ({ frames := 2, cells := 0, slots := 0, locals := 46 } : Room) s m args below meth c (dC, dI) 12 ad (celM ad cA cZ) 4 (ZI below args s (dC, dI) 12 ad (celM ad cA cZ) Q) (lay_X11_about ad a1 a2) P xs ys σ)  (s0 : St) (hv : B_X11_about_e a1 a2 Q Y  s0) {H : Heap} {locs : List Loc} {ls : Array Slot} (hP : va_P (dC, dI) vwCl (wd 12 ad (celM ad cA cZ) s0) H) (hS : va_S (AA 12 ad s.heap.size) s.heap H locs) (hl : lv_has ls 4 [(0, .ref (ad 0)), (1, .int a1), (2, .int a2)]) : W p l e ({ frames := 2, cells := 0, slots := 0, locals := 46 } : Room) s m args below meth c H locs 0 0 (ZI below args s (dC, dI) 12 ad (celM ad cA cZ) Q) (F0 m 0 ls []) := by
  obtain ⟨hx, hb, hml, hown, hts, hr, hlocks⟩ := C0
  have hD := wd_D (s := s) (cel := celM ad cA cZ) (σ := s0) hi
  unfold B_X11_about_e at hv
  refine lv_aload_n hx hb dX11_about_0 rfl (lv_at hl 0 rfl) ?_
  refine lv_iload_n hx hb dX11_about_1 rfl (lv_at hl 1 rfl) ?_
  refine r_ci (va_runV (As := [.int a1]) (rest := []) ⟨hx, hb, hml, hown, hts⟩ (c_X11_isCrossing hi a1 s0 _ hv H.size) (cwV 1 hts gX11_about_X11_isCrossing rfl rfl rfl (by decide +kernel) ⟨Nat.le_of_ble_eq_true rfl, Nat.le_of_ble_eq_true rfl⟩) ⟨pre_blind, r_recv hK.1 hP 0 (by decide) (ceMo_0 (s0 0)) rfl, pre_of hP hK⟩ rfl rfl hl.1 rfl (lv_room (Nat.le_of_ble_eq_true rfl)) dX11_about_2 ⟨Nat.zero_le _, Nat.zero_le _⟩) hS (fun r1 s1 H locs hv hP hS => ?_)
  obtain ⟨hz_r1, hv⟩ := hv
  have hD := wd_D (s := s) (cel := celM ad cA cZ) (σ := s1) hi
  refine lv_if_eq (tgt := 20) hx hb dX11_about_5 (by decide) (fun c5 => ?_) (fun c5 => ?_)
  · have hv := hv.1 c5
    exact hY 20 [] [] s1 hv _ _ rfl H locs ls hP hS (lv_sub hl [0] rfl)
  · have hv := hv.2 c5
    refine lv_iload_n hx hb dX11_about_8 rfl (lv_at hl 2 rfl) ?_
    refine lv_i2l (v := a2.toInt64) hx hb dX11_about_9 rfl ?_
    refine lv_lconst (v := 0) hx hb dX11_about_10 (by decide) ?_
    refine lv_ldc2 (v := 4) hx hb hown (hts _ kX11_about_1) dX11_about_11 ?_
    refine r_ci (va_runS (As := [.long a2.toInt64, .long 0, .long 4]) (rest := []) ⟨hx, hb, hml, hown, hts⟩ (c_X11_in hi a2.toInt64 0 4 s1 _ hv H.size) (va_cwS 3 hts gX11_about_X11_in rfl rfl rfl (by decide +kernel) ⟨Nat.le_of_ble_eq_true rfl, Nat.le_of_ble_eq_true rfl⟩) ⟨pre_blind, pre_of hP hK⟩ rfl rfl hl.1 rfl (lv_room (Nat.le_of_ble_eq_true rfl)) dX11_about_14 ⟨Nat.zero_le _, Nat.zero_le _⟩) hS (fun r2 s2 H locs hv hP hS => ?_)
    obtain ⟨hz_r2, hv⟩ := hv
    have hD := wd_D (s := s) (cel := celM ad cA cZ) (σ := s2) hi
    refine lv_if_ne (tgt := 27) hx hb dX11_about_17 (by decide) (fun c17 => ?_) (fun c17 => ?_)
    · have hv := hv.1 c17
      refine lv_aload_n hx hb dX11_about_27 rfl (lv_at hl 0 rfl) ?_
      refine r_get hx hb hts (iwX11_about_X11) hown hK.1 hP 0 (by decide) (ceMo_0 (s2 0)) rfl 0 (by decide) (hts _ kX11_about_2) (v := .ref (ad 1)) rfl dX11_about_28 ?_
      refine lv_aload_n hx hb dX11_about_31 rfl (lv_at hl 0 rfl) ?_
      refine r_get hx hb hts (iwX11_about_X11) hown hK.1 hP 0 (by decide) (ceMo_0 (s2 0)) rfl 0 (by decide) (hts _ kX11_about_2) (v := .ref (ad 1)) rfl dX11_about_32 ?_
      refine lv_bipush (v := 40) hx hb dX11_about_35 (by decide) ?_
      refine lv_iload_n hx hb dX11_about_37 rfl (lv_at hl 1 rfl) ?_
      refine lv_iadd hx hb dX11_about_38 ?_
      obtain ⟨hin, hv⟩ := hv
      refine r_iald hx hb hK.1 hP 1 (by decide) (ceMo_1 (s2 1)) hin dX11_about_39 ?_
      refine r_ci (va_runS (As := [.ref (ad 1), .int (s2 1 (40 + a1).toNatClampNeg)]) (rest := []) ⟨hx, hb, hml, hown, hts⟩ (c_X11_manyAt hi 1 181 (s2 1 (40 + a1).toNatClampNeg) arM_1 s2 _ hv H.size) (va_cwS 2 hts gX11_about_X11_manyAt rfl rfl rfl (by decide +kernel) ⟨Nat.le_of_ble_eq_true rfl, Nat.le_of_ble_eq_true rfl⟩) ⟨pre_blind, pre_of hP hK⟩ rfl rfl hl.1 rfl (lv_room (Nat.le_of_ble_eq_true rfl)) dX11_about_40 ⟨Nat.zero_le _, Nat.zero_le _⟩) hS (fun r3 s3 H locs hv hP hS => ?_)
      have hD := wd_D (s := s) (cel := celM ad cA cZ) (σ := s3) hi
      refine lv_istore_n (lv' := [(3, .int r3), (0, .ref (ad 0)), (1, .int a1), (2, .int a2)]) hx hb dX11_about_43 rfl hl (by decide) rfl (fun ls hl => ?_)
      refine lv_iload_n hx hb dX11_about_44 rfl (lv_at hl 3 rfl) ?_
      by_cases c45_0 : a2 = 0
      · have hv := hv.1 c45_0
        refine lv_tableIn (off := 31) (tgt := 76) hx hb dX11_about_45 (by rw [c45_0]; decide) (by rw [c45_0]; decide) (by rw [c45_0]; rfl) (by decide) ?_
        refine lv_aload_n hx hb dX11_about_76 rfl (lv_at hl 1 rfl) ?_
        refine r_get hx hb hts (iwX11_about_X11) hown hK.1 hP 0 (by decide) (ceMo_0 (s3 0)) rfl 0 (by decide) (hts _ kX11_about_2) (v := .ref (ad 1)) rfl dX11_about_77 ?_
        refine lv_bipush (v := 37) hx hb dX11_about_80 (by decide) ?_
        refine lv_iload_n hx hb dX11_about_82 rfl (lv_at hl 2 rfl) ?_
        refine lv_iadd hx hb dX11_about_83 ?_
        obtain ⟨hin, hv⟩ := hv
        refine r_iald hx hb hK.1 hP 1 (by decide) (ceMo_1 (s3 1)) hin dX11_about_84 ?_
        exact r_iret hx hb hr hlocks hv hP hS dX11_about_85
      have hv := hv.2 c45_0
      by_cases c45_1 : a2 = 1
      · have hv := hv.1 c45_1
        refine lv_tableIn (off := 41) (tgt := 86) hx hb dX11_about_45 (by rw [c45_1]; decide) (by rw [c45_1]; decide) (by rw [c45_1]; rfl) (by decide) ?_
        refine lv_aload_n hx hb dX11_about_86 rfl (lv_at hl 1 rfl) ?_
        refine r_get hx hb hts (iwX11_about_X11) hown hK.1 hP 0 (by decide) (ceMo_0 (s3 0)) rfl 0 (by decide) (hts _ kX11_about_2) (v := .ref (ad 1)) rfl dX11_about_87 ?_
        refine lv_bipush (v := 40) hx hb dX11_about_90 (by decide) ?_
        refine lv_iload_n hx hb dX11_about_92 rfl (lv_at hl 2 rfl) ?_
        refine lv_iadd hx hb dX11_about_93 ?_
        obtain ⟨hin, hv⟩ := hv
        refine r_iald hx hb hK.1 hP 1 (by decide) (ceMo_1 (s3 1)) hin dX11_about_94 ?_
        exact r_iret hx hb hr hlocks hv hP hS dX11_about_95
      have hv := hv.2 c45_1
      by_cases c45_2 : a2 = 2
      · have hv := hv.1 c45_2
        refine lv_tableIn (off := 51) (tgt := 96) hx hb dX11_about_45 (by rw [c45_2]; decide) (by rw [c45_2]; decide) (by rw [c45_2]; rfl) (by decide) ?_
        refine lv_aload_n hx hb dX11_about_96 rfl (lv_at hl 1 rfl) ?_
        refine r_get hx hb hts (iwX11_about_X11) hown hK.1 hP 0 (by decide) (ceMo_0 (s3 0)) rfl 0 (by decide) (hts _ kX11_about_2) (v := .ref (ad 1)) rfl dX11_about_97 ?_
        refine lv_bipush (v := 14) hx hb dX11_about_100 (by decide) ?_
        refine r_iald hx hb hK.1 hP 1 (by decide) (ceMo_1 (s3 1)) (vp_in_of_dec (by decide)) dX11_about_102 ?_
        refine lv_iload_n hx hb dX11_about_103 rfl (lv_at hl 2 rfl) ?_
        refine lv_ishr hx hb dX11_about_104 ?_
        refine lv_iconst (v := 1) hx hb dX11_about_105 (by decide) ?_
        refine lv_iand hx hb dX11_about_106 ?_
        exact r_iret hx hb hr hlocks hv hP hS dX11_about_107
      have hv := hv.2 c45_2
      by_cases c45_3 : a2 = 3
      · have hv := hv.1 c45_3
        refine lv_tableIn (off := 63) (tgt := 108) hx hb dX11_about_45 (by rw [c45_3]; decide) (by rw [c45_3]; decide) (by rw [c45_3]; rfl) (by decide) ?_
        refine lv_iload_n hx hb dX11_about_108 rfl (lv_at hl 0 rfl) ?_
        exact r_iret hx hb hr hlocks hv hP hS dX11_about_109
      have hv := hv.2 c45_3
      refine lv_tableOut (tgt := 110) hx hb dX11_about_45 (by have w0 := lv_neT (a := 0) c45_0 (by decide); have w1 := lv_neT (a := 1) c45_1 (by decide); have w2 := lv_neT (a := 2) c45_2 (by decide); have w3 := lv_neT (a := 3) c45_3 (by decide); omega) (by decide) ?_
      refine lv_iload_n hx hb dX11_about_110 rfl (lv_at hl 0 rfl) ?_
      refine lv_if_ne (tgt := 118) hx hb dX11_about_111 (by decide) (fun c111 => ?_) (fun c111 => ?_)
      · have hv := hv.1 c111
        refine lv_aload_n hx hb dX11_about_118 rfl (lv_at hl 1 rfl) ?_
        refine r_get hx hb hts (iwX11_about_X11) hown hK.1 hP 0 (by decide) (ceMo_0 (s3 0)) rfl 0 (by decide) (hts _ kX11_about_2) (v := .ref (ad 1)) rfl dX11_about_119 ?_
        refine lv_bipush (v := 37) hx hb dX11_about_122 (by decide) ?_
        refine lv_iload_n hx hb dX11_about_124 rfl (lv_at hl 2 rfl) ?_
        refine lv_iadd hx hb dX11_about_125 ?_
        obtain ⟨hin, hv⟩ := hv
        refine r_iald hx hb hK.1 hP 1 (by decide) (ceMo_1 (s3 1)) hin dX11_about_126 ?_
        refine lv_aload_n hx hb dX11_about_127 rfl (lv_at hl 1 rfl) ?_
        refine r_get hx hb hts (iwX11_about_X11) hown hK.1 hP 0 (by decide) (ceMo_0 (s3 0)) rfl 0 (by decide) (hts _ kX11_about_2) (v := .ref (ad 1)) rfl dX11_about_128 ?_
        refine lv_bipush (v := 15) hx hb dX11_about_131 (by decide) ?_
        refine r_iald hx hb hK.1 hP 1 (by decide) (ceMo_1 (s3 1)) (vp_in_of_dec (by decide)) dX11_about_133 ?_
        refine lv_iload_n hx hb dX11_about_134 rfl (lv_at hl 0 rfl) ?_
        refine r_ci (va_runS (As := [.int (s3 1 (37 + a1).toNatClampNeg), .int (s3 1 15), .int r3]) (rest := []) ⟨hx, hb, hml, hown, hts⟩ (c_X11_letsAs hi (s3 1 (37 + a1).toNatClampNeg) (s3 1 15) r3 s3 _ hv H.size) (va_cwS 3 hts gX11_about_X11_letsAs rfl rfl rfl (by decide +kernel) ⟨Nat.le_of_ble_eq_true rfl, Nat.le_of_ble_eq_true rfl⟩) ⟨pre_blind, pre_of hP hK⟩ rfl rfl hl.1 rfl (lv_room (Nat.le_of_ble_eq_true rfl)) dX11_about_135 ⟨Nat.zero_le _, Nat.zero_le _⟩) hS (fun r4 s4 H locs hv hP hS => ?_)
        have hD := wd_D (s := s) (cel := celM ad cA cZ) (σ := s4) hi
        exact r_iret hx hb hr hlocks hv hP hS dX11_about_138
      · have hv := hv.2 c111
        refine lv_iconst (v := 0) hx hb dX11_about_114 (by decide) ?_
        refine lv_goto (tgt := 138) hx hb dX11_about_115 (by decide) ?_
        exact r_iret hx hb hr hlocks hv hP hS dX11_about_138
    · have hv := hv.2 c17
      exact hY 20 [] [] s2 hv _ _ rfl H locs ls hP hS (lv_sub hl [0] rfl)
set_option maxHeartbeats 4000000 in
set_option maxRecDepth 100000 in
theorem w_X11_about_20 {p : Program} {l : Launch} {e : Env} {s : State} {m : MethodId} {args : Array Value} {below : List Frame} {meth : Method} {c : Code} {dC : Nat → ClassId} {dI : Nat → Nat → Nat} {ad : Nat → Nat} {cA cZ : ClassId} (hi : Inj 12 ad) (a1 : Int32) (a2 : Int32)  (C0 : Cx cX11_about RX11 wsX11_about 4 (some .int) p s m args meth c) (hK : KK dC dI cA cZ s) (Q : Int32 → St → Prop) (Y : Nat → List Int32 → List Int64 → St → Prop) (hY : ∀ P xs ys σ, Y P xs ys σ → XX p l e ({ frames := 2, cells := 0, slots := 0, locals := 46 } : Room) s m args below meth c (dC, dI) 12 ad (celM ad cA cZ) 4 (ZI below args s (dC, dI) 12 ad (celM ad cA cZ) Q) (lay_X11_about ad a1 a2) P xs ys σ)  (s0 : St) (hv : B_X11_about_20 a1 a2 Q Y  s0) {H : Heap} {locs : List Loc} {ls : Array Slot} (hP : va_P (dC, dI) vwCl (wd 12 ad (celM ad cA cZ) s0) H) (hS : va_S (AA 12 ad s.heap.size) s.heap H locs) (hl : lv_has ls 4 [(0, .ref (ad 0))]) : W p l e ({ frames := 2, cells := 0, slots := 0, locals := 46 } : Room) s m args below meth c H locs 0 0 (ZI below args s (dC, dI) 12 ad (celM ad cA cZ) Q) (F0 m 20 ls []) := by
  obtain ⟨hx, hb, hml, hown, hts, hr, hlocks⟩ := C0
  have hD := wd_D (s := s) (cel := celM ad cA cZ) (σ := s0) hi
  unfold B_X11_about_20 at hv
  refine lv_aload_n hx hb dX11_about_20 rfl (lv_at hl 0 rfl) ?_
  refine lv_bipush (v := (-2)) hx hb dX11_about_21 (by decide) ?_
  refine r_ci (va_runV (As := [.int ((-2))]) (rest := []) ⟨hx, hb, hml, hown, hts⟩ (c_X11_bad hi ((-2)) s0 _ hv H.size) (cwV 1 hts gX11_about_X11_bad rfl rfl rfl (by decide +kernel) ⟨Nat.le_of_ble_eq_true rfl, Nat.le_of_ble_eq_true rfl⟩) ⟨pre_blind, r_recv hK.1 hP 0 (by decide) (ceMo_0 (s0 0)) rfl, pre_of hP hK⟩ rfl rfl hl.1 rfl (lv_room (Nat.le_of_ble_eq_true rfl)) dX11_about_23 ⟨Nat.zero_le _, Nat.zero_le _⟩) hS (fun r1 s1 H locs hv hP hS => ?_)
  have hD := wd_D (s := s) (cel := celM ad cA cZ) (σ := s1) hi
  exact r_iret hx hb hr hlocks hv hP hS dX11_about_26
set_option maxHeartbeats 4000000 in
theorem y_X11_about {p : Program} {l : Launch} {e : Env} {s : State} {m : MethodId} {args : Array Value} {below : List Frame} {meth : Method} {c : Code} {dC : Nat → ClassId} {dI : Nat → Nat → Nat} {ad : Nat → Nat} {cA cZ : ClassId} (hi : Inj 12 ad) (a1 : Int32) (a2 : Int32)  (C0 : Cx cX11_about RX11 wsX11_about 4 (some .int) p s m args meth c) (hK : KK dC dI cA cZ s) (Q : Int32 → St → Prop) : ∀ P xs ys σ, R_X11_about a1 a2 Q P xs ys σ → XX p l e ({ frames := 2, cells := 0, slots := 0, locals := 46 } : Room) s m args below meth c (dC, dI) 12 ad (celM ad cA cZ) 4 (ZI below args s (dC, dI) 12 ad (celM ad cA cZ) Q) (lay_X11_about ad a1 a2) P xs ys σ := by
  refine Fx.elim _ (fun P xs ys σ Y hY hB => ?_)
  rcases hB with ⟨rfl, rfl, rfl, hB⟩
  · intro lv st he H locs ls hP hS hl
    cases he
    exact w_X11_about_20 hi a1 a2  C0 hK Q Y hY  σ hB hP hS hl
set_option maxHeartbeats 4000000 in
theorem c_X11_about {l : Launch} {dC : Nat → ClassId} {dI : Nat → Nat → Nat} {ad : Nat → Nat} {cA cZ : ClassId} (hi : Inj 12 ad) (a1 : Int32) (a2 : Int32)  (s0 : St) (Q : Int32 → St → Prop) (hv : V_X11_about a1 a2 s0 Q) (sz : Nat) : Met l yX11_about wsX11_about ({ frames := 2, cells := 0, slots := 0, locals := 46 } : Room) (va_Pc [.ref (ad 0), .int a1, .int a2] (PW dC dI ad cA cZ 12 (celM ad cA cZ) sz s0)) (va_Qi Q (fun u t => va_P (dC, dI) vwCl (wd 12 ad (celM ad cA cZ) u) t.heap) (AA 12 ad sz)) 0 0 (AA 12 ad sz) := by
  refine Met.ofW (cc := cX11_about) (maxL := 4) (ret := (some .int)) (by decide) rfl ?_
  intro p e s m args below meth c s₁ B hml hv0
  obtain ⟨rfl, hsz, hP, hK⟩ := hv0
  subst hsz
  have C0 : Cx cX11_about RX11 wsX11_about 4 (some .int) p s m ([.ref (ad 0), .int a1, .int a2] : List Value).toArray meth c := ⟨B.exec, B.bytes, hml, findClass_of_methodNamed B.named, atoms_spec (ws := wsX11_about) B.pre, B.returns, B.notSynchronized⟩
  have hl := lv_entry ([.ref (ad 0), .int a1, .int a2]) (n := 4) (Nat.le_of_ble_eq_true rfl)
  rw [lg_entry_eq]
  generalize (lg_sl ([.ref (ad 0), .int a1, .int a2]) ++ List.replicate (4 - (lg_sl ([.ref (ad 0), .int a1, .int a2])).length) Slot.unset).toArray = ls at hl ⊢
  have hl : lv_has ls 4 [(0, .ref (ad 0)), (1, .int a1), (2, .int a2)] := hl
  exact w_X11_about_e hi a1 a2  C0 hK Q (R_X11_about a1 a2 Q) (y_X11_about hi a1 a2  C0 hK Q)  s0 hv hP va_S.rf hl
def lay_X11_layHand (ad : Nat → Nat)  : Nat → List Int32 → List Int64 → Option (List (Nat × Value) × List Value) := fun P xs ys => match P, xs, ys with
  | 2, [x1], [] => some ([(0, .ref (ad 0)), (1, .int x1)], [])
  | _, _, _ => none
set_option maxHeartbeats 4000000 in
set_option maxRecDepth 100000 in
theorem w_X11_layHand_e {p : Program} {l : Launch} {e : Env} {s : State} {m : MethodId} {args : Array Value} {below : List Frame} {meth : Method} {c : Code} {dC : Nat → ClassId} {dI : Nat → Nat → Nat} {ad : Nat → Nat} {cA cZ : ClassId} (hi : Inj 12 ad)   (C0 : Cx cX11_layHand RX11 wsX11_layHand 2 none p s m args meth c) (hK : KK dC dI cA cZ s) (Q : St → Prop) (Y : Nat → List Int32 → List Int64 → St → Prop) (hY : ∀ P xs ys σ, Y P xs ys σ → XX p l e ({ frames := 0, cells := 0, slots := 0, locals := 0 } : Room) s m args below meth c (dC, dI) 12 ad (celM ad cA cZ) 2 (ZV below args s (dC, dI) 12 ad (celM ad cA cZ) Q) (lay_X11_layHand ad ) P xs ys σ)  (s0 : St) (hv : B_X11_layHand_e  Q Y  s0) {H : Heap} {locs : List Loc} {ls : Array Slot} (hP : va_P (dC, dI) vwCl (wd 12 ad (celM ad cA cZ) s0) H) (hS : va_S (AA 12 ad s.heap.size) s.heap H locs) (hl : lv_has ls 2 [(0, .ref (ad 0))]) : W p l e ({ frames := 0, cells := 0, slots := 0, locals := 0 } : Room) s m args below meth c H locs 0 0 (ZV below args s (dC, dI) 12 ad (celM ad cA cZ) Q) (F0 m 0 ls []) := by
  obtain ⟨hx, hb, hml, hown, hts, hr, hlocks⟩ := C0
  have hD := wd_D (s := s) (cel := celM ad cA cZ) (σ := s0) hi
  unfold B_X11_layHand_e at hv
  refine lv_iconst (v := 0) hx hb dX11_layHand_0 (by decide) ?_
  refine lv_istore_n (lv' := [(1, .int 0), (0, .ref (ad 0))]) hx hb dX11_layHand_1 rfl hl (by decide) rfl (fun ls hl => ?_)
  exact hY 2 [0] [] s0 hv _ _ rfl H locs ls hP hS (lv_sub hl [1, 0] rfl)
set_option maxHeartbeats 4000000 in
set_option maxRecDepth 100000 in
theorem w_X11_layHand_2 {p : Program} {l : Launch} {e : Env} {s : State} {m : MethodId} {args : Array Value} {below : List Frame} {meth : Method} {c : Code} {dC : Nat → ClassId} {dI : Nat → Nat → Nat} {ad : Nat → Nat} {cA cZ : ClassId} (hi : Inj 12 ad)   (C0 : Cx cX11_layHand RX11 wsX11_layHand 2 none p s m args meth c) (hK : KK dC dI cA cZ s) (Q : St → Prop) (Y : Nat → List Int32 → List Int64 → St → Prop) (hY : ∀ P xs ys σ, Y P xs ys σ → XX p l e ({ frames := 0, cells := 0, slots := 0, locals := 0 } : Room) s m args below meth c (dC, dI) 12 ad (celM ad cA cZ) 2 (ZV below args s (dC, dI) 12 ad (celM ad cA cZ) Q) (lay_X11_layHand ad ) P xs ys σ) (x1 : Int32) (s0 : St) (hv : B_X11_layHand_2  Q Y x1 s0) {H : Heap} {locs : List Loc} {ls : Array Slot} (hP : va_P (dC, dI) vwCl (wd 12 ad (celM ad cA cZ) s0) H) (hS : va_S (AA 12 ad s.heap.size) s.heap H locs) (hl : lv_has ls 2 [(0, .ref (ad 0)), (1, .int x1)]) : W p l e ({ frames := 0, cells := 0, slots := 0, locals := 0 } : Room) s m args below meth c H locs 0 0 (ZV below args s (dC, dI) 12 ad (celM ad cA cZ) Q) (F0 m 2 ls []) := by
  obtain ⟨hx, hb, hml, hown, hts, hr, hlocks⟩ := C0
  have hD := wd_D (s := s) (cel := celM ad cA cZ) (σ := s0) hi
  unfold B_X11_layHand_2 at hv
  refine lv_iload_n hx hb dX11_layHand_2 rfl (lv_at hl 1 rfl) ?_
  refine lv_bipush (v := 43) hx hb dX11_layHand_3 (by decide) ?_
  refine lv_icmp_ge (tgt := 26) hx hb dX11_layHand_5 (by decide) (fun c5 => ?_) (fun c5 => ?_)
  · have hv := hv.1 c5
    exact r_vret hx hb hr hlocks hv hP hS dX11_layHand_26
  · have hv := hv.2 c5
    refine lv_aload_n hx hb dX11_layHand_8 rfl (lv_at hl 0 rfl) ?_
    refine r_get hx hb hts (iwX11_layHand_X11) hown hK.1 hP 0 (by decide) (ceMo_0 (s0 0)) rfl 6 (by decide) (hts _ kX11_layHand_1) (v := .ref (ad 5)) rfl dX11_layHand_9 ?_
    refine lv_iload_n hx hb dX11_layHand_12 rfl (lv_at hl 1 rfl) ?_
    refine lv_aload_n hx hb dX11_layHand_13 rfl (lv_at hl 0 rfl) ?_
    refine r_get hx hb hts (iwX11_layHand_X11) hown hK.1 hP 0 (by decide) (ceMo_0 (s0 0)) rfl 0 (by decide) (hts _ kX11_layHand_2) (v := .ref (ad 1)) rfl dX11_layHand_14 ?_
    refine lv_iload_n hx hb dX11_layHand_17 rfl (lv_at hl 1 rfl) ?_
    obtain ⟨hin, hv⟩ := hv
    refine r_iald hx hb hK.1 hP 1 (by decide) (ceMo_1 (s0 1)) hin dX11_layHand_18 ?_
    obtain ⟨hin, hv⟩ := hv
    refine r_iast hx hb hK.1 hP hD hS 5 (by decide) (ceMo_5 (s0 5)) (ceMo_5 _) hin dX11_layHand_19 (fun H locs s1 es1 hP hD hS => ?_)
    have hv := hv s1 es1
    refine lv_iinc (v := x1 + 1) (lv' := [(1, .int (x1 + 1)), (0, .ref (ad 0))]) hx hb dX11_layHand_20 hl (k := 1) rfl rfl (by decide) rfl (fun ls hl => ?_)
    refine lv_goto (tgt := 2) hx hb dX11_layHand_23 (by decide) ?_
    exact hY 2 [x1 + 1] [] s1 hv _ _ rfl H locs ls hP hS (lv_sub hl [1, 0] rfl)
set_option maxHeartbeats 4000000 in
theorem y_X11_layHand {p : Program} {l : Launch} {e : Env} {s : State} {m : MethodId} {args : Array Value} {below : List Frame} {meth : Method} {c : Code} {dC : Nat → ClassId} {dI : Nat → Nat → Nat} {ad : Nat → Nat} {cA cZ : ClassId} (hi : Inj 12 ad)   (C0 : Cx cX11_layHand RX11 wsX11_layHand 2 none p s m args meth c) (hK : KK dC dI cA cZ s) (Q : St → Prop) : ∀ P xs ys σ, R_X11_layHand  Q P xs ys σ → XX p l e ({ frames := 0, cells := 0, slots := 0, locals := 0 } : Room) s m args below meth c (dC, dI) 12 ad (celM ad cA cZ) 2 (ZV below args s (dC, dI) 12 ad (celM ad cA cZ) Q) (lay_X11_layHand ad ) P xs ys σ := by
  refine Fx.elim _ (fun P xs ys σ Y hY hB => ?_)
  rcases hB with ⟨rfl, x1, rfl, rfl, hB⟩
  · intro lv st he H locs ls hP hS hl
    cases he
    exact w_X11_layHand_2 hi   C0 hK Q Y hY x1 σ hB hP hS hl
set_option maxHeartbeats 4000000 in
theorem c_X11_layHand {l : Launch} {dC : Nat → ClassId} {dI : Nat → Nat → Nat} {ad : Nat → Nat} {cA cZ : ClassId} (hi : Inj 12 ad)   (s0 : St) (Q : St → Prop) (hv : V_X11_layHand  s0 Q) (sz : Nat) : Met l yX11_layHand wsX11_layHand ({ frames := 0, cells := 0, slots := 0, locals := 0 } : Room) (va_Pc [.ref (ad 0)] (PW dC dI ad cA cZ 12 (celM ad cA cZ) sz s0)) (va_Qv Q (fun u t => va_P (dC, dI) vwCl (wd 12 ad (celM ad cA cZ) u) t.heap) (AA 12 ad sz)) 0 0 (AA 12 ad sz) := by
  refine Met.ofW (cc := cX11_layHand) (maxL := 2) (ret := none) (by decide) rfl ?_
  intro p e s m args below meth c s₁ B hml hv0
  obtain ⟨rfl, hsz, hP, hK⟩ := hv0
  subst hsz
  have C0 : Cx cX11_layHand RX11 wsX11_layHand 2 none p s m ([.ref (ad 0)] : List Value).toArray meth c := ⟨B.exec, B.bytes, hml, findClass_of_methodNamed B.named, atoms_spec (ws := wsX11_layHand) B.pre, B.returns, B.notSynchronized⟩
  have hl := lv_entry ([.ref (ad 0)]) (n := 2) (Nat.le_of_ble_eq_true rfl)
  rw [lg_entry_eq]
  generalize (lg_sl ([.ref (ad 0)]) ++ List.replicate (2 - (lg_sl ([.ref (ad 0)])).length) Slot.unset).toArray = ls at hl ⊢
  have hl : lv_has ls 2 [(0, .ref (ad 0))] := hl
  exact w_X11_layHand_e hi   C0 hK Q (R_X11_layHand  Q) (y_X11_layHand hi   C0 hK Q)  s0 hv hP va_S.rf hl
def lay_X11_goAhead (ad : Nat → Nat) (a1 : Int32) : Nat → List Int32 → List Int64 → Option (List (Nat × Value) × List Value) := fun P xs ys => match P, xs, ys with
  | 2, [x2], [] => some ([(0, .ref (ad 0)), (1, .int a1), (2, .int x2)], [])
  | _, _, _ => none
set_option maxHeartbeats 4000000 in
set_option maxRecDepth 100000 in
theorem w_X11_goAhead_e {p : Program} {l : Launch} {e : Env} {s : State} {m : MethodId} {args : Array Value} {below : List Frame} {meth : Method} {c : Code} {dC : Nat → ClassId} {dI : Nat → Nat → Nat} {ad : Nat → Nat} {cA cZ : ClassId} (hi : Inj 12 ad) (a1 : Int32)  (C0 : Cx cX11_goAhead RX11 wsX11_goAhead 3 none p s m args meth c) (hK : KK dC dI cA cZ s) (Q : St → Prop) (Y : Nat → List Int32 → List Int64 → St → Prop) (hY : ∀ P xs ys σ, Y P xs ys σ → XX p l e ({ frames := 4, cells := 0, slots := 0, locals := 94 } : Room) s m args below meth c (dC, dI) 12 ad (celM ad cA cZ) 3 (ZV below args s (dC, dI) 12 ad (celM ad cA cZ) Q) (lay_X11_goAhead ad a1) P xs ys σ)  (s0 : St) (hv : B_X11_goAhead_e a1 Q Y  s0) {H : Heap} {locs : List Loc} {ls : Array Slot} (hP : va_P (dC, dI) vwCl (wd 12 ad (celM ad cA cZ) s0) H) (hS : va_S (AA 12 ad s.heap.size) s.heap H locs) (hl : lv_has ls 3 [(0, .ref (ad 0)), (1, .int a1)]) : W p l e ({ frames := 4, cells := 0, slots := 0, locals := 94 } : Room) s m args below meth c H locs 0 0 (ZV below args s (dC, dI) 12 ad (celM ad cA cZ) Q) (F0 m 0 ls []) := by
  obtain ⟨hx, hb, hml, hown, hts, hr, hlocks⟩ := C0
  have hD := wd_D (s := s) (cel := celM ad cA cZ) (σ := s0) hi
  unfold B_X11_goAhead_e at hv
  refine lv_iconst (v := 0) hx hb dX11_goAhead_0 (by decide) ?_
  refine lv_istore_n (lv' := [(2, .int 0), (0, .ref (ad 0)), (1, .int a1)]) hx hb dX11_goAhead_1 rfl hl (by decide) rfl (fun ls hl => ?_)
  exact hY 2 [0] [] s0 hv _ _ rfl H locs ls hP hS (lv_sub hl [1, 2, 0] rfl)
set_option maxHeartbeats 4000000 in
set_option maxRecDepth 100000 in
theorem w_X11_goAhead_2 {p : Program} {l : Launch} {e : Env} {s : State} {m : MethodId} {args : Array Value} {below : List Frame} {meth : Method} {c : Code} {dC : Nat → ClassId} {dI : Nat → Nat → Nat} {ad : Nat → Nat} {cA cZ : ClassId} (hi : Inj 12 ad) (a1 : Int32)  (C0 : Cx cX11_goAhead RX11 wsX11_goAhead 3 none p s m args meth c) (hK : KK dC dI cA cZ s) (Q : St → Prop) (Y : Nat → List Int32 → List Int64 → St → Prop) (hY : ∀ P xs ys σ, Y P xs ys σ → XX p l e ({ frames := 4, cells := 0, slots := 0, locals := 94 } : Room) s m args below meth c (dC, dI) 12 ad (celM ad cA cZ) 3 (ZV below args s (dC, dI) 12 ad (celM ad cA cZ) Q) (lay_X11_goAhead ad a1) P xs ys σ) (x2 : Int32) (s0 : St) (hv : B_X11_goAhead_2 a1 Q Y x2 s0) {H : Heap} {locs : List Loc} {ls : Array Slot} (hP : va_P (dC, dI) vwCl (wd 12 ad (celM ad cA cZ) s0) H) (hS : va_S (AA 12 ad s.heap.size) s.heap H locs) (hl : lv_has ls 3 [(0, .ref (ad 0)), (1, .int a1), (2, .int x2)]) : W p l e ({ frames := 4, cells := 0, slots := 0, locals := 94 } : Room) s m args below meth c H locs 0 0 (ZV below args s (dC, dI) 12 ad (celM ad cA cZ) Q) (F0 m 2 ls []) := by
  obtain ⟨hx, hb, hml, hown, hts, hr, hlocks⟩ := C0
  have hD := wd_D (s := s) (cel := celM ad cA cZ) (σ := s0) hi
  unfold B_X11_goAhead_2 at hv
  refine lv_iload_n hx hb dX11_goAhead_2 rfl (lv_at hl 2 rfl) ?_
  refine lv_iload_n hx hb dX11_goAhead_3 rfl (lv_at hl 1 rfl) ?_
  refine lv_icmp_ge (tgt := 20) hx hb dX11_goAhead_4 (by decide) (fun c4 => ?_) (fun c4 => ?_)
  · have hv := hv.1 c4
    exact r_vret hx hb hr hlocks hv hP hS dX11_goAhead_20
  · have hv := hv.2 c4
    refine lv_aload_n hx hb dX11_goAhead_7 rfl (lv_at hl 0 rfl) ?_
    refine r_get hx hb hts (iwX11_goAhead_X11) hown hK.1 hP 0 (by decide) (ceMo_0 (s0 0)) rfl 6 (by decide) (hts _ kX11_goAhead_1) (v := .ref (ad 5)) rfl dX11_goAhead_8 ?_
    refine r_cv (va_runS (As := [.ref (ad 5)]) (rest := []) ⟨hx, hb, hml, hown, hts⟩ (c_X11_goHour hi 5 43 arM_5 s0 _ hv H.size) (va_cwS 1 hts gX11_goAhead_X11_goHour rfl rfl rfl (by decide +kernel) ⟨Nat.le_of_ble_eq_true rfl, Nat.le_of_ble_eq_true rfl⟩) ⟨pre_blind, pre_of hP hK⟩ rfl rfl hl.1 rfl (lv_room (Nat.le_of_ble_eq_true rfl)) dX11_goAhead_11 ⟨Nat.zero_le _, Nat.zero_le _⟩) hS (fun s1 H locs hv hP hS => ?_)
    have hD := wd_D (s := s) (cel := celM ad cA cZ) (σ := s1) hi
    refine lv_iinc (v := x2 + 1) (lv' := [(2, .int (x2 + 1)), (0, .ref (ad 0)), (1, .int a1)]) hx hb dX11_goAhead_14 hl (k := 2) rfl rfl (by decide) rfl (fun ls hl => ?_)
    refine lv_goto (tgt := 2) hx hb dX11_goAhead_17 (by decide) ?_
    exact hY 2 [x2 + 1] [] s1 hv _ _ rfl H locs ls hP hS (lv_sub hl [1, 2, 0] rfl)
set_option maxHeartbeats 4000000 in
theorem y_X11_goAhead {p : Program} {l : Launch} {e : Env} {s : State} {m : MethodId} {args : Array Value} {below : List Frame} {meth : Method} {c : Code} {dC : Nat → ClassId} {dI : Nat → Nat → Nat} {ad : Nat → Nat} {cA cZ : ClassId} (hi : Inj 12 ad) (a1 : Int32)  (C0 : Cx cX11_goAhead RX11 wsX11_goAhead 3 none p s m args meth c) (hK : KK dC dI cA cZ s) (Q : St → Prop) : ∀ P xs ys σ, R_X11_goAhead a1 Q P xs ys σ → XX p l e ({ frames := 4, cells := 0, slots := 0, locals := 94 } : Room) s m args below meth c (dC, dI) 12 ad (celM ad cA cZ) 3 (ZV below args s (dC, dI) 12 ad (celM ad cA cZ) Q) (lay_X11_goAhead ad a1) P xs ys σ := by
  refine Fx.elim _ (fun P xs ys σ Y hY hB => ?_)
  rcases hB with ⟨rfl, x2, rfl, rfl, hB⟩
  · intro lv st he H locs ls hP hS hl
    cases he
    exact w_X11_goAhead_2 hi a1  C0 hK Q Y hY x2 σ hB hP hS hl
set_option maxHeartbeats 4000000 in
theorem c_X11_goAhead {l : Launch} {dC : Nat → ClassId} {dI : Nat → Nat → Nat} {ad : Nat → Nat} {cA cZ : ClassId} (hi : Inj 12 ad) (a1 : Int32)  (s0 : St) (Q : St → Prop) (hv : V_X11_goAhead a1 s0 Q) (sz : Nat) : Met l yX11_goAhead wsX11_goAhead ({ frames := 4, cells := 0, slots := 0, locals := 94 } : Room) (va_Pc [.ref (ad 0), .int a1] (PW dC dI ad cA cZ 12 (celM ad cA cZ) sz s0)) (va_Qv Q (fun u t => va_P (dC, dI) vwCl (wd 12 ad (celM ad cA cZ) u) t.heap) (AA 12 ad sz)) 0 0 (AA 12 ad sz) := by
  refine Met.ofW (cc := cX11_goAhead) (maxL := 3) (ret := none) (by decide) rfl ?_
  intro p e s m args below meth c s₁ B hml hv0
  obtain ⟨rfl, hsz, hP, hK⟩ := hv0
  subst hsz
  have C0 : Cx cX11_goAhead RX11 wsX11_goAhead 3 none p s m ([.ref (ad 0), .int a1] : List Value).toArray meth c := ⟨B.exec, B.bytes, hml, findClass_of_methodNamed B.named, atoms_spec (ws := wsX11_goAhead) B.pre, B.returns, B.notSynchronized⟩
  have hl := lv_entry ([.ref (ad 0), .int a1]) (n := 3) (Nat.le_of_ble_eq_true rfl)
  rw [lg_entry_eq]
  generalize (lg_sl ([.ref (ad 0), .int a1]) ++ List.replicate (3 - (lg_sl ([.ref (ad 0), .int a1])).length) Slot.unset).toArray = ls at hl ⊢
  have hl : lv_has ls 3 [(0, .ref (ad 0)), (1, .int a1)] := hl
  exact w_X11_goAhead_e hi a1  C0 hK Q (R_X11_goAhead a1 Q) (y_X11_goAhead hi a1  C0 hK Q)  s0 hv hP va_S.rf hl
