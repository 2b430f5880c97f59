def lay_X11_where (ad : Nat → Nat) (a1 : Int32) (a2 : Int32) : Nat → List Int32 → List Int64 → Option (List (Nat × Value) × List Value) := fun P xs ys => match P, xs, ys with
  | 20, [], [] => some ([(0, .ref (ad 0))], [])
  | _, _, _ => none
set_option maxHeartbeats 4000000 in
set_option maxRecDepth 100000 in
theorem w_X11_where_e {p : Program} {l : Launch} {e : Env} {s : State} {m : MethodId} {args : Array Value} {below : List Frame} {meth : Method} {c : Code} {dC : Nat → ClassId} {dI : Nat → Nat → Nat} {ad : Nat → Nat} {cA cZ : ClassId} (hi : Inj 12 ad) (a1 : Int32) (a2 : Int32)  (C0 : Cx cX11_where RX11 wsX11_where 3 (some .int) p s m args meth c) (hK : KK dC dI cA cZ s) (Q : Int32 → St → Prop) (Y : Nat → List Int32 → List Int64 → St → Prop) (hY : ∀ P xs ys σ, Y P xs ys σ → XX p l e ({ frames := 5, cells := 0, slots := 0, locals := 116 } : Room) s m args below meth c (dC, dI) 12 ad (celM ad cA cZ) 3 (ZI below args s (dC, dI) 12 ad (celM ad cA cZ) Q) (lay_X11_where ad a1 a2) P xs ys σ)  (s0 : St) (hv : B_X11_where_e a1 a2 Q Y  s0) {H : Heap} {locs : List Loc} {ls : Array Slot} (hP : va_P (dC, dI) vwCl (wd 12 ad (celM ad cA cZ) s0) H) (hS : va_S (AA 12 ad s.heap.size) s.heap H locs) (hl : lv_has ls 3 [(0, .ref (ad 0)), (1, .int a1), (2, .int a2)]) : W p l e ({ frames := 5, cells := 0, slots := 0, locals := 116 } : Room) s m args below meth c H locs 0 0 (ZI below args s (dC, dI) 12 ad (celM ad cA cZ) Q) (F0 m 0 ls []) := by
  obtain ⟨hx, hb, hml, hown, hts, hr, hlocks⟩ := C0
  have hD := wd_D (s := s) (cel := celM ad cA cZ) (σ := s0) hi
  unfold B_X11_where_e at hv
  refine lv_aload_n hx hb dX11_where_0 rfl (lv_at hl 0 rfl) ?_
  refine lv_iload_n hx hb dX11_where_1 rfl (lv_at hl 1 rfl) ?_
  refine r_ci (va_runV (As := [.int a1]) (rest := []) ⟨hx, hb, hml, hown, hts⟩ (c_X11_isGlove hi a1 s0 _ hv H.size) (cwV 1 hts gX11_where_X11_isGlove rfl rfl rfl (by decide +kernel) ⟨Nat.le_of_ble_eq_true rfl, Nat.le_of_ble_eq_true rfl⟩) ⟨pre_blind, r_recv hK.1 hP 0 (by decide) (ceMo_0 (s0 0)) rfl, pre_of hP hK⟩ rfl rfl hl.1 rfl (lv_room (Nat.le_of_ble_eq_true rfl)) dX11_where_2 ⟨Nat.zero_le _, Nat.zero_le _⟩) hS (fun r1 s1 H locs hv hP hS => ?_)
  obtain ⟨hz_r1, hv⟩ := hv
  have hD := wd_D (s := s) (cel := celM ad cA cZ) (σ := s1) hi
  refine lv_if_eq (tgt := 20) hx hb dX11_where_5 (by decide) (fun c5 => ?_) (fun c5 => ?_)
  · have hv := hv.1 c5
    exact hY 20 [] [] s1 hv _ _ rfl H locs ls hP hS (lv_sub hl [0] rfl)
  · have hv := hv.2 c5
    refine lv_iload_n hx hb dX11_where_8 rfl (lv_at hl 2 rfl) ?_
    refine lv_i2l (v := a2.toInt64) hx hb dX11_where_9 rfl ?_
    refine lv_lconst (v := 0) hx hb dX11_where_10 (by decide) ?_
    refine lv_ldc2 (v := 60) hx hb hown (hts _ kX11_where_1) dX11_where_11 ?_
    refine r_ci (va_runS (As := [.long a2.toInt64, .long 0, .long 60]) (rest := []) ⟨hx, hb, hml, hown, hts⟩ (c_X11_in hi a2.toInt64 0 60 s1 _ hv H.size) (va_cwS 3 hts gX11_where_X11_in rfl rfl rfl (by decide +kernel) ⟨Nat.le_of_ble_eq_true rfl, Nat.le_of_ble_eq_true rfl⟩) ⟨pre_blind, pre_of hP hK⟩ rfl rfl hl.1 rfl (lv_room (Nat.le_of_ble_eq_true rfl)) dX11_where_14 ⟨Nat.zero_le _, Nat.zero_le _⟩) hS (fun r2 s2 H locs hv hP hS => ?_)
    obtain ⟨hz_r2, hv⟩ := hv
    have hD := wd_D (s := s) (cel := celM ad cA cZ) (σ := s2) hi
    refine lv_if_ne (tgt := 27) hx hb dX11_where_17 (by decide) (fun c17 => ?_) (fun c17 => ?_)
    · have hv := hv.1 c17
      refine lv_aload_n hx hb dX11_where_27 rfl (lv_at hl 0 rfl) ?_
      refine r_cv (va_runV (As := []) (rest := []) ⟨hx, hb, hml, hown, hts⟩ (c_X11_layHand hi  s2 _ hv H.size) (cwV 0 hts gX11_where_X11_layHand rfl rfl rfl (by decide +kernel) ⟨Nat.le_of_ble_eq_true rfl, Nat.le_of_ble_eq_true rfl⟩) ⟨pre_blind, r_recv hK.1 hP 0 (by decide) (ceMo_0 (s2 0)) rfl, pre_of hP hK⟩ rfl rfl hl.1 rfl (lv_room (Nat.le_of_ble_eq_true rfl)) dX11_where_28 ⟨Nat.zero_le _, Nat.zero_le _⟩) hS (fun s3 H locs hv hP hS => ?_)
      have hD := wd_D (s := s) (cel := celM ad cA cZ) (σ := s3) hi
      refine lv_aload_n hx hb dX11_where_31 rfl (lv_at hl 0 rfl) ?_
      refine lv_iload_n hx hb dX11_where_32 rfl (lv_at hl 2 rfl) ?_
      refine r_cv (va_runV (As := [.int a2]) (rest := []) ⟨hx, hb, hml, hown, hts⟩ (c_X11_goAhead hi a2 s3 _ hv H.size) (cwV 1 hts gX11_where_X11_goAhead rfl rfl rfl (by decide +kernel) ⟨Nat.le_of_ble_eq_true rfl, Nat.le_of_ble_eq_true rfl⟩) ⟨pre_blind, r_recv hK.1 hP 0 (by decide) (ceMo_0 (s3 0)) rfl, pre_of hP hK⟩ rfl rfl hl.1 rfl (lv_room (Nat.le_of_ble_eq_true rfl)) dX11_where_33 ⟨Nat.zero_le _, Nat.zero_le _⟩) hS (fun s4 H locs hv hP hS => ?_)
      have hD := wd_D (s := s) (cel := celM ad cA cZ) (σ := s4) hi
      refine lv_aload_n hx hb dX11_where_36 rfl (lv_at hl 0 rfl) ?_
      refine r_get hx hb hts (iwX11_where_X11) hown hK.1 hP 0 (by decide) (ceMo_0 (s4 0)) rfl 6 (by decide) (hts _ kX11_where_2) (v := .ref (ad 5)) rfl dX11_where_37 ?_
      refine lv_bipush (v := 6) hx hb dX11_where_40 (by decide) ?_
      refine lv_iload_n hx hb dX11_where_42 rfl (lv_at hl 1 rfl) ?_
      refine lv_iadd hx hb dX11_where_43 ?_
      obtain ⟨hin, hv⟩ := hv
      refine r_iald hx hb hK.1 hP 5 (by decide) (ceMo_5 (s4 5)) hin dX11_where_44 ?_
      exact r_iret hx hb hr hlocks hv hP hS dX11_where_45
    · have hv := hv.2 c17
      exact hY 20 [] [] s2 hv _ _ rfl H locs ls hP hS (lv_sub hl [0] rfl)
set_option maxHeartbeats 4000000 in
set_option maxRecDepth 100000 in
theorem w_X11_where_20 {p : Program} {l : Launch} {e : Env} {s : State} {m : MethodId} {args : Array Value} {below : List Frame} {meth : Method} {c : Code} {dC : Nat → ClassId} {dI : Nat → Nat → Nat} {ad : Nat → Nat} {cA cZ : ClassId} (hi : Inj 12 ad) (a1 : Int32) (a2 : Int32)  (C0 : Cx cX11_where RX11 wsX11_where 3 (some .int) p s m args meth c) (hK : KK dC dI cA cZ s) (Q : Int32 → St → Prop) (Y : Nat → List Int32 → List Int64 → St → Prop) (hY : ∀ P xs ys σ, Y P xs ys σ → XX p l e ({ frames := 5, cells := 0, slots := 0, locals := 116 } : Room) s m args below meth c (dC, dI) 12 ad (celM ad cA cZ) 3 (ZI below args s (dC, dI) 12 ad (celM ad cA cZ) Q) (lay_X11_where ad a1 a2) P xs ys σ)  (s0 : St) (hv : B_X11_where_20 a1 a2 Q Y  s0) {H : Heap} {locs : List Loc} {ls : Array Slot} (hP : va_P (dC, dI) vwCl (wd 12 ad (celM ad cA cZ) s0) H) (hS : va_S (AA 12 ad s.heap.size) s.heap H locs) (hl : lv_has ls 3 [(0, .ref (ad 0))]) : W p l e ({ frames := 5, cells := 0, slots := 0, locals := 116 } : Room) s m args below meth c H locs 0 0 (ZI below args s (dC, dI) 12 ad (celM ad cA cZ) Q) (F0 m 20 ls []) := by
  obtain ⟨hx, hb, hml, hown, hts, hr, hlocks⟩ := C0
  have hD := wd_D (s := s) (cel := celM ad cA cZ) (σ := s0) hi
  unfold B_X11_where_20 at hv
  refine lv_aload_n hx hb dX11_where_20 rfl (lv_at hl 0 rfl) ?_
  refine lv_bipush (v := (-2)) hx hb dX11_where_21 (by decide) ?_
  refine r_ci (va_runV (As := [.int ((-2))]) (rest := []) ⟨hx, hb, hml, hown, hts⟩ (c_X11_bad hi ((-2)) s0 _ hv H.size) (cwV 1 hts gX11_where_X11_bad rfl rfl rfl (by decide +kernel) ⟨Nat.le_of_ble_eq_true rfl, Nat.le_of_ble_eq_true rfl⟩) ⟨pre_blind, r_recv hK.1 hP 0 (by decide) (ceMo_0 (s0 0)) rfl, pre_of hP hK⟩ rfl rfl hl.1 rfl (lv_room (Nat.le_of_ble_eq_true rfl)) dX11_where_23 ⟨Nat.zero_le _, Nat.zero_le _⟩) hS (fun r1 s1 H locs hv hP hS => ?_)
  have hD := wd_D (s := s) (cel := celM ad cA cZ) (σ := s1) hi
  exact r_iret hx hb hr hlocks hv hP hS dX11_where_26
set_option maxHeartbeats 4000000 in
theorem y_X11_where {p : Program} {l : Launch} {e : Env} {s : State} {m : MethodId} {args : Array Value} {below : List Frame} {meth : Method} {c : Code} {dC : Nat → ClassId} {dI : Nat → Nat → Nat} {ad : Nat → Nat} {cA cZ : ClassId} (hi : Inj 12 ad) (a1 : Int32) (a2 : Int32)  (C0 : Cx cX11_where RX11 wsX11_where 3 (some .int) p s m args meth c) (hK : KK dC dI cA cZ s) (Q : Int32 → St → Prop) : ∀ P xs ys σ, R_X11_where a1 a2 Q P xs ys σ → XX p l e ({ frames := 5, cells := 0, slots := 0, locals := 116 } : Room) s m args below meth c (dC, dI) 12 ad (celM ad cA cZ) 3 (ZI below args s (dC, dI) 12 ad (celM ad cA cZ) Q) (lay_X11_where ad a1 a2) P xs ys σ := by
  refine Fx.elim _ (fun P xs ys σ Y hY hB => ?_)
  rcases hB with ⟨rfl, rfl, rfl, hB⟩
  · intro lv st he H locs ls hP hS hl
    cases he
    exact w_X11_where_20 hi a1 a2  C0 hK Q Y hY  σ hB hP hS hl
set_option maxHeartbeats 4000000 in
theorem c_X11_where {l : Launch} {dC : Nat → ClassId} {dI : Nat → Nat → Nat} {ad : Nat → Nat} {cA cZ : ClassId} (hi : Inj 12 ad) (a1 : Int32) (a2 : Int32)  (s0 : St) (Q : Int32 → St → Prop) (hv : V_X11_where a1 a2 s0 Q) (sz : Nat) : Met l yX11_where wsX11_where ({ frames := 5, cells := 0, slots := 0, locals := 116 } : Room) (va_Pc [.ref (ad 0), .int a1, .int a2] (PW dC dI ad cA cZ 12 (celM ad cA cZ) sz s0)) (va_Qi Q (fun u t => va_P (dC, dI) vwCl (wd 12 ad (celM ad cA cZ) u) t.heap) (AA 12 ad sz)) 0 0 (AA 12 ad sz) := by
  refine Met.ofW (cc := cX11_where) (maxL := 3) (ret := (some .int)) (by decide) rfl ?_
  intro p e s m args below meth c s₁ B hml hv0
  obtain ⟨rfl, hsz, hP, hK⟩ := hv0
  subst hsz
  have C0 : Cx cX11_where RX11 wsX11_where 3 (some .int) p s m ([.ref (ad 0), .int a1, .int a2] : List Value).toArray meth c := ⟨B.exec, B.bytes, hml, findClass_of_methodNamed B.named, atoms_spec (ws := wsX11_where) B.pre, B.returns, B.notSynchronized⟩
  have hl := lv_entry ([.ref (ad 0), .int a1, .int a2]) (n := 3) (Nat.le_of_ble_eq_true rfl)
  rw [lg_entry_eq]
  generalize (lg_sl ([.ref (ad 0), .int a1, .int a2]) ++ List.replicate (3 - (lg_sl ([.ref (ad 0), .int a1, .int a2])).length) Slot.unset).toArray = ls at hl ⊢
  have hl : lv_has ls 3 [(0, .ref (ad 0)), (1, .int a1), (2, .int a2)] := hl
  exact w_X11_where_e hi a1 a2  C0 hK Q (R_X11_where a1 a2 Q) (y_X11_where hi a1 a2  C0 hK Q)  s0 hv hP va_S.rf hl
def lay_X11_when (ad : Nat → Nat) (a1 : Int32) : Nat → List Int32 → List Int64 → Option (List (Nat × Value) × List Value) := fun P xs ys => match P, xs, ys with
  | 20, [], [] => some ([(0, .ref (ad 0)), (1, .int a1)], [])
  | 26, [x2], [] => some ([(0, .ref (ad 0)), (1, .int a1), (2, .int x2)], [])
  | 72, [x2], [] => some ([(0, .ref (ad 0)), (1, .int a1), (2, .int x2)], [])
  | _, _, _ => none
set_option maxHeartbeats 4000000 in
set_option maxRecDepth 100000 in
theorem w_X11_when_e {p : Program} {l : Launch} {e : Env} {s : State} {m : MethodId} {args : Array Value} {below : List Frame} {meth : Method} {c : Code} {dC : Nat → ClassId} {dI : Nat → Nat → Nat} {ad : Nat → Nat} {cA cZ : ClassId} (hi : Inj 12 ad) (a1 : Int32)  (C0 : Cx cX11_when RX11 wsX11_when 3 (some .int) p s m args meth c) (hK : KK dC dI cA cZ s) (Q : Int32 → St → Prop) (Y : Nat → List Int32 → List Int64 → St → Prop) (hY : ∀ P xs ys σ, Y P xs ys σ → XX p l e ({ frames := 4, cells := 0, slots := 0, locals := 94 } : Room) s m args below meth c (dC, dI) 12 ad (celM ad cA cZ) 3 (ZI below args s (dC, dI) 12 ad (celM ad cA cZ) Q) (lay_X11_when ad a1) P xs ys σ)  (s0 : St) (hv : B_X11_when_e a1 Q Y  s0) {H : Heap} {locs : List Loc} {ls : Array Slot} (hP : va_P (dC, dI) vwCl (wd 12 ad (celM ad cA cZ) s0) H) (hS : va_S (AA 12 ad s.heap.size) s.heap H locs) (hl : lv_has ls 3 [(0, .ref (ad 0)), (1, .int a1)]) : W p l e ({ frames := 4, cells := 0, slots := 0, locals := 94 } : Room) s m args below meth c H locs 0 0 (ZI below args s (dC, dI) 12 ad (celM ad cA cZ) Q) (F0 m 0 ls []) := by
  obtain ⟨hx, hb, hml, hown, hts, hr, hlocks⟩ := C0
  have hD := wd_D (s := s) (cel := celM ad cA cZ) (σ := s0) hi
  unfold B_X11_when_e at hv
  refine lv_iload_n hx hb dX11_when_0 rfl (lv_at hl 1 rfl) ?_
  refine lv_iconst (v := (-1)) hx hb dX11_when_1 (by decide) ?_
  refine lv_icmp_eq (tgt := 20) hx hb dX11_when_2 (by decide) (fun c2 => ?_) (fun c2 => ?_)
  · have hv := hv.1 c2
    exact hY 20 [] [] s0 hv _ _ rfl H locs ls hP hS (lv_sub hl [0, 1] rfl)
  · have hv := hv.2 c2
    refine lv_aload_n hx hb dX11_when_5 rfl (lv_at hl 0 rfl) ?_
    refine lv_iload_n hx hb dX11_when_6 rfl (lv_at hl 1 rfl) ?_
    refine r_ci (va_runV (As := [.int a1]) (rest := []) ⟨hx, hb, hml, hown, hts⟩ (c_X11_isGlove hi a1 s0 _ hv H.size) (cwV 1 hts gX11_when_X11_isGlove rfl rfl rfl (by decide +kernel) ⟨Nat.le_of_ble_eq_true rfl, Nat.le_of_ble_eq_true rfl⟩) ⟨pre_blind, r_recv hK.1 hP 0 (by decide) (ceMo_0 (s0 0)) rfl, pre_of hP hK⟩ rfl rfl hl.1 rfl (lv_room (Nat.le_of_ble_eq_true rfl)) dX11_when_7 ⟨Nat.zero_le _, Nat.zero_le _⟩) hS (fun r1 s1 H locs hv hP hS => ?_)
    obtain ⟨hz_r1, hv⟩ := hv
    have hD := wd_D (s := s) (cel := celM ad cA cZ) (σ := s1) hi
    refine lv_if_ne (tgt := 20) hx hb dX11_when_10 (by decide) (fun c10 => ?_) (fun c10 => ?_)
    · have hv := hv.1 c10
      exact hY 20 [] [] s1 hv _ _ rfl H locs ls hP hS (lv_sub hl [0, 1] rfl)
    · have hv := hv.2 c10
      refine lv_aload_n hx hb dX11_when_13 rfl (lv_at hl 0 rfl) ?_
      refine lv_bipush (v := (-10)) hx hb dX11_when_14 (by decide) ?_
      refine r_ci (va_runV (As := [.int ((-10))]) (rest := []) ⟨hx, hb, hml, hown, hts⟩ (c_X11_bad hi ((-10)) s1 _ hv H.size) (cwV 1 hts gX11_when_X11_bad rfl rfl rfl (by decide +kernel) ⟨Nat.le_of_ble_eq_true rfl, Nat.le_of_ble_eq_true rfl⟩) ⟨pre_blind, r_recv hK.1 hP 0 (by decide) (ceMo_0 (s1 0)) rfl, pre_of hP hK⟩ rfl rfl hl.1 rfl (lv_room (Nat.le_of_ble_eq_true rfl)) dX11_when_16 ⟨Nat.zero_le _, Nat.zero_le _⟩) hS (fun r2 s2 H locs hv hP hS => ?_)
      have hD := wd_D (s := s) (cel := celM ad cA cZ) (σ := s2) hi
      exact r_iret hx hb hr hlocks hv hP hS dX11_when_19
set_option maxHeartbeats 4000000 in
set_option maxRecDepth 100000 in
theorem w_X11_when_20 {p : Program} {l : Launch} {e : Env} {s : State} {m : MethodId} {args : Array Value} {below : List Frame} {meth : Method} {c : Code} {dC : Nat → ClassId} {dI : Nat → Nat → Nat} {ad : Nat → Nat} {cA cZ : ClassId} (hi : Inj 12 ad) (a1 : Int32)  (C0 : Cx cX11_when RX11 wsX11_when 3 (some .int) p s m args meth c) (hK : KK dC dI cA cZ s) (Q : Int32 → St → Prop) (Y : Nat → List Int32 → List Int64 → St → Prop) (hY : ∀ P xs ys σ, Y P xs ys σ → XX p l e ({ frames := 4, cells := 0, slots := 0, locals := 94 } : Room) s m args below meth c (dC, dI) 12 ad (celM ad cA cZ) 3 (ZI below args s (dC, dI) 12 ad (celM ad cA cZ) Q) (lay_X11_when ad a1) P xs ys σ)  (s0 : St) (hv : B_X11_when_20 a1 Q Y  s0) {H : Heap} {locs : List Loc} {ls : Array Slot} (hP : va_P (dC, dI) vwCl (wd 12 ad (celM ad cA cZ) s0) H) (hS : va_S (AA 12 ad s.heap.size) s.heap H locs) (hl : lv_has ls 3 [(0, .ref (ad 0)), (1, .int a1)]) : W p l e ({ frames := 4, cells := 0, slots := 0, locals := 94 } : Room) s m args below meth c H locs 0 0 (ZI below args s (dC, dI) 12 ad (celM ad cA cZ) Q) (F0 m 20 ls []) := by
  obtain ⟨hx, hb, hml, hown, hts, hr, hlocks⟩ := C0
  have hD := wd_D (s := s) (cel := celM ad cA cZ) (σ := s0) hi
  unfold B_X11_when_20 at hv
  refine lv_aload_n hx hb dX11_when_20 rfl (lv_at hl 0 rfl) ?_
  refine r_cv (va_runV (As := []) (rest := []) ⟨hx, hb, hml, hown, hts⟩ (c_X11_layHand hi  s0 _ hv H.size) (cwV 0 hts gX11_when_X11_layHand rfl rfl rfl (by decide +kernel) ⟨Nat.le_of_ble_eq_true rfl, Nat.le_of_ble_eq_true rfl⟩) ⟨pre_blind, r_recv hK.1 hP 0 (by decide) (ceMo_0 (s0 0)) rfl, pre_of hP hK⟩ rfl rfl hl.1 rfl (lv_room (Nat.le_of_ble_eq_true rfl)) dX11_when_21 ⟨Nat.zero_le _, Nat.zero_le _⟩) hS (fun s1 H locs hv hP hS => ?_)
  have hD := wd_D (s := s) (cel := celM ad cA cZ) (σ := s1) hi
  refine lv_iconst (v := 0) hx hb dX11_when_24 (by decide) ?_
  refine lv_istore_n (lv' := [(2, .int 0), (0, .ref (ad 0)), (1, .int a1)]) hx hb dX11_when_25 rfl hl (by decide) rfl (fun ls hl => ?_)
  exact hY 26 [0] [] s1 hv _ _ rfl H locs ls hP hS (lv_sub hl [1, 2, 0] rfl)
set_option maxHeartbeats 4000000 in
set_option maxRecDepth 100000 in
theorem w_X11_when_26 {p : Program} {l : Launch} {e : Env} {s : State} {m : MethodId} {args : Array Value} {below : List Frame} {meth : Method} {c : Code} {dC : Nat → ClassId} {dI : Nat → Nat → Nat} {ad : Nat → Nat} {cA cZ : ClassId} (hi : Inj 12 ad) (a1 : Int32)  (C0 : Cx cX11_when RX11 wsX11_when 3 (some .int) p s m args meth c) (hK : KK dC dI cA cZ s) (Q : Int32 → St → Prop) (Y : Nat → List Int32 → List Int64 → St → Prop) (hY : ∀ P xs ys σ, Y P xs ys σ → XX p l e ({ frames := 4, cells := 0, slots := 0, locals := 94 } : Room) s m args below meth c (dC, dI) 12 ad (celM ad cA cZ) 3 (ZI below args s (dC, dI) 12 ad (celM ad cA cZ) Q) (lay_X11_when ad a1) P xs ys σ) (x2 : Int32) (s0 : St) (hv : B_X11_when_26 a1 Q Y x2 s0) {H : Heap} {locs : List Loc} {ls : Array Slot} (hP : va_P (dC, dI) vwCl (wd 12 ad (celM ad cA cZ) s0) H) (hS : va_S (AA 12 ad s.heap.size) s.heap H locs) (hl : lv_has ls 3 [(0, .ref (ad 0)), (1, .int a1), (2, .int x2)]) : W p l e ({ frames := 4, cells := 0, slots := 0, locals := 94 } : Room) s m args below meth c H locs 0 0 (ZI below args s (dC, dI) 12 ad (celM ad cA cZ) Q) (F0 m 26 ls []) := by
  obtain ⟨hx, hb, hml, hown, hts, hr, hlocks⟩ := C0
  have hD := wd_D (s := s) (cel := celM ad cA cZ) (σ := s0) hi
  unfold B_X11_when_26 at hv
  refine lv_iload_n hx hb dX11_when_26 rfl (lv_at hl 2 rfl) ?_
  refine lv_bipush (v := 60) hx hb dX11_when_27 (by decide) ?_
  refine lv_icmp_gt (tgt := 85) hx hb dX11_when_29 (by decide) (fun c29 => ?_) (fun c29 => ?_)
  · have hv := hv.1 c29
    refine lv_iconst (v := (-1)) hx hb dX11_when_85 (by decide) ?_
    exact r_iret hx hb hr hlocks hv hP hS dX11_when_86
  · have hv := hv.2 c29
    refine lv_iload_n hx hb dX11_when_32 rfl (lv_at hl 1 rfl) ?_
    refine lv_iconst (v := (-1)) hx hb dX11_when_33 (by decide) ?_
    refine lv_icmp_ne (tgt := 56) hx hb dX11_when_34 (by decide) (fun c34 => ?_) (fun c34 => ?_)
    · have hv := hv.1 c34
      refine lv_aload_n hx hb dX11_when_56 rfl (lv_at hl 0 rfl) ?_
      refine r_get hx hb hts (iwX11_when_X11) hown hK.1 hP 0 (by decide) (ceMo_0 (s0 0)) rfl 6 (by decide) (hts _ kX11_when_1) (v := .ref (ad 5)) rfl dX11_when_57 ?_
      refine lv_bipush (v := 6) hx hb dX11_when_60 (by decide) ?_
      refine lv_iload_n hx hb dX11_when_62 rfl (lv_at hl 1 rfl) ?_
      refine lv_iadd hx hb dX11_when_63 ?_
      obtain ⟨hin, hv⟩ := hv
      refine r_iald hx hb hK.1 hP 5 (by decide) (ceMo_5 (s0 5)) hin dX11_when_64 ?_
      refine lv_bipush (v := 23) hx hb dX11_when_65 (by decide) ?_
      refine lv_icmp_ne (tgt := 72) hx hb dX11_when_67 (by decide) (fun c67 => ?_) (fun c67 => ?_)
      · have hv := hv.1 c67
        exact hY 72 [x2] [] s0 hv _ _ rfl H locs ls hP hS (lv_sub hl [0, 1, 2] rfl)
      · have hv := hv.2 c67
        refine lv_iload_n hx hb dX11_when_70 rfl (lv_at hl 2 rfl) ?_
        exact r_iret hx hb hr hlocks hv hP hS dX11_when_71
    · have hv := hv.2 c34
      refine lv_aload_n hx hb dX11_when_37 rfl (lv_at hl 0 rfl) ?_
      refine r_get hx hb hts (iwX11_when_X11) hown hK.1 hP 0 (by decide) (ceMo_0 (s0 0)) rfl 6 (by decide) (hts _ kX11_when_1) (v := .ref (ad 5)) rfl dX11_when_38 ?_
      refine lv_bipush (v := 23) hx hb dX11_when_41 (by decide) ?_
      refine r_ci (va_runS (As := [.ref (ad 5), .int 23]) (rest := []) ⟨hx, hb, hml, hown, hts⟩ (c_X11_manyAt hi 5 43 23 arM_5 s0 _ hv H.size) (va_cwS 2 hts gX11_when_X11_manyAt rfl rfl rfl (by decide +kernel) ⟨Nat.le_of_ble_eq_true rfl, Nat.le_of_ble_eq_true rfl⟩) ⟨pre_blind, pre_of hP hK⟩ rfl rfl hl.1 rfl (lv_room (Nat.le_of_ble_eq_true rfl)) dX11_when_43 ⟨Nat.zero_le _, Nat.zero_le _⟩) hS (fun r1 s1 H locs hv hP hS => ?_)
      have hD := wd_D (s := s) (cel := celM ad cA cZ) (σ := s1) hi
      refine lv_aload_n hx hb dX11_when_46 rfl (lv_at hl 0 rfl) ?_
      refine r_ci (va_runV (As := []) (rest := [.int r1]) ⟨hx, hb, hml, hown, hts⟩ (c_X11_many hi  s1 _ hv H.size) (cwV 0 hts gX11_when_X11_many rfl rfl rfl (by decide +kernel) ⟨Nat.le_of_ble_eq_true rfl, Nat.le_of_ble_eq_true rfl⟩) ⟨pre_blind, r_recv hK.1 hP 0 (by decide) (ceMo_0 (s1 0)) rfl, pre_of hP hK⟩ rfl rfl hl.1 rfl (lv_room (Nat.le_of_ble_eq_true rfl)) dX11_when_47 ⟨Nat.zero_le _, Nat.zero_le _⟩) hS (fun r2 s2 H locs hv hP hS => ?_)
      have hD := wd_D (s := s) (cel := celM ad cA cZ) (σ := s2) hi
      refine lv_icmp_ne (tgt := 72) hx hb dX11_when_50 (by decide) (fun c50 => ?_) (fun c50 => ?_)
      · have hv := hv.1 c50
        exact hY 72 [x2] [] s2 hv _ _ rfl H locs ls hP hS (lv_sub hl [0, 1, 2] rfl)
      · have hv := hv.2 c50
        refine lv_goto (tgt := 70) hx hb dX11_when_53 (by decide) ?_
        refine lv_iload_n hx hb dX11_when_70 rfl (lv_at hl 2 rfl) ?_
        exact r_iret hx hb hr hlocks hv hP hS dX11_when_71
set_option maxHeartbeats 4000000 in
set_option maxRecDepth 100000 in
theorem w_X11_when_72 {p : Program} {l : Launch} {e : Env} {s : State} {m : MethodId} {args : Array Value} {below : List Frame} {meth : Method} {c : Code} {dC : Nat → ClassId} {dI : Nat → Nat → Nat} {ad : Nat → Nat} {cA cZ : ClassId} (hi : Inj 12 ad) (a1 : Int32)  (C0 : Cx cX11_when RX11 wsX11_when 3 (some .int) p s m args meth c) (hK : KK dC dI cA cZ s) (Q : Int32 → St → Prop) (Y : Nat → List Int32 → List Int64 → St → Prop) (hY : ∀ P xs ys σ, Y P xs ys σ → XX p l e ({ frames := 4, cells := 0, slots := 0, locals := 94 } : Room) s m args below meth c (dC, dI) 12 ad (celM ad cA cZ) 3 (ZI below args s (dC, dI) 12 ad (celM ad cA cZ) Q) (lay_X11_when ad a1) P xs ys σ) (x2 : Int32) (s0 : St) (hv : B_X11_when_72 a1 Q Y x2 s0) {H : Heap} {locs : List Loc} {ls : Array Slot} (hP : va_P (dC, dI) vwCl (wd 12 ad (celM ad cA cZ) s0) H) (hS : va_S (AA 12 ad s.heap.size) s.heap H locs) (hl : lv_has ls 3 [(0, .ref (ad 0)), (1, .int a1), (2, .int x2)]) : W p l e ({ frames := 4, cells := 0, slots := 0, locals := 94 } : Room) s m args below meth c H locs 0 0 (ZI below args s (dC, dI) 12 ad (celM ad cA cZ) Q) (F0 m 72 ls []) := by
  obtain ⟨hx, hb, hml, hown, hts, hr, hlocks⟩ := C0
  have hD := wd_D (s := s) (cel := celM ad cA cZ) (σ := s0) hi
  unfold B_X11_when_72 at hv
  refine lv_aload_n hx hb dX11_when_72 rfl (lv_at hl 0 rfl) ?_
  refine r_get hx hb hts (iwX11_when_X11) hown hK.1 hP 0 (by decide) (ceMo_0 (s0 0)) rfl 6 (by decide) (hts _ kX11_when_1) (v := .ref (ad 5)) rfl dX11_when_73 ?_
  refine r_cv (va_runS (As := [.ref (ad 5)]) (rest := []) ⟨hx, hb, hml, hown, hts⟩ (c_X11_goHour hi 5 43 arM_5 s0 _ hv H.size) (va_cwS 1 hts gX11_when_X11_goHour rfl rfl rfl (by decide +kernel) ⟨Nat.le_of_ble_eq_true rfl, Nat.le_of_ble_eq_true rfl⟩) ⟨pre_blind, pre_of hP hK⟩ rfl rfl hl.1 rfl (lv_room (Nat.le_of_ble_eq_true rfl)) dX11_when_76 ⟨Nat.zero_le _, Nat.zero_le _⟩) hS (fun s1 H locs hv hP hS => ?_)
  have hD := wd_D (s := s) (cel := celM ad cA cZ) (σ := s1) hi
  refine lv_iinc (v := x2 + 1) (lv' := [(2, .int (x2 + 1)), (0, .ref (ad 0)), (1, .int a1)]) hx hb dX11_when_79 hl (k := 2) rfl rfl (by decide) rfl (fun ls hl => ?_)
  refine lv_goto (tgt := 26) hx hb dX11_when_82 (by decide) ?_
  exact hY 26 [x2 + 1] [] s1 hv _ _ rfl H locs ls hP hS (lv_sub hl [1, 2, 0] rfl)
set_option maxHeartbeats 4000000 in
theorem y_X11_when {p : Program} {l : Launch} {e : Env} {s : State} {m : MethodId} {args : Array Value} {below : List Frame} {meth : Method} {c : Code} {dC : Nat → ClassId} {dI : Nat → Nat → Nat} {ad : Nat → Nat} {cA cZ : ClassId} (hi : Inj 12 ad) (a1 : Int32)  (C0 : Cx cX11_when RX11 wsX11_when 3 (some .int) p s m args meth c) (hK : KK dC dI cA cZ s) (Q : Int32 → St → Prop) : ∀ P xs ys σ, R_X11_when a1 Q P xs ys σ → XX p l e ({ frames := 4, cells := 0, slots := 0, locals := 94 } : Room) s m args below meth c (dC, dI) 12 ad (celM ad cA cZ) 3 (ZI below args s (dC, dI) 12 ad (celM ad cA cZ) Q) (lay_X11_when ad a1) P xs ys σ := by
  refine Fx.elim _ (fun P xs ys σ Y hY hB => ?_)
  rcases hB with ⟨rfl, rfl, rfl, hB⟩ | ⟨rfl, x2, rfl, rfl, hB⟩ | ⟨rfl, x2, rfl, rfl, hB⟩
  · intro lv st he H locs ls hP hS hl
    cases he
    exact w_X11_when_20 hi a1  C0 hK Q Y hY  σ hB hP hS hl
  · intro lv st he H locs ls hP hS hl
    cases he
    exact w_X11_when_26 hi a1  C0 hK Q Y hY x2 σ hB hP hS hl
  · intro lv st he H locs ls hP hS hl
    cases he
    exact w_X11_when_72 hi a1  C0 hK Q Y hY x2 σ hB hP hS hl
set_option maxHeartbeats 4000000 in
theorem c_X11_when {l : Launch} {dC : Nat → ClassId} {dI : Nat → Nat → Nat} {ad : Nat → Nat} {cA cZ : ClassId} (hi : Inj 12 ad) (a1 : Int32)  (s0 : St) (Q : Int32 → St → Prop) (hv : V_X11_when a1 s0 Q) (sz : Nat) : Met l yX11_when wsX11_when ({ frames := 4, cells := 0, slots := 0, locals := 94 } : Room) (va_Pc [.ref (ad 0), .int a1] (PW dC dI ad cA cZ 12 (celM ad cA cZ) sz s0)) (va_Qi Q (fun u t => va_P (dC, dI) vwCl (wd 12 ad (celM ad cA cZ) u) t.heap) (AA 12 ad sz)) 0 0 (AA 12 ad sz) := by
  refine Met.ofW (cc := cX11_when) (maxL := 3) (ret := (some .int)) (by decide) rfl ?_
  intro p e s m args below meth c s₁ B hml hv0
  obtain ⟨rfl, hsz, hP, hK⟩ := hv0
  subst hsz
  have C0 : Cx cX11_when RX11 wsX11_when 3 (some .int) p s m ([.ref (ad 0), .int a1] : List Value).toArray meth c := ⟨B.exec, B.bytes, hml, findClass_of_methodNamed B.named, atoms_spec (ws := wsX11_when) B.pre, B.returns, B.notSynchronized⟩
  have hl := lv_entry ([.ref (ad 0), .int a1]) (n := 3) (Nat.le_of_ble_eq_true rfl)
  rw [lg_entry_eq]
  generalize (lg_sl ([.ref (ad 0), .int a1]) ++ List.replicate (3 - (lg_sl ([.ref (ad 0), .int a1])).length) Slot.unset).toArray = ls at hl ⊢
  have hl : lv_has ls 3 [(0, .ref (ad 0)), (1, .int a1)] := hl
  exact w_X11_when_e hi a1  C0 hK Q (R_X11_when a1 Q) (y_X11_when hi a1  C0 hK Q)  s0 hv hP va_S.rf hl
def lay_X11_isPair (ad : Nat → Nat) (a1 : Int32) (a2 : Int32) : Nat → List Int32 → List Int64 → Option (List (Nat × Value) × List Value) := fun P xs ys => match P, xs, ys with
  | _, _, _ => none
set_option maxHeartbeats 4000000 in
set_option maxRecDepth 100000 in
theorem w_X11_isPair_e {p : Program} {l : Launch} {e : Env} {s : State} {m : MethodId} {args : Array Value} {below : List Frame} {meth : Method} {c : Code} {dC : Nat → ClassId} {dI : Nat → Nat → Nat} {ad : Nat → Nat} {cA cZ : ClassId} (hi : Inj 12 ad) (a1 : Int32) (a2 : Int32)  (C0 : Cx cX11_isPair RX11 wsX11_isPair 4 (some .boolean) p s m args meth c) (hK : KK dC dI cA cZ s) (Q : Int32 → St → Prop) (Y : Nat → List Int32 → List Int64 → St → Prop) (hY : ∀ P xs ys σ, Y P xs ys σ → XX p l e ({ frames := 1, cells := 0, slots := 0, locals := 25 } : Room) s m args below meth c (dC, dI) 12 ad (celM ad cA cZ) 4 (ZZ below args s (dC, dI) 12 ad (celM ad cA cZ) Q) (lay_X11_isPair ad a1 a2) P xs ys σ)  (s0 : St) (hv : B_X11_isPair_e a1 a2 Q Y  s0) {H : Heap} {locs : List Loc} {ls : Array Slot} (hP : va_P (dC, dI) vwCl (wd 12 ad (celM ad cA cZ) s0) H) (hS : va_S (AA 12 ad s.heap.size) s.heap H locs) (hl : lv_has ls 4 [(0, .ref (ad 0)), (1, .int a1), (2, .int a2)]) : W p l e ({ frames := 1, cells := 0, slots := 0, locals := 25 } : Room) s m args below meth c H locs 0 0 (ZZ below args s (dC, dI) 12 ad (celM ad cA cZ) Q) (F0 m 0 ls []) := by
  obtain ⟨hx, hb, hml, hown, hts, hr, hlocks⟩ := C0
  have hD := wd_D (s := s) (cel := celM ad cA cZ) (σ := s0) hi
  unfold B_X11_isPair_e at hv
  refine lv_aload_n hx hb dX11_isPair_0 rfl (lv_at hl 0 rfl) ?_
  refine r_get hx hb hts (iwX11_isPair_X11) hown hK.1 hP 0 (by decide) (ceMo_0 (s0 0)) rfl 0 (by decide) (hts _ kX11_isPair_1) (v := .ref (ad 1)) rfl dX11_isPair_1 ?_
  refine lv_bipush (v := 30) hx hb dX11_isPair_4 (by decide) ?_
  refine lv_iload_n hx hb dX11_isPair_6 rfl (lv_at hl 1 rfl) ?_
  refine lv_iadd hx hb dX11_isPair_7 ?_
  obtain ⟨hin, hv⟩ := hv
  refine r_iald hx hb hK.1 hP 1 (by decide) (ceMo_1 (s0 1)) hin dX11_isPair_8 ?_
  refine lv_aload_n hx hb dX11_isPair_9 rfl (lv_at hl 0 rfl) ?_
  refine r_get hx hb hts (iwX11_isPair_X11) hown hK.1 hP 0 (by decide) (ceMo_0 (s0 0)) rfl 0 (by decide) (hts _ kX11_isPair_1) (v := .ref (ad 1)) rfl dX11_isPair_10 ?_
  refine lv_bipush (v := 30) hx hb dX11_isPair_13 (by decide) ?_
  refine lv_iload_n hx hb dX11_isPair_15 rfl (lv_at hl 2 rfl) ?_
  refine lv_iadd hx hb dX11_isPair_16 ?_
  obtain ⟨hin, hv⟩ := hv
  refine r_iald hx hb hK.1 hP 1 (by decide) (ceMo_1 (s0 1)) hin dX11_isPair_17 ?_
  refine lv_isub hx hb dX11_isPair_18 ?_
  refine lv_topi (fun v1 ev1 => ?_)
  have hv := hv v1 ev1
  refine lv_istore_n (lv' := [(3, .int v1), (0, .ref (ad 0)), (1, .int a1), (2, .int a2)]) hx hb dX11_isPair_19 rfl hl (by decide) rfl (fun ls hl => ?_)
  refine lv_aload_n hx hb dX11_isPair_20 rfl (lv_at hl 1 rfl) ?_
  refine r_get hx hb hts (iwX11_isPair_X11) hown hK.1 hP 0 (by decide) (ceMo_0 (s0 0)) rfl 0 (by decide) (hts _ kX11_isPair_1) (v := .ref (ad 1)) rfl dX11_isPair_21 ?_
  refine lv_bipush (v := 22) hx hb dX11_isPair_24 (by decide) ?_
  refine lv_iload_n hx hb dX11_isPair_26 rfl (lv_at hl 2 rfl) ?_
  refine lv_iadd hx hb dX11_isPair_27 ?_
  obtain ⟨hin, hv⟩ := hv
  refine r_iald hx hb hK.1 hP 1 (by decide) (ceMo_1 (s0 1)) hin dX11_isPair_28 ?_
  refine lv_aload_n hx hb dX11_isPair_29 rfl (lv_at hl 1 rfl) ?_
  refine r_get hx hb hts (iwX11_isPair_X11) hown hK.1 hP 0 (by decide) (ceMo_0 (s0 0)) rfl 0 (by decide) (hts _ kX11_isPair_1) (v := .ref (ad 1)) rfl dX11_isPair_30 ?_
  refine lv_bipush (v := 22) hx hb dX11_isPair_33 (by decide) ?_
  refine lv_iload_n hx hb dX11_isPair_35 rfl (lv_at hl 3 rfl) ?_
  refine lv_iadd hx hb dX11_isPair_36 ?_
  obtain ⟨hin, hv⟩ := hv
  refine r_iald hx hb hK.1 hP 1 (by decide) (ceMo_1 (s0 1)) hin dX11_isPair_37 ?_
  refine lv_icmp_ne (tgt := 57) hx hb dX11_isPair_38 (by decide) (fun c38 => ?_) (fun c38 => ?_)
  · have hv := hv.1 c38
    refine lv_iconst (v := 0) hx hb dX11_isPair_57 (by decide) ?_
    exact r_zret hx hb hr hlocks (Or.inl rfl) hv hP hS dX11_isPair_58
  · have hv := hv.2 c38
    refine lv_iload_n hx hb dX11_isPair_41 rfl (lv_at hl 0 rfl) ?_
    refine lv_i2l (v := v1.toInt64) hx hb dX11_isPair_42 rfl ?_
    refine lv_ldc2 (v := (-1)) hx hb hown (hts _ kX11_isPair_2) dX11_isPair_43 ?_
    refine lv_lconst (v := 1) hx hb dX11_isPair_46 (by decide) ?_
    refine r_ci (va_runS (As := [.long v1.toInt64, .long ((-1)), .long 1]) (rest := []) ⟨hx, hb, hml, hown, hts⟩ (c_X11_in hi v1.toInt64 ((-1)) 1 s0 _ hv H.size) (va_cwS 3 hts gX11_isPair_X11_in rfl rfl rfl (by decide +kernel) ⟨Nat.le_of_ble_eq_true rfl, Nat.le_of_ble_eq_true rfl⟩) ⟨pre_blind, pre_of hP hK⟩ rfl rfl hl.1 rfl (lv_room (Nat.le_of_ble_eq_true rfl)) dX11_isPair_47 ⟨Nat.zero_le _, Nat.zero_le _⟩) hS (fun r2 s2 H locs hv hP hS => ?_)
    obtain ⟨hz_r2, hv⟩ := hv
    have hD := wd_D (s := s) (cel := celM ad cA cZ) (σ := s2) hi
    refine lv_if_eq (tgt := 57) hx hb dX11_isPair_50 (by decide) (fun c50 => ?_) (fun c50 => ?_)
    · have hv := hv.1 c50
      refine lv_iconst (v := 0) hx hb dX11_isPair_57 (by decide) ?_
      exact r_zret hx hb hr hlocks (Or.inl rfl) hv hP hS dX11_isPair_58
    · have hv := hv.2 c50
      refine lv_iconst (v := 1) hx hb dX11_isPair_53 (by decide) ?_
      refine lv_goto (tgt := 58) hx hb dX11_isPair_54 (by decide) ?_
      exact r_zret hx hb hr hlocks (Or.inr rfl) hv hP hS dX11_isPair_58
set_option maxHeartbeats 4000000 in
theorem y_X11_isPair {p : Program} {l : Launch} {e : Env} {s : State} {m : MethodId} {args : Array Value} {below : List Frame} {meth : Method} {c : Code} {dC : Nat → ClassId} {dI : Nat → Nat → Nat} {ad : Nat → Nat} {cA cZ : ClassId} (hi : Inj 12 ad) (a1 : Int32) (a2 : Int32)  (C0 : Cx cX11_isPair RX11 wsX11_isPair 4 (some .boolean) p s m args meth c) (hK : KK dC dI cA cZ s) (Q : Int32 → St → Prop) : ∀ P xs ys σ, R_X11_isPair a1 a2 Q P xs ys σ → XX p l e ({ frames := 1, cells := 0, slots := 0, locals := 25 } : Room) s m args below meth c (dC, dI) 12 ad (celM ad cA cZ) 4 (ZZ below args s (dC, dI) 12 ad (celM ad cA cZ) Q) (lay_X11_isPair ad a1 a2) P xs ys σ := by
  refine Fx.elim _ (fun P xs ys σ Y hY hB => ?_)
  exact hB.elim
set_option maxHeartbeats 4000000 in
theorem c_X11_isPair {l : Launch} {dC : Nat → ClassId} {dI : Nat → Nat → Nat} {ad : Nat → Nat} {cA cZ : ClassId} (hi : Inj 12 ad) (a1 : Int32) (a2 : Int32)  (s0 : St) (Q : Int32 → St → Prop) (hv : V_X11_isPair a1 a2 s0 Q) (sz : Nat) : Met l yX11_isPair wsX11_isPair ({ frames := 1, cells := 0, slots := 0, locals := 25 } : Room) (va_Pc [.ref (ad 0), .int a1, .int a2] (PW dC dI ad cA cZ 12 (celM ad cA cZ) sz s0)) (va_Qi (fun r u => (r = 0 ∨ r = 1) ∧ Q r u) (fun u t => va_P (dC, dI) vwCl (wd 12 ad (celM ad cA cZ) u) t.heap) (AA 12 ad sz)) 0 0 (AA 12 ad sz) := by
  refine Met.ofW (cc := cX11_isPair) (maxL := 4) (ret := (some .boolean)) (by decide) rfl ?_
  intro p e s m args below meth c s₁ B hml hv0
  obtain ⟨rfl, hsz, hP, hK⟩ := hv0
  subst hsz
  have C0 : Cx cX11_isPair RX11 wsX11_isPair 4 (some .boolean) p s m ([.ref (ad 0), .int a1, .int a2] : List Value).toArray meth c := ⟨B.exec, B.bytes, hml, findClass_of_methodNamed B.named, atoms_spec (ws := wsX11_isPair) B.pre, B.returns, B.notSynchronized⟩
  have hl := lv_entry ([.ref (ad 0), .int a1, .int a2]) (n := 4) (Nat.le_of_ble_eq_true rfl)
  rw [lg_entry_eq]
  generalize (lg_sl ([.ref (ad 0), .int a1, .int a2]) ++ List.replicate (4 - (lg_sl ([.ref (ad 0), .int a1, .int a2])).length) Slot.unset).toArray = ls at hl ⊢
  have hl : lv_has ls 4 [(0, .ref (ad 0)), (1, .int a1), (2, .int a2)] := hl
  exact w_X11_isPair_e hi a1 a2  C0 hK Q (R_X11_isPair a1 a2 Q) (y_X11_isPair hi a1 a2  C0 hK Q)  s0 hv hP va_S.rf hl
def lay_X11_layMost (ad : Nat → Nat)  : Nat → List Int32 → List Int64 → Option (List (Nat × Value) × List Value) := fun P xs ys => match P, xs, ys with
  | 2, [x1], [] => some ([(0, .ref (ad 0)), (1, .int x1)], [])
  | 21, [x1, x2], [] => some ([(0, .ref (ad 0)), (1, .int x1), (2, .int x2)], [])
  | 39, [x1, x2], [] => some ([(0, .ref (ad 0)), (1, .int x1), (2, .int x2)], [])
  | 72, [x1, x2, x3, x4], [] => some ([(0, .ref (ad 0)), (1, .int x1), (2, .int x2), (3, .int x3), (4, .int x4)], [])
  | 123, [x1, x2, x3, x4, t0], [] => some ([(0, .ref (ad 0)), (1, .int x1), (2, .int x2), (3, .int x3), (4, .int x4)], [.int t0])
  | _, _, _ => none
set_option maxHeartbeats 4000000 in
set_option maxRecDepth 100000 in
theorem w_X11_layMost_e {p : Program} {l : Launch} {e : Env} {s : State} {m : MethodId} {args : Array Value} {below : List Frame} {meth : Method} {c : Code} {dC : Nat → ClassId} {dI : Nat → Nat → Nat} {ad : Nat → Nat} {cA cZ : ClassId} (hi : Inj 12 ad)   (C0 : Cx cX11_layMost RX11 wsX11_layMost 6 none p s m args meth c) (hK : KK dC dI cA cZ s) (Q : St → Prop) (Y : Nat → List Int32 → List Int64 → St → Prop) (hY : ∀ P xs ys σ, Y P xs ys σ → XX p l e ({ frames := 2, cells := 0, slots := 0, locals := 48 } : Room) s m args below meth c (dC, dI) 12 ad (celM ad cA cZ) 6 (ZV below args s (dC, dI) 12 ad (celM ad cA cZ) Q) (lay_X11_layMost ad ) P xs ys σ)  (s0 : St) (hv : B_X11_layMost_e  Q Y  s0) {H : Heap} {locs : List Loc} {ls : Array Slot} (hP : va_P (dC, dI) vwCl (wd 12 ad (celM ad cA cZ) s0) H) (hS : va_S (AA 12 ad s.heap.size) s.heap H locs) (hl : lv_has ls 6 [(0, .ref (ad 0))]) : W p l e ({ frames := 2, cells := 0, slots := 0, locals := 48 } : Room) s m args below meth c H locs 0 0 (ZV below args s (dC, dI) 12 ad (celM ad cA cZ) Q) (F0 m 0 ls []) := by
  obtain ⟨hx, hb, hml, hown, hts, hr, hlocks⟩ := C0
  have hD := wd_D (s := s) (cel := celM ad cA cZ) (σ := s0) hi
  unfold B_X11_layMost_e at hv
  refine lv_iconst (v := 0) hx hb dX11_layMost_0 (by decide) ?_
  refine lv_istore_n (lv' := [(1, .int 0), (0, .ref (ad 0))]) hx hb dX11_layMost_1 rfl hl (by decide) rfl (fun ls hl => ?_)
  exact hY 2 [0] [] s0 hv _ _ rfl H locs ls hP hS (lv_sub hl [1, 0] rfl)
set_option maxHeartbeats 4000000 in
set_option maxRecDepth 100000 in
theorem w_X11_layMost_2 {p : Program} {l : Launch} {e : Env} {s : State} {m : MethodId} {args : Array Value} {below : List Frame} {meth : Method} {c : Code} {dC : Nat → ClassId} {dI : Nat → Nat → Nat} {ad : Nat → Nat} {cA cZ : ClassId} (hi : Inj 12 ad)   (C0 : Cx cX11_layMost RX11 wsX11_layMost 6 none p s m args meth c) (hK : KK dC dI cA cZ s) (Q : St → Prop) (Y : Nat → List Int32 → List Int64 → St → Prop) (hY : ∀ P xs ys σ, Y P xs ys σ → XX p l e ({ frames := 2, cells := 0, slots := 0, locals := 48 } : Room) s m args below meth c (dC, dI) 12 ad (celM ad cA cZ) 6 (ZV below args s (dC, dI) 12 ad (celM ad cA cZ) Q) (lay_X11_layMost ad ) P xs ys σ) (x1 : Int32) (s0 : St) (hv : B_X11_layMost_2  Q Y x1 s0) {H : Heap} {locs : List Loc} {ls : Array Slot} (hP : va_P (dC, dI) vwCl (wd 12 ad (celM ad cA cZ) s0) H) (hS : va_S (AA 12 ad s.heap.size) s.heap H locs) (hl : lv_has ls 6 [(0, .ref (ad 0)), (1, .int x1)]) : W p l e ({ frames := 2, cells := 0, slots := 0, locals := 48 } : Room) s m args below meth c H locs 0 0 (ZV below args s (dC, dI) 12 ad (celM ad cA cZ) Q) (F0 m 2 ls []) := by
  obtain ⟨hx, hb, hml, hown, hts, hr, hlocks⟩ := C0
  have hD := wd_D (s := s) (cel := celM ad cA cZ) (σ := s0) hi
  unfold B_X11_layMost_2 at hv
  refine lv_iload_n hx hb dX11_layMost_2 rfl (lv_at hl 1 rfl) ?_
  refine lv_iconst (v := 1) hx hb dX11_layMost_3 (by decide) ?_
  refine lv_aload_n hx hb dX11_layMost_4 rfl (lv_at hl 0 rfl) ?_
  refine r_ci (va_runV (As := []) (rest := [.int 1, .int x1]) ⟨hx, hb, hml, hown, hts⟩ (c_X11_many hi  s0 _ hv H.size) (cwV 0 hts gX11_layMost_X11_many rfl rfl rfl (by decide +kernel) ⟨Nat.le_of_ble_eq_true rfl, Nat.le_of_ble_eq_true rfl⟩) ⟨pre_blind, r_recv hK.1 hP 0 (by decide) (ceMo_0 (s0 0)) rfl, pre_of hP hK⟩ rfl rfl hl.1 rfl (lv_room (Nat.le_of_ble_eq_true rfl)) dX11_layMost_5 ⟨Nat.zero_le _, Nat.zero_le _⟩) hS (fun r1 s1 H locs hv hP hS => ?_)
  have hD := wd_D (s := s) (cel := celM ad cA cZ) (σ := s1) hi
  refine lv_ishl hx hb dX11_layMost_8 ?_
  refine lv_icmp_ge (tgt := 165) hx hb dX11_layMost_9 (by decide) (fun c9 => ?_) (fun c9 => ?_)
  · have hv := hv.1 c9
    exact r_vret hx hb hr hlocks hv hP hS dX11_layMost_165
  · have hv := hv.2 c9
    refine lv_iconst (v := 0) hx hb dX11_layMost_12 (by decide) ?_
    refine lv_istore_n (lv' := [(2, .int 0), (0, .ref (ad 0)), (1, .int x1)]) hx hb dX11_layMost_13 rfl hl (by decide) rfl (fun ls hl => ?_)
    refine lv_aload_n hx hb dX11_layMost_14 rfl (lv_at hl 1 rfl) ?_
    refine r_get hx hb hts (iwX11_layMost_X11) hown hK.1 hP 0 (by decide) (ceMo_0 (s1 0)) rfl 7 (by decide) (hts _ kX11_layMost_1) (v := .ref (ad 6)) rfl dX11_layMost_15 ?_
    refine lv_iload_n hx hb dX11_layMost_18 rfl (lv_at hl 2 rfl) ?_
    refine lv_iconst (v := 0) hx hb dX11_layMost_19 (by decide) ?_
    obtain ⟨hin, hv⟩ := hv
    refine r_iast hx hb hK.1 hP hD hS 6 (by decide) (ceMo_6 (s1 6)) (ceMo_6 _) hin dX11_layMost_20 (fun H locs s2 es2 hP hD hS => ?_)
    have hv := hv s2 es2
    exact hY 21 [x1, 0] [] s2 hv _ _ rfl H locs ls hP hS (lv_sub hl [1, 2, 0] rfl)
set_option maxHeartbeats 4000000 in
set_option maxRecDepth 100000 in
theorem w_X11_layMost_21 {p : Program} {l : Launch} {e : Env} {s : State} {m : MethodId} {args : Array Value} {below : List Frame} {meth : Method} {c : Code} {dC : Nat → ClassId} {dI : Nat → Nat → Nat} {ad : Nat → Nat} {cA cZ : ClassId} (hi : Inj 12 ad)   (C0 : Cx cX11_layMost RX11 wsX11_layMost 6 none p s m args meth c) (hK : KK dC dI cA cZ s) (Q : St → Prop) (Y : Nat → List Int32 → List Int64 → St → Prop) (hY : ∀ P xs ys σ, Y P xs ys σ → XX p l e ({ frames := 2, cells := 0, slots := 0, locals := 48 } : Room) s m args below meth c (dC, dI) 12 ad (celM ad cA cZ) 6 (ZV below args s (dC, dI) 12 ad (celM ad cA cZ) Q) (lay_X11_layMost ad ) P xs ys σ) (x1 : Int32) (x2 : Int32) (s0 : St) (hv : B_X11_layMost_21  Q Y x1 x2 s0) {H : Heap} {locs : List Loc} {ls : Array Slot} (hP : va_P (dC, dI) vwCl (wd 12 ad (celM ad cA cZ) s0) H) (hS : va_S (AA 12 ad s.heap.size) s.heap H locs) (hl : lv_has ls 6 [(0, .ref (ad 0)), (1, .int x1), (2, .int x2)]) : W p l e ({ frames := 2, cells := 0, slots := 0, locals := 48 } : Room) s m args below meth c H locs 0 0 (ZV below args s (dC, dI) 12 ad (celM ad cA cZ) Q) (F0 m 21 ls []) := by
  obtain ⟨hx, hb, hml, hown, hts, hr, hlocks⟩ := C0
  have hD := wd_D (s := s) (cel := celM ad cA cZ) (σ := s0) hi
  unfold B_X11_layMost_21 at hv
  refine lv_iload_n hx hb dX11_layMost_21 rfl (lv_at hl 1 rfl) ?_
  refine lv_if_le (tgt := 39) hx hb dX11_layMost_22 (by decide) (fun c22 => ?_) (fun c22 => ?_)
  · have hv := hv.1 c22
    exact hY 39 [x1, x2] [] s0 hv _ _ rfl H locs ls hP hS (lv_sub hl [0, 1, 2] rfl)
  · have hv := hv.2 c22
    refine lv_iload_n hx hb dX11_layMost_25 rfl (lv_at hl 1 rfl) ?_
    refine lv_iload_n hx hb dX11_layMost_26 rfl (lv_at hl 2 rfl) ?_
    refine r_ci (va_runS (As := [.int x1, .int x2]) (rest := []) ⟨hx, hb, hml, hown, hts⟩ (c_X11_has hi x1 x2 s0 _ hv H.size) (va_cwS 2 hts gX11_layMost_X11_has rfl rfl rfl (by decide +kernel) ⟨Nat.le_of_ble_eq_true rfl, Nat.le_of_ble_eq_true rfl⟩) ⟨pre_blind, pre_of hP hK⟩ rfl rfl hl.1 rfl (lv_room (Nat.le_of_ble_eq_true rfl)) dX11_layMost_27 ⟨Nat.zero_le _, Nat.zero_le _⟩) hS (fun r1 s1 H locs hv hP hS => ?_)
    obtain ⟨hz_r1, hv⟩ := hv
    have hD := wd_D (s := s) (cel := celM ad cA cZ) (σ := s1) hi
    refine lv_if_ne (tgt := 39) hx hb dX11_layMost_30 (by decide) (fun c30 => ?_) (fun c30 => ?_)
    · have hv := hv.1 c30
      exact hY 39 [x1, x2] [] s1 hv _ _ rfl H locs ls hP hS (lv_sub hl [0, 1, 2] rfl)
    · have hv := hv.2 c30
      refine lv_iinc (v := x2 + 1) (lv' := [(2, .int (x2 + 1)), (0, .ref (ad 0)), (1, .int x1)]) hx hb dX11_layMost_33 hl (k := 2) rfl rfl (by decide) rfl (fun ls hl => ?_)
      refine lv_goto (tgt := 21) hx hb dX11_layMost_36 (by decide) ?_
      exact hY 21 [x1, x2 + 1] [] s1 hv _ _ rfl H locs ls hP hS (lv_sub hl [1, 2, 0] rfl)
set_option maxHeartbeats 4000000 in
set_option maxRecDepth 100000 in
theorem w_X11_layMost_39 {p : Program} {l : Launch} {e : Env} {s : State} {m : MethodId} {args : Array Value} {below : List Frame} {meth : Method} {c : Code} {dC : Nat → ClassId} {dI : Nat → Nat → Nat} {ad : Nat → Nat} {cA cZ : ClassId} (hi : Inj 12 ad)   (C0 : Cx cX11_layMost RX11 wsX11_layMost 6 none p s m args meth c) (hK : KK dC dI cA cZ s) (Q : St → Prop) (Y : Nat → List Int32 → List Int64 → St → Prop) (hY : ∀ P xs ys σ, Y P xs ys σ → XX p l e ({ frames := 2, cells := 0, slots := 0, locals := 48 } : Room) s m args below meth c (dC, dI) 12 ad (celM ad cA cZ) 6 (ZV below args s (dC, dI) 12 ad (celM ad cA cZ) Q) (lay_X11_layMost ad ) P xs ys σ) (x1 : Int32) (x2 : Int32) (s0 : St) (hv : B_X11_layMost_39  Q Y x1 x2 s0) {H : Heap} {locs : List Loc} {ls : Array Slot} (hP : va_P (dC, dI) vwCl (wd 12 ad (celM ad cA cZ) s0) H) (hS : va_S (AA 12 ad s.heap.size) s.heap H locs) (hl : lv_has ls 6 [(0, .ref (ad 0)), (1, .int x1), (2, .int x2)]) : W p l e ({ frames := 2, cells := 0, slots := 0, locals := 48 } : Room) s m args below meth c H locs 0 0 (ZV below args s (dC, dI) 12 ad (celM ad cA cZ) Q) (F0 m 39 ls []) := by
  obtain ⟨hx, hb, hml, hown, hts, hr, hlocks⟩ := C0
  have hD := wd_D (s := s) (cel := celM ad cA cZ) (σ := s0) hi
  unfold B_X11_layMost_39 at hv
  refine lv_iload_n hx hb dX11_layMost_39 rfl (lv_at hl 1 rfl) ?_
  refine lv_iconst (v := 1) hx hb dX11_layMost_40 (by decide) ?_
  refine lv_iload_n hx hb dX11_layMost_41 rfl (lv_at hl 2 rfl) ?_
  refine lv_ishl hx hb dX11_layMost_42 ?_
  refine lv_iconst (v := (-1)) hx hb dX11_layMost_43 (by decide) ?_
  refine lv_ixor hx hb dX11_layMost_44 ?_
  refine lv_iand hx hb dX11_layMost_45 ?_
  refine lv_topi (fun v1 ev1 => ?_)
  have hv := hv v1 ev1
  refine lv_istore_n (lv' := [(3, .int v1), (0, .ref (ad 0)), (1, .int x1), (2, .int x2)]) hx hb dX11_layMost_46 rfl hl (by decide) rfl (fun ls hl => ?_)
  refine lv_aload_n hx hb dX11_layMost_47 rfl (lv_at hl 1 rfl) ?_
  refine r_get hx hb hts (iwX11_layMost_X11) hown hK.1 hP 0 (by decide) (ceMo_0 (s0 0)) rfl 7 (by decide) (hts _ kX11_layMost_1) (v := .ref (ad 6)) rfl dX11_layMost_48 ?_
  refine lv_iload_n hx hb dX11_layMost_51 rfl (lv_at hl 2 rfl) ?_
  refine lv_iload_n hx hb dX11_layMost_52 rfl (lv_at hl 2 rfl) ?_
  refine lv_if_ne (tgt := 60) hx hb dX11_layMost_53 (by decide) (fun c53 => ?_) (fun c53 => ?_)
  · have hv := hv.1 c53
    refine lv_aload_n hx hb dX11_layMost_60 rfl (lv_at hl 1 rfl) ?_
    refine r_get hx hb hts (iwX11_layMost_X11) hown hK.1 hP 0 (by decide) (ceMo_0 (s0 0)) rfl 7 (by decide) (hts _ kX11_layMost_1) (v := .ref (ad 6)) rfl dX11_layMost_61 ?_
    refine lv_iload_n hx hb dX11_layMost_64 rfl (lv_at hl 0 rfl) ?_
    obtain ⟨hin, hv⟩ := hv
    refine r_iald hx hb hK.1 hP 6 (by decide) (ceMo_6 (s0 6)) hin dX11_layMost_65 ?_
    obtain ⟨hin, hv⟩ := hv
    refine r_iast hx hb hK.1 hP hD hS 6 (by decide) (ceMo_6 (s0 6)) (ceMo_6 _) hin dX11_layMost_66 (fun H locs s2 es2 hP hD hS => ?_)
    have hv := hv s2 es2
    refine lv_iload_n hx hb dX11_layMost_67 rfl (lv_at hl 3 rfl) ?_
    refine lv_iconst (v := 1) hx hb dX11_layMost_68 (by decide) ?_
    refine lv_iadd hx hb dX11_layMost_69 ?_
    refine lv_istore (lv' := [(4, .int (x2 + 1)), (3, .int v1), (0, .ref (ad 0)), (1, .int x1), (2, .int x2)]) hx hb dX11_layMost_70 hl (by decide) rfl (fun ls hl => ?_)
    exact hY 72 [x1, x2, v1, x2 + 1] [] s2 hv _ _ rfl H locs ls hP hS (lv_sub hl [2, 3, 4, 1, 0] rfl)
  · have hv := hv.2 c53
    refine lv_iconst (v := 0) hx hb dX11_layMost_56 (by decide) ?_
    refine lv_goto (tgt := 66) hx hb dX11_layMost_57 (by decide) ?_
    obtain ⟨hin, hv⟩ := hv
    refine r_iast hx hb hK.1 hP hD hS 6 (by decide) (ceMo_6 (s0 6)) (ceMo_6 _) hin dX11_layMost_66 (fun H locs s3 es3 hP hD hS => ?_)
    have hv := hv s3 es3
    refine lv_iload_n hx hb dX11_layMost_67 rfl (lv_at hl 3 rfl) ?_
    refine lv_iconst (v := 1) hx hb dX11_layMost_68 (by decide) ?_
    refine lv_iadd hx hb dX11_layMost_69 ?_
    refine lv_istore (lv' := [(4, .int (x2 + 1)), (3, .int v1), (0, .ref (ad 0)), (1, .int x1), (2, .int x2)]) hx hb dX11_layMost_70 hl (by decide) rfl (fun ls hl => ?_)
    exact hY 72 [x1, x2, v1, x2 + 1] [] s3 hv _ _ rfl H locs ls hP hS (lv_sub hl [2, 3, 4, 1, 0] rfl)
set_option maxHeartbeats 4000000 in
set_option maxRecDepth 100000 in
theorem w_X11_layMost_72 {p : Program} {l : Launch} {e : Env} {s : State} {m : MethodId} {args : Array Value} {below : List Frame} {meth : Method} {c : Code} {dC : Nat → ClassId} {dI : Nat → Nat → Nat} {ad : Nat → Nat} {cA cZ : ClassId} (hi : Inj 12 ad)   (C0 : Cx cX11_layMost RX11 wsX11_layMost 6 none p s m args meth c) (hK : KK dC dI cA cZ s) (Q : St → Prop) (Y : Nat → List Int32 → List Int64 → St → Prop) (hY : ∀ P xs ys σ, Y P xs ys σ → XX p l e ({ frames := 2, cells := 0, slots := 0, locals := 48 } : Room) s m args below meth c (dC, dI) 12 ad (celM ad cA cZ) 6 (ZV below args s (dC, dI) 12 ad (celM ad cA cZ) Q) (lay_X11_layMost ad ) P xs ys σ) (x1 : Int32) (x2 : Int32) (x3 : Int32) (x4 : Int32) (s0 : St) (hv : B_X11_layMost_72  Q Y x1 x2 x3 x4 s0) {H : Heap} {locs : List Loc} {ls : Array Slot} (hP : va_P (dC, dI) vwCl (wd 12 ad (celM ad cA cZ) s0) H) (hS : va_S (AA 12 ad s.heap.size) s.heap H locs) (hl : lv_has ls 6 [(0, .ref (ad 0)), (1, .int x1), (2, .int x2), (3, .int x3), (4, .int x4)]) : W p l e ({ frames := 2, cells := 0, slots := 0, locals := 48 } : Room) s m args below meth c H locs 0 0 (ZV below args s (dC, dI) 12 ad (celM ad cA cZ) Q) (F0 m 72 ls []) := by
  obtain ⟨hx, hb, hml, hown, hts, hr, hlocks⟩ := C0
  have hD := wd_D (s := s) (cel := celM ad cA cZ) (σ := s0) hi
  unfold B_X11_layMost_72 at hv
  refine lv_iload hx hb dX11_layMost_72 (lv_at hl 4 rfl) ?_
  refine lv_aload_n hx hb dX11_layMost_74 rfl (lv_at hl 0 rfl) ?_
  refine r_ci (va_runV (As := []) (rest := [.int x4]) ⟨hx, hb, hml, hown, hts⟩ (c_X11_many hi  s0 _ hv H.size) (cwV 0 hts gX11_layMost_X11_many rfl rfl rfl (by decide +kernel) ⟨Nat.le_of_ble_eq_true rfl, Nat.le_of_ble_eq_true rfl⟩) ⟨pre_blind, r_recv hK.1 hP 0 (by decide) (ceMo_0 (s0 0)) rfl, pre_of hP hK⟩ rfl rfl hl.1 rfl (lv_room (Nat.le_of_ble_eq_true rfl)) dX11_layMost_75 ⟨Nat.zero_le _, Nat.zero_le _⟩) hS (fun r1 s1 H locs hv hP hS => ?_)
  have hD := wd_D (s := s) (cel := celM ad cA cZ) (σ := s1) hi
  refine lv_icmp_ge (tgt := 159) hx hb dX11_layMost_78 (by decide) (fun c78 => ?_) (fun c78 => ?_)
  · have hv := hv.1 c78
    refine lv_iinc (v := x1 + 1) (lv' := [(1, .int (x1 + 1)), (0, .ref (ad 0)), (2, .int x2), (3, .int x3), (4, .int x4)]) hx hb dX11_layMost_159 hl (k := 1) rfl rfl (by decide) rfl (fun ls hl => ?_)
    refine lv_goto (tgt := 2) hx hb dX11_layMost_162 (by decide) ?_
    exact hY 2 [x1 + 1] [] s1 hv _ _ rfl H locs ls hP hS (lv_sub hl [1, 0] rfl)
  · have hv := hv.2 c78
    refine lv_iload_n hx hb dX11_layMost_81 rfl (lv_at hl 1 rfl) ?_
    refine lv_if_le (tgt := 159) hx hb dX11_layMost_82 (by decide) (fun c82 => ?_) (fun c82 => ?_)
    · have hv := hv.1 c82
      refine lv_iinc (v := x1 + 1) (lv' := [(1, .int (x1 + 1)), (0, .ref (ad 0)), (2, .int x2), (3, .int x3), (4, .int x4)]) hx hb dX11_layMost_159 hl (k := 1) rfl rfl (by decide) rfl (fun ls hl => ?_)
      refine lv_goto (tgt := 2) hx hb dX11_layMost_162 (by decide) ?_
      exact hY 2 [x1 + 1] [] s1 hv _ _ rfl H locs ls hP hS (lv_sub hl [1, 0] rfl)
    · have hv := hv.2 c82
      refine lv_iload_n hx hb dX11_layMost_85 rfl (lv_at hl 1 rfl) ?_
      refine lv_iload hx hb dX11_layMost_86 (lv_at hl 4 rfl) ?_
      refine r_ci (va_runS (As := [.int x1, .int x4]) (rest := []) ⟨hx, hb, hml, hown, hts⟩ (c_X11_has hi x1 x4 s1 _ hv H.size) (va_cwS 2 hts gX11_layMost_X11_has rfl rfl rfl (by decide +kernel) ⟨Nat.le_of_ble_eq_true rfl, Nat.le_of_ble_eq_true rfl⟩) ⟨pre_blind, pre_of hP hK⟩ rfl rfl hl.1 rfl (lv_room (Nat.le_of_ble_eq_true rfl)) dX11_layMost_88 ⟨Nat.zero_le _, Nat.zero_le _⟩) hS (fun r2 s2 H locs hv hP hS => ?_)
      obtain ⟨hz_r2, hv⟩ := hv
      have hD := wd_D (s := s) (cel := celM ad cA cZ) (σ := s2) hi
      refine lv_if_eq (tgt := 122) hx hb dX11_layMost_91 (by decide) (fun c91 => ?_) (fun c91 => ?_)
      · have hv := hv.1 c91
        refine lv_iconst (v := 0) hx hb dX11_layMost_122 (by decide) ?_
        exact hY 123 [x1, x2, x3, x4, 0] [] s2 hv _ _ rfl H locs ls hP hS (lv_sub hl [0, 1, 2, 3, 4] rfl)
      · have hv := hv.2 c91
        refine lv_aload_n hx hb dX11_layMost_94 rfl (lv_at hl 0 rfl) ?_
        refine lv_iload_n hx hb dX11_layMost_95 rfl (lv_at hl 2 rfl) ?_
        refine lv_iload hx hb dX11_layMost_96 (lv_at hl 4 rfl) ?_
        refine r_ci (va_runV (As := [.int x2, .int x4]) (rest := []) ⟨hx, hb, hml, hown, hts⟩ (c_X11_isPair hi x2 x4 s2 _ hv H.size) (cwV 2 hts gX11_layMost_X11_isPair rfl rfl rfl (by decide +kernel) ⟨Nat.le_of_ble_eq_true rfl, Nat.le_of_ble_eq_true rfl⟩) ⟨pre_blind, r_recv hK.1 hP 0 (by decide) (ceMo_0 (s2 0)) rfl, pre_of hP hK⟩ rfl rfl hl.1 rfl (lv_room (Nat.le_of_ble_eq_true rfl)) dX11_layMost_98 ⟨Nat.zero_le _, Nat.zero_le _⟩) hS (fun r3 s3 H locs hv hP hS => ?_)
        obtain ⟨hz_r3, hv⟩ := hv
        have hD := wd_D (s := s) (cel := celM ad cA cZ) (σ := s3) hi
        refine lv_if_eq (tgt := 122) hx hb dX11_layMost_101 (by decide) (fun c101 => ?_) (fun c101 => ?_)
        · have hv := hv.1 c101
          refine lv_iconst (v := 0) hx hb dX11_layMost_122 (by decide) ?_
          exact hY 123 [x1, x2, x3, x4, 0] [] s3 hv _ _ rfl H locs ls hP hS (lv_sub hl [0, 1, 2, 3, 4] rfl)
        · have hv := hv.2 c101
          refine lv_iconst (v := 1) hx hb dX11_layMost_104 (by decide) ?_
          refine lv_aload_n hx hb dX11_layMost_105 rfl (lv_at hl 0 rfl) ?_
          refine r_get hx hb hts (iwX11_layMost_X11) hown hK.1 hP 0 (by decide) (ceMo_0 (s3 0)) rfl 7 (by decide) (hts _ kX11_layMost_1) (v := .ref (ad 6)) rfl dX11_layMost_106 ?_
          refine lv_iload_n hx hb dX11_layMost_109 rfl (lv_at hl 3 rfl) ?_
          refine lv_iconst (v := 1) hx hb dX11_layMost_110 (by decide) ?_
          refine lv_iload hx hb dX11_layMost_111 (lv_at hl 4 rfl) ?_
          refine lv_ishl hx hb dX11_layMost_113 ?_
          refine lv_iconst (v := (-1)) hx hb dX11_layMost_114 (by decide) ?_
          refine lv_ixor hx hb dX11_layMost_115 ?_
          refine lv_iand hx hb dX11_layMost_116 ?_
          obtain ⟨hin, hv⟩ := hv
          refine r_iald hx hb hK.1 hP 6 (by decide) (ceMo_6 (s3 6)) hin dX11_layMost_117 ?_
          refine lv_iadd hx hb dX11_layMost_118 ?_
          refine lv_goto (tgt := 123) hx hb dX11_layMost_119 (by decide) ?_
          exact hY 123 [x1, x2, x3, x4, 1 + (s3 6 (x3 &&& (((1 : Int32) <<< (x4 &&& 31)) ^^^ ((-1)))).toNatClampNeg)] [] s3 hv _ _ rfl H locs ls hP hS (lv_sub hl [0, 1, 2, 3, 4] rfl)
set_option maxHeartbeats 4000000 in
set_option maxRecDepth 100000 in
theorem w_X11_layMost_123 {p : Program} {l : Launch} {e : Env} {s : State} {m : MethodId} {args : Array Value} {below : List Frame} {meth : Method} {c : Code} {dC : Nat → ClassId} {dI : Nat → Nat → Nat} {ad : Nat → Nat} {cA cZ : ClassId} (hi : Inj 12 ad)   (C0 : Cx cX11_layMost RX11 wsX11_layMost 6 none p s m args meth c) (hK : KK dC dI cA cZ s) (Q : St → Prop) (Y : Nat → List Int32 → List Int64 → St → Prop) (hY : ∀ P xs ys σ, Y P xs ys σ → XX p l e ({ frames := 2, cells := 0, slots := 0, locals := 48 } : Room) s m args below meth c (dC, dI) 12 ad (celM ad cA cZ) 6 (ZV below args s (dC, dI) 12 ad (celM ad cA cZ) Q) (lay_X11_layMost ad ) P xs ys σ) (x1 : Int32) (x2 : Int32) (x3 : Int32) (x4 : Int32) (t0 : Int32) (s0 : St) (hv : B_X11_layMost_123  Q Y x1 x2 x3 x4 t0 s0) {H : Heap} {locs : List Loc} {ls : Array Slot} (hP : va_P (dC, dI) vwCl (wd 12 ad (celM ad cA cZ) s0) H) (hS : va_S (AA 12 ad s.heap.size) s.heap H locs) (hl : lv_has ls 6 [(0, .ref (ad 0)), (1, .int x1), (2, .int x2), (3, .int x3), (4, .int x4)]) : W p l e ({ frames := 2, cells := 0, slots := 0, locals := 48 } : Room) s m args below meth c H locs 0 0 (ZV below args s (dC, dI) 12 ad (celM ad cA cZ) Q) (F0 m 123 ls [.int t0]) := by
  obtain ⟨hx, hb, hml, hown, hts, hr, hlocks⟩ := C0
  have hD := wd_D (s := s) (cel := celM ad cA cZ) (σ := s0) hi
  unfold B_X11_layMost_123 at hv
  refine lv_istore (lv' := [(5, .int t0), (0, .ref (ad 0)), (1, .int x1), (2, .int x2), (3, .int x3), (4, .int x4)]) hx hb dX11_layMost_123 hl (by decide) rfl (fun ls hl => ?_)
  refine lv_aload_n hx hb dX11_layMost_125 rfl (lv_at hl 1 rfl) ?_
  refine r_get hx hb hts (iwX11_layMost_X11) hown hK.1 hP 0 (by decide) (ceMo_0 (s0 0)) rfl 7 (by decide) (hts _ kX11_layMost_1) (v := .ref (ad 6)) rfl dX11_layMost_126 ?_
  refine lv_iload_n hx hb dX11_layMost_129 rfl (lv_at hl 2 rfl) ?_
  refine lv_iload hx hb dX11_layMost_130 (lv_at hl 0 rfl) ?_
  refine lv_aload_n hx hb dX11_layMost_132 rfl (lv_at hl 1 rfl) ?_
  refine r_get hx hb hts (iwX11_layMost_X11) hown hK.1 hP 0 (by decide) (ceMo_0 (s0 0)) rfl 7 (by decide) (hts _ kX11_layMost_1) (v := .ref (ad 6)) rfl dX11_layMost_133 ?_
  refine lv_iload_n hx hb dX11_layMost_136 rfl (lv_at hl 2 rfl) ?_
  obtain ⟨hin, hv⟩ := hv
  refine r_iald hx hb hK.1 hP 6 (by decide) (ceMo_6 (s0 6)) hin dX11_layMost_137 ?_
  refine lv_icmp_le (tgt := 146) hx hb dX11_layMost_138 (by decide) (fun c138 => ?_) (fun c138 => ?_)
  · have hv := hv.1 c138
    refine lv_aload_n hx hb dX11_layMost_146 rfl (lv_at hl 1 rfl) ?_
    refine r_get hx hb hts (iwX11_layMost_X11) hown hK.1 hP 0 (by decide) (ceMo_0 (s0 0)) rfl 7 (by decide) (hts _ kX11_layMost_1) (v := .ref (ad 6)) rfl dX11_layMost_147 ?_
    refine lv_iload_n hx hb dX11_layMost_150 rfl (lv_at hl 2 rfl) ?_
    obtain ⟨hin, hv⟩ := hv
    refine r_iald hx hb hK.1 hP 6 (by decide) (ceMo_6 (s0 6)) hin dX11_layMost_151 ?_
    obtain ⟨hin, hv⟩ := hv
    refine r_iast hx hb hK.1 hP hD hS 6 (by decide) (ceMo_6 (s0 6)) (ceMo_6 _) hin dX11_layMost_152 (fun H locs s1 es1 hP hD hS => ?_)
    have hv := hv s1 es1
    refine lv_iinc (v := x4 + 1) (lv' := [(4, .int (x4 + 1)), (5, .int t0), (0, .ref (ad 0)), (1, .int x1), (2, .int x2), (3, .int x3)]) hx hb dX11_layMost_153 hl (k := 5) rfl rfl (by decide) rfl (fun ls hl => ?_)
    refine lv_goto (tgt := 72) hx hb dX11_layMost_156 (by decide) ?_
    exact hY 72 [x1, x2, x3, x4 + 1] [] s1 hv _ _ rfl H locs ls hP hS (lv_sub hl [2, 3, 4, 5, 0] rfl)
  · have hv := hv.2 c138
    refine lv_iload hx hb dX11_layMost_141 (lv_at hl 0 rfl) ?_
    refine lv_goto (tgt := 152) hx hb dX11_layMost_143 (by decide) ?_
    obtain ⟨hin, hv⟩ := hv
    refine r_iast hx hb hK.1 hP hD hS 6 (by decide) (ceMo_6 (s0 6)) (ceMo_6 _) hin dX11_layMost_152 (fun H locs s2 es2 hP hD hS => ?_)
    have hv := hv s2 es2
    refine lv_iinc (v := x4 + 1) (lv' := [(4, .int (x4 + 1)), (5, .int t0), (0, .ref (ad 0)), (1, .int x1), (2, .int x2), (3, .int x3)]) hx hb dX11_layMost_153 hl (k := 5) rfl rfl (by decide) rfl (fun ls hl => ?_)
    refine lv_goto (tgt := 72) hx hb dX11_layMost_156 (by decide) ?_
    exact hY 72 [x1, x2, x3, x4 + 1] [] s2 hv _ _ rfl H locs ls hP hS (lv_sub hl [2, 3, 4, 5, 0] rfl)
set_option maxHeartbeats 4000000 in
theorem y_X11_layMost {p : Program} {l : Launch} {e : Env} {s : State} {m : MethodId} {args : Array Value} {below : List Frame} {meth : Method} {c : Code} {dC : Nat → ClassId} {dI : Nat → Nat → Nat} {ad : Nat → Nat} {cA cZ : ClassId} (hi : Inj 12 ad)   (C0 : Cx cX11_layMost RX11 wsX11_layMost 6 none p s m args meth c) (hK : KK dC dI cA cZ s) (Q : St → Prop) : ∀ P xs ys σ, R_X11_layMost  Q P xs ys σ → XX p l e ({ frames := 2, cells := 0, slots := 0, locals := 48 } : Room) s m args below meth c (dC, dI) 12 ad (celM ad cA cZ) 6 (ZV below args s (dC, dI) 12 ad (celM ad cA cZ) Q) (lay_X11_layMost ad ) P xs ys σ := by
  refine Fx.elim _ (fun P xs ys σ Y hY hB => ?_)
  rcases hB with ⟨rfl, x1, rfl, rfl, hB⟩ | ⟨rfl, x1, x2, rfl, rfl, hB⟩ | ⟨rfl, x1, x2, rfl, rfl, hB⟩ | ⟨rfl, x1, x2, x3, x4, rfl, rfl, hB⟩ | ⟨rfl, x1, x2, x3, x4, t0, rfl, rfl, hB⟩
  · intro lv st he H locs ls hP hS hl
    cases he
    exact w_X11_layMost_2 hi   C0 hK Q Y hY x1 σ hB hP hS hl
  · intro lv st he H locs ls hP hS hl
    cases he
    exact w_X11_layMost_21 hi   C0 hK Q Y hY x1 x2 σ hB hP hS hl
  · intro lv st he H locs ls hP hS hl
    cases he
    exact w_X11_layMost_39 hi   C0 hK Q Y hY x1 x2 σ hB hP hS hl
  · intro lv st he H locs ls hP hS hl
    cases he
    exact w_X11_layMost_72 hi   C0 hK Q Y hY x1 x2 x3 x4 σ hB hP hS hl
  · intro lv st he H locs ls hP hS hl
    cases he
    exact w_X11_layMost_123 hi   C0 hK Q Y hY x1 x2 x3 x4 t0 σ hB hP hS hl
set_option maxHeartbeats 4000000 in
theorem c_X11_layMost {l : Launch} {dC : Nat → ClassId} {dI : Nat → Nat → Nat} {ad : Nat → Nat} {cA cZ : ClassId} (hi : Inj 12 ad)   (s0 : St) (Q : St → Prop) (hv : V_X11_layMost  s0 Q) (sz : Nat) : Met l yX11_layMost wsX11_layMost ({ frames := 2, cells := 0, slots := 0, locals := 48 } : Room) (va_Pc [.ref (ad 0)] (PW dC dI ad cA cZ 12 (celM ad cA cZ) sz s0)) (va_Qv Q (fun u t => va_P (dC, dI) vwCl (wd 12 ad (celM ad cA cZ) u) t.heap) (AA 12 ad sz)) 0 0 (AA 12 ad sz) := by
  refine Met.ofW (cc := cX11_layMost) (maxL := 6) (ret := none) (by decide) rfl ?_
  intro p e s m args below meth c s₁ B hml hv0
  obtain ⟨rfl, hsz, hP, hK⟩ := hv0
  subst hsz
  have C0 : Cx cX11_layMost RX11 wsX11_layMost 6 none p s m ([.ref (ad 0)] : List Value).toArray meth c := ⟨B.exec, B.bytes, hml, findClass_of_methodNamed B.named, atoms_spec (ws := wsX11_layMost) B.pre, B.returns, B.notSynchronized⟩
  have hl := lv_entry ([.ref (ad 0)]) (n := 6) (Nat.le_of_ble_eq_true rfl)
  rw [lg_entry_eq]
  generalize (lg_sl ([.ref (ad 0)]) ++ List.replicate (6 - (lg_sl ([.ref (ad 0)])).length) Slot.unset).toArray = ls at hl ⊢
  have hl : lv_has ls 6 [(0, .ref (ad 0))] := hl
  exact w_X11_layMost_e hi   C0 hK Q (R_X11_layMost  Q) (y_X11_layMost hi   C0 hK Q)  s0 hv hP va_S.rf hl
def lay_X11_layMates (ad : Nat → Nat)  : Nat → List Int32 → List Int64 → Option (List (Nat × Value) × List Value) := fun P xs ys => match P, xs, ys with
  | 11, [x1, x2], [] => some ([(0, .ref (ad 0)), (1, .int x1), (2, .int x2)], [])
  | 58, [x1, x2, x3, x4], [] => some ([(0, .ref (ad 0)), (1, .int x1), (2, .int x2), (3, .int x3), (4, .int x4)], [])
  | 124, [x2, x3, x4], [] => some ([(0, .ref (ad 0)), (2, .int x2), (3, .int x3), (4, .int x4)], [])
  | _, _, _ => none
set_option maxHeartbeats 4000000 in
set_option maxRecDepth 100000 in
theorem w_X11_layMates_e {p : Program} {l : Launch} {e : Env} {s : State} {m : MethodId} {args : Array Value} {below : List Frame} {meth : Method} {c : Code} {dC : Nat → ClassId} {dI : Nat → Nat → Nat} {ad : Nat → Nat} {cA cZ : ClassId} (hi : Inj 12 ad)   (C0 : Cx cX11_layMates RX11 wsX11_layMates 5 none p s m args meth c) (hK : KK dC dI cA cZ s) (Q : St → Prop) (Y : Nat → List Int32 → List Int64 → St → Prop) (hY : ∀ P xs ys σ, Y P xs ys σ → XX p l e ({ frames := 2, cells := 0, slots := 0, locals := 48 } : Room) s m args below meth c (dC, dI) 12 ad (celM ad cA cZ) 5 (ZV below args s (dC, dI) 12 ad (celM ad cA cZ) Q) (lay_X11_layMates ad ) P xs ys σ)  (s0 : St) (hv : B_X11_layMates_e  Q Y  s0) {H : Heap} {locs : List Loc} {ls : Array Slot} (hP : va_P (dC, dI) vwCl (wd 12 ad (celM ad cA cZ) s0) H) (hS : va_S (AA 12 ad s.heap.size) s.heap H locs) (hl : lv_has ls 5 [(0, .ref (ad 0))]) : W p l e ({ frames := 2, cells := 0, slots := 0, locals := 48 } : Room) s m args below meth c H locs 0 0 (ZV below args s (dC, dI) 12 ad (celM ad cA cZ) Q) (F0 m 0 ls []) := by
  obtain ⟨hx, hb, hml, hown, hts, hr, hlocks⟩ := C0
  have hD := wd_D (s := s) (cel := celM ad cA cZ) (σ := s0) hi
  unfold B_X11_layMates_e at hv
  refine lv_iconst (v := 1) hx hb dX11_layMates_0 (by decide) ?_
  refine lv_aload_n hx hb dX11_layMates_1 rfl (lv_at hl 0 rfl) ?_
  refine r_ci (va_runV (As := []) (rest := [.int 1]) ⟨hx, hb, hml, hown, hts⟩ (c_X11_many hi  s0 _ hv H.size) (cwV 0 hts gX11_layMates_X11_many rfl rfl rfl (by decide +kernel) ⟨Nat.le_of_ble_eq_true rfl, Nat.le_of_ble_eq_true rfl⟩) ⟨pre_blind, r_recv hK.1 hP 0 (by decide) (ceMo_0 (s0 0)) rfl, pre_of hP hK⟩ rfl rfl hl.1 rfl (lv_room (Nat.le_of_ble_eq_true rfl)) dX11_layMates_2 ⟨Nat.zero_le _, Nat.zero_le _⟩) hS (fun r1 s1 H locs hv hP hS => ?_)
  have hD := wd_D (s := s) (cel := celM ad cA cZ) (σ := s1) hi
  refine lv_ishl hx hb dX11_layMates_5 ?_
  refine lv_iconst (v := 1) hx hb dX11_layMates_6 (by decide) ?_
  refine lv_isub hx hb dX11_layMates_7 ?_
  refine lv_topi (fun v2 ev2 => ?_)
  have hv := hv v2 ev2
  refine lv_istore_n (lv' := [(1, .int v2), (0, .ref (ad 0))]) hx hb dX11_layMates_8 rfl hl (by decide) rfl (fun ls hl => ?_)
  refine lv_iconst (v := 0) hx hb dX11_layMates_9 (by decide) ?_
  refine lv_istore_n (lv' := [(2, .int 0), (1, .int v2), (0, .ref (ad 0))]) hx hb dX11_layMates_10 rfl hl (by decide) rfl (fun ls hl => ?_)
  exact hY 11 [v2, 0] [] s1 hv _ _ rfl H locs ls hP hS (lv_sub hl [2, 1, 0] rfl)
set_option maxHeartbeats 4000000 in
set_option maxRecDepth 100000 in
theorem w_X11_layMates_11 {p : Program} {l : Launch} {e : Env} {s : State} {m : MethodId} {args : Array Value} {below : List Frame} {meth : Method} {c : Code} {dC : Nat → ClassId} {dI : Nat → Nat → Nat} {ad : Nat → Nat} {cA cZ : ClassId} (hi : Inj 12 ad)   (C0 : Cx cX11_layMates RX11 wsX11_layMates 5 none p s m args meth c) (hK : KK dC dI cA cZ s) (Q : St → Prop) (Y : Nat → List Int32 → List Int64 → St → Prop) (hY : ∀ P xs ys σ, Y P xs ys σ → XX p l e ({ frames := 2, cells := 0, slots := 0, locals := 48 } : Room) s m args below meth c (dC, dI) 12 ad (celM ad cA cZ) 5 (ZV below args s (dC, dI) 12 ad (celM ad cA cZ) Q) (lay_X11_layMates ad ) P xs ys σ) (x1 : Int32) (x2 : Int32) (s0 : St) (hv : B_X11_layMates_11  Q Y x1 x2 s0) {H : Heap} {locs : List Loc} {ls : Array Slot} (hP : va_P (dC, dI) vwCl (wd 12 ad (celM ad cA cZ) s0) H) (hS : va_S (AA 12 ad s.heap.size) s.heap H locs) (hl : lv_has ls 5 [(0, .ref (ad 0)), (1, .int x1), (2, .int x2)]) : W p l e ({ frames := 2, cells := 0, slots := 0, locals := 48 } : Room) s m args below meth c H locs 0 0 (ZV below args s (dC, dI) 12 ad (celM ad cA cZ) Q) (F0 m 11 ls []) := by
  obtain ⟨hx, hb, hml, hown, hts, hr, hlocks⟩ := C0
  have hD := wd_D (s := s) (cel := celM ad cA cZ) (σ := s0) hi
  unfold B_X11_layMates_11 at hv
  refine lv_iload_n hx hb dX11_layMates_11 rfl (lv_at hl 2 rfl) ?_
  refine lv_aload_n hx hb dX11_layMates_12 rfl (lv_at hl 0 rfl) ?_
  refine r_ci (va_runV (As := []) (rest := [.int x2]) ⟨hx, hb, hml, hown, hts⟩ (c_X11_many hi  s0 _ hv H.size) (cwV 0 hts gX11_layMates_X11_many rfl rfl rfl (by decide +kernel) ⟨Nat.le_of_ble_eq_true rfl, Nat.le_of_ble_eq_true rfl⟩) ⟨pre_blind, r_recv hK.1 hP 0 (by decide) (ceMo_0 (s0 0)) rfl, pre_of hP hK⟩ rfl rfl hl.1 rfl (lv_room (Nat.le_of_ble_eq_true rfl)) dX11_layMates_13 ⟨Nat.zero_le _, Nat.zero_le _⟩) hS (fun r1 s1 H locs hv hP hS => ?_)
  have hD := wd_D (s := s) (cel := celM ad cA cZ) (σ := s1) hi
  refine lv_icmp_ge (tgt := 140) hx hb dX11_layMates_16 (by decide) (fun c16 => ?_) (fun c16 => ?_)
  · have hv := hv.1 c16
    exact r_vret hx hb hr hlocks hv hP hS dX11_layMates_140
  · have hv := hv.2 c16
    refine lv_iload_n hx hb dX11_layMates_19 rfl (lv_at hl 1 rfl) ?_
    refine lv_iload_n hx hb dX11_layMates_20 rfl (lv_at hl 2 rfl) ?_
    refine r_ci (va_runS (As := [.int x1, .int x2]) (rest := []) ⟨hx, hb, hml, hown, hts⟩ (c_X11_has hi x1 x2 s1 _ hv H.size) (va_cwS 2 hts gX11_layMates_X11_has rfl rfl rfl (by decide +kernel) ⟨Nat.le_of_ble_eq_true rfl, Nat.le_of_ble_eq_true rfl⟩) ⟨pre_blind, pre_of hP hK⟩ rfl rfl hl.1 rfl (lv_room (Nat.le_of_ble_eq_true rfl)) dX11_layMates_21 ⟨Nat.zero_le _, Nat.zero_le _⟩) hS (fun r2 s2 H locs hv hP hS => ?_)
    obtain ⟨hz_r2, hv⟩ := hv
    have hD := wd_D (s := s) (cel := celM ad cA cZ) (σ := s2) hi
    refine lv_if_eq (tgt := 134) hx hb dX11_layMates_24 (by decide) (fun c24 => ?_) (fun c24 => ?_)
    · have hv := hv.1 c24
      refine lv_iinc (v := x2 + 1) (lv' := [(2, .int (x2 + 1)), (0, .ref (ad 0)), (1, .int x1)]) hx hb dX11_layMates_134 hl (k := 2) rfl rfl (by decide) rfl (fun ls hl => ?_)
      refine lv_goto (tgt := 11) hx hb dX11_layMates_137 (by decide) ?_
      exact hY 11 [x1, x2 + 1] [] s2 hv _ _ rfl H locs ls hP hS (lv_sub hl [1, 2, 0] rfl)
    · have hv := hv.2 c24
      refine lv_iload_n hx hb dX11_layMates_27 rfl (lv_at hl 1 rfl) ?_
      refine lv_iconst (v := 1) hx hb dX11_layMates_28 (by decide) ?_
      refine lv_iload_n hx hb dX11_layMates_29 rfl (lv_at hl 2 rfl) ?_
      refine lv_ishl hx hb dX11_layMates_30 ?_
      refine lv_iconst (v := (-1)) hx hb dX11_layMates_31 (by decide) ?_
      refine lv_ixor hx hb dX11_layMates_32 ?_
      refine lv_iand hx hb dX11_layMates_33 ?_
      refine lv_topi (fun v3 ev3 => ?_)
      have hv := hv v3 ev3
      refine lv_istore_n (lv' := [(3, .int v3), (0, .ref (ad 0)), (1, .int x1), (2, .int x2)]) hx hb dX11_layMates_34 rfl hl (by decide) rfl (fun ls hl => ?_)
      refine lv_iconst (v := (-1)) hx hb dX11_layMates_35 (by decide) ?_
      refine lv_istore (lv' := [(4, .int ((-1))), (3, .int v3), (0, .ref (ad 0)), (1, .int x1), (2, .int x2)]) hx hb dX11_layMates_36 hl (by decide) rfl (fun ls hl => ?_)
      refine lv_aload_n hx hb dX11_layMates_38 rfl (lv_at hl 2 rfl) ?_
      refine r_get hx hb hts (iwX11_layMates_X11) hown hK.1 hP 0 (by decide) (ceMo_0 (s2 0)) rfl 7 (by decide) (hts _ kX11_layMates_1) (v := .ref (ad 6)) rfl dX11_layMates_39 ?_
      refine lv_iload_n hx hb dX11_layMates_42 rfl (lv_at hl 1 rfl) ?_
      obtain ⟨hin, hv⟩ := hv
      refine r_iald hx hb hK.1 hP 6 (by decide) (ceMo_6 (s2 6)) hin dX11_layMates_43 ?_
      refine lv_aload_n hx hb dX11_layMates_44 rfl (lv_at hl 2 rfl) ?_
      refine r_get hx hb hts (iwX11_layMates_X11) hown hK.1 hP 0 (by decide) (ceMo_0 (s2 0)) rfl 7 (by decide) (hts _ kX11_layMates_1) (v := .ref (ad 6)) rfl dX11_layMates_45 ?_
      refine lv_iload_n hx hb dX11_layMates_48 rfl (lv_at hl 3 rfl) ?_
      obtain ⟨hin, hv⟩ := hv
      refine r_iald hx hb hK.1 hP 6 (by decide) (ceMo_6 (s2 6)) hin dX11_layMates_49 ?_
      refine lv_icmp_ge (tgt := 124) hx hb dX11_layMates_50 (by decide) (fun c50 => ?_) (fun c50 => ?_)
      · have hv := hv.1 c50
        exact hY 124 [x2, v3, (-1)] [] s2 hv _ _ rfl H locs ls hP hS (lv_sub hl [2, 4, 1, 0] rfl)
      · have hv := hv.2 c50
        refine lv_iload_n hx hb dX11_layMates_53 rfl (lv_at hl 4 rfl) ?_
        refine lv_iconst (v := 1) hx hb dX11_layMates_54 (by decide) ?_
        refine lv_iadd hx hb dX11_layMates_55 ?_
        refine lv_istore (lv' := [(4, .int (x2 + 1)), (3, .int v3), (0, .ref (ad 0)), (1, .int x1), (2, .int x2)]) hx hb dX11_layMates_56 hl (by decide) rfl (fun ls hl => ?_)
        exact hY 58 [x1, x2, v3, x2 + 1] [] s2 hv _ _ rfl H locs ls hP hS (lv_sub hl [2, 3, 4, 1, 0] rfl)
set_option maxHeartbeats 4000000 in
set_option maxRecDepth 100000 in
theorem w_X11_layMates_58 {p : Program} {l : Launch} {e : Env} {s : State} {m : MethodId} {args : Array Value} {below : List Frame} {meth : Method} {c : Code} {dC : Nat → ClassId} {dI : Nat → Nat → Nat} {ad : Nat → Nat} {cA cZ : ClassId} (hi : Inj 12 ad)   (C0 : Cx cX11_layMates RX11 wsX11_layMates 5 none p s m args meth c) (hK : KK dC dI cA cZ s) (Q : St → Prop) (Y : Nat → List Int32 → List Int64 → St → Prop) (hY : ∀ P xs ys σ, Y P xs ys σ → XX p l e ({ frames := 2, cells := 0, slots := 0, locals := 48 } : Room) s m args below meth c (dC, dI) 12 ad (celM ad cA cZ) 5 (ZV below args s (dC, dI) 12 ad (celM ad cA cZ) Q) (lay_X11_layMates ad ) P xs ys σ) (x1 : Int32) (x2 : Int32) (x3 : Int32) (x4 : Int32) (s0 : St) (hv : B_X11_layMates_58  Q Y x1 x2 x3 x4 s0) {H : Heap} {locs : List Loc} {ls : Array Slot} (hP : va_P (dC, dI) vwCl (wd 12 ad (celM ad cA cZ) s0) H) (hS : va_S (AA 12 ad s.heap.size) s.heap H locs) (hl : lv_has ls 5 [(0, .ref (ad 0)), (1, .int x1), (2, .int x2), (3, .int x3), (4, .int x4)]) : W p l e ({ frames := 2, cells := 0, slots := 0, locals := 48 } : Room) s m args below meth c H locs 0 0 (ZV below args s (dC, dI) 12 ad (celM ad cA cZ) Q) (F0 m 58 ls []) := by
  obtain ⟨hx, hb, hml, hown, hts, hr, hlocks⟩ := C0
  have hD := wd_D (s := s) (cel := celM ad cA cZ) (σ := s0) hi
  unfold B_X11_layMates_58 at hv
  refine lv_iload_n hx hb dX11_layMates_58 rfl (lv_at hl 3 rfl) ?_
  refine lv_iload hx hb dX11_layMates_59 (lv_at hl 4 rfl) ?_
  refine r_ci (va_runS (As := [.int x3, .int x4]) (rest := []) ⟨hx, hb, hml, hown, hts⟩ (c_X11_has hi x3 x4 s0 _ hv H.size) (va_cwS 2 hts gX11_layMates_X11_has rfl rfl rfl (by decide +kernel) ⟨Nat.le_of_ble_eq_true rfl, Nat.le_of_ble_eq_true rfl⟩) ⟨pre_blind, pre_of hP hK⟩ rfl rfl hl.1 rfl (lv_room (Nat.le_of_ble_eq_true rfl)) dX11_layMates_61 ⟨Nat.zero_le _, Nat.zero_le _⟩) hS (fun r1 s1 H locs hv hP hS => ?_)
  obtain ⟨hz_r1, hv⟩ := hv
  have hD := wd_D (s := s) (cel := celM ad cA cZ) (σ := s1) hi
  refine lv_if_eq (tgt := 101) hx hb dX11_layMates_64 (by decide) (fun c64 => ?_) (fun c64 => ?_)
  · have hv := hv.1 c64
    refine lv_iinc (v := x4 + 1) (lv' := [(4, .int (x4 + 1)), (0, .ref (ad 0)), (1, .int x1), (2, .int x2), (3, .int x3)]) hx hb dX11_layMates_101 hl (k := 4) rfl rfl (by decide) rfl (fun ls hl => ?_)
    refine lv_goto (tgt := 58) hx hb dX11_layMates_104 (by decide) ?_
    exact hY 58 [x1, x2, x3, x4 + 1] [] s1 hv _ _ rfl H locs ls hP hS (lv_sub hl [1, 2, 3, 4, 0] rfl)
  · have hv := hv.2 c64
    refine lv_aload_n hx hb dX11_layMates_67 rfl (lv_at hl 0 rfl) ?_
    refine lv_iload_n hx hb dX11_layMates_68 rfl (lv_at hl 2 rfl) ?_
    refine lv_iload hx hb dX11_layMates_69 (lv_at hl 4 rfl) ?_
    refine r_ci (va_runV (As := [.int x2, .int x4]) (rest := []) ⟨hx, hb, hml, hown, hts⟩ (c_X11_isPair hi x2 x4 s1 _ hv H.size) (cwV 2 hts gX11_layMates_X11_isPair rfl rfl rfl (by decide +kernel) ⟨Nat.le_of_ble_eq_true rfl, Nat.le_of_ble_eq_true rfl⟩) ⟨pre_blind, r_recv hK.1 hP 0 (by decide) (ceMo_0 (s1 0)) rfl, pre_of hP hK⟩ rfl rfl hl.1 rfl (lv_room (Nat.le_of_ble_eq_true rfl)) dX11_layMates_71 ⟨Nat.zero_le _, Nat.zero_le _⟩) hS (fun r2 s2 H locs hv hP hS => ?_)
    obtain ⟨hz_r2, hv⟩ := hv
    have hD := wd_D (s := s) (cel := celM ad cA cZ) (σ := s2) hi
    refine lv_if_eq (tgt := 101) hx hb dX11_layMates_74 (by decide) (fun c74 => ?_) (fun c74 => ?_)
    · have hv := hv.1 c74
      refine lv_iinc (v := x4 + 1) (lv' := [(4, .int (x4 + 1)), (0, .ref (ad 0)), (1, .int x1), (2, .int x2), (3, .int x3)]) hx hb dX11_layMates_101 hl (k := 4) rfl rfl (by decide) rfl (fun ls hl => ?_)
      refine lv_goto (tgt := 58) hx hb dX11_layMates_104 (by decide) ?_
      exact hY 58 [x1, x2, x3, x4 + 1] [] s2 hv _ _ rfl H locs ls hP hS (lv_sub hl [1, 2, 3, 4, 0] rfl)
    · have hv := hv.2 c74
      refine lv_iconst (v := 1) hx hb dX11_layMates_77 (by decide) ?_
      refine lv_aload_n hx hb dX11_layMates_78 rfl (lv_at hl 0 rfl) ?_
      refine r_get hx hb hts (iwX11_layMates_X11) hown hK.1 hP 0 (by decide) (ceMo_0 (s2 0)) rfl 7 (by decide) (hts _ kX11_layMates_1) (v := .ref (ad 6)) rfl dX11_layMates_79 ?_
      refine lv_iload_n hx hb dX11_layMates_82 rfl (lv_at hl 3 rfl) ?_
      refine lv_iconst (v := 1) hx hb dX11_layMates_83 (by decide) ?_
      refine lv_iload hx hb dX11_layMates_84 (lv_at hl 4 rfl) ?_
      refine lv_ishl hx hb dX11_layMates_86 ?_
      refine lv_iconst (v := (-1)) hx hb dX11_layMates_87 (by decide) ?_
      refine lv_ixor hx hb dX11_layMates_88 ?_
      refine lv_iand hx hb dX11_layMates_89 ?_
      obtain ⟨hin, hv⟩ := hv
      refine r_iald hx hb hK.1 hP 6 (by decide) (ceMo_6 (s2 6)) hin dX11_layMates_90 ?_
      refine lv_iadd hx hb dX11_layMates_91 ?_
      refine lv_aload_n hx hb dX11_layMates_92 rfl (lv_at hl 0 rfl) ?_
      refine r_get hx hb hts (iwX11_layMates_X11) hown hK.1 hP 0 (by decide) (ceMo_0 (s2 0)) rfl 7 (by decide) (hts _ kX11_layMates_1) (v := .ref (ad 6)) rfl dX11_layMates_93 ?_
      refine lv_iload_n hx hb dX11_layMates_96 rfl (lv_at hl 1 rfl) ?_
      obtain ⟨hin, hv⟩ := hv
      refine r_iald hx hb hK.1 hP 6 (by decide) (ceMo_6 (s2 6)) hin dX11_layMates_97 ?_
      refine lv_icmp_ge (tgt := 107) hx hb dX11_layMates_98 (by decide) (fun c98 => ?_) (fun c98 => ?_)
      · have hv := hv.1 c98
        refine lv_aload_n hx hb dX11_layMates_107 rfl (lv_at hl 0 rfl) ?_
        refine r_get hx hb hts (iwX11_layMates_X11) hown hK.1 hP 0 (by decide) (ceMo_0 (s2 0)) rfl 8 (by decide) (hts _ kX11_layMates_2) (v := .ref (ad 7)) rfl dX11_layMates_108 ?_
        refine lv_iload hx hb dX11_layMates_111 (lv_at hl 4 rfl) ?_
        refine lv_iload_n hx hb dX11_layMates_113 rfl (lv_at hl 2 rfl) ?_
        obtain ⟨hin, hv⟩ := hv
        refine r_iast hx hb hK.1 hP hD hS 7 (by decide) (ceMo_7 (s2 7)) (ceMo_7 _) hin dX11_layMates_114 (fun H locs s3 es3 hP hD hS => ?_)
        have hv := hv s3 es3
        refine lv_iload_n hx hb dX11_layMates_115 rfl (lv_at hl 3 rfl) ?_
        refine lv_iconst (v := 1) hx hb dX11_layMates_116 (by decide) ?_
        refine lv_iload hx hb dX11_layMates_117 (lv_at hl 4 rfl) ?_
        refine lv_ishl hx hb dX11_layMates_119 ?_
        refine lv_iconst (v := (-1)) hx hb dX11_layMates_120 (by decide) ?_
        refine lv_ixor hx hb dX11_layMates_121 ?_
        refine lv_iand hx hb dX11_layMates_122 ?_
        refine lv_topi (fun v4 ev4 => ?_)
        have hv := hv v4 ev4
        refine lv_istore_n (lv' := [(3, .int v4), (0, .ref (ad 0)), (1, .int x1), (2, .int x2), (4, .int x4)]) hx hb dX11_layMates_123 rfl hl (by decide) rfl (fun ls hl => ?_)
        exact hY 124 [x2, v4, x4] [] s3 hv _ _ rfl H locs ls hP hS (lv_sub hl [1, 3, 0, 4] rfl)
      · have hv := hv.2 c98
        refine lv_iinc (v := x4 + 1) (lv' := [(4, .int (x4 + 1)), (0, .ref (ad 0)), (1, .int x1), (2, .int x2), (3, .int x3)]) hx hb dX11_layMates_101 hl (k := 4) rfl rfl (by decide) rfl (fun ls hl => ?_)
        refine lv_goto (tgt := 58) hx hb dX11_layMates_104 (by decide) ?_
        exact hY 58 [x1, x2, x3, x4 + 1] [] s2 hv _ _ rfl H locs ls hP hS (lv_sub hl [1, 2, 3, 4, 0] rfl)
set_option maxHeartbeats 4000000 in
set_option maxRecDepth 100000 in
theorem w_X11_layMates_124 {p : Program} {l : Launch} {e : Env} {s : State} {m : MethodId} {args : Array Value} {below : List Frame} {meth : Method} {c : Code} {dC : Nat → ClassId} {dI : Nat → Nat → Nat} {ad : Nat → Nat} {cA cZ : ClassId} (hi : Inj 12 ad)   (C0 : Cx cX11_layMates RX11 wsX11_layMates 5 none p s m args meth c) (hK : KK dC dI cA cZ s) (Q : St → Prop) (Y : Nat → List Int32 → List Int64 → St → Prop) (hY : ∀ P xs ys σ, Y P xs ys σ → XX p l e ({ frames := 2, cells := 0, slots := 0, locals := 48 } : Room) s m args below meth c (dC, dI) 12 ad (celM ad cA cZ) 5 (ZV below args s (dC, dI) 12 ad (celM ad cA cZ) Q) (lay_X11_layMates ad ) P xs ys σ) (x2 : Int32) (x3 : Int32) (x4 : Int32) (s0 : St) (hv : B_X11_layMates_124  Q Y x2 x3 x4 s0) {H : Heap} {locs : List Loc} {ls : Array Slot} (hP : va_P (dC, dI) vwCl (wd 12 ad (celM ad cA cZ) s0) H) (hS : va_S (AA 12 ad s.heap.size) s.heap H locs) (hl : lv_has ls 5 [(0, .ref (ad 0)), (2, .int x2), (3, .int x3), (4, .int x4)]) : W p l e ({ frames := 2, cells := 0, slots := 0, locals := 48 } : Room) s m args below meth c H locs 0 0 (ZV below args s (dC, dI) 12 ad (celM ad cA cZ) Q) (F0 m 124 ls []) := by
  obtain ⟨hx, hb, hml, hown, hts, hr, hlocks⟩ := C0
  have hD := wd_D (s := s) (cel := celM ad cA cZ) (σ := s0) hi
  unfold B_X11_layMates_124 at hv
  refine lv_aload_n hx hb dX11_layMates_124 rfl (lv_at hl 0 rfl) ?_
  refine r_get hx hb hts (iwX11_layMates_X11) hown hK.1 hP 0 (by decide) (ceMo_0 (s0 0)) rfl 8 (by decide) (hts _ kX11_layMates_2) (v := .ref (ad 7)) rfl dX11_layMates_125 ?_
  refine lv_iload_n hx hb dX11_layMates_128 rfl (lv_at hl 1 rfl) ?_
  refine lv_iload hx hb dX11_layMates_129 (lv_at hl 3 rfl) ?_
  obtain ⟨hin, hv⟩ := hv
  refine r_iast hx hb hK.1 hP hD hS 7 (by decide) (ceMo_7 (s0 7)) (ceMo_7 _) hin dX11_layMates_131 (fun H locs s1 es1 hP hD hS => ?_)
  have hv := hv s1 es1
  refine lv_iload_n hx hb dX11_layMates_132 rfl (lv_at hl 2 rfl) ?_
  refine lv_istore_n (lv' := [(1, .int x3), (0, .ref (ad 0)), (2, .int x2), (3, .int x3), (4, .int x4)]) hx hb dX11_layMates_133 rfl hl (by decide) rfl (fun ls hl => ?_)
  refine lv_iinc (v := x2 + 1) (lv' := [(2, .int (x2 + 1)), (1, .int x3), (0, .ref (ad 0)), (3, .int x3), (4, .int x4)]) hx hb dX11_layMates_134 hl (k := 2) rfl rfl (by decide) rfl (fun ls hl => ?_)
  refine lv_goto (tgt := 11) hx hb dX11_layMates_137 (by decide) ?_
  exact hY 11 [x3, x2 + 1] [] s1 hv _ _ rfl H locs ls hP hS (lv_sub hl [2, 1, 0] rfl)
set_option maxHeartbeats 4000000 in
theorem y_X11_layMates {p : Program} {l : Launch} {e : Env} {s : State} {m : MethodId} {args : Array Value} {below : List Frame} {meth : Method} {c : Code} {dC : Nat → ClassId} {dI : Nat → Nat → Nat} {ad : Nat → Nat} {cA cZ : ClassId} (hi : Inj 12 ad)   (C0 : Cx cX11_layMates RX11 wsX11_layMates 5 none p s m args meth c) (hK : KK dC dI cA cZ s) (Q : St → Prop) : ∀ P xs ys σ, R_X11_layMates  Q P xs ys σ → XX p l e ({ frames := 2, cells := 0, slots := 0, locals := 48 } : Room) s m args below meth c (dC, dI) 12 ad (celM ad cA cZ) 5 (ZV below args s (dC, dI) 12 ad (celM ad cA cZ) Q) (lay_X11_layMates ad ) P xs ys σ := by
  refine Fx.elim _ (fun P xs ys σ Y hY hB => ?_)
  rcases hB with ⟨rfl, x1, x2, rfl, rfl, hB⟩ | ⟨rfl, x1, x2, x3, x4, rfl, rfl, hB⟩ | ⟨rfl, x2, x3, x4, rfl, rfl, hB⟩
  · intro lv st he H locs ls hP hS hl
    cases he
    exact w_X11_layMates_11 hi   C0 hK Q Y hY x1 x2 σ hB hP hS hl
  · intro lv st he H locs ls hP hS hl
    cases he
    exact w_X11_layMates_58 hi   C0 hK Q Y hY x1 x2 x3 x4 σ hB hP hS hl
  · intro lv st he H locs ls hP hS hl
    cases he
    exact w_X11_layMates_124 hi   C0 hK Q Y hY x2 x3 x4 σ hB hP hS hl
set_option maxHeartbeats 4000000 in
theorem c_X11_layMates {l : Launch} {dC : Nat → ClassId} {dI : Nat → Nat → Nat} {ad : Nat → Nat} {cA cZ : ClassId} (hi : Inj 12 ad)   (s0 : St) (Q : St → Prop) (hv : V_X11_layMates  s0 Q) (sz : Nat) : Met l yX11_layMates wsX11_layMates ({ frames := 2, cells := 0, slots := 0, locals := 48 } : Room) (va_Pc [.ref (ad 0)] (PW dC dI ad cA cZ 12 (celM ad cA cZ) sz s0)) (va_Qv Q (fun u t => va_P (dC, dI) vwCl (wd 12 ad (celM ad cA cZ) u) t.heap) (AA 12 ad sz)) 0 0 (AA 12 ad sz) := by
  refine Met.ofW (cc := cX11_layMates) (maxL := 5) (ret := none) (by decide) rfl ?_
  intro p e s m args below meth c s₁ B hml hv0
  obtain ⟨rfl, hsz, hP, hK⟩ := hv0
  subst hsz
  have C0 : Cx cX11_layMates RX11 wsX11_layMates 5 none p s m ([.ref (ad 0)] : List Value).toArray meth c := ⟨B.exec, B.bytes, hml, findClass_of_methodNamed B.named, atoms_spec (ws := wsX11_layMates) B.pre, B.returns, B.notSynchronized⟩
  have hl := lv_entry ([.ref (ad 0)]) (n := 5) (Nat.le_of_ble_eq_true rfl)
  rw [lg_entry_eq]
  generalize (lg_sl ([.ref (ad 0)]) ++ List.replicate (5 - (lg_sl ([.ref (ad 0)])).length) Slot.unset).toArray = ls at hl ⊢
  have hl : lv_has ls 5 [(0, .ref (ad 0))] := hl
  exact w_X11_layMates_e hi   C0 hK Q (R_X11_layMates  Q) (y_X11_layMates hi   C0 hK Q)  s0 hv hP va_S.rf hl
def lay_X11_pairs (ad : Nat → Nat) (a1 : Int32) : Nat → List Int32 → List Int64 → Option (List (Nat × Value) × List Value) := fun P xs ys => match P, xs, ys with
  | 20, [], [] => some ([(0, .ref (ad 0)), (1, .int a1)], [])
  | _, _, _ => none
set_option maxHeartbeats 4000000 in
set_option maxRecDepth 100000 in
theorem w_X11_pairs_e {p : Program} {l : Launch} {e : Env} {s : State} {m : MethodId} {args : Array Value} {below : List Frame} {meth : Method} {c : Code} {dC : Nat → ClassId} {dI : Nat → Nat → Nat} {ad : Nat → Nat} {cA cZ : ClassId} (hi : Inj 12 ad) (a1 : Int32)  (C0 : Cx cX11_pairs RX11 wsX11_pairs 2 (some .int) p s m args meth c) (hK : KK dC dI cA cZ s) (Q : Int32 → St → Prop) (Y : Nat → List Int32 → List Int64 → St → Prop) (hY : ∀ P xs ys σ, Y P xs ys σ → XX p l e ({ frames := 3, cells := 0, slots := 0, locals := 73 } : Room) s m args below meth c (dC, dI) 12 ad (celM ad cA cZ) 2 (ZI below args s (dC, dI) 12 ad (celM ad cA cZ) Q) (lay_X11_pairs ad a1) P xs ys σ)  (s0 : St) (hv : B_X11_pairs_e a1 Q Y  s0) {H : Heap} {locs : List Loc} {ls : Array Slot} (hP : va_P (dC, dI) vwCl (wd 12 ad (celM ad cA cZ) s0) H) (hS : va_S (AA 12 ad s.heap.size) s.heap H locs) (hl : lv_has ls 2 [(0, .ref (ad 0)), (1, .int a1)]) : W p l e ({ frames := 3, cells := 0, slots := 0, locals := 73 } : Room) s m args below meth c H locs 0 0 (ZI below args s (dC, dI) 12 ad (celM ad cA cZ) Q) (F0 m 0 ls []) := by
  obtain ⟨hx, hb, hml, hown, hts, hr, hlocks⟩ := C0
  have hD := wd_D (s := s) (cel := celM ad cA cZ) (σ := s0) hi
  unfold B_X11_pairs_e at hv
  refine lv_iload_n hx hb dX11_pairs_0 rfl (lv_at hl 1 rfl) ?_
  refine lv_iconst (v := (-1)) hx hb dX11_pairs_1 (by decide) ?_
  refine lv_icmp_eq (tgt := 20) hx hb dX11_pairs_2 (by decide) (fun c2 => ?_) (fun c2 => ?_)
  · have hv := hv.1 c2
    exact hY 20 [] [] s0 hv _ _ rfl H locs ls hP hS (lv_sub hl [0, 1] rfl)
  · have hv := hv.2 c2
    refine lv_aload_n hx hb dX11_pairs_5 rfl (lv_at hl 0 rfl) ?_
    refine lv_iload_n hx hb dX11_pairs_6 rfl (lv_at hl 1 rfl) ?_
    refine r_ci (va_runV (As := [.int a1]) (rest := []) ⟨hx, hb, hml, hown, hts⟩ (c_X11_isGlove hi a1 s0 _ hv H.size) (cwV 1 hts gX11_pairs_X11_isGlove rfl rfl rfl (by decide +kernel) ⟨Nat.le_of_ble_eq_true rfl, Nat.le_of_ble_eq_true rfl⟩) ⟨pre_blind, r_recv hK.1 hP 0 (by decide) (ceMo_0 (s0 0)) rfl, pre_of hP hK⟩ rfl rfl hl.1 rfl (lv_room (Nat.le_of_ble_eq_true rfl)) dX11_pairs_7 ⟨Nat.zero_le _, Nat.zero_le _⟩) hS (fun r1 s1 H locs hv hP hS => ?_)
    obtain ⟨hz_r1, hv⟩ := hv
    have hD := wd_D (s := s) (cel := celM ad cA cZ) (σ := s1) hi
    refine lv_if_ne (tgt := 20) hx hb dX11_pairs_10 (by decide) (fun c10 => ?_) (fun c10 => ?_)
    · have hv := hv.1 c10
      exact hY 20 [] [] s1 hv _ _ rfl H locs ls hP hS (lv_sub hl [0, 1] rfl)
    · have hv := hv.2 c10
      refine lv_aload_n hx hb dX11_pairs_13 rfl (lv_at hl 0 rfl) ?_
      refine lv_bipush (v := (-10)) hx hb dX11_pairs_14 (by decide) ?_
      refine r_ci (va_runV (As := [.int ((-10))]) (rest := []) ⟨hx, hb, hml, hown, hts⟩ (c_X11_bad hi ((-10)) s1 _ hv H.size) (cwV 1 hts gX11_pairs_X11_bad rfl rfl rfl (by decide +kernel) ⟨Nat.le_of_ble_eq_true rfl, Nat.le_of_ble_eq_true rfl⟩) ⟨pre_blind, r_recv hK.1 hP 0 (by decide) (ceMo_0 (s1 0)) rfl, pre_of hP hK⟩ rfl rfl hl.1 rfl (lv_room (Nat.le_of_ble_eq_true rfl)) dX11_pairs_16 ⟨Nat.zero_le _, Nat.zero_le _⟩) hS (fun r2 s2 H locs hv hP hS => ?_)
      have hD := wd_D (s := s) (cel := celM ad cA cZ) (σ := s2) hi
      exact r_iret hx hb hr hlocks hv hP hS dX11_pairs_19
set_option maxHeartbeats 4000000 in
set_option maxRecDepth 100000 in
theorem w_X11_pairs_20 {p : Program} {l : Launch} {e : Env} {s : State} {m : MethodId} {args : Array Value} {below : List Frame} {meth : Method} {c : Code} {dC : Nat → ClassId} {dI : Nat → Nat → Nat} {ad : Nat → Nat} {cA cZ : ClassId} (hi : Inj 12 ad) (a1 : Int32)  (C0 : Cx cX11_pairs RX11 wsX11_pairs 2 (some .int) p s m args meth c) (hK : KK dC dI cA cZ s) (Q : Int32 → St → Prop) (Y : Nat → List Int32 → List Int64 → St → Prop) (hY : ∀ P xs ys σ, Y P xs ys σ → XX p l e ({ frames := 3, cells := 0, slots := 0, locals := 73 } : Room) s m args below meth c (dC, dI) 12 ad (celM ad cA cZ) 2 (ZI below args s (dC, dI) 12 ad (celM ad cA cZ) Q) (lay_X11_pairs ad a1) P xs ys σ)  (s0 : St) (hv : B_X11_pairs_20 a1 Q Y  s0) {H : Heap} {locs : List Loc} {ls : Array Slot} (hP : va_P (dC, dI) vwCl (wd 12 ad (celM ad cA cZ) s0) H) (hS : va_S (AA 12 ad s.heap.size) s.heap H locs) (hl : lv_has ls 2 [(0, .ref (ad 0)), (1, .int a1)]) : W p l e ({ frames := 3, cells := 0, slots := 0, locals := 73 } : Room) s m args below meth c H locs 0 0 (ZI below args s (dC, dI) 12 ad (celM ad cA cZ) Q) (F0 m 20 ls []) := by
  obtain ⟨hx, hb, hml, hown, hts, hr, hlocks⟩ := C0
  have hD := wd_D (s := s) (cel := celM ad cA cZ) (σ := s0) hi
  unfold B_X11_pairs_20 at hv
  refine lv_aload_n hx hb dX11_pairs_20 rfl (lv_at hl 0 rfl) ?_
  refine r_cv (va_runV (As := []) (rest := []) ⟨hx, hb, hml, hown, hts⟩ (c_X11_layMost hi  s0 _ hv H.size) (cwV 0 hts gX11_pairs_X11_layMost rfl rfl rfl (by decide +kernel) ⟨Nat.le_of_ble_eq_true rfl, Nat.le_of_ble_eq_true rfl⟩) ⟨pre_blind, r_recv hK.1 hP 0 (by decide) (ceMo_0 (s0 0)) rfl, pre_of hP hK⟩ rfl rfl hl.1 rfl (lv_room (Nat.le_of_ble_eq_true rfl)) dX11_pairs_21 ⟨Nat.zero_le _, Nat.zero_le _⟩) hS (fun s1 H locs hv hP hS => ?_)
  have hD := wd_D (s := s) (cel := celM ad cA cZ) (σ := s1) hi
  refine lv_aload_n hx hb dX11_pairs_24 rfl (lv_at hl 0 rfl) ?_
  refine r_cv (va_runV (As := []) (rest := []) ⟨hx, hb, hml, hown, hts⟩ (c_X11_layMates hi  s1 _ hv H.size) (cwV 0 hts gX11_pairs_X11_layMates rfl rfl rfl (by decide +kernel) ⟨Nat.le_of_ble_eq_true rfl, Nat.le_of_ble_eq_true rfl⟩) ⟨pre_blind, r_recv hK.1 hP 0 (by decide) (ceMo_0 (s1 0)) rfl, pre_of hP hK⟩ rfl rfl hl.1 rfl (lv_room (Nat.le_of_ble_eq_true rfl)) dX11_pairs_25 ⟨Nat.zero_le _, Nat.zero_le _⟩) hS (fun s2 H locs hv hP hS => ?_)
  have hD := wd_D (s := s) (cel := celM ad cA cZ) (σ := s2) hi
  refine lv_iload_n hx hb dX11_pairs_28 rfl (lv_at hl 1 rfl) ?_
  refine lv_iconst (v := (-1)) hx hb dX11_pairs_29 (by decide) ?_
  refine lv_icmp_ne (tgt := 49) hx hb dX11_pairs_30 (by decide) (fun c30 => ?_) (fun c30 => ?_)
  · have hv := hv.1 c30
    refine lv_aload_n hx hb dX11_pairs_49 rfl (lv_at hl 0 rfl) ?_
    refine r_get hx hb hts (iwX11_pairs_X11) hown hK.1 hP 0 (by decide) (ceMo_0 (s2 0)) rfl 8 (by decide) (hts _ kX11_pairs_2) (v := .ref (ad 7)) rfl dX11_pairs_50 ?_
    refine lv_iload_n hx hb dX11_pairs_53 rfl (lv_at hl 1 rfl) ?_
    obtain ⟨hin, hv⟩ := hv
    refine r_iald hx hb hK.1 hP 7 (by decide) (ceMo_7 (s2 7)) hin dX11_pairs_54 ?_
    exact r_iret hx hb hr hlocks hv hP hS dX11_pairs_55
  · have hv := hv.2 c30
    refine lv_aload_n hx hb dX11_pairs_33 rfl (lv_at hl 0 rfl) ?_
    refine r_get hx hb hts (iwX11_pairs_X11) hown hK.1 hP 0 (by decide) (ceMo_0 (s2 0)) rfl 7 (by decide) (hts _ kX11_pairs_1) (v := .ref (ad 6)) rfl dX11_pairs_34 ?_
    refine lv_iconst (v := 1) hx hb dX11_pairs_37 (by decide) ?_
    refine lv_aload_n hx hb dX11_pairs_38 rfl (lv_at hl 0 rfl) ?_
    refine r_ci (va_runV (As := []) (rest := [.int 1, .ref (ad 6)]) ⟨hx, hb, hml, hown, hts⟩ (c_X11_many hi  s2 _ hv H.size) (cwV 0 hts gX11_pairs_X11_many rfl rfl rfl (by decide +kernel) ⟨Nat.le_of_ble_eq_true rfl, Nat.le_of_ble_eq_true rfl⟩) ⟨pre_blind, r_recv hK.1 hP 0 (by decide) (ceMo_0 (s2 0)) rfl, pre_of hP hK⟩ rfl rfl hl.1 rfl (lv_room (Nat.le_of_ble_eq_true rfl)) dX11_pairs_39 ⟨Nat.zero_le _, Nat.zero_le _⟩) hS (fun r3 s3 H locs hv hP hS => ?_)
    have hD := wd_D (s := s) (cel := celM ad cA cZ) (σ := s3) hi
    refine lv_ishl hx hb dX11_pairs_42 ?_
    refine lv_iconst (v := 1) hx hb dX11_pairs_43 (by decide) ?_
    refine lv_isub hx hb dX11_pairs_44 ?_
    obtain ⟨hin, hv⟩ := hv
    refine r_iald hx hb hK.1 hP 6 (by decide) (ceMo_6 (s3 6)) hin dX11_pairs_45 ?_
    refine lv_goto (tgt := 55) hx hb dX11_pairs_46 (by decide) ?_
    exact r_iret hx hb hr hlocks hv hP hS dX11_pairs_55
set_option maxHeartbeats 4000000 in
theorem y_X11_pairs {p : Program} {l : Launch} {e : Env} {s : State} {m : MethodId} {args : Array Value} {below : List Frame} {meth : Method} {c : Code} {dC : Nat → ClassId} {dI : Nat → Nat → Nat} {ad : Nat → Nat} {cA cZ : ClassId} (hi : Inj 12 ad) (a1 : Int32)  (C0 : Cx cX11_pairs RX11 wsX11_pairs 2 (some .int) p s m args meth c) (hK : KK dC dI cA cZ s) (Q : Int32 → St → Prop) : ∀ P xs ys σ, R_X11_pairs a1 Q P xs ys σ → XX p l e ({ frames := 3, cells := 0, slots := 0, locals := 73 } : Room) s m args below meth c (dC, dI) 12 ad (celM ad cA cZ) 2 (ZI below args s (dC, dI) 12 ad (celM ad cA cZ) Q) (lay_X11_pairs ad a1) P xs ys σ := by
  refine Fx.elim _ (fun P xs ys σ Y hY hB => ?_)
  rcases hB with ⟨rfl, rfl, rfl, hB⟩
  · intro lv st he H locs ls hP hS hl
    cases he
    exact w_X11_pairs_20 hi a1  C0 hK Q Y hY  σ hB hP hS hl
set_option maxHeartbeats 4000000 in
theorem c_X11_pairs {l : Launch} {dC : Nat → ClassId} {dI : Nat → Nat → Nat} {ad : Nat → Nat} {cA cZ : ClassId} (hi : Inj 12 ad) (a1 : Int32)  (s0 : St) (Q : Int32 → St → Prop) (hv : V_X11_pairs a1 s0 Q) (sz : Nat) : Met l yX11_pairs wsX11_pairs ({ frames := 3, cells := 0, slots := 0, locals := 73 } : Room) (va_Pc [.ref (ad 0), .int a1] (PW dC dI ad cA cZ 12 (celM ad cA cZ) sz s0)) (va_Qi Q (fun u t => va_P (dC, dI) vwCl (wd 12 ad (celM ad cA cZ) u) t.heap) (AA 12 ad sz)) 0 0 (AA 12 ad sz) := by
  refine Met.ofW (cc := cX11_pairs) (maxL := 2) (ret := (some .int)) (by decide) rfl ?_
  intro p e s m args below meth c s₁ B hml hv0
  obtain ⟨rfl, hsz, hP, hK⟩ := hv0
  subst hsz
  have C0 : Cx cX11_pairs RX11 wsX11_pairs 2 (some .int) p s m ([.ref (ad 0), .int a1] : List Value).toArray meth c := ⟨B.exec, B.bytes, hml, findClass_of_methodNamed B.named, atoms_spec (ws := wsX11_pairs) B.pre, B.returns, B.notSynchronized⟩
  have hl := lv_entry ([.ref (ad 0), .int a1]) (n := 2) (Nat.le_of_ble_eq_true rfl)
  rw [lg_entry_eq]
  generalize (lg_sl ([.ref (ad 0), .int a1]) ++ List.replicate (2 - (lg_sl ([.ref (ad 0), .int a1])).length) Slot.unset).toArray = ls at hl ⊢
  have hl : lv_has ls 2 [(0, .ref (ad 0)), (1, .int a1)] := hl
  exact w_X11_pairs_e hi a1  C0 hK Q (R_X11_pairs a1 Q) (y_X11_pairs hi a1  C0 hK Q)  s0 hv hP va_S.rf hl
def lay_X11_heap (ad : Nat → Nat) (a1 : Int32) : Nat → List Int32 → List Int64 → Option (List (Nat × Value) × List Value) := fun P xs ys => match P, xs, ys with
  | 33, [x2, x3, x4, x5], [] => some ([(0, .ref (ad 0)), (1, .int a1), (2, .int x2), (3, .int x3), (4, .int x4), (5, .int x5)], [])
  | 43, [x2, x3, x4, x5, x6], [] => some ([(0, .ref (ad 0)), (1, .int a1), (2, .int x2), (3, .int x3), (4, .int x4), (5, .int x5), (6, .int x6)], [])
  | 76, [x2, x3, x4, x5, x6, t0], [] => some ([(0, .ref (ad 0)), (1, .int a1), (2, .int x2), (3, .int x3), (4, .int x4), (5, .int x5), (6, .int x6)], [.int t0])
  | _, _, _ => none
set_option maxHeartbeats 4000000 in
set_option maxRecDepth 100000 in
theorem w_X11_heap_e {p : Program} {l : Launch} {e : Env} {s : State} {m : MethodId} {args : Array Value} {below : List Frame} {meth : Method} {c : Code} {dC : Nat → ClassId} {dI : Nat → Nat → Nat} {ad : Nat → Nat} {cA cZ : ClassId} (hi : Inj 12 ad) (a1 : Int32)  (C0 : Cx cX11_heap RX11 wsX11_heap 8 (some .int) p s m args meth c) (hK : KK dC dI cA cZ s) (Q : Int32 → St → Prop) (Y : Nat → List Int32 → List Int64 → St → Prop) (hY : ∀ P xs ys σ, Y P xs ys σ → XX p l e ({ frames := 4, cells := 0, slots := 0, locals := 94 } : Room) s m args below meth c (dC, dI) 12 ad (celM ad cA cZ) 8 (ZI below args s (dC, dI) 12 ad (celM ad cA cZ) Q) (lay_X11_heap ad a1) P xs ys σ)  (s0 : St) (hv : B_X11_heap_e a1 Q Y  s0) {H : Heap} {locs : List Loc} {ls : Array Slot} (hP : va_P (dC, dI) vwCl (wd 12 ad (celM ad cA cZ) s0) H) (hS : va_S (AA 12 ad s.heap.size) s.heap H locs) (hl : lv_has ls 8 [(0, .ref (ad 0)), (1, .int a1)]) : W p l e ({ frames := 4, cells := 0, slots := 0, locals := 94 } : Room) s m args below meth c H locs 0 0 (ZI below args s (dC, dI) 12 ad (celM ad cA cZ) Q) (F0 m 0 ls []) := by
  obtain ⟨hx, hb, hml, hown, hts, hr, hlocks⟩ := C0
  have hD := wd_D (s := s) (cel := celM ad cA cZ) (σ := s0) hi
  unfold B_X11_heap_e at hv
  refine lv_iload_n hx hb dX11_heap_0 rfl (lv_at hl 1 rfl) ?_
  refine lv_i2l (v := a1.toInt64) hx hb dX11_heap_1 rfl ?_
  refine lv_lconst (v := 0) hx hb dX11_heap_2 (by decide) ?_
  refine lv_ldc2 (v := 2) hx hb hown (hts _ kX11_heap_1) dX11_heap_3 ?_
  refine r_ci (va_runS (As := [.long a1.toInt64, .long 0, .long 2]) (rest := []) ⟨hx, hb, hml, hown, hts⟩ (c_X11_in hi a1.toInt64 0 2 s0 _ hv H.size) (va_cwS 3 hts gX11_heap_X11_in rfl rfl rfl (by decide +kernel) ⟨Nat.le_of_ble_eq_true rfl, Nat.le_of_ble_eq_true rfl⟩) ⟨pre_blind, pre_of hP hK⟩ rfl rfl hl.1 rfl (lv_room (Nat.le_of_ble_eq_true rfl)) dX11_heap_6 ⟨Nat.zero_le _, Nat.zero_le _⟩) hS (fun r1 s1 H locs hv hP hS => ?_)
  obtain ⟨hz_r1, hv⟩ := hv
  have hD := wd_D (s := s) (cel := celM ad cA cZ) (σ := s1) hi
  refine lv_if_ne (tgt := 19) hx hb dX11_heap_9 (by decide) (fun c9 => ?_) (fun c9 => ?_)
  · have hv := hv.1 c9
    refine lv_iconst (v := 0) hx hb dX11_heap_19 (by decide) ?_
    refine lv_istore_n (lv' := [(2, .int 0), (0, .ref (ad 0)), (1, .int a1)]) hx hb dX11_heap_20 rfl hl (by decide) rfl (fun ls hl => ?_)
    refine lv_iconst (v := 0) hx hb dX11_heap_21 (by decide) ?_
    refine lv_istore_n (lv' := [(3, .int 0), (2, .int 0), (0, .ref (ad 0)), (1, .int a1)]) hx hb dX11_heap_22 rfl hl (by decide) rfl (fun ls hl => ?_)
    refine lv_iconst (v := (-1)) hx hb dX11_heap_23 (by decide) ?_
    refine lv_istore (lv' := [(4, .int ((-1))), (3, .int 0), (2, .int 0), (0, .ref (ad 0)), (1, .int a1)]) hx hb dX11_heap_24 hl (by decide) rfl (fun ls hl => ?_)
    refine lv_aload_n hx hb dX11_heap_26 rfl (lv_at hl 3 rfl) ?_
    refine r_cv (va_runV (As := []) (rest := []) ⟨hx, hb, hml, hown, hts⟩ (c_X11_layHand hi  s1 _ hv H.size) (cwV 0 hts gX11_heap_X11_layHand rfl rfl rfl (by decide +kernel) ⟨Nat.le_of_ble_eq_true rfl, Nat.le_of_ble_eq_true rfl⟩) ⟨pre_blind, r_recv hK.1 hP 0 (by decide) (ceMo_0 (s1 0)) rfl, pre_of hP hK⟩ rfl rfl hl.1 rfl (lv_room (Nat.le_of_ble_eq_true rfl)) dX11_heap_27 ⟨Nat.zero_le _, Nat.zero_le _⟩) hS (fun s2 H locs hv hP hS => ?_)
    have hD := wd_D (s := s) (cel := celM ad cA cZ) (σ := s2) hi
    refine lv_iconst (v := 0) hx hb dX11_heap_30 (by decide) ?_
    refine lv_istore (lv' := [(5, .int 0), (4, .int ((-1))), (3, .int 0), (2, .int 0), (0, .ref (ad 0)), (1, .int a1)]) hx hb dX11_heap_31 hl (by decide) rfl (fun ls hl => ?_)
    exact hY 33 [0, 0, (-1), 0] [] s2 hv _ _ rfl H locs ls hP hS (lv_sub hl [4, 5, 3, 2, 1, 0] rfl)
  · have hv := hv.2 c9
    refine lv_aload_n hx hb dX11_heap_12 rfl (lv_at hl 0 rfl) ?_
    refine lv_bipush (v := (-2)) hx hb dX11_heap_13 (by decide) ?_
    refine r_ci (va_runV (As := [.int ((-2))]) (rest := []) ⟨hx, hb, hml, hown, hts⟩ (c_X11_bad hi ((-2)) s1 _ hv H.size) (cwV 1 hts gX11_heap_X11_bad rfl rfl rfl (by decide +kernel) ⟨Nat.le_of_ble_eq_true rfl, Nat.le_of_ble_eq_true rfl⟩) ⟨pre_blind, r_recv hK.1 hP 0 (by decide) (ceMo_0 (s1 0)) rfl, pre_of hP hK⟩ rfl rfl hl.1 rfl (lv_room (Nat.le_of_ble_eq_true rfl)) dX11_heap_15 ⟨Nat.zero_le _, Nat.zero_le _⟩) hS (fun r3 s3 H locs hv hP hS => ?_)
    have hD := wd_D (s := s) (cel := celM ad cA cZ) (σ := s3) hi
    exact r_iret hx hb hr hlocks hv hP hS dX11_heap_18
set_option maxHeartbeats 4000000 in
set_option maxRecDepth 100000 in
theorem w_X11_heap_33 {p : Program} {l : Launch} {e : Env} {s : State} {m : MethodId} {args : Array Value} {below : List Frame} {meth : Method} {c : Code} {dC : Nat → ClassId} {dI : Nat → Nat → Nat} {ad : Nat → Nat} {cA cZ : ClassId} (hi : Inj 12 ad) (a1 : Int32)  (C0 : Cx cX11_heap RX11 wsX11_heap 8 (some .int) p s m args meth c) (hK : KK dC dI cA cZ s) (Q : Int32 → St → Prop) (Y : Nat → List Int32 → List Int64 → St → Prop) (hY : ∀ P xs ys σ, Y P xs ys σ → XX p l e ({ frames := 4, cells := 0, slots := 0, locals := 94 } : Room) s m args below meth c (dC, dI) 12 ad (celM ad cA cZ) 8 (ZI below args s (dC, dI) 12 ad (celM ad cA cZ) Q) (lay_X11_heap ad a1) P xs ys σ) (x2 : Int32) (x3 : Int32) (x4 : Int32) (x5 : Int32) (s0 : St) (hv : B_X11_heap_33 a1 Q Y x2 x3 x4 x5 s0) {H : Heap} {locs : List Loc} {ls : Array Slot} (hP : va_P (dC, dI) vwCl (wd 12 ad (celM ad cA cZ) s0) H) (hS : va_S (AA 12 ad s.heap.size) s.heap H locs) (hl : lv_has ls 8 [(0, .ref (ad 0)), (1, .int a1), (2, .int x2), (3, .int x3), (4, .int x4), (5, .int x5)]) : W p l e ({ frames := 4, cells := 0, slots := 0, locals := 94 } : Room) s m args below meth c H locs 0 0 (ZI below args s (dC, dI) 12 ad (celM ad cA cZ) Q) (F0 m 33 ls []) := by
  obtain ⟨hx, hb, hml, hown, hts, hr, hlocks⟩ := C0
  have hD := wd_D (s := s) (cel := celM ad cA cZ) (σ := s0) hi
  unfold B_X11_heap_33 at hv
  refine lv_iload hx hb dX11_heap_33 (lv_at hl 5 rfl) ?_
  refine lv_bipush (v := 30) hx hb dX11_heap_35 (by decide) ?_
  refine lv_icmp_gt (tgt := 113) hx hb dX11_heap_37 (by decide) (fun c37 => ?_) (fun c37 => ?_)
  · have hv := hv.1 c37
    refine lv_iload_n hx hb dX11_heap_113 rfl (lv_at hl 1 rfl) ?_
    refine lv_if_ne (tgt := 121) hx hb dX11_heap_114 (by decide) (fun c114 => ?_) (fun c114 => ?_)
    · have hv := hv.1 c114
      refine lv_iload_n hx hb dX11_heap_121 rfl (lv_at hl 1 rfl) ?_
      refine lv_iconst (v := 1) hx hb dX11_heap_122 (by decide) ?_
      refine lv_icmp_ne (tgt := 130) hx hb dX11_heap_123 (by decide) (fun c123 => ?_) (fun c123 => ?_)
      · have hv := hv.1 c123
        refine lv_iload hx hb dX11_heap_130 (lv_at hl 4 rfl) ?_
        exact r_iret hx hb hr hlocks hv hP hS dX11_heap_132
      · have hv := hv.2 c123
        refine lv_iload_n hx hb dX11_heap_126 rfl (lv_at hl 3 rfl) ?_
        refine lv_goto (tgt := 132) hx hb dX11_heap_127 (by decide) ?_
        exact r_iret hx hb hr hlocks hv hP hS dX11_heap_132
    · have hv := hv.2 c114
      refine lv_iload_n hx hb dX11_heap_117 rfl (lv_at hl 2 rfl) ?_
      refine lv_goto (tgt := 132) hx hb dX11_heap_118 (by decide) ?_
      exact r_iret hx hb hr hlocks hv hP hS dX11_heap_132
  · have hv := hv.2 c37
    refine lv_iconst (v := 0) hx hb dX11_heap_40 (by decide) ?_
    refine lv_istore (lv' := [(6, .int 0), (0, .ref (ad 0)), (1, .int a1), (2, .int x2), (3, .int x3), (4, .int x4), (5, .int x5)]) hx hb dX11_heap_41 hl (by decide) rfl (fun ls hl => ?_)
    exact hY 43 [x2, x3, x4, x5, 0] [] s0 hv _ _ rfl H locs ls hP hS (lv_sub hl [1, 2, 3, 4, 5, 6, 0] rfl)
set_option maxHeartbeats 4000000 in
set_option maxRecDepth 100000 in
theorem w_X11_heap_43 {p : Program} {l : Launch} {e : Env} {s : State} {m : MethodId} {args : Array Value} {below : List Frame} {meth : Method} {c : Code} {dC : Nat → ClassId} {dI : Nat → Nat → Nat} {ad : Nat → Nat} {cA cZ : ClassId} (hi : Inj 12 ad) (a1 : Int32)  (C0 : Cx cX11_heap RX11 wsX11_heap 8 (some .int) p s m args meth c) (hK : KK dC dI cA cZ s) (Q : Int32 → St → Prop) (Y : Nat → List Int32 → List Int64 → St → Prop) (hY : ∀ P xs ys σ, Y P xs ys σ → XX p l e ({ frames := 4, cells := 0, slots := 0, locals := 94 } : Room) s m args below meth c (dC, dI) 12 ad (celM ad cA cZ) 8 (ZI below args s (dC, dI) 12 ad (celM ad cA cZ) Q) (lay_X11_heap ad a1) P xs ys σ) (x2 : Int32) (x3 : Int32) (x4 : Int32) (x5 : Int32) (x6 : Int32) (s0 : St) (hv : B_X11_heap_43 a1 Q Y x2 x3 x4 x5 x6 s0) {H : Heap} {locs : List Loc} {ls : Array Slot} (hP : va_P (dC, dI) vwCl (wd 12 ad (celM ad cA cZ) s0) H) (hS : va_S (AA 12 ad s.heap.size) s.heap H locs) (hl : lv_has ls 8 [(0, .ref (ad 0)), (1, .int a1), (2, .int x2), (3, .int x3), (4, .int x4), (5, .int x5), (6, .int x6)]) : W p l e ({ frames := 4, cells := 0, slots := 0, locals := 94 } : Room) s m args below meth c H locs 0 0 (ZI below args s (dC, dI) 12 ad (celM ad cA cZ) Q) (F0 m 43 ls []) := by
  obtain ⟨hx, hb, hml, hown, hts, hr, hlocks⟩ := C0
  have hD := wd_D (s := s) (cel := celM ad cA cZ) (σ := s0) hi
  unfold B_X11_heap_43 at hv
  refine lv_iload hx hb dX11_heap_43 (lv_at hl 6 rfl) ?_
  refine lv_bipush (v := 23) hx hb dX11_heap_45 (by decide) ?_
  refine lv_icmp_ge (tgt := 100) hx hb dX11_heap_47 (by decide) (fun c47 => ?_) (fun c47 => ?_)
  · have hv := hv.1 c47
    refine lv_aload_n hx hb dX11_heap_100 rfl (lv_at hl 0 rfl) ?_
    refine r_get hx hb hts (iwX11_heap_X11) hown hK.1 hP 0 (by decide) (ceMo_0 (s0 0)) rfl 6 (by decide) (hts _ kX11_heap_2) (v := .ref (ad 5)) rfl dX11_heap_101 ?_
    refine r_cv (va_runS (As := [.ref (ad 5)]) (rest := []) ⟨hx, hb, hml, hown, hts⟩ (c_X11_goHour hi 5 43 arM_5 s0 _ hv H.size) (va_cwS 1 hts gX11_heap_X11_goHour rfl rfl rfl (by decide +kernel) ⟨Nat.le_of_ble_eq_true rfl, Nat.le_of_ble_eq_true rfl⟩) ⟨pre_blind, pre_of hP hK⟩ rfl rfl hl.1 rfl (lv_room (Nat.le_of_ble_eq_true rfl)) dX11_heap_104 ⟨Nat.zero_le _, Nat.zero_le _⟩) hS (fun s1 H locs hv hP hS => ?_)
    have hD := wd_D (s := s) (cel := celM ad cA cZ) (σ := s1) hi
    refine lv_iinc (v := x5 + 1) (lv' := [(5, .int (x5 + 1)), (0, .ref (ad 0)), (1, .int a1), (2, .int x2), (3, .int x3), (4, .int x4), (6, .int x6)]) hx hb dX11_heap_107 hl (k := 5) rfl rfl (by decide) rfl (fun ls hl => ?_)
    refine lv_goto (tgt := 33) hx hb dX11_heap_110 (by decide) ?_
    exact hY 33 [x2, x3, x4, x5 + 1] [] s1 hv _ _ rfl H locs ls hP hS (lv_sub hl [1, 2, 3, 4, 5, 0] rfl)
  · have hv := hv.2 c47
    refine lv_aload_n hx hb dX11_heap_50 rfl (lv_at hl 0 rfl) ?_
    refine r_get hx hb hts (iwX11_heap_X11) hown hK.1 hP 0 (by decide) (ceMo_0 (s0 0)) rfl 6 (by decide) (hts _ kX11_heap_2) (v := .ref (ad 5)) rfl dX11_heap_51 ?_
    refine lv_iload hx hb dX11_heap_54 (lv_at hl 6 rfl) ?_
    refine r_ci (va_runS (As := [.ref (ad 5), .int x6]) (rest := []) ⟨hx, hb, hml, hown, hts⟩ (c_X11_behind hi 5 43 x6 arM_5 s0 _ hv H.size) (va_cwS 2 hts gX11_heap_X11_behind rfl rfl rfl (by decide +kernel) ⟨Nat.le_of_ble_eq_true rfl, Nat.le_of_ble_eq_true rfl⟩) ⟨pre_blind, pre_of hP hK⟩ rfl rfl hl.1 rfl (lv_room (Nat.le_of_ble_eq_true rfl)) dX11_heap_56 ⟨Nat.zero_le _, Nat.zero_le _⟩) hS (fun r2 s2 H locs hv hP hS => ?_)
    have hD := wd_D (s := s) (cel := celM ad cA cZ) (σ := s2) hi
    refine lv_iconst (v := (-1)) hx hb dX11_heap_59 (by decide) ?_
    refine lv_icmp_ne (tgt := 67) hx hb dX11_heap_60 (by decide) (fun c60 => ?_) (fun c60 => ?_)
    · have hv := hv.1 c60
      refine lv_aload_n hx hb dX11_heap_67 rfl (lv_at hl 0 rfl) ?_
      refine r_get hx hb hts (iwX11_heap_X11) hown hK.1 hP 0 (by decide) (ceMo_0 (s2 0)) rfl 6 (by decide) (hts _ kX11_heap_2) (v := .ref (ad 5)) rfl dX11_heap_68 ?_
      refine lv_iload hx hb dX11_heap_71 (lv_at hl 6 rfl) ?_
      refine r_ci (va_runS (As := [.ref (ad 5), .int x6]) (rest := []) ⟨hx, hb, hml, hown, hts⟩ (c_X11_manyAt hi 5 43 x6 arM_5 s2 _ hv H.size) (va_cwS 2 hts gX11_heap_X11_manyAt rfl rfl rfl (by decide +kernel) ⟨Nat.le_of_ble_eq_true rfl, Nat.le_of_ble_eq_true rfl⟩) ⟨pre_blind, pre_of hP hK⟩ rfl rfl hl.1 rfl (lv_room (Nat.le_of_ble_eq_true rfl)) dX11_heap_73 ⟨Nat.zero_le _, Nat.zero_le _⟩) hS (fun r3 s3 H locs hv hP hS => ?_)
      have hD := wd_D (s := s) (cel := celM ad cA cZ) (σ := s3) hi
      exact hY 76 [x2, x3, x4, x5, x6, r3] [] s3 hv _ _ rfl H locs ls hP hS (lv_sub hl [0, 1, 2, 3, 4, 5, 6] rfl)
    · have hv := hv.2 c60
      refine lv_iconst (v := 0) hx hb dX11_heap_63 (by decide) ?_
      refine lv_goto (tgt := 76) hx hb dX11_heap_64 (by decide) ?_
      exact hY 76 [x2, x3, x4, x5, x6, 0] [] s2 hv _ _ rfl H locs ls hP hS (lv_sub hl [0, 1, 2, 3, 4, 5, 6] rfl)
set_option maxHeartbeats 4000000 in
set_option maxRecDepth 100000 in
theorem w_X11_heap_76 {p : Program} {l : Launch} {e : Env} {s : State} {m : MethodId} {args : Array Value} {below : List Frame} {meth : Method} {c : Code} {dC : Nat → ClassId} {dI : Nat → Nat → Nat} {ad : Nat → Nat} {cA cZ : ClassId} (hi : Inj 12 ad) (a1 : Int32)  (C0 : Cx cX11_heap RX11 wsX11_heap 8 (some .int) p s m args meth c) (hK : KK dC dI cA cZ s) (Q : Int32 → St → Prop) (Y : Nat → List Int32 → List Int64 → St → Prop) (hY : ∀ P xs ys σ, Y P xs ys σ → XX p l e ({ frames := 4, cells := 0, slots := 0, locals := 94 } : Room) s m args below meth c (dC, dI) 12 ad (celM ad cA cZ) 8 (ZI below args s (dC, dI) 12 ad (celM ad cA cZ) Q) (lay_X11_heap ad a1) P xs ys σ) (x2 : Int32) (x3 : Int32) (x4 : Int32) (x5 : Int32) (x6 : Int32) (t0 : Int32) (s0 : St) (hv : B_X11_heap_76 a1 Q Y x2 x3 x4 x5 x6 t0 s0) {H : Heap} {locs : List Loc} {ls : Array Slot} (hP : va_P (dC, dI) vwCl (wd 12 ad (celM ad cA cZ) s0) H) (hS : va_S (AA 12 ad s.heap.size) s.heap H locs) (hl : lv_has ls 8 [(0, .ref (ad 0)), (1, .int a1), (2, .int x2), (3, .int x3), (4, .int x4), (5, .int x5), (6, .int x6)]) : W p l e ({ frames := 4, cells := 0, slots := 0, locals := 94 } : Room) s m args below meth c H locs 0 0 (ZI below args s (dC, dI) 12 ad (celM ad cA cZ) Q) (F0 m 76 ls [.int t0]) := by
  obtain ⟨hx, hb, hml, hown, hts, hr, hlocks⟩ := C0
  have hD := wd_D (s := s) (cel := celM ad cA cZ) (σ := s0) hi
  unfold B_X11_heap_76 at hv
  refine lv_istore (lv' := [(7, .int t0), (0, .ref (ad 0)), (1, .int a1), (2, .int x2), (3, .int x3), (4, .int x4), (5, .int x5), (6, .int x6)]) hx hb dX11_heap_76 hl (by decide) rfl (fun ls hl => ?_)
  refine lv_iload hx hb dX11_heap_78 (lv_at hl 0 rfl) ?_
  refine lv_iload_n hx hb dX11_heap_80 rfl (lv_at hl 3 rfl) ?_
  refine lv_icmp_le (tgt := 94) hx hb dX11_heap_81 (by decide) (fun c81 => ?_) (fun c81 => ?_)
  · have hv := hv.1 c81
    refine lv_iinc (v := x6 + 1) (lv' := [(6, .int (x6 + 1)), (7, .int t0), (0, .ref (ad 0)), (1, .int a1), (2, .int x2), (3, .int x3), (4, .int x4), (5, .int x5)]) hx hb dX11_heap_94 hl (k := 7) rfl rfl (by decide) rfl (fun ls hl => ?_)
    refine lv_goto (tgt := 43) hx hb dX11_heap_97 (by decide) ?_
    exact hY 43 [x2, x3, x4, x5, x6 + 1] [] s0 hv _ _ rfl H locs ls hP hS (lv_sub hl [2, 3, 4, 5, 6, 7, 0] rfl)
  · have hv := hv.2 c81
    refine lv_iload hx hb dX11_heap_84 (lv_at hl 0 rfl) ?_
    refine lv_istore_n (lv' := [(2, .int t0), (7, .int t0), (0, .ref (ad 0)), (1, .int a1), (3, .int x3), (4, .int x4), (5, .int x5), (6, .int x6)]) hx hb dX11_heap_86 rfl hl (by decide) rfl (fun ls hl => ?_)
    refine lv_iload hx hb dX11_heap_87 (lv_at hl 6 rfl) ?_
    refine lv_istore_n (lv' := [(3, .int x5), (2, .int t0), (7, .int t0), (0, .ref (ad 0)), (1, .int a1), (4, .int x4), (5, .int x5), (6, .int x6)]) hx hb dX11_heap_89 rfl hl (by decide) rfl (fun ls hl => ?_)
    refine lv_iload hx hb dX11_heap_90 (lv_at hl 7 rfl) ?_
    refine lv_istore (lv' := [(4, .int x6), (3, .int x5), (2, .int t0), (7, .int t0), (0, .ref (ad 0)), (1, .int a1), (5, .int x5), (6, .int x6)]) hx hb dX11_heap_92 hl (by decide) rfl (fun ls hl => ?_)
    refine lv_iinc (v := x6 + 1) (lv' := [(6, .int (x6 + 1)), (4, .int x6), (3, .int x5), (2, .int t0), (7, .int t0), (0, .ref (ad 0)), (1, .int a1), (5, .int x5)]) hx hb dX11_heap_94 hl (k := 7) rfl rfl (by decide) rfl (fun ls hl => ?_)
    refine lv_goto (tgt := 43) hx hb dX11_heap_97 (by decide) ?_
    exact hY 43 [t0, x5, x6, x5, x6 + 1] [] s0 hv _ _ rfl H locs ls hP hS (lv_sub hl [5, 6, 3, 2, 1, 7, 0] rfl)
set_option maxHeartbeats 4000000 in
theorem y_X11_heap {p : Program} {l : Launch} {e : Env} {s : State} {m : MethodId} {args : Array Value} {below : List Frame} {meth : Method} {c : Code} {dC : Nat → ClassId} {dI : Nat → Nat → Nat} {ad : Nat → Nat} {cA cZ : ClassId} (hi : Inj 12 ad) (a1 : Int32)  (C0 : Cx cX11_heap RX11 wsX11_heap 8 (some .int) p s m args meth c) (hK : KK dC dI cA cZ s) (Q : Int32 → St → Prop) : ∀ P xs ys σ, R_X11_heap a1 Q P xs ys σ → XX p l e ({ frames := 4, cells := 0, slots := 0, locals := 94 } : Room) s m args below meth c (dC, dI) 12 ad (celM ad cA cZ) 8 (ZI below args s (dC, dI) 12 ad (celM ad cA cZ) Q) (lay_X11_heap ad a1) P xs ys σ := by
  refine Fx.elim _ (fun P xs ys σ Y hY hB => ?_)
  rcases hB with ⟨rfl, x2, x3, x4, x5, rfl, rfl, hB⟩ | ⟨rfl, x2, x3, x4, x5, x6, rfl, rfl, hB⟩ | ⟨rfl, x2, x3, x4, x5, x6, t0, rfl, rfl, hB⟩
  · intro lv st he H locs ls hP hS hl
    cases he
    exact w_X11_heap_33 hi a1  C0 hK Q Y hY x2 x3 x4 x5 σ hB hP hS hl
  · intro lv st he H locs ls hP hS hl
    cases he
    exact w_X11_heap_43 hi a1  C0 hK Q Y hY x2 x3 x4 x5 x6 σ hB hP hS hl
  · intro lv st he H locs ls hP hS hl
    cases he
    exact w_X11_heap_76 hi a1  C0 hK Q Y hY x2 x3 x4 x5 x6 t0 σ hB hP hS hl
set_option maxHeartbeats 4000000 in
theorem c_X11_heap {l : Launch} {dC : Nat → ClassId} {dI : Nat → Nat → Nat} {ad : Nat → Nat} {cA cZ : ClassId} (hi : Inj 12 ad) (a1 : Int32)  (s0 : St) (Q : Int32 → St → Prop) (hv : V_X11_heap a1 s0 Q) (sz : Nat) : Met l yX11_heap wsX11_heap ({ frames := 4, cells := 0, slots := 0, locals := 94 } : Room) (va_Pc [.ref (ad 0), .int a1] (PW dC dI ad cA cZ 12 (celM ad cA cZ) sz s0)) (va_Qi Q (fun u t => va_P (dC, dI) vwCl (wd 12 ad (celM ad cA cZ) u) t.heap) (AA 12 ad sz)) 0 0 (AA 12 ad sz) := by
  refine Met.ofW (cc := cX11_heap) (maxL := 8) (ret := (some .int)) (by decide) rfl ?_
  intro p e s m args below meth c s₁ B hml hv0
  obtain ⟨rfl, hsz, hP, hK⟩ := hv0
  subst hsz
  have C0 : Cx cX11_heap RX11 wsX11_heap 8 (some .int) p s m ([.ref (ad 0), .int a1] : List Value).toArray meth c := ⟨B.exec, B.bytes, hml, findClass_of_methodNamed B.named, atoms_spec (ws := wsX11_heap) B.pre, B.returns, B.notSynchronized⟩
  have hl := lv_entry ([.ref (ad 0), .int a1]) (n := 8) (Nat.le_of_ble_eq_true rfl)
  rw [lg_entry_eq]
  generalize (lg_sl ([.ref (ad 0), .int a1]) ++ List.replicate (8 - (lg_sl ([.ref (ad 0), .int a1])).length) Slot.unset).toArray = ls at hl ⊢
  have hl : lv_has ls 8 [(0, .ref (ad 0)), (1, .int a1)] := hl
  exact w_X11_heap_e hi a1  C0 hK Q (R_X11_heap a1 Q) (y_X11_heap hi a1  C0 hK Q)  s0 hv hP va_S.rf hl
def lay_X11_hold (ad : Nat → Nat) (a1 : Int32) : Nat → List Int32 → List Int64 → Option (List (Nat × Value) × List Value) := fun P xs ys => match P, xs, ys with
  | 23, [x2, x3], [] => some ([(0, .ref (ad 0)), (1, .int a1), (2, .int x2), (3, .int x3)], [])
  | 78, [x2, x3, t0], [] => some ([(0, .ref (ad 0)), (1, .int a1), (2, .int x2), (3, .int x3)], [.int t0])
  | _, _, _ => none
set_option maxHeartbeats 4000000 in
set_option maxRecDepth 100000 in
theorem w_X11_hold_e {p : Program} {l : Launch} {e : Env} {s : State} {m : MethodId} {args : Array Value} {below : List Frame} {meth : Method} {c : Code} {dC : Nat → ClassId} {dI : Nat → Nat → Nat} {ad : Nat → Nat} {cA cZ : ClassId} (hi : Inj 12 ad) (a1 : Int32)  (C0 : Cx cX11_hold RX11 wsX11_hold 5 (some .int) p s m args meth c) (hK : KK dC dI cA cZ s) (Q : Int32 → St → Prop) (Y : Nat → List Int32 → List Int64 → St → Prop) (hY : ∀ P xs ys σ, Y P xs ys σ → XX p l e ({ frames := 5, cells := 0, slots := 0, locals := 116 } : Room) s m args below meth c (dC, dI) 12 ad (celM ad cA cZ) 5 (ZI below args s (dC, dI) 12 ad (celM ad cA cZ) Q) (lay_X11_hold ad a1) P xs ys σ)  (s0 : St) (hv : B_X11_hold_e a1 Q Y  s0) {H : Heap} {locs : List Loc} {ls : Array Slot} (hP : va_P (dC, dI) vwCl (wd 12 ad (celM ad cA cZ) s0) H) (hS : va_S (AA 12 ad s.heap.size) s.heap H locs) (hl : lv_has ls 5 [(0, .ref (ad 0)), (1, .int a1)]) : W p l e ({ frames := 5, cells := 0, slots := 0, locals := 116 } : Room) s m args below meth c H locs 0 0 (ZI below args s (dC, dI) 12 ad (celM ad cA cZ) Q) (F0 m 0 ls []) := by
  obtain ⟨hx, hb, hml, hown, hts, hr, hlocks⟩ := C0
  have hD := wd_D (s := s) (cel := celM ad cA cZ) (σ := s0) hi
  unfold B_X11_hold_e at hv
  refine lv_iload_n hx hb dX11_hold_0 rfl (lv_at hl 1 rfl) ?_
  refine lv_i2l (v := a1.toInt64) hx hb dX11_hold_1 rfl ?_
  refine lv_lconst (v := 1) hx hb dX11_hold_2 (by decide) ?_
  refine lv_ldc2 (v := 60) hx hb hown (hts _ kX11_hold_1) dX11_hold_3 ?_
  refine r_ci (va_runS (As := [.long a1.toInt64, .long 1, .long 60]) (rest := []) ⟨hx, hb, hml, hown, hts⟩ (c_X11_in hi a1.toInt64 1 60 s0 _ hv H.size) (va_cwS 3 hts gX11_hold_X11_in rfl rfl rfl (by decide +kernel) ⟨Nat.le_of_ble_eq_true rfl, Nat.le_of_ble_eq_true rfl⟩) ⟨pre_blind, pre_of hP hK⟩ rfl rfl hl.1 rfl (lv_room (Nat.le_of_ble_eq_true rfl)) dX11_hold_6 ⟨Nat.zero_le _, Nat.zero_le _⟩) hS (fun r1 s1 H locs hv hP hS => ?_)
  obtain ⟨hz_r1, hv⟩ := hv
  have hD := wd_D (s := s) (cel := celM ad cA cZ) (σ := s1) hi
  refine lv_if_ne (tgt := 19) hx hb dX11_hold_9 (by decide) (fun c9 => ?_) (fun c9 => ?_)
  · have hv := hv.1 c9
    refine lv_iconst (v := (-1)) hx hb dX11_hold_19 (by decide) ?_
    refine lv_istore_n (lv' := [(2, .int ((-1))), (0, .ref (ad 0)), (1, .int a1)]) hx hb dX11_hold_20 rfl hl (by decide) rfl (fun ls hl => ?_)
    refine lv_iconst (v := 0) hx hb dX11_hold_21 (by decide) ?_
    refine lv_istore_n (lv' := [(3, .int 0), (2, .int ((-1))), (0, .ref (ad 0)), (1, .int a1)]) hx hb dX11_hold_22 rfl hl (by decide) rfl (fun ls hl => ?_)
    exact hY 23 [(-1), 0] [] s1 hv _ _ rfl H locs ls hP hS (lv_sub hl [2, 3, 1, 0] rfl)
  · have hv := hv.2 c9
    refine lv_aload_n hx hb dX11_hold_12 rfl (lv_at hl 0 rfl) ?_
    refine lv_bipush (v := (-2)) hx hb dX11_hold_13 (by decide) ?_
    refine r_ci (va_runV (As := [.int ((-2))]) (rest := []) ⟨hx, hb, hml, hown, hts⟩ (c_X11_bad hi ((-2)) s1 _ hv H.size) (cwV 1 hts gX11_hold_X11_bad rfl rfl rfl (by decide +kernel) ⟨Nat.le_of_ble_eq_true rfl, Nat.le_of_ble_eq_true rfl⟩) ⟨pre_blind, r_recv hK.1 hP 0 (by decide) (ceMo_0 (s1 0)) rfl, pre_of hP hK⟩ rfl rfl hl.1 rfl (lv_room (Nat.le_of_ble_eq_true rfl)) dX11_hold_15 ⟨Nat.zero_le _, Nat.zero_le _⟩) hS (fun r2 s2 H locs hv hP hS => ?_)
    have hD := wd_D (s := s) (cel := celM ad cA cZ) (σ := s2) hi
    exact r_iret hx hb hr hlocks hv hP hS dX11_hold_18
set_option maxHeartbeats 4000000 in
set_option maxRecDepth 100000 in
theorem w_X11_hold_23 {p : Program} {l : Launch} {e : Env} {s : State} {m : MethodId} {args : Array Value} {below : List Frame} {meth : Method} {c : Code} {dC : Nat → ClassId} {dI : Nat → Nat → Nat} {ad : Nat → Nat} {cA cZ : ClassId} (hi : Inj 12 ad) (a1 : Int32)  (C0 : Cx cX11_hold RX11 wsX11_hold 5 (some .int) p s m args meth c) (hK : KK dC dI cA cZ s) (Q : Int32 → St → Prop) (Y : Nat → List Int32 → List Int64 → St → Prop) (hY : ∀ P xs ys σ, Y P xs ys σ → XX p l e ({ frames := 5, cells := 0, slots := 0, locals := 116 } : Room) s m args below meth c (dC, dI) 12 ad (celM ad cA cZ) 5 (ZI below args s (dC, dI) 12 ad (celM ad cA cZ) Q) (lay_X11_hold ad a1) P xs ys σ) (x2 : Int32) (x3 : Int32) (s0 : St) (hv : B_X11_hold_23 a1 Q Y x2 x3 s0) {H : Heap} {locs : List Loc} {ls : Array Slot} (hP : va_P (dC, dI) vwCl (wd 12 ad (celM ad cA cZ) s0) H) (hS : va_S (AA 12 ad s.heap.size) s.heap H locs) (hl : lv_has ls 5 [(0, .ref (ad 0)), (1, .int a1), (2, .int x2), (3, .int x3)]) : W p l e ({ frames := 5, cells := 0, slots := 0, locals := 116 } : Room) s m args below meth c H locs 0 0 (ZI below args s (dC, dI) 12 ad (celM ad cA cZ) Q) (F0 m 23 ls []) := by
  obtain ⟨hx, hb, hml, hown, hts, hr, hlocks⟩ := C0
  have hD := wd_D (s := s) (cel := celM ad cA cZ) (σ := s0) hi
  unfold B_X11_hold_23 at hv
  refine lv_iload_n hx hb dX11_hold_23 rfl (lv_at hl 3 rfl) ?_
  refine lv_iconst (v := 1) hx hb dX11_hold_24 (by decide) ?_
  refine lv_aload_n hx hb dX11_hold_25 rfl (lv_at hl 0 rfl) ?_
  refine r_get hx hb hts (iwX11_hold_X11) hown hK.1 hP 0 (by decide) (ceMo_0 (s0 0)) rfl 0 (by decide) (hts _ kX11_hold_2) (v := .ref (ad 1)) rfl dX11_hold_26 ?_
  refine lv_iconst (v := 1) hx hb dX11_hold_29 (by decide) ?_
  refine r_iald hx hb hK.1 hP 1 (by decide) (ceMo_1 (s0 1)) (vp_in_of_dec (by decide)) dX11_hold_30 ?_
  refine lv_ishl hx hb dX11_hold_31 ?_
  refine lv_icmp_ge (tgt := 113) hx hb dX11_hold_32 (by decide) (fun c32 => ?_) (fun c32 => ?_)
  · have hv := hv.1 c32
    refine lv_iload_n hx hb dX11_hold_113 rfl (lv_at hl 2 rfl) ?_
    exact r_iret hx hb hr hlocks hv hP hS dX11_hold_114
  · have hv := hv.2 c32
    refine lv_aload_n hx hb dX11_hold_35 rfl (lv_at hl 0 rfl) ?_
    refine r_cv (va_runV (As := []) (rest := []) ⟨hx, hb, hml, hown, hts⟩ (c_X11_layHand hi  s0 _ hv H.size) (cwV 0 hts gX11_hold_X11_layHand rfl rfl rfl (by decide +kernel) ⟨Nat.le_of_ble_eq_true rfl, Nat.le_of_ble_eq_true rfl⟩) ⟨pre_blind, r_recv hK.1 hP 0 (by decide) (ceMo_0 (s0 0)) rfl, pre_of hP hK⟩ rfl rfl hl.1 rfl (lv_room (Nat.le_of_ble_eq_true rfl)) dX11_hold_36 ⟨Nat.zero_le _, Nat.zero_le _⟩) hS (fun s1 H locs hv hP hS => ?_)
    have hD := wd_D (s := s) (cel := celM ad cA cZ) (σ := s1) hi
    refine lv_aload_n hx hb dX11_hold_39 rfl (lv_at hl 0 rfl) ?_
    refine r_get hx hb hts (iwX11_hold_X11) hown hK.1 hP 0 (by decide) (ceMo_0 (s1 0)) rfl 6 (by decide) (hts _ kX11_hold_3) (v := .ref (ad 5)) rfl dX11_hold_40 ?_
    refine lv_bipush (v := 14) hx hb dX11_hold_43 (by decide) ?_
    refine lv_iload_n hx hb dX11_hold_45 rfl (lv_at hl 3 rfl) ?_
    refine r_iast hx hb hK.1 hP hD hS 5 (by decide) (ceMo_5 (s1 5)) (ceMo_5 _) (vp_in_of_dec (by decide)) dX11_hold_46 (fun H locs s2 es2 hP hD hS => ?_)
    have hv := hv s2 es2
    refine lv_aload_n hx hb dX11_hold_47 rfl (lv_at hl 0 rfl) ?_
    refine lv_iload_n hx hb dX11_hold_48 rfl (lv_at hl 1 rfl) ?_
    refine r_cv (va_runV (As := [.int a1]) (rest := []) ⟨hx, hb, hml, hown, hts⟩ (c_X11_goAhead hi a1 s2 _ hv H.size) (cwV 1 hts gX11_hold_X11_goAhead rfl rfl rfl (by decide +kernel) ⟨Nat.le_of_ble_eq_true rfl, Nat.le_of_ble_eq_true rfl⟩) ⟨pre_blind, r_recv hK.1 hP 0 (by decide) (ceMo_0 (s2 0)) rfl, pre_of hP hK⟩ rfl rfl hl.1 rfl (lv_room (Nat.le_of_ble_eq_true rfl)) dX11_hold_49 ⟨Nat.zero_le _, Nat.zero_le _⟩) hS (fun s3 H locs hv hP hS => ?_)
    have hD := wd_D (s := s) (cel := celM ad cA cZ) (σ := s3) hi
    refine lv_aload_n hx hb dX11_hold_52 rfl (lv_at hl 0 rfl) ?_
    refine r_get hx hb hts (iwX11_hold_X11) hown hK.1 hP 0 (by decide) (ceMo_0 (s3 0)) rfl 6 (by decide) (hts _ kX11_hold_3) (v := .ref (ad 5)) rfl dX11_hold_53 ?_
    refine lv_bipush (v := 23) hx hb dX11_hold_56 (by decide) ?_
    refine r_ci (va_runS (As := [.ref (ad 5), .int 23]) (rest := []) ⟨hx, hb, hml, hown, hts⟩ (c_X11_manyAt hi 5 43 23 arM_5 s3 _ hv H.size) (va_cwS 2 hts gX11_hold_X11_manyAt rfl rfl rfl (by decide +kernel) ⟨Nat.le_of_ble_eq_true rfl, Nat.le_of_ble_eq_true rfl⟩) ⟨pre_blind, pre_of hP hK⟩ rfl rfl hl.1 rfl (lv_room (Nat.le_of_ble_eq_true rfl)) dX11_hold_58 ⟨Nat.zero_le _, Nat.zero_le _⟩) hS (fun r4 s4 H locs hv hP hS => ?_)
    have hD := wd_D (s := s) (cel := celM ad cA cZ) (σ := s4) hi
    refine lv_aload_n hx hb dX11_hold_61 rfl (lv_at hl 0 rfl) ?_
    refine r_get hx hb hts (iwX11_hold_X11) hown hK.1 hP 0 (by decide) (ceMo_0 (s4 0)) rfl 0 (by decide) (hts _ kX11_hold_2) (v := .ref (ad 1)) rfl dX11_hold_62 ?_
    refine lv_bipush (v := 23) hx hb dX11_hold_65 (by decide) ?_
    refine r_ci (va_runS (As := [.ref (ad 1), .int 23]) (rest := [.int r4]) ⟨hx, hb, hml, hown, hts⟩ (c_X11_manyAt hi 1 181 23 arM_1 s4 _ hv H.size) (va_cwS 2 hts gX11_hold_X11_manyAt rfl rfl rfl (by decide +kernel) ⟨Nat.le_of_ble_eq_true rfl, Nat.le_of_ble_eq_true rfl⟩) ⟨pre_blind, pre_of hP hK⟩ rfl rfl hl.1 rfl (lv_room (Nat.le_of_ble_eq_true rfl)) dX11_hold_67 ⟨Nat.zero_le _, Nat.zero_le _⟩) hS (fun r5 s5 H locs hv hP hS => ?_)
    have hD := wd_D (s := s) (cel := celM ad cA cZ) (σ := s5) hi
    refine lv_icmp_ne (tgt := 77) hx hb dX11_hold_70 (by decide) (fun c70 => ?_) (fun c70 => ?_)
    · have hv := hv.1 c70
      refine lv_iconst (v := 0) hx hb dX11_hold_77 (by decide) ?_
      exact hY 78 [x2, x3, 0] [] s5 hv _ _ rfl H locs ls hP hS (lv_sub hl [0, 1, 2, 3] rfl)
    · have hv := hv.2 c70
      refine lv_iconst (v := 1) hx hb dX11_hold_73 (by decide) ?_
      refine lv_goto (tgt := 78) hx hb dX11_hold_74 (by decide) ?_
      exact hY 78 [x2, x3, 1] [] s5 hv _ _ rfl H locs ls hP hS (lv_sub hl [0, 1, 2, 3] rfl)
set_option maxHeartbeats 4000000 in
set_option maxRecDepth 100000 in
theorem w_X11_hold_78 {p : Program} {l : Launch} {e : Env} {s : State} {m : MethodId} {args : Array Value} {below : List Frame} {meth : Method} {c : Code} {dC : Nat → ClassId} {dI : Nat → Nat → Nat} {ad : Nat → Nat} {cA cZ : ClassId} (hi : Inj 12 ad) (a1 : Int32)  (C0 : Cx cX11_hold RX11 wsX11_hold 5 (some .int) p s m args meth c) (hK : KK dC dI cA cZ s) (Q : Int32 → St → Prop) (Y : Nat → List Int32 → List Int64 → St → Prop) (hY : ∀ P xs ys σ, Y P xs ys σ → XX p l e ({ frames := 5, cells := 0, slots := 0, locals := 116 } : Room) s m args below meth c (dC, dI) 12 ad (celM ad cA cZ) 5 (ZI below args s (dC, dI) 12 ad (celM ad cA cZ) Q) (lay_X11_hold ad a1) P xs ys σ) (x2 : Int32) (x3 : Int32) (t0 : Int32) (s0 : St) (hv : B_X11_hold_78 a1 Q Y x2 x3 t0 s0) {H : Heap} {locs : List Loc} {ls : Array Slot} (hP : va_P (dC, dI) vwCl (wd 12 ad (celM ad cA cZ) s0) H) (hS : va_S (AA 12 ad s.heap.size) s.heap H locs) (hl : lv_has ls 5 [(0, .ref (ad 0)), (1, .int a1), (2, .int x2), (3, .int x3)]) : W p l e ({ frames := 5, cells := 0, slots := 0, locals := 116 } : Room) s m args below meth c H locs 0 0 (ZI below args s (dC, dI) 12 ad (celM ad cA cZ) Q) (F0 m 78 ls [.int t0]) := by
  obtain ⟨hx, hb, hml, hown, hts, hr, hlocks⟩ := C0
  have hD := wd_D (s := s) (cel := celM ad cA cZ) (σ := s0) hi
  unfold B_X11_hold_78 at hv
  refine lv_istore (lv' := [(4, .int t0), (0, .ref (ad 0)), (1, .int a1), (2, .int x2), (3, .int x3)]) hx hb dX11_hold_78 hl (by decide) rfl (fun ls hl => ?_)
  refine lv_iload hx hb dX11_hold_80 (lv_at hl 0 rfl) ?_
  refine lv_if_eq (tgt := 105) hx hb dX11_hold_82 (by decide) (fun c82 => ?_) (fun c82 => ?_)
  · have hv := hv.1 c82
    refine lv_iload_n hx hb dX11_hold_105 rfl (lv_at hl 3 rfl) ?_
    refine lv_istore_n (lv' := [(2, .int x2), (4, .int t0), (0, .ref (ad 0)), (1, .int a1), (3, .int x3)]) hx hb dX11_hold_106 rfl hl (by decide) rfl (fun ls hl => ?_)
    refine lv_iinc (v := x3 + 1) (lv' := [(3, .int (x3 + 1)), (2, .int x2), (4, .int t0), (0, .ref (ad 0)), (1, .int a1)]) hx hb dX11_hold_107 hl (k := 4) rfl rfl (by decide) rfl (fun ls hl => ?_)
    refine lv_goto (tgt := 23) hx hb dX11_hold_110 (by decide) ?_
    exact hY 23 [x2, x3 + 1] [] s0 hv _ _ rfl H locs ls hP hS (lv_sub hl [3, 4, 1, 0] rfl)
  · have hv := hv.2 c82
    refine lv_iload_n hx hb dX11_hold_85 rfl (lv_at hl 3 rfl) ?_
    refine lv_iconst (v := (-1)) hx hb dX11_hold_86 (by decide) ?_
    refine lv_icmp_eq (tgt := 101) hx hb dX11_hold_87 (by decide) (fun c87 => ?_) (fun c87 => ?_)
    · have hv := hv.1 c87
      refine lv_iload_n hx hb dX11_hold_101 rfl (lv_at hl 4 rfl) ?_
      refine lv_goto (tgt := 106) hx hb dX11_hold_102 (by decide) ?_
      refine lv_istore_n (lv' := [(2, .int x3), (4, .int t0), (0, .ref (ad 0)), (1, .int a1), (3, .int x3)]) hx hb dX11_hold_106 rfl hl (by decide) rfl (fun ls hl => ?_)
      refine lv_iinc (v := x3 + 1) (lv' := [(3, .int (x3 + 1)), (2, .int x3), (4, .int t0), (0, .ref (ad 0)), (1, .int a1)]) hx hb dX11_hold_107 hl (k := 4) rfl rfl (by decide) rfl (fun ls hl => ?_)
      refine lv_goto (tgt := 23) hx hb dX11_hold_110 (by decide) ?_
      exact hY 23 [x3, x3 + 1] [] s0 hv _ _ rfl H locs ls hP hS (lv_sub hl [3, 4, 1, 0] rfl)
    · have hv := hv.2 c87
      refine lv_iload_n hx hb dX11_hold_90 rfl (lv_at hl 4 rfl) ?_
      refine r_ci (va_runS (As := [.int x3]) (rest := []) ⟨hx, hb, hml, hown, hts⟩ (c_X11_bits hi x3 s0 _ hv H.size) (va_cwS 1 hts gX11_hold_X11_bits rfl rfl rfl (by decide +kernel) ⟨Nat.le_of_ble_eq_true rfl, Nat.le_of_ble_eq_true rfl⟩) ⟨pre_blind, pre_of hP hK⟩ rfl rfl hl.1 rfl (lv_room (Nat.le_of_ble_eq_true rfl)) dX11_hold_91 ⟨Nat.zero_le _, Nat.zero_le _⟩) hS (fun r1 s1 H locs hv hP hS => ?_)
      have hD := wd_D (s := s) (cel := celM ad cA cZ) (σ := s1) hi
      refine lv_iload_n hx hb dX11_hold_94 rfl (lv_at hl 3 rfl) ?_
      refine r_ci (va_runS (As := [.int x2]) (rest := [.int r1]) ⟨hx, hb, hml, hown, hts⟩ (c_X11_bits hi x2 s1 _ hv H.size) (va_cwS 1 hts gX11_hold_X11_bits rfl rfl rfl (by decide +kernel) ⟨Nat.le_of_ble_eq_true rfl, Nat.le_of_ble_eq_true rfl⟩) ⟨pre_blind, pre_of hP hK⟩ rfl rfl hl.1 rfl (lv_room (Nat.le_of_ble_eq_true rfl)) dX11_hold_95 ⟨Nat.zero_le _, Nat.zero_le _⟩) hS (fun r2 s2 H locs hv hP hS => ?_)
      have hD := wd_D (s := s) (cel := celM ad cA cZ) (σ := s2) hi
      refine lv_icmp_ge (tgt := 105) hx hb dX11_hold_98 (by decide) (fun c98 => ?_) (fun c98 => ?_)
      · have hv := hv.1 c98
        refine lv_iload_n hx hb dX11_hold_105 rfl (lv_at hl 3 rfl) ?_
        refine lv_istore_n (lv' := [(2, .int x2), (4, .int t0), (0, .ref (ad 0)), (1, .int a1), (3, .int x3)]) hx hb dX11_hold_106 rfl hl (by decide) rfl (fun ls hl => ?_)
        refine lv_iinc (v := x3 + 1) (lv' := [(3, .int (x3 + 1)), (2, .int x2), (4, .int t0), (0, .ref (ad 0)), (1, .int a1)]) hx hb dX11_hold_107 hl (k := 4) rfl rfl (by decide) rfl (fun ls hl => ?_)
        refine lv_goto (tgt := 23) hx hb dX11_hold_110 (by decide) ?_
        exact hY 23 [x2, x3 + 1] [] s2 hv _ _ rfl H locs ls hP hS (lv_sub hl [3, 4, 1, 0] rfl)
      · have hv := hv.2 c98
        refine lv_iload_n hx hb dX11_hold_101 rfl (lv_at hl 4 rfl) ?_
        refine lv_goto (tgt := 106) hx hb dX11_hold_102 (by decide) ?_
        refine lv_istore_n (lv' := [(2, .int x3), (4, .int t0), (0, .ref (ad 0)), (1, .int a1), (3, .int x3)]) hx hb dX11_hold_106 rfl hl (by decide) rfl (fun ls hl => ?_)
        refine lv_iinc (v := x3 + 1) (lv' := [(3, .int (x3 + 1)), (2, .int x3), (4, .int t0), (0, .ref (ad 0)), (1, .int a1)]) hx hb dX11_hold_107 hl (k := 4) rfl rfl (by decide) rfl (fun ls hl => ?_)
        refine lv_goto (tgt := 23) hx hb dX11_hold_110 (by decide) ?_
        exact hY 23 [x3, x3 + 1] [] s2 hv _ _ rfl H locs ls hP hS (lv_sub hl [3, 4, 1, 0] rfl)
set_option maxHeartbeats 4000000 in
theorem y_X11_hold {p : Program} {l : Launch} {e : Env} {s : State} {m : MethodId} {args : Array Value} {below : List Frame} {meth : Method} {c : Code} {dC : Nat → ClassId} {dI : Nat → Nat → Nat} {ad : Nat → Nat} {cA cZ : ClassId} (hi : Inj 12 ad) (a1 : Int32)  (C0 : Cx cX11_hold RX11 wsX11_hold 5 (some .int) p s m args meth c) (hK : KK dC dI cA cZ s) (Q : Int32 → St → Prop) : ∀ P xs ys σ, R_X11_hold a1 Q P xs ys σ → XX p l e ({ frames := 5, cells := 0, slots := 0, locals := 116 } : Room) s m args below meth c (dC, dI) 12 ad (celM ad cA cZ) 5 (ZI below args s (dC, dI) 12 ad (celM ad cA cZ) Q) (lay_X11_hold ad a1) P xs ys σ := by
  refine Fx.elim _ (fun P xs ys σ Y hY hB => ?_)
  rcases hB with ⟨rfl, x2, x3, rfl, rfl, hB⟩ | ⟨rfl, x2, x3, t0, rfl, rfl, hB⟩
  · intro lv st he H locs ls hP hS hl
    cases he
    exact w_X11_hold_23 hi a1  C0 hK Q Y hY x2 x3 σ hB hP hS hl
  · intro lv st he H locs ls hP hS hl
    cases he
    exact w_X11_hold_78 hi a1  C0 hK Q Y hY x2 x3 t0 σ hB hP hS hl
set_option maxHeartbeats 4000000 in
theorem c_X11_hold {l : Launch} {dC : Nat → ClassId} {dI : Nat → Nat → Nat} {ad : Nat → Nat} {cA cZ : ClassId} (hi : Inj 12 ad) (a1 : Int32)  (s0 : St) (Q : Int32 → St → Prop) (hv : V_X11_hold a1 s0 Q) (sz : Nat) : Met l yX11_hold wsX11_hold ({ frames := 5, cells := 0, slots := 0, locals := 116 } : Room) (va_Pc [.ref (ad 0), .int a1] (PW dC dI ad cA cZ 12 (celM ad cA cZ) sz s0)) (va_Qi Q (fun u t => va_P (dC, dI) vwCl (wd 12 ad (celM ad cA cZ) u) t.heap) (AA 12 ad sz)) 0 0 (AA 12 ad sz) := by
  refine Met.ofW (cc := cX11_hold) (maxL := 5) (ret := (some .int)) (by decide) rfl ?_
  intro p e s m args below meth c s₁ B hml hv0
  obtain ⟨rfl, hsz, hP, hK⟩ := hv0
  subst hsz
  have C0 : Cx cX11_hold RX11 wsX11_hold 5 (some .int) p s m ([.ref (ad 0), .int a1] : List Value).toArray meth c := ⟨B.exec, B.bytes, hml, findClass_of_methodNamed B.named, atoms_spec (ws := wsX11_hold) B.pre, B.returns, B.notSynchronized⟩
  have hl := lv_entry ([.ref (ad 0), .int a1]) (n := 5) (Nat.le_of_ble_eq_true rfl)
  rw [lg_entry_eq]
  generalize (lg_sl ([.ref (ad 0), .int a1]) ++ List.replicate (5 - (lg_sl ([.ref (ad 0), .int a1])).length) Slot.unset).toArray = ls at hl ⊢
  have hl : lv_has ls 5 [(0, .ref (ad 0)), (1, .int a1)] := hl
  exact w_X11_hold_e hi a1  C0 hK Q (R_X11_hold a1 Q) (y_X11_hold hi a1  C0 hK Q)  s0 hv hP va_S.rf hl
def lay_X11_drop (ad : Nat → Nat) (a1 : Int32) (a2 : Int32) (a3 : Int32) : Nat → List Int32 → List Int64 → Option (List (Nat × Value) × List Value) := fun P xs ys => match P, xs, ys with
  | 27, [], [] => some ([(0, .ref (ad 0))], [])
  | 40, [x4, x5], [] => some ([(0, .ref (ad 0)), (1, .int a1), (2, .int a2), (3, .int a3), (4, .int x4), (5, .int x5)], [])
  | _, _, _ => none
set_option maxHeartbeats 4000000 in
set_option maxRecDepth 100000 in
theorem w_X11_drop_e {p : Program} {l : Launch} {e : Env} {s : State} {m : MethodId} {args : Array Value} {below : List Frame} {meth : Method} {c : Code} {dC : Nat → ClassId} {dI : Nat → Nat → Nat} {ad : Nat → Nat} {cA cZ : ClassId} (hi : Inj 12 ad) (a1 : Int32) (a2 : Int32) (a3 : Int32)  (C0 : Cx cX11_drop RX11 wsX11_drop 6 (some .int) p s m args meth c) (hK : KK dC dI cA cZ s) (Q : Int32 → St → Prop) (Y : Nat → List Int32 → List Int64 → St → Prop) (hY : ∀ P xs ys σ, Y P xs ys σ → XX p l e ({ frames := 5, cells := 0, slots := 0, locals := 116 } : Room) s m args below meth c (dC, dI) 12 ad (celM ad cA cZ) 6 (ZI below args s (dC, dI) 12 ad (celM ad cA cZ) Q) (lay_X11_drop ad a1 a2 a3) P xs ys σ)  (s0 : St) (hv : B_X11_drop_e a1 a2 a3 Q Y  s0) {H : Heap} {locs : List Loc} {ls : Array Slot} (hP : va_P (dC, dI) vwCl (wd 12 ad (celM ad cA cZ) s0) H) (hS : va_S (AA 12 ad s.heap.size) s.heap H locs) (hl : lv_has ls 6 [(0, .ref (ad 0)), (1, .int a1), (2, .int a2), (3, .int a3)]) : W p l e ({ frames := 5, cells := 0, slots := 0, locals := 116 } : Room) s m args below meth c H locs 0 0 (ZI below args s (dC, dI) 12 ad (celM ad cA cZ) Q) (F0 m 0 ls []) := by
  obtain ⟨hx, hb, hml, hown, hts, hr, hlocks⟩ := C0
  have hD := wd_D (s := s) (cel := celM ad cA cZ) (σ := s0) hi
  unfold B_X11_drop_e at hv
  refine lv_iload_n hx hb dX11_drop_0 rfl (lv_at hl 1 rfl) ?_
  refine r_ci (va_runS (As := [.int a1]) (rest := []) ⟨hx, hb, hml, hown, hts⟩ (c_X11_isKind hi a1 s0 _ hv H.size) (va_cwS 1 hts gX11_drop_X11_isKind rfl rfl rfl (by decide +kernel) ⟨Nat.le_of_ble_eq_true rfl, Nat.le_of_ble_eq_true rfl⟩) ⟨pre_blind, pre_of hP hK⟩ rfl rfl hl.1 rfl (lv_room (Nat.le_of_ble_eq_true rfl)) dX11_drop_1 ⟨Nat.zero_le _, Nat.zero_le _⟩) hS (fun r1 s1 H locs hv hP hS => ?_)
  obtain ⟨hz_r1, hv⟩ := hv
  have hD := wd_D (s := s) (cel := celM ad cA cZ) (σ := s1) hi
  refine lv_if_eq (tgt := 27) hx hb dX11_drop_4 (by decide) (fun c4 => ?_) (fun c4 => ?_)
  · have hv := hv.1 c4
    exact hY 27 [] [] s1 hv _ _ rfl H locs ls hP hS (lv_sub hl [0] rfl)
  · have hv := hv.2 c4
    refine lv_aload_n hx hb dX11_drop_7 rfl (lv_at hl 0 rfl) ?_
    refine lv_iload_n hx hb dX11_drop_8 rfl (lv_at hl 2 rfl) ?_
    refine r_ci (va_runV (As := [.int a2]) (rest := []) ⟨hx, hb, hml, hown, hts⟩ (c_X11_isGlove hi a2 s1 _ hv H.size) (cwV 1 hts gX11_drop_X11_isGlove rfl rfl rfl (by decide +kernel) ⟨Nat.le_of_ble_eq_true rfl, Nat.le_of_ble_eq_true rfl⟩) ⟨pre_blind, r_recv hK.1 hP 0 (by decide) (ceMo_0 (s1 0)) rfl, pre_of hP hK⟩ rfl rfl hl.1 rfl (lv_room (Nat.le_of_ble_eq_true rfl)) dX11_drop_9 ⟨Nat.zero_le _, Nat.zero_le _⟩) hS (fun r2 s2 H locs hv hP hS => ?_)
    obtain ⟨hz_r2, hv⟩ := hv
    have hD := wd_D (s := s) (cel := celM ad cA cZ) (σ := s2) hi
    refine lv_if_eq (tgt := 27) hx hb dX11_drop_12 (by decide) (fun c12 => ?_) (fun c12 => ?_)
    · have hv := hv.1 c12
      exact hY 27 [] [] s2 hv _ _ rfl H locs ls hP hS (lv_sub hl [0] rfl)
    · have hv := hv.2 c12
      refine lv_iload_n hx hb dX11_drop_15 rfl (lv_at hl 3 rfl) ?_
      refine lv_i2l (v := a3.toInt64) hx hb dX11_drop_16 rfl ?_
      refine lv_lconst (v := 1) hx hb dX11_drop_17 (by decide) ?_
      refine lv_ldc2 (v := 30) hx hb hown (hts _ kX11_drop_1) dX11_drop_18 ?_
      refine r_ci (va_runS (As := [.long a3.toInt64, .long 1, .long 30]) (rest := []) ⟨hx, hb, hml, hown, hts⟩ (c_X11_in hi a3.toInt64 1 30 s2 _ hv H.size) (va_cwS 3 hts gX11_drop_X11_in rfl rfl rfl (by decide +kernel) ⟨Nat.le_of_ble_eq_true rfl, Nat.le_of_ble_eq_true rfl⟩) ⟨pre_blind, pre_of hP hK⟩ rfl rfl hl.1 rfl (lv_room (Nat.le_of_ble_eq_true rfl)) dX11_drop_21 ⟨Nat.zero_le _, Nat.zero_le _⟩) hS (fun r3 s3 H locs hv hP hS => ?_)
      obtain ⟨hz_r3, hv⟩ := hv
      have hD := wd_D (s := s) (cel := celM ad cA cZ) (σ := s3) hi
      refine lv_if_ne (tgt := 34) hx hb dX11_drop_24 (by decide) (fun c24 => ?_) (fun c24 => ?_)
      · have hv := hv.1 c24
        refine lv_iconst (v := 0) hx hb dX11_drop_34 (by decide) ?_
        refine lv_istore (lv' := [(4, .int 0), (0, .ref (ad 0)), (1, .int a1), (2, .int a2), (3, .int a3)]) hx hb dX11_drop_35 hl (by decide) rfl (fun ls hl => ?_)
        refine lv_iconst (v := 0) hx hb dX11_drop_37 (by decide) ?_
        refine lv_istore (lv' := [(5, .int 0), (4, .int 0), (0, .ref (ad 0)), (1, .int a1), (2, .int a2), (3, .int a3)]) hx hb dX11_drop_38 hl (by decide) rfl (fun ls hl => ?_)
        exact hY 40 [0, 0] [] s3 hv _ _ rfl H locs ls hP hS (lv_sub hl [2, 3, 4, 5, 1, 0] rfl)
      · have hv := hv.2 c24
        exact hY 27 [] [] s3 hv _ _ rfl H locs ls hP hS (lv_sub hl [0] rfl)
set_option maxHeartbeats 4000000 in
set_option maxRecDepth 100000 in
theorem w_X11_drop_27 {p : Program} {l : Launch} {e : Env} {s : State} {m : MethodId} {args : Array Value} {below : List Frame} {meth : Method} {c : Code} {dC : Nat → ClassId} {dI : Nat → Nat → Nat} {ad : Nat → Nat} {cA cZ : ClassId} (hi : Inj 12 ad) (a1 : Int32) (a2 : Int32) (a3 : Int32)  (C0 : Cx cX11_drop RX11 wsX11_drop 6 (some .int) p s m args meth c) (hK : KK dC dI cA cZ s) (Q : Int32 → St → Prop) (Y : Nat → List Int32 → List Int64 → St → Prop) (hY : ∀ P xs ys σ, Y P xs ys σ → XX p l e ({ frames := 5, cells := 0, slots := 0, locals := 116 } : Room) s m args below meth c (dC, dI) 12 ad (celM ad cA cZ) 6 (ZI below args s (dC, dI) 12 ad (celM ad cA cZ) Q) (lay_X11_drop ad a1 a2 a3) P xs ys σ)  (s0 : St) (hv : B_X11_drop_27 a1 a2 a3 Q Y  s0) {H : Heap} {locs : List Loc} {ls : Array Slot} (hP : va_P (dC, dI) vwCl (wd 12 ad (celM ad cA cZ) s0) H) (hS : va_S (AA 12 ad s.heap.size) s.heap H locs) (hl : lv_has ls 6 [(0, .ref (ad 0))]) : W p l e ({ frames := 5, cells := 0, slots := 0, locals := 116 } : Room) s m args below meth c H locs 0 0 (ZI below args s (dC, dI) 12 ad (celM ad cA cZ) Q) (F0 m 27 ls []) := by
  obtain ⟨hx, hb, hml, hown, hts, hr, hlocks⟩ := C0
  have hD := wd_D (s := s) (cel := celM ad cA cZ) (σ := s0) hi
  unfold B_X11_drop_27 at hv
  refine lv_aload_n hx hb dX11_drop_27 rfl (lv_at hl 0 rfl) ?_
  refine lv_bipush (v := (-2)) hx hb dX11_drop_28 (by decide) ?_
  refine r_ci (va_runV (As := [.int ((-2))]) (rest := []) ⟨hx, hb, hml, hown, hts⟩ (c_X11_bad hi ((-2)) s0 _ hv H.size) (cwV 1 hts gX11_drop_X11_bad rfl rfl rfl (by decide +kernel) ⟨Nat.le_of_ble_eq_true rfl, Nat.le_of_ble_eq_true rfl⟩) ⟨pre_blind, r_recv hK.1 hP 0 (by decide) (ceMo_0 (s0 0)) rfl, pre_of hP hK⟩ rfl rfl hl.1 rfl (lv_room (Nat.le_of_ble_eq_true rfl)) dX11_drop_30 ⟨Nat.zero_le _, Nat.zero_le _⟩) hS (fun r1 s1 H locs hv hP hS => ?_)
  have hD := wd_D (s := s) (cel := celM ad cA cZ) (σ := s1) hi
  exact r_iret hx hb hr hlocks hv hP hS dX11_drop_33
set_option maxHeartbeats 4000000 in
set_option maxRecDepth 100000 in
theorem w_X11_drop_40 {p : Program} {l : Launch} {e : Env} {s : State} {m : MethodId} {args : Array Value} {below : List Frame} {meth : Method} {c : Code} {dC : Nat → ClassId} {dI : Nat → Nat → Nat} {ad : Nat → Nat} {cA cZ : ClassId} (hi : Inj 12 ad) (a1 : Int32) (a2 : Int32) (a3 : Int32)  (C0 : Cx cX11_drop RX11 wsX11_drop 6 (some .int) p s m args meth c) (hK : KK dC dI cA cZ s) (Q : Int32 → St → Prop) (Y : Nat → List Int32 → List Int64 → St → Prop) (hY : ∀ P xs ys σ, Y P xs ys σ → XX p l e ({ frames := 5, cells := 0, slots := 0, locals := 116 } : Room) s m args below meth c (dC, dI) 12 ad (celM ad cA cZ) 6 (ZI below args s (dC, dI) 12 ad (celM ad cA cZ) Q) (lay_X11_drop ad a1 a2 a3) P xs ys σ) (x4 : Int32) (x5 : Int32) (s0 : St) (hv : B_X11_drop_40 a1 a2 a3 Q Y x4 x5 s0) {H : Heap} {locs : List Loc} {ls : Array Slot} (hP : va_P (dC, dI) vwCl (wd 12 ad (celM ad cA cZ) s0) H) (hS : va_S (AA 12 ad s.heap.size) s.heap H locs) (hl : lv_has ls 6 [(0, .ref (ad 0)), (1, .int a1), (2, .int a2), (3, .int a3), (4, .int x4), (5, .int x5)]) : W p l e ({ frames := 5, cells := 0, slots := 0, locals := 116 } : Room) s m args below meth c H locs 0 0 (ZI below args s (dC, dI) 12 ad (celM ad cA cZ) Q) (F0 m 40 ls []) := by
  obtain ⟨hx, hb, hml, hown, hts, hr, hlocks⟩ := C0
  have hD := wd_D (s := s) (cel := celM ad cA cZ) (σ := s0) hi
  unfold B_X11_drop_40 at hv
  refine lv_iload hx hb dX11_drop_40 (lv_at hl 5 rfl) ?_
  refine lv_bipush (v := 23) hx hb dX11_drop_42 (by decide) ?_
  refine lv_icmp_ge (tgt := 136) hx hb dX11_drop_44 (by decide) (fun c44 => ?_) (fun c44 => ?_)
  · have hv := hv.1 c44
    refine lv_iload hx hb dX11_drop_136 (lv_at hl 4 rfl) ?_
    exact r_iret hx hb hr hlocks hv hP hS dX11_drop_138
  · have hv := hv.2 c44
    refine lv_aload_n hx hb dX11_drop_47 rfl (lv_at hl 0 rfl) ?_
    refine r_cv (va_runV (As := []) (rest := []) ⟨hx, hb, hml, hown, hts⟩ (c_X11_layHand hi  s0 _ hv H.size) (cwV 0 hts gX11_drop_X11_layHand rfl rfl rfl (by decide +kernel) ⟨Nat.le_of_ble_eq_true rfl, Nat.le_of_ble_eq_true rfl⟩) ⟨pre_blind, r_recv hK.1 hP 0 (by decide) (ceMo_0 (s0 0)) rfl, pre_of hP hK⟩ rfl rfl hl.1 rfl (lv_room (Nat.le_of_ble_eq_true rfl)) dX11_drop_48 ⟨Nat.zero_le _, Nat.zero_le _⟩) hS (fun s1 H locs hv hP hS => ?_)
    have hD := wd_D (s := s) (cel := celM ad cA cZ) (σ := s1) hi
    refine lv_aload_n hx hb dX11_drop_51 rfl (lv_at hl 0 rfl) ?_
    refine r_get hx hb hts (iwX11_drop_X11) hown hK.1 hP 0 (by decide) (ceMo_0 (s1 0)) rfl 6 (by decide) (hts _ kX11_drop_2) (v := .ref (ad 5)) rfl dX11_drop_52 ?_
    refine lv_bipush (v := 6) hx hb dX11_drop_55 (by decide) ?_
    refine lv_aload_n hx hb dX11_drop_57 rfl (lv_at hl 0 rfl) ?_
    refine r_ci (va_runV (As := []) (rest := [.int 6, .ref (ad 5)]) ⟨hx, hb, hml, hown, hts⟩ (c_X11_many hi  s1 _ hv H.size) (cwV 0 hts gX11_drop_X11_many rfl rfl rfl (by decide +kernel) ⟨Nat.le_of_ble_eq_true rfl, Nat.le_of_ble_eq_true rfl⟩) ⟨pre_blind, r_recv hK.1 hP 0 (by decide) (ceMo_0 (s1 0)) rfl, pre_of hP hK⟩ rfl rfl hl.1 rfl (lv_room (Nat.le_of_ble_eq_true rfl)) dX11_drop_58 ⟨Nat.zero_le _, Nat.zero_le _⟩) hS (fun r2 s2 H locs hv hP hS => ?_)
    have hD := wd_D (s := s) (cel := celM ad cA cZ) (σ := s2) hi
    refine lv_iadd hx hb dX11_drop_61 ?_
    refine lv_iload hx hb dX11_drop_62 (lv_at hl 5 rfl) ?_
    obtain ⟨hin, hv⟩ := hv
    refine r_iast hx hb hK.1 hP hD hS 5 (by decide) (ceMo_5 (s2 5)) (ceMo_5 _) hin dX11_drop_64 (fun H locs s3 es3 hP hD hS => ?_)
    have hv := hv s3 es3
    refine lv_aload_n hx hb dX11_drop_65 rfl (lv_at hl 0 rfl) ?_
    refine r_get hx hb hts (iwX11_drop_X11) hown hK.1 hP 0 (by decide) (ceMo_0 (s3 0)) rfl 6 (by decide) (hts _ kX11_drop_2) (v := .ref (ad 5)) rfl dX11_drop_66 ?_
    refine lv_bipush (v := 22) hx hb dX11_drop_69 (by decide) ?_
    refine lv_aload_n hx hb dX11_drop_71 rfl (lv_at hl 0 rfl) ?_
    refine r_ci (va_runV (As := []) (rest := [.int 22, .ref (ad 5)]) ⟨hx, hb, hml, hown, hts⟩ (c_X11_many hi  s3 _ hv H.size) (cwV 0 hts gX11_drop_X11_many rfl rfl rfl (by decide +kernel) ⟨Nat.le_of_ble_eq_true rfl, Nat.le_of_ble_eq_true rfl⟩) ⟨pre_blind, r_recv hK.1 hP 0 (by decide) (ceMo_0 (s3 0)) rfl, pre_of hP hK⟩ rfl rfl hl.1 rfl (lv_room (Nat.le_of_ble_eq_true rfl)) dX11_drop_72 ⟨Nat.zero_le _, Nat.zero_le _⟩) hS (fun r4 s4 H locs hv hP hS => ?_)
    have hD := wd_D (s := s) (cel := celM ad cA cZ) (σ := s4) hi
    refine lv_iadd hx hb dX11_drop_75 ?_
    refine lv_iload_n hx hb dX11_drop_76 rfl (lv_at hl 1 rfl) ?_
    obtain ⟨hin, hv⟩ := hv
    refine r_iast hx hb hK.1 hP hD hS 5 (by decide) (ceMo_5 (s4 5)) (ceMo_5 _) hin dX11_drop_77 (fun H locs s5 es5 hP hD hS => ?_)
    have hv := hv s5 es5
    refine lv_aload_n hx hb dX11_drop_78 rfl (lv_at hl 0 rfl) ?_
    refine r_get hx hb hts (iwX11_drop_X11) hown hK.1 hP 0 (by decide) (ceMo_0 (s5 0)) rfl 6 (by decide) (hts _ kX11_drop_2) (v := .ref (ad 5)) rfl dX11_drop_79 ?_
    refine lv_iconst (v := 0) hx hb dX11_drop_82 (by decide) ?_
    refine lv_dup2_11 hx hb dX11_drop_83 rfl rfl ?_
    refine r_iald hx hb hK.1 hP 5 (by decide) (ceMo_5 (s5 5)) (vp_in_of_dec (by decide)) dX11_drop_84 ?_
    refine lv_iconst (v := 1) hx hb dX11_drop_85 (by decide) ?_
    refine lv_iadd hx hb dX11_drop_86 ?_
    refine r_iast hx hb hK.1 hP hD hS 5 (by decide) (ceMo_5 (s5 5)) (ceMo_5 _) (vp_in_of_dec (by decide)) dX11_drop_87 (fun H locs s6 es6 hP hD hS => ?_)
    have hv := hv s6 es6
    refine lv_aload_n hx hb dX11_drop_88 rfl (lv_at hl 0 rfl) ?_
    refine lv_iload_n hx hb dX11_drop_89 rfl (lv_at hl 3 rfl) ?_
    refine r_cv (va_runV (As := [.int a3]) (rest := []) ⟨hx, hb, hml, hown, hts⟩ (c_X11_goAhead hi a3 s6 _ hv H.size) (cwV 1 hts gX11_drop_X11_goAhead rfl rfl rfl (by decide +kernel) ⟨Nat.le_of_ble_eq_true rfl, Nat.le_of_ble_eq_true rfl⟩) ⟨pre_blind, r_recv hK.1 hP 0 (by decide) (ceMo_0 (s6 0)) rfl, pre_of hP hK⟩ rfl rfl hl.1 rfl (lv_room (Nat.le_of_ble_eq_true rfl)) dX11_drop_90 ⟨Nat.zero_le _, Nat.zero_le _⟩) hS (fun s7 H locs hv hP hS => ?_)
    have hD := wd_D (s := s) (cel := celM ad cA cZ) (σ := s7) hi
    refine lv_iload hx hb dX11_drop_93 (lv_at hl 4 rfl) ?_
    refine lv_aload_n hx hb dX11_drop_95 rfl (lv_at hl 0 rfl) ?_
    refine r_get hx hb hts (iwX11_drop_X11) hown hK.1 hP 0 (by decide) (ceMo_0 (s7 0)) rfl 6 (by decide) (hts _ kX11_drop_2) (v := .ref (ad 5)) rfl dX11_drop_96 ?_
    refine lv_bipush (v := 6) hx hb dX11_drop_99 (by decide) ?_
    refine lv_aload_n hx hb dX11_drop_101 rfl (lv_at hl 0 rfl) ?_
    refine r_ci (va_runV (As := []) (rest := [.int 6, .ref (ad 5), .int x4]) ⟨hx, hb, hml, hown, hts⟩ (c_X11_many hi  s7 _ hv H.size) (cwV 0 hts gX11_drop_X11_many rfl rfl rfl (by decide +kernel) ⟨Nat.le_of_ble_eq_true rfl, Nat.le_of_ble_eq_true rfl⟩) ⟨pre_blind, r_recv hK.1 hP 0 (by decide) (ceMo_0 (s7 0)) rfl, pre_of hP hK⟩ rfl rfl hl.1 rfl (lv_room (Nat.le_of_ble_eq_true rfl)) dX11_drop_102 ⟨Nat.zero_le _, Nat.zero_le _⟩) hS (fun r8 s8 H locs hv hP hS => ?_)
    have hD := wd_D (s := s) (cel := celM ad cA cZ) (σ := s8) hi
    refine lv_iadd hx hb dX11_drop_105 ?_
    obtain ⟨hin, hv⟩ := hv
    refine r_iald hx hb hK.1 hP 5 (by decide) (ceMo_5 (s8 5)) hin dX11_drop_106 ?_
    refine lv_aload_n hx hb dX11_drop_107 rfl (lv_at hl 0 rfl) ?_
    refine r_get hx hb hts (iwX11_drop_X11) hown hK.1 hP 0 (by decide) (ceMo_0 (s8 0)) rfl 6 (by decide) (hts _ kX11_drop_2) (v := .ref (ad 5)) rfl dX11_drop_108 ?_
    refine lv_bipush (v := 6) hx hb dX11_drop_111 (by decide) ?_
    refine lv_iload_n hx hb dX11_drop_113 rfl (lv_at hl 2 rfl) ?_
    refine lv_iadd hx hb dX11_drop_114 ?_
    obtain ⟨hin, hv⟩ := hv
    refine r_iald hx hb hK.1 hP 5 (by decide) (ceMo_5 (s8 5)) hin dX11_drop_115 ?_
    refine lv_icmp_ne (tgt := 126) hx hb dX11_drop_116 (by decide) (fun c116 => ?_) (fun c116 => ?_)
    · have hv := hv.1 c116
      refine lv_iconst (v := 0) hx hb dX11_drop_126 (by decide) ?_
      refine lv_ior hx hb dX11_drop_127 ?_
      refine lv_istore (lv' := [(4, .int (x4 ||| 0)), (0, .ref (ad 0)), (1, .int a1), (2, .int a2), (3, .int a3), (5, .int x5)]) hx hb dX11_drop_128 hl (by decide) rfl (fun ls hl => ?_)
      refine lv_iinc (v := x5 + 1) (lv' := [(5, .int (x5 + 1)), (4, .int (x4 ||| 0)), (0, .ref (ad 0)), (1, .int a1), (2, .int a2), (3, .int a3)]) hx hb dX11_drop_130 hl (k := 5) rfl rfl (by decide) rfl (fun ls hl => ?_)
      refine lv_goto (tgt := 40) hx hb dX11_drop_133 (by decide) ?_
      exact hY 40 [x4 ||| 0, x5 + 1] [] s8 hv _ _ rfl H locs ls hP hS (lv_sub hl [2, 3, 4, 5, 1, 0] rfl)
    · have hv := hv.2 c116
      refine lv_iconst (v := 1) hx hb dX11_drop_119 (by decide) ?_
      refine lv_iload hx hb dX11_drop_120 (lv_at hl 5 rfl) ?_
      refine lv_ishl hx hb dX11_drop_122 ?_
      refine lv_goto (tgt := 127) hx hb dX11_drop_123 (by decide) ?_
      refine lv_ior hx hb dX11_drop_127 ?_
      refine lv_topi (fun v9 ev9 => ?_)
      have hv := hv v9 ev9
      refine lv_istore (lv' := [(4, .int v9), (0, .ref (ad 0)), (1, .int a1), (2, .int a2), (3, .int a3), (5, .int x5)]) hx hb dX11_drop_128 hl (by decide) rfl (fun ls hl => ?_)
      refine lv_iinc (v := x5 + 1) (lv' := [(5, .int (x5 + 1)), (4, .int v9), (0, .ref (ad 0)), (1, .int a1), (2, .int a2), (3, .int a3)]) hx hb dX11_drop_130 hl (k := 5) rfl rfl (by decide) rfl (fun ls hl => ?_)
      refine lv_goto (tgt := 40) hx hb dX11_drop_133 (by decide) ?_
      exact hY 40 [v9, x5 + 1] [] s8 hv _ _ rfl H locs ls hP hS (lv_sub hl [2, 3, 4, 5, 1, 0] rfl)
set_option maxHeartbeats 4000000 in
theorem y_X11_drop {p : Program} {l : Launch} {e : Env} {s : State} {m : MethodId} {args : Array Value} {below : List Frame} {meth : Method} {c : Code} {dC : Nat → ClassId} {dI : Nat → Nat → Nat} {ad : Nat → Nat} {cA cZ : ClassId} (hi : Inj 12 ad) (a1 : Int32) (a2 : Int32) (a3 : Int32)  (C0 : Cx cX11_drop RX11 wsX11_drop 6 (some .int) p s m args meth c) (hK : KK dC dI cA cZ s) (Q : Int32 → St → Prop) : ∀ P xs ys σ, R_X11_drop a1 a2 a3 Q P xs ys σ → XX p l e ({ frames := 5, cells := 0, slots := 0, locals := 116 } : Room) s m args below meth c (dC, dI) 12 ad (celM ad cA cZ) 6 (ZI below args s (dC, dI) 12 ad (celM ad cA cZ) Q) (lay_X11_drop ad a1 a2 a3) P xs ys σ := by
  refine Fx.elim _ (fun P xs ys σ Y hY hB => ?_)
  rcases hB with ⟨rfl, rfl, rfl, hB⟩ | ⟨rfl, x4, x5, rfl, rfl, hB⟩
  · intro lv st he H locs ls hP hS hl
    cases he
    exact w_X11_drop_27 hi a1 a2 a3  C0 hK Q Y hY  σ hB hP hS hl
  · intro lv st he H locs ls hP hS hl
    cases he
    exact w_X11_drop_40 hi a1 a2 a3  C0 hK Q Y hY x4 x5 σ hB hP hS hl
set_option maxHeartbeats 4000000 in
theorem c_X11_drop {l : Launch} {dC : Nat → ClassId} {dI : Nat → Nat → Nat} {ad : Nat → Nat} {cA cZ : ClassId} (hi : Inj 12 ad) (a1 : Int32) (a2 : Int32) (a3 : Int32)  (s0 : St) (Q : Int32 → St → Prop) (hv : V_X11_drop a1 a2 a3 s0 Q) (sz : Nat) : Met l yX11_drop wsX11_drop ({ frames := 5, cells := 0, slots := 0, locals := 116 } : Room) (va_Pc [.ref (ad 0), .int a1, .int a2, .int a3] (PW dC dI ad cA cZ 12 (celM ad cA cZ) sz s0)) (va_Qi Q (fun u t => va_P (dC, dI) vwCl (wd 12 ad (celM ad cA cZ) u) t.heap) (AA 12 ad sz)) 0 0 (AA 12 ad sz) := by
  refine Met.ofW (cc := cX11_drop) (maxL := 6) (ret := (some .int)) (by decide) rfl ?_
  intro p e s m args below meth c s₁ B hml hv0
  obtain ⟨rfl, hsz, hP, hK⟩ := hv0
  subst hsz
  have C0 : Cx cX11_drop RX11 wsX11_drop 6 (some .int) p s m ([.ref (ad 0), .int a1, .int a2, .int a3] : List Value).toArray meth c := ⟨B.exec, B.bytes, hml, findClass_of_methodNamed B.named, atoms_spec (ws := wsX11_drop) B.pre, B.returns, B.notSynchronized⟩
  have hl := lv_entry ([.ref (ad 0), .int a1, .int a2, .int a3]) (n := 6) (Nat.le_of_ble_eq_true rfl)
  rw [lg_entry_eq]
  generalize (lg_sl ([.ref (ad 0), .int a1, .int a2, .int a3]) ++ List.replicate (6 - (lg_sl ([.ref (ad 0), .int a1, .int a2, .int a3])).length) Slot.unset).toArray = ls at hl ⊢
  have hl : lv_has ls 6 [(0, .ref (ad 0)), (1, .int a1), (2, .int a2), (3, .int a3)] := hl
  exact w_X11_drop_e hi a1 a2 a3  C0 hK Q (R_X11_drop a1 a2 a3 Q) (y_X11_drop hi a1 a2 a3  C0 hK Q)  s0 hv hP va_S.rf hl
