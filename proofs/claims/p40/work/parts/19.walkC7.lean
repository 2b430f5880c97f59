def lay_X10_from (ad : Nat → Nat) (a1 : Int32) : Nat → List Int32 → List Int64 → Option (List (Nat × Value) × List Value) := fun P xs ys => match P, xs, ys with
  | _, _, _ => none
set_option maxHeartbeats 4000000 in
set_option maxRecDepth 100000 in
theorem w_X10_from_e {p : Program} {l : Launch} {e : Env} {s : State} {m : MethodId} {args : Array Value} {below : List Frame} {meth : Method} {c : Code} {dC : Nat → ClassId} {dI : Nat → Nat → Nat} {ad : Nat → Nat} {cA cZ : ClassId} (hi : Inj 81 ad) (a1 : Int32)  (C0 : Cx cX10_from RX10 wsX10_from 2 (some .int) p s m args meth c) (hK : KK dC dI cA cZ s) (Q : Int32 → St → Prop) (Y : Nat → List Int32 → List Int64 → St → Prop) (hY : ∀ P xs ys σ, Y P xs ys σ → XX p l e ({ frames := 3, cells := 0, slots := 0, locals := 77 } : Room) s m args below meth c (dC, dI) 81 ad (celC ad cA) 2 (ZI below args s (dC, dI) 81 ad (celC ad cA) Q) (lay_X10_from ad a1) P xs ys σ)  (s0 : St) (hv : B_X10_from_e a1 Q Y  s0) {H : Heap} {locs : List Loc} {ls : Array Slot} (hP : va_P (dC, dI) vwCl (wd 81 ad (celC ad cA) s0) H) (hS : va_S (AA 81 ad s.heap.size) s.heap H locs) (hl : lv_has ls 2 [(0, .ref (ad 0)), (1, .int a1)]) : W p l e ({ frames := 3, cells := 0, slots := 0, locals := 77 } : Room) s m args below meth c H locs 0 0 (ZI below args s (dC, dI) 81 ad (celC ad cA) Q) (F0 m 0 ls []) := by
  obtain ⟨hx, hb, hml, hown, hts, hr, hlocks⟩ := C0
  have hD := wd_D (s := s) (cel := celC ad cA) (σ := s0) hi
  unfold B_X10_from_e at hv
  refine lv_iload_n hx hb dX10_from_0 rfl (lv_at hl 1 rfl) ?_
  refine lv_iconst (v := 0) hx hb dX10_from_1 (by decide) ?_
  refine lv_iconst (v := 1) hx hb dX10_from_2 (by decide) ?_
  refine r_ci (va_runS (As := [.int a1, .int 0, .int 1]) (rest := []) ⟨hx, hb, hml, hown, hts⟩ (c_X10_within hi a1 0 1 s0 _ hv H.size) (va_cwS 3 hts gX10_from_X10_within rfl rfl rfl (by decide +kernel) ⟨Nat.le_of_ble_eq_true rfl, Nat.le_of_ble_eq_true rfl⟩) ⟨pre_blind, pre_of hP hK⟩ rfl rfl hl.1 rfl (lv_room (Nat.le_of_ble_eq_true rfl)) dX10_from_3 ⟨Nat.zero_le _, Nat.zero_le _⟩) hS (fun r1 s1 H locs hv hP hS => ?_)
  obtain ⟨hz_r1, hv⟩ := hv
  have hD := wd_D (s := s) (cel := celC ad cA) (σ := s1) hi
  refine lv_if_ne (tgt := 14) hx hb dX10_from_6 (by decide) (fun c6 => ?_) (fun c6 => ?_)
  · have hv := hv.1 c6
    refine lv_aload_n hx hb dX10_from_14 rfl (lv_at hl 0 rfl) ?_
    refine r_get hx hb hts (iwX10_from_X10) hown hK.1 hP 0 (by decide) (ceGR_0 (s1 0)) rfl 7 (by decide) (hts _ kX10_from_1) (v := .int (s1 0 7)) rfl dX10_from_15 ?_
    refine lv_iload_n hx hb dX10_from_18 rfl (lv_at hl 1 rfl) ?_
    refine lv_ishr hx hb dX10_from_19 ?_
    refine lv_iconst (v := 1) hx hb dX10_from_20 (by decide) ?_
    refine lv_iand hx hb dX10_from_21 ?_
    refine lv_if_ne (tgt := 30) hx hb dX10_from_22 (by decide) (fun c22 => ?_) (fun c22 => ?_)
    · have hv := hv.1 c22
      refine lv_aload_n hx hb dX10_from_30 rfl (lv_at hl 0 rfl) ?_
      refine r_get hx hb hts (iwX10_from_X10) hown hK.1 hP 0 (by decide) (ceGR_0 (s1 0)) rfl 0 (by decide) (hts _ kX10_from_2) (v := .ref (ad 1)) rfl dX10_from_31 ?_
      refine lv_aload_n hx hb dX10_from_34 rfl (lv_at hl 0 rfl) ?_
      refine lv_iload_n hx hb dX10_from_35 rfl (lv_at hl 1 rfl) ?_
      refine r_cr (va_runV (As := [.int a1]) (rest := [.ref (ad 1)]) ⟨hx, hb, hml, hown, hts⟩ (c_X10_imageOf hi a1 s1 _ hv H.size) (cwV 1 hts gX10_from_X10_imageOf rfl rfl rfl (by decide +kernel) ⟨Nat.le_of_ble_eq_true rfl, Nat.le_of_ble_eq_true rfl⟩) ⟨pre_blind, r_recv hK.1 hP 0 (by decide) (ceGR_0 (s1 0)) rfl, pre_of hP hK⟩ rfl rfl hl.1 rfl (lv_room (Nat.le_of_ble_eq_true rfl)) dX10_from_36 ⟨Nat.zero_le _, Nat.zero_le _⟩) hS (fun r2 s2 H locs hr2 hv hP hS => ?_)
      have hD := wd_D (s := s) (cel := celC ad cA) (σ := s2) hi
      refine r_cv (va_runV (As := [.ref (ad r2)]) (rest := []) ⟨hx, hb, hml, hown, hts⟩ (c_X7_copy hi 1 r2 vSc_1 hr2 s2 _ hv H.size) (cwV 1 hts gX10_from_X7_copy rfl rfl rfl (by decide +kernel) ⟨Nat.le_of_ble_eq_true rfl, Nat.le_of_ble_eq_true rfl⟩) ⟨pre_blind, r_recv hK.1 hP 1 (ltSc_0 vSc_1) (ceSc_0 vSc_1 (s2 1)) rfl, pre_of hP hK⟩ rfl rfl hl.1 rfl (lv_room (Nat.le_of_ble_eq_true rfl)) dX10_from_39 ⟨Nat.zero_le _, Nat.zero_le _⟩) hS (fun s3 H locs hv hP hS => ?_)
      have hD := wd_D (s := s) (cel := celC ad cA) (σ := s3) hi
      refine lv_iconst (v := 1) hx hb dX10_from_42 (by decide) ?_
      exact r_iret hx hb hr hlocks hv hP hS dX10_from_43
    · have hv := hv.2 c22
      refine lv_aload_n hx hb dX10_from_25 rfl (lv_at hl 0 rfl) ?_
      refine r_ci (va_runV (As := []) (rest := []) ⟨hx, hb, hml, hown, hts⟩ (c_X10_no hi  s1 _ hv H.size) (cwV 0 hts gX10_from_X10_no rfl rfl rfl (by decide +kernel) ⟨Nat.le_of_ble_eq_true rfl, Nat.le_of_ble_eq_true rfl⟩) ⟨pre_blind, r_recv hK.1 hP 0 (by decide) (ceGR_0 (s1 0)) rfl, pre_of hP hK⟩ rfl rfl hl.1 rfl (lv_room (Nat.le_of_ble_eq_true rfl)) dX10_from_26 ⟨Nat.zero_le _, Nat.zero_le _⟩) hS (fun r4 s4 H locs hv hP hS => ?_)
      have hD := wd_D (s := s) (cel := celC ad cA) (σ := s4) hi
      exact r_iret hx hb hr hlocks hv hP hS dX10_from_29
  · have hv := hv.2 c6
    refine lv_aload_n hx hb dX10_from_9 rfl (lv_at hl 0 rfl) ?_
    refine r_ci (va_runV (As := []) (rest := []) ⟨hx, hb, hml, hown, hts⟩ (c_X10_bad hi  s1 _ hv H.size) (cwV 0 hts gX10_from_X10_bad rfl rfl rfl (by decide +kernel) ⟨Nat.le_of_ble_eq_true rfl, Nat.le_of_ble_eq_true rfl⟩) ⟨pre_blind, r_recv hK.1 hP 0 (by decide) (ceGR_0 (s1 0)) rfl, pre_of hP hK⟩ rfl rfl hl.1 rfl (lv_room (Nat.le_of_ble_eq_true rfl)) dX10_from_10 ⟨Nat.zero_le _, Nat.zero_le _⟩) hS (fun r5 s5 H locs hv hP hS => ?_)
    have hD := wd_D (s := s) (cel := celC ad cA) (σ := s5) hi
    exact r_iret hx hb hr hlocks hv hP hS dX10_from_13
set_option maxHeartbeats 4000000 in
theorem y_X10_from {p : Program} {l : Launch} {e : Env} {s : State} {m : MethodId} {args : Array Value} {below : List Frame} {meth : Method} {c : Code} {dC : Nat → ClassId} {dI : Nat → Nat → Nat} {ad : Nat → Nat} {cA cZ : ClassId} (hi : Inj 81 ad) (a1 : Int32)  (C0 : Cx cX10_from RX10 wsX10_from 2 (some .int) p s m args meth c) (hK : KK dC dI cA cZ s) (Q : Int32 → St → Prop) : ∀ P xs ys σ, R_X10_from a1 Q P xs ys σ → XX p l e ({ frames := 3, cells := 0, slots := 0, locals := 77 } : Room) s m args below meth c (dC, dI) 81 ad (celC ad cA) 2 (ZI below args s (dC, dI) 81 ad (celC ad cA) Q) (lay_X10_from ad a1) P xs ys σ := by
  refine Fx.elim _ (fun P xs ys σ Y hY hB => ?_)
  exact hB.elim
set_option maxHeartbeats 4000000 in
theorem c_X10_from {l : Launch} {dC : Nat → ClassId} {dI : Nat → Nat → Nat} {ad : Nat → Nat} {cA cZ : ClassId} (hi : Inj 81 ad) (a1 : Int32)  (s0 : St) (Q : Int32 → St → Prop) (hv : V_X10_from a1 s0 Q) (sz : Nat) : Met l yX10_from wsX10_from ({ frames := 3, cells := 0, slots := 0, locals := 77 } : Room) (va_Pc [.ref (ad 0), .int a1] (PW dC dI ad cA cZ 81 (celC ad cA) sz s0)) (va_Qi Q (fun u t => va_P (dC, dI) vwCl (wd 81 ad (celC ad cA) u) t.heap) (AA 81 ad sz)) 0 0 (AA 81 ad sz) := by
  refine Met.ofW (cc := cX10_from) (maxL := 2) (ret := (some .int)) (by decide) rfl ?_
  intro p e s m args below meth c s₁ B hml hv0
  obtain ⟨rfl, hsz, hP, hK⟩ := hv0
  subst hsz
  have C0 : Cx cX10_from RX10 wsX10_from 2 (some .int) p s m ([.ref (ad 0), .int a1] : List Value).toArray meth c := ⟨B.exec, B.bytes, hml, findClass_of_methodNamed B.named, atoms_spec (ws := wsX10_from) B.pre, B.returns, B.notSynchronized⟩
  have hl := lv_entry ([.ref (ad 0), .int a1]) (n := 2) (Nat.le_of_ble_eq_true rfl)
  rw [lg_entry_eq]
  generalize (lg_sl ([.ref (ad 0), .int a1]) ++ List.replicate (2 - (lg_sl ([.ref (ad 0), .int a1])).length) Slot.unset).toArray = ls at hl ⊢
  have hl : lv_has ls 2 [(0, .ref (ad 0)), (1, .int a1)] := hl
  exact w_X10_from_e hi a1  C0 hK Q (R_X10_from a1 Q) (y_X10_from hi a1  C0 hK Q)  s0 hv hP va_S.rf hl
def lay_X8_waitingInAll (ad : Nat → Nat) (h0 : Nat) : Nat → List Int32 → List Int64 → Option (List (Nat × Value) × List Value) := fun P xs ys => match P, xs, ys with
  | 4, [x1, x2], [] => some ([(0, .ref (ad h0)), (1, .int x1), (2, .int x2)], [])
  | _, _, _ => none
set_option maxHeartbeats 4000000 in
set_option maxRecDepth 100000 in
theorem w_X8_waitingInAll_e {p : Program} {l : Launch} {e : Env} {s : State} {m : MethodId} {args : Array Value} {below : List Frame} {meth : Method} {c : Code} {dC : Nat → ClassId} {dI : Nat → Nat → Nat} {ad : Nat → Nat} {cA cZ : ClassId} (hi : Inj 81 ad) (h0 : Nat) (hh0 : isSt h0) (C0 : Cx cX8_waitingInAll RX8 wsX8_waitingInAll 3 (some .int) p s m args meth c) (hK : KK dC dI cA cZ s) (Q : Int32 → St → Prop) (Y : Nat → List Int32 → List Int64 → St → Prop) (hY : ∀ P xs ys σ, Y P xs ys σ → XX p l e ({ frames := 1, cells := 0, slots := 0, locals := 23 } : Room) s m args below meth c (dC, dI) 81 ad (celC ad cA) 3 (ZI below args s (dC, dI) 81 ad (celC ad cA) Q) (lay_X8_waitingInAll ad h0) P xs ys σ)  (s0 : St) (hv : B_X8_waitingInAll_e h0 Q Y  s0) {H : Heap} {locs : List Loc} {ls : Array Slot} (hP : va_P (dC, dI) vwCl (wd 81 ad (celC ad cA) s0) H) (hS : va_S (AA 81 ad s.heap.size) s.heap H locs) (hl : lv_has ls 3 [(0, .ref (ad h0))]) : W p l e ({ frames := 1, cells := 0, slots := 0, locals := 23 } : Room) s m args below meth c H locs 0 0 (ZI below args s (dC, dI) 81 ad (celC ad cA) Q) (F0 m 0 ls []) := by
  obtain ⟨hx, hb, hml, hown, hts, hr, hlocks⟩ := C0
  have hD := wd_D (s := s) (cel := celC ad cA) (σ := s0) hi
  unfold B_X8_waitingInAll_e at hv
  refine lv_iconst (v := 0) hx hb dX8_waitingInAll_0 (by decide) ?_
  refine lv_istore_n (lv' := [(1, .int 0), (0, .ref (ad h0))]) hx hb dX8_waitingInAll_1 rfl hl (by decide) rfl (fun ls hl => ?_)
  refine lv_iconst (v := 0) hx hb dX8_waitingInAll_2 (by decide) ?_
  refine lv_istore_n (lv' := [(2, .int 0), (1, .int 0), (0, .ref (ad h0))]) hx hb dX8_waitingInAll_3 rfl hl (by decide) rfl (fun ls hl => ?_)
  exact hY 4 [0, 0] [] s0 hv _ _ rfl H locs ls hP hS (lv_sub hl [2, 1, 0] rfl)
set_option maxHeartbeats 4000000 in
set_option maxRecDepth 100000 in
theorem w_X8_waitingInAll_4 {p : Program} {l : Launch} {e : Env} {s : State} {m : MethodId} {args : Array Value} {below : List Frame} {meth : Method} {c : Code} {dC : Nat → ClassId} {dI : Nat → Nat → Nat} {ad : Nat → Nat} {cA cZ : ClassId} (hi : Inj 81 ad) (h0 : Nat) (hh0 : isSt h0) (C0 : Cx cX8_waitingInAll RX8 wsX8_waitingInAll 3 (some .int) p s m args meth c) (hK : KK dC dI cA cZ s) (Q : Int32 → St → Prop) (Y : Nat → List Int32 → List Int64 → St → Prop) (hY : ∀ P xs ys σ, Y P xs ys σ → XX p l e ({ frames := 1, cells := 0, slots := 0, locals := 23 } : Room) s m args below meth c (dC, dI) 81 ad (celC ad cA) 3 (ZI below args s (dC, dI) 81 ad (celC ad cA) Q) (lay_X8_waitingInAll ad h0) P xs ys σ) (x1 : Int32) (x2 : Int32) (s0 : St) (hv : B_X8_waitingInAll_4 h0 Q Y x1 x2 s0) {H : Heap} {locs : List Loc} {ls : Array Slot} (hP : va_P (dC, dI) vwCl (wd 81 ad (celC ad cA) s0) H) (hS : va_S (AA 81 ad s.heap.size) s.heap H locs) (hl : lv_has ls 3 [(0, .ref (ad h0)), (1, .int x1), (2, .int x2)]) : W p l e ({ frames := 1, cells := 0, slots := 0, locals := 23 } : Room) s m args below meth c H locs 0 0 (ZI below args s (dC, dI) 81 ad (celC ad cA) Q) (F0 m 4 ls []) := by
  obtain ⟨hx, hb, hml, hown, hts, hr, hlocks⟩ := C0
  have hD := wd_D (s := s) (cel := celC ad cA) (σ := s0) hi
  unfold B_X8_waitingInAll_4 at hv
  refine lv_iload_n hx hb dX8_waitingInAll_4 rfl (lv_at hl 2 rfl) ?_
  refine lv_aload_n hx hb dX8_waitingInAll_5 rfl (lv_at hl 0 rfl) ?_
  refine r_get hx hb hts (iwX8_waitingInAll_X8) hown hK.1 hP h0 (ltSt_0 hh0) (ceSt_0 hh0 (s0 h0)) rfl 9 (by decide) (hts _ kX8_waitingInAll_1) (v := .int (s0 h0 9)) rfl dX8_waitingInAll_6 ?_
  refine lv_icmp_ge (tgt := 26) hx hb dX8_waitingInAll_9 (by decide) (fun c9 => ?_) (fun c9 => ?_)
  · have hv := hv.1 c9
    refine lv_iload_n hx hb dX8_waitingInAll_26 rfl (lv_at hl 1 rfl) ?_
    exact r_iret hx hb hr hlocks hv hP hS dX8_waitingInAll_27
  · have hv := hv.2 c9
    refine lv_iload_n hx hb dX8_waitingInAll_12 rfl (lv_at hl 1 rfl) ?_
    refine lv_aload_n hx hb dX8_waitingInAll_13 rfl (lv_at hl 0 rfl) ?_
    refine lv_iload_n hx hb dX8_waitingInAll_14 rfl (lv_at hl 2 rfl) ?_
    refine r_ci (va_runV (As := [.int x2]) (rest := [.int x1]) ⟨hx, hb, hml, hown, hts⟩ (c_X8_waitingBehind hi h0 x2 hh0 s0 _ hv H.size) (cwV 1 hts gX8_waitingInAll_X8_waitingBehind rfl rfl rfl (by decide +kernel) ⟨Nat.le_of_ble_eq_true rfl, Nat.le_of_ble_eq_true rfl⟩) ⟨pre_blind, r_recv hK.1 hP h0 (ltSt_0 hh0) (ceSt_0 hh0 (s0 h0)) rfl, pre_of hP hK⟩ rfl rfl hl.1 rfl (lv_room (Nat.le_of_ble_eq_true rfl)) dX8_waitingInAll_15 ⟨Nat.zero_le _, Nat.zero_le _⟩) hS (fun r1 s1 H locs hv hP hS => ?_)
    have hD := wd_D (s := s) (cel := celC ad cA) (σ := s1) hi
    refine lv_iadd hx hb dX8_waitingInAll_18 ?_
    refine lv_istore_n (lv' := [(1, .int (x1 + r1)), (0, .ref (ad h0)), (2, .int x2)]) hx hb dX8_waitingInAll_19 rfl hl (by decide) rfl (fun ls hl => ?_)
    refine lv_iinc (v := x2 + 1) (lv' := [(2, .int (x2 + 1)), (1, .int (x1 + r1)), (0, .ref (ad h0))]) hx hb dX8_waitingInAll_20 hl (k := 2) rfl rfl (by decide) rfl (fun ls hl => ?_)
    refine lv_goto (tgt := 4) hx hb dX8_waitingInAll_23 (by decide) ?_
    exact hY 4 [x1 + r1, x2 + 1] [] s1 hv _ _ rfl H locs ls hP hS (lv_sub hl [2, 1, 0] rfl)
set_option maxHeartbeats 4000000 in
theorem y_X8_waitingInAll {p : Program} {l : Launch} {e : Env} {s : State} {m : MethodId} {args : Array Value} {below : List Frame} {meth : Method} {c : Code} {dC : Nat → ClassId} {dI : Nat → Nat → Nat} {ad : Nat → Nat} {cA cZ : ClassId} (hi : Inj 81 ad) (h0 : Nat) (hh0 : isSt h0) (C0 : Cx cX8_waitingInAll RX8 wsX8_waitingInAll 3 (some .int) p s m args meth c) (hK : KK dC dI cA cZ s) (Q : Int32 → St → Prop) : ∀ P xs ys σ, R_X8_waitingInAll h0 Q P xs ys σ → XX p l e ({ frames := 1, cells := 0, slots := 0, locals := 23 } : Room) s m args below meth c (dC, dI) 81 ad (celC ad cA) 3 (ZI below args s (dC, dI) 81 ad (celC ad cA) Q) (lay_X8_waitingInAll ad h0) P xs ys σ := by
  refine Fx.elim _ (fun P xs ys σ Y hY hB => ?_)
  rcases hB with ⟨rfl, x1, x2, rfl, rfl, hB⟩
  · intro lv st he H locs ls hP hS hl
    cases he
    exact w_X8_waitingInAll_4 hi h0 hh0 C0 hK Q Y hY x1 x2 σ hB hP hS hl
set_option maxHeartbeats 4000000 in
theorem c_X8_waitingInAll {l : Launch} {dC : Nat → ClassId} {dI : Nat → Nat → Nat} {ad : Nat → Nat} {cA cZ : ClassId} (hi : Inj 81 ad) (h0 : Nat) (hh0 : isSt h0) (s0 : St) (Q : Int32 → St → Prop) (hv : V_X8_waitingInAll h0 s0 Q) (sz : Nat) : Met l yX8_waitingInAll wsX8_waitingInAll ({ frames := 1, cells := 0, slots := 0, locals := 23 } : Room) (va_Pc [.ref (ad h0)] (PW dC dI ad cA cZ 81 (celC ad cA) sz s0)) (va_Qi Q (fun u t => va_P (dC, dI) vwCl (wd 81 ad (celC ad cA) u) t.heap) (AA 81 ad sz)) 0 0 (AA 81 ad sz) := by
  refine Met.ofW (cc := cX8_waitingInAll) (maxL := 3) (ret := (some .int)) (by decide) rfl ?_
  intro p e s m args below meth c s₁ B hml hv0
  obtain ⟨rfl, hsz, hP, hK⟩ := hv0
  subst hsz
  have C0 : Cx cX8_waitingInAll RX8 wsX8_waitingInAll 3 (some .int) p s m ([.ref (ad h0)] : List Value).toArray meth c := ⟨B.exec, B.bytes, hml, findClass_of_methodNamed B.named, atoms_spec (ws := wsX8_waitingInAll) B.pre, B.returns, B.notSynchronized⟩
  have hl := lv_entry ([.ref (ad h0)]) (n := 3) (Nat.le_of_ble_eq_true rfl)
  rw [lg_entry_eq]
  generalize (lg_sl ([.ref (ad h0)]) ++ List.replicate (3 - (lg_sl ([.ref (ad h0)])).length) Slot.unset).toArray = ls at hl ⊢
  have hl : lv_has ls 3 [(0, .ref (ad h0))] := hl
  exact w_X8_waitingInAll_e hi h0 hh0 C0 hK Q (R_X8_waitingInAll h0 Q) (y_X8_waitingInAll hi h0 hh0 C0 hK Q)  s0 hv hP va_S.rf hl
def lay_X10_counted (ad : Nat → Nat) (a1 : Int32) : Nat → List Int32 → List Int64 → Option (List (Nat × Value) × List Value) := fun P xs ys => match P, xs, ys with
  | _, _, _ => none
set_option maxHeartbeats 4000000 in
set_option maxRecDepth 100000 in
theorem w_X10_counted_e {p : Program} {l : Launch} {e : Env} {s : State} {m : MethodId} {args : Array Value} {below : List Frame} {meth : Method} {c : Code} {dC : Nat → ClassId} {dI : Nat → Nat → Nat} {ad : Nat → Nat} {cA cZ : ClassId} (hi : Inj 81 ad) (a1 : Int32)  (C0 : Cx cX10_counted RX10 wsX10_counted 3 (some .int) p s m args meth c) (hK : KK dC dI cA cZ s) (Q : Int32 → St → Prop) (Y : Nat → List Int32 → List Int64 → St → Prop) (hY : ∀ P xs ys σ, Y P xs ys σ → XX p l e ({ frames := 2, cells := 0, slots := 0, locals := 45 } : Room) s m args below meth c (dC, dI) 81 ad (celC ad cA) 3 (ZI below args s (dC, dI) 81 ad (celC ad cA) Q) (lay_X10_counted ad a1) P xs ys σ)  (s0 : St) (hv : B_X10_counted_e a1 Q Y  s0) {H : Heap} {locs : List Loc} {ls : Array Slot} (hP : va_P (dC, dI) vwCl (wd 81 ad (celC ad cA) s0) H) (hS : va_S (AA 81 ad s.heap.size) s.heap H locs) (hl : lv_has ls 3 [(0, .ref (ad 0)), (1, .int a1)]) : W p l e ({ frames := 2, cells := 0, slots := 0, locals := 45 } : Room) s m args below meth c H locs 0 0 (ZI below args s (dC, dI) 81 ad (celC ad cA) Q) (F0 m 0 ls []) := by
  obtain ⟨hx, hb, hml, hown, hts, hr, hlocks⟩ := C0
  have hD := wd_D (s := s) (cel := celC ad cA) (σ := s0) hi
  unfold B_X10_counted_e at hv
  refine lv_aload_n hx hb dX10_counted_0 rfl (lv_at hl 0 rfl) ?_
  refine r_get hx hb hts (iwX10_counted_X10) hown hK.1 hP 0 (by decide) (ceGR_0 (s0 0)) rfl 0 (by decide) (hts _ kX10_counted_1) (v := .ref (ad 1)) rfl dX10_counted_1 ?_
  refine r_get hx hb hts (iwX10_counted_X7) hown hK.1 hP 1 (ltSc_0 vSc_1) (ceSc_0 vSc_1 (s0 1)) rfl 0 (by decide) (hts _ kX10_counted_2) (v := .ref (ad 2)) rfl dX10_counted_4 ?_
  refine lv_astore_n (lv' := [(2, .ref (ad 2)), (0, .ref (ad 0)), (1, .int a1)]) hx hb dX10_counted_7 rfl hl (by decide) rfl (fun ls hl => ?_)
  refine lv_iload_n hx hb dX10_counted_8 rfl (lv_at hl 2 rfl) ?_
  by_cases c9_0 : a1 = 0
  · have hv := hv.1 c9_0
    refine lv_tableIn (off := 55) (tgt := 64) hx hb dX10_counted_9 (by rw [c9_0]; decide) (by rw [c9_0]; decide) (by rw [c9_0]; rfl) (by decide) ?_
    refine lv_aload_n hx hb dX10_counted_64 rfl (lv_at hl 0 rfl) ?_
    refine r_get hx hb hts (iwX10_counted_X8) hown hK.1 hP 2 (ltSt_0 (vSc1 vSc_1)) (ceSt_0 (vSc1 vSc_1) (s0 2)) rfl 8 (by decide) (hts _ kX10_counted_3) (v := .int (s0 2 8)) rfl dX10_counted_65 ?_
    exact r_iret hx hb hr hlocks hv hP hS dX10_counted_68
  have hv := hv.2 c9_0
  by_cases c9_1 : a1 = 1
  · have hv := hv.1 c9_1
    refine lv_tableIn (off := 60) (tgt := 69) hx hb dX10_counted_9 (by rw [c9_1]; decide) (by rw [c9_1]; decide) (by rw [c9_1]; rfl) (by decide) ?_
    refine lv_aload_n hx hb dX10_counted_69 rfl (lv_at hl 0 rfl) ?_
    refine r_get hx hb hts (iwX10_counted_X8) hown hK.1 hP 2 (ltSt_0 (vSc1 vSc_1)) (ceSt_0 (vSc1 vSc_1) (s0 2)) rfl 9 (by decide) (hts _ kX10_counted_4) (v := .int (s0 2 9)) rfl dX10_counted_70 ?_
    exact r_iret hx hb hr hlocks hv hP hS dX10_counted_73
  have hv := hv.2 c9_1
  by_cases c9_2 : a1 = 2
  · have hv := hv.1 c9_2
    refine lv_tableIn (off := 65) (tgt := 74) hx hb dX10_counted_9 (by rw [c9_2]; decide) (by rw [c9_2]; decide) (by rw [c9_2]; rfl) (by decide) ?_
    refine lv_aload_n hx hb dX10_counted_74 rfl (lv_at hl 0 rfl) ?_
    refine r_get hx hb hts (iwX10_counted_X8) hown hK.1 hP 2 (ltSt_0 (vSc1 vSc_1)) (ceSt_0 (vSc1 vSc_1) (s0 2)) rfl 11 (by decide) (hts _ kX10_counted_5) (v := .int (s0 2 11)) rfl dX10_counted_75 ?_
    exact r_iret hx hb hr hlocks hv hP hS dX10_counted_78
  have hv := hv.2 c9_2
  by_cases c9_3 : a1 = 3
  · have hv := hv.1 c9_3
    refine lv_tableIn (off := 70) (tgt := 79) hx hb dX10_counted_9 (by rw [c9_3]; decide) (by rw [c9_3]; decide) (by rw [c9_3]; rfl) (by decide) ?_
    refine lv_aload_n hx hb dX10_counted_79 rfl (lv_at hl 0 rfl) ?_
    refine r_ci (va_runV (As := []) (rest := []) ⟨hx, hb, hml, hown, hts⟩ (c_X8_over hi 2 (vSc1 vSc_1) s0 _ hv H.size) (cwV 0 hts gX10_counted_X8_over rfl rfl rfl (by decide +kernel) ⟨Nat.le_of_ble_eq_true rfl, Nat.le_of_ble_eq_true rfl⟩) ⟨pre_blind, r_recv hK.1 hP 2 (ltSt_0 (vSc1 vSc_1)) (ceSt_0 (vSc1 vSc_1) (s0 2)) rfl, pre_of hP hK⟩ rfl rfl hl.1 rfl (lv_room (Nat.le_of_ble_eq_true rfl)) dX10_counted_80 ⟨Nat.zero_le _, Nat.zero_le _⟩) hS (fun r1 s1 H locs hv hP hS => ?_)
    have hD := wd_D (s := s) (cel := celC ad cA) (σ := s1) hi
    exact r_iret hx hb hr hlocks hv hP hS dX10_counted_83
  have hv := hv.2 c9_3
  by_cases c9_4 : a1 = 4
  · have hv := hv.1 c9_4
    refine lv_tableIn (off := 75) (tgt := 84) hx hb dX10_counted_9 (by rw [c9_4]; decide) (by rw [c9_4]; decide) (by rw [c9_4]; rfl) (by decide) ?_
    refine lv_aload_n hx hb dX10_counted_84 rfl (lv_at hl 0 rfl) ?_
    refine r_ci (va_runV (As := []) (rest := []) ⟨hx, hb, hml, hown, hts⟩ (c_X8_waitingInAll hi 2 (vSc1 vSc_1) s0 _ hv H.size) (cwV 0 hts gX10_counted_X8_waitingInAll rfl rfl rfl (by decide +kernel) ⟨Nat.le_of_ble_eq_true rfl, Nat.le_of_ble_eq_true rfl⟩) ⟨pre_blind, r_recv hK.1 hP 2 (ltSt_0 (vSc1 vSc_1)) (ceSt_0 (vSc1 vSc_1) (s0 2)) rfl, pre_of hP hK⟩ rfl rfl hl.1 rfl (lv_room (Nat.le_of_ble_eq_true rfl)) dX10_counted_85 ⟨Nat.zero_le _, Nat.zero_le _⟩) hS (fun r2 s2 H locs hv hP hS => ?_)
    have hD := wd_D (s := s) (cel := celC ad cA) (σ := s2) hi
    exact r_iret hx hb hr hlocks hv hP hS dX10_counted_88
  have hv := hv.2 c9_4
  by_cases c9_5 : a1 = 5
  · have hv := hv.1 c9_5
    refine lv_tableIn (off := 80) (tgt := 89) hx hb dX10_counted_9 (by rw [c9_5]; decide) (by rw [c9_5]; decide) (by rw [c9_5]; rfl) (by decide) ?_
    refine lv_aload_n hx hb dX10_counted_89 rfl (lv_at hl 0 rfl) ?_
    refine r_get hx hb hts (iwX10_counted_X8) hown hK.1 hP 2 (ltSt_0 (vSc1 vSc_1)) (ceSt_0 (vSc1 vSc_1) (s0 2)) rfl 10 (by decide) (hts _ kX10_counted_6) (v := .int (s0 2 10)) rfl dX10_counted_90 ?_
    refine r_ci (va_runS (As := [.int (s0 2 10)]) (rest := []) ⟨hx, hb, hml, hown, hts⟩ (c_J6_bitCount_0f7a4 hi (s0 2 10) s0 _ hv H.size) (va_cwS 1 hts gX10_counted_J6_bitCount_0f7a4 rfl rfl rfl (by decide +kernel) ⟨Nat.le_of_ble_eq_true rfl, Nat.le_of_ble_eq_true rfl⟩) ⟨pre_blind, pre_of hP hK⟩ rfl rfl hl.1 rfl (lv_room (Nat.le_of_ble_eq_true rfl)) dX10_counted_93 ⟨Nat.zero_le _, Nat.zero_le _⟩) hS (fun r3 s3 H locs hv hP hS => ?_)
    have hD := wd_D (s := s) (cel := celC ad cA) (σ := s3) hi
    exact r_iret hx hb hr hlocks hv hP hS dX10_counted_96
  have hv := hv.2 c9_5
  by_cases c9_6 : a1 = 6
  · have hv := hv.1 c9_6
    refine lv_tableIn (off := 88) (tgt := 97) hx hb dX10_counted_9 (by rw [c9_6]; decide) (by rw [c9_6]; decide) (by rw [c9_6]; rfl) (by decide) ?_
    refine lv_aload_n hx hb dX10_counted_97 rfl (lv_at hl 1 rfl) ?_
    refine r_get hx hb hts (iwX10_counted_X10) hown hK.1 hP 0 (by decide) (ceGR_0 (s0 0)) rfl 0 (by decide) (hts _ kX10_counted_1) (v := .ref (ad 1)) rfl dX10_counted_98 ?_
    refine r_get hx hb hts (iwX10_counted_X7) hown hK.1 hP 1 (ltSc_0 vSc_1) (ceSc_0 vSc_1 (s0 1)) rfl 2 (by decide) (hts _ kX10_counted_7) (v := .ref (ad 13)) rfl dX10_counted_101 ?_
    refine r_get hx hb hts (iwX10_counted_X6) hown hK.1 hP 13 (ltRo_0 (vSc12 vSc_1)) (ceRo_0 (vSc12 vSc_1) (s0 13)) rfl 3 (by decide) (hts _ kX10_counted_8) (v := .int (s0 13 3)) rfl dX10_counted_104 ?_
    exact r_iret hx hb hr hlocks hv hP hS dX10_counted_107
  have hv := hv.2 c9_6
  by_cases c9_7 : a1 = 7
  · have hv := hv.1 c9_7
    refine lv_tableIn (off := 99) (tgt := 108) hx hb dX10_counted_9 (by rw [c9_7]; decide) (by rw [c9_7]; decide) (by rw [c9_7]; rfl) (by decide) ?_
    refine lv_aload_n hx hb dX10_counted_108 rfl (lv_at hl 1 rfl) ?_
    refine r_get hx hb hts (iwX10_counted_X10) hown hK.1 hP 0 (by decide) (ceGR_0 (s0 0)) rfl 0 (by decide) (hts _ kX10_counted_1) (v := .ref (ad 1)) rfl dX10_counted_109 ?_
    refine r_get hx hb hts (iwX10_counted_X7) hown hK.1 hP 1 (ltSc_0 vSc_1) (ceSc_0 vSc_1 (s0 1)) rfl 3 (by decide) (hts _ kX10_counted_9) (v := .ref (ad 15)) rfl dX10_counted_112 ?_
    refine r_get hx hb hts (iwX10_counted_X6) hown hK.1 hP 15 (ltRo_0 (vSc14 vSc_1)) (ceRo_0 (vSc14 vSc_1) (s0 15)) rfl 3 (by decide) (hts _ kX10_counted_8) (v := .int (s0 15 3)) rfl dX10_counted_115 ?_
    exact r_iret hx hb hr hlocks hv hP hS dX10_counted_118
  have hv := hv.2 c9_7
  by_cases c9_8 : a1 = 8
  · have hv := hv.1 c9_8
    refine lv_tableIn (off := 110) (tgt := 119) hx hb dX10_counted_9 (by rw [c9_8]; decide) (by rw [c9_8]; decide) (by rw [c9_8]; rfl) (by decide) ?_
    refine lv_aload_n hx hb dX10_counted_119 rfl (lv_at hl 1 rfl) ?_
    refine r_get hx hb hts (iwX10_counted_X10) hown hK.1 hP 0 (by decide) (ceGR_0 (s0 0)) rfl 0 (by decide) (hts _ kX10_counted_1) (v := .ref (ad 1)) rfl dX10_counted_120 ?_
    refine r_get hx hb hts (iwX10_counted_X7) hown hK.1 hP 1 (ltSc_0 vSc_1) (ceSc_0 vSc_1 (s0 1)) rfl 4 (by decide) (hts _ kX10_counted_10) (v := .ref (ad 17)) rfl dX10_counted_123 ?_
    refine r_get hx hb hts (iwX10_counted_X6) hown hK.1 hP 17 (ltRo_0 (vSc16 vSc_1)) (ceRo_0 (vSc16 vSc_1) (s0 17)) rfl 3 (by decide) (hts _ kX10_counted_8) (v := .int (s0 17 3)) rfl dX10_counted_126 ?_
    exact r_iret hx hb hr hlocks hv hP hS dX10_counted_129
  have hv := hv.2 c9_8
  by_cases c9_9 : a1 = 9
  · have hv := hv.1 c9_9
    refine lv_tableIn (off := 121) (tgt := 130) hx hb dX10_counted_9 (by rw [c9_9]; decide) (by rw [c9_9]; decide) (by rw [c9_9]; rfl) (by decide) ?_
    refine lv_aload_n hx hb dX10_counted_130 rfl (lv_at hl 1 rfl) ?_
    refine r_get hx hb hts (iwX10_counted_X10) hown hK.1 hP 0 (by decide) (ceGR_0 (s0 0)) rfl 0 (by decide) (hts _ kX10_counted_1) (v := .ref (ad 1)) rfl dX10_counted_131 ?_
    refine r_get hx hb hts (iwX10_counted_X7) hown hK.1 hP 1 (ltSc_0 vSc_1) (ceSc_0 vSc_1 (s0 1)) rfl 1 (by decide) (hts _ kX10_counted_11) (v := .ref (ad 11)) rfl dX10_counted_134 ?_
    refine r_get hx hb hts (iwX10_counted_X4) hown hK.1 hP 11 (ltPa_0 (vSc10 vSc_1)) (cePa_0 (vSc10 vSc_1) (s0 11)) rfl 1 (by decide) (hts _ kX10_counted_12) (v := .int (s0 11 1)) rfl dX10_counted_137 ?_
    exact r_iret hx hb hr hlocks hv hP hS dX10_counted_140
  have hv := hv.2 c9_9
  refine lv_tableOut (tgt := 141) hx hb dX10_counted_9 (by have w0 := lv_neT (a := 0) c9_0 (by decide); have w1 := lv_neT (a := 1) c9_1 (by decide); have w2 := lv_neT (a := 2) c9_2 (by decide); have w3 := lv_neT (a := 3) c9_3 (by decide); have w4 := lv_neT (a := 4) c9_4 (by decide); have w5 := lv_neT (a := 5) c9_5 (by decide); have w6 := lv_neT (a := 6) c9_6 (by decide); have w7 := lv_neT (a := 7) c9_7 (by decide); have w8 := lv_neT (a := 8) c9_8 (by decide); have w9 := lv_neT (a := 9) c9_9 (by decide); omega) (by decide) ?_
  refine lv_aload_n hx hb dX10_counted_141 rfl (lv_at hl 1 rfl) ?_
  refine r_get hx hb hts (iwX10_counted_X10) hown hK.1 hP 0 (by decide) (ceGR_0 (s0 0)) rfl 6 (by decide) (hts _ kX10_counted_13) (v := .ref (ad 69)) rfl dX10_counted_142 ?_
  refine r_get hx hb hts (iwX10_counted_X5) hown hK.1 hP 69 (by decide) (ceRe_0 (s0 69)) rfl 0 (by decide) (hts _ kX10_counted_14) (v := .ref (ad 70)) rfl dX10_counted_145 ?_
  refine r_get hx hb hts (iwX10_counted_X9) hown hK.1 hP 70 (by decide) (ceTo_0 (s0 70)) rfl 1 (by decide) (hts _ kX10_counted_15) (v := .int (s0 70 1)) rfl dX10_counted_148 ?_
  exact r_iret hx hb hr hlocks hv hP hS dX10_counted_151
set_option maxHeartbeats 4000000 in
theorem y_X10_counted {p : Program} {l : Launch} {e : Env} {s : State} {m : MethodId} {args : Array Value} {below : List Frame} {meth : Method} {c : Code} {dC : Nat → ClassId} {dI : Nat → Nat → Nat} {ad : Nat → Nat} {cA cZ : ClassId} (hi : Inj 81 ad) (a1 : Int32)  (C0 : Cx cX10_counted RX10 wsX10_counted 3 (some .int) p s m args meth c) (hK : KK dC dI cA cZ s) (Q : Int32 → St → Prop) : ∀ P xs ys σ, R_X10_counted a1 Q P xs ys σ → XX p l e ({ frames := 2, cells := 0, slots := 0, locals := 45 } : Room) s m args below meth c (dC, dI) 81 ad (celC ad cA) 3 (ZI below args s (dC, dI) 81 ad (celC ad cA) Q) (lay_X10_counted ad a1) P xs ys σ := by
  refine Fx.elim _ (fun P xs ys σ Y hY hB => ?_)
  exact hB.elim
set_option maxHeartbeats 4000000 in
theorem c_X10_counted {l : Launch} {dC : Nat → ClassId} {dI : Nat → Nat → Nat} {ad : Nat → Nat} {cA cZ : ClassId} (hi : Inj 81 ad) (a1 : Int32)  (s0 : St) (Q : Int32 → St → Prop) (hv : V_X10_counted a1 s0 Q) (sz : Nat) : Met l yX10_counted wsX10_counted ({ frames := 2, cells := 0, slots := 0, locals := 45 } : Room) (va_Pc [.ref (ad 0), .int a1] (PW dC dI ad cA cZ 81 (celC ad cA) sz s0)) (va_Qi Q (fun u t => va_P (dC, dI) vwCl (wd 81 ad (celC ad cA) u) t.heap) (AA 81 ad sz)) 0 0 (AA 81 ad sz) := by
  refine Met.ofW (cc := cX10_counted) (maxL := 3) (ret := (some .int)) (by decide) rfl ?_
  intro p e s m args below meth c s₁ B hml hv0
  obtain ⟨rfl, hsz, hP, hK⟩ := hv0
  subst hsz
  have C0 : Cx cX10_counted RX10 wsX10_counted 3 (some .int) p s m ([.ref (ad 0), .int a1] : List Value).toArray meth c := ⟨B.exec, B.bytes, hml, findClass_of_methodNamed B.named, atoms_spec (ws := wsX10_counted) B.pre, B.returns, B.notSynchronized⟩
  have hl := lv_entry ([.ref (ad 0), .int a1]) (n := 3) (Nat.le_of_ble_eq_true rfl)
  rw [lg_entry_eq]
  generalize (lg_sl ([.ref (ad 0), .int a1]) ++ List.replicate (3 - (lg_sl ([.ref (ad 0), .int a1])).length) Slot.unset).toArray = ls at hl ⊢
  have hl : lv_has ls 3 [(0, .ref (ad 0)), (1, .int a1)] := hl
  exact w_X10_counted_e hi a1  C0 hK Q (R_X10_counted a1 Q) (y_X10_counted hi a1  C0 hK Q)  s0 hv hP va_S.rf hl
def lay_X10_count (ad : Nat → Nat) (a1 : Int32) : Nat → List Int32 → List Int64 → Option (List (Nat × Value) × List Value) := fun P xs ys => match P, xs, ys with
  | _, _, _ => none
set_option maxHeartbeats 4000000 in
set_option maxRecDepth 100000 in
theorem w_X10_count_e {p : Program} {l : Launch} {e : Env} {s : State} {m : MethodId} {args : Array Value} {below : List Frame} {meth : Method} {c : Code} {dC : Nat → ClassId} {dI : Nat → Nat → Nat} {ad : Nat → Nat} {cA cZ : ClassId} (hi : Inj 81 ad) (a1 : Int32)  (C0 : Cx cX10_count RX10 wsX10_count 2 (some .int) p s m args meth c) (hK : KK dC dI cA cZ s) (Q : Int32 → St → Prop) (Y : Nat → List Int32 → List Int64 → St → Prop) (hY : ∀ P xs ys σ, Y P xs ys σ → XX p l e ({ frames := 3, cells := 0, slots := 0, locals := 67 } : Room) s m args below meth c (dC, dI) 81 ad (celC ad cA) 2 (ZI below args s (dC, dI) 81 ad (celC ad cA) Q) (lay_X10_count ad a1) P xs ys σ)  (s0 : St) (hv : B_X10_count_e a1 Q Y  s0) {H : Heap} {locs : List Loc} {ls : Array Slot} (hP : va_P (dC, dI) vwCl (wd 81 ad (celC ad cA) s0) H) (hS : va_S (AA 81 ad s.heap.size) s.heap H locs) (hl : lv_has ls 2 [(0, .ref (ad 0)), (1, .int a1)]) : W p l e ({ frames := 3, cells := 0, slots := 0, locals := 67 } : Room) s m args below meth c H locs 0 0 (ZI below args s (dC, dI) 81 ad (celC ad cA) Q) (F0 m 0 ls []) := by
  obtain ⟨hx, hb, hml, hown, hts, hr, hlocks⟩ := C0
  have hD := wd_D (s := s) (cel := celC ad cA) (σ := s0) hi
  unfold B_X10_count_e at hv
  refine lv_iload_n hx hb dX10_count_0 rfl (lv_at hl 1 rfl) ?_
  refine lv_iconst (v := 0) hx hb dX10_count_1 (by decide) ?_
  refine lv_bipush (v := 10) hx hb dX10_count_2 (by decide) ?_
  refine r_ci (va_runS (As := [.int a1, .int 0, .int 10]) (rest := []) ⟨hx, hb, hml, hown, hts⟩ (c_X10_within hi a1 0 10 s0 _ hv H.size) (va_cwS 3 hts gX10_count_X10_within rfl rfl rfl (by decide +kernel) ⟨Nat.le_of_ble_eq_true rfl, Nat.le_of_ble_eq_true rfl⟩) ⟨pre_blind, pre_of hP hK⟩ rfl rfl hl.1 rfl (lv_room (Nat.le_of_ble_eq_true rfl)) dX10_count_4 ⟨Nat.zero_le _, Nat.zero_le _⟩) hS (fun r1 s1 H locs hv hP hS => ?_)
  obtain ⟨hz_r1, hv⟩ := hv
  have hD := wd_D (s := s) (cel := celC ad cA) (σ := s1) hi
  refine lv_if_eq (tgt := 18) hx hb dX10_count_7 (by decide) (fun c7 => ?_) (fun c7 => ?_)
  · have hv := hv.1 c7
    refine lv_aload_n hx hb dX10_count_18 rfl (lv_at hl 0 rfl) ?_
    refine r_ci (va_runV (As := []) (rest := []) ⟨hx, hb, hml, hown, hts⟩ (c_X10_bad hi  s1 _ hv H.size) (cwV 0 hts gX10_count_X10_bad rfl rfl rfl (by decide +kernel) ⟨Nat.le_of_ble_eq_true rfl, Nat.le_of_ble_eq_true rfl⟩) ⟨pre_blind, r_recv hK.1 hP 0 (by decide) (ceGR_0 (s1 0)) rfl, pre_of hP hK⟩ rfl rfl hl.1 rfl (lv_room (Nat.le_of_ble_eq_true rfl)) dX10_count_19 ⟨Nat.zero_le _, Nat.zero_le _⟩) hS (fun r2 s2 H locs hv hP hS => ?_)
    have hD := wd_D (s := s) (cel := celC ad cA) (σ := s2) hi
    exact r_iret hx hb hr hlocks hv hP hS dX10_count_22
  · have hv := hv.2 c7
    refine lv_aload_n hx hb dX10_count_10 rfl (lv_at hl 0 rfl) ?_
    refine lv_iload_n hx hb dX10_count_11 rfl (lv_at hl 1 rfl) ?_
    refine r_ci (va_runV (As := [.int a1]) (rest := []) ⟨hx, hb, hml, hown, hts⟩ (c_X10_counted hi a1 s1 _ hv H.size) (cwV 1 hts gX10_count_X10_counted rfl rfl rfl (by decide +kernel) ⟨Nat.le_of_ble_eq_true rfl, Nat.le_of_ble_eq_true rfl⟩) ⟨pre_blind, r_recv hK.1 hP 0 (by decide) (ceGR_0 (s1 0)) rfl, pre_of hP hK⟩ rfl rfl hl.1 rfl (lv_room (Nat.le_of_ble_eq_true rfl)) dX10_count_12 ⟨Nat.zero_le _, Nat.zero_le _⟩) hS (fun r3 s3 H locs hv hP hS => ?_)
    have hD := wd_D (s := s) (cel := celC ad cA) (σ := s3) hi
    refine lv_goto (tgt := 22) hx hb dX10_count_15 (by decide) ?_
    exact r_iret hx hb hr hlocks hv hP hS dX10_count_22
set_option maxHeartbeats 4000000 in
theorem y_X10_count {p : Program} {l : Launch} {e : Env} {s : State} {m : MethodId} {args : Array Value} {below : List Frame} {meth : Method} {c : Code} {dC : Nat → ClassId} {dI : Nat → Nat → Nat} {ad : Nat → Nat} {cA cZ : ClassId} (hi : Inj 81 ad) (a1 : Int32)  (C0 : Cx cX10_count RX10 wsX10_count 2 (some .int) p s m args meth c) (hK : KK dC dI cA cZ s) (Q : Int32 → St → Prop) : ∀ P xs ys σ, R_X10_count a1 Q P xs ys σ → XX p l e ({ frames := 3, cells := 0, slots := 0, locals := 67 } : Room) s m args below meth c (dC, dI) 81 ad (celC ad cA) 2 (ZI below args s (dC, dI) 81 ad (celC ad cA) Q) (lay_X10_count ad a1) P xs ys σ := by
  refine Fx.elim _ (fun P xs ys σ Y hY hB => ?_)
  exact hB.elim
set_option maxHeartbeats 4000000 in
theorem c_X10_count {l : Launch} {dC : Nat → ClassId} {dI : Nat → Nat → Nat} {ad : Nat → Nat} {cA cZ : ClassId} (hi : Inj 81 ad) (a1 : Int32)  (s0 : St) (Q : Int32 → St → Prop) (hv : V_X10_count a1 s0 Q) (sz : Nat) : Met l yX10_count wsX10_count ({ frames := 3, cells := 0, slots := 0, locals := 67 } : Room) (va_Pc [.ref (ad 0), .int a1] (PW dC dI ad cA cZ 81 (celC ad cA) sz s0)) (va_Qi Q (fun u t => va_P (dC, dI) vwCl (wd 81 ad (celC ad cA) u) t.heap) (AA 81 ad sz)) 0 0 (AA 81 ad sz) := by
  refine Met.ofW (cc := cX10_count) (maxL := 2) (ret := (some .int)) (by decide) rfl ?_
  intro p e s m args below meth c s₁ B hml hv0
  obtain ⟨rfl, hsz, hP, hK⟩ := hv0
  subst hsz
  have C0 : Cx cX10_count RX10 wsX10_count 2 (some .int) p s m ([.ref (ad 0), .int a1] : List Value).toArray meth c := ⟨B.exec, B.bytes, hml, findClass_of_methodNamed B.named, atoms_spec (ws := wsX10_count) B.pre, B.returns, B.notSynchronized⟩
  have hl := lv_entry ([.ref (ad 0), .int a1]) (n := 2) (Nat.le_of_ble_eq_true rfl)
  rw [lg_entry_eq]
  generalize (lg_sl ([.ref (ad 0), .int a1]) ++ List.replicate (2 - (lg_sl ([.ref (ad 0), .int a1])).length) Slot.unset).toArray = ls at hl ⊢
  have hl : lv_has ls 2 [(0, .ref (ad 0)), (1, .int a1)] := hl
  exact w_X10_count_e hi a1  C0 hK Q (R_X10_count a1 Q) (y_X10_count hi a1  C0 hK Q)  s0 hv hP va_S.rf hl
