def lay_X10_kinds (ad : Nat → Nat) (a1 : Int32) : Nat → List Int32 → List Int64 → Option (List (Nat × Value) × List Value) := fun P xs ys => match P, xs, ys with
  | _, _, _ => none
set_option maxHeartbeats 4000000 in
set_option maxRecDepth 100000 in
theorem w_X10_kinds_e {p : Program} {l : Launch} {e : Env} {s : State} {m : MethodId} {args : Array Value} {below : List Frame} {meth : Method} {c : Code} {dC : Nat → ClassId} {dI : Nat → Nat → Nat} {ad : Nat → Nat} {cA cZ : ClassId} (hi : Inj 81 ad) (a1 : Int32)  (C0 : Cx cX10_kinds RX10 wsX10_kinds 2 (some .int) p s m args meth c) (hK : KK dC dI cA cZ s) (Q : Int32 → St → Prop) (Y : Nat → List Int32 → List Int64 → St → Prop) (hY : ∀ P xs ys σ, Y P xs ys σ → XX p l e ({ frames := 3, cells := 0, slots := 0, locals := 75 } : Room) s m args below meth c (dC, dI) 81 ad (celC ad cA) 2 (ZI below args s (dC, dI) 81 ad (celC ad cA) Q) (lay_X10_kinds ad a1) P xs ys σ)  (s0 : St) (hv : B_X10_kinds_e a1 Q Y  s0) {H : Heap} {locs : List Loc} {ls : Array Slot} (hP : va_P (dC, dI) vwCl (wd 81 ad (celC ad cA) s0) H) (hS : va_S (AA 81 ad s.heap.size) s.heap H locs) (hl : lv_has ls 2 [(0, .ref (ad 0)), (1, .int a1)]) : W p l e ({ frames := 3, cells := 0, slots := 0, locals := 75 } : Room) s m args below meth c H locs 0 0 (ZI below args s (dC, dI) 81 ad (celC ad cA) Q) (F0 m 0 ls []) := by
  obtain ⟨hx, hb, hml, hown, hts, hr, hlocks⟩ := C0
  have hD := wd_D (s := s) (cel := celC ad cA) (σ := s0) hi
  unfold B_X10_kinds_e at hv
  refine lv_aload_n hx hb dX10_kinds_0 rfl (lv_at hl 0 rfl) ?_
  refine lv_iload_n hx hb dX10_kinds_1 rfl (lv_at hl 1 rfl) ?_
  refine r_ci (va_runV (As := [.int a1]) (rest := []) ⟨hx, hb, hml, hown, hts⟩ (c_X10_isCrossing hi a1 s0 _ hv H.size) (cwV 1 hts gX10_kinds_X10_isCrossing rfl rfl rfl (by decide +kernel) ⟨Nat.le_of_ble_eq_true rfl, Nat.le_of_ble_eq_true rfl⟩) ⟨pre_blind, r_recv hK.1 hP 0 (by decide) (ceGR_0 (s0 0)) rfl, pre_of hP hK⟩ rfl rfl hl.1 rfl (lv_room (Nat.le_of_ble_eq_true rfl)) dX10_kinds_2 ⟨Nat.zero_le _, Nat.zero_le _⟩) hS (fun r1 s1 H locs hv hP hS => ?_)
  obtain ⟨hz_r1, hv⟩ := hv
  have hD := wd_D (s := s) (cel := celC ad cA) (σ := s1) hi
  refine lv_if_eq (tgt := 23) hx hb dX10_kinds_5 (by decide) (fun c5 => ?_) (fun c5 => ?_)
  · have hv := hv.1 c5
    refine lv_aload_n hx hb dX10_kinds_23 rfl (lv_at hl 0 rfl) ?_
    refine r_ci (va_runV (As := []) (rest := []) ⟨hx, hb, hml, hown, hts⟩ (c_X10_bad hi  s1 _ hv H.size) (cwV 0 hts gX10_kinds_X10_bad rfl rfl rfl (by decide +kernel) ⟨Nat.le_of_ble_eq_true rfl, Nat.le_of_ble_eq_true rfl⟩) ⟨pre_blind, r_recv hK.1 hP 0 (by decide) (ceGR_0 (s1 0)) rfl, pre_of hP hK⟩ rfl rfl hl.1 rfl (lv_room (Nat.le_of_ble_eq_true rfl)) dX10_kinds_24 ⟨Nat.zero_le _, Nat.zero_le _⟩) hS (fun r2 s2 H locs hv hP hS => ?_)
    have hD := wd_D (s := s) (cel := celC ad cA) (σ := s2) hi
    exact r_iret hx hb hr hlocks hv hP hS dX10_kinds_27
  · have hv := hv.2 c5
    refine lv_aload_n hx hb dX10_kinds_8 rfl (lv_at hl 0 rfl) ?_
    refine r_get hx hb hts (iwX10_kinds_X10) hown hK.1 hP 0 (by decide) (ceGR_0 (s1 0)) rfl 0 (by decide) (hts _ kX10_kinds_1) (v := .ref (ad 1)) rfl dX10_kinds_9 ?_
    refine r_get hx hb hts (iwX10_kinds_X7) hown hK.1 hP 1 (ltSc_0 vSc_1) (ceSc_0 vSc_1 (s1 1)) rfl 4 (by decide) (hts _ kX10_kinds_2) (v := .ref (ad 17)) rfl dX10_kinds_12 ?_
    refine lv_iload_n hx hb dX10_kinds_15 rfl (lv_at hl 1 rfl) ?_
    refine lv_iconst (v := 0) hx hb dX10_kinds_16 (by decide) ?_
    refine r_ci (va_runS (As := [.ref (ad 17), .int a1, .int 0]) (rest := []) ⟨hx, hb, hml, hown, hts⟩ (c_X10_kindsThatFit hi 17 a1 0 (vSc16 vSc_1) s1 _ hv H.size) (va_cwS 3 hts gX10_kinds_X10_kindsThatFit rfl rfl rfl (by decide +kernel) ⟨Nat.le_of_ble_eq_true rfl, Nat.le_of_ble_eq_true rfl⟩) ⟨pre_blind, pre_of hP hK⟩ rfl rfl hl.1 rfl (lv_room (Nat.le_of_ble_eq_true rfl)) dX10_kinds_17 ⟨Nat.zero_le _, Nat.zero_le _⟩) hS (fun r3 s3 H locs hv hP hS => ?_)
    have hD := wd_D (s := s) (cel := celC ad cA) (σ := s3) hi
    refine lv_goto (tgt := 27) hx hb dX10_kinds_20 (by decide) ?_
    exact r_iret hx hb hr hlocks hv hP hS dX10_kinds_27
set_option maxHeartbeats 4000000 in
theorem y_X10_kinds {p : Program} {l : Launch} {e : Env} {s : State} {m : MethodId} {args : Array Value} {below : List Frame} {meth : Method} {c : Code} {dC : Nat → ClassId} {dI : Nat → Nat → Nat} {ad : Nat → Nat} {cA cZ : ClassId} (hi : Inj 81 ad) (a1 : Int32)  (C0 : Cx cX10_kinds RX10 wsX10_kinds 2 (some .int) p s m args meth c) (hK : KK dC dI cA cZ s) (Q : Int32 → St → Prop) : ∀ P xs ys σ, R_X10_kinds a1 Q P xs ys σ → XX p l e ({ frames := 3, cells := 0, slots := 0, locals := 75 } : Room) s m args below meth c (dC, dI) 81 ad (celC ad cA) 2 (ZI below args s (dC, dI) 81 ad (celC ad cA) Q) (lay_X10_kinds ad a1) P xs ys σ := by
  refine Fx.elim _ (fun P xs ys σ Y hY hB => ?_)
  exact hB.elim
set_option maxHeartbeats 4000000 in
theorem c_X10_kinds {l : Launch} {dC : Nat → ClassId} {dI : Nat → Nat → Nat} {ad : Nat → Nat} {cA cZ : ClassId} (hi : Inj 81 ad) (a1 : Int32)  (s0 : St) (Q : Int32 → St → Prop) (hv : V_X10_kinds a1 s0 Q) (sz : Nat) : Met l yX10_kinds wsX10_kinds ({ frames := 3, cells := 0, slots := 0, locals := 75 } : Room) (va_Pc [.ref (ad 0), .int a1] (PW dC dI ad cA cZ 81 (celC ad cA) sz s0)) (va_Qi Q (fun u t => va_P (dC, dI) vwCl (wd 81 ad (celC ad cA) u) t.heap) (AA 81 ad sz)) 0 0 (AA 81 ad sz) := by
  refine Met.ofW (cc := cX10_kinds) (maxL := 2) (ret := (some .int)) (by decide) rfl ?_
  intro p e s m args below meth c s₁ B hml hv0
  obtain ⟨rfl, hsz, hP, hK⟩ := hv0
  subst hsz
  have C0 : Cx cX10_kinds RX10 wsX10_kinds 2 (some .int) p s m ([.ref (ad 0), .int a1] : List Value).toArray meth c := ⟨B.exec, B.bytes, hml, findClass_of_methodNamed B.named, atoms_spec (ws := wsX10_kinds) B.pre, B.returns, B.notSynchronized⟩
  have hl := lv_entry ([.ref (ad 0), .int a1]) (n := 2) (Nat.le_of_ble_eq_true rfl)
  rw [lg_entry_eq]
  generalize (lg_sl ([.ref (ad 0), .int a1]) ++ List.replicate (2 - (lg_sl ([.ref (ad 0), .int a1])).length) Slot.unset).toArray = ls at hl ⊢
  have hl : lv_has ls 2 [(0, .ref (ad 0)), (1, .int a1)] := hl
  exact w_X10_kinds_e hi a1  C0 hK Q (R_X10_kinds a1 Q) (y_X10_kinds hi a1  C0 hK Q)  s0 hv hP va_S.rf hl
def lay_X10_ask (ad : Nat → Nat) (a1 : Int32) : Nat → List Int32 → List Int64 → Option (List (Nat × Value) × List Value) := fun P xs ys => match P, xs, ys with
  | _, _, _ => none
set_option maxHeartbeats 4000000 in
set_option maxRecDepth 100000 in
theorem w_X10_ask_e {p : Program} {l : Launch} {e : Env} {s : State} {m : MethodId} {args : Array Value} {below : List Frame} {meth : Method} {c : Code} {dC : Nat → ClassId} {dI : Nat → Nat → Nat} {ad : Nat → Nat} {cA cZ : ClassId} (hi : Inj 81 ad) (a1 : Int32)  (C0 : Cx cX10_ask RX10 wsX10_ask 2 (some .int) p s m args meth c) (hK : KK dC dI cA cZ s) (Q : Int32 → St → Prop) (Y : Nat → List Int32 → List Int64 → St → Prop) (hY : ∀ P xs ys σ, Y P xs ys σ → XX p l e ({ frames := 3, cells := 0, slots := 0, locals := 76 } : Room) s m args below meth c (dC, dI) 81 ad (celC ad cA) 2 (ZI below args s (dC, dI) 81 ad (celC ad cA) Q) (lay_X10_ask ad a1) P xs ys σ)  (s0 : St) (hv : B_X10_ask_e a1 Q Y  s0) {H : Heap} {locs : List Loc} {ls : Array Slot} (hP : va_P (dC, dI) vwCl (wd 81 ad (celC ad cA) s0) H) (hS : va_S (AA 81 ad s.heap.size) s.heap H locs) (hl : lv_has ls 2 [(0, .ref (ad 0)), (1, .int a1)]) : W p l e ({ frames := 3, cells := 0, slots := 0, locals := 76 } : Room) s m args below meth c H locs 0 0 (ZI below args s (dC, dI) 81 ad (celC ad cA) Q) (F0 m 0 ls []) := by
  obtain ⟨hx, hb, hml, hown, hts, hr, hlocks⟩ := C0
  have hD := wd_D (s := s) (cel := celC ad cA) (σ := s0) hi
  unfold B_X10_ask_e at hv
  refine lv_aload_n hx hb dX10_ask_0 rfl (lv_at hl 0 rfl) ?_
  refine lv_iload_n hx hb dX10_ask_1 rfl (lv_at hl 1 rfl) ?_
  refine r_ci (va_runV (As := [.int a1]) (rest := []) ⟨hx, hb, hml, hown, hts⟩ (c_X10_isCrossing hi a1 s0 _ hv H.size) (cwV 1 hts gX10_ask_X10_isCrossing rfl rfl rfl (by decide +kernel) ⟨Nat.le_of_ble_eq_true rfl, Nat.le_of_ble_eq_true rfl⟩) ⟨pre_blind, r_recv hK.1 hP 0 (by decide) (ceGR_0 (s0 0)) rfl, pre_of hP hK⟩ rfl rfl hl.1 rfl (lv_room (Nat.le_of_ble_eq_true rfl)) dX10_ask_2 ⟨Nat.zero_le _, Nat.zero_le _⟩) hS (fun r1 s1 H locs hv hP hS => ?_)
  obtain ⟨hz_r1, hv⟩ := hv
  have hD := wd_D (s := s) (cel := celC ad cA) (σ := s1) hi
  refine lv_if_ne (tgt := 13) hx hb dX10_ask_5 (by decide) (fun c5 => ?_) (fun c5 => ?_)
  · have hv := hv.1 c5
    refine lv_aload_n hx hb dX10_ask_13 rfl (lv_at hl 0 rfl) ?_
    refine lv_aload_n hx hb dX10_ask_14 rfl (lv_at hl 0 rfl) ?_
    refine r_get hx hb hts (iwX10_ask_X10) hown hK.1 hP 0 (by decide) (ceGR_0 (s1 0)) rfl 0 (by decide) (hts _ kX10_ask_1) (v := .ref (ad 1)) rfl dX10_ask_15 ?_
    refine r_get hx hb hts (iwX10_ask_X7) hown hK.1 hP 1 (ltSc_0 vSc_1) (ceSc_0 vSc_1 (s1 1)) rfl 4 (by decide) (hts _ kX10_ask_2) (v := .ref (ad 17)) rfl dX10_ask_18 ?_
    refine lv_iload_n hx hb dX10_ask_21 rfl (lv_at hl 1 rfl) ?_
    refine lv_iconst (v := 0) hx hb dX10_ask_22 (by decide) ?_
    refine r_ci (va_runS (As := [.ref (ad 17), .int a1, .int 0]) (rest := [.ref (ad 0)]) ⟨hx, hb, hml, hown, hts⟩ (c_X10_kindsThatFit hi 17 a1 0 (vSc16 vSc_1) s1 _ hv H.size) (va_cwS 3 hts gX10_ask_X10_kindsThatFit rfl rfl rfl (by decide +kernel) ⟨Nat.le_of_ble_eq_true rfl, Nat.le_of_ble_eq_true rfl⟩) ⟨pre_blind, pre_of hP hK⟩ rfl rfl hl.1 rfl (lv_room (Nat.le_of_ble_eq_true rfl)) dX10_ask_23 ⟨Nat.zero_le _, Nat.zero_le _⟩) hS (fun r2 s2 H locs hv hP hS => ?_)
    have hD := wd_D (s := s) (cel := celC ad cA) (σ := s2) hi
    refine lv_iconst (v := 0) hx hb dX10_ask_26 (by decide) ?_
    refine r_ci (va_runV (As := [.int r2, .int 0]) (rest := []) ⟨hx, hb, hml, hown, hts⟩ (c_X10_nextLook hi r2 0 s2 _ hv H.size) (cwV 2 hts gX10_ask_X10_nextLook rfl rfl rfl (by decide +kernel) ⟨Nat.le_of_ble_eq_true rfl, Nat.le_of_ble_eq_true rfl⟩) ⟨pre_blind, r_recv hK.1 hP 0 (by decide) (ceGR_0 (s2 0)) rfl, pre_of hP hK⟩ rfl rfl hl.1 rfl (lv_room (Nat.le_of_ble_eq_true rfl)) dX10_ask_27 ⟨Nat.zero_le _, Nat.zero_le _⟩) hS (fun r3 s3 H locs hv hP hS => ?_)
    have hD := wd_D (s := s) (cel := celC ad cA) (σ := s3) hi
    exact r_iret hx hb hr hlocks hv hP hS dX10_ask_30
  · have hv := hv.2 c5
    refine lv_aload_n hx hb dX10_ask_8 rfl (lv_at hl 0 rfl) ?_
    refine r_ci (va_runV (As := []) (rest := []) ⟨hx, hb, hml, hown, hts⟩ (c_X10_bad hi  s1 _ hv H.size) (cwV 0 hts gX10_ask_X10_bad rfl rfl rfl (by decide +kernel) ⟨Nat.le_of_ble_eq_true rfl, Nat.le_of_ble_eq_true rfl⟩) ⟨pre_blind, r_recv hK.1 hP 0 (by decide) (ceGR_0 (s1 0)) rfl, pre_of hP hK⟩ rfl rfl hl.1 rfl (lv_room (Nat.le_of_ble_eq_true rfl)) dX10_ask_9 ⟨Nat.zero_le _, Nat.zero_le _⟩) hS (fun r4 s4 H locs hv hP hS => ?_)
    have hD := wd_D (s := s) (cel := celC ad cA) (σ := s4) hi
    exact r_iret hx hb hr hlocks hv hP hS dX10_ask_12
set_option maxHeartbeats 4000000 in
theorem y_X10_ask {p : Program} {l : Launch} {e : Env} {s : State} {m : MethodId} {args : Array Value} {below : List Frame} {meth : Method} {c : Code} {dC : Nat → ClassId} {dI : Nat → Nat → Nat} {ad : Nat → Nat} {cA cZ : ClassId} (hi : Inj 81 ad) (a1 : Int32)  (C0 : Cx cX10_ask RX10 wsX10_ask 2 (some .int) p s m args meth c) (hK : KK dC dI cA cZ s) (Q : Int32 → St → Prop) : ∀ P xs ys σ, R_X10_ask a1 Q P xs ys σ → XX p l e ({ frames := 3, cells := 0, slots := 0, locals := 76 } : Room) s m args below meth c (dC, dI) 81 ad (celC ad cA) 2 (ZI below args s (dC, dI) 81 ad (celC ad cA) Q) (lay_X10_ask ad a1) P xs ys σ := by
  refine Fx.elim _ (fun P xs ys σ Y hY hB => ?_)
  exact hB.elim
set_option maxHeartbeats 4000000 in
theorem c_X10_ask {l : Launch} {dC : Nat → ClassId} {dI : Nat → Nat → Nat} {ad : Nat → Nat} {cA cZ : ClassId} (hi : Inj 81 ad) (a1 : Int32)  (s0 : St) (Q : Int32 → St → Prop) (hv : V_X10_ask a1 s0 Q) (sz : Nat) : Met l yX10_ask wsX10_ask ({ frames := 3, cells := 0, slots := 0, locals := 76 } : Room) (va_Pc [.ref (ad 0), .int a1] (PW dC dI ad cA cZ 81 (celC ad cA) sz s0)) (va_Qi Q (fun u t => va_P (dC, dI) vwCl (wd 81 ad (celC ad cA) u) t.heap) (AA 81 ad sz)) 0 0 (AA 81 ad sz) := by
  refine Met.ofW (cc := cX10_ask) (maxL := 2) (ret := (some .int)) (by decide) rfl ?_
  intro p e s m args below meth c s₁ B hml hv0
  obtain ⟨rfl, hsz, hP, hK⟩ := hv0
  subst hsz
  have C0 : Cx cX10_ask RX10 wsX10_ask 2 (some .int) p s m ([.ref (ad 0), .int a1] : List Value).toArray meth c := ⟨B.exec, B.bytes, hml, findClass_of_methodNamed B.named, atoms_spec (ws := wsX10_ask) B.pre, B.returns, B.notSynchronized⟩
  have hl := lv_entry ([.ref (ad 0), .int a1]) (n := 2) (Nat.le_of_ble_eq_true rfl)
  rw [lg_entry_eq]
  generalize (lg_sl ([.ref (ad 0), .int a1]) ++ List.replicate (2 - (lg_sl ([.ref (ad 0), .int a1])).length) Slot.unset).toArray = ls at hl ⊢
  have hl : lv_has ls 2 [(0, .ref (ad 0)), (1, .int a1)] := hl
  exact w_X10_ask_e hi a1  C0 hK Q (R_X10_ask a1 Q) (y_X10_ask hi a1  C0 hK Q)  s0 hv hP va_S.rf hl
def lay_X0_visited (ad : Nat → Nat) (h1 : Nat) (a2 : Int32) : Nat → List Int32 → List Int64 → Option (List (Nat × Value) × List Value) := fun P xs ys => match P, xs, ys with
  | 13, [x3, x4], [] => some ([(0, .ref (ad 55)), (2, .int a2), (3, .int x3), (4, .int x4)], [])
  | _, _, _ => none
set_option maxHeartbeats 4000000 in
set_option maxRecDepth 100000 in
theorem w_X0_visited_e {p : Program} {l : Launch} {e : Env} {s : State} {m : MethodId} {args : Array Value} {below : List Frame} {meth : Method} {c : Code} {dC : Nat → ClassId} {dI : Nat → Nat → Nat} {ad : Nat → Nat} {cA cZ : ClassId} (hi : Inj 81 ad) (h1 : Nat) (a2 : Int32) (hh1 : isSt h1) (C0 : Cx cX0_visited RX0 wsX0_visited 5 (some .int) p s m args meth c) (hK : KK dC dI cA cZ s) (Q : Int32 → St → Prop) (Y : Nat → List Int32 → List Int64 → St → Prop) (hY : ∀ P xs ys σ, Y P xs ys σ → XX p l e ({ frames := 3, cells := 0, slots := 0, locals := 69 } : Room) s m args below meth c (dC, dI) 81 ad (celC ad cA) 5 (ZI below args s (dC, dI) 81 ad (celC ad cA) Q) (lay_X0_visited ad h1 a2) P xs ys σ)  (s0 : St) (hv : B_X0_visited_e h1 a2 Q Y  s0) {H : Heap} {locs : List Loc} {ls : Array Slot} (hP : va_P (dC, dI) vwCl (wd 81 ad (celC ad cA) s0) H) (hS : va_S (AA 81 ad s.heap.size) s.heap H locs) (hl : lv_has ls 5 [(0, .ref (ad 55)), (1, .ref (ad h1)), (2, .int a2)]) : W p l e ({ frames := 3, cells := 0, slots := 0, locals := 69 } : Room) s m args below meth c H locs 0 0 (ZI below args s (dC, dI) 81 ad (celC ad cA) Q) (F0 m 0 ls []) := by
  obtain ⟨hx, hb, hml, hown, hts, hr, hlocks⟩ := C0
  have hD := wd_D (s := s) (cel := celC ad cA) (σ := s0) hi
  unfold B_X0_visited_e at hv
  refine lv_iconst (v := 0) hx hb dX0_visited_0 (by decide) ?_
  refine lv_istore_n (lv' := [(3, .int 0), (0, .ref (ad 55)), (1, .ref (ad h1)), (2, .int a2)]) hx hb dX0_visited_1 rfl hl (by decide) rfl (fun ls hl => ?_)
  refine lv_aload_n hx hb dX0_visited_2 rfl (lv_at hl 1 rfl) ?_
  refine r_get hx hb hts (iwX0_visited_X0) hown hK.1 hP 55 (by decide) (ceFo_0 (s0 55)) rfl 0 (by decide) (hts _ kX0_visited_1) (v := .ref (ad 56)) rfl dX0_visited_3 ?_
  refine lv_aload_n hx hb dX0_visited_6 rfl (lv_at hl 2 rfl) ?_
  refine r_cv (va_runV (As := [.ref (ad h1)]) (rest := []) ⟨hx, hb, hml, hown, hts⟩ (c_X8_copy hi 56 h1 vSt_56 hh1 s0 _ hv H.size) (cwV 1 hts gX0_visited_X8_copy rfl rfl rfl (by decide +kernel) ⟨Nat.le_of_ble_eq_true rfl, Nat.le_of_ble_eq_true rfl⟩) ⟨pre_blind, r_recv hK.1 hP 56 (ltSt_0 vSt_56) (ceSt_0 vSt_56 (s0 56)) rfl, pre_of hP hK⟩ rfl rfl hl.1 rfl (lv_room (Nat.le_of_ble_eq_true rfl)) dX0_visited_7 ⟨Nat.zero_le _, Nat.zero_le _⟩) hS (fun s1 H locs hv hP hS => ?_)
  have hD := wd_D (s := s) (cel := celC ad cA) (σ := s1) hi
  refine lv_iconst (v := 0) hx hb dX0_visited_10 (by decide) ?_
  refine lv_istore (lv' := [(4, .int 0), (3, .int 0), (0, .ref (ad 55)), (1, .ref (ad h1)), (2, .int a2)]) hx hb dX0_visited_11 hl (by decide) rfl (fun ls hl => ?_)
  exact hY 13 [0, 0] [] s1 hv _ _ rfl H locs ls hP hS (lv_sub hl [2, 4, 1, 0] rfl)
set_option maxHeartbeats 4000000 in
set_option maxRecDepth 100000 in
theorem w_X0_visited_13 {p : Program} {l : Launch} {e : Env} {s : State} {m : MethodId} {args : Array Value} {below : List Frame} {meth : Method} {c : Code} {dC : Nat → ClassId} {dI : Nat → Nat → Nat} {ad : Nat → Nat} {cA cZ : ClassId} (hi : Inj 81 ad) (h1 : Nat) (a2 : Int32) (hh1 : isSt h1) (C0 : Cx cX0_visited RX0 wsX0_visited 5 (some .int) p s m args meth c) (hK : KK dC dI cA cZ s) (Q : Int32 → St → Prop) (Y : Nat → List Int32 → List Int64 → St → Prop) (hY : ∀ P xs ys σ, Y P xs ys σ → XX p l e ({ frames := 3, cells := 0, slots := 0, locals := 69 } : Room) s m args below meth c (dC, dI) 81 ad (celC ad cA) 5 (ZI below args s (dC, dI) 81 ad (celC ad cA) Q) (lay_X0_visited ad h1 a2) P xs ys σ) (x3 : Int32) (x4 : Int32) (s0 : St) (hv : B_X0_visited_13 h1 a2 Q Y x3 x4 s0) {H : Heap} {locs : List Loc} {ls : Array Slot} (hP : va_P (dC, dI) vwCl (wd 81 ad (celC ad cA) s0) H) (hS : va_S (AA 81 ad s.heap.size) s.heap H locs) (hl : lv_has ls 5 [(0, .ref (ad 55)), (2, .int a2), (3, .int x3), (4, .int x4)]) : W p l e ({ frames := 3, cells := 0, slots := 0, locals := 69 } : Room) s m args below meth c H locs 0 0 (ZI below args s (dC, dI) 81 ad (celC ad cA) Q) (F0 m 13 ls []) := by
  obtain ⟨hx, hb, hml, hown, hts, hr, hlocks⟩ := C0
  have hD := wd_D (s := s) (cel := celC ad cA) (σ := s0) hi
  unfold B_X0_visited_13 at hv
  refine lv_iload hx hb dX0_visited_13 (lv_at hl 3 rfl) ?_
  refine lv_bipush (v := 30) hx hb dX0_visited_15 (by decide) ?_
  refine lv_icmp_gt (tgt := 47) hx hb dX0_visited_17 (by decide) (fun c17 => ?_) (fun c17 => ?_)
  · have hv := hv.1 c17
    refine lv_iload_n hx hb dX0_visited_47 rfl (lv_at hl 2 rfl) ?_
    exact r_iret hx hb hr hlocks hv hP hS dX0_visited_48
  · have hv := hv.2 c17
    refine lv_iload_n hx hb dX0_visited_20 rfl (lv_at hl 2 rfl) ?_
    refine lv_iconst (v := 1) hx hb dX0_visited_21 (by decide) ?_
    refine lv_aload_n hx hb dX0_visited_22 rfl (lv_at hl 0 rfl) ?_
    refine r_get hx hb hts (iwX0_visited_X0) hown hK.1 hP 55 (by decide) (ceFo_0 (s0 55)) rfl 0 (by decide) (hts _ kX0_visited_1) (v := .ref (ad 56)) rfl dX0_visited_23 ?_
    refine r_get hx hb hts (iwX0_visited_X8) hown hK.1 hP 56 (ltSt_0 vSt_56) (ceSt_0 vSt_56 (s0 56)) rfl 3 (by decide) (hts _ kX0_visited_2) (v := .ref (ad 60)) rfl dX0_visited_26 ?_
    refine lv_iload_n hx hb dX0_visited_29 rfl (lv_at hl 1 rfl) ?_
    obtain ⟨hin, hv⟩ := hv
    refine r_iald hx hb hK.1 hP 60 (ltSt_4 vSt_56) (ceSt_4 vSt_56 (s0 60)) hin dX0_visited_30 ?_
    refine lv_ishl hx hb dX0_visited_31 ?_
    refine lv_ior hx hb dX0_visited_32 ?_
    refine lv_topi (fun v1 ev1 => ?_)
    have hv := hv v1 ev1
    refine lv_istore_n (lv' := [(3, .int v1), (0, .ref (ad 55)), (2, .int a2), (4, .int x4)]) hx hb dX0_visited_33 rfl hl (by decide) rfl (fun ls hl => ?_)
    refine lv_aload_n hx hb dX0_visited_34 rfl (lv_at hl 1 rfl) ?_
    refine r_get hx hb hts (iwX0_visited_X0) hown hK.1 hP 55 (by decide) (ceFo_0 (s0 55)) rfl 0 (by decide) (hts _ kX0_visited_1) (v := .ref (ad 56)) rfl dX0_visited_35 ?_
    refine r_cv (va_runV (As := []) (rest := []) ⟨hx, hb, hml, hown, hts⟩ (c_X8_passHour hi 56 vSt_56 s0 _ hv H.size) (cwV 0 hts gX0_visited_X8_passHour rfl rfl rfl (by decide +kernel) ⟨Nat.le_of_ble_eq_true rfl, Nat.le_of_ble_eq_true rfl⟩) ⟨pre_blind, r_recv hK.1 hP 56 (ltSt_0 vSt_56) (ceSt_0 vSt_56 (s0 56)) rfl, pre_of hP hK⟩ rfl rfl hl.1 rfl (lv_room (Nat.le_of_ble_eq_true rfl)) dX0_visited_38 ⟨Nat.zero_le _, Nat.zero_le _⟩) hS (fun s2 H locs hv hP hS => ?_)
    have hD := wd_D (s := s) (cel := celC ad cA) (σ := s2) hi
    refine lv_iinc (v := x4 + 1) (lv' := [(4, .int (x4 + 1)), (3, .int v1), (0, .ref (ad 55)), (2, .int a2)]) hx hb dX0_visited_41 hl (k := 3) rfl rfl (by decide) rfl (fun ls hl => ?_)
    refine lv_goto (tgt := 13) hx hb dX0_visited_44 (by decide) ?_
    exact hY 13 [v1, x4 + 1] [] s2 hv _ _ rfl H locs ls hP hS (lv_sub hl [2, 3, 1, 0] rfl)
set_option maxHeartbeats 4000000 in
theorem y_X0_visited {p : Program} {l : Launch} {e : Env} {s : State} {m : MethodId} {args : Array Value} {below : List Frame} {meth : Method} {c : Code} {dC : Nat → ClassId} {dI : Nat → Nat → Nat} {ad : Nat → Nat} {cA cZ : ClassId} (hi : Inj 81 ad) (h1 : Nat) (a2 : Int32) (hh1 : isSt h1) (C0 : Cx cX0_visited RX0 wsX0_visited 5 (some .int) p s m args meth c) (hK : KK dC dI cA cZ s) (Q : Int32 → St → Prop) : ∀ P xs ys σ, R_X0_visited h1 a2 Q P xs ys σ → XX p l e ({ frames := 3, cells := 0, slots := 0, locals := 69 } : Room) s m args below meth c (dC, dI) 81 ad (celC ad cA) 5 (ZI below args s (dC, dI) 81 ad (celC ad cA) Q) (lay_X0_visited ad h1 a2) P xs ys σ := by
  refine Fx.elim _ (fun P xs ys σ Y hY hB => ?_)
  rcases hB with ⟨rfl, x3, x4, rfl, rfl, hB⟩
  · intro lv st he H locs ls hP hS hl
    cases he
    exact w_X0_visited_13 hi h1 a2 hh1 C0 hK Q Y hY x3 x4 σ hB hP hS hl
set_option maxHeartbeats 4000000 in
theorem c_X0_visited {l : Launch} {dC : Nat → ClassId} {dI : Nat → Nat → Nat} {ad : Nat → Nat} {cA cZ : ClassId} (hi : Inj 81 ad) (h1 : Nat) (a2 : Int32) (hh1 : isSt h1) (s0 : St) (Q : Int32 → St → Prop) (hv : V_X0_visited h1 a2 s0 Q) (sz : Nat) : Met l yX0_visited wsX0_visited ({ frames := 3, cells := 0, slots := 0, locals := 69 } : Room) (va_Pc [.ref (ad 55), .ref (ad h1), .int a2] (PW dC dI ad cA cZ 81 (celC ad cA) sz s0)) (va_Qi Q (fun u t => va_P (dC, dI) vwCl (wd 81 ad (celC ad cA) u) t.heap) (AA 81 ad sz)) 0 0 (AA 81 ad sz) := by
  refine Met.ofW (cc := cX0_visited) (maxL := 5) (ret := (some .int)) (by decide) rfl ?_
  intro p e s m args below meth c s₁ B hml hv0
  obtain ⟨rfl, hsz, hP, hK⟩ := hv0
  subst hsz
  have C0 : Cx cX0_visited RX0 wsX0_visited 5 (some .int) p s m ([.ref (ad 55), .ref (ad h1), .int a2] : List Value).toArray meth c := ⟨B.exec, B.bytes, hml, findClass_of_methodNamed B.named, atoms_spec (ws := wsX0_visited) B.pre, B.returns, B.notSynchronized⟩
  have hl := lv_entry ([.ref (ad 55), .ref (ad h1), .int a2]) (n := 5) (Nat.le_of_ble_eq_true rfl)
  rw [lg_entry_eq]
  generalize (lg_sl ([.ref (ad 55), .ref (ad h1), .int a2]) ++ List.replicate (5 - (lg_sl ([.ref (ad 55), .ref (ad h1), .int a2])).length) Slot.unset).toArray = ls at hl ⊢
  have hl : lv_has ls 5 [(0, .ref (ad 55)), (1, .ref (ad h1)), (2, .int a2)] := hl
  exact w_X0_visited_e hi h1 a2 hh1 C0 hK Q (R_X0_visited h1 a2 Q) (y_X0_visited hi h1 a2 hh1 C0 hK Q)  s0 hv hP va_S.rf hl
def lay_X10_ladyGets (ad : Nat → Nat) (a0 : Int32) (a1 : Int32) (a2 : Int32) : Nat → List Int32 → List Int64 → Option (List (Nat × Value) × List Value) := fun P xs ys => match P, xs, ys with
  | 14, [t0], [] => some ([(0, .int a0), (1, .int a1)], [.int t0])
  | _, _, _ => none
set_option maxHeartbeats 4000000 in
set_option maxRecDepth 100000 in
theorem w_X10_ladyGets_e {p : Program} {l : Launch} {e : Env} {s : State} {m : MethodId} {args : Array Value} {below : List Frame} {meth : Method} {c : Code} {dC : Nat → ClassId} {dI : Nat → Nat → Nat} {ad : Nat → Nat} {cA cZ : ClassId} (hi : Inj 81 ad) (a0 : Int32) (a1 : Int32) (a2 : Int32)  (C0 : Cx cX10_ladyGets RX10 wsX10_ladyGets 4 (some .int) p s m args meth c) (hK : KK dC dI cA cZ s) (Q : Int32 → St → Prop) (Y : Nat → List Int32 → List Int64 → St → Prop) (hY : ∀ P xs ys σ, Y P xs ys σ → XX p l e ({ frames := 0, cells := 0, slots := 0, locals := 0 } : Room) s m args below meth c (dC, dI) 81 ad (celC ad cA) 4 (ZI below args s (dC, dI) 81 ad (celC ad cA) Q) (lay_X10_ladyGets ad a0 a1 a2) P xs ys σ)  (s0 : St) (hv : B_X10_ladyGets_e a0 a1 a2 Q Y  s0) {H : Heap} {locs : List Loc} {ls : Array Slot} (hP : va_P (dC, dI) vwCl (wd 81 ad (celC ad cA) s0) H) (hS : va_S (AA 81 ad s.heap.size) s.heap H locs) (hl : lv_has ls 4 [(0, .int a0), (1, .int a1), (2, .int a2)]) : W p l e ({ frames := 0, cells := 0, slots := 0, locals := 0 } : Room) s m args below meth c H locs 0 0 (ZI below args s (dC, dI) 81 ad (celC ad cA) Q) (F0 m 0 ls []) := by
  obtain ⟨hx, hb, hml, hown, hts, hr, hlocks⟩ := C0
  have hD := wd_D (s := s) (cel := celC ad cA) (σ := s0) hi
  unfold B_X10_ladyGets_e at hv
  refine lv_iload_n hx hb dX10_ladyGets_0 rfl (lv_at hl 2 rfl) ?_
  refine lv_iload_n hx hb dX10_ladyGets_1 rfl (lv_at hl 0 rfl) ?_
  refine lv_ishr hx hb dX10_ladyGets_2 ?_
  refine lv_iconst (v := 1) hx hb dX10_ladyGets_3 (by decide) ?_
  refine lv_iand hx hb dX10_ladyGets_4 ?_
  refine lv_iconst (v := 1) hx hb dX10_ladyGets_5 (by decide) ?_
  refine lv_icmp_ne (tgt := 13) hx hb dX10_ladyGets_6 (by decide) (fun c6 => ?_) (fun c6 => ?_)
  · have hv := hv.1 c6
    refine lv_iconst (v := 0) hx hb dX10_ladyGets_13 (by decide) ?_
    exact hY 14 [0] [] s0 hv _ _ rfl H locs ls hP hS (lv_sub hl [0, 1] rfl)
  · have hv := hv.2 c6
    refine lv_iconst (v := 5) hx hb dX10_ladyGets_9 (by decide) ?_
    refine lv_goto (tgt := 14) hx hb dX10_ladyGets_10 (by decide) ?_
    exact hY 14 [5] [] s0 hv _ _ rfl H locs ls hP hS (lv_sub hl [0, 1] rfl)
set_option maxHeartbeats 4000000 in
set_option maxRecDepth 100000 in
theorem w_X10_ladyGets_14 {p : Program} {l : Launch} {e : Env} {s : State} {m : MethodId} {args : Array Value} {below : List Frame} {meth : Method} {c : Code} {dC : Nat → ClassId} {dI : Nat → Nat → Nat} {ad : Nat → Nat} {cA cZ : ClassId} (hi : Inj 81 ad) (a0 : Int32) (a1 : Int32) (a2 : Int32)  (C0 : Cx cX10_ladyGets RX10 wsX10_ladyGets 4 (some .int) p s m args meth c) (hK : KK dC dI cA cZ s) (Q : Int32 → St → Prop) (Y : Nat → List Int32 → List Int64 → St → Prop) (hY : ∀ P xs ys σ, Y P xs ys σ → XX p l e ({ frames := 0, cells := 0, slots := 0, locals := 0 } : Room) s m args below meth c (dC, dI) 81 ad (celC ad cA) 4 (ZI below args s (dC, dI) 81 ad (celC ad cA) Q) (lay_X10_ladyGets ad a0 a1 a2) P xs ys σ) (t0 : Int32) (s0 : St) (hv : B_X10_ladyGets_14 a0 a1 a2 Q Y t0 s0) {H : Heap} {locs : List Loc} {ls : Array Slot} (hP : va_P (dC, dI) vwCl (wd 81 ad (celC ad cA) s0) H) (hS : va_S (AA 81 ad s.heap.size) s.heap H locs) (hl : lv_has ls 4 [(0, .int a0), (1, .int a1)]) : W p l e ({ frames := 0, cells := 0, slots := 0, locals := 0 } : Room) s m args below meth c H locs 0 0 (ZI below args s (dC, dI) 81 ad (celC ad cA) Q) (F0 m 14 ls [.int t0]) := by
  obtain ⟨hx, hb, hml, hown, hts, hr, hlocks⟩ := C0
  have hD := wd_D (s := s) (cel := celC ad cA) (σ := s0) hi
  unfold B_X10_ladyGets_14 at hv
  refine lv_istore_n (lv' := [(3, .int t0), (0, .int a0), (1, .int a1)]) hx hb dX10_ladyGets_14 rfl hl (by decide) rfl (fun ls hl => ?_)
  refine lv_iload_n hx hb dX10_ladyGets_15 rfl (lv_at hl 0 rfl) ?_
  refine lv_iload_n hx hb dX10_ladyGets_16 rfl (lv_at hl 1 rfl) ?_
  refine lv_iconst (v := 3) hx hb dX10_ladyGets_17 (by decide) ?_
  refine lv_idiv hx hb dX10_ladyGets_18 (by decide) ?_
  refine lv_isub hx hb dX10_ladyGets_19 ?_
  refine lv_iload_n hx hb dX10_ladyGets_20 rfl (lv_at hl 1 rfl) ?_
  refine lv_iload_n hx hb dX10_ladyGets_21 rfl (lv_at hl 2 rfl) ?_
  refine lv_icmp_ne (tgt := 29) hx hb dX10_ladyGets_22 (by decide) (fun c22 => ?_) (fun c22 => ?_)
  · have hv := hv.1 c22
    refine lv_iconst (v := 0) hx hb dX10_ladyGets_29 (by decide) ?_
    refine lv_isub hx hb dX10_ladyGets_30 ?_
    exact r_iret hx hb hr hlocks hv hP hS dX10_ladyGets_31
  · have hv := hv.2 c22
    refine lv_iconst (v := 3) hx hb dX10_ladyGets_25 (by decide) ?_
    refine lv_goto (tgt := 30) hx hb dX10_ladyGets_26 (by decide) ?_
    refine lv_isub hx hb dX10_ladyGets_30 ?_
    exact r_iret hx hb hr hlocks hv hP hS dX10_ladyGets_31
set_option maxHeartbeats 4000000 in
theorem y_X10_ladyGets {p : Program} {l : Launch} {e : Env} {s : State} {m : MethodId} {args : Array Value} {below : List Frame} {meth : Method} {c : Code} {dC : Nat → ClassId} {dI : Nat → Nat → Nat} {ad : Nat → Nat} {cA cZ : ClassId} (hi : Inj 81 ad) (a0 : Int32) (a1 : Int32) (a2 : Int32)  (C0 : Cx cX10_ladyGets RX10 wsX10_ladyGets 4 (some .int) p s m args meth c) (hK : KK dC dI cA cZ s) (Q : Int32 → St → Prop) : ∀ P xs ys σ, R_X10_ladyGets a0 a1 a2 Q P xs ys σ → XX p l e ({ frames := 0, cells := 0, slots := 0, locals := 0 } : Room) s m args below meth c (dC, dI) 81 ad (celC ad cA) 4 (ZI below args s (dC, dI) 81 ad (celC ad cA) Q) (lay_X10_ladyGets ad a0 a1 a2) P xs ys σ := by
  refine Fx.elim _ (fun P xs ys σ Y hY hB => ?_)
  rcases hB with ⟨rfl, t0, rfl, rfl, hB⟩
  · intro lv st he H locs ls hP hS hl
    cases he
    exact w_X10_ladyGets_14 hi a0 a1 a2  C0 hK Q Y hY t0 σ hB hP hS hl
set_option maxHeartbeats 4000000 in
theorem c_X10_ladyGets {l : Launch} {dC : Nat → ClassId} {dI : Nat → Nat → Nat} {ad : Nat → Nat} {cA cZ : ClassId} (hi : Inj 81 ad) (a0 : Int32) (a1 : Int32) (a2 : Int32)  (s0 : St) (Q : Int32 → St → Prop) (hv : V_X10_ladyGets a0 a1 a2 s0 Q) (sz : Nat) : Met l yX10_ladyGets wsX10_ladyGets ({ frames := 0, cells := 0, slots := 0, locals := 0 } : Room) (va_Pc [.int a0, .int a1, .int a2] (PW dC dI ad cA cZ 81 (celC ad cA) sz s0)) (va_Qi Q (fun u t => va_P (dC, dI) vwCl (wd 81 ad (celC ad cA) u) t.heap) (AA 81 ad sz)) 0 0 (AA 81 ad sz) := by
  refine Met.ofW (cc := cX10_ladyGets) (maxL := 4) (ret := (some .int)) (by decide) rfl ?_
  intro p e s m args below meth c s₁ B hml hv0
  obtain ⟨rfl, hsz, hP, hK⟩ := hv0
  subst hsz
  have C0 : Cx cX10_ladyGets RX10 wsX10_ladyGets 4 (some .int) p s m ([.int a0, .int a1, .int a2] : List Value).toArray meth c := ⟨B.exec, B.bytes, hml, findClass_of_methodNamed B.named, atoms_spec (ws := wsX10_ladyGets) B.pre, B.returns, B.notSynchronized⟩
  have hl := lv_entry ([.int a0, .int a1, .int a2]) (n := 4) (Nat.le_of_ble_eq_true rfl)
  rw [lg_entry_eq]
  generalize (lg_sl ([.int a0, .int a1, .int a2]) ++ List.replicate (4 - (lg_sl ([.int a0, .int a1, .int a2])).length) Slot.unset).toArray = ls at hl ⊢
  have hl : lv_has ls 4 [(0, .int a0), (1, .int a1), (2, .int a2)] := hl
  exact w_X10_ladyGets_e hi a0 a1 a2  C0 hK Q (R_X10_ladyGets a0 a1 a2 Q) (y_X10_ladyGets hi a0 a1 a2  C0 hK Q)  s0 hv hP va_S.rf hl
def lay_X10_constableGets (ad : Nat → Nat) (a0 : Int32) (a1 : Int32) : Nat → List Int32 → List Int64 → Option (List (Nat × Value) × List Value) := fun P xs ys => match P, xs, ys with
  | _, _, _ => none
set_option maxHeartbeats 4000000 in
set_option maxRecDepth 100000 in
theorem w_X10_constableGets_e {p : Program} {l : Launch} {e : Env} {s : State} {m : MethodId} {args : Array Value} {below : List Frame} {meth : Method} {c : Code} {dC : Nat → ClassId} {dI : Nat → Nat → Nat} {ad : Nat → Nat} {cA cZ : ClassId} (hi : Inj 81 ad) (a0 : Int32) (a1 : Int32)  (C0 : Cx cX10_constableGets RX10 wsX10_constableGets 2 (some .int) p s m args meth c) (hK : KK dC dI cA cZ s) (Q : Int32 → St → Prop) (Y : Nat → List Int32 → List Int64 → St → Prop) (hY : ∀ P xs ys σ, Y P xs ys σ → XX p l e ({ frames := 0, cells := 0, slots := 0, locals := 0 } : Room) s m args below meth c (dC, dI) 81 ad (celC ad cA) 2 (ZI below args s (dC, dI) 81 ad (celC ad cA) Q) (lay_X10_constableGets ad a0 a1) P xs ys σ)  (s0 : St) (hv : B_X10_constableGets_e a0 a1 Q Y  s0) {H : Heap} {locs : List Loc} {ls : Array Slot} (hP : va_P (dC, dI) vwCl (wd 81 ad (celC ad cA) s0) H) (hS : va_S (AA 81 ad s.heap.size) s.heap H locs) (hl : lv_has ls 2 [(0, .int a0), (1, .int a1)]) : W p l e ({ frames := 0, cells := 0, slots := 0, locals := 0 } : Room) s m args below meth c H locs 0 0 (ZI below args s (dC, dI) 81 ad (celC ad cA) Q) (F0 m 0 ls []) := by
  obtain ⟨hx, hb, hml, hown, hts, hr, hlocks⟩ := C0
  have hD := wd_D (s := s) (cel := celC ad cA) (σ := s0) hi
  unfold B_X10_constableGets_e at hv
  refine lv_iload_n hx hb dX10_constableGets_0 rfl (lv_at hl 0 rfl) ?_
  refine lv_iload_n hx hb dX10_constableGets_1 rfl (lv_at hl 1 rfl) ?_
  refine lv_icmp_ne (tgt := 9) hx hb dX10_constableGets_2 (by decide) (fun c2 => ?_) (fun c2 => ?_)
  · have hv := hv.1 c2
    refine lv_iconst (v := 0) hx hb dX10_constableGets_9 (by decide) ?_
    refine lv_iload_n hx hb dX10_constableGets_10 rfl (lv_at hl 1 rfl) ?_
    refine lv_iconst (v := 3) hx hb dX10_constableGets_11 (by decide) ?_
    refine lv_idiv hx hb dX10_constableGets_12 (by decide) ?_
    refine lv_isub hx hb dX10_constableGets_13 ?_
    exact r_iret hx hb hr hlocks hv hP hS dX10_constableGets_14
  · have hv := hv.2 c2
    refine lv_iconst (v := 3) hx hb dX10_constableGets_5 (by decide) ?_
    refine lv_goto (tgt := 10) hx hb dX10_constableGets_6 (by decide) ?_
    refine lv_iload_n hx hb dX10_constableGets_10 rfl (lv_at hl 1 rfl) ?_
    refine lv_iconst (v := 3) hx hb dX10_constableGets_11 (by decide) ?_
    refine lv_idiv hx hb dX10_constableGets_12 (by decide) ?_
    refine lv_isub hx hb dX10_constableGets_13 ?_
    exact r_iret hx hb hr hlocks hv hP hS dX10_constableGets_14
set_option maxHeartbeats 4000000 in
theorem y_X10_constableGets {p : Program} {l : Launch} {e : Env} {s : State} {m : MethodId} {args : Array Value} {below : List Frame} {meth : Method} {c : Code} {dC : Nat → ClassId} {dI : Nat → Nat → Nat} {ad : Nat → Nat} {cA cZ : ClassId} (hi : Inj 81 ad) (a0 : Int32) (a1 : Int32)  (C0 : Cx cX10_constableGets RX10 wsX10_constableGets 2 (some .int) p s m args meth c) (hK : KK dC dI cA cZ s) (Q : Int32 → St → Prop) : ∀ P xs ys σ, R_X10_constableGets a0 a1 Q P xs ys σ → XX p l e ({ frames := 0, cells := 0, slots := 0, locals := 0 } : Room) s m args below meth c (dC, dI) 81 ad (celC ad cA) 2 (ZI below args s (dC, dI) 81 ad (celC ad cA) Q) (lay_X10_constableGets ad a0 a1) P xs ys σ := by
  refine Fx.elim _ (fun P xs ys σ Y hY hB => ?_)
  exact hB.elim
set_option maxHeartbeats 4000000 in
theorem c_X10_constableGets {l : Launch} {dC : Nat → ClassId} {dI : Nat → Nat → Nat} {ad : Nat → Nat} {cA cZ : ClassId} (hi : Inj 81 ad) (a0 : Int32) (a1 : Int32)  (s0 : St) (Q : Int32 → St → Prop) (hv : V_X10_constableGets a0 a1 s0 Q) (sz : Nat) : Met l yX10_constableGets wsX10_constableGets ({ frames := 0, cells := 0, slots := 0, locals := 0 } : Room) (va_Pc [.int a0, .int a1] (PW dC dI ad cA cZ 81 (celC ad cA) sz s0)) (va_Qi Q (fun u t => va_P (dC, dI) vwCl (wd 81 ad (celC ad cA) u) t.heap) (AA 81 ad sz)) 0 0 (AA 81 ad sz) := by
  refine Met.ofW (cc := cX10_constableGets) (maxL := 2) (ret := (some .int)) (by decide) rfl ?_
  intro p e s m args below meth c s₁ B hml hv0
  obtain ⟨rfl, hsz, hP, hK⟩ := hv0
  subst hsz
  have C0 : Cx cX10_constableGets RX10 wsX10_constableGets 2 (some .int) p s m ([.int a0, .int a1] : List Value).toArray meth c := ⟨B.exec, B.bytes, hml, findClass_of_methodNamed B.named, atoms_spec (ws := wsX10_constableGets) B.pre, B.returns, B.notSynchronized⟩
  have hl := lv_entry ([.int a0, .int a1]) (n := 2) (Nat.le_of_ble_eq_true rfl)
  rw [lg_entry_eq]
  generalize (lg_sl ([.int a0, .int a1]) ++ List.replicate (2 - (lg_sl ([.int a0, .int a1])).length) Slot.unset).toArray = ls at hl ⊢
  have hl : lv_has ls 2 [(0, .int a0), (1, .int a1)] := hl
  exact w_X10_constableGets_e hi a0 a1  C0 hK Q (R_X10_constableGets a0 a1 Q) (y_X10_constableGets hi a0 a1  C0 hK Q)  s0 hv hP va_S.rf hl
def lay_X10_rests (ad : Nat → Nat) (a0 : Int32) (a1 : Int32) (a2 : Int32) : Nat → List Int32 → List Int64 → Option (List (Nat × Value) × List Value) := fun P xs ys => match P, xs, ys with
  | 2, [x3], [] => some ([(0, .int a0), (1, .int a1), (2, .int a2), (3, .int x3)], [])
  | _, _, _ => none
set_option maxHeartbeats 4000000 in
set_option maxRecDepth 100000 in
theorem w_X10_rests_e {p : Program} {l : Launch} {e : Env} {s : State} {m : MethodId} {args : Array Value} {below : List Frame} {meth : Method} {c : Code} {dC : Nat → ClassId} {dI : Nat → Nat → Nat} {ad : Nat → Nat} {cA cZ : ClassId} (hi : Inj 81 ad) (a0 : Int32) (a1 : Int32) (a2 : Int32)  (C0 : Cx cX10_rests RX10 wsX10_rests 4 (some .boolean) p s m args meth c) (hK : KK dC dI cA cZ s) (Q : Int32 → St → Prop) (Y : Nat → List Int32 → List Int64 → St → Prop) (hY : ∀ P xs ys σ, Y P xs ys σ → XX p l e ({ frames := 1, cells := 0, slots := 0, locals := 23 } : Room) s m args below meth c (dC, dI) 81 ad (celC ad cA) 4 (ZZ below args s (dC, dI) 81 ad (celC ad cA) Q) (lay_X10_rests ad a0 a1 a2) P xs ys σ)  (s0 : St) (hv : B_X10_rests_e a0 a1 a2 Q Y  s0) {H : Heap} {locs : List Loc} {ls : Array Slot} (hP : va_P (dC, dI) vwCl (wd 81 ad (celC ad cA) s0) H) (hS : va_S (AA 81 ad s.heap.size) s.heap H locs) (hl : lv_has ls 4 [(0, .int a0), (1, .int a1), (2, .int a2)]) : W p l e ({ frames := 1, cells := 0, slots := 0, locals := 23 } : Room) s m args below meth c H locs 0 0 (ZZ below args s (dC, dI) 81 ad (celC ad cA) Q) (F0 m 0 ls []) := by
  obtain ⟨hx, hb, hml, hown, hts, hr, hlocks⟩ := C0
  have hD := wd_D (s := s) (cel := celC ad cA) (σ := s0) hi
  unfold B_X10_rests_e at hv
  refine lv_iconst (v := 0) hx hb dX10_rests_0 (by decide) ?_
  refine lv_istore_n (lv' := [(3, .int 0), (0, .int a0), (1, .int a1), (2, .int a2)]) hx hb dX10_rests_1 rfl hl (by decide) rfl (fun ls hl => ?_)
  exact hY 2 [0] [] s0 hv _ _ rfl H locs ls hP hS (lv_sub hl [1, 2, 3, 0] rfl)
set_option maxHeartbeats 4000000 in
set_option maxRecDepth 100000 in
theorem w_X10_rests_2 {p : Program} {l : Launch} {e : Env} {s : State} {m : MethodId} {args : Array Value} {below : List Frame} {meth : Method} {c : Code} {dC : Nat → ClassId} {dI : Nat → Nat → Nat} {ad : Nat → Nat} {cA cZ : ClassId} (hi : Inj 81 ad) (a0 : Int32) (a1 : Int32) (a2 : Int32)  (C0 : Cx cX10_rests RX10 wsX10_rests 4 (some .boolean) p s m args meth c) (hK : KK dC dI cA cZ s) (Q : Int32 → St → Prop) (Y : Nat → List Int32 → List Int64 → St → Prop) (hY : ∀ P xs ys σ, Y P xs ys σ → XX p l e ({ frames := 1, cells := 0, slots := 0, locals := 23 } : Room) s m args below meth c (dC, dI) 81 ad (celC ad cA) 4 (ZZ below args s (dC, dI) 81 ad (celC ad cA) Q) (lay_X10_rests ad a0 a1 a2) P xs ys σ) (x3 : Int32) (s0 : St) (hv : B_X10_rests_2 a0 a1 a2 Q Y x3 s0) {H : Heap} {locs : List Loc} {ls : Array Slot} (hP : va_P (dC, dI) vwCl (wd 81 ad (celC ad cA) s0) H) (hS : va_S (AA 81 ad s.heap.size) s.heap H locs) (hl : lv_has ls 4 [(0, .int a0), (1, .int a1), (2, .int a2), (3, .int x3)]) : W p l e ({ frames := 1, cells := 0, slots := 0, locals := 23 } : Room) s m args below meth c H locs 0 0 (ZZ below args s (dC, dI) 81 ad (celC ad cA) Q) (F0 m 2 ls []) := by
  obtain ⟨hx, hb, hml, hown, hts, hr, hlocks⟩ := C0
  have hD := wd_D (s := s) (cel := celC ad cA) (σ := s0) hi
  unfold B_X10_rests_2 at hv
  refine lv_iload_n hx hb dX10_rests_2 rfl (lv_at hl 3 rfl) ?_
  refine lv_bipush (v := 10) hx hb dX10_rests_3 (by decide) ?_
  refine lv_icmp_ge (tgt := 44) hx hb dX10_rests_5 (by decide) (fun c5 => ?_) (fun c5 => ?_)
  · have hv := hv.1 c5
    refine lv_iconst (v := 1) hx hb dX10_rests_44 (by decide) ?_
    exact r_zret hx hb hr hlocks (Or.inr rfl) hv hP hS dX10_rests_45
  · have hv := hv.2 c5
    refine lv_iload_n hx hb dX10_rests_8 rfl (lv_at hl 3 rfl) ?_
    refine lv_iload_n hx hb dX10_rests_9 rfl (lv_at hl 1 rfl) ?_
    refine lv_iload_n hx hb dX10_rests_10 rfl (lv_at hl 2 rfl) ?_
    refine r_ci (va_runS (As := [.int x3, .int a1, .int a2]) (rest := []) ⟨hx, hb, hml, hown, hts⟩ (c_X10_ladyGets hi x3 a1 a2 s0 _ hv H.size) (va_cwS 3 hts gX10_rests_X10_ladyGets rfl rfl rfl (by decide +kernel) ⟨Nat.le_of_ble_eq_true rfl, Nat.le_of_ble_eq_true rfl⟩) ⟨pre_blind, pre_of hP hK⟩ rfl rfl hl.1 rfl (lv_room (Nat.le_of_ble_eq_true rfl)) dX10_rests_11 ⟨Nat.zero_le _, Nat.zero_le _⟩) hS (fun r1 s1 H locs hv hP hS => ?_)
    have hD := wd_D (s := s) (cel := celC ad cA) (σ := s1) hi
    refine lv_iload_n hx hb dX10_rests_14 rfl (lv_at hl 0 rfl) ?_
    refine lv_iload_n hx hb dX10_rests_15 rfl (lv_at hl 1 rfl) ?_
    refine lv_iload_n hx hb dX10_rests_16 rfl (lv_at hl 2 rfl) ?_
    refine r_ci (va_runS (As := [.int a0, .int a1, .int a2]) (rest := [.int r1]) ⟨hx, hb, hml, hown, hts⟩ (c_X10_ladyGets hi a0 a1 a2 s1 _ hv H.size) (va_cwS 3 hts gX10_rests_X10_ladyGets rfl rfl rfl (by decide +kernel) ⟨Nat.le_of_ble_eq_true rfl, Nat.le_of_ble_eq_true rfl⟩) ⟨pre_blind, pre_of hP hK⟩ rfl rfl hl.1 rfl (lv_room (Nat.le_of_ble_eq_true rfl)) dX10_rests_17 ⟨Nat.zero_le _, Nat.zero_le _⟩) hS (fun r2 s2 H locs hv hP hS => ?_)
    have hD := wd_D (s := s) (cel := celC ad cA) (σ := s2) hi
    refine lv_icmp_gt (tgt := 36) hx hb dX10_rests_20 (by decide) (fun c20 => ?_) (fun c20 => ?_)
    · have hv := hv.1 c20
      refine lv_iconst (v := 0) hx hb dX10_rests_36 (by decide) ?_
      exact r_zret hx hb hr hlocks (Or.inl rfl) hv hP hS dX10_rests_37
    · have hv := hv.2 c20
      refine lv_iload_n hx hb dX10_rests_23 rfl (lv_at hl 0 rfl) ?_
      refine lv_iload_n hx hb dX10_rests_24 rfl (lv_at hl 3 rfl) ?_
      refine r_ci (va_runS (As := [.int a0, .int x3]) (rest := []) ⟨hx, hb, hml, hown, hts⟩ (c_X10_constableGets hi a0 x3 s2 _ hv H.size) (va_cwS 2 hts gX10_rests_X10_constableGets rfl rfl rfl (by decide +kernel) ⟨Nat.le_of_ble_eq_true rfl, Nat.le_of_ble_eq_true rfl⟩) ⟨pre_blind, pre_of hP hK⟩ rfl rfl hl.1 rfl (lv_room (Nat.le_of_ble_eq_true rfl)) dX10_rests_25 ⟨Nat.zero_le _, Nat.zero_le _⟩) hS (fun r3 s3 H locs hv hP hS => ?_)
      have hD := wd_D (s := s) (cel := celC ad cA) (σ := s3) hi
      refine lv_iload_n hx hb dX10_rests_28 rfl (lv_at hl 0 rfl) ?_
      refine lv_iload_n hx hb dX10_rests_29 rfl (lv_at hl 1 rfl) ?_
      refine r_ci (va_runS (As := [.int a0, .int a1]) (rest := [.int r3]) ⟨hx, hb, hml, hown, hts⟩ (c_X10_constableGets hi a0 a1 s3 _ hv H.size) (va_cwS 2 hts gX10_rests_X10_constableGets rfl rfl rfl (by decide +kernel) ⟨Nat.le_of_ble_eq_true rfl, Nat.le_of_ble_eq_true rfl⟩) ⟨pre_blind, pre_of hP hK⟩ rfl rfl hl.1 rfl (lv_room (Nat.le_of_ble_eq_true rfl)) dX10_rests_30 ⟨Nat.zero_le _, Nat.zero_le _⟩) hS (fun r4 s4 H locs hv hP hS => ?_)
      have hD := wd_D (s := s) (cel := celC ad cA) (σ := s4) hi
      refine lv_icmp_le (tgt := 38) hx hb dX10_rests_33 (by decide) (fun c33 => ?_) (fun c33 => ?_)
      · have hv := hv.1 c33
        refine lv_iinc (v := x3 + 1) (lv' := [(3, .int (x3 + 1)), (0, .int a0), (1, .int a1), (2, .int a2)]) hx hb dX10_rests_38 hl (k := 3) rfl rfl (by decide) rfl (fun ls hl => ?_)
        refine lv_goto (tgt := 2) hx hb dX10_rests_41 (by decide) ?_
        exact hY 2 [x3 + 1] [] s4 hv _ _ rfl H locs ls hP hS (lv_sub hl [1, 2, 3, 0] rfl)
      · have hv := hv.2 c33
        refine lv_iconst (v := 0) hx hb dX10_rests_36 (by decide) ?_
        exact r_zret hx hb hr hlocks (Or.inl rfl) hv hP hS dX10_rests_37
set_option maxHeartbeats 4000000 in
theorem y_X10_rests {p : Program} {l : Launch} {e : Env} {s : State} {m : MethodId} {args : Array Value} {below : List Frame} {meth : Method} {c : Code} {dC : Nat → ClassId} {dI : Nat → Nat → Nat} {ad : Nat → Nat} {cA cZ : ClassId} (hi : Inj 81 ad) (a0 : Int32) (a1 : Int32) (a2 : Int32)  (C0 : Cx cX10_rests RX10 wsX10_rests 4 (some .boolean) p s m args meth c) (hK : KK dC dI cA cZ s) (Q : Int32 → St → Prop) : ∀ P xs ys σ, R_X10_rests a0 a1 a2 Q P xs ys σ → XX p l e ({ frames := 1, cells := 0, slots := 0, locals := 23 } : Room) s m args below meth c (dC, dI) 81 ad (celC ad cA) 4 (ZZ below args s (dC, dI) 81 ad (celC ad cA) Q) (lay_X10_rests ad a0 a1 a2) P xs ys σ := by
  refine Fx.elim _ (fun P xs ys σ Y hY hB => ?_)
  rcases hB with ⟨rfl, x3, rfl, rfl, hB⟩
  · intro lv st he H locs ls hP hS hl
    cases he
    exact w_X10_rests_2 hi a0 a1 a2  C0 hK Q Y hY x3 σ hB hP hS hl
set_option maxHeartbeats 4000000 in
theorem c_X10_rests {l : Launch} {dC : Nat → ClassId} {dI : Nat → Nat → Nat} {ad : Nat → Nat} {cA cZ : ClassId} (hi : Inj 81 ad) (a0 : Int32) (a1 : Int32) (a2 : Int32)  (s0 : St) (Q : Int32 → St → Prop) (hv : V_X10_rests a0 a1 a2 s0 Q) (sz : Nat) : Met l yX10_rests wsX10_rests ({ frames := 1, cells := 0, slots := 0, locals := 23 } : Room) (va_Pc [.int a0, .int a1, .int a2] (PW dC dI ad cA cZ 81 (celC ad cA) sz s0)) (va_Qi (fun r u => (r = 0 ∨ r = 1) ∧ Q r u) (fun u t => va_P (dC, dI) vwCl (wd 81 ad (celC ad cA) u) t.heap) (AA 81 ad sz)) 0 0 (AA 81 ad sz) := by
  refine Met.ofW (cc := cX10_rests) (maxL := 4) (ret := (some .boolean)) (by decide) rfl ?_
  intro p e s m args below meth c s₁ B hml hv0
  obtain ⟨rfl, hsz, hP, hK⟩ := hv0
  subst hsz
  have C0 : Cx cX10_rests RX10 wsX10_rests 4 (some .boolean) p s m ([.int a0, .int a1, .int a2] : List Value).toArray meth c := ⟨B.exec, B.bytes, hml, findClass_of_methodNamed B.named, atoms_spec (ws := wsX10_rests) B.pre, B.returns, B.notSynchronized⟩
  have hl := lv_entry ([.int a0, .int a1, .int a2]) (n := 4) (Nat.le_of_ble_eq_true rfl)
  rw [lg_entry_eq]
  generalize (lg_sl ([.int a0, .int a1, .int a2]) ++ List.replicate (4 - (lg_sl ([.int a0, .int a1, .int a2])).length) Slot.unset).toArray = ls at hl ⊢
  have hl : lv_has ls 4 [(0, .int a0), (1, .int a1), (2, .int a2)] := hl
  exact w_X10_rests_e hi a0 a1 a2  C0 hK Q (R_X10_rests a0 a1 a2 Q) (y_X10_rests hi a0 a1 a2  C0 hK Q)  s0 hv hP va_S.rf hl
def lay_X10_lady (ad : Nat → Nat) (a1 : Int32) (a2 : Int32) : Nat → List Int32 → List Int64 → Option (List (Nat × Value) × List Value) := fun P xs ys => match P, xs, ys with
  | 40, [x3, x4, x5], [] => some ([(2, .int a2), (3, .int x3), (4, .int x4), (5, .int x5)], [])
  | _, _, _ => none
set_option maxHeartbeats 4000000 in
set_option maxRecDepth 100000 in
theorem w_X10_lady_e {p : Program} {l : Launch} {e : Env} {s : State} {m : MethodId} {args : Array Value} {below : List Frame} {meth : Method} {c : Code} {dC : Nat → ClassId} {dI : Nat → Nat → Nat} {ad : Nat → Nat} {cA cZ : ClassId} (hi : Inj 81 ad) (a1 : Int32) (a2 : Int32)  (C0 : Cx cX10_lady RX10 wsX10_lady 6 (some .int) p s m args meth c) (hK : KK dC dI cA cZ s) (Q : Int32 → St → Prop) (Y : Nat → List Int32 → List Int64 → St → Prop) (hY : ∀ P xs ys σ, Y P xs ys σ → XX p l e ({ frames := 4, cells := 0, slots := 0, locals := 93 } : Room) s m args below meth c (dC, dI) 81 ad (celC ad cA) 6 (ZI below args s (dC, dI) 81 ad (celC ad cA) Q) (lay_X10_lady ad a1 a2) P xs ys σ)  (s0 : St) (hv : B_X10_lady_e a1 a2 Q Y  s0) {H : Heap} {locs : List Loc} {ls : Array Slot} (hP : va_P (dC, dI) vwCl (wd 81 ad (celC ad cA) s0) H) (hS : va_S (AA 81 ad s.heap.size) s.heap H locs) (hl : lv_has ls 6 [(0, .ref (ad 0)), (1, .int a1), (2, .int a2)]) : W p l e ({ frames := 4, cells := 0, slots := 0, locals := 93 } : Room) s m args below meth c H locs 0 0 (ZI below args s (dC, dI) 81 ad (celC ad cA) Q) (F0 m 0 ls []) := by
  obtain ⟨hx, hb, hml, hown, hts, hr, hlocks⟩ := C0
  have hD := wd_D (s := s) (cel := celC ad cA) (σ := s0) hi
  unfold B_X10_lady_e at hv
  refine lv_aload_n hx hb dX10_lady_0 rfl (lv_at hl 0 rfl) ?_
  refine lv_iload_n hx hb dX10_lady_1 rfl (lv_at hl 1 rfl) ?_
  refine r_ci (va_runV (As := [.int a1]) (rest := []) ⟨hx, hb, hml, hown, hts⟩ (c_X10_isGlove hi a1 s0 _ hv H.size) (cwV 1 hts gX10_lady_X10_isGlove rfl rfl rfl (by decide +kernel) ⟨Nat.le_of_ble_eq_true rfl, Nat.le_of_ble_eq_true rfl⟩) ⟨pre_blind, r_recv hK.1 hP 0 (by decide) (ceGR_0 (s0 0)) rfl, pre_of hP hK⟩ rfl rfl hl.1 rfl (lv_room (Nat.le_of_ble_eq_true rfl)) dX10_lady_2 ⟨Nat.zero_le _, Nat.zero_le _⟩) hS (fun r1 s1 H locs hv hP hS => ?_)
  obtain ⟨hz_r1, hv⟩ := hv
  have hD := wd_D (s := s) (cel := celC ad cA) (σ := s1) hi
  refine lv_if_eq (tgt := 13) hx hb dX10_lady_5 (by decide) (fun c5 => ?_) (fun c5 => ?_)
  · have hv := hv.1 c5
    refine lv_aload_n hx hb dX10_lady_13 rfl (lv_at hl 0 rfl) ?_
    refine r_ci (va_runV (As := []) (rest := []) ⟨hx, hb, hml, hown, hts⟩ (c_X10_badAsTen hi  s1 _ hv H.size) (cwV 0 hts gX10_lady_X10_badAsTen rfl rfl rfl (by decide +kernel) ⟨Nat.le_of_ble_eq_true rfl, Nat.le_of_ble_eq_true rfl⟩) ⟨pre_blind, r_recv hK.1 hP 0 (by decide) (ceGR_0 (s1 0)) rfl, pre_of hP hK⟩ rfl rfl hl.1 rfl (lv_room (Nat.le_of_ble_eq_true rfl)) dX10_lady_14 ⟨Nat.zero_le _, Nat.zero_le _⟩) hS (fun r2 s2 H locs hv hP hS => ?_)
    have hD := wd_D (s := s) (cel := celC ad cA) (σ := s2) hi
    exact r_iret hx hb hr hlocks hv hP hS dX10_lady_17
  · have hv := hv.2 c5
    refine lv_iload_n hx hb dX10_lady_8 rfl (lv_at hl 2 rfl) ?_
    refine lv_iconst (v := (-1)) hx hb dX10_lady_9 (by decide) ?_
    refine lv_icmp_ge (tgt := 18) hx hb dX10_lady_10 (by decide) (fun c10 => ?_) (fun c10 => ?_)
    · have hv := hv.1 c10
      refine lv_aload_n hx hb dX10_lady_18 rfl (lv_at hl 0 rfl) ?_
      refine r_get hx hb hts (iwX10_lady_X10) hown hK.1 hP 0 (by decide) (ceGR_0 (s1 0)) rfl 3 (by decide) (hts _ kX10_lady_1) (v := .ref (ad 55)) rfl dX10_lady_19 ?_
      refine lv_aload_n hx hb dX10_lady_22 rfl (lv_at hl 0 rfl) ?_
      refine r_get hx hb hts (iwX10_lady_X10) hown hK.1 hP 0 (by decide) (ceGR_0 (s1 0)) rfl 0 (by decide) (hts _ kX10_lady_2) (v := .ref (ad 1)) rfl dX10_lady_23 ?_
      refine r_get hx hb hts (iwX10_lady_X7) hown hK.1 hP 1 (ltSc_0 vSc_1) (ceSc_0 vSc_1 (s1 1)) rfl 0 (by decide) (hts _ kX10_lady_3) (v := .ref (ad 2)) rfl dX10_lady_26 ?_
      refine lv_iload_n hx hb dX10_lady_29 rfl (lv_at hl 1 rfl) ?_
      refine r_ci (va_runV (As := [.ref (ad 2), .int a1]) (rest := []) ⟨hx, hb, hml, hown, hts⟩ (c_X0_visited hi 2 a1 (vSc1 vSc_1) s1 _ hv H.size) (cwV 2 hts gX10_lady_X0_visited rfl rfl rfl (by decide +kernel) ⟨Nat.le_of_ble_eq_true rfl, Nat.le_of_ble_eq_true rfl⟩) ⟨pre_blind, r_recv hK.1 hP 55 (by decide) (ceFo_0 (s1 55)) rfl, pre_of hP hK⟩ rfl rfl hl.1 rfl (lv_room (Nat.le_of_ble_eq_true rfl)) dX10_lady_30 ⟨Nat.zero_le _, Nat.zero_le _⟩) hS (fun r3 s3 H locs hv hP hS => ?_)
      have hD := wd_D (s := s) (cel := celC ad cA) (σ := s3) hi
      refine lv_istore_n (lv' := [(3, .int r3), (0, .ref (ad 0)), (1, .int a1), (2, .int a2)]) hx hb dX10_lady_33 rfl hl (by decide) rfl (fun ls hl => ?_)
      refine lv_iconst (v := 0) hx hb dX10_lady_34 (by decide) ?_
      refine lv_istore (lv' := [(4, .int 0), (3, .int r3), (0, .ref (ad 0)), (1, .int a1), (2, .int a2)]) hx hb dX10_lady_35 hl (by decide) rfl (fun ls hl => ?_)
      refine lv_iconst (v := 0) hx hb dX10_lady_37 (by decide) ?_
      refine lv_istore (lv' := [(5, .int 0), (4, .int 0), (3, .int r3), (0, .ref (ad 0)), (1, .int a1), (2, .int a2)]) hx hb dX10_lady_38 hl (by decide) rfl (fun ls hl => ?_)
      exact hY 40 [r3, 0, 0] [] s3 hv _ _ rfl H locs ls hP hS (lv_sub hl [5, 2, 1, 0] rfl)
    · have hv := hv.2 c10
      refine lv_aload_n hx hb dX10_lady_13 rfl (lv_at hl 0 rfl) ?_
      refine r_ci (va_runV (As := []) (rest := []) ⟨hx, hb, hml, hown, hts⟩ (c_X10_badAsTen hi  s1 _ hv H.size) (cwV 0 hts gX10_lady_X10_badAsTen rfl rfl rfl (by decide +kernel) ⟨Nat.le_of_ble_eq_true rfl, Nat.le_of_ble_eq_true rfl⟩) ⟨pre_blind, r_recv hK.1 hP 0 (by decide) (ceGR_0 (s1 0)) rfl, pre_of hP hK⟩ rfl rfl hl.1 rfl (lv_room (Nat.le_of_ble_eq_true rfl)) dX10_lady_14 ⟨Nat.zero_le _, Nat.zero_le _⟩) hS (fun r4 s4 H locs hv hP hS => ?_)
      have hD := wd_D (s := s) (cel := celC ad cA) (σ := s4) hi
      exact r_iret hx hb hr hlocks hv hP hS dX10_lady_17
set_option maxHeartbeats 4000000 in
set_option maxRecDepth 100000 in
theorem w_X10_lady_40 {p : Program} {l : Launch} {e : Env} {s : State} {m : MethodId} {args : Array Value} {below : List Frame} {meth : Method} {c : Code} {dC : Nat → ClassId} {dI : Nat → Nat → Nat} {ad : Nat → Nat} {cA cZ : ClassId} (hi : Inj 81 ad) (a1 : Int32) (a2 : Int32)  (C0 : Cx cX10_lady RX10 wsX10_lady 6 (some .int) p s m args meth c) (hK : KK dC dI cA cZ s) (Q : Int32 → St → Prop) (Y : Nat → List Int32 → List Int64 → St → Prop) (hY : ∀ P xs ys σ, Y P xs ys σ → XX p l e ({ frames := 4, cells := 0, slots := 0, locals := 93 } : Room) s m args below meth c (dC, dI) 81 ad (celC ad cA) 6 (ZI below args s (dC, dI) 81 ad (celC ad cA) Q) (lay_X10_lady ad a1 a2) P xs ys σ) (x3 : Int32) (x4 : Int32) (x5 : Int32) (s0 : St) (hv : B_X10_lady_40 a1 a2 Q Y x3 x4 x5 s0) {H : Heap} {locs : List Loc} {ls : Array Slot} (hP : va_P (dC, dI) vwCl (wd 81 ad (celC ad cA) s0) H) (hS : va_S (AA 81 ad s.heap.size) s.heap H locs) (hl : lv_has ls 6 [(2, .int a2), (3, .int x3), (4, .int x4), (5, .int x5)]) : W p l e ({ frames := 4, cells := 0, slots := 0, locals := 93 } : Room) s m args below meth c H locs 0 0 (ZI below args s (dC, dI) 81 ad (celC ad cA) Q) (F0 m 40 ls []) := by
  obtain ⟨hx, hb, hml, hown, hts, hr, hlocks⟩ := C0
  have hD := wd_D (s := s) (cel := celC ad cA) (σ := s0) hi
  unfold B_X10_lady_40 at hv
  refine lv_iload hx hb dX10_lady_40 (lv_at hl 3 rfl) ?_
  refine lv_bipush (v := 100) hx hb dX10_lady_42 (by decide) ?_
  refine lv_icmp_ge (tgt := 82) hx hb dX10_lady_44 (by decide) (fun c44 => ?_) (fun c44 => ?_)
  · have hv := hv.1 c44
    refine lv_iload_n hx hb dX10_lady_82 rfl (lv_at hl 0 rfl) ?_
    refine lv_iconst (v := (-1)) hx hb dX10_lady_83 (by decide) ?_
    refine lv_icmp_ne (tgt := 92) hx hb dX10_lady_84 (by decide) (fun c84 => ?_) (fun c84 => ?_)
    · have hv := hv.1 c84
      refine lv_bipush (v := (-5)) hx hb dX10_lady_92 (by decide) ?_
      exact r_iret hx hb hr hlocks hv hP hS dX10_lady_94
    · have hv := hv.2 c84
      refine lv_iload hx hb dX10_lady_87 (lv_at hl 2 rfl) ?_
      refine lv_goto (tgt := 94) hx hb dX10_lady_89 (by decide) ?_
      exact r_iret hx hb hr hlocks hv hP hS dX10_lady_94
  · have hv := hv.2 c44
    refine lv_iload hx hb dX10_lady_47 (lv_at hl 3 rfl) ?_
    refine lv_bipush (v := 10) hx hb dX10_lady_49 (by decide) ?_
    refine lv_idiv hx hb dX10_lady_51 (by decide) ?_
    refine lv_iload hx hb dX10_lady_52 (lv_at hl 3 rfl) ?_
    refine lv_bipush (v := 10) hx hb dX10_lady_54 (by decide) ?_
    refine lv_irem hx hb dX10_lady_56 (by decide) ?_
    refine lv_iload_n hx hb dX10_lady_57 rfl (lv_at hl 1 rfl) ?_
    refine r_ci (va_runS (As := [.int (x5 / 10), .int (x5 - x5 / 10 * 10), .int x3]) (rest := []) ⟨hx, hb, hml, hown, hts⟩ (c_X10_rests hi (x5 / 10) (x5 - x5 / 10 * 10) x3 s0 _ hv H.size) (va_cwS 3 hts gX10_lady_X10_rests rfl rfl rfl (by decide +kernel) ⟨Nat.le_of_ble_eq_true rfl, Nat.le_of_ble_eq_true rfl⟩) ⟨pre_blind, pre_of hP hK⟩ rfl rfl hl.1 rfl (lv_room (Nat.le_of_ble_eq_true rfl)) dX10_lady_58 ⟨Nat.zero_le _, Nat.zero_le _⟩) hS (fun r1 s1 H locs hv hP hS => ?_)
    obtain ⟨hz_r1, hv⟩ := hv
    have hD := wd_D (s := s) (cel := celC ad cA) (σ := s1) hi
    refine lv_if_eq (tgt := 76) hx hb dX10_lady_61 (by decide) (fun c61 => ?_) (fun c61 => ?_)
    · have hv := hv.1 c61
      refine lv_iinc (v := x5 + 1) (lv' := [(5, .int (x5 + 1)), (2, .int a2), (3, .int x3), (4, .int x4)]) hx hb dX10_lady_76 hl (k := 3) rfl rfl (by decide) rfl (fun ls hl => ?_)
      refine lv_goto (tgt := 40) hx hb dX10_lady_79 (by decide) ?_
      exact hY 40 [x3, x4, x5 + 1] [] s1 hv _ _ rfl H locs ls hP hS (lv_sub hl [1, 2, 3, 0] rfl)
    · have hv := hv.2 c61
      refine lv_iload hx hb dX10_lady_64 (lv_at hl 2 rfl) ?_
      refine lv_iload_n hx hb dX10_lady_66 rfl (lv_at hl 0 rfl) ?_
      refine lv_icmp_ne (tgt := 73) hx hb dX10_lady_67 (by decide) (fun c67 => ?_) (fun c67 => ?_)
      · have hv := hv.1 c67
        refine lv_iinc (v := x4 + 1) (lv' := [(4, .int (x4 + 1)), (2, .int a2), (3, .int x3), (5, .int x5)]) hx hb dX10_lady_73 hl (k := 2) rfl rfl (by decide) rfl (fun ls hl => ?_)
        refine lv_iinc (v := x5 + 1) (lv' := [(5, .int (x5 + 1)), (4, .int (x4 + 1)), (2, .int a2), (3, .int x3)]) hx hb dX10_lady_76 hl (k := 3) rfl rfl (by decide) rfl (fun ls hl => ?_)
        refine lv_goto (tgt := 40) hx hb dX10_lady_79 (by decide) ?_
        exact hY 40 [x3, x4 + 1, x5 + 1] [] s1 hv _ _ rfl H locs ls hP hS (lv_sub hl [2, 3, 1, 0] rfl)
      · have hv := hv.2 c67
        refine lv_iload hx hb dX10_lady_70 (lv_at hl 3 rfl) ?_
        exact r_iret hx hb hr hlocks hv hP hS dX10_lady_72
set_option maxHeartbeats 4000000 in
theorem y_X10_lady {p : Program} {l : Launch} {e : Env} {s : State} {m : MethodId} {args : Array Value} {below : List Frame} {meth : Method} {c : Code} {dC : Nat → ClassId} {dI : Nat → Nat → Nat} {ad : Nat → Nat} {cA cZ : ClassId} (hi : Inj 81 ad) (a1 : Int32) (a2 : Int32)  (C0 : Cx cX10_lady RX10 wsX10_lady 6 (some .int) p s m args meth c) (hK : KK dC dI cA cZ s) (Q : Int32 → St → Prop) : ∀ P xs ys σ, R_X10_lady a1 a2 Q P xs ys σ → XX p l e ({ frames := 4, cells := 0, slots := 0, locals := 93 } : Room) s m args below meth c (dC, dI) 81 ad (celC ad cA) 6 (ZI below args s (dC, dI) 81 ad (celC ad cA) Q) (lay_X10_lady ad a1 a2) P xs ys σ := by
  refine Fx.elim _ (fun P xs ys σ Y hY hB => ?_)
  rcases hB with ⟨rfl, x3, x4, x5, rfl, rfl, hB⟩
  · intro lv st he H locs ls hP hS hl
    cases he
    exact w_X10_lady_40 hi a1 a2  C0 hK Q Y hY x3 x4 x5 σ hB hP hS hl
set_option maxHeartbeats 4000000 in
theorem c_X10_lady {l : Launch} {dC : Nat → ClassId} {dI : Nat → Nat → Nat} {ad : Nat → Nat} {cA cZ : ClassId} (hi : Inj 81 ad) (a1 : Int32) (a2 : Int32)  (s0 : St) (Q : Int32 → St → Prop) (hv : V_X10_lady a1 a2 s0 Q) (sz : Nat) : Met l yX10_lady wsX10_lady ({ frames := 4, cells := 0, slots := 0, locals := 93 } : Room) (va_Pc [.ref (ad 0), .int a1, .int a2] (PW dC dI ad cA cZ 81 (celC ad cA) sz s0)) (va_Qi Q (fun u t => va_P (dC, dI) vwCl (wd 81 ad (celC ad cA) u) t.heap) (AA 81 ad sz)) 0 0 (AA 81 ad sz) := by
  refine Met.ofW (cc := cX10_lady) (maxL := 6) (ret := (some .int)) (by decide) rfl ?_
  intro p e s m args below meth c s₁ B hml hv0
  obtain ⟨rfl, hsz, hP, hK⟩ := hv0
  subst hsz
  have C0 : Cx cX10_lady RX10 wsX10_lady 6 (some .int) p s m ([.ref (ad 0), .int a1, .int a2] : List Value).toArray meth c := ⟨B.exec, B.bytes, hml, findClass_of_methodNamed B.named, atoms_spec (ws := wsX10_lady) B.pre, B.returns, B.notSynchronized⟩
  have hl := lv_entry ([.ref (ad 0), .int a1, .int a2]) (n := 6) (Nat.le_of_ble_eq_true rfl)
  rw [lg_entry_eq]
  generalize (lg_sl ([.ref (ad 0), .int a1, .int a2]) ++ List.replicate (6 - (lg_sl ([.ref (ad 0), .int a1, .int a2])).length) Slot.unset).toArray = ls at hl ⊢
  have hl : lv_has ls 6 [(0, .ref (ad 0)), (1, .int a1), (2, .int a2)] := hl
  exact w_X10_lady_e hi a1 a2  C0 hK Q (R_X10_lady a1 a2 Q) (y_X10_lady hi a1 a2  C0 hK Q)  s0 hv hP va_S.rf hl
def lay_X8_goneInAll (ad : Nat → Nat) (h0 : Nat) (a1 : Int32) : Nat → List Int32 → List Int64 → Option (List (Nat × Value) × List Value) := fun P xs ys => match P, xs, ys with
  | 4, [x2, x3], [] => some ([(0, .ref (ad h0)), (1, .int a1), (2, .int x2), (3, .int x3)], [])
  | _, _, _ => none
set_option maxHeartbeats 4000000 in
set_option maxRecDepth 100000 in
theorem w_X8_goneInAll_e {p : Program} {l : Launch} {e : Env} {s : State} {m : MethodId} {args : Array Value} {below : List Frame} {meth : Method} {c : Code} {dC : Nat → ClassId} {dI : Nat → Nat → Nat} {ad : Nat → Nat} {cA cZ : ClassId} (hi : Inj 81 ad) (h0 : Nat) (a1 : Int32) (hh0 : isSt h0) (C0 : Cx cX8_goneInAll RX8 wsX8_goneInAll 4 (some .int) p s m args meth c) (hK : KK dC dI cA cZ s) (Q : Int32 → St → Prop) (Y : Nat → List Int32 → List Int64 → St → Prop) (hY : ∀ P xs ys σ, Y P xs ys σ → XX p l e ({ frames := 1, cells := 0, slots := 0, locals := 25 } : Room) s m args below meth c (dC, dI) 81 ad (celC ad cA) 4 (ZI below args s (dC, dI) 81 ad (celC ad cA) Q) (lay_X8_goneInAll ad h0 a1) P xs ys σ)  (s0 : St) (hv : B_X8_goneInAll_e h0 a1 Q Y  s0) {H : Heap} {locs : List Loc} {ls : Array Slot} (hP : va_P (dC, dI) vwCl (wd 81 ad (celC ad cA) s0) H) (hS : va_S (AA 81 ad s.heap.size) s.heap H locs) (hl : lv_has ls 4 [(0, .ref (ad h0)), (1, .int a1)]) : W p l e ({ frames := 1, cells := 0, slots := 0, locals := 25 } : Room) s m args below meth c H locs 0 0 (ZI below args s (dC, dI) 81 ad (celC ad cA) Q) (F0 m 0 ls []) := by
  obtain ⟨hx, hb, hml, hown, hts, hr, hlocks⟩ := C0
  have hD := wd_D (s := s) (cel := celC ad cA) (σ := s0) hi
  unfold B_X8_goneInAll_e at hv
  refine lv_iconst (v := 0) hx hb dX8_goneInAll_0 (by decide) ?_
  refine lv_istore_n (lv' := [(2, .int 0), (0, .ref (ad h0)), (1, .int a1)]) hx hb dX8_goneInAll_1 rfl hl (by decide) rfl (fun ls hl => ?_)
  refine lv_iconst (v := 0) hx hb dX8_goneInAll_2 (by decide) ?_
  refine lv_istore_n (lv' := [(3, .int 0), (2, .int 0), (0, .ref (ad h0)), (1, .int a1)]) hx hb dX8_goneInAll_3 rfl hl (by decide) rfl (fun ls hl => ?_)
  exact hY 4 [0, 0] [] s0 hv _ _ rfl H locs ls hP hS (lv_sub hl [2, 3, 1, 0] rfl)
set_option maxHeartbeats 4000000 in
set_option maxRecDepth 100000 in
theorem w_X8_goneInAll_4 {p : Program} {l : Launch} {e : Env} {s : State} {m : MethodId} {args : Array Value} {below : List Frame} {meth : Method} {c : Code} {dC : Nat → ClassId} {dI : Nat → Nat → Nat} {ad : Nat → Nat} {cA cZ : ClassId} (hi : Inj 81 ad) (h0 : Nat) (a1 : Int32) (hh0 : isSt h0) (C0 : Cx cX8_goneInAll RX8 wsX8_goneInAll 4 (some .int) p s m args meth c) (hK : KK dC dI cA cZ s) (Q : Int32 → St → Prop) (Y : Nat → List Int32 → List Int64 → St → Prop) (hY : ∀ P xs ys σ, Y P xs ys σ → XX p l e ({ frames := 1, cells := 0, slots := 0, locals := 25 } : Room) s m args below meth c (dC, dI) 81 ad (celC ad cA) 4 (ZI below args s (dC, dI) 81 ad (celC ad cA) Q) (lay_X8_goneInAll ad h0 a1) P xs ys σ) (x2 : Int32) (x3 : Int32) (s0 : St) (hv : B_X8_goneInAll_4 h0 a1 Q Y x2 x3 s0) {H : Heap} {locs : List Loc} {ls : Array Slot} (hP : va_P (dC, dI) vwCl (wd 81 ad (celC ad cA) s0) H) (hS : va_S (AA 81 ad s.heap.size) s.heap H locs) (hl : lv_has ls 4 [(0, .ref (ad h0)), (1, .int a1), (2, .int x2), (3, .int x3)]) : W p l e ({ frames := 1, cells := 0, slots := 0, locals := 25 } : Room) s m args below meth c H locs 0 0 (ZI below args s (dC, dI) 81 ad (celC ad cA) Q) (F0 m 4 ls []) := by
  obtain ⟨hx, hb, hml, hown, hts, hr, hlocks⟩ := C0
  have hD := wd_D (s := s) (cel := celC ad cA) (σ := s0) hi
  unfold B_X8_goneInAll_4 at hv
  refine lv_iload_n hx hb dX8_goneInAll_4 rfl (lv_at hl 3 rfl) ?_
  refine lv_aload_n hx hb dX8_goneInAll_5 rfl (lv_at hl 0 rfl) ?_
  refine r_get hx hb hts (iwX8_goneInAll_X8) hown hK.1 hP h0 (ltSt_0 hh0) (ceSt_0 hh0 (s0 h0)) rfl 8 (by decide) (hts _ kX8_goneInAll_1) (v := .int (s0 h0 8)) rfl dX8_goneInAll_6 ?_
  refine lv_icmp_ge (tgt := 43) hx hb dX8_goneInAll_9 (by decide) (fun c9 => ?_) (fun c9 => ?_)
  · have hv := hv.1 c9
    refine lv_iload_n hx hb dX8_goneInAll_43 rfl (lv_at hl 2 rfl) ?_
    exact r_iret hx hb hr hlocks hv hP hS dX8_goneInAll_44
  · have hv := hv.2 c9
    refine lv_aload_n hx hb dX8_goneInAll_12 rfl (lv_at hl 0 rfl) ?_
    refine lv_iload_n hx hb dX8_goneInAll_13 rfl (lv_at hl 3 rfl) ?_
    refine r_ci (va_runV (As := [.int x3]) (rest := []) ⟨hx, hb, hml, hown, hts⟩ (c_X8_waits hi h0 x3 hh0 s0 _ hv H.size) (cwV 1 hts gX8_goneInAll_X8_waits rfl rfl rfl (by decide +kernel) ⟨Nat.le_of_ble_eq_true rfl, Nat.le_of_ble_eq_true rfl⟩) ⟨pre_blind, r_recv hK.1 hP h0 (ltSt_0 hh0) (ceSt_0 hh0 (s0 h0)) rfl, pre_of hP hK⟩ rfl rfl hl.1 rfl (lv_room (Nat.le_of_ble_eq_true rfl)) dX8_goneInAll_14 ⟨Nat.zero_le _, Nat.zero_le _⟩) hS (fun r1 s1 H locs hv hP hS => ?_)
    obtain ⟨hz_r1, hv⟩ := hv
    have hD := wd_D (s := s) (cel := celC ad cA) (σ := s1) hi
    refine lv_if_ne (tgt := 37) hx hb dX8_goneInAll_17 (by decide) (fun c17 => ?_) (fun c17 => ?_)
    · have hv := hv.1 c17
      refine lv_iinc (v := x3 + 1) (lv' := [(3, .int (x3 + 1)), (0, .ref (ad h0)), (1, .int a1), (2, .int x2)]) hx hb dX8_goneInAll_37 hl (k := 3) rfl rfl (by decide) rfl (fun ls hl => ?_)
      refine lv_goto (tgt := 4) hx hb dX8_goneInAll_40 (by decide) ?_
      exact hY 4 [x2, x3 + 1] [] s1 hv _ _ rfl H locs ls hP hS (lv_sub hl [1, 2, 3, 0] rfl)
    · have hv := hv.2 c17
      refine lv_iload_n hx hb dX8_goneInAll_20 rfl (lv_at hl 2 rfl) ?_
      refine lv_aload_n hx hb dX8_goneInAll_21 rfl (lv_at hl 0 rfl) ?_
      refine r_get hx hb hts (iwX8_goneInAll_X8) hown hK.1 hP h0 (ltSt_0 hh0) (ceSt_0 hh0 (s1 h0)) rfl 1 (by decide) (hts _ kX8_goneInAll_2) (v := .ref (ad (h0 + 2))) rfl dX8_goneInAll_22 ?_
      refine lv_iload_n hx hb dX8_goneInAll_25 rfl (lv_at hl 3 rfl) ?_
      obtain ⟨hin, hv⟩ := hv
      refine r_iald hx hb hK.1 hP (h0 + 2) (ltSt_2 hh0) (ceSt_2 hh0 (s1 (h0 + 2))) hin dX8_goneInAll_26 ?_
      refine lv_aload_n hx hb dX8_goneInAll_27 rfl (lv_at hl 0 rfl) ?_
      refine r_get hx hb hts (iwX8_goneInAll_X8) hown hK.1 hP h0 (ltSt_0 hh0) (ceSt_0 hh0 (s1 h0)) rfl 11 (by decide) (hts _ kX8_goneInAll_3) (v := .int (s1 h0 11)) rfl dX8_goneInAll_28 ?_
      refine lv_iload_n hx hb dX8_goneInAll_31 rfl (lv_at hl 1 rfl) ?_
      refine r_ci (va_runS (As := [.int (s1 (h0 + 2) x3.toNatClampNeg), .int (s1 h0 11), .int a1]) (rest := [.int x2]) ⟨hx, hb, hml, hown, hts⟩ (c_X1_spikesGone hi (s1 (h0 + 2) x3.toNatClampNeg) (s1 h0 11) a1 s1 _ hv H.size) (va_cwS 3 hts gX8_goneInAll_X1_spikesGone rfl rfl rfl (by decide +kernel) ⟨Nat.le_of_ble_eq_true rfl, Nat.le_of_ble_eq_true rfl⟩) ⟨pre_blind, pre_of hP hK⟩ rfl rfl hl.1 rfl (lv_room (Nat.le_of_ble_eq_true rfl)) dX8_goneInAll_32 ⟨Nat.zero_le _, Nat.zero_le _⟩) hS (fun r2 s2 H locs hv hP hS => ?_)
      have hD := wd_D (s := s) (cel := celC ad cA) (σ := s2) hi
      refine lv_iadd hx hb dX8_goneInAll_35 ?_
      refine lv_istore_n (lv' := [(2, .int (x2 + r2)), (0, .ref (ad h0)), (1, .int a1), (3, .int x3)]) hx hb dX8_goneInAll_36 rfl hl (by decide) rfl (fun ls hl => ?_)
      refine lv_iinc (v := x3 + 1) (lv' := [(3, .int (x3 + 1)), (2, .int (x2 + r2)), (0, .ref (ad h0)), (1, .int a1)]) hx hb dX8_goneInAll_37 hl (k := 3) rfl rfl (by decide) rfl (fun ls hl => ?_)
      refine lv_goto (tgt := 4) hx hb dX8_goneInAll_40 (by decide) ?_
      exact hY 4 [x2 + r2, x3 + 1] [] s2 hv _ _ rfl H locs ls hP hS (lv_sub hl [2, 3, 1, 0] rfl)
set_option maxHeartbeats 4000000 in
theorem y_X8_goneInAll {p : Program} {l : Launch} {e : Env} {s : State} {m : MethodId} {args : Array Value} {below : List Frame} {meth : Method} {c : Code} {dC : Nat → ClassId} {dI : Nat → Nat → Nat} {ad : Nat → Nat} {cA cZ : ClassId} (hi : Inj 81 ad) (h0 : Nat) (a1 : Int32) (hh0 : isSt h0) (C0 : Cx cX8_goneInAll RX8 wsX8_goneInAll 4 (some .int) p s m args meth c) (hK : KK dC dI cA cZ s) (Q : Int32 → St → Prop) : ∀ P xs ys σ, R_X8_goneInAll h0 a1 Q P xs ys σ → XX p l e ({ frames := 1, cells := 0, slots := 0, locals := 25 } : Room) s m args below meth c (dC, dI) 81 ad (celC ad cA) 4 (ZI below args s (dC, dI) 81 ad (celC ad cA) Q) (lay_X8_goneInAll ad h0 a1) P xs ys σ := by
  refine Fx.elim _ (fun P xs ys σ Y hY hB => ?_)
  rcases hB with ⟨rfl, x2, x3, rfl, rfl, hB⟩
  · intro lv st he H locs ls hP hS hl
    cases he
    exact w_X8_goneInAll_4 hi h0 a1 hh0 C0 hK Q Y hY x2 x3 σ hB hP hS hl
set_option maxHeartbeats 4000000 in
theorem c_X8_goneInAll {l : Launch} {dC : Nat → ClassId} {dI : Nat → Nat → Nat} {ad : Nat → Nat} {cA cZ : ClassId} (hi : Inj 81 ad) (h0 : Nat) (a1 : Int32) (hh0 : isSt h0) (s0 : St) (Q : Int32 → St → Prop) (hv : V_X8_goneInAll h0 a1 s0 Q) (sz : Nat) : Met l yX8_goneInAll wsX8_goneInAll ({ frames := 1, cells := 0, slots := 0, locals := 25 } : Room) (va_Pc [.ref (ad h0), .int a1] (PW dC dI ad cA cZ 81 (celC ad cA) sz s0)) (va_Qi Q (fun u t => va_P (dC, dI) vwCl (wd 81 ad (celC ad cA) u) t.heap) (AA 81 ad sz)) 0 0 (AA 81 ad sz) := by
  refine Met.ofW (cc := cX8_goneInAll) (maxL := 4) (ret := (some .int)) (by decide) rfl ?_
  intro p e s m args below meth c s₁ B hml hv0
  obtain ⟨rfl, hsz, hP, hK⟩ := hv0
  subst hsz
  have C0 : Cx cX8_goneInAll RX8 wsX8_goneInAll 4 (some .int) p s m ([.ref (ad h0), .int a1] : List Value).toArray meth c := ⟨B.exec, B.bytes, hml, findClass_of_methodNamed B.named, atoms_spec (ws := wsX8_goneInAll) B.pre, B.returns, B.notSynchronized⟩
  have hl := lv_entry ([.ref (ad h0), .int a1]) (n := 4) (Nat.le_of_ble_eq_true rfl)
  rw [lg_entry_eq]
  generalize (lg_sl ([.ref (ad h0), .int a1]) ++ List.replicate (4 - (lg_sl ([.ref (ad h0), .int a1])).length) Slot.unset).toArray = ls at hl ⊢
  have hl : lv_has ls 4 [(0, .ref (ad h0)), (1, .int a1)] := hl
  exact w_X8_goneInAll_e hi h0 a1 hh0 C0 hK Q (R_X8_goneInAll h0 a1 Q) (y_X8_goneInAll hi h0 a1 hh0 C0 hK Q)  s0 hv hP va_S.rf hl
def lay_X10_keepFraction (ad : Nat → Nat) (a1 : Int32) (a2 : Int32) : Nat → List Int32 → List Int64 → Option (List (Nat × Value) × List Value) := fun P xs ys => match P, xs, ys with
  | 8, [x3, x4, x5], [] => some ([(0, .ref (ad 0)), (1, .int a1), (2, .int a2), (3, .int x3), (4, .int x4), (5, .int x5)], [])
  | 39, [x3], [] => some ([(0, .ref (ad 0)), (1, .int a1), (2, .int a2), (3, .int x3)], [])
  | _, _, _ => none
set_option maxHeartbeats 4000000 in
set_option maxRecDepth 100000 in
theorem w_X10_keepFraction_e {p : Program} {l : Launch} {e : Env} {s : State} {m : MethodId} {args : Array Value} {below : List Frame} {meth : Method} {c : Code} {dC : Nat → ClassId} {dI : Nat → Nat → Nat} {ad : Nat → Nat} {cA cZ : ClassId} (hi : Inj 81 ad) (a1 : Int32) (a2 : Int32)  (C0 : Cx cX10_keepFraction RX10 wsX10_keepFraction 7 none p s m args meth c) (hK : KK dC dI cA cZ s) (Q : St → Prop) (Y : Nat → List Int32 → List Int64 → St → Prop) (hY : ∀ P xs ys σ, Y P xs ys σ → XX p l e ({ frames := 0, cells := 0, slots := 0, locals := 0 } : Room) s m args below meth c (dC, dI) 81 ad (celC ad cA) 7 (ZV below args s (dC, dI) 81 ad (celC ad cA) Q) (lay_X10_keepFraction ad a1 a2) P xs ys σ)  (s0 : St) (hv : B_X10_keepFraction_e a1 a2 Q Y  s0) {H : Heap} {locs : List Loc} {ls : Array Slot} (hP : va_P (dC, dI) vwCl (wd 81 ad (celC ad cA) s0) H) (hS : va_S (AA 81 ad s.heap.size) s.heap H locs) (hl : lv_has ls 7 [(0, .ref (ad 0)), (1, .int a1), (2, .int a2)]) : W p l e ({ frames := 0, cells := 0, slots := 0, locals := 0 } : Room) s m args below meth c H locs 0 0 (ZV below args s (dC, dI) 81 ad (celC ad cA) Q) (F0 m 0 ls []) := by
  obtain ⟨hx, hb, hml, hown, hts, hr, hlocks⟩ := C0
  have hD := wd_D (s := s) (cel := celC ad cA) (σ := s0) hi
  unfold B_X10_keepFraction_e at hv
  refine lv_iload_n hx hb dX10_keepFraction_0 rfl (lv_at hl 1 rfl) ?_
  refine lv_istore_n (lv' := [(3, .int a1), (0, .ref (ad 0)), (1, .int a1), (2, .int a2)]) hx hb dX10_keepFraction_1 rfl hl (by decide) rfl (fun ls hl => ?_)
  refine lv_iload_n hx hb dX10_keepFraction_2 rfl (lv_at hl 3 rfl) ?_
  refine lv_istore (lv' := [(4, .int a2), (3, .int a1), (0, .ref (ad 0)), (1, .int a1), (2, .int a2)]) hx hb dX10_keepFraction_3 hl (by decide) rfl (fun ls hl => ?_)
  refine lv_iconst (v := 0) hx hb dX10_keepFraction_5 (by decide) ?_
  refine lv_istore (lv' := [(5, .int 0), (4, .int a2), (3, .int a1), (0, .ref (ad 0)), (1, .int a1), (2, .int a2)]) hx hb dX10_keepFraction_6 hl (by decide) rfl (fun ls hl => ?_)
  exact hY 8 [a1, a2, 0] [] s0 hv _ _ rfl H locs ls hP hS (lv_sub hl [3, 4, 5, 2, 1, 0] rfl)
set_option maxHeartbeats 4000000 in
set_option maxRecDepth 100000 in
theorem w_X10_keepFraction_8 {p : Program} {l : Launch} {e : Env} {s : State} {m : MethodId} {args : Array Value} {below : List Frame} {meth : Method} {c : Code} {dC : Nat → ClassId} {dI : Nat → Nat → Nat} {ad : Nat → Nat} {cA cZ : ClassId} (hi : Inj 81 ad) (a1 : Int32) (a2 : Int32)  (C0 : Cx cX10_keepFraction RX10 wsX10_keepFraction 7 none p s m args meth c) (hK : KK dC dI cA cZ s) (Q : St → Prop) (Y : Nat → List Int32 → List Int64 → St → Prop) (hY : ∀ P xs ys σ, Y P xs ys σ → XX p l e ({ frames := 0, cells := 0, slots := 0, locals := 0 } : Room) s m args below meth c (dC, dI) 81 ad (celC ad cA) 7 (ZV below args s (dC, dI) 81 ad (celC ad cA) Q) (lay_X10_keepFraction ad a1 a2) P xs ys σ) (x3 : Int32) (x4 : Int32) (x5 : Int32) (s0 : St) (hv : B_X10_keepFraction_8 a1 a2 Q Y x3 x4 x5 s0) {H : Heap} {locs : List Loc} {ls : Array Slot} (hP : va_P (dC, dI) vwCl (wd 81 ad (celC ad cA) s0) H) (hS : va_S (AA 81 ad s.heap.size) s.heap H locs) (hl : lv_has ls 7 [(0, .ref (ad 0)), (1, .int a1), (2, .int a2), (3, .int x3), (4, .int x4), (5, .int x5)]) : W p l e ({ frames := 0, cells := 0, slots := 0, locals := 0 } : Room) s m args below meth c H locs 0 0 (ZV below args s (dC, dI) 81 ad (celC ad cA) Q) (F0 m 8 ls []) := by
  obtain ⟨hx, hb, hml, hown, hts, hr, hlocks⟩ := C0
  have hD := wd_D (s := s) (cel := celC ad cA) (σ := s0) hi
  unfold B_X10_keepFraction_8 at hv
  refine lv_iload hx hb dX10_keepFraction_8 (lv_at hl 5 rfl) ?_
  refine lv_bipush (v := 64) hx hb dX10_keepFraction_10 (by decide) ?_
  refine lv_icmp_ge (tgt := 39) hx hb dX10_keepFraction_12 (by decide) (fun c12 => ?_) (fun c12 => ?_)
  · have hv := hv.1 c12
    exact hY 39 [x3] [] s0 hv _ _ rfl H locs ls hP hS (lv_sub hl [0, 1, 2, 3] rfl)
  · have hv := hv.2 c12
    refine lv_iload hx hb dX10_keepFraction_15 (lv_at hl 4 rfl) ?_
    refine lv_if_eq (tgt := 39) hx hb dX10_keepFraction_17 (by decide) (fun c17 => ?_) (fun c17 => ?_)
    · have hv := hv.1 c17
      exact hY 39 [x3] [] s0 hv _ _ rfl H locs ls hP hS (lv_sub hl [0, 1, 2, 3] rfl)
    · have hv := hv.2 c17
      refine lv_iload_n hx hb dX10_keepFraction_20 rfl (lv_at hl 3 rfl) ?_
      refine lv_iload hx hb dX10_keepFraction_21 (lv_at hl 4 rfl) ?_
      obtain ⟨hne, hv⟩ := hv
      refine lv_irem hx hb dX10_keepFraction_23 hne ?_
      refine lv_istore (lv' := [(6, .int (x3 - x3 / x4 * x4)), (0, .ref (ad 0)), (1, .int a1), (2, .int a2), (3, .int x3), (4, .int x4), (5, .int x5)]) hx hb dX10_keepFraction_24 hl (by decide) rfl (fun ls hl => ?_)
      refine lv_iload hx hb dX10_keepFraction_26 (lv_at hl 5 rfl) ?_
      refine lv_istore_n (lv' := [(3, .int x4), (6, .int (x3 - x3 / x4 * x4)), (0, .ref (ad 0)), (1, .int a1), (2, .int a2), (4, .int x4), (5, .int x5)]) hx hb dX10_keepFraction_28 rfl hl (by decide) rfl (fun ls hl => ?_)
      refine lv_iload hx hb dX10_keepFraction_29 (lv_at hl 1 rfl) ?_
      refine lv_istore (lv' := [(4, .int (x3 - x3 / x4 * x4)), (3, .int x4), (6, .int (x3 - x3 / x4 * x4)), (0, .ref (ad 0)), (1, .int a1), (2, .int a2), (5, .int x5)]) hx hb dX10_keepFraction_31 hl (by decide) rfl (fun ls hl => ?_)
      refine lv_iinc (v := x5 + 1) (lv' := [(5, .int (x5 + 1)), (4, .int (x3 - x3 / x4 * x4)), (3, .int x4), (6, .int (x3 - x3 / x4 * x4)), (0, .ref (ad 0)), (1, .int a1), (2, .int a2)]) hx hb dX10_keepFraction_33 hl (k := 6) rfl rfl (by decide) rfl (fun ls hl => ?_)
      refine lv_goto (tgt := 8) hx hb dX10_keepFraction_36 (by decide) ?_
      exact hY 8 [x4, x3 - x3 / x4 * x4, x5 + 1] [] s0 hv _ _ rfl H locs ls hP hS (lv_sub hl [4, 5, 6, 2, 1, 0] rfl)
set_option maxHeartbeats 4000000 in
set_option maxRecDepth 100000 in
theorem w_X10_keepFraction_39 {p : Program} {l : Launch} {e : Env} {s : State} {m : MethodId} {args : Array Value} {below : List Frame} {meth : Method} {c : Code} {dC : Nat → ClassId} {dI : Nat → Nat → Nat} {ad : Nat → Nat} {cA cZ : ClassId} (hi : Inj 81 ad) (a1 : Int32) (a2 : Int32)  (C0 : Cx cX10_keepFraction RX10 wsX10_keepFraction 7 none p s m args meth c) (hK : KK dC dI cA cZ s) (Q : St → Prop) (Y : Nat → List Int32 → List Int64 → St → Prop) (hY : ∀ P xs ys σ, Y P xs ys σ → XX p l e ({ frames := 0, cells := 0, slots := 0, locals := 0 } : Room) s m args below meth c (dC, dI) 81 ad (celC ad cA) 7 (ZV below args s (dC, dI) 81 ad (celC ad cA) Q) (lay_X10_keepFraction ad a1 a2) P xs ys σ) (x3 : Int32) (s0 : St) (hv : B_X10_keepFraction_39 a1 a2 Q Y x3 s0) {H : Heap} {locs : List Loc} {ls : Array Slot} (hP : va_P (dC, dI) vwCl (wd 81 ad (celC ad cA) s0) H) (hS : va_S (AA 81 ad s.heap.size) s.heap H locs) (hl : lv_has ls 7 [(0, .ref (ad 0)), (1, .int a1), (2, .int a2), (3, .int x3)]) : W p l e ({ frames := 0, cells := 0, slots := 0, locals := 0 } : Room) s m args below meth c H locs 0 0 (ZV below args s (dC, dI) 81 ad (celC ad cA) Q) (F0 m 39 ls []) := by
  obtain ⟨hx, hb, hml, hown, hts, hr, hlocks⟩ := C0
  have hD := wd_D (s := s) (cel := celC ad cA) (σ := s0) hi
  unfold B_X10_keepFraction_39 at hv
  refine lv_iload_n hx hb dX10_keepFraction_39 rfl (lv_at hl 3 rfl) ?_
  refine lv_if_le (tgt := 57) hx hb dX10_keepFraction_40 (by decide) (fun c40 => ?_) (fun c40 => ?_)
  · have hv := hv.1 c40
    exact r_vret hx hb hr hlocks hv hP hS dX10_keepFraction_57
  · have hv := hv.2 c40
    refine lv_aload_n hx hb dX10_keepFraction_43 rfl (lv_at hl 0 rfl) ?_
    refine lv_iload_n hx hb dX10_keepFraction_44 rfl (lv_at hl 1 rfl) ?_
    refine lv_iload_n hx hb dX10_keepFraction_45 rfl (lv_at hl 3 rfl) ?_
    obtain ⟨hne, hv⟩ := hv
    refine lv_idiv hx hb dX10_keepFraction_46 hne ?_
    refine r_put hx hb hts (iwX10_keepFraction_X10) tyX10 tyX10_ok nmX10 hown hK.1 hP hD hS 0 (by decide) (ceGR_0 (s0 0)) rfl 8 (by decide) (hts _ kX10_keepFraction_1) rfl (ty := .int) (v := .int (a1 / x3)) (by decide +kernel) rfl rfl (Nat.le_of_ble_eq_true rfl) (row := (upd (s0 0) 8 (a1 / x3))) (by rw [(ceGR_0 (upd (s0 0) 8 (a1 / x3)))]; rfl) dX10_keepFraction_47 (fun H locs s1 es1 hP hD hS => ?_)
    have hv := hv s1 es1
    refine lv_aload_n hx hb dX10_keepFraction_50 rfl (lv_at hl 0 rfl) ?_
    refine lv_iload_n hx hb dX10_keepFraction_51 rfl (lv_at hl 2 rfl) ?_
    refine lv_iload_n hx hb dX10_keepFraction_52 rfl (lv_at hl 3 rfl) ?_
    obtain ⟨hne, hv⟩ := hv
    refine lv_idiv hx hb dX10_keepFraction_53 hne ?_
    refine r_put hx hb hts (iwX10_keepFraction_X10) tyX10 tyX10_ok nmX10 hown hK.1 hP hD hS 0 (by decide) (ceGR_0 (s1 0)) rfl 9 (by decide) (hts _ kX10_keepFraction_2) rfl (ty := .int) (v := .int (a2 / x3)) (by decide +kernel) rfl rfl (Nat.le_of_ble_eq_true rfl) (row := (upd (s1 0) 9 (a2 / x3))) (by rw [(ceGR_0 (upd (s1 0) 9 (a2 / x3)))]; rfl) dX10_keepFraction_54 (fun H locs s2 es2 hP hD hS => ?_)
    have hv := hv s2 es2
    exact r_vret hx hb hr hlocks hv hP hS dX10_keepFraction_57
set_option maxHeartbeats 4000000 in
theorem y_X10_keepFraction {p : Program} {l : Launch} {e : Env} {s : State} {m : MethodId} {args : Array Value} {below : List Frame} {meth : Method} {c : Code} {dC : Nat → ClassId} {dI : Nat → Nat → Nat} {ad : Nat → Nat} {cA cZ : ClassId} (hi : Inj 81 ad) (a1 : Int32) (a2 : Int32)  (C0 : Cx cX10_keepFraction RX10 wsX10_keepFraction 7 none p s m args meth c) (hK : KK dC dI cA cZ s) (Q : St → Prop) : ∀ P xs ys σ, R_X10_keepFraction a1 a2 Q P xs ys σ → XX p l e ({ frames := 0, cells := 0, slots := 0, locals := 0 } : Room) s m args below meth c (dC, dI) 81 ad (celC ad cA) 7 (ZV below args s (dC, dI) 81 ad (celC ad cA) Q) (lay_X10_keepFraction ad a1 a2) P xs ys σ := by
  refine Fx.elim _ (fun P xs ys σ Y hY hB => ?_)
  rcases hB with ⟨rfl, x3, x4, x5, rfl, rfl, hB⟩ | ⟨rfl, x3, rfl, rfl, hB⟩
  · intro lv st he H locs ls hP hS hl
    cases he
    exact w_X10_keepFraction_8 hi a1 a2  C0 hK Q Y hY x3 x4 x5 σ hB hP hS hl
  · intro lv st he H locs ls hP hS hl
    cases he
    exact w_X10_keepFraction_39 hi a1 a2  C0 hK Q Y hY x3 σ hB hP hS hl
set_option maxHeartbeats 4000000 in
theorem c_X10_keepFraction {l : Launch} {dC : Nat → ClassId} {dI : Nat → Nat → Nat} {ad : Nat → Nat} {cA cZ : ClassId} (hi : Inj 81 ad) (a1 : Int32) (a2 : Int32)  (s0 : St) (Q : St → Prop) (hv : V_X10_keepFraction a1 a2 s0 Q) (sz : Nat) : Met l yX10_keepFraction wsX10_keepFraction ({ frames := 0, cells := 0, slots := 0, locals := 0 } : Room) (va_Pc [.ref (ad 0), .int a1, .int a2] (PW dC dI ad cA cZ 81 (celC ad cA) sz s0)) (va_Qv Q (fun u t => va_P (dC, dI) vwCl (wd 81 ad (celC ad cA) u) t.heap) (AA 81 ad sz)) 0 0 (AA 81 ad sz) := by
  refine Met.ofW (cc := cX10_keepFraction) (maxL := 7) (ret := none) (by decide) rfl ?_
  intro p e s m args below meth c s₁ B hml hv0
  obtain ⟨rfl, hsz, hP, hK⟩ := hv0
  subst hsz
  have C0 : Cx cX10_keepFraction RX10 wsX10_keepFraction 7 none p s m ([.ref (ad 0), .int a1, .int a2] : List Value).toArray meth c := ⟨B.exec, B.bytes, hml, findClass_of_methodNamed B.named, atoms_spec (ws := wsX10_keepFraction) B.pre, B.returns, B.notSynchronized⟩
  have hl := lv_entry ([.ref (ad 0), .int a1, .int a2]) (n := 7) (Nat.le_of_ble_eq_true rfl)
  rw [lg_entry_eq]
  generalize (lg_sl ([.ref (ad 0), .int a1, .int a2]) ++ List.replicate (7 - (lg_sl ([.ref (ad 0), .int a1, .int a2])).length) Slot.unset).toArray = ls at hl ⊢
  have hl : lv_has ls 7 [(0, .ref (ad 0)), (1, .int a1), (2, .int a2)] := hl
  exact w_X10_keepFraction_e hi a1 a2  C0 hK Q (R_X10_keepFraction a1 a2 Q) (y_X10_keepFraction hi a1 a2  C0 hK Q)  s0 hv hP va_S.rf hl
def lay_X10_rain (ad : Nat → Nat) (a1 : Int32) : Nat → List Int32 → List Int64 → Option (List (Nat × Value) × List Value) := fun P xs ys => match P, xs, ys with
  | _, _, _ => none
set_option maxHeartbeats 4000000 in
set_option maxRecDepth 100000 in
theorem w_X10_rain_e {p : Program} {l : Launch} {e : Env} {s : State} {m : MethodId} {args : Array Value} {below : List Frame} {meth : Method} {c : Code} {dC : Nat → ClassId} {dI : Nat → Nat → Nat} {ad : Nat → Nat} {cA cZ : ClassId} (hi : Inj 81 ad) (a1 : Int32)  (C0 : Cx cX10_rain RX10 wsX10_rain 4 (some .int) p s m args meth c) (hK : KK dC dI cA cZ s) (Q : Int32 → St → Prop) (Y : Nat → List Int32 → List Int64 → St → Prop) (hY : ∀ P xs ys σ, Y P xs ys σ → XX p l e ({ frames := 2, cells := 0, slots := 0, locals := 48 } : Room) s m args below meth c (dC, dI) 81 ad (celC ad cA) 4 (ZI below args s (dC, dI) 81 ad (celC ad cA) Q) (lay_X10_rain ad a1) P xs ys σ)  (s0 : St) (hv : B_X10_rain_e a1 Q Y  s0) {H : Heap} {locs : List Loc} {ls : Array Slot} (hP : va_P (dC, dI) vwCl (wd 81 ad (celC ad cA) s0) H) (hS : va_S (AA 81 ad s.heap.size) s.heap H locs) (hl : lv_has ls 4 [(0, .ref (ad 0)), (1, .int a1)]) : W p l e ({ frames := 2, cells := 0, slots := 0, locals := 48 } : Room) s m args below meth c H locs 0 0 (ZI below args s (dC, dI) 81 ad (celC ad cA) Q) (F0 m 0 ls []) := by
  obtain ⟨hx, hb, hml, hown, hts, hr, hlocks⟩ := C0
  have hD := wd_D (s := s) (cel := celC ad cA) (σ := s0) hi
  unfold B_X10_rain_e at hv
  refine lv_iload_n hx hb dX10_rain_0 rfl (lv_at hl 1 rfl) ?_
  refine lv_iconst (v := 0) hx hb dX10_rain_1 (by decide) ?_
  refine lv_bipush (v := 10) hx hb dX10_rain_2 (by decide) ?_
  refine r_ci (va_runS (As := [.int a1, .int 0, .int 10]) (rest := []) ⟨hx, hb, hml, hown, hts⟩ (c_X10_within hi a1 0 10 s0 _ hv H.size) (va_cwS 3 hts gX10_rain_X10_within rfl rfl rfl (by decide +kernel) ⟨Nat.le_of_ble_eq_true rfl, Nat.le_of_ble_eq_true rfl⟩) ⟨pre_blind, pre_of hP hK⟩ rfl rfl hl.1 rfl (lv_room (Nat.le_of_ble_eq_true rfl)) dX10_rain_4 ⟨Nat.zero_le _, Nat.zero_le _⟩) hS (fun r1 s1 H locs hv hP hS => ?_)
  obtain ⟨hz_r1, hv⟩ := hv
  have hD := wd_D (s := s) (cel := celC ad cA) (σ := s1) hi
  refine lv_if_ne (tgt := 15) hx hb dX10_rain_7 (by decide) (fun c7 => ?_) (fun c7 => ?_)
  · have hv := hv.1 c7
    refine lv_aload_n hx hb dX10_rain_15 rfl (lv_at hl 0 rfl) ?_
    refine r_get hx hb hts (iwX10_rain_X10) hown hK.1 hP 0 (by decide) (ceGR_0 (s1 0)) rfl 0 (by decide) (hts _ kX10_rain_1) (v := .ref (ad 1)) rfl dX10_rain_16 ?_
    refine r_get hx hb hts (iwX10_rain_X7) hown hK.1 hP 1 (ltSc_0 vSc_1) (ceSc_0 vSc_1 (s1 1)) rfl 0 (by decide) (hts _ kX10_rain_2) (v := .ref (ad 2)) rfl dX10_rain_19 ?_
    refine lv_iconst (v := 0) hx hb dX10_rain_22 (by decide) ?_
    refine r_ci (va_runV (As := [.int 0]) (rest := []) ⟨hx, hb, hml, hown, hts⟩ (c_X8_goneInAll hi 2 0 (vSc1 vSc_1) s1 _ hv H.size) (cwV 1 hts gX10_rain_X8_goneInAll rfl rfl rfl (by decide +kernel) ⟨Nat.le_of_ble_eq_true rfl, Nat.le_of_ble_eq_true rfl⟩) ⟨pre_blind, r_recv hK.1 hP 2 (ltSt_0 (vSc1 vSc_1)) (ceSt_0 (vSc1 vSc_1) (s1 2)) rfl, pre_of hP hK⟩ rfl rfl hl.1 rfl (lv_room (Nat.le_of_ble_eq_true rfl)) dX10_rain_23 ⟨Nat.zero_le _, Nat.zero_le _⟩) hS (fun r2 s2 H locs hv hP hS => ?_)
    have hD := wd_D (s := s) (cel := celC ad cA) (σ := s2) hi
    refine lv_istore_n (lv' := [(2, .int r2), (0, .ref (ad 0)), (1, .int a1)]) hx hb dX10_rain_26 rfl hl (by decide) rfl (fun ls hl => ?_)
    refine lv_aload_n hx hb dX10_rain_27 rfl (lv_at hl 1 rfl) ?_
    refine r_get hx hb hts (iwX10_rain_X10) hown hK.1 hP 0 (by decide) (ceGR_0 (s2 0)) rfl 0 (by decide) (hts _ kX10_rain_1) (v := .ref (ad 1)) rfl dX10_rain_28 ?_
    refine r_get hx hb hts (iwX10_rain_X7) hown hK.1 hP 1 (ltSc_0 vSc_1) (ceSc_0 vSc_1 (s2 1)) rfl 0 (by decide) (hts _ kX10_rain_2) (v := .ref (ad 2)) rfl dX10_rain_31 ?_
    refine lv_iconst (v := 4) hx hb dX10_rain_34 (by decide) ?_
    refine r_ci (va_runV (As := [.int 4]) (rest := []) ⟨hx, hb, hml, hown, hts⟩ (c_X8_goneInAll hi 2 4 (vSc1 vSc_1) s2 _ hv H.size) (cwV 1 hts gX10_rain_X8_goneInAll rfl rfl rfl (by decide +kernel) ⟨Nat.le_of_ble_eq_true rfl, Nat.le_of_ble_eq_true rfl⟩) ⟨pre_blind, r_recv hK.1 hP 2 (ltSt_0 (vSc1 vSc_1)) (ceSt_0 (vSc1 vSc_1) (s2 2)) rfl, pre_of hP hK⟩ rfl rfl hl.1 rfl (lv_room (Nat.le_of_ble_eq_true rfl)) dX10_rain_35 ⟨Nat.zero_le _, Nat.zero_le _⟩) hS (fun r3 s3 H locs hv hP hS => ?_)
    have hD := wd_D (s := s) (cel := celC ad cA) (σ := s3) hi
    refine lv_istore_n (lv' := [(3, .int r3), (2, .int r2), (0, .ref (ad 0)), (1, .int a1)]) hx hb dX10_rain_38 rfl hl (by decide) rfl (fun ls hl => ?_)
    refine lv_aload_n hx hb dX10_rain_39 rfl (lv_at hl 2 rfl) ?_
    refine lv_iload_n hx hb dX10_rain_40 rfl (lv_at hl 3 rfl) ?_
    refine lv_iload_n hx hb dX10_rain_41 rfl (lv_at hl 0 rfl) ?_
    refine lv_imul hx hb dX10_rain_42 ?_
    refine lv_bipush (v := 10) hx hb dX10_rain_43 (by decide) ?_
    refine lv_iload_n hx hb dX10_rain_45 rfl (lv_at hl 3 rfl) ?_
    refine lv_isub hx hb dX10_rain_46 ?_
    refine lv_iload_n hx hb dX10_rain_47 rfl (lv_at hl 1 rfl) ?_
    refine lv_imul hx hb dX10_rain_48 ?_
    refine lv_iadd hx hb dX10_rain_49 ?_
    refine lv_bipush (v := 10) hx hb dX10_rain_50 (by decide) ?_
    refine r_cv (va_runV (As := [.int ((a1 * r3) + ((10 - a1) * r2)), .int 10]) (rest := []) ⟨hx, hb, hml, hown, hts⟩ (c_X10_keepFraction hi ((a1 * r3) + ((10 - a1) * r2)) 10 s3 _ hv H.size) (cwV 2 hts gX10_rain_X10_keepFraction rfl rfl rfl (by decide +kernel) ⟨Nat.le_of_ble_eq_true rfl, Nat.le_of_ble_eq_true rfl⟩) ⟨pre_blind, r_recv hK.1 hP 0 (by decide) (ceGR_0 (s3 0)) rfl, pre_of hP hK⟩ rfl rfl hl.1 rfl (lv_room (Nat.le_of_ble_eq_true rfl)) dX10_rain_52 ⟨Nat.zero_le _, Nat.zero_le _⟩) hS (fun s4 H locs hv hP hS => ?_)
    have hD := wd_D (s := s) (cel := celC ad cA) (σ := s4) hi
    refine lv_iconst (v := 1) hx hb dX10_rain_55 (by decide) ?_
    exact r_iret hx hb hr hlocks hv hP hS dX10_rain_56
  · have hv := hv.2 c7
    refine lv_aload_n hx hb dX10_rain_10 rfl (lv_at hl 0 rfl) ?_
    refine r_ci (va_runV (As := []) (rest := []) ⟨hx, hb, hml, hown, hts⟩ (c_X10_bad hi  s1 _ hv H.size) (cwV 0 hts gX10_rain_X10_bad rfl rfl rfl (by decide +kernel) ⟨Nat.le_of_ble_eq_true rfl, Nat.le_of_ble_eq_true rfl⟩) ⟨pre_blind, r_recv hK.1 hP 0 (by decide) (ceGR_0 (s1 0)) rfl, pre_of hP hK⟩ rfl rfl hl.1 rfl (lv_room (Nat.le_of_ble_eq_true rfl)) dX10_rain_11 ⟨Nat.zero_le _, Nat.zero_le _⟩) hS (fun r5 s5 H locs hv hP hS => ?_)
    have hD := wd_D (s := s) (cel := celC ad cA) (σ := s5) hi
    exact r_iret hx hb hr hlocks hv hP hS dX10_rain_14
set_option maxHeartbeats 4000000 in
theorem y_X10_rain {p : Program} {l : Launch} {e : Env} {s : State} {m : MethodId} {args : Array Value} {below : List Frame} {meth : Method} {c : Code} {dC : Nat → ClassId} {dI : Nat → Nat → Nat} {ad : Nat → Nat} {cA cZ : ClassId} (hi : Inj 81 ad) (a1 : Int32)  (C0 : Cx cX10_rain RX10 wsX10_rain 4 (some .int) p s m args meth c) (hK : KK dC dI cA cZ s) (Q : Int32 → St → Prop) : ∀ P xs ys σ, R_X10_rain a1 Q P xs ys σ → XX p l e ({ frames := 2, cells := 0, slots := 0, locals := 48 } : Room) s m args below meth c (dC, dI) 81 ad (celC ad cA) 4 (ZI below args s (dC, dI) 81 ad (celC ad cA) Q) (lay_X10_rain ad a1) P xs ys σ := by
  refine Fx.elim _ (fun P xs ys σ Y hY hB => ?_)
  exact hB.elim
set_option maxHeartbeats 4000000 in
theorem c_X10_rain {l : Launch} {dC : Nat → ClassId} {dI : Nat → Nat → Nat} {ad : Nat → Nat} {cA cZ : ClassId} (hi : Inj 81 ad) (a1 : Int32)  (s0 : St) (Q : Int32 → St → Prop) (hv : V_X10_rain a1 s0 Q) (sz : Nat) : Met l yX10_rain wsX10_rain ({ frames := 2, cells := 0, slots := 0, locals := 48 } : Room) (va_Pc [.ref (ad 0), .int a1] (PW dC dI ad cA cZ 81 (celC ad cA) sz s0)) (va_Qi Q (fun u t => va_P (dC, dI) vwCl (wd 81 ad (celC ad cA) u) t.heap) (AA 81 ad sz)) 0 0 (AA 81 ad sz) := by
  refine Met.ofW (cc := cX10_rain) (maxL := 4) (ret := (some .int)) (by decide) rfl ?_
  intro p e s m args below meth c s₁ B hml hv0
  obtain ⟨rfl, hsz, hP, hK⟩ := hv0
  subst hsz
  have C0 : Cx cX10_rain RX10 wsX10_rain 4 (some .int) p s m ([.ref (ad 0), .int a1] : List Value).toArray meth c := ⟨B.exec, B.bytes, hml, findClass_of_methodNamed B.named, atoms_spec (ws := wsX10_rain) B.pre, B.returns, B.notSynchronized⟩
  have hl := lv_entry ([.ref (ad 0), .int a1]) (n := 4) (Nat.le_of_ble_eq_true rfl)
  rw [lg_entry_eq]
  generalize (lg_sl ([.ref (ad 0), .int a1]) ++ List.replicate (4 - (lg_sl ([.ref (ad 0), .int a1])).length) Slot.unset).toArray = ls at hl ⊢
  have hl : lv_has ls 4 [(0, .ref (ad 0)), (1, .int a1)] := hl
  exact w_X10_rain_e hi a1  C0 hK Q (R_X10_rain a1 Q) (y_X10_rain hi a1  C0 hK Q)  s0 hv hP va_S.rf hl
def lay_X0_overBehindWinter (ad : Nat → Nat) (h1 : Nat) (a2 : Int32) (a3 : Int32) : Nat → List Int32 → List Int64 → Option (List (Nat × Value) × List Value) := fun P xs ys => match P, xs, ys with
  | 15, [x6], [y4] => some ([(0, .ref (ad 55)), (3, .int a3), (4, .long y4), (6, .int x6)], [])
  | 71, [x6], [y4] => some ([(0, .ref (ad 55)), (3, .int a3), (4, .long y4), (6, .int x6)], [])
  | _, _, _ => none
set_option maxHeartbeats 4000000 in
set_option maxRecDepth 100000 in
theorem w_X0_overBehindWinter_e {p : Program} {l : Launch} {e : Env} {s : State} {m : MethodId} {args : Array Value} {below : List Frame} {meth : Method} {c : Code} {dC : Nat → ClassId} {dI : Nat → Nat → Nat} {ad : Nat → Nat} {cA cZ : ClassId} (hi : Inj 81 ad) (h1 : Nat) (a2 : Int32) (a3 : Int32) (hh1 : isSt h1) (C0 : Cx cX0_overBehindWinter RX0 wsX0_overBehindWinter 8 (some .int) p s m args meth c) (hK : KK dC dI cA cZ s) (Q : Int32 → St → Prop) (Y : Nat → List Int32 → List Int64 → St → Prop) (hY : ∀ P xs ys σ, Y P xs ys σ → XX p l e ({ frames := 3, cells := 0, slots := 0, locals := 69 } : Room) s m args below meth c (dC, dI) 81 ad (celC ad cA) 8 (ZI below args s (dC, dI) 81 ad (celC ad cA) Q) (lay_X0_overBehindWinter ad h1 a2 a3) P xs ys σ)  (s0 : St) (hv : B_X0_overBehindWinter_e h1 a2 a3 Q Y  s0) {H : Heap} {locs : List Loc} {ls : Array Slot} (hP : va_P (dC, dI) vwCl (wd 81 ad (celC ad cA) s0) H) (hS : va_S (AA 81 ad s.heap.size) s.heap H locs) (hl : lv_has ls 8 [(0, .ref (ad 55)), (1, .ref (ad h1)), (2, .int a2), (3, .int a3)]) : W p l e ({ frames := 3, cells := 0, slots := 0, locals := 69 } : Room) s m args below meth c H locs 0 0 (ZI below args s (dC, dI) 81 ad (celC ad cA) Q) (F0 m 0 ls []) := by
  obtain ⟨hx, hb, hml, hown, hts, hr, hlocks⟩ := C0
  have hD := wd_D (s := s) (cel := celC ad cA) (σ := s0) hi
  unfold B_X0_overBehindWinter_e at hv
  refine lv_aload_n hx hb dX0_overBehindWinter_0 rfl (lv_at hl 0 rfl) ?_
  refine r_get hx hb hts (iwX0_overBehindWinter_X0) hown hK.1 hP 55 (by decide) (ceFo_0 (s0 55)) rfl 0 (by decide) (hts _ kX0_overBehindWinter_1) (v := .ref (ad 56)) rfl dX0_overBehindWinter_1 ?_
  refine lv_aload_n hx hb dX0_overBehindWinter_4 rfl (lv_at hl 1 rfl) ?_
  refine r_cv (va_runV (As := [.ref (ad h1)]) (rest := []) ⟨hx, hb, hml, hown, hts⟩ (c_X8_copy hi 56 h1 vSt_56 hh1 s0 _ hv H.size) (cwV 1 hts gX0_overBehindWinter_X8_copy rfl rfl rfl (by decide +kernel) ⟨Nat.le_of_ble_eq_true rfl, Nat.le_of_ble_eq_true rfl⟩) ⟨pre_blind, r_recv hK.1 hP 56 (ltSt_0 vSt_56) (ceSt_0 vSt_56 (s0 56)) rfl, pre_of hP hK⟩ rfl rfl hl.1 rfl (lv_room (Nat.le_of_ble_eq_true rfl)) dX0_overBehindWinter_5 ⟨Nat.zero_le _, Nat.zero_le _⟩) hS (fun s1 H locs hv hP hS => ?_)
  have hD := wd_D (s := s) (cel := celC ad cA) (σ := s1) hi
  refine lv_iload_n hx hb dX0_overBehindWinter_8 rfl (lv_at hl 2 rfl) ?_
  refine lv_i2l (v := a2.toInt64) hx hb dX0_overBehindWinter_9 rfl ?_
  refine lv_lstore (lv' := [(4, .long a2.toInt64), (0, .ref (ad 55)), (1, .ref (ad h1)), (2, .int a2), (3, .int a3)]) hx hb dX0_overBehindWinter_10 hl (by decide) rfl (fun ls hl => ?_)
  refine lv_iconst (v := 0) hx hb dX0_overBehindWinter_12 (by decide) ?_
  refine lv_istore (lv' := [(6, .int 0), (4, .long a2.toInt64), (0, .ref (ad 55)), (1, .ref (ad h1)), (2, .int a2), (3, .int a3)]) hx hb dX0_overBehindWinter_13 hl (by decide) rfl (fun ls hl => ?_)
  exact hY 15 [0] [a2.toInt64] s1 hv _ _ rfl H locs ls hP hS (lv_sub hl [2, 5, 1, 0] rfl)
set_option maxHeartbeats 4000000 in
set_option maxRecDepth 100000 in
theorem w_X0_overBehindWinter_15 {p : Program} {l : Launch} {e : Env} {s : State} {m : MethodId} {args : Array Value} {below : List Frame} {meth : Method} {c : Code} {dC : Nat → ClassId} {dI : Nat → Nat → Nat} {ad : Nat → Nat} {cA cZ : ClassId} (hi : Inj 81 ad) (h1 : Nat) (a2 : Int32) (a3 : Int32) (hh1 : isSt h1) (C0 : Cx cX0_overBehindWinter RX0 wsX0_overBehindWinter 8 (some .int) p s m args meth c) (hK : KK dC dI cA cZ s) (Q : Int32 → St → Prop) (Y : Nat → List Int32 → List Int64 → St → Prop) (hY : ∀ P xs ys σ, Y P xs ys σ → XX p l e ({ frames := 3, cells := 0, slots := 0, locals := 69 } : Room) s m args below meth c (dC, dI) 81 ad (celC ad cA) 8 (ZI below args s (dC, dI) 81 ad (celC ad cA) Q) (lay_X0_overBehindWinter ad h1 a2 a3) P xs ys σ) (x6 : Int32) (y4 : Int64) (s0 : St) (hv : B_X0_overBehindWinter_15 h1 a2 a3 Q Y x6 y4 s0) {H : Heap} {locs : List Loc} {ls : Array Slot} (hP : va_P (dC, dI) vwCl (wd 81 ad (celC ad cA) s0) H) (hS : va_S (AA 81 ad s.heap.size) s.heap H locs) (hl : lv_has ls 8 [(0, .ref (ad 55)), (3, .int a3), (4, .long y4), (6, .int x6)]) : W p l e ({ frames := 3, cells := 0, slots := 0, locals := 69 } : Room) s m args below meth c H locs 0 0 (ZI below args s (dC, dI) 81 ad (celC ad cA) Q) (F0 m 15 ls []) := by
  obtain ⟨hx, hb, hml, hown, hts, hr, hlocks⟩ := C0
  have hD := wd_D (s := s) (cel := celC ad cA) (σ := s0) hi
  unfold B_X0_overBehindWinter_15 at hv
  refine lv_iload hx hb dX0_overBehindWinter_15 (lv_at hl 3 rfl) ?_
  refine lv_iload_n hx hb dX0_overBehindWinter_17 rfl (lv_at hl 1 rfl) ?_
  refine lv_icmp_ge (tgt := 84) hx hb dX0_overBehindWinter_18 (by decide) (fun c18 => ?_) (fun c18 => ?_)
  · have hv := hv.1 c18
    refine lv_aload_n hx hb dX0_overBehindWinter_84 rfl (lv_at hl 0 rfl) ?_
    refine r_get hx hb hts (iwX0_overBehindWinter_X0) hown hK.1 hP 55 (by decide) (ceFo_0 (s0 55)) rfl 0 (by decide) (hts _ kX0_overBehindWinter_1) (v := .ref (ad 56)) rfl dX0_overBehindWinter_85 ?_
    refine r_ci (va_runV (As := []) (rest := []) ⟨hx, hb, hml, hown, hts⟩ (c_X8_over hi 56 vSt_56 s0 _ hv H.size) (cwV 0 hts gX0_overBehindWinter_X8_over rfl rfl rfl (by decide +kernel) ⟨Nat.le_of_ble_eq_true rfl, Nat.le_of_ble_eq_true rfl⟩) ⟨pre_blind, r_recv hK.1 hP 56 (ltSt_0 vSt_56) (ceSt_0 vSt_56 (s0 56)) rfl, pre_of hP hK⟩ rfl rfl hl.1 rfl (lv_room (Nat.le_of_ble_eq_true rfl)) dX0_overBehindWinter_88 ⟨Nat.zero_le _, Nat.zero_le _⟩) hS (fun r1 s1 H locs hv hP hS => ?_)
    have hD := wd_D (s := s) (cel := celC ad cA) (σ := s1) hi
    exact r_iret hx hb hr hlocks hv hP hS dX0_overBehindWinter_91
  · have hv := hv.2 c18
    refine lv_lload hx hb dX0_overBehindWinter_21 (lv_at hl 2 rfl) ?_
    refine lv_ldc2 (v := 1103515245) hx hb hown (hts _ kX0_overBehindWinter_2) dX0_overBehindWinter_23 ?_
    refine lv_lmul hx hb dX0_overBehindWinter_26 ?_
    refine lv_ldc2 (v := 12345) hx hb hown (hts _ kX0_overBehindWinter_3) dX0_overBehindWinter_27 ?_
    refine lv_ladd hx hb dX0_overBehindWinter_30 ?_
    refine lv_ldc2 (v := 2147483648) hx hb hown (hts _ kX0_overBehindWinter_4) dX0_overBehindWinter_31 ?_
    refine lv_lrem hx hb dX0_overBehindWinter_34 (by decide) ?_
    refine lv_topl (fun v2 ev2 => ?_)
    have hv := hv v2 ev2
    refine lv_lstore (lv' := [(4, .long v2), (0, .ref (ad 55)), (3, .int a3), (6, .int x6)]) hx hb dX0_overBehindWinter_35 hl (by decide) rfl (fun ls hl => ?_)
    refine lv_lload hx hb dX0_overBehindWinter_37 (lv_at hl 0 rfl) ?_
    refine lv_ldc2 (v := 65536) hx hb hown (hts _ kX0_overBehindWinter_5) dX0_overBehindWinter_39 ?_
    refine lv_ldiv hx hb dX0_overBehindWinter_42 (by decide) ?_
    refine lv_ldc2 (v := 4) hx hb hown (hts _ kX0_overBehindWinter_6) dX0_overBehindWinter_43 ?_
    refine lv_lrem hx hb dX0_overBehindWinter_46 (by decide) ?_
    refine lv_l2i (v := ((v2 / 65536) - (v2 / 65536) / 4 * 4).toInt32) hx hb dX0_overBehindWinter_47 rfl ?_
    refine lv_topi (fun v3 ev3 => ?_)
    have hv := hv v3 ev3
    refine lv_istore (lv' := [(7, .int v3), (4, .long v2), (0, .ref (ad 55)), (3, .int a3), (6, .int x6)]) hx hb dX0_overBehindWinter_48 hl (by decide) rfl (fun ls hl => ?_)
    refine lv_iload hx hb dX0_overBehindWinter_50 (lv_at hl 0 rfl) ?_
    refine lv_aload_n hx hb dX0_overBehindWinter_52 rfl (lv_at hl 2 rfl) ?_
    refine r_get hx hb hts (iwX0_overBehindWinter_X0) hown hK.1 hP 55 (by decide) (ceFo_0 (s0 55)) rfl 0 (by decide) (hts _ kX0_overBehindWinter_1) (v := .ref (ad 56)) rfl dX0_overBehindWinter_53 ?_
    refine r_get hx hb hts (iwX0_overBehindWinter_X8) hown hK.1 hP 56 (ltSt_0 vSt_56) (ceSt_0 vSt_56 (s0 56)) rfl 9 (by decide) (hts _ kX0_overBehindWinter_7) (v := .int (s0 56 9)) rfl dX0_overBehindWinter_56 ?_
    refine lv_icmp_ge (tgt := 71) hx hb dX0_overBehindWinter_59 (by decide) (fun c59 => ?_) (fun c59 => ?_)
    · have hv := hv.1 c59
      exact hY 71 [x6] [v2] s0 hv _ _ rfl H locs ls hP hS (lv_sub hl [2, 3, 1, 4] rfl)
    · have hv := hv.2 c59
      refine lv_aload_n hx hb dX0_overBehindWinter_62 rfl (lv_at hl 2 rfl) ?_
      refine r_get hx hb hts (iwX0_overBehindWinter_X0) hown hK.1 hP 55 (by decide) (ceFo_0 (s0 55)) rfl 0 (by decide) (hts _ kX0_overBehindWinter_1) (v := .ref (ad 56)) rfl dX0_overBehindWinter_63 ?_
      refine lv_iload hx hb dX0_overBehindWinter_66 (lv_at hl 0 rfl) ?_
      refine r_cv (va_runV (As := [.int v3]) (rest := []) ⟨hx, hb, hml, hown, hts⟩ (c_X8_turn hi 56 v3 vSt_56 s0 _ hv H.size) (cwV 1 hts gX0_overBehindWinter_X8_turn rfl rfl rfl (by decide +kernel) ⟨Nat.le_of_ble_eq_true rfl, Nat.le_of_ble_eq_true rfl⟩) ⟨pre_blind, r_recv hK.1 hP 56 (ltSt_0 vSt_56) (ceSt_0 vSt_56 (s0 56)) rfl, pre_of hP hK⟩ rfl rfl hl.1 rfl (lv_room (Nat.le_of_ble_eq_true rfl)) dX0_overBehindWinter_68 ⟨Nat.zero_le _, Nat.zero_le _⟩) hS (fun s4 H locs hv hP hS => ?_)
      have hD := wd_D (s := s) (cel := celC ad cA) (σ := s4) hi
      exact hY 71 [x6] [v2] s4 hv _ _ rfl H locs ls hP hS (lv_sub hl [2, 3, 1, 4] rfl)
set_option maxHeartbeats 4000000 in
set_option maxRecDepth 100000 in
theorem w_X0_overBehindWinter_71 {p : Program} {l : Launch} {e : Env} {s : State} {m : MethodId} {args : Array Value} {below : List Frame} {meth : Method} {c : Code} {dC : Nat → ClassId} {dI : Nat → Nat → Nat} {ad : Nat → Nat} {cA cZ : ClassId} (hi : Inj 81 ad) (h1 : Nat) (a2 : Int32) (a3 : Int32) (hh1 : isSt h1) (C0 : Cx cX0_overBehindWinter RX0 wsX0_overBehindWinter 8 (some .int) p s m args meth c) (hK : KK dC dI cA cZ s) (Q : Int32 → St → Prop) (Y : Nat → List Int32 → List Int64 → St → Prop) (hY : ∀ P xs ys σ, Y P xs ys σ → XX p l e ({ frames := 3, cells := 0, slots := 0, locals := 69 } : Room) s m args below meth c (dC, dI) 81 ad (celC ad cA) 8 (ZI below args s (dC, dI) 81 ad (celC ad cA) Q) (lay_X0_overBehindWinter ad h1 a2 a3) P xs ys σ) (x6 : Int32) (y4 : Int64) (s0 : St) (hv : B_X0_overBehindWinter_71 h1 a2 a3 Q Y x6 y4 s0) {H : Heap} {locs : List Loc} {ls : Array Slot} (hP : va_P (dC, dI) vwCl (wd 81 ad (celC ad cA) s0) H) (hS : va_S (AA 81 ad s.heap.size) s.heap H locs) (hl : lv_has ls 8 [(0, .ref (ad 55)), (3, .int a3), (4, .long y4), (6, .int x6)]) : W p l e ({ frames := 3, cells := 0, slots := 0, locals := 69 } : Room) s m args below meth c H locs 0 0 (ZI below args s (dC, dI) 81 ad (celC ad cA) Q) (F0 m 71 ls []) := by
  obtain ⟨hx, hb, hml, hown, hts, hr, hlocks⟩ := C0
  have hD := wd_D (s := s) (cel := celC ad cA) (σ := s0) hi
  unfold B_X0_overBehindWinter_71 at hv
  refine lv_aload_n hx hb dX0_overBehindWinter_71 rfl (lv_at hl 0 rfl) ?_
  refine r_get hx hb hts (iwX0_overBehindWinter_X0) hown hK.1 hP 55 (by decide) (ceFo_0 (s0 55)) rfl 0 (by decide) (hts _ kX0_overBehindWinter_1) (v := .ref (ad 56)) rfl dX0_overBehindWinter_72 ?_
  refine r_cv (va_runV (As := []) (rest := []) ⟨hx, hb, hml, hown, hts⟩ (c_X8_passHour hi 56 vSt_56 s0 _ hv H.size) (cwV 0 hts gX0_overBehindWinter_X8_passHour rfl rfl rfl (by decide +kernel) ⟨Nat.le_of_ble_eq_true rfl, Nat.le_of_ble_eq_true rfl⟩) ⟨pre_blind, r_recv hK.1 hP 56 (ltSt_0 vSt_56) (ceSt_0 vSt_56 (s0 56)) rfl, pre_of hP hK⟩ rfl rfl hl.1 rfl (lv_room (Nat.le_of_ble_eq_true rfl)) dX0_overBehindWinter_75 ⟨Nat.zero_le _, Nat.zero_le _⟩) hS (fun s1 H locs hv hP hS => ?_)
  have hD := wd_D (s := s) (cel := celC ad cA) (σ := s1) hi
  refine lv_iinc (v := x6 + 1) (lv' := [(6, .int (x6 + 1)), (0, .ref (ad 55)), (3, .int a3), (4, .long y4)]) hx hb dX0_overBehindWinter_78 hl (k := 3) rfl rfl (by decide) rfl (fun ls hl => ?_)
  refine lv_goto (tgt := 15) hx hb dX0_overBehindWinter_81 (by decide) ?_
  exact hY 15 [x6 + 1] [y4] s1 hv _ _ rfl H locs ls hP hS (lv_sub hl [1, 2, 3, 0] rfl)
set_option maxHeartbeats 4000000 in
theorem y_X0_overBehindWinter {p : Program} {l : Launch} {e : Env} {s : State} {m : MethodId} {args : Array Value} {below : List Frame} {meth : Method} {c : Code} {dC : Nat → ClassId} {dI : Nat → Nat → Nat} {ad : Nat → Nat} {cA cZ : ClassId} (hi : Inj 81 ad) (h1 : Nat) (a2 : Int32) (a3 : Int32) (hh1 : isSt h1) (C0 : Cx cX0_overBehindWinter RX0 wsX0_overBehindWinter 8 (some .int) p s m args meth c) (hK : KK dC dI cA cZ s) (Q : Int32 → St → Prop) : ∀ P xs ys σ, R_X0_overBehindWinter h1 a2 a3 Q P xs ys σ → XX p l e ({ frames := 3, cells := 0, slots := 0, locals := 69 } : Room) s m args below meth c (dC, dI) 81 ad (celC ad cA) 8 (ZI below args s (dC, dI) 81 ad (celC ad cA) Q) (lay_X0_overBehindWinter ad h1 a2 a3) P xs ys σ := by
  refine Fx.elim _ (fun P xs ys σ Y hY hB => ?_)
  rcases hB with ⟨rfl, x6, y4, rfl, rfl, hB⟩ | ⟨rfl, x6, y4, rfl, rfl, hB⟩
  · intro lv st he H locs ls hP hS hl
    cases he
    exact w_X0_overBehindWinter_15 hi h1 a2 a3 hh1 C0 hK Q Y hY x6 y4 σ hB hP hS hl
  · intro lv st he H locs ls hP hS hl
    cases he
    exact w_X0_overBehindWinter_71 hi h1 a2 a3 hh1 C0 hK Q Y hY x6 y4 σ hB hP hS hl
set_option maxHeartbeats 4000000 in
theorem c_X0_overBehindWinter {l : Launch} {dC : Nat → ClassId} {dI : Nat → Nat → Nat} {ad : Nat → Nat} {cA cZ : ClassId} (hi : Inj 81 ad) (h1 : Nat) (a2 : Int32) (a3 : Int32) (hh1 : isSt h1) (s0 : St) (Q : Int32 → St → Prop) (hv : V_X0_overBehindWinter h1 a2 a3 s0 Q) (sz : Nat) : Met l yX0_overBehindWinter wsX0_overBehindWinter ({ frames := 3, cells := 0, slots := 0, locals := 69 } : Room) (va_Pc [.ref (ad 55), .ref (ad h1), .int a2, .int a3] (PW dC dI ad cA cZ 81 (celC ad cA) sz s0)) (va_Qi Q (fun u t => va_P (dC, dI) vwCl (wd 81 ad (celC ad cA) u) t.heap) (AA 81 ad sz)) 0 0 (AA 81 ad sz) := by
  refine Met.ofW (cc := cX0_overBehindWinter) (maxL := 8) (ret := (some .int)) (by decide) rfl ?_
  intro p e s m args below meth c s₁ B hml hv0
  obtain ⟨rfl, hsz, hP, hK⟩ := hv0
  subst hsz
  have C0 : Cx cX0_overBehindWinter RX0 wsX0_overBehindWinter 8 (some .int) p s m ([.ref (ad 55), .ref (ad h1), .int a2, .int a3] : List Value).toArray meth c := ⟨B.exec, B.bytes, hml, findClass_of_methodNamed B.named, atoms_spec (ws := wsX0_overBehindWinter) B.pre, B.returns, B.notSynchronized⟩
  have hl := lv_entry ([.ref (ad 55), .ref (ad h1), .int a2, .int a3]) (n := 8) (Nat.le_of_ble_eq_true rfl)
  rw [lg_entry_eq]
  generalize (lg_sl ([.ref (ad 55), .ref (ad h1), .int a2, .int a3]) ++ List.replicate (8 - (lg_sl ([.ref (ad 55), .ref (ad h1), .int a2, .int a3])).length) Slot.unset).toArray = ls at hl ⊢
  have hl : lv_has ls 8 [(0, .ref (ad 55)), (1, .ref (ad h1)), (2, .int a2), (3, .int a3)] := hl
  exact w_X0_overBehindWinter_e hi h1 a2 a3 hh1 C0 hK Q (R_X0_overBehindWinter h1 a2 a3 Q) (y_X0_overBehindWinter hi h1 a2 a3 hh1 C0 hK Q)  s0 hv hP va_S.rf hl
def lay_X10_winters (ad : Nat → Nat) (a1 : Int32) (a2 : Int32) : Nat → List Int32 → List Int64 → Option (List (Nat × Value) × List Value) := fun P xs ys => match P, xs, ys with
  | _, _, _ => none
set_option maxHeartbeats 4000000 in
set_option maxRecDepth 100000 in
theorem w_X10_winters_e {p : Program} {l : Launch} {e : Env} {s : State} {m : MethodId} {args : Array Value} {below : List Frame} {meth : Method} {c : Code} {dC : Nat → ClassId} {dI : Nat → Nat → Nat} {ad : Nat → Nat} {cA cZ : ClassId} (hi : Inj 81 ad) (a1 : Int32) (a2 : Int32)  (C0 : Cx cX10_winters RX10 wsX10_winters 3 (some .int) p s m args meth c) (hK : KK dC dI cA cZ s) (Q : Int32 → St → Prop) (Y : Nat → List Int32 → List Int64 → St → Prop) (hY : ∀ P xs ys σ, Y P xs ys σ → XX p l e ({ frames := 4, cells := 0, slots := 0, locals := 96 } : Room) s m args below meth c (dC, dI) 81 ad (celC ad cA) 3 (ZI below args s (dC, dI) 81 ad (celC ad cA) Q) (lay_X10_winters ad a1 a2) P xs ys σ)  (s0 : St) (hv : B_X10_winters_e a1 a2 Q Y  s0) {H : Heap} {locs : List Loc} {ls : Array Slot} (hP : va_P (dC, dI) vwCl (wd 81 ad (celC ad cA) s0) H) (hS : va_S (AA 81 ad s.heap.size) s.heap H locs) (hl : lv_has ls 3 [(0, .ref (ad 0)), (1, .int a1), (2, .int a2)]) : W p l e ({ frames := 4, cells := 0, slots := 0, locals := 96 } : Room) s m args below meth c H locs 0 0 (ZI below args s (dC, dI) 81 ad (celC ad cA) Q) (F0 m 0 ls []) := by
  obtain ⟨hx, hb, hml, hown, hts, hr, hlocks⟩ := C0
  have hD := wd_D (s := s) (cel := celC ad cA) (σ := s0) hi
  unfold B_X10_winters_e at hv
  refine lv_iload_n hx hb dX10_winters_0 rfl (lv_at hl 1 rfl) ?_
  refine lv_iconst (v := 0) hx hb dX10_winters_1 (by decide) ?_
  refine lv_ldcw (v := 999999) hx hb hown (hts _ kX10_winters_1) dX10_winters_2 ?_
  refine r_ci (va_runS (As := [.int a1, .int 0, .int 999999]) (rest := []) ⟨hx, hb, hml, hown, hts⟩ (c_X10_within hi a1 0 999999 s0 _ hv H.size) (va_cwS 3 hts gX10_winters_X10_within rfl rfl rfl (by decide +kernel) ⟨Nat.le_of_ble_eq_true rfl, Nat.le_of_ble_eq_true rfl⟩) ⟨pre_blind, pre_of hP hK⟩ rfl rfl hl.1 rfl (lv_room (Nat.le_of_ble_eq_true rfl)) dX10_winters_5 ⟨Nat.zero_le _, Nat.zero_le _⟩) hS (fun r1 s1 H locs hv hP hS => ?_)
  obtain ⟨hz_r1, hv⟩ := hv
  have hD := wd_D (s := s) (cel := celC ad cA) (σ := s1) hi
  refine lv_if_eq (tgt := 21) hx hb dX10_winters_8 (by decide) (fun c8 => ?_) (fun c8 => ?_)
  · have hv := hv.1 c8
    refine lv_aload_n hx hb dX10_winters_21 rfl (lv_at hl 0 rfl) ?_
    refine r_ci (va_runV (As := []) (rest := []) ⟨hx, hb, hml, hown, hts⟩ (c_X10_bad hi  s1 _ hv H.size) (cwV 0 hts gX10_winters_X10_bad rfl rfl rfl (by decide +kernel) ⟨Nat.le_of_ble_eq_true rfl, Nat.le_of_ble_eq_true rfl⟩) ⟨pre_blind, r_recv hK.1 hP 0 (by decide) (ceGR_0 (s1 0)) rfl, pre_of hP hK⟩ rfl rfl hl.1 rfl (lv_room (Nat.le_of_ble_eq_true rfl)) dX10_winters_22 ⟨Nat.zero_le _, Nat.zero_le _⟩) hS (fun r2 s2 H locs hv hP hS => ?_)
    have hD := wd_D (s := s) (cel := celC ad cA) (σ := s2) hi
    exact r_iret hx hb hr hlocks hv hP hS dX10_winters_25
  · have hv := hv.2 c8
    refine lv_iload_n hx hb dX10_winters_11 rfl (lv_at hl 2 rfl) ?_
    refine lv_iconst (v := 0) hx hb dX10_winters_12 (by decide) ?_
    refine lv_bipush (v := 60) hx hb dX10_winters_13 (by decide) ?_
    refine r_ci (va_runS (As := [.int a2, .int 0, .int 60]) (rest := []) ⟨hx, hb, hml, hown, hts⟩ (c_X10_within hi a2 0 60 s1 _ hv H.size) (va_cwS 3 hts gX10_winters_X10_within rfl rfl rfl (by decide +kernel) ⟨Nat.le_of_ble_eq_true rfl, Nat.le_of_ble_eq_true rfl⟩) ⟨pre_blind, pre_of hP hK⟩ rfl rfl hl.1 rfl (lv_room (Nat.le_of_ble_eq_true rfl)) dX10_winters_15 ⟨Nat.zero_le _, Nat.zero_le _⟩) hS (fun r3 s3 H locs hv hP hS => ?_)
    obtain ⟨hz_r3, hv⟩ := hv
    have hD := wd_D (s := s) (cel := celC ad cA) (σ := s3) hi
    refine lv_if_ne (tgt := 26) hx hb dX10_winters_18 (by decide) (fun c18 => ?_) (fun c18 => ?_)
    · have hv := hv.1 c18
      refine lv_aload_n hx hb dX10_winters_26 rfl (lv_at hl 0 rfl) ?_
      refine r_get hx hb hts (iwX10_winters_X10) hown hK.1 hP 0 (by decide) (ceGR_0 (s3 0)) rfl 3 (by decide) (hts _ kX10_winters_2) (v := .ref (ad 55)) rfl dX10_winters_27 ?_
      refine lv_aload_n hx hb dX10_winters_30 rfl (lv_at hl 0 rfl) ?_
      refine r_get hx hb hts (iwX10_winters_X10) hown hK.1 hP 0 (by decide) (ceGR_0 (s3 0)) rfl 0 (by decide) (hts _ kX10_winters_3) (v := .ref (ad 1)) rfl dX10_winters_31 ?_
      refine r_get hx hb hts (iwX10_winters_X7) hown hK.1 hP 1 (ltSc_0 vSc_1) (ceSc_0 vSc_1 (s3 1)) rfl 0 (by decide) (hts _ kX10_winters_4) (v := .ref (ad 2)) rfl dX10_winters_34 ?_
      refine lv_iload_n hx hb dX10_winters_37 rfl (lv_at hl 1 rfl) ?_
      refine lv_iload_n hx hb dX10_winters_38 rfl (lv_at hl 2 rfl) ?_
      refine r_ci (va_runV (As := [.ref (ad 2), .int a1, .int a2]) (rest := []) ⟨hx, hb, hml, hown, hts⟩ (c_X0_overBehindWinter hi 2 a1 a2 (vSc1 vSc_1) s3 _ hv H.size) (cwV 3 hts gX10_winters_X0_overBehindWinter rfl rfl rfl (by decide +kernel) ⟨Nat.le_of_ble_eq_true rfl, Nat.le_of_ble_eq_true rfl⟩) ⟨pre_blind, r_recv hK.1 hP 55 (by decide) (ceFo_0 (s3 55)) rfl, pre_of hP hK⟩ rfl rfl hl.1 rfl (lv_room (Nat.le_of_ble_eq_true rfl)) dX10_winters_39 ⟨Nat.zero_le _, Nat.zero_le _⟩) hS (fun r4 s4 H locs hv hP hS => ?_)
      have hD := wd_D (s := s) (cel := celC ad cA) (σ := s4) hi
      exact r_iret hx hb hr hlocks hv hP hS dX10_winters_42
    · have hv := hv.2 c18
      refine lv_aload_n hx hb dX10_winters_21 rfl (lv_at hl 0 rfl) ?_
      refine r_ci (va_runV (As := []) (rest := []) ⟨hx, hb, hml, hown, hts⟩ (c_X10_bad hi  s3 _ hv H.size) (cwV 0 hts gX10_winters_X10_bad rfl rfl rfl (by decide +kernel) ⟨Nat.le_of_ble_eq_true rfl, Nat.le_of_ble_eq_true rfl⟩) ⟨pre_blind, r_recv hK.1 hP 0 (by decide) (ceGR_0 (s3 0)) rfl, pre_of hP hK⟩ rfl rfl hl.1 rfl (lv_room (Nat.le_of_ble_eq_true rfl)) dX10_winters_22 ⟨Nat.zero_le _, Nat.zero_le _⟩) hS (fun r5 s5 H locs hv hP hS => ?_)
      have hD := wd_D (s := s) (cel := celC ad cA) (σ := s5) hi
      exact r_iret hx hb hr hlocks hv hP hS dX10_winters_25
set_option maxHeartbeats 4000000 in
theorem y_X10_winters {p : Program} {l : Launch} {e : Env} {s : State} {m : MethodId} {args : Array Value} {below : List Frame} {meth : Method} {c : Code} {dC : Nat → ClassId} {dI : Nat → Nat → Nat} {ad : Nat → Nat} {cA cZ : ClassId} (hi : Inj 81 ad) (a1 : Int32) (a2 : Int32)  (C0 : Cx cX10_winters RX10 wsX10_winters 3 (some .int) p s m args meth c) (hK : KK dC dI cA cZ s) (Q : Int32 → St → Prop) : ∀ P xs ys σ, R_X10_winters a1 a2 Q P xs ys σ → XX p l e ({ frames := 4, cells := 0, slots := 0, locals := 96 } : Room) s m args below meth c (dC, dI) 81 ad (celC ad cA) 3 (ZI below args s (dC, dI) 81 ad (celC ad cA) Q) (lay_X10_winters ad a1 a2) P xs ys σ := by
  refine Fx.elim _ (fun P xs ys σ Y hY hB => ?_)
  exact hB.elim
set_option maxHeartbeats 4000000 in
theorem c_X10_winters {l : Launch} {dC : Nat → ClassId} {dI : Nat → Nat → Nat} {ad : Nat → Nat} {cA cZ : ClassId} (hi : Inj 81 ad) (a1 : Int32) (a2 : Int32)  (s0 : St) (Q : Int32 → St → Prop) (hv : V_X10_winters a1 a2 s0 Q) (sz : Nat) : Met l yX10_winters wsX10_winters ({ frames := 4, cells := 0, slots := 0, locals := 96 } : Room) (va_Pc [.ref (ad 0), .int a1, .int a2] (PW dC dI ad cA cZ 81 (celC ad cA) sz s0)) (va_Qi Q (fun u t => va_P (dC, dI) vwCl (wd 81 ad (celC ad cA) u) t.heap) (AA 81 ad sz)) 0 0 (AA 81 ad sz) := by
  refine Met.ofW (cc := cX10_winters) (maxL := 3) (ret := (some .int)) (by decide) rfl ?_
  intro p e s m args below meth c s₁ B hml hv0
  obtain ⟨rfl, hsz, hP, hK⟩ := hv0
  subst hsz
  have C0 : Cx cX10_winters RX10 wsX10_winters 3 (some .int) p s m ([.ref (ad 0), .int a1, .int a2] : List Value).toArray meth c := ⟨B.exec, B.bytes, hml, findClass_of_methodNamed B.named, atoms_spec (ws := wsX10_winters) B.pre, B.returns, B.notSynchronized⟩
  have hl := lv_entry ([.ref (ad 0), .int a1, .int a2]) (n := 3) (Nat.le_of_ble_eq_true rfl)
  rw [lg_entry_eq]
  generalize (lg_sl ([.ref (ad 0), .int a1, .int a2]) ++ List.replicate (3 - (lg_sl ([.ref (ad 0), .int a1, .int a2])).length) Slot.unset).toArray = ls at hl ⊢
  have hl : lv_has ls 3 [(0, .ref (ad 0)), (1, .int a1), (2, .int a2)] := hl
  exact w_X10_winters_e hi a1 a2  C0 hK Q (R_X10_winters a1 a2 Q) (y_X10_winters hi a1 a2  C0 hK Q)  s0 hv hP va_S.rf hl
def lay_X10_part (ad : Nat → Nat) (a1 : Int32) : Nat → List Int32 → List Int64 → Option (List (Nat × Value) × List Value) := fun P xs ys => match P, xs, ys with
  | _, _, _ => none
set_option maxHeartbeats 4000000 in
set_option maxRecDepth 100000 in
theorem w_X10_part_e {p : Program} {l : Launch} {e : Env} {s : State} {m : MethodId} {args : Array Value} {below : List Frame} {meth : Method} {c : Code} {dC : Nat → ClassId} {dI : Nat → Nat → Nat} {ad : Nat → Nat} {cA cZ : ClassId} (hi : Inj 81 ad) (a1 : Int32)  (C0 : Cx cX10_part RX10 wsX10_part 2 (some .long) p s m args meth c) (hK : KK dC dI cA cZ s) (Q : Int64 → St → Prop) (Y : Nat → List Int32 → List Int64 → St → Prop) (hY : ∀ P xs ys σ, Y P xs ys σ → XX p l e ({ frames := 1, cells := 0, slots := 0, locals := 20 } : Room) s m args below meth c (dC, dI) 81 ad (celC ad cA) 2 (ZL below args s (dC, dI) 81 ad (celC ad cA) Q) (lay_X10_part ad a1) P xs ys σ)  (s0 : St) (hv : B_X10_part_e a1 Q Y  s0) {H : Heap} {locs : List Loc} {ls : Array Slot} (hP : va_P (dC, dI) vwCl (wd 81 ad (celC ad cA) s0) H) (hS : va_S (AA 81 ad s.heap.size) s.heap H locs) (hl : lv_has ls 2 [(0, .ref (ad 0)), (1, .int a1)]) : W p l e ({ frames := 1, cells := 0, slots := 0, locals := 20 } : Room) s m args below meth c H locs 0 0 (ZL below args s (dC, dI) 81 ad (celC ad cA) Q) (F0 m 0 ls []) := by
  obtain ⟨hx, hb, hml, hown, hts, hr, hlocks⟩ := C0
  have hD := wd_D (s := s) (cel := celC ad cA) (σ := s0) hi
  unfold B_X10_part_e at hv
  refine lv_iload_n hx hb dX10_part_0 rfl (lv_at hl 1 rfl) ?_
  by_cases c1_0 : a1 = 0
  · have hv := hv.1 c1_0
    refine lv_lookup (off := 27) (tgt := 28) hx hb dX10_part_1 (by decide) (by rw [c1_0]; rfl) (by decide) ?_
    refine lv_aload_n hx hb dX10_part_28 rfl (lv_at hl 0 rfl) ?_
    refine r_get hx hb hts (iwX10_part_X10) hown hK.1 hP 0 (by decide) (ceGR_0 (s0 0)) rfl 8 (by decide) (hts _ kX10_part_1) (v := .int (s0 0 8)) rfl dX10_part_29 ?_
    refine lv_i2l (v := (s0 0 8).toInt64) hx hb dX10_part_32 rfl ?_
    exact r_lret hx hb hr hlocks hv hP hS dX10_part_33
  have hv := hv.2 c1_0
  by_cases c1_1 : a1 = 1
  · have hv := hv.1 c1_1
    refine lv_lookup (off := 33) (tgt := 34) hx hb dX10_part_1 (by decide) (by rw [c1_1]; rfl) (by decide) ?_
    refine lv_aload_n hx hb dX10_part_34 rfl (lv_at hl 0 rfl) ?_
    refine r_get hx hb hts (iwX10_part_X10) hown hK.1 hP 0 (by decide) (ceGR_0 (s0 0)) rfl 9 (by decide) (hts _ kX10_part_2) (v := .int (s0 0 9)) rfl dX10_part_35 ?_
    refine lv_i2l (v := (s0 0 9).toInt64) hx hb dX10_part_38 rfl ?_
    exact r_lret hx hb hr hlocks hv hP hS dX10_part_39
  have hv := hv.2 c1_1
  refine lv_lookup (off := 39) (tgt := 40) hx hb dX10_part_1 (by decide) (by show Op.lookupswitch.offset [(0, 27), (1, 33)] 39 _ = 39; rw [lv_osw c1_0 (by decide), lv_osw c1_1 (by decide)]; rfl) (by decide) ?_
  refine lv_aload_n hx hb dX10_part_40 rfl (lv_at hl 0 rfl) ?_
  refine r_ci (va_runV (As := []) (rest := []) ⟨hx, hb, hml, hown, hts⟩ (c_X10_bad hi  s0 _ hv H.size) (cwV 0 hts gX10_part_X10_bad rfl rfl rfl (by decide +kernel) ⟨Nat.le_of_ble_eq_true rfl, Nat.le_of_ble_eq_true rfl⟩) ⟨pre_blind, r_recv hK.1 hP 0 (by decide) (ceGR_0 (s0 0)) rfl, pre_of hP hK⟩ rfl rfl hl.1 rfl (lv_room (Nat.le_of_ble_eq_true rfl)) dX10_part_41 ⟨Nat.zero_le _, Nat.zero_le _⟩) hS (fun r1 s1 H locs hv hP hS => ?_)
  have hD := wd_D (s := s) (cel := celC ad cA) (σ := s1) hi
  refine lv_i2l (v := r1.toInt64) hx hb dX10_part_44 rfl ?_
  exact r_lret hx hb hr hlocks hv hP hS dX10_part_45
set_option maxHeartbeats 4000000 in
theorem y_X10_part {p : Program} {l : Launch} {e : Env} {s : State} {m : MethodId} {args : Array Value} {below : List Frame} {meth : Method} {c : Code} {dC : Nat → ClassId} {dI : Nat → Nat → Nat} {ad : Nat → Nat} {cA cZ : ClassId} (hi : Inj 81 ad) (a1 : Int32)  (C0 : Cx cX10_part RX10 wsX10_part 2 (some .long) p s m args meth c) (hK : KK dC dI cA cZ s) (Q : Int64 → St → Prop) : ∀ P xs ys σ, R_X10_part a1 Q P xs ys σ → XX p l e ({ frames := 1, cells := 0, slots := 0, locals := 20 } : Room) s m args below meth c (dC, dI) 81 ad (celC ad cA) 2 (ZL below args s (dC, dI) 81 ad (celC ad cA) Q) (lay_X10_part ad a1) P xs ys σ := by
  refine Fx.elim _ (fun P xs ys σ Y hY hB => ?_)
  exact hB.elim
set_option maxHeartbeats 4000000 in
theorem c_X10_part {l : Launch} {dC : Nat → ClassId} {dI : Nat → Nat → Nat} {ad : Nat → Nat} {cA cZ : ClassId} (hi : Inj 81 ad) (a1 : Int32)  (s0 : St) (Q : Int64 → St → Prop) (hv : V_X10_part a1 s0 Q) (sz : Nat) : Met l yX10_part wsX10_part ({ frames := 1, cells := 0, slots := 0, locals := 20 } : Room) (va_Pc [.ref (ad 0), .int a1] (PW dC dI ad cA cZ 81 (celC ad cA) sz s0)) (va_Ql Q (fun u t => va_P (dC, dI) vwCl (wd 81 ad (celC ad cA) u) t.heap) (AA 81 ad sz)) 0 0 (AA 81 ad sz) := by
  refine Met.ofW (cc := cX10_part) (maxL := 2) (ret := (some .long)) (by decide) rfl ?_
  intro p e s m args below meth c s₁ B hml hv0
  obtain ⟨rfl, hsz, hP, hK⟩ := hv0
  subst hsz
  have C0 : Cx cX10_part RX10 wsX10_part 2 (some .long) p s m ([.ref (ad 0), .int a1] : List Value).toArray meth c := ⟨B.exec, B.bytes, hml, findClass_of_methodNamed B.named, atoms_spec (ws := wsX10_part) B.pre, B.returns, B.notSynchronized⟩
  have hl := lv_entry ([.ref (ad 0), .int a1]) (n := 2) (Nat.le_of_ble_eq_true rfl)
  rw [lg_entry_eq]
  generalize (lg_sl ([.ref (ad 0), .int a1]) ++ List.replicate (2 - (lg_sl ([.ref (ad 0), .int a1])).length) Slot.unset).toArray = ls at hl ⊢
  have hl : lv_has ls 2 [(0, .ref (ad 0)), (1, .int a1)] := hl
  exact w_X10_part_e hi a1  C0 hK Q (R_X10_part a1 Q) (y_X10_part hi a1  C0 hK Q)  s0 hv hP va_S.rf hl
def lay_X10_imageOf (ad : Nat → Nat) (a1 : Int32) : Nat → List Int32 → List Int64 → Option (List (Nat × Value) × List Value) := fun P xs ys => match P, xs, ys with
  | _, _, _ => none
set_option maxHeartbeats 4000000 in
set_option maxRecDepth 100000 in
theorem w_X10_imageOf_e {p : Program} {l : Launch} {e : Env} {s : State} {m : MethodId} {args : Array Value} {below : List Frame} {meth : Method} {c : Code} {dC : Nat → ClassId} {dI : Nat → Nat → Nat} {ad : Nat → Nat} {cA cZ : ClassId} (hi : Inj 81 ad) (a1 : Int32)  (C0 : Cx cX10_imageOf RX10 wsX10_imageOf 2 (some (.object "GloveRail$Scene")) p s m args meth c) (hK : KK dC dI cA cZ s) (Q : Nat → St → Prop) (Y : Nat → List Int32 → List Int64 → St → Prop) (hY : ∀ P xs ys σ, Y P xs ys σ → XX p l e ({ frames := 0, cells := 0, slots := 0, locals := 0 } : Room) s m args below meth c (dC, dI) 81 ad (celC ad cA) 2 (ZR below args s (dC, dI) 81 ad (celC ad cA) Q) (lay_X10_imageOf ad a1) P xs ys σ)  (s0 : St) (hv : B_X10_imageOf_e a1 Q Y  s0) {H : Heap} {locs : List Loc} {ls : Array Slot} (hP : va_P (dC, dI) vwCl (wd 81 ad (celC ad cA) s0) H) (hS : va_S (AA 81 ad s.heap.size) s.heap H locs) (hl : lv_has ls 2 [(0, .ref (ad 0)), (1, .int a1)]) : W p l e ({ frames := 0, cells := 0, slots := 0, locals := 0 } : Room) s m args below meth c H locs 0 0 (ZR below args s (dC, dI) 81 ad (celC ad cA) Q) (F0 m 0 ls []) := by
  obtain ⟨hx, hb, hml, hown, hts, hr, hlocks⟩ := C0
  have hD := wd_D (s := s) (cel := celC ad cA) (σ := s0) hi
  unfold B_X10_imageOf_e at hv
  refine lv_iload_n hx hb dX10_imageOf_0 rfl (lv_at hl 1 rfl) ?_
  refine lv_if_ne (tgt := 11) hx hb dX10_imageOf_1 (by decide) (fun c1 => ?_) (fun c1 => ?_)
  · have hv := hv.1 c1
    refine lv_aload_n hx hb dX10_imageOf_11 rfl (lv_at hl 0 rfl) ?_
    refine r_get hx hb hts (iwX10_imageOf_X10) hown hK.1 hP 0 (by decide) (ceGR_0 (s0 0)) rfl 2 (by decide) (hts _ kX10_imageOf_2) (v := .ref (ad 37)) rfl dX10_imageOf_12 ?_
    exact r_aret hx hb hr hlocks (Or.inl ⟨_, rfl⟩) vSc_37 hv hP hS dX10_imageOf_15
  · have hv := hv.2 c1
    refine lv_aload_n hx hb dX10_imageOf_4 rfl (lv_at hl 0 rfl) ?_
    refine r_get hx hb hts (iwX10_imageOf_X10) hown hK.1 hP 0 (by decide) (ceGR_0 (s0 0)) rfl 1 (by decide) (hts _ kX10_imageOf_1) (v := .ref (ad 19)) rfl dX10_imageOf_5 ?_
    refine lv_goto (tgt := 15) hx hb dX10_imageOf_8 (by decide) ?_
    exact r_aret hx hb hr hlocks (Or.inl ⟨_, rfl⟩) vSc_19 hv hP hS dX10_imageOf_15
set_option maxHeartbeats 4000000 in
theorem y_X10_imageOf {p : Program} {l : Launch} {e : Env} {s : State} {m : MethodId} {args : Array Value} {below : List Frame} {meth : Method} {c : Code} {dC : Nat → ClassId} {dI : Nat → Nat → Nat} {ad : Nat → Nat} {cA cZ : ClassId} (hi : Inj 81 ad) (a1 : Int32)  (C0 : Cx cX10_imageOf RX10 wsX10_imageOf 2 (some (.object "GloveRail$Scene")) p s m args meth c) (hK : KK dC dI cA cZ s) (Q : Nat → St → Prop) : ∀ P xs ys σ, R_X10_imageOf a1 Q P xs ys σ → XX p l e ({ frames := 0, cells := 0, slots := 0, locals := 0 } : Room) s m args below meth c (dC, dI) 81 ad (celC ad cA) 2 (ZR below args s (dC, dI) 81 ad (celC ad cA) Q) (lay_X10_imageOf ad a1) P xs ys σ := by
  refine Fx.elim _ (fun P xs ys σ Y hY hB => ?_)
  exact hB.elim
set_option maxHeartbeats 4000000 in
theorem c_X10_imageOf {l : Launch} {dC : Nat → ClassId} {dI : Nat → Nat → Nat} {ad : Nat → Nat} {cA cZ : ClassId} (hi : Inj 81 ad) (a1 : Int32)  (s0 : St) (Q : Nat → St → Prop) (hv : V_X10_imageOf a1 s0 Q) (sz : Nat) : Met l yX10_imageOf wsX10_imageOf ({ frames := 0, cells := 0, slots := 0, locals := 0 } : Room) (va_Pc [.ref (ad 0), .int a1] (PW dC dI ad cA cZ 81 (celC ad cA) sz s0)) (va_Qr (qR Q) (fun u a t => a = ad u.1 ∧ va_P (dC, dI) vwCl (wd 81 ad (celC ad cA) u.2) t.heap) (AA 81 ad sz)) 0 0 (AA 81 ad sz) := by
  refine Met.ofW (cc := cX10_imageOf) (maxL := 2) (ret := (some (.object "GloveRail$Scene"))) (by decide) rfl ?_
  intro p e s m args below meth c s₁ B hml hv0
  obtain ⟨rfl, hsz, hP, hK⟩ := hv0
  subst hsz
  have C0 : Cx cX10_imageOf RX10 wsX10_imageOf 2 (some (.object "GloveRail$Scene")) p s m ([.ref (ad 0), .int a1] : List Value).toArray meth c := ⟨B.exec, B.bytes, hml, findClass_of_methodNamed B.named, atoms_spec (ws := wsX10_imageOf) B.pre, B.returns, B.notSynchronized⟩
  have hl := lv_entry ([.ref (ad 0), .int a1]) (n := 2) (Nat.le_of_ble_eq_true rfl)
  rw [lg_entry_eq]
  generalize (lg_sl ([.ref (ad 0), .int a1]) ++ List.replicate (2 - (lg_sl ([.ref (ad 0), .int a1])).length) Slot.unset).toArray = ls at hl ⊢
  have hl : lv_has ls 2 [(0, .ref (ad 0)), (1, .int a1)] := hl
  exact w_X10_imageOf_e hi a1  C0 hK Q (R_X10_imageOf a1 Q) (y_X10_imageOf hi a1  C0 hK Q)  s0 hv hP va_S.rf hl
def lay_X4_copy (ad : Nat → Nat) (h0 : Nat) (h1 : Nat) : Nat → List Int32 → List Int64 → Option (List (Nat × Value) × List Value) := fun P xs ys => match P, xs, ys with
  | _, _, _ => none
set_option maxHeartbeats 4000000 in
set_option maxRecDepth 100000 in
theorem w_X4_copy_e {p : Program} {l : Launch} {e : Env} {s : State} {m : MethodId} {args : Array Value} {below : List Frame} {meth : Method} {c : Code} {dC : Nat → ClassId} {dI : Nat → Nat → Nat} {ad : Nat → Nat} {cA cZ : ClassId} (hi : Inj 81 ad) (h0 : Nat) (h1 : Nat) (hh0 : isPa h0) (hh1 : isPa h1) (C0 : Cx cX4_copy RX4 wsX4_copy 2 none p s m args meth c) (hK : KK dC dI cA cZ s) (Q : St → Prop) (Y : Nat → List Int32 → List Int64 → St → Prop) (hY : ∀ P xs ys σ, Y P xs ys σ → XX p l e ({ frames := 1, cells := 0, slots := 0, locals := 35 } : Room) s m args below meth c (dC, dI) 81 ad (celC ad cA) 2 (ZV below args s (dC, dI) 81 ad (celC ad cA) Q) (lay_X4_copy ad h0 h1) P xs ys σ)  (s0 : St) (hv : B_X4_copy_e h0 h1 Q Y  s0) {H : Heap} {locs : List Loc} {ls : Array Slot} (hP : va_P (dC, dI) vwCl (wd 81 ad (celC ad cA) s0) H) (hS : va_S (AA 81 ad s.heap.size) s.heap H locs) (hl : lv_has ls 2 [(0, .ref (ad h0)), (1, .ref (ad h1))]) : W p l e ({ frames := 1, cells := 0, slots := 0, locals := 35 } : Room) s m args below meth c H locs 0 0 (ZV below args s (dC, dI) 81 ad (celC ad cA) Q) (F0 m 0 ls []) := by
  obtain ⟨hx, hb, hml, hown, hts, hr, hlocks⟩ := C0
  have hD := wd_D (s := s) (cel := celC ad cA) (σ := s0) hi
  unfold B_X4_copy_e at hv
  refine lv_aload_n hx hb dX4_copy_0 rfl (lv_at hl 1 rfl) ?_
  refine r_get hx hb hts (iwX4_copy_X4) hown hK.1 hP h1 (ltPa_0 hh1) (cePa_0 hh1 (s0 h1)) rfl 0 (by decide) (hts _ kX4_copy_1) (v := .ref (ad (h1 + 1))) rfl dX4_copy_1 ?_
  refine lv_iconst (v := 0) hx hb dX4_copy_4 (by decide) ?_
  refine lv_aload_n hx hb dX4_copy_5 rfl (lv_at hl 0 rfl) ?_
  refine r_get hx hb hts (iwX4_copy_X4) hown hK.1 hP h0 (ltPa_0 hh0) (cePa_0 hh0 (s0 h0)) rfl 0 (by decide) (hts _ kX4_copy_1) (v := .ref (ad (h0 + 1))) rfl dX4_copy_6 ?_
  refine lv_iconst (v := 0) hx hb dX4_copy_9 (by decide) ?_
  refine lv_bipush (v := 72) hx hb dX4_copy_10 (by decide) ?_
  refine r_copy (sp' := 0) (dp' := 0) (n' := 72) hx hb (hml.trans hl.1.symm) hown (hts _ kX4_copy_2) (hts _ kX4_copy_3) (hts _ kX4_copy_4) (hts _ kX4_copy_5) hK.1 hP hD hS (h1 + 1) (h0 + 1) (ltPa_1 hh1) (ltPa_1 hh0) (cePa_1 hh1 (s0 (h1 + 1))) (cePa_1 hh0 (s0 (h0 + 1))) (cePa_1 hh0 _) (by decide) (by decide) (by decide) rfl rfl rfl (by decide) (by decide) (Nat.le_of_ble_eq_true rfl) (Nat.le_of_ble_eq_true rfl) dX4_copy_12 (fun H locs s1 es1 hP hD hS => ?_)
  have hv := hv s1 es1
  refine lv_aload_n hx hb dX4_copy_15 rfl (lv_at hl 0 rfl) ?_
  refine lv_aload_n hx hb dX4_copy_16 rfl (lv_at hl 1 rfl) ?_
  refine r_get hx hb hts (iwX4_copy_X4) hown hK.1 hP h1 (ltPa_0 hh1) (cePa_0 hh1 (s1 h1)) rfl 1 (by decide) (hts _ kX4_copy_6) (v := .int (s1 h1 1)) rfl dX4_copy_17 ?_
  refine r_put hx hb hts (iwX4_copy_X4) tyX4 tyX4_ok nmX4 hown hK.1 hP hD hS h0 (ltPa_0 hh0) (cePa_0 hh0 (s1 h0)) rfl 1 (by decide) (hts _ kX4_copy_6) rfl (ty := .int) (v := .int (s1 h1 1)) (by decide +kernel) rfl rfl (Nat.le_of_ble_eq_true rfl) (row := (upd (s1 h0) 1 (s1 h1 1))) (by rw [(cePa_0 hh0 (upd (s1 h0) 1 (s1 h1 1)))]; rfl) dX4_copy_20 (fun H locs s2 es2 hP hD hS => ?_)
  have hv := hv s2 es2
  exact r_vret hx hb hr hlocks hv hP hS dX4_copy_23
set_option maxHeartbeats 4000000 in
theorem y_X4_copy {p : Program} {l : Launch} {e : Env} {s : State} {m : MethodId} {args : Array Value} {below : List Frame} {meth : Method} {c : Code} {dC : Nat → ClassId} {dI : Nat → Nat → Nat} {ad : Nat → Nat} {cA cZ : ClassId} (hi : Inj 81 ad) (h0 : Nat) (h1 : Nat) (hh0 : isPa h0) (hh1 : isPa h1) (C0 : Cx cX4_copy RX4 wsX4_copy 2 none p s m args meth c) (hK : KK dC dI cA cZ s) (Q : St → Prop) : ∀ P xs ys σ, R_X4_copy h0 h1 Q P xs ys σ → XX p l e ({ frames := 1, cells := 0, slots := 0, locals := 35 } : Room) s m args below meth c (dC, dI) 81 ad (celC ad cA) 2 (ZV below args s (dC, dI) 81 ad (celC ad cA) Q) (lay_X4_copy ad h0 h1) P xs ys σ := by
  refine Fx.elim _ (fun P xs ys σ Y hY hB => ?_)
  exact hB.elim
set_option maxHeartbeats 4000000 in
theorem c_X4_copy {l : Launch} {dC : Nat → ClassId} {dI : Nat → Nat → Nat} {ad : Nat → Nat} {cA cZ : ClassId} (hi : Inj 81 ad) (h0 : Nat) (h1 : Nat) (hh0 : isPa h0) (hh1 : isPa h1) (s0 : St) (Q : St → Prop) (hv : V_X4_copy h0 h1 s0 Q) (sz : Nat) : Met l yX4_copy wsX4_copy ({ frames := 1, cells := 0, slots := 0, locals := 35 } : Room) (va_Pc [.ref (ad h0), .ref (ad h1)] (PW dC dI ad cA cZ 81 (celC ad cA) sz s0)) (va_Qv Q (fun u t => va_P (dC, dI) vwCl (wd 81 ad (celC ad cA) u) t.heap) (AA 81 ad sz)) 0 0 (AA 81 ad sz) := by
  refine Met.ofW (cc := cX4_copy) (maxL := 2) (ret := none) (by decide) rfl ?_
  intro p e s m args below meth c s₁ B hml hv0
  obtain ⟨rfl, hsz, hP, hK⟩ := hv0
  subst hsz
  have C0 : Cx cX4_copy RX4 wsX4_copy 2 none p s m ([.ref (ad h0), .ref (ad h1)] : List Value).toArray meth c := ⟨B.exec, B.bytes, hml, findClass_of_methodNamed B.named, atoms_spec (ws := wsX4_copy) B.pre, B.returns, B.notSynchronized⟩
  have hl := lv_entry ([.ref (ad h0), .ref (ad h1)]) (n := 2) (Nat.le_of_ble_eq_true rfl)
  rw [lg_entry_eq]
  generalize (lg_sl ([.ref (ad h0), .ref (ad h1)]) ++ List.replicate (2 - (lg_sl ([.ref (ad h0), .ref (ad h1)])).length) Slot.unset).toArray = ls at hl ⊢
  have hl : lv_has ls 2 [(0, .ref (ad h0)), (1, .ref (ad h1))] := hl
  exact w_X4_copy_e hi h0 h1 hh0 hh1 C0 hK Q (R_X4_copy h0 h1 Q) (y_X4_copy hi h0 h1 hh0 hh1 C0 hK Q)  s0 hv hP va_S.rf hl
def lay_X6_copy (ad : Nat → Nat) (h0 : Nat) (h1 : Nat) : Nat → List Int32 → List Int64 → Option (List (Nat × Value) × List Value) := fun P xs ys => match P, xs, ys with
  | _, _, _ => none
set_option maxHeartbeats 4000000 in
set_option maxRecDepth 100000 in
theorem w_X6_copy_e {p : Program} {l : Launch} {e : Env} {s : State} {m : MethodId} {args : Array Value} {below : List Frame} {meth : Method} {c : Code} {dC : Nat → ClassId} {dI : Nat → Nat → Nat} {ad : Nat → Nat} {cA cZ : ClassId} (hi : Inj 81 ad) (h0 : Nat) (h1 : Nat) (hh0 : isRo h0) (hh1 : isRo h1) (C0 : Cx cX6_copy RX6 wsX6_copy 2 none p s m args meth c) (hK : KK dC dI cA cZ s) (Q : St → Prop) (Y : Nat → List Int32 → List Int64 → St → Prop) (hY : ∀ P xs ys σ, Y P xs ys σ → XX p l e ({ frames := 1, cells := 0, slots := 0, locals := 35 } : Room) s m args below meth c (dC, dI) 81 ad (celC ad cA) 2 (ZV below args s (dC, dI) 81 ad (celC ad cA) Q) (lay_X6_copy ad h0 h1) P xs ys σ)  (s0 : St) (hv : B_X6_copy_e h0 h1 Q Y  s0) {H : Heap} {locs : List Loc} {ls : Array Slot} (hP : va_P (dC, dI) vwCl (wd 81 ad (celC ad cA) s0) H) (hS : va_S (AA 81 ad s.heap.size) s.heap H locs) (hl : lv_has ls 2 [(0, .ref (ad h0)), (1, .ref (ad h1))]) : W p l e ({ frames := 1, cells := 0, slots := 0, locals := 35 } : Room) s m args below meth c H locs 0 0 (ZV below args s (dC, dI) 81 ad (celC ad cA) Q) (F0 m 0 ls []) := by
  obtain ⟨hx, hb, hml, hown, hts, hr, hlocks⟩ := C0
  have hD := wd_D (s := s) (cel := celC ad cA) (σ := s0) hi
  unfold B_X6_copy_e at hv
  refine lv_aload_n hx hb dX6_copy_0 rfl (lv_at hl 1 rfl) ?_
  refine r_get hx hb hts (iwX6_copy_X6) hown hK.1 hP h1 (ltRo_0 hh1) (ceRo_0 hh1 (s0 h1)) rfl 0 (by decide) (hts _ kX6_copy_1) (v := .ref (ad (h1 + 1))) rfl dX6_copy_1 ?_
  refine lv_iconst (v := 0) hx hb dX6_copy_4 (by decide) ?_
  refine lv_aload_n hx hb dX6_copy_5 rfl (lv_at hl 0 rfl) ?_
  refine r_get hx hb hts (iwX6_copy_X6) hown hK.1 hP h0 (ltRo_0 hh0) (ceRo_0 hh0 (s0 h0)) rfl 0 (by decide) (hts _ kX6_copy_1) (v := .ref (ad (h0 + 1))) rfl dX6_copy_6 ?_
  refine lv_iconst (v := 0) hx hb dX6_copy_9 (by decide) ?_
  refine lv_bipush (v := 24) hx hb dX6_copy_10 (by decide) ?_
  refine r_copy (sp' := 0) (dp' := 0) (n' := 24) hx hb (hml.trans hl.1.symm) hown (hts _ kX6_copy_2) (hts _ kX6_copy_3) (hts _ kX6_copy_4) (hts _ kX6_copy_5) hK.1 hP hD hS (h1 + 1) (h0 + 1) (ltRo_1 hh1) (ltRo_1 hh0) (ceRo_1 hh1 (s0 (h1 + 1))) (ceRo_1 hh0 (s0 (h0 + 1))) (ceRo_1 hh0 _) (by decide) (by decide) (by decide) rfl rfl rfl (by decide) (by decide) (Nat.le_of_ble_eq_true rfl) (Nat.le_of_ble_eq_true rfl) dX6_copy_12 (fun H locs s1 es1 hP hD hS => ?_)
  have hv := hv s1 es1
  refine lv_aload_n hx hb dX6_copy_15 rfl (lv_at hl 0 rfl) ?_
  refine lv_aload_n hx hb dX6_copy_16 rfl (lv_at hl 1 rfl) ?_
  refine r_get hx hb hts (iwX6_copy_X6) hown hK.1 hP h1 (ltRo_0 hh1) (ceRo_0 hh1 (s1 h1)) rfl 3 (by decide) (hts _ kX6_copy_6) (v := .int (s1 h1 3)) rfl dX6_copy_17 ?_
  refine r_put hx hb hts (iwX6_copy_X6) tyX6 tyX6_ok nmX6 hown hK.1 hP hD hS h0 (ltRo_0 hh0) (ceRo_0 hh0 (s1 h0)) rfl 3 (by decide) (hts _ kX6_copy_6) rfl (ty := .int) (v := .int (s1 h1 3)) (by decide +kernel) rfl rfl (Nat.le_of_ble_eq_true rfl) (row := (upd (s1 h0) 3 (s1 h1 3))) (by rw [(ceRo_0 hh0 (upd (s1 h0) 3 (s1 h1 3)))]; rfl) dX6_copy_20 (fun H locs s2 es2 hP hD hS => ?_)
  have hv := hv s2 es2
  exact r_vret hx hb hr hlocks hv hP hS dX6_copy_23
set_option maxHeartbeats 4000000 in
theorem y_X6_copy {p : Program} {l : Launch} {e : Env} {s : State} {m : MethodId} {args : Array Value} {below : List Frame} {meth : Method} {c : Code} {dC : Nat → ClassId} {dI : Nat → Nat → Nat} {ad : Nat → Nat} {cA cZ : ClassId} (hi : Inj 81 ad) (h0 : Nat) (h1 : Nat) (hh0 : isRo h0) (hh1 : isRo h1) (C0 : Cx cX6_copy RX6 wsX6_copy 2 none p s m args meth c) (hK : KK dC dI cA cZ s) (Q : St → Prop) : ∀ P xs ys σ, R_X6_copy h0 h1 Q P xs ys σ → XX p l e ({ frames := 1, cells := 0, slots := 0, locals := 35 } : Room) s m args below meth c (dC, dI) 81 ad (celC ad cA) 2 (ZV below args s (dC, dI) 81 ad (celC ad cA) Q) (lay_X6_copy ad h0 h1) P xs ys σ := by
  refine Fx.elim _ (fun P xs ys σ Y hY hB => ?_)
  exact hB.elim
set_option maxHeartbeats 4000000 in
theorem c_X6_copy {l : Launch} {dC : Nat → ClassId} {dI : Nat → Nat → Nat} {ad : Nat → Nat} {cA cZ : ClassId} (hi : Inj 81 ad) (h0 : Nat) (h1 : Nat) (hh0 : isRo h0) (hh1 : isRo h1) (s0 : St) (Q : St → Prop) (hv : V_X6_copy h0 h1 s0 Q) (sz : Nat) : Met l yX6_copy wsX6_copy ({ frames := 1, cells := 0, slots := 0, locals := 35 } : Room) (va_Pc [.ref (ad h0), .ref (ad h1)] (PW dC dI ad cA cZ 81 (celC ad cA) sz s0)) (va_Qv Q (fun u t => va_P (dC, dI) vwCl (wd 81 ad (celC ad cA) u) t.heap) (AA 81 ad sz)) 0 0 (AA 81 ad sz) := by
  refine Met.ofW (cc := cX6_copy) (maxL := 2) (ret := none) (by decide) rfl ?_
  intro p e s m args below meth c s₁ B hml hv0
  obtain ⟨rfl, hsz, hP, hK⟩ := hv0
  subst hsz
  have C0 : Cx cX6_copy RX6 wsX6_copy 2 none p s m ([.ref (ad h0), .ref (ad h1)] : List Value).toArray meth c := ⟨B.exec, B.bytes, hml, findClass_of_methodNamed B.named, atoms_spec (ws := wsX6_copy) B.pre, B.returns, B.notSynchronized⟩
  have hl := lv_entry ([.ref (ad h0), .ref (ad h1)]) (n := 2) (Nat.le_of_ble_eq_true rfl)
  rw [lg_entry_eq]
  generalize (lg_sl ([.ref (ad h0), .ref (ad h1)]) ++ List.replicate (2 - (lg_sl ([.ref (ad h0), .ref (ad h1)])).length) Slot.unset).toArray = ls at hl ⊢
  have hl : lv_has ls 2 [(0, .ref (ad h0)), (1, .ref (ad h1))] := hl
  exact w_X6_copy_e hi h0 h1 hh0 hh1 C0 hK Q (R_X6_copy h0 h1 Q) (y_X6_copy hi h0 h1 hh0 hh1 C0 hK Q)  s0 hv hP va_S.rf hl
def lay_X7_copy (ad : Nat → Nat) (h0 : Nat) (h1 : Nat) : Nat → List Int32 → List Int64 → Option (List (Nat × Value) × List Value) := fun P xs ys => match P, xs, ys with
  | _, _, _ => none
set_option maxHeartbeats 4000000 in
set_option maxRecDepth 100000 in
theorem w_X7_copy_e {p : Program} {l : Launch} {e : Env} {s : State} {m : MethodId} {args : Array Value} {below : List Frame} {meth : Method} {c : Code} {dC : Nat → ClassId} {dI : Nat → Nat → Nat} {ad : Nat → Nat} {cA cZ : ClassId} (hi : Inj 81 ad) (h0 : Nat) (h1 : Nat) (hh0 : isSc h0) (hh1 : isSc h1) (C0 : Cx cX7_copy RX7 wsX7_copy 2 none p s m args meth c) (hK : KK dC dI cA cZ s) (Q : St → Prop) (Y : Nat → List Int32 → List Int64 → St → Prop) (hY : ∀ P xs ys σ, Y P xs ys σ → XX p l e ({ frames := 2, cells := 0, slots := 0, locals := 56 } : Room) s m args below meth c (dC, dI) 81 ad (celC ad cA) 2 (ZV below args s (dC, dI) 81 ad (celC ad cA) Q) (lay_X7_copy ad h0 h1) P xs ys σ)  (s0 : St) (hv : B_X7_copy_e h0 h1 Q Y  s0) {H : Heap} {locs : List Loc} {ls : Array Slot} (hP : va_P (dC, dI) vwCl (wd 81 ad (celC ad cA) s0) H) (hS : va_S (AA 81 ad s.heap.size) s.heap H locs) (hl : lv_has ls 2 [(0, .ref (ad h0)), (1, .ref (ad h1))]) : W p l e ({ frames := 2, cells := 0, slots := 0, locals := 56 } : Room) s m args below meth c H locs 0 0 (ZV below args s (dC, dI) 81 ad (celC ad cA) Q) (F0 m 0 ls []) := by
  obtain ⟨hx, hb, hml, hown, hts, hr, hlocks⟩ := C0
  have hD := wd_D (s := s) (cel := celC ad cA) (σ := s0) hi
  unfold B_X7_copy_e at hv
  refine lv_aload_n hx hb dX7_copy_0 rfl (lv_at hl 0 rfl) ?_
  refine r_get hx hb hts (iwX7_copy_X7) hown hK.1 hP h0 (ltSc_0 hh0) (ceSc_0 hh0 (s0 h0)) rfl 0 (by decide) (hts _ kX7_copy_1) (v := .ref (ad (h0 + 1))) rfl dX7_copy_1 ?_
  refine lv_aload_n hx hb dX7_copy_4 rfl (lv_at hl 1 rfl) ?_
  refine r_get hx hb hts (iwX7_copy_X7) hown hK.1 hP h1 (ltSc_0 hh1) (ceSc_0 hh1 (s0 h1)) rfl 0 (by decide) (hts _ kX7_copy_1) (v := .ref (ad (h1 + 1))) rfl dX7_copy_5 ?_
  refine r_cv (va_runV (As := [.ref (ad (h1 + 1))]) (rest := []) ⟨hx, hb, hml, hown, hts⟩ (c_X8_copy hi (h0 + 1) (h1 + 1) (vSc1 hh0) (vSc1 hh1) s0 _ hv H.size) (cwV 1 hts gX7_copy_X8_copy rfl rfl rfl (by decide +kernel) ⟨Nat.le_of_ble_eq_true rfl, Nat.le_of_ble_eq_true rfl⟩) ⟨pre_blind, r_recv hK.1 hP (h0 + 1) (ltSt_0 (vSc1 hh0)) (ceSt_0 (vSc1 hh0) (s0 (h0 + 1))) rfl, pre_of hP hK⟩ rfl rfl hl.1 rfl (lv_room (Nat.le_of_ble_eq_true rfl)) dX7_copy_8 ⟨Nat.zero_le _, Nat.zero_le _⟩) hS (fun s1 H locs hv hP hS => ?_)
  have hD := wd_D (s := s) (cel := celC ad cA) (σ := s1) hi
  refine lv_aload_n hx hb dX7_copy_11 rfl (lv_at hl 0 rfl) ?_
  refine r_get hx hb hts (iwX7_copy_X7) hown hK.1 hP h0 (ltSc_0 hh0) (ceSc_0 hh0 (s1 h0)) rfl 1 (by decide) (hts _ kX7_copy_2) (v := .ref (ad (h0 + 10))) rfl dX7_copy_12 ?_
  refine lv_aload_n hx hb dX7_copy_15 rfl (lv_at hl 1 rfl) ?_
  refine r_get hx hb hts (iwX7_copy_X7) hown hK.1 hP h1 (ltSc_0 hh1) (ceSc_0 hh1 (s1 h1)) rfl 1 (by decide) (hts _ kX7_copy_2) (v := .ref (ad (h1 + 10))) rfl dX7_copy_16 ?_
  refine r_cv (va_runV (As := [.ref (ad (h1 + 10))]) (rest := []) ⟨hx, hb, hml, hown, hts⟩ (c_X4_copy hi (h0 + 10) (h1 + 10) (vSc10 hh0) (vSc10 hh1) s1 _ hv H.size) (cwV 1 hts gX7_copy_X4_copy rfl rfl rfl (by decide +kernel) ⟨Nat.le_of_ble_eq_true rfl, Nat.le_of_ble_eq_true rfl⟩) ⟨pre_blind, r_recv hK.1 hP (h0 + 10) (ltPa_0 (vSc10 hh0)) (cePa_0 (vSc10 hh0) (s1 (h0 + 10))) rfl, pre_of hP hK⟩ rfl rfl hl.1 rfl (lv_room (Nat.le_of_ble_eq_true rfl)) dX7_copy_19 ⟨Nat.zero_le _, Nat.zero_le _⟩) hS (fun s2 H locs hv hP hS => ?_)
  have hD := wd_D (s := s) (cel := celC ad cA) (σ := s2) hi
  refine lv_aload_n hx hb dX7_copy_22 rfl (lv_at hl 0 rfl) ?_
  refine r_get hx hb hts (iwX7_copy_X7) hown hK.1 hP h0 (ltSc_0 hh0) (ceSc_0 hh0 (s2 h0)) rfl 2 (by decide) (hts _ kX7_copy_3) (v := .ref (ad (h0 + 12))) rfl dX7_copy_23 ?_
  refine lv_aload_n hx hb dX7_copy_26 rfl (lv_at hl 1 rfl) ?_
  refine r_get hx hb hts (iwX7_copy_X7) hown hK.1 hP h1 (ltSc_0 hh1) (ceSc_0 hh1 (s2 h1)) rfl 2 (by decide) (hts _ kX7_copy_3) (v := .ref (ad (h1 + 12))) rfl dX7_copy_27 ?_
  refine r_cv (va_runV (As := [.ref (ad (h1 + 12))]) (rest := []) ⟨hx, hb, hml, hown, hts⟩ (c_X6_copy hi (h0 + 12) (h1 + 12) (vSc12 hh0) (vSc12 hh1) s2 _ hv H.size) (cwV 1 hts gX7_copy_X6_copy rfl rfl rfl (by decide +kernel) ⟨Nat.le_of_ble_eq_true rfl, Nat.le_of_ble_eq_true rfl⟩) ⟨pre_blind, r_recv hK.1 hP (h0 + 12) (ltRo_0 (vSc12 hh0)) (ceRo_0 (vSc12 hh0) (s2 (h0 + 12))) rfl, pre_of hP hK⟩ rfl rfl hl.1 rfl (lv_room (Nat.le_of_ble_eq_true rfl)) dX7_copy_30 ⟨Nat.zero_le _, Nat.zero_le _⟩) hS (fun s3 H locs hv hP hS => ?_)
  have hD := wd_D (s := s) (cel := celC ad cA) (σ := s3) hi
  refine lv_aload_n hx hb dX7_copy_33 rfl (lv_at hl 0 rfl) ?_
  refine r_get hx hb hts (iwX7_copy_X7) hown hK.1 hP h0 (ltSc_0 hh0) (ceSc_0 hh0 (s3 h0)) rfl 3 (by decide) (hts _ kX7_copy_4) (v := .ref (ad (h0 + 14))) rfl dX7_copy_34 ?_
  refine lv_aload_n hx hb dX7_copy_37 rfl (lv_at hl 1 rfl) ?_
  refine r_get hx hb hts (iwX7_copy_X7) hown hK.1 hP h1 (ltSc_0 hh1) (ceSc_0 hh1 (s3 h1)) rfl 3 (by decide) (hts _ kX7_copy_4) (v := .ref (ad (h1 + 14))) rfl dX7_copy_38 ?_
  refine r_cv (va_runV (As := [.ref (ad (h1 + 14))]) (rest := []) ⟨hx, hb, hml, hown, hts⟩ (c_X6_copy hi (h0 + 14) (h1 + 14) (vSc14 hh0) (vSc14 hh1) s3 _ hv H.size) (cwV 1 hts gX7_copy_X6_copy rfl rfl rfl (by decide +kernel) ⟨Nat.le_of_ble_eq_true rfl, Nat.le_of_ble_eq_true rfl⟩) ⟨pre_blind, r_recv hK.1 hP (h0 + 14) (ltRo_0 (vSc14 hh0)) (ceRo_0 (vSc14 hh0) (s3 (h0 + 14))) rfl, pre_of hP hK⟩ rfl rfl hl.1 rfl (lv_room (Nat.le_of_ble_eq_true rfl)) dX7_copy_41 ⟨Nat.zero_le _, Nat.zero_le _⟩) hS (fun s4 H locs hv hP hS => ?_)
  have hD := wd_D (s := s) (cel := celC ad cA) (σ := s4) hi
  refine lv_aload_n hx hb dX7_copy_44 rfl (lv_at hl 0 rfl) ?_
  refine r_get hx hb hts (iwX7_copy_X7) hown hK.1 hP h0 (ltSc_0 hh0) (ceSc_0 hh0 (s4 h0)) rfl 4 (by decide) (hts _ kX7_copy_5) (v := .ref (ad (h0 + 16))) rfl dX7_copy_45 ?_
  refine lv_aload_n hx hb dX7_copy_48 rfl (lv_at hl 1 rfl) ?_
  refine r_get hx hb hts (iwX7_copy_X7) hown hK.1 hP h1 (ltSc_0 hh1) (ceSc_0 hh1 (s4 h1)) rfl 4 (by decide) (hts _ kX7_copy_5) (v := .ref (ad (h1 + 16))) rfl dX7_copy_49 ?_
  refine r_cv (va_runV (As := [.ref (ad (h1 + 16))]) (rest := []) ⟨hx, hb, hml, hown, hts⟩ (c_X6_copy hi (h0 + 16) (h1 + 16) (vSc16 hh0) (vSc16 hh1) s4 _ hv H.size) (cwV 1 hts gX7_copy_X6_copy rfl rfl rfl (by decide +kernel) ⟨Nat.le_of_ble_eq_true rfl, Nat.le_of_ble_eq_true rfl⟩) ⟨pre_blind, r_recv hK.1 hP (h0 + 16) (ltRo_0 (vSc16 hh0)) (ceRo_0 (vSc16 hh0) (s4 (h0 + 16))) rfl, pre_of hP hK⟩ rfl rfl hl.1 rfl (lv_room (Nat.le_of_ble_eq_true rfl)) dX7_copy_52 ⟨Nat.zero_le _, Nat.zero_le _⟩) hS (fun s5 H locs hv hP hS => ?_)
  have hD := wd_D (s := s) (cel := celC ad cA) (σ := s5) hi
  exact r_vret hx hb hr hlocks hv hP hS dX7_copy_55
set_option maxHeartbeats 4000000 in
theorem y_X7_copy {p : Program} {l : Launch} {e : Env} {s : State} {m : MethodId} {args : Array Value} {below : List Frame} {meth : Method} {c : Code} {dC : Nat → ClassId} {dI : Nat → Nat → Nat} {ad : Nat → Nat} {cA cZ : ClassId} (hi : Inj 81 ad) (h0 : Nat) (h1 : Nat) (hh0 : isSc h0) (hh1 : isSc h1) (C0 : Cx cX7_copy RX7 wsX7_copy 2 none p s m args meth c) (hK : KK dC dI cA cZ s) (Q : St → Prop) : ∀ P xs ys σ, R_X7_copy h0 h1 Q P xs ys σ → XX p l e ({ frames := 2, cells := 0, slots := 0, locals := 56 } : Room) s m args below meth c (dC, dI) 81 ad (celC ad cA) 2 (ZV below args s (dC, dI) 81 ad (celC ad cA) Q) (lay_X7_copy ad h0 h1) P xs ys σ := by
  refine Fx.elim _ (fun P xs ys σ Y hY hB => ?_)
  exact hB.elim
set_option maxHeartbeats 4000000 in
theorem c_X7_copy {l : Launch} {dC : Nat → ClassId} {dI : Nat → Nat → Nat} {ad : Nat → Nat} {cA cZ : ClassId} (hi : Inj 81 ad) (h0 : Nat) (h1 : Nat) (hh0 : isSc h0) (hh1 : isSc h1) (s0 : St) (Q : St → Prop) (hv : V_X7_copy h0 h1 s0 Q) (sz : Nat) : Met l yX7_copy wsX7_copy ({ frames := 2, cells := 0, slots := 0, locals := 56 } : Room) (va_Pc [.ref (ad h0), .ref (ad h1)] (PW dC dI ad cA cZ 81 (celC ad cA) sz s0)) (va_Qv Q (fun u t => va_P (dC, dI) vwCl (wd 81 ad (celC ad cA) u) t.heap) (AA 81 ad sz)) 0 0 (AA 81 ad sz) := by
  refine Met.ofW (cc := cX7_copy) (maxL := 2) (ret := none) (by decide) rfl ?_
  intro p e s m args below meth c s₁ B hml hv0
  obtain ⟨rfl, hsz, hP, hK⟩ := hv0
  subst hsz
  have C0 : Cx cX7_copy RX7 wsX7_copy 2 none p s m ([.ref (ad h0), .ref (ad h1)] : List Value).toArray meth c := ⟨B.exec, B.bytes, hml, findClass_of_methodNamed B.named, atoms_spec (ws := wsX7_copy) B.pre, B.returns, B.notSynchronized⟩
  have hl := lv_entry ([.ref (ad h0), .ref (ad h1)]) (n := 2) (Nat.le_of_ble_eq_true rfl)
  rw [lg_entry_eq]
  generalize (lg_sl ([.ref (ad h0), .ref (ad h1)]) ++ List.replicate (2 - (lg_sl ([.ref (ad h0), .ref (ad h1)])).length) Slot.unset).toArray = ls at hl ⊢
  have hl : lv_has ls 2 [(0, .ref (ad h0)), (1, .ref (ad h1))] := hl
  exact w_X7_copy_e hi h0 h1 hh0 hh1 C0 hK Q (R_X7_copy h0 h1 Q) (y_X7_copy hi h0 h1 hh0 hh1 C0 hK Q)  s0 hv hP va_S.rf hl
def lay_X10_image (ad : Nat → Nat) (a1 : Int32) : Nat → List Int32 → List Int64 → Option (List (Nat × Value) × List Value) := fun P xs ys => match P, xs, ys with
  | _, _, _ => none
set_option maxHeartbeats 4000000 in
set_option maxRecDepth 100000 in
theorem w_X10_image_e {p : Program} {l : Launch} {e : Env} {s : State} {m : MethodId} {args : Array Value} {below : List Frame} {meth : Method} {c : Code} {dC : Nat → ClassId} {dI : Nat → Nat → Nat} {ad : Nat → Nat} {cA cZ : ClassId} (hi : Inj 81 ad) (a1 : Int32)  (C0 : Cx cX10_image RX10 wsX10_image 2 (some .int) p s m args meth c) (hK : KK dC dI cA cZ s) (Q : Int32 → St → Prop) (Y : Nat → List Int32 → List Int64 → St → Prop) (hY : ∀ P xs ys σ, Y P xs ys σ → XX p l e ({ frames := 3, cells := 0, slots := 0, locals := 77 } : Room) s m args below meth c (dC, dI) 81 ad (celC ad cA) 2 (ZI below args s (dC, dI) 81 ad (celC ad cA) Q) (lay_X10_image ad a1) P xs ys σ)  (s0 : St) (hv : B_X10_image_e a1 Q Y  s0) {H : Heap} {locs : List Loc} {ls : Array Slot} (hP : va_P (dC, dI) vwCl (wd 81 ad (celC ad cA) s0) H) (hS : va_S (AA 81 ad s.heap.size) s.heap H locs) (hl : lv_has ls 2 [(0, .ref (ad 0)), (1, .int a1)]) : W p l e ({ frames := 3, cells := 0, slots := 0, locals := 77 } : Room) s m args below meth c H locs 0 0 (ZI below args s (dC, dI) 81 ad (celC ad cA) Q) (F0 m 0 ls []) := by
  obtain ⟨hx, hb, hml, hown, hts, hr, hlocks⟩ := C0
  have hD := wd_D (s := s) (cel := celC ad cA) (σ := s0) hi
  unfold B_X10_image_e at hv
  refine lv_iload_n hx hb dX10_image_0 rfl (lv_at hl 1 rfl) ?_
  refine lv_iconst (v := 0) hx hb dX10_image_1 (by decide) ?_
  refine lv_iconst (v := 1) hx hb dX10_image_2 (by decide) ?_
  refine r_ci (va_runS (As := [.int a1, .int 0, .int 1]) (rest := []) ⟨hx, hb, hml, hown, hts⟩ (c_X10_within hi a1 0 1 s0 _ hv H.size) (va_cwS 3 hts gX10_image_X10_within rfl rfl rfl (by decide +kernel) ⟨Nat.le_of_ble_eq_true rfl, Nat.le_of_ble_eq_true rfl⟩) ⟨pre_blind, pre_of hP hK⟩ rfl rfl hl.1 rfl (lv_room (Nat.le_of_ble_eq_true rfl)) dX10_image_3 ⟨Nat.zero_le _, Nat.zero_le _⟩) hS (fun r1 s1 H locs hv hP hS => ?_)
  obtain ⟨hz_r1, hv⟩ := hv
  have hD := wd_D (s := s) (cel := celC ad cA) (σ := s1) hi
  refine lv_if_ne (tgt := 14) hx hb dX10_image_6 (by decide) (fun c6 => ?_) (fun c6 => ?_)
  · have hv := hv.1 c6
    refine lv_aload_n hx hb dX10_image_14 rfl (lv_at hl 0 rfl) ?_
    refine lv_iload_n hx hb dX10_image_15 rfl (lv_at hl 1 rfl) ?_
    refine r_cr (va_runV (As := [.int a1]) (rest := []) ⟨hx, hb, hml, hown, hts⟩ (c_X10_imageOf hi a1 s1 _ hv H.size) (cwV 1 hts gX10_image_X10_imageOf rfl rfl rfl (by decide +kernel) ⟨Nat.le_of_ble_eq_true rfl, Nat.le_of_ble_eq_true rfl⟩) ⟨pre_blind, r_recv hK.1 hP 0 (by decide) (ceGR_0 (s1 0)) rfl, pre_of hP hK⟩ rfl rfl hl.1 rfl (lv_room (Nat.le_of_ble_eq_true rfl)) dX10_image_16 ⟨Nat.zero_le _, Nat.zero_le _⟩) hS (fun r2 s2 H locs hr2 hv hP hS => ?_)
    have hD := wd_D (s := s) (cel := celC ad cA) (σ := s2) hi
    refine lv_aload_n hx hb dX10_image_19 rfl (lv_at hl 0 rfl) ?_
    refine r_get hx hb hts (iwX10_image_X10) hown hK.1 hP 0 (by decide) (ceGR_0 (s2 0)) rfl 0 (by decide) (hts _ kX10_image_1) (v := .ref (ad 1)) rfl dX10_image_20 ?_
    refine r_cv (va_runV (As := [.ref (ad 1)]) (rest := []) ⟨hx, hb, hml, hown, hts⟩ (c_X7_copy hi r2 1 hr2 vSc_1 s2 _ hv H.size) (cwV 1 hts gX10_image_X7_copy rfl rfl rfl (by decide +kernel) ⟨Nat.le_of_ble_eq_true rfl, Nat.le_of_ble_eq_true rfl⟩) ⟨pre_blind, r_recv hK.1 hP r2 (ltSc_0 hr2) (ceSc_0 hr2 (s2 r2)) rfl, pre_of hP hK⟩ rfl rfl hl.1 rfl (lv_room (Nat.le_of_ble_eq_true rfl)) dX10_image_23 ⟨Nat.zero_le _, Nat.zero_le _⟩) hS (fun s3 H locs hv hP hS => ?_)
    have hD := wd_D (s := s) (cel := celC ad cA) (σ := s3) hi
    refine lv_aload_n hx hb dX10_image_26 rfl (lv_at hl 0 rfl) ?_
    refine lv_dup hx hb dX10_image_27 rfl ?_
    refine r_get hx hb hts (iwX10_image_X10) hown hK.1 hP 0 (by decide) (ceGR_0 (s3 0)) rfl 7 (by decide) (hts _ kX10_image_2) (v := .int (s3 0 7)) rfl dX10_image_28 ?_
    refine lv_iconst (v := 1) hx hb dX10_image_31 (by decide) ?_
    refine lv_iload_n hx hb dX10_image_32 rfl (lv_at hl 1 rfl) ?_
    refine lv_ishl hx hb dX10_image_33 ?_
    refine lv_ior hx hb dX10_image_34 ?_
    refine r_put hx hb hts (iwX10_image_X10) tyX10 tyX10_ok nmX10 hown hK.1 hP hD hS 0 (by decide) (ceGR_0 (s3 0)) rfl 7 (by decide) (hts _ kX10_image_2) rfl (ty := .int) (v := .int ((s3 0 7) ||| ((1 : Int32) <<< (a1 &&& 31)))) (by decide +kernel) rfl rfl (Nat.le_of_ble_eq_true rfl) (row := (upd (s3 0) 7 ((s3 0 7) ||| ((1 : Int32) <<< (a1 &&& 31))))) (by rw [(ceGR_0 (upd (s3 0) 7 ((s3 0 7) ||| ((1 : Int32) <<< (a1 &&& 31)))))]; rfl) dX10_image_35 (fun H locs s4 es4 hP hD hS => ?_)
    have hv := hv s4 es4
    refine lv_iconst (v := 1) hx hb dX10_image_38 (by decide) ?_
    exact r_iret hx hb hr hlocks hv hP hS dX10_image_39
  · have hv := hv.2 c6
    refine lv_aload_n hx hb dX10_image_9 rfl (lv_at hl 0 rfl) ?_
    refine r_ci (va_runV (As := []) (rest := []) ⟨hx, hb, hml, hown, hts⟩ (c_X10_bad hi  s1 _ hv H.size) (cwV 0 hts gX10_image_X10_bad rfl rfl rfl (by decide +kernel) ⟨Nat.le_of_ble_eq_true rfl, Nat.le_of_ble_eq_true rfl⟩) ⟨pre_blind, r_recv hK.1 hP 0 (by decide) (ceGR_0 (s1 0)) rfl, pre_of hP hK⟩ rfl rfl hl.1 rfl (lv_room (Nat.le_of_ble_eq_true rfl)) dX10_image_10 ⟨Nat.zero_le _, Nat.zero_le _⟩) hS (fun r5 s5 H locs hv hP hS => ?_)
    have hD := wd_D (s := s) (cel := celC ad cA) (σ := s5) hi
    exact r_iret hx hb hr hlocks hv hP hS dX10_image_13
set_option maxHeartbeats 4000000 in
theorem y_X10_image {p : Program} {l : Launch} {e : Env} {s : State} {m : MethodId} {args : Array Value} {below : List Frame} {meth : Method} {c : Code} {dC : Nat → ClassId} {dI : Nat → Nat → Nat} {ad : Nat → Nat} {cA cZ : ClassId} (hi : Inj 81 ad) (a1 : Int32)  (C0 : Cx cX10_image RX10 wsX10_image 2 (some .int) p s m args meth c) (hK : KK dC dI cA cZ s) (Q : Int32 → St → Prop) : ∀ P xs ys σ, R_X10_image a1 Q P xs ys σ → XX p l e ({ frames := 3, cells := 0, slots := 0, locals := 77 } : Room) s m args below meth c (dC, dI) 81 ad (celC ad cA) 2 (ZI below args s (dC, dI) 81 ad (celC ad cA) Q) (lay_X10_image ad a1) P xs ys σ := by
  refine Fx.elim _ (fun P xs ys σ Y hY hB => ?_)
  exact hB.elim
set_option maxHeartbeats 4000000 in
theorem c_X10_image {l : Launch} {dC : Nat → ClassId} {dI : Nat → Nat → Nat} {ad : Nat → Nat} {cA cZ : ClassId} (hi : Inj 81 ad) (a1 : Int32)  (s0 : St) (Q : Int32 → St → Prop) (hv : V_X10_image a1 s0 Q) (sz : Nat) : Met l yX10_image wsX10_image ({ frames := 3, cells := 0, slots := 0, locals := 77 } : Room) (va_Pc [.ref (ad 0), .int a1] (PW dC dI ad cA cZ 81 (celC ad cA) sz s0)) (va_Qi Q (fun u t => va_P (dC, dI) vwCl (wd 81 ad (celC ad cA) u) t.heap) (AA 81 ad sz)) 0 0 (AA 81 ad sz) := by
  refine Met.ofW (cc := cX10_image) (maxL := 2) (ret := (some .int)) (by decide) rfl ?_
  intro p e s m args below meth c s₁ B hml hv0
  obtain ⟨rfl, hsz, hP, hK⟩ := hv0
  subst hsz
  have C0 : Cx cX10_image RX10 wsX10_image 2 (some .int) p s m ([.ref (ad 0), .int a1] : List Value).toArray meth c := ⟨B.exec, B.bytes, hml, findClass_of_methodNamed B.named, atoms_spec (ws := wsX10_image) B.pre, B.returns, B.notSynchronized⟩
  have hl := lv_entry ([.ref (ad 0), .int a1]) (n := 2) (Nat.le_of_ble_eq_true rfl)
  rw [lg_entry_eq]
  generalize (lg_sl ([.ref (ad 0), .int a1]) ++ List.replicate (2 - (lg_sl ([.ref (ad 0), .int a1])).length) Slot.unset).toArray = ls at hl ⊢
  have hl : lv_has ls 2 [(0, .ref (ad 0)), (1, .int a1)] := hl
  exact w_X10_image_e hi a1  C0 hK Q (R_X10_image a1 Q) (y_X10_image hi a1  C0 hK Q)  s0 hv hP va_S.rf hl
