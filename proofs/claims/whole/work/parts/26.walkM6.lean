def lay_X11_winters (ad : Nat → Nat) (a1 : Int32) (a2 : Int32) : Nat → List Int32 → List Int64 → Option (List (Nat × Value) × List Value) := fun P xs ys => match P, xs, ys with
  | 24, [], [] => some ([(0, .ref (ad 0))], [])
  | 41, [x5], [y3] => some ([(0, .ref (ad 0)), (2, .int a2), (3, .long y3), (5, .int x5)], [])
  | 98, [x5, t0, t1, t2], [y3] => some ([(0, .ref (ad 0)), (2, .int a2), (3, .long y3), (5, .int x5)], [.int t0, .int t1, .int t2, .ref (ad 5)])
  | _, _, _ => none
set_option maxHeartbeats 4000000 in
set_option maxRecDepth 100000 in
theorem w_X11_winters_e {p : Program} {l : Launch} {e : Env} {s : State} {m : MethodId} {args : Array Value} {below : List Frame} {meth : Method} {c : Code} {dC : Nat → ClassId} {dI : Nat → Nat → Nat} {ad : Nat → Nat} {cA cZ : ClassId} (hi : Inj 12 ad) (a1 : Int32) (a2 : Int32)  (C0 : Cx cX11_winters RX11 wsX11_winters 7 (some .int) p s m args meth c) (hK : KK dC dI cA cZ s) (Q : Int32 → St → Prop) (Y : Nat → List Int32 → List Int64 → St → Prop) (hY : ∀ P xs ys σ, Y P xs ys σ → XX p l e ({ frames := 4, cells := 0, slots := 0, locals := 94 } : Room) s m args below meth c (dC, dI) 12 ad (celM ad cA cZ) 7 (ZI below args s (dC, dI) 12 ad (celM ad cA cZ) Q) (lay_X11_winters ad a1 a2) P xs ys σ)  (s0 : St) (hv : B_X11_winters_e a1 a2 Q Y  s0) {H : Heap} {locs : List Loc} {ls : Array Slot} (hP : va_P (dC, dI) vwCl (wd 12 ad (celM ad cA cZ) s0) H) (hS : va_S (AA 12 ad s.heap.size) s.heap H locs) (hl : lv_has ls 7 [(0, .ref (ad 0)), (1, .int a1), (2, .int a2)]) : W p l e ({ frames := 4, cells := 0, slots := 0, locals := 94 } : Room) s m args below meth c H locs 0 0 (ZI below args s (dC, dI) 12 ad (celM ad cA cZ) Q) (F0 m 0 ls []) := by
  obtain ⟨hx, hb, hml, hown, hts, hr, hlocks⟩ := C0
  have hD := wd_D (s := s) (cel := celM ad cA cZ) (σ := s0) hi
  unfold B_X11_winters_e at hv
  refine lv_iload_n hx hb dX11_winters_0 rfl (lv_at hl 1 rfl) ?_
  refine lv_i2l (v := a1.toInt64) hx hb dX11_winters_1 rfl ?_
  refine lv_lconst (v := 0) hx hb dX11_winters_2 (by decide) ?_
  refine lv_ldc2 (v := 999999) hx hb hown (hts _ kX11_winters_1) dX11_winters_3 ?_
  refine r_ci (va_runS (As := [.long a1.toInt64, .long 0, .long 999999]) (rest := []) ⟨hx, hb, hml, hown, hts⟩ (c_X11_in hi a1.toInt64 0 999999 s0 _ hv H.size) (va_cwS 3 hts gX11_winters_X11_in rfl rfl rfl (by decide +kernel) ⟨Nat.le_of_ble_eq_true rfl, Nat.le_of_ble_eq_true rfl⟩) ⟨pre_blind, pre_of hP hK⟩ rfl rfl hl.1 rfl (lv_room (Nat.le_of_ble_eq_true rfl)) dX11_winters_6 ⟨Nat.zero_le _, Nat.zero_le _⟩) hS (fun r1 s1 H locs hv hP hS => ?_)
  obtain ⟨hz_r1, hv⟩ := hv
  have hD := wd_D (s := s) (cel := celM ad cA cZ) (σ := s1) hi
  refine lv_if_eq (tgt := 24) hx hb dX11_winters_9 (by decide) (fun c9 => ?_) (fun c9 => ?_)
  · have hv := hv.1 c9
    exact hY 24 [] [] s1 hv _ _ rfl H locs ls hP hS (lv_sub hl [0] rfl)
  · have hv := hv.2 c9
    refine lv_iload_n hx hb dX11_winters_12 rfl (lv_at hl 2 rfl) ?_
    refine lv_i2l (v := a2.toInt64) hx hb dX11_winters_13 rfl ?_
    refine lv_lconst (v := 0) hx hb dX11_winters_14 (by decide) ?_
    refine lv_ldc2 (v := 60) hx hb hown (hts _ kX11_winters_2) dX11_winters_15 ?_
    refine r_ci (va_runS (As := [.long a2.toInt64, .long 0, .long 60]) (rest := []) ⟨hx, hb, hml, hown, hts⟩ (c_X11_in hi a2.toInt64 0 60 s1 _ hv H.size) (va_cwS 3 hts gX11_winters_X11_in rfl rfl rfl (by decide +kernel) ⟨Nat.le_of_ble_eq_true rfl, Nat.le_of_ble_eq_true rfl⟩) ⟨pre_blind, pre_of hP hK⟩ rfl rfl hl.1 rfl (lv_room (Nat.le_of_ble_eq_true rfl)) dX11_winters_18 ⟨Nat.zero_le _, Nat.zero_le _⟩) hS (fun r2 s2 H locs hv hP hS => ?_)
    obtain ⟨hz_r2, hv⟩ := hv
    have hD := wd_D (s := s) (cel := celM ad cA cZ) (σ := s2) hi
    refine lv_if_ne (tgt := 31) hx hb dX11_winters_21 (by decide) (fun c21 => ?_) (fun c21 => ?_)
    · have hv := hv.1 c21
      refine lv_iload_n hx hb dX11_winters_31 rfl (lv_at hl 1 rfl) ?_
      refine lv_i2l (v := a1.toInt64) hx hb dX11_winters_32 rfl ?_
      refine lv_lstore_n (lv' := [(3, .long a1.toInt64), (0, .ref (ad 0)), (1, .int a1), (2, .int a2)]) hx hb dX11_winters_33 rfl hl (by decide) rfl (fun ls hl => ?_)
      refine lv_aload_n hx hb dX11_winters_34 rfl (lv_at hl 1 rfl) ?_
      refine r_cv (va_runV (As := []) (rest := []) ⟨hx, hb, hml, hown, hts⟩ (c_X11_layHand hi  s2 _ hv H.size) (cwV 0 hts gX11_winters_X11_layHand rfl rfl rfl (by decide +kernel) ⟨Nat.le_of_ble_eq_true rfl, Nat.le_of_ble_eq_true rfl⟩) ⟨pre_blind, r_recv hK.1 hP 0 (by decide) (ceMo_0 (s2 0)) rfl, pre_of hP hK⟩ rfl rfl hl.1 rfl (lv_room (Nat.le_of_ble_eq_true rfl)) dX11_winters_35 ⟨Nat.zero_le _, Nat.zero_le _⟩) hS (fun s3 H locs hv hP hS => ?_)
      have hD := wd_D (s := s) (cel := celM ad cA cZ) (σ := s3) hi
      refine lv_iconst (v := 0) hx hb dX11_winters_38 (by decide) ?_
      refine lv_istore (lv' := [(5, .int 0), (3, .long a1.toInt64), (0, .ref (ad 0)), (1, .int a1), (2, .int a2)]) hx hb dX11_winters_39 hl (by decide) rfl (fun ls hl => ?_)
      exact hY 41 [0] [a1.toInt64] s3 hv _ _ rfl H locs ls hP hS (lv_sub hl [2, 4, 1, 0] rfl)
    · have hv := hv.2 c21
      exact hY 24 [] [] s2 hv _ _ rfl H locs ls hP hS (lv_sub hl [0] rfl)
set_option maxHeartbeats 4000000 in
set_option maxRecDepth 100000 in
theorem w_X11_winters_24 {p : Program} {l : Launch} {e : Env} {s : State} {m : MethodId} {args : Array Value} {below : List Frame} {meth : Method} {c : Code} {dC : Nat → ClassId} {dI : Nat → Nat → Nat} {ad : Nat → Nat} {cA cZ : ClassId} (hi : Inj 12 ad) (a1 : Int32) (a2 : Int32)  (C0 : Cx cX11_winters RX11 wsX11_winters 7 (some .int) p s m args meth c) (hK : KK dC dI cA cZ s) (Q : Int32 → St → Prop) (Y : Nat → List Int32 → List Int64 → St → Prop) (hY : ∀ P xs ys σ, Y P xs ys σ → XX p l e ({ frames := 4, cells := 0, slots := 0, locals := 94 } : Room) s m args below meth c (dC, dI) 12 ad (celM ad cA cZ) 7 (ZI below args s (dC, dI) 12 ad (celM ad cA cZ) Q) (lay_X11_winters ad a1 a2) P xs ys σ)  (s0 : St) (hv : B_X11_winters_24 a1 a2 Q Y  s0) {H : Heap} {locs : List Loc} {ls : Array Slot} (hP : va_P (dC, dI) vwCl (wd 12 ad (celM ad cA cZ) s0) H) (hS : va_S (AA 12 ad s.heap.size) s.heap H locs) (hl : lv_has ls 7 [(0, .ref (ad 0))]) : W p l e ({ frames := 4, cells := 0, slots := 0, locals := 94 } : Room) s m args below meth c H locs 0 0 (ZI below args s (dC, dI) 12 ad (celM ad cA cZ) Q) (F0 m 24 ls []) := by
  obtain ⟨hx, hb, hml, hown, hts, hr, hlocks⟩ := C0
  have hD := wd_D (s := s) (cel := celM ad cA cZ) (σ := s0) hi
  unfold B_X11_winters_24 at hv
  refine lv_aload_n hx hb dX11_winters_24 rfl (lv_at hl 0 rfl) ?_
  refine lv_bipush (v := (-2)) hx hb dX11_winters_25 (by decide) ?_
  refine r_ci (va_runV (As := [.int ((-2))]) (rest := []) ⟨hx, hb, hml, hown, hts⟩ (c_X11_bad hi ((-2)) s0 _ hv H.size) (cwV 1 hts gX11_winters_X11_bad rfl rfl rfl (by decide +kernel) ⟨Nat.le_of_ble_eq_true rfl, Nat.le_of_ble_eq_true rfl⟩) ⟨pre_blind, r_recv hK.1 hP 0 (by decide) (ceMo_0 (s0 0)) rfl, pre_of hP hK⟩ rfl rfl hl.1 rfl (lv_room (Nat.le_of_ble_eq_true rfl)) dX11_winters_27 ⟨Nat.zero_le _, Nat.zero_le _⟩) hS (fun r1 s1 H locs hv hP hS => ?_)
  have hD := wd_D (s := s) (cel := celM ad cA cZ) (σ := s1) hi
  exact r_iret hx hb hr hlocks hv hP hS dX11_winters_30
set_option maxHeartbeats 4000000 in
set_option maxRecDepth 100000 in
theorem w_X11_winters_41 {p : Program} {l : Launch} {e : Env} {s : State} {m : MethodId} {args : Array Value} {below : List Frame} {meth : Method} {c : Code} {dC : Nat → ClassId} {dI : Nat → Nat → Nat} {ad : Nat → Nat} {cA cZ : ClassId} (hi : Inj 12 ad) (a1 : Int32) (a2 : Int32)  (C0 : Cx cX11_winters RX11 wsX11_winters 7 (some .int) p s m args meth c) (hK : KK dC dI cA cZ s) (Q : Int32 → St → Prop) (Y : Nat → List Int32 → List Int64 → St → Prop) (hY : ∀ P xs ys σ, Y P xs ys σ → XX p l e ({ frames := 4, cells := 0, slots := 0, locals := 94 } : Room) s m args below meth c (dC, dI) 12 ad (celM ad cA cZ) 7 (ZI below args s (dC, dI) 12 ad (celM ad cA cZ) Q) (lay_X11_winters ad a1 a2) P xs ys σ) (x5 : Int32) (y3 : Int64) (s0 : St) (hv : B_X11_winters_41 a1 a2 Q Y x5 y3 s0) {H : Heap} {locs : List Loc} {ls : Array Slot} (hP : va_P (dC, dI) vwCl (wd 12 ad (celM ad cA cZ) s0) H) (hS : va_S (AA 12 ad s.heap.size) s.heap H locs) (hl : lv_has ls 7 [(0, .ref (ad 0)), (2, .int a2), (3, .long y3), (5, .int x5)]) : W p l e ({ frames := 4, cells := 0, slots := 0, locals := 94 } : Room) s m args below meth c H locs 0 0 (ZI below args s (dC, dI) 12 ad (celM ad cA cZ) Q) (F0 m 41 ls []) := by
  obtain ⟨hx, hb, hml, hown, hts, hr, hlocks⟩ := C0
  have hD := wd_D (s := s) (cel := celM ad cA cZ) (σ := s0) hi
  unfold B_X11_winters_41 at hv
  refine lv_iload hx hb dX11_winters_41 (lv_at hl 3 rfl) ?_
  refine lv_iload_n hx hb dX11_winters_43 rfl (lv_at hl 1 rfl) ?_
  refine lv_icmp_ge (tgt := 113) hx hb dX11_winters_44 (by decide) (fun c44 => ?_) (fun c44 => ?_)
  · have hv := hv.1 c44
    refine lv_aload_n hx hb dX11_winters_113 rfl (lv_at hl 0 rfl) ?_
    refine r_get hx hb hts (iwX11_winters_X11) hown hK.1 hP 0 (by decide) (ceMo_0 (s0 0)) rfl 6 (by decide) (hts _ kX11_winters_8) (v := .ref (ad 5)) rfl dX11_winters_114 ?_
    refine lv_bipush (v := 23) hx hb dX11_winters_117 (by decide) ?_
    refine r_ci (va_runS (As := [.ref (ad 5), .int 23]) (rest := []) ⟨hx, hb, hml, hown, hts⟩ (c_X11_manyAt hi 5 43 23 arM_5 s0 _ hv H.size) (va_cwS 2 hts gX11_winters_X11_manyAt rfl rfl rfl (by decide +kernel) ⟨Nat.le_of_ble_eq_true rfl, Nat.le_of_ble_eq_true rfl⟩) ⟨pre_blind, pre_of hP hK⟩ rfl rfl hl.1 rfl (lv_room (Nat.le_of_ble_eq_true rfl)) dX11_winters_119 ⟨Nat.zero_le _, Nat.zero_le _⟩) hS (fun r1 s1 H locs hv hP hS => ?_)
    have hD := wd_D (s := s) (cel := celM ad cA cZ) (σ := s1) hi
    exact r_iret hx hb hr hlocks hv hP hS dX11_winters_122
  · have hv := hv.2 c44
    refine lv_lload_n hx hb dX11_winters_47 rfl (lv_at hl 2 rfl) ?_
    refine lv_ldc2 (v := 1103515245) hx hb hown (hts _ kX11_winters_3) dX11_winters_48 ?_
    refine lv_lmul hx hb dX11_winters_51 ?_
    refine lv_ldc2 (v := 12345) hx hb hown (hts _ kX11_winters_4) dX11_winters_52 ?_
    refine lv_ladd hx hb dX11_winters_55 ?_
    refine lv_ldc2 (v := 2147483648) hx hb hown (hts _ kX11_winters_5) dX11_winters_56 ?_
    refine lv_lrem hx hb dX11_winters_59 (by decide) ?_
    refine lv_topl (fun v2 ev2 => ?_)
    have hv := hv v2 ev2
    refine lv_lstore_n (lv' := [(3, .long v2), (0, .ref (ad 0)), (2, .int a2), (5, .int x5)]) hx hb dX11_winters_60 rfl hl (by decide) rfl (fun ls hl => ?_)
    refine lv_lload_n hx hb dX11_winters_61 rfl (lv_at hl 0 rfl) ?_
    refine lv_ldc2 (v := 65536) hx hb hown (hts _ kX11_winters_6) dX11_winters_62 ?_
    refine lv_ldiv hx hb dX11_winters_65 (by decide) ?_
    refine lv_ldc2 (v := 4) hx hb hown (hts _ kX11_winters_7) dX11_winters_66 ?_
    refine lv_lrem hx hb dX11_winters_69 (by decide) ?_
    refine lv_l2i (v := ((v2 / 65536) - (v2 / 65536) / 4 * 4).toInt32) hx hb dX11_winters_70 rfl ?_
    refine lv_topi (fun v3 ev3 => ?_)
    have hv := hv v3 ev3
    refine lv_istore (lv' := [(6, .int v3), (3, .long v2), (0, .ref (ad 0)), (2, .int a2), (5, .int x5)]) hx hb dX11_winters_71 hl (by decide) rfl (fun ls hl => ?_)
    refine lv_aload_n hx hb dX11_winters_73 rfl (lv_at hl 2 rfl) ?_
    refine r_get hx hb hts (iwX11_winters_X11) hown hK.1 hP 0 (by decide) (ceMo_0 (s0 0)) rfl 6 (by decide) (hts _ kX11_winters_8) (v := .ref (ad 5)) rfl dX11_winters_74 ?_
    refine lv_bipush (v := 14) hx hb dX11_winters_77 (by decide) ?_
    refine lv_dup2_11 hx hb dX11_winters_79 rfl rfl ?_
    refine r_iald hx hb hK.1 hP 5 (by decide) (ceMo_5 (s0 5)) (vp_in_of_dec (by decide)) dX11_winters_80 ?_
    refine lv_aload_n hx hb dX11_winters_81 rfl (lv_at hl 2 rfl) ?_
    refine lv_iload hx hb dX11_winters_82 (lv_at hl 0 rfl) ?_
    refine r_ci (va_runV (As := [.int v3]) (rest := [.int (s0 5 14), .int 14, .ref (ad 5)]) ⟨hx, hb, hml, hown, hts⟩ (c_X11_isCrossing hi v3 s0 _ hv H.size) (cwV 1 hts gX11_winters_X11_isCrossing rfl rfl rfl (by decide +kernel) ⟨Nat.le_of_ble_eq_true rfl, Nat.le_of_ble_eq_true rfl⟩) ⟨pre_blind, r_recv hK.1 hP 0 (by decide) (ceMo_0 (s0 0)) rfl, pre_of hP hK⟩ rfl rfl hl.1 rfl (lv_room (Nat.le_of_ble_eq_true rfl)) dX11_winters_84 ⟨Nat.zero_le _, Nat.zero_le _⟩) hS (fun r4 s4 H locs hv hP hS => ?_)
    obtain ⟨hz_r4, hv⟩ := hv
    have hD := wd_D (s := s) (cel := celM ad cA cZ) (σ := s4) hi
    refine lv_if_eq (tgt := 97) hx hb dX11_winters_87 (by decide) (fun c87 => ?_) (fun c87 => ?_)
    · have hv := hv.1 c87
      refine lv_iconst (v := 0) hx hb dX11_winters_97 (by decide) ?_
      exact hY 98 [x5, 0, s0 5 14, 14] [v2] s4 hv _ _ rfl H locs ls hP hS (lv_sub hl [2, 3, 1, 4] rfl)
    · have hv := hv.2 c87
      refine lv_iconst (v := 1) hx hb dX11_winters_90 (by decide) ?_
      refine lv_iload hx hb dX11_winters_91 (lv_at hl 0 rfl) ?_
      refine lv_ishl hx hb dX11_winters_93 ?_
      refine lv_goto (tgt := 98) hx hb dX11_winters_94 (by decide) ?_
      exact hY 98 [x5, (1 : Int32) <<< (v3 &&& 31), s0 5 14, 14] [v2] s4 hv _ _ rfl H locs ls hP hS (lv_sub hl [2, 3, 1, 4] rfl)
set_option maxHeartbeats 4000000 in
set_option maxRecDepth 100000 in
theorem w_X11_winters_98 {p : Program} {l : Launch} {e : Env} {s : State} {m : MethodId} {args : Array Value} {below : List Frame} {meth : Method} {c : Code} {dC : Nat → ClassId} {dI : Nat → Nat → Nat} {ad : Nat → Nat} {cA cZ : ClassId} (hi : Inj 12 ad) (a1 : Int32) (a2 : Int32)  (C0 : Cx cX11_winters RX11 wsX11_winters 7 (some .int) p s m args meth c) (hK : KK dC dI cA cZ s) (Q : Int32 → St → Prop) (Y : Nat → List Int32 → List Int64 → St → Prop) (hY : ∀ P xs ys σ, Y P xs ys σ → XX p l e ({ frames := 4, cells := 0, slots := 0, locals := 94 } : Room) s m args below meth c (dC, dI) 12 ad (celM ad cA cZ) 7 (ZI below args s (dC, dI) 12 ad (celM ad cA cZ) Q) (lay_X11_winters ad a1 a2) P xs ys σ) (x5 : Int32) (t0 : Int32) (t1 : Int32) (t2 : Int32) (y3 : Int64) (s0 : St) (hv : B_X11_winters_98 a1 a2 Q Y x5 t0 t1 t2 y3 s0) {H : Heap} {locs : List Loc} {ls : Array Slot} (hP : va_P (dC, dI) vwCl (wd 12 ad (celM ad cA cZ) s0) H) (hS : va_S (AA 12 ad s.heap.size) s.heap H locs) (hl : lv_has ls 7 [(0, .ref (ad 0)), (2, .int a2), (3, .long y3), (5, .int x5)]) : W p l e ({ frames := 4, cells := 0, slots := 0, locals := 94 } : Room) s m args below meth c H locs 0 0 (ZI below args s (dC, dI) 12 ad (celM ad cA cZ) Q) (F0 m 98 ls [.int t0, .int t1, .int t2, .ref (ad 5)]) := by
  obtain ⟨hx, hb, hml, hown, hts, hr, hlocks⟩ := C0
  have hD := wd_D (s := s) (cel := celM ad cA cZ) (σ := s0) hi
  unfold B_X11_winters_98 at hv
  refine lv_ixor hx hb dX11_winters_98 ?_
  obtain ⟨hin, hv⟩ := hv
  refine r_iast hx hb hK.1 hP hD hS 5 (by decide) (ceMo_5 (s0 5)) (ceMo_5 _) hin dX11_winters_99 (fun H locs s1 es1 hP hD hS => ?_)
  have hv := hv s1 es1
  refine lv_aload_n hx hb dX11_winters_100 rfl (lv_at hl 0 rfl) ?_
  refine r_get hx hb hts (iwX11_winters_X11) hown hK.1 hP 0 (by decide) (ceMo_0 (s1 0)) rfl 6 (by decide) (hts _ kX11_winters_8) (v := .ref (ad 5)) rfl dX11_winters_101 ?_
  refine r_cv (va_runS (As := [.ref (ad 5)]) (rest := []) ⟨hx, hb, hml, hown, hts⟩ (c_X11_goHour hi 5 43 arM_5 s1 _ hv H.size) (va_cwS 1 hts gX11_winters_X11_goHour rfl rfl rfl (by decide +kernel) ⟨Nat.le_of_ble_eq_true rfl, Nat.le_of_ble_eq_true rfl⟩) ⟨pre_blind, pre_of hP hK⟩ rfl rfl hl.1 rfl (lv_room (Nat.le_of_ble_eq_true rfl)) dX11_winters_104 ⟨Nat.zero_le _, Nat.zero_le _⟩) hS (fun s2 H locs hv hP hS => ?_)
  have hD := wd_D (s := s) (cel := celM ad cA cZ) (σ := s2) hi
  refine lv_iinc (v := x5 + 1) (lv' := [(5, .int (x5 + 1)), (0, .ref (ad 0)), (2, .int a2), (3, .long y3)]) hx hb dX11_winters_107 hl (k := 3) rfl rfl (by decide) rfl (fun ls hl => ?_)
  refine lv_goto (tgt := 41) hx hb dX11_winters_110 (by decide) ?_
  exact hY 41 [x5 + 1] [y3] s2 hv _ _ rfl H locs ls hP hS (lv_sub hl [1, 2, 3, 0] rfl)
set_option maxHeartbeats 4000000 in
theorem y_X11_winters {p : Program} {l : Launch} {e : Env} {s : State} {m : MethodId} {args : Array Value} {below : List Frame} {meth : Method} {c : Code} {dC : Nat → ClassId} {dI : Nat → Nat → Nat} {ad : Nat → Nat} {cA cZ : ClassId} (hi : Inj 12 ad) (a1 : Int32) (a2 : Int32)  (C0 : Cx cX11_winters RX11 wsX11_winters 7 (some .int) p s m args meth c) (hK : KK dC dI cA cZ s) (Q : Int32 → St → Prop) : ∀ P xs ys σ, R_X11_winters a1 a2 Q P xs ys σ → XX p l e ({ frames := 4, cells := 0, slots := 0, locals := 94 } : Room) s m args below meth c (dC, dI) 12 ad (celM ad cA cZ) 7 (ZI below args s (dC, dI) 12 ad (celM ad cA cZ) Q) (lay_X11_winters ad a1 a2) P xs ys σ := by
  refine Fx.elim _ (fun P xs ys σ Y hY hB => ?_)
  rcases hB with ⟨rfl, rfl, rfl, hB⟩ | ⟨rfl, x5, y3, rfl, rfl, hB⟩ | ⟨rfl, x5, t0, t1, t2, y3, rfl, rfl, hB⟩
  · intro lv st he H locs ls hP hS hl
    cases he
    exact w_X11_winters_24 hi a1 a2  C0 hK Q Y hY  σ hB hP hS hl
  · intro lv st he H locs ls hP hS hl
    cases he
    exact w_X11_winters_41 hi a1 a2  C0 hK Q Y hY x5 y3 σ hB hP hS hl
  · intro lv st he H locs ls hP hS hl
    cases he
    exact w_X11_winters_98 hi a1 a2  C0 hK Q Y hY x5 t0 t1 t2 y3 σ hB hP hS hl
set_option maxHeartbeats 4000000 in
theorem c_X11_winters {l : Launch} {dC : Nat → ClassId} {dI : Nat → Nat → Nat} {ad : Nat → Nat} {cA cZ : ClassId} (hi : Inj 12 ad) (a1 : Int32) (a2 : Int32)  (s0 : St) (Q : Int32 → St → Prop) (hv : V_X11_winters a1 a2 s0 Q) (sz : Nat) : Met l yX11_winters wsX11_winters ({ frames := 4, cells := 0, slots := 0, locals := 94 } : Room) (va_Pc [.ref (ad 0), .int a1, .int a2] (PW dC dI ad cA cZ 12 (celM ad cA cZ) sz s0)) (va_Qi Q (fun u t => va_P (dC, dI) vwCl (wd 12 ad (celM ad cA cZ) u) t.heap) (AA 12 ad sz)) 0 0 (AA 12 ad sz) := by
  refine Met.ofW (cc := cX11_winters) (maxL := 7) (ret := (some .int)) (by decide) rfl ?_
  intro p e s m args below meth c s₁ B hml hv0
  obtain ⟨rfl, hsz, hP, hK⟩ := hv0
  subst hsz
  have C0 : Cx cX11_winters RX11 wsX11_winters 7 (some .int) p s m ([.ref (ad 0), .int a1, .int a2] : List Value).toArray meth c := ⟨B.exec, B.bytes, hml, findClass_of_methodNamed B.named, atoms_spec (ws := wsX11_winters) B.pre, B.returns, B.notSynchronized⟩
  have hl := lv_entry ([.ref (ad 0), .int a1, .int a2]) (n := 7) (Nat.le_of_ble_eq_true rfl)
  rw [lg_entry_eq]
  generalize (lg_sl ([.ref (ad 0), .int a1, .int a2]) ++ List.replicate (7 - (lg_sl ([.ref (ad 0), .int a1, .int a2])).length) Slot.unset).toArray = ls at hl ⊢
  have hl : lv_has ls 7 [(0, .ref (ad 0)), (1, .int a1), (2, .int a2)] := hl
  exact w_X11_winters_e hi a1 a2  C0 hK Q (R_X11_winters a1 a2 Q) (y_X11_winters hi a1 a2  C0 hK Q)  s0 hv hP va_S.rf hl
def lay_X11_type (ad : Nat → Nat) (a1 : Int32) : Nat → List Int32 → List Int64 → Option (List (Nat × Value) × List Value) := fun P xs ys => match P, xs, ys with
  | _, _, _ => none
set_option maxHeartbeats 4000000 in
set_option maxRecDepth 100000 in
theorem w_X11_type_e {p : Program} {l : Launch} {e : Env} {s : State} {m : MethodId} {args : Array Value} {below : List Frame} {meth : Method} {c : Code} {dC : Nat → ClassId} {dI : Nat → Nat → Nat} {ad : Nat → Nat} {cA cZ : ClassId} (hi : Inj 12 ad) (a1 : Int32)  (C0 : Cx cX11_type RX11 wsX11_type 2 (some .int) p s m args meth c) (hK : KK dC dI cA cZ s) (Q : Int32 → St → Prop) (Y : Nat → List Int32 → List Int64 → St → Prop) (hY : ∀ P xs ys σ, Y P xs ys σ → XX p l e ({ frames := 1, cells := 0, slots := 0, locals := 25 } : Room) s m args below meth c (dC, dI) 12 ad (celM ad cA cZ) 2 (ZI below args s (dC, dI) 12 ad (celM ad cA cZ) Q) (lay_X11_type ad a1) P xs ys σ)  (s0 : St) (hv : B_X11_type_e a1 Q Y  s0) {H : Heap} {locs : List Loc} {ls : Array Slot} (hP : va_P (dC, dI) vwCl (wd 12 ad (celM ad cA cZ) s0) H) (hS : va_S (AA 12 ad s.heap.size) s.heap H locs) (hl : lv_has ls 2 [(0, .ref (ad 0)), (1, .int a1)]) : W p l e ({ frames := 1, cells := 0, slots := 0, locals := 25 } : Room) s m args below meth c H locs 0 0 (ZI below args s (dC, dI) 12 ad (celM ad cA cZ) Q) (F0 m 0 ls []) := by
  obtain ⟨hx, hb, hml, hown, hts, hr, hlocks⟩ := C0
  have hD := wd_D (s := s) (cel := celM ad cA cZ) (σ := s0) hi
  unfold B_X11_type_e at hv
  refine lv_iload_n hx hb dX11_type_0 rfl (lv_at hl 1 rfl) ?_
  refine lv_i2l (v := a1.toInt64) hx hb dX11_type_1 rfl ?_
  refine lv_lconst (v := 0) hx hb dX11_type_2 (by decide) ?_
  refine lv_ldc2 (v := 127) hx hb hown (hts _ kX11_type_1) dX11_type_3 ?_
  refine r_ci (va_runS (As := [.long a1.toInt64, .long 0, .long 127]) (rest := []) ⟨hx, hb, hml, hown, hts⟩ (c_X11_in hi a1.toInt64 0 127 s0 _ hv H.size) (va_cwS 3 hts gX11_type_X11_in rfl rfl rfl (by decide +kernel) ⟨Nat.le_of_ble_eq_true rfl, Nat.le_of_ble_eq_true rfl⟩) ⟨pre_blind, pre_of hP hK⟩ rfl rfl hl.1 rfl (lv_room (Nat.le_of_ble_eq_true rfl)) dX11_type_6 ⟨Nat.zero_le _, Nat.zero_le _⟩) hS (fun r1 s1 H locs hv hP hS => ?_)
  obtain ⟨hz_r1, hv⟩ := hv
  have hD := wd_D (s := s) (cel := celM ad cA cZ) (σ := s1) hi
  refine lv_if_ne (tgt := 19) hx hb dX11_type_9 (by decide) (fun c9 => ?_) (fun c9 => ?_)
  · have hv := hv.1 c9
    refine lv_aload_n hx hb dX11_type_19 rfl (lv_at hl 0 rfl) ?_
    refine r_get hx hb hts (iwX11_type_X11) hown hK.1 hP 0 (by decide) (ceMo_0 (s1 0)) rfl 11 (by decide) (hts _ kX11_type_2) (v := .int (s1 0 11)) rfl dX11_type_20 ?_
    refine lv_sipush (v := 150) hx hb dX11_type_23 (by decide) ?_
    refine lv_icmp_ne (tgt := 34) hx hb dX11_type_26 (by decide) (fun c26 => ?_) (fun c26 => ?_)
    · have hv := hv.1 c26
      refine lv_aload_n hx hb dX11_type_34 rfl (lv_at hl 0 rfl) ?_
      refine r_get hx hb hts (iwX11_type_X11) hown hK.1 hP 0 (by decide) (ceMo_0 (s1 0)) rfl 10 (by decide) (hts _ kX11_type_3) (v := .ref (ad 9)) rfl dX11_type_35 ?_
      refine lv_aload_n hx hb dX11_type_38 rfl (lv_at hl 0 rfl) ?_
      refine r_get hx hb hts (iwX11_type_X11) hown hK.1 hP 0 (by decide) (ceMo_0 (s1 0)) rfl 11 (by decide) (hts _ kX11_type_2) (v := .int (s1 0 11)) rfl dX11_type_39 ?_
      refine lv_iload_n hx hb dX11_type_42 rfl (lv_at hl 1 rfl) ?_
      obtain ⟨hin, hv⟩ := hv
      refine r_iast hx hb hK.1 hP hD hS 9 (by decide) (ceMo_9 (s1 9)) (ceMo_9 _) hin dX11_type_43 (fun H locs s2 es2 hP hD hS => ?_)
      have hv := hv s2 es2
      refine lv_aload_n hx hb dX11_type_44 rfl (lv_at hl 0 rfl) ?_
      refine lv_dup hx hb dX11_type_45 rfl ?_
      refine r_get hx hb hts (iwX11_type_X11) hown hK.1 hP 0 (by decide) (ceMo_0 (s2 0)) rfl 11 (by decide) (hts _ kX11_type_2) (v := .int (s2 0 11)) rfl dX11_type_46 ?_
      refine lv_iconst (v := 1) hx hb dX11_type_49 (by decide) ?_
      refine lv_iadd hx hb dX11_type_50 ?_
      refine r_put hx hb hts (iwX11_type_X11) tyX11 tyX11_ok nmX11 hown hK.1 hP hD hS 0 (by decide) (ceMo_0 (s2 0)) rfl 11 (by decide) (hts _ kX11_type_2) rfl (ty := .int) (v := .int ((s2 0 11) + 1)) (by decide +kernel) rfl rfl (Nat.le_of_ble_eq_true rfl) (row := (upd (s2 0) 11 ((s2 0 11) + 1))) (by rw [(ceMo_0 (upd (s2 0) 11 ((s2 0 11) + 1)))]; rfl) dX11_type_51 (fun H locs s3 es3 hP hD hS => ?_)
      have hv := hv s3 es3
      refine lv_aload_n hx hb dX11_type_54 rfl (lv_at hl 0 rfl) ?_
      refine r_get hx hb hts (iwX11_type_X11) hown hK.1 hP 0 (by decide) (ceMo_0 (s3 0)) rfl 11 (by decide) (hts _ kX11_type_2) (v := .int (s3 0 11)) rfl dX11_type_55 ?_
      exact r_iret hx hb hr hlocks hv hP hS dX11_type_58
    · have hv := hv.2 c26
      refine lv_aload_n hx hb dX11_type_29 rfl (lv_at hl 0 rfl) ?_
      refine r_ci (va_runV (As := []) (rest := []) ⟨hx, hb, hml, hown, hts⟩ (c_X11_full hi  s1 _ hv H.size) (cwV 0 hts gX11_type_X11_full rfl rfl rfl (by decide +kernel) ⟨Nat.le_of_ble_eq_true rfl, Nat.le_of_ble_eq_true rfl⟩) ⟨pre_blind, r_recv hK.1 hP 0 (by decide) (ceMo_0 (s1 0)) rfl, pre_of hP hK⟩ rfl rfl hl.1 rfl (lv_room (Nat.le_of_ble_eq_true rfl)) dX11_type_30 ⟨Nat.zero_le _, Nat.zero_le _⟩) hS (fun r4 s4 H locs hv hP hS => ?_)
      have hD := wd_D (s := s) (cel := celM ad cA cZ) (σ := s4) hi
      exact r_iret hx hb hr hlocks hv hP hS dX11_type_33
  · have hv := hv.2 c9
    refine lv_aload_n hx hb dX11_type_12 rfl (lv_at hl 0 rfl) ?_
    refine lv_bipush (v := (-2)) hx hb dX11_type_13 (by decide) ?_
    refine r_ci (va_runV (As := [.int ((-2))]) (rest := []) ⟨hx, hb, hml, hown, hts⟩ (c_X11_bad hi ((-2)) s1 _ hv H.size) (cwV 1 hts gX11_type_X11_bad rfl rfl rfl (by decide +kernel) ⟨Nat.le_of_ble_eq_true rfl, Nat.le_of_ble_eq_true rfl⟩) ⟨pre_blind, r_recv hK.1 hP 0 (by decide) (ceMo_0 (s1 0)) rfl, pre_of hP hK⟩ rfl rfl hl.1 rfl (lv_room (Nat.le_of_ble_eq_true rfl)) dX11_type_15 ⟨Nat.zero_le _, Nat.zero_le _⟩) hS (fun r5 s5 H locs hv hP hS => ?_)
    have hD := wd_D (s := s) (cel := celM ad cA cZ) (σ := s5) hi
    exact r_iret hx hb hr hlocks hv hP hS dX11_type_18
set_option maxHeartbeats 4000000 in
theorem y_X11_type {p : Program} {l : Launch} {e : Env} {s : State} {m : MethodId} {args : Array Value} {below : List Frame} {meth : Method} {c : Code} {dC : Nat → ClassId} {dI : Nat → Nat → Nat} {ad : Nat → Nat} {cA cZ : ClassId} (hi : Inj 12 ad) (a1 : Int32)  (C0 : Cx cX11_type RX11 wsX11_type 2 (some .int) p s m args meth c) (hK : KK dC dI cA cZ s) (Q : Int32 → St → Prop) : ∀ P xs ys σ, R_X11_type a1 Q P xs ys σ → XX p l e ({ frames := 1, cells := 0, slots := 0, locals := 25 } : Room) s m args below meth c (dC, dI) 12 ad (celM ad cA cZ) 2 (ZI below args s (dC, dI) 12 ad (celM ad cA cZ) Q) (lay_X11_type ad a1) P xs ys σ := by
  refine Fx.elim _ (fun P xs ys σ Y hY hB => ?_)
  exact hB.elim
set_option maxHeartbeats 4000000 in
theorem c_X11_type {l : Launch} {dC : Nat → ClassId} {dI : Nat → Nat → Nat} {ad : Nat → Nat} {cA cZ : ClassId} (hi : Inj 12 ad) (a1 : Int32)  (s0 : St) (Q : Int32 → St → Prop) (hv : V_X11_type a1 s0 Q) (sz : Nat) : Met l yX11_type wsX11_type ({ frames := 1, cells := 0, slots := 0, locals := 25 } : Room) (va_Pc [.ref (ad 0), .int a1] (PW dC dI ad cA cZ 12 (celM ad cA cZ) sz s0)) (va_Qi Q (fun u t => va_P (dC, dI) vwCl (wd 12 ad (celM ad cA cZ) u) t.heap) (AA 12 ad sz)) 0 0 (AA 12 ad sz) := by
  refine Met.ofW (cc := cX11_type) (maxL := 2) (ret := (some .int)) (by decide) rfl ?_
  intro p e s m args below meth c s₁ B hml hv0
  obtain ⟨rfl, hsz, hP, hK⟩ := hv0
  subst hsz
  have C0 : Cx cX11_type RX11 wsX11_type 2 (some .int) p s m ([.ref (ad 0), .int a1] : List Value).toArray meth c := ⟨B.exec, B.bytes, hml, findClass_of_methodNamed B.named, atoms_spec (ws := wsX11_type) B.pre, B.returns, B.notSynchronized⟩
  have hl := lv_entry ([.ref (ad 0), .int a1]) (n := 2) (Nat.le_of_ble_eq_true rfl)
  rw [lg_entry_eq]
  generalize (lg_sl ([.ref (ad 0), .int a1]) ++ List.replicate (2 - (lg_sl ([.ref (ad 0), .int a1])).length) Slot.unset).toArray = ls at hl ⊢
  have hl : lv_has ls 2 [(0, .ref (ad 0)), (1, .int a1)] := hl
  exact w_X11_type_e hi a1  C0 hK Q (R_X11_type a1 Q) (y_X11_type hi a1  C0 hK Q)  s0 hv hP va_S.rf hl
def lay_X11_clear (ad : Nat → Nat)  : Nat → List Int32 → List Int64 → Option (List (Nat × Value) × List Value) := fun P xs ys => match P, xs, ys with
  | _, _, _ => none
set_option maxHeartbeats 4000000 in
set_option maxRecDepth 100000 in
theorem w_X11_clear_e {p : Program} {l : Launch} {e : Env} {s : State} {m : MethodId} {args : Array Value} {below : List Frame} {meth : Method} {c : Code} {dC : Nat → ClassId} {dI : Nat → Nat → Nat} {ad : Nat → Nat} {cA cZ : ClassId} (hi : Inj 12 ad)   (C0 : Cx cX11_clear RX11 wsX11_clear 2 (some .int) p s m args meth c) (hK : KK dC dI cA cZ s) (Q : Int32 → St → Prop) (Y : Nat → List Int32 → List Int64 → St → Prop) (hY : ∀ P xs ys σ, Y P xs ys σ → XX p l e ({ frames := 0, cells := 0, slots := 0, locals := 0 } : Room) s m args below meth c (dC, dI) 12 ad (celM ad cA cZ) 2 (ZI below args s (dC, dI) 12 ad (celM ad cA cZ) Q) (lay_X11_clear ad ) P xs ys σ)  (s0 : St) (hv : B_X11_clear_e  Q Y  s0) {H : Heap} {locs : List Loc} {ls : Array Slot} (hP : va_P (dC, dI) vwCl (wd 12 ad (celM ad cA cZ) s0) H) (hS : va_S (AA 12 ad s.heap.size) s.heap H locs) (hl : lv_has ls 2 [(0, .ref (ad 0))]) : W p l e ({ frames := 0, cells := 0, slots := 0, locals := 0 } : Room) s m args below meth c H locs 0 0 (ZI below args s (dC, dI) 12 ad (celM ad cA cZ) Q) (F0 m 0 ls []) := by
  obtain ⟨hx, hb, hml, hown, hts, hr, hlocks⟩ := C0
  have hD := wd_D (s := s) (cel := celM ad cA cZ) (σ := s0) hi
  unfold B_X11_clear_e at hv
  refine lv_aload_n hx hb dX11_clear_0 rfl (lv_at hl 0 rfl) ?_
  refine r_get hx hb hts (iwX11_clear_X11) hown hK.1 hP 0 (by decide) (ceMo_0 (s0 0)) rfl 11 (by decide) (hts _ kX11_clear_1) (v := .int (s0 0 11)) rfl dX11_clear_1 ?_
  refine lv_istore_n (lv' := [(1, .int (s0 0 11)), (0, .ref (ad 0))]) hx hb dX11_clear_4 rfl hl (by decide) rfl (fun ls hl => ?_)
  refine lv_aload_n hx hb dX11_clear_5 rfl (lv_at hl 1 rfl) ?_
  refine lv_iconst (v := 0) hx hb dX11_clear_6 (by decide) ?_
  refine r_put hx hb hts (iwX11_clear_X11) tyX11 tyX11_ok nmX11 hown hK.1 hP hD hS 0 (by decide) (ceMo_0 (s0 0)) rfl 11 (by decide) (hts _ kX11_clear_1) rfl (ty := .int) (v := .int 0) (by decide +kernel) rfl rfl (Nat.le_of_ble_eq_true rfl) (row := (upd (s0 0) 11 0)) (by rw [(ceMo_0 (upd (s0 0) 11 0))]; rfl) dX11_clear_7 (fun H locs s1 es1 hP hD hS => ?_)
  have hv := hv s1 es1
  refine lv_iload_n hx hb dX11_clear_10 rfl (lv_at hl 0 rfl) ?_
  exact r_iret hx hb hr hlocks hv hP hS dX11_clear_11
set_option maxHeartbeats 4000000 in
theorem y_X11_clear {p : Program} {l : Launch} {e : Env} {s : State} {m : MethodId} {args : Array Value} {below : List Frame} {meth : Method} {c : Code} {dC : Nat → ClassId} {dI : Nat → Nat → Nat} {ad : Nat → Nat} {cA cZ : ClassId} (hi : Inj 12 ad)   (C0 : Cx cX11_clear RX11 wsX11_clear 2 (some .int) p s m args meth c) (hK : KK dC dI cA cZ s) (Q : Int32 → St → Prop) : ∀ P xs ys σ, R_X11_clear  Q P xs ys σ → XX p l e ({ frames := 0, cells := 0, slots := 0, locals := 0 } : Room) s m args below meth c (dC, dI) 12 ad (celM ad cA cZ) 2 (ZI below args s (dC, dI) 12 ad (celM ad cA cZ) Q) (lay_X11_clear ad ) P xs ys σ := by
  refine Fx.elim _ (fun P xs ys σ Y hY hB => ?_)
  exact hB.elim
set_option maxHeartbeats 4000000 in
theorem c_X11_clear {l : Launch} {dC : Nat → ClassId} {dI : Nat → Nat → Nat} {ad : Nat → Nat} {cA cZ : ClassId} (hi : Inj 12 ad)   (s0 : St) (Q : Int32 → St → Prop) (hv : V_X11_clear  s0 Q) (sz : Nat) : Met l yX11_clear wsX11_clear ({ frames := 0, cells := 0, slots := 0, locals := 0 } : Room) (va_Pc [.ref (ad 0)] (PW dC dI ad cA cZ 12 (celM ad cA cZ) sz s0)) (va_Qi Q (fun u t => va_P (dC, dI) vwCl (wd 12 ad (celM ad cA cZ) u) t.heap) (AA 12 ad sz)) 0 0 (AA 12 ad sz) := by
  refine Met.ofW (cc := cX11_clear) (maxL := 2) (ret := (some .int)) (by decide) rfl ?_
  intro p e s m args below meth c s₁ B hml hv0
  obtain ⟨rfl, hsz, hP, hK⟩ := hv0
  subst hsz
  have C0 : Cx cX11_clear RX11 wsX11_clear 2 (some .int) p s m ([.ref (ad 0)] : List Value).toArray meth c := ⟨B.exec, B.bytes, hml, findClass_of_methodNamed B.named, atoms_spec (ws := wsX11_clear) B.pre, B.returns, B.notSynchronized⟩
  have hl := lv_entry ([.ref (ad 0)]) (n := 2) (Nat.le_of_ble_eq_true rfl)
  rw [lg_entry_eq]
  generalize (lg_sl ([.ref (ad 0)]) ++ List.replicate (2 - (lg_sl ([.ref (ad 0)])).length) Slot.unset).toArray = ls at hl ⊢
  have hl : lv_has ls 2 [(0, .ref (ad 0))] := hl
  exact w_X11_clear_e hi   C0 hK Q (R_X11_clear  Q) (y_X11_clear hi   C0 hK Q)  s0 hv hP va_S.rf hl
def lay_X11_isSmall (ad : Nat → Nat) (a0 : Int32) : Nat → List Int32 → List Int64 → Option (List (Nat × Value) × List Value) := fun P xs ys => match P, xs, ys with
  | _, _, _ => none
set_option maxHeartbeats 4000000 in
set_option maxRecDepth 100000 in
theorem w_X11_isSmall_e {p : Program} {l : Launch} {e : Env} {s : State} {m : MethodId} {args : Array Value} {below : List Frame} {meth : Method} {c : Code} {dC : Nat → ClassId} {dI : Nat → Nat → Nat} {ad : Nat → Nat} {cA cZ : ClassId} (hi : Inj 12 ad) (a0 : Int32)  (C0 : Cx cX11_isSmall RX11 wsX11_isSmall 1 (some .boolean) p s m args meth c) (hK : KK dC dI cA cZ s) (Q : Int32 → St → Prop) (Y : Nat → List Int32 → List Int64 → St → Prop) (hY : ∀ P xs ys σ, Y P xs ys σ → XX p l e ({ frames := 1, cells := 0, slots := 0, locals := 25 } : Room) s m args below meth c (dC, dI) 12 ad (celM ad cA cZ) 1 (ZZ below args s (dC, dI) 12 ad (celM ad cA cZ) Q) (lay_X11_isSmall ad a0) P xs ys σ)  (s0 : St) (hv : B_X11_isSmall_e a0 Q Y  s0) {H : Heap} {locs : List Loc} {ls : Array Slot} (hP : va_P (dC, dI) vwCl (wd 12 ad (celM ad cA cZ) s0) H) (hS : va_S (AA 12 ad s.heap.size) s.heap H locs) (hl : lv_has ls 1 [(0, .int a0)]) : W p l e ({ frames := 1, cells := 0, slots := 0, locals := 25 } : Room) s m args below meth c H locs 0 0 (ZZ below args s (dC, dI) 12 ad (celM ad cA cZ) Q) (F0 m 0 ls []) := by
  obtain ⟨hx, hb, hml, hown, hts, hr, hlocks⟩ := C0
  have hD := wd_D (s := s) (cel := celM ad cA cZ) (σ := s0) hi
  unfold B_X11_isSmall_e at hv
  refine lv_iload_n hx hb dX11_isSmall_0 rfl (lv_at hl 0 rfl) ?_
  refine lv_i2l (v := a0.toInt64) hx hb dX11_isSmall_1 rfl ?_
  refine lv_ldc2 (v := 97) hx hb hown (hts _ kX11_isSmall_1) dX11_isSmall_2 ?_
  refine lv_ldc2 (v := 122) hx hb hown (hts _ kX11_isSmall_2) dX11_isSmall_5 ?_
  refine r_ci (va_runS (As := [.long a0.toInt64, .long 97, .long 122]) (rest := []) ⟨hx, hb, hml, hown, hts⟩ (c_X11_in hi a0.toInt64 97 122 s0 _ hv H.size) (va_cwS 3 hts gX11_isSmall_X11_in rfl rfl rfl (by decide +kernel) ⟨Nat.le_of_ble_eq_true rfl, Nat.le_of_ble_eq_true rfl⟩) ⟨pre_blind, pre_of hP hK⟩ rfl rfl hl.1 rfl (lv_room (Nat.le_of_ble_eq_true rfl)) dX11_isSmall_8 ⟨Nat.zero_le _, Nat.zero_le _⟩) hS (fun r1 s1 H locs hv hP hS => ?_)
  obtain ⟨hz_r1, hv⟩ := hv
  have hD := wd_D (s := s) (cel := celM ad cA cZ) (σ := s1) hi
  exact r_zret hx hb hr hlocks hz_r1 hv hP hS dX11_isSmall_11
set_option maxHeartbeats 4000000 in
theorem y_X11_isSmall {p : Program} {l : Launch} {e : Env} {s : State} {m : MethodId} {args : Array Value} {below : List Frame} {meth : Method} {c : Code} {dC : Nat → ClassId} {dI : Nat → Nat → Nat} {ad : Nat → Nat} {cA cZ : ClassId} (hi : Inj 12 ad) (a0 : Int32)  (C0 : Cx cX11_isSmall RX11 wsX11_isSmall 1 (some .boolean) p s m args meth c) (hK : KK dC dI cA cZ s) (Q : Int32 → St → Prop) : ∀ P xs ys σ, R_X11_isSmall a0 Q P xs ys σ → XX p l e ({ frames := 1, cells := 0, slots := 0, locals := 25 } : Room) s m args below meth c (dC, dI) 12 ad (celM ad cA cZ) 1 (ZZ below args s (dC, dI) 12 ad (celM ad cA cZ) Q) (lay_X11_isSmall ad a0) P xs ys σ := by
  refine Fx.elim _ (fun P xs ys σ Y hY hB => ?_)
  exact hB.elim
set_option maxHeartbeats 4000000 in
theorem c_X11_isSmall {l : Launch} {dC : Nat → ClassId} {dI : Nat → Nat → Nat} {ad : Nat → Nat} {cA cZ : ClassId} (hi : Inj 12 ad) (a0 : Int32)  (s0 : St) (Q : Int32 → St → Prop) (hv : V_X11_isSmall a0 s0 Q) (sz : Nat) : Met l yX11_isSmall wsX11_isSmall ({ frames := 1, cells := 0, slots := 0, locals := 25 } : Room) (va_Pc [.int a0] (PW dC dI ad cA cZ 12 (celM ad cA cZ) sz s0)) (va_Qi (fun r u => (r = 0 ∨ r = 1) ∧ Q r u) (fun u t => va_P (dC, dI) vwCl (wd 12 ad (celM ad cA cZ) u) t.heap) (AA 12 ad sz)) 0 0 (AA 12 ad sz) := by
  refine Met.ofW (cc := cX11_isSmall) (maxL := 1) (ret := (some .boolean)) (by decide) rfl ?_
  intro p e s m args below meth c s₁ B hml hv0
  obtain ⟨rfl, hsz, hP, hK⟩ := hv0
  subst hsz
  have C0 : Cx cX11_isSmall RX11 wsX11_isSmall 1 (some .boolean) p s m ([.int a0] : List Value).toArray meth c := ⟨B.exec, B.bytes, hml, findClass_of_methodNamed B.named, atoms_spec (ws := wsX11_isSmall) B.pre, B.returns, B.notSynchronized⟩
  have hl := lv_entry ([.int a0]) (n := 1) (Nat.le_of_ble_eq_true rfl)
  rw [lg_entry_eq]
  generalize (lg_sl ([.int a0]) ++ List.replicate (1 - (lg_sl ([.int a0])).length) Slot.unset).toArray = ls at hl ⊢
  have hl : lv_has ls 1 [(0, .int a0)] := hl
  exact w_X11_isSmall_e hi a0  C0 hK Q (R_X11_isSmall a0 Q) (y_X11_isSmall hi a0  C0 hK Q)  s0 hv hP va_S.rf hl
def lay_X11_isFigure (ad : Nat → Nat) (a0 : Int32) : Nat → List Int32 → List Int64 → Option (List (Nat × Value) × List Value) := fun P xs ys => match P, xs, ys with
  | _, _, _ => none
set_option maxHeartbeats 4000000 in
set_option maxRecDepth 100000 in
theorem w_X11_isFigure_e {p : Program} {l : Launch} {e : Env} {s : State} {m : MethodId} {args : Array Value} {below : List Frame} {meth : Method} {c : Code} {dC : Nat → ClassId} {dI : Nat → Nat → Nat} {ad : Nat → Nat} {cA cZ : ClassId} (hi : Inj 12 ad) (a0 : Int32)  (C0 : Cx cX11_isFigure RX11 wsX11_isFigure 1 (some .boolean) p s m args meth c) (hK : KK dC dI cA cZ s) (Q : Int32 → St → Prop) (Y : Nat → List Int32 → List Int64 → St → Prop) (hY : ∀ P xs ys σ, Y P xs ys σ → XX p l e ({ frames := 1, cells := 0, slots := 0, locals := 25 } : Room) s m args below meth c (dC, dI) 12 ad (celM ad cA cZ) 1 (ZZ below args s (dC, dI) 12 ad (celM ad cA cZ) Q) (lay_X11_isFigure ad a0) P xs ys σ)  (s0 : St) (hv : B_X11_isFigure_e a0 Q Y  s0) {H : Heap} {locs : List Loc} {ls : Array Slot} (hP : va_P (dC, dI) vwCl (wd 12 ad (celM ad cA cZ) s0) H) (hS : va_S (AA 12 ad s.heap.size) s.heap H locs) (hl : lv_has ls 1 [(0, .int a0)]) : W p l e ({ frames := 1, cells := 0, slots := 0, locals := 25 } : Room) s m args below meth c H locs 0 0 (ZZ below args s (dC, dI) 12 ad (celM ad cA cZ) Q) (F0 m 0 ls []) := by
  obtain ⟨hx, hb, hml, hown, hts, hr, hlocks⟩ := C0
  have hD := wd_D (s := s) (cel := celM ad cA cZ) (σ := s0) hi
  unfold B_X11_isFigure_e at hv
  refine lv_iload_n hx hb dX11_isFigure_0 rfl (lv_at hl 0 rfl) ?_
  refine lv_i2l (v := a0.toInt64) hx hb dX11_isFigure_1 rfl ?_
  refine lv_ldc2 (v := 48) hx hb hown (hts _ kX11_isFigure_1) dX11_isFigure_2 ?_
  refine lv_ldc2 (v := 57) hx hb hown (hts _ kX11_isFigure_2) dX11_isFigure_5 ?_
  refine r_ci (va_runS (As := [.long a0.toInt64, .long 48, .long 57]) (rest := []) ⟨hx, hb, hml, hown, hts⟩ (c_X11_in hi a0.toInt64 48 57 s0 _ hv H.size) (va_cwS 3 hts gX11_isFigure_X11_in rfl rfl rfl (by decide +kernel) ⟨Nat.le_of_ble_eq_true rfl, Nat.le_of_ble_eq_true rfl⟩) ⟨pre_blind, pre_of hP hK⟩ rfl rfl hl.1 rfl (lv_room (Nat.le_of_ble_eq_true rfl)) dX11_isFigure_8 ⟨Nat.zero_le _, Nat.zero_le _⟩) hS (fun r1 s1 H locs hv hP hS => ?_)
  obtain ⟨hz_r1, hv⟩ := hv
  have hD := wd_D (s := s) (cel := celM ad cA cZ) (σ := s1) hi
  exact r_zret hx hb hr hlocks hz_r1 hv hP hS dX11_isFigure_11
set_option maxHeartbeats 4000000 in
theorem y_X11_isFigure {p : Program} {l : Launch} {e : Env} {s : State} {m : MethodId} {args : Array Value} {below : List Frame} {meth : Method} {c : Code} {dC : Nat → ClassId} {dI : Nat → Nat → Nat} {ad : Nat → Nat} {cA cZ : ClassId} (hi : Inj 12 ad) (a0 : Int32)  (C0 : Cx cX11_isFigure RX11 wsX11_isFigure 1 (some .boolean) p s m args meth c) (hK : KK dC dI cA cZ s) (Q : Int32 → St → Prop) : ∀ P xs ys σ, R_X11_isFigure a0 Q P xs ys σ → XX p l e ({ frames := 1, cells := 0, slots := 0, locals := 25 } : Room) s m args below meth c (dC, dI) 12 ad (celM ad cA cZ) 1 (ZZ below args s (dC, dI) 12 ad (celM ad cA cZ) Q) (lay_X11_isFigure ad a0) P xs ys σ := by
  refine Fx.elim _ (fun P xs ys σ Y hY hB => ?_)
  exact hB.elim
set_option maxHeartbeats 4000000 in
theorem c_X11_isFigure {l : Launch} {dC : Nat → ClassId} {dI : Nat → Nat → Nat} {ad : Nat → Nat} {cA cZ : ClassId} (hi : Inj 12 ad) (a0 : Int32)  (s0 : St) (Q : Int32 → St → Prop) (hv : V_X11_isFigure a0 s0 Q) (sz : Nat) : Met l yX11_isFigure wsX11_isFigure ({ frames := 1, cells := 0, slots := 0, locals := 25 } : Room) (va_Pc [.int a0] (PW dC dI ad cA cZ 12 (celM ad cA cZ) sz s0)) (va_Qi (fun r u => (r = 0 ∨ r = 1) ∧ Q r u) (fun u t => va_P (dC, dI) vwCl (wd 12 ad (celM ad cA cZ) u) t.heap) (AA 12 ad sz)) 0 0 (AA 12 ad sz) := by
  refine Met.ofW (cc := cX11_isFigure) (maxL := 1) (ret := (some .boolean)) (by decide) rfl ?_
  intro p e s m args below meth c s₁ B hml hv0
  obtain ⟨rfl, hsz, hP, hK⟩ := hv0
  subst hsz
  have C0 : Cx cX11_isFigure RX11 wsX11_isFigure 1 (some .boolean) p s m ([.int a0] : List Value).toArray meth c := ⟨B.exec, B.bytes, hml, findClass_of_methodNamed B.named, atoms_spec (ws := wsX11_isFigure) B.pre, B.returns, B.notSynchronized⟩
  have hl := lv_entry ([.int a0]) (n := 1) (Nat.le_of_ble_eq_true rfl)
  rw [lg_entry_eq]
  generalize (lg_sl ([.int a0]) ++ List.replicate (1 - (lg_sl ([.int a0])).length) Slot.unset).toArray = ls at hl ⊢
  have hl : lv_has ls 1 [(0, .int a0)] := hl
  exact w_X11_isFigure_e hi a0  C0 hK Q (R_X11_isFigure a0 Q) (y_X11_isFigure hi a0  C0 hK Q)  s0 hv hP va_S.rf hl
def lay_X11_lookAt (ad : Nat → Nat) (a1 : Int32) : Nat → List Int32 → List Int64 → Option (List (Nat × Value) × List Value) := fun P xs ys => match P, xs, ys with
  | 5, [], [] => some ([(0, .ref (ad 0))], [])
  | 43, [], [] => some ([(0, .ref (ad 0))], [])
  | 114, [t0], [] => some ([(0, .ref (ad 0))], [.int t0, .ref (ad 0)])
  | 136, [x3], [] => some ([(0, .ref (ad 0)), (3, .int x3)], [])
  | 193, [t0], [] => some ([(0, .ref (ad 0))], [.int t0])
  | 218, [x4], [] => some ([(0, .ref (ad 0)), (4, .int x4)], [])
  | 274, [], [] => some ([(0, .ref (ad 0))], [])
  | _, _, _ => none
set_option maxHeartbeats 4000000 in
set_option maxRecDepth 100000 in
theorem w_X11_lookAt_e {p : Program} {l : Launch} {e : Env} {s : State} {m : MethodId} {args : Array Value} {below : List Frame} {meth : Method} {c : Code} {dC : Nat → ClassId} {dI : Nat → Nat → Nat} {ad : Nat → Nat} {cA cZ : ClassId} (hi : Inj 12 ad) (a1 : Int32)  (C0 : Cx cX11_lookAt RX11 wsX11_lookAt 5 none p s m args meth c) (hK : KK dC dI cA cZ s) (Q : St → Prop) (Y : Nat → List Int32 → List Int64 → St → Prop) (hY : ∀ P xs ys σ, Y P xs ys σ → XX p l e ({ frames := 2, cells := 0, slots := 0, locals := 45 } : Room) s m args below meth c (dC, dI) 12 ad (celM ad cA cZ) 5 (ZV below args s (dC, dI) 12 ad (celM ad cA cZ) Q) (lay_X11_lookAt ad a1) P xs ys σ)  (s0 : St) (hv : B_X11_lookAt_e a1 Q Y  s0) {H : Heap} {locs : List Loc} {ls : Array Slot} (hP : va_P (dC, dI) vwCl (wd 12 ad (celM ad cA cZ) s0) H) (hS : va_S (AA 12 ad s.heap.size) s.heap H locs) (hl : lv_has ls 5 [(0, .ref (ad 0)), (1, .int a1)]) : W p l e ({ frames := 2, cells := 0, slots := 0, locals := 45 } : Room) s m args below meth c H locs 0 0 (ZV below args s (dC, dI) 12 ad (celM ad cA cZ) Q) (F0 m 0 ls []) := by
  obtain ⟨hx, hb, hml, hown, hts, hr, hlocks⟩ := C0
  have hD := wd_D (s := s) (cel := celM ad cA cZ) (σ := s0) hi
  unfold B_X11_lookAt_e at hv
  refine lv_aload_n hx hb dX11_lookAt_0 rfl (lv_at hl 0 rfl) ?_
  refine lv_iload_n hx hb dX11_lookAt_1 rfl (lv_at hl 1 rfl) ?_
  refine r_put hx hb hts (iwX11_lookAt_X11) tyX11 tyX11_ok nmX11 hown hK.1 hP hD hS 0 (by decide) (ceMo_0 (s0 0)) rfl 12 (by decide) (hts _ kX11_lookAt_1) rfl (ty := .int) (v := .int a1) (by decide +kernel) rfl rfl (Nat.le_of_ble_eq_true rfl) (row := (upd (s0 0) 12 a1)) (by rw [(ceMo_0 (upd (s0 0) 12 a1))]; rfl) dX11_lookAt_2 (fun H locs s1 es1 hP hD hS => ?_)
  have hv := hv s1 es1
  exact hY 5 [] [] s1 hv _ _ rfl H locs ls hP hS (lv_sub hl [0] rfl)
set_option maxHeartbeats 4000000 in
set_option maxRecDepth 100000 in
theorem w_X11_lookAt_5 {p : Program} {l : Launch} {e : Env} {s : State} {m : MethodId} {args : Array Value} {below : List Frame} {meth : Method} {c : Code} {dC : Nat → ClassId} {dI : Nat → Nat → Nat} {ad : Nat → Nat} {cA cZ : ClassId} (hi : Inj 12 ad) (a1 : Int32)  (C0 : Cx cX11_lookAt RX11 wsX11_lookAt 5 none p s m args meth c) (hK : KK dC dI cA cZ s) (Q : St → Prop) (Y : Nat → List Int32 → List Int64 → St → Prop) (hY : ∀ P xs ys σ, Y P xs ys σ → XX p l e ({ frames := 2, cells := 0, slots := 0, locals := 45 } : Room) s m args below meth c (dC, dI) 12 ad (celM ad cA cZ) 5 (ZV below args s (dC, dI) 12 ad (celM ad cA cZ) Q) (lay_X11_lookAt ad a1) P xs ys σ)  (s0 : St) (hv : B_X11_lookAt_5 a1 Q Y  s0) {H : Heap} {locs : List Loc} {ls : Array Slot} (hP : va_P (dC, dI) vwCl (wd 12 ad (celM ad cA cZ) s0) H) (hS : va_S (AA 12 ad s.heap.size) s.heap H locs) (hl : lv_has ls 5 [(0, .ref (ad 0))]) : W p l e ({ frames := 2, cells := 0, slots := 0, locals := 45 } : Room) s m args below meth c H locs 0 0 (ZV below args s (dC, dI) 12 ad (celM ad cA cZ) Q) (F0 m 5 ls []) := by
  obtain ⟨hx, hb, hml, hown, hts, hr, hlocks⟩ := C0
  have hD := wd_D (s := s) (cel := celM ad cA cZ) (σ := s0) hi
  unfold B_X11_lookAt_5 at hv
  refine lv_aload_n hx hb dX11_lookAt_5 rfl (lv_at hl 0 rfl) ?_
  refine r_get hx hb hts (iwX11_lookAt_X11) hown hK.1 hP 0 (by decide) (ceMo_0 (s0 0)) rfl 12 (by decide) (hts _ kX11_lookAt_1) (v := .int (s0 0 12)) rfl dX11_lookAt_6 ?_
  refine lv_aload_n hx hb dX11_lookAt_9 rfl (lv_at hl 0 rfl) ?_
  refine r_get hx hb hts (iwX11_lookAt_X11) hown hK.1 hP 0 (by decide) (ceMo_0 (s0 0)) rfl 11 (by decide) (hts _ kX11_lookAt_2) (v := .int (s0 0 11)) rfl dX11_lookAt_10 ?_
  refine lv_icmp_ge (tgt := 43) hx hb dX11_lookAt_13 (by decide) (fun c13 => ?_) (fun c13 => ?_)
  · have hv := hv.1 c13
    exact hY 43 [] [] s0 hv _ _ rfl H locs ls hP hS (lv_sub hl [0] rfl)
  · have hv := hv.2 c13
    refine lv_aload_n hx hb dX11_lookAt_16 rfl (lv_at hl 0 rfl) ?_
    refine r_get hx hb hts (iwX11_lookAt_X11) hown hK.1 hP 0 (by decide) (ceMo_0 (s0 0)) rfl 10 (by decide) (hts _ kX11_lookAt_3) (v := .ref (ad 9)) rfl dX11_lookAt_17 ?_
    refine lv_aload_n hx hb dX11_lookAt_20 rfl (lv_at hl 0 rfl) ?_
    refine r_get hx hb hts (iwX11_lookAt_X11) hown hK.1 hP 0 (by decide) (ceMo_0 (s0 0)) rfl 12 (by decide) (hts _ kX11_lookAt_1) (v := .int (s0 0 12)) rfl dX11_lookAt_21 ?_
    obtain ⟨hin, hv⟩ := hv
    refine r_iald hx hb hK.1 hP 9 (by decide) (ceMo_9 (s0 9)) hin dX11_lookAt_24 ?_
    refine lv_bipush (v := 32) hx hb dX11_lookAt_25 (by decide) ?_
    refine lv_icmp_ne (tgt := 43) hx hb dX11_lookAt_27 (by decide) (fun c27 => ?_) (fun c27 => ?_)
    · have hv := hv.1 c27
      exact hY 43 [] [] s0 hv _ _ rfl H locs ls hP hS (lv_sub hl [0] rfl)
    · have hv := hv.2 c27
      refine lv_aload_n hx hb dX11_lookAt_30 rfl (lv_at hl 0 rfl) ?_
      refine lv_dup hx hb dX11_lookAt_31 rfl ?_
      refine r_get hx hb hts (iwX11_lookAt_X11) hown hK.1 hP 0 (by decide) (ceMo_0 (s0 0)) rfl 12 (by decide) (hts _ kX11_lookAt_1) (v := .int (s0 0 12)) rfl dX11_lookAt_32 ?_
      refine lv_iconst (v := 1) hx hb dX11_lookAt_35 (by decide) ?_
      refine lv_iadd hx hb dX11_lookAt_36 ?_
      refine r_put hx hb hts (iwX11_lookAt_X11) tyX11 tyX11_ok nmX11 hown hK.1 hP hD hS 0 (by decide) (ceMo_0 (s0 0)) rfl 12 (by decide) (hts _ kX11_lookAt_1) rfl (ty := .int) (v := .int ((s0 0 12) + 1)) (by decide +kernel) rfl rfl (Nat.le_of_ble_eq_true rfl) (row := (upd (s0 0) 12 ((s0 0 12) + 1))) (by rw [(ceMo_0 (upd (s0 0) 12 ((s0 0 12) + 1)))]; rfl) dX11_lookAt_37 (fun H locs s1 es1 hP hD hS => ?_)
      have hv := hv s1 es1
      refine lv_goto (tgt := 5) hx hb dX11_lookAt_40 (by decide) ?_
      exact hY 5 [] [] s1 hv _ _ rfl H locs ls hP hS (lv_sub hl [0] rfl)
set_option maxHeartbeats 4000000 in
set_option maxRecDepth 100000 in
theorem w_X11_lookAt_43 {p : Program} {l : Launch} {e : Env} {s : State} {m : MethodId} {args : Array Value} {below : List Frame} {meth : Method} {c : Code} {dC : Nat → ClassId} {dI : Nat → Nat → Nat} {ad : Nat → Nat} {cA cZ : ClassId} (hi : Inj 12 ad) (a1 : Int32)  (C0 : Cx cX11_lookAt RX11 wsX11_lookAt 5 none p s m args meth c) (hK : KK dC dI cA cZ s) (Q : St → Prop) (Y : Nat → List Int32 → List Int64 → St → Prop) (hY : ∀ P xs ys σ, Y P xs ys σ → XX p l e ({ frames := 2, cells := 0, slots := 0, locals := 45 } : Room) s m args below meth c (dC, dI) 12 ad (celM ad cA cZ) 5 (ZV below args s (dC, dI) 12 ad (celM ad cA cZ) Q) (lay_X11_lookAt ad a1) P xs ys σ)  (s0 : St) (hv : B_X11_lookAt_43 a1 Q Y  s0) {H : Heap} {locs : List Loc} {ls : Array Slot} (hP : va_P (dC, dI) vwCl (wd 12 ad (celM ad cA cZ) s0) H) (hS : va_S (AA 12 ad s.heap.size) s.heap H locs) (hl : lv_has ls 5 [(0, .ref (ad 0))]) : W p l e ({ frames := 2, cells := 0, slots := 0, locals := 45 } : Room) s m args below meth c H locs 0 0 (ZV below args s (dC, dI) 12 ad (celM ad cA cZ) Q) (F0 m 43 ls []) := by
  obtain ⟨hx, hb, hml, hown, hts, hr, hlocks⟩ := C0
  have hD := wd_D (s := s) (cel := celM ad cA cZ) (σ := s0) hi
  unfold B_X11_lookAt_43 at hv
  refine lv_aload_n hx hb dX11_lookAt_43 rfl (lv_at hl 0 rfl) ?_
  refine lv_iconst (v := 0) hx hb dX11_lookAt_44 (by decide) ?_
  refine r_put hx hb hts (iwX11_lookAt_X11) tyX11 tyX11_ok nmX11 hown hK.1 hP hD hS 0 (by decide) (ceMo_0 (s0 0)) rfl 13 (by decide) (hts _ kX11_lookAt_4) rfl (ty := .int) (v := .int 0) (by decide +kernel) rfl rfl (Nat.le_of_ble_eq_true rfl) (row := (upd (s0 0) 13 0)) (by rw [(ceMo_0 (upd (s0 0) 13 0))]; rfl) dX11_lookAt_45 (fun H locs s1 es1 hP hD hS => ?_)
  have hv := hv s1 es1
  refine lv_aload_n hx hb dX11_lookAt_48 rfl (lv_at hl 0 rfl) ?_
  refine lv_iconst (v := 0) hx hb dX11_lookAt_49 (by decide) ?_
  refine r_put hx hb hts (iwX11_lookAt_X11) tyX11 tyX11_ok nmX11 hown hK.1 hP hD hS 0 (by decide) (ceMo_0 (s1 0)) rfl 14 (by decide) (hts _ kX11_lookAt_5) rfl (ty := .int) (v := .int 0) (by decide +kernel) rfl rfl (Nat.le_of_ble_eq_true rfl) (row := (upd (s1 0) 14 0)) (by rw [(ceMo_0 (upd (s1 0) 14 0))]; rfl) dX11_lookAt_50 (fun H locs s2 es2 hP hD hS => ?_)
  have hv := hv s2 es2
  refine lv_aload_n hx hb dX11_lookAt_53 rfl (lv_at hl 0 rfl) ?_
  refine lv_iconst (v := 0) hx hb dX11_lookAt_54 (by decide) ?_
  refine r_put hx hb hts (iwX11_lookAt_X11) tyX11 tyX11_ok nmX11 hown hK.1 hP hD hS 0 (by decide) (ceMo_0 (s2 0)) rfl 15 (by decide) (hts _ kX11_lookAt_6) rfl (ty := .int) (v := .int 0) (by decide +kernel) rfl rfl (Nat.le_of_ble_eq_true rfl) (row := (upd (s2 0) 15 0)) (by rw [(ceMo_0 (upd (s2 0) 15 0))]; rfl) dX11_lookAt_55 (fun H locs s3 es3 hP hD hS => ?_)
  have hv := hv s3 es3
  refine lv_aload_n hx hb dX11_lookAt_58 rfl (lv_at hl 0 rfl) ?_
  refine r_get hx hb hts (iwX11_lookAt_X11) hown hK.1 hP 0 (by decide) (ceMo_0 (s3 0)) rfl 12 (by decide) (hts _ kX11_lookAt_1) (v := .int (s3 0 12)) rfl dX11_lookAt_59 ?_
  refine lv_aload_n hx hb dX11_lookAt_62 rfl (lv_at hl 0 rfl) ?_
  refine r_get hx hb hts (iwX11_lookAt_X11) hown hK.1 hP 0 (by decide) (ceMo_0 (s3 0)) rfl 11 (by decide) (hts _ kX11_lookAt_2) (v := .int (s3 0 11)) rfl dX11_lookAt_63 ?_
  refine lv_icmp_ne (tgt := 70) hx hb dX11_lookAt_66 (by decide) (fun c66 => ?_) (fun c66 => ?_)
  · have hv := hv.1 c66
    refine lv_aload_n hx hb dX11_lookAt_70 rfl (lv_at hl 0 rfl) ?_
    refine r_get hx hb hts (iwX11_lookAt_X11) hown hK.1 hP 0 (by decide) (ceMo_0 (s3 0)) rfl 10 (by decide) (hts _ kX11_lookAt_3) (v := .ref (ad 9)) rfl dX11_lookAt_71 ?_
    refine lv_aload_n hx hb dX11_lookAt_74 rfl (lv_at hl 0 rfl) ?_
    refine r_get hx hb hts (iwX11_lookAt_X11) hown hK.1 hP 0 (by decide) (ceMo_0 (s3 0)) rfl 12 (by decide) (hts _ kX11_lookAt_1) (v := .int (s3 0 12)) rfl dX11_lookAt_75 ?_
    obtain ⟨hin, hv⟩ := hv
    refine r_iald hx hb hK.1 hP 9 (by decide) (ceMo_9 (s3 9)) hin dX11_lookAt_78 ?_
    refine lv_topi (fun v4 ev4 => ?_)
    have hv := hv v4 ev4
    refine lv_istore_n (lv' := [(2, .int v4), (0, .ref (ad 0))]) hx hb dX11_lookAt_79 rfl hl (by decide) rfl (fun ls hl => ?_)
    refine lv_aload_n hx hb dX11_lookAt_80 rfl (lv_at hl 1 rfl) ?_
    refine lv_iload_n hx hb dX11_lookAt_81 rfl (lv_at hl 0 rfl) ?_
    refine r_ci (va_runS (As := [.int v4]) (rest := [.ref (ad 0)]) ⟨hx, hb, hml, hown, hts⟩ (c_X11_isSmall hi v4 s3 _ hv H.size) (va_cwS 1 hts gX11_lookAt_X11_isSmall rfl rfl rfl (by decide +kernel) ⟨Nat.le_of_ble_eq_true rfl, Nat.le_of_ble_eq_true rfl⟩) ⟨pre_blind, pre_of hP hK⟩ rfl rfl hl.1 rfl (lv_room (Nat.le_of_ble_eq_true rfl)) dX11_lookAt_82 ⟨Nat.zero_le _, Nat.zero_le _⟩) hS (fun r5 s5 H locs hv hP hS => ?_)
    obtain ⟨hz_r5, hv⟩ := hv
    have hD := wd_D (s := s) (cel := celM ad cA cZ) (σ := s5) hi
    refine lv_if_eq (tgt := 92) hx hb dX11_lookAt_85 (by decide) (fun c85 => ?_) (fun c85 => ?_)
    · have hv := hv.1 c85
      refine lv_iload_n hx hb dX11_lookAt_92 rfl (lv_at hl 0 rfl) ?_
      refine r_ci (va_runS (As := [.int v4]) (rest := [.ref (ad 0)]) ⟨hx, hb, hml, hown, hts⟩ (c_X11_isFigure hi v4 s5 _ hv H.size) (va_cwS 1 hts gX11_lookAt_X11_isFigure rfl rfl rfl (by decide +kernel) ⟨Nat.le_of_ble_eq_true rfl, Nat.le_of_ble_eq_true rfl⟩) ⟨pre_blind, pre_of hP hK⟩ rfl rfl hl.1 rfl (lv_room (Nat.le_of_ble_eq_true rfl)) dX11_lookAt_93 ⟨Nat.zero_le _, Nat.zero_le _⟩) hS (fun r6 s6 H locs hv hP hS => ?_)
      obtain ⟨hz_r6, hv⟩ := hv
      have hD := wd_D (s := s) (cel := celM ad cA cZ) (σ := s6) hi
      refine lv_if_eq (tgt := 103) hx hb dX11_lookAt_96 (by decide) (fun c96 => ?_) (fun c96 => ?_)
      · have hv := hv.1 c96
        refine lv_iload_n hx hb dX11_lookAt_103 rfl (lv_at hl 0 rfl) ?_
        refine lv_bipush (v := 59) hx hb dX11_lookAt_104 (by decide) ?_
        refine lv_icmp_ne (tgt := 113) hx hb dX11_lookAt_106 (by decide) (fun c106 => ?_) (fun c106 => ?_)
        · have hv := hv.1 c106
          refine lv_iconst (v := 4) hx hb dX11_lookAt_113 (by decide) ?_
          exact hY 114 [4] [] s6 hv _ _ rfl H locs ls hP hS (lv_sub hl [1] rfl)
        · have hv := hv.2 c106
          refine lv_iconst (v := 3) hx hb dX11_lookAt_109 (by decide) ?_
          refine lv_goto (tgt := 114) hx hb dX11_lookAt_110 (by decide) ?_
          exact hY 114 [3] [] s6 hv _ _ rfl H locs ls hP hS (lv_sub hl [1] rfl)
      · have hv := hv.2 c96
        refine lv_iconst (v := 2) hx hb dX11_lookAt_99 (by decide) ?_
        refine lv_goto (tgt := 114) hx hb dX11_lookAt_100 (by decide) ?_
        exact hY 114 [2] [] s6 hv _ _ rfl H locs ls hP hS (lv_sub hl [1] rfl)
    · have hv := hv.2 c85
      refine lv_iconst (v := 1) hx hb dX11_lookAt_88 (by decide) ?_
      refine lv_goto (tgt := 114) hx hb dX11_lookAt_89 (by decide) ?_
      exact hY 114 [1] [] s5 hv _ _ rfl H locs ls hP hS (lv_sub hl [1] rfl)
  · have hv := hv.2 c66
    exact r_vret hx hb hr hlocks hv hP hS dX11_lookAt_69
set_option maxHeartbeats 4000000 in
set_option maxRecDepth 100000 in
theorem w_X11_lookAt_114 {p : Program} {l : Launch} {e : Env} {s : State} {m : MethodId} {args : Array Value} {below : List Frame} {meth : Method} {c : Code} {dC : Nat → ClassId} {dI : Nat → Nat → Nat} {ad : Nat → Nat} {cA cZ : ClassId} (hi : Inj 12 ad) (a1 : Int32)  (C0 : Cx cX11_lookAt RX11 wsX11_lookAt 5 none p s m args meth c) (hK : KK dC dI cA cZ s) (Q : St → Prop) (Y : Nat → List Int32 → List Int64 → St → Prop) (hY : ∀ P xs ys σ, Y P xs ys σ → XX p l e ({ frames := 2, cells := 0, slots := 0, locals := 45 } : Room) s m args below meth c (dC, dI) 12 ad (celM ad cA cZ) 5 (ZV below args s (dC, dI) 12 ad (celM ad cA cZ) Q) (lay_X11_lookAt ad a1) P xs ys σ) (t0 : Int32) (s0 : St) (hv : B_X11_lookAt_114 a1 Q Y t0 s0) {H : Heap} {locs : List Loc} {ls : Array Slot} (hP : va_P (dC, dI) vwCl (wd 12 ad (celM ad cA cZ) s0) H) (hS : va_S (AA 12 ad s.heap.size) s.heap H locs) (hl : lv_has ls 5 [(0, .ref (ad 0))]) : W p l e ({ frames := 2, cells := 0, slots := 0, locals := 45 } : Room) s m args below meth c H locs 0 0 (ZV below args s (dC, dI) 12 ad (celM ad cA cZ) Q) (F0 m 114 ls [.int t0, .ref (ad 0)]) := by
  obtain ⟨hx, hb, hml, hown, hts, hr, hlocks⟩ := C0
  have hD := wd_D (s := s) (cel := celM ad cA cZ) (σ := s0) hi
  unfold B_X11_lookAt_114 at hv
  refine r_put hx hb hts (iwX11_lookAt_X11) tyX11 tyX11_ok nmX11 hown hK.1 hP hD hS 0 (by decide) (ceMo_0 (s0 0)) rfl 14 (by decide) (hts _ kX11_lookAt_5) rfl (ty := .int) (v := .int t0) (by decide +kernel) rfl rfl (Nat.le_of_ble_eq_true rfl) (row := (upd (s0 0) 14 t0)) (by rw [(ceMo_0 (upd (s0 0) 14 t0))]; rfl) dX11_lookAt_114 (fun H locs s1 es1 hP hD hS => ?_)
  have hv := hv s1 es1
  refine lv_aload_n hx hb dX11_lookAt_117 rfl (lv_at hl 0 rfl) ?_
  refine lv_iconst (v := 1) hx hb dX11_lookAt_118 (by decide) ?_
  refine r_put hx hb hts (iwX11_lookAt_X11) tyX11 tyX11_ok nmX11 hown hK.1 hP hD hS 0 (by decide) (ceMo_0 (s1 0)) rfl 13 (by decide) (hts _ kX11_lookAt_4) rfl (ty := .int) (v := .int 1) (by decide +kernel) rfl rfl (Nat.le_of_ble_eq_true rfl) (row := (upd (s1 0) 13 1)) (by rw [(ceMo_0 (upd (s1 0) 13 1))]; rfl) dX11_lookAt_119 (fun H locs s2 es2 hP hD hS => ?_)
  have hv := hv s2 es2
  refine lv_aload_n hx hb dX11_lookAt_122 rfl (lv_at hl 0 rfl) ?_
  refine r_get hx hb hts (iwX11_lookAt_X11) hown hK.1 hP 0 (by decide) (ceMo_0 (s2 0)) rfl 14 (by decide) (hts _ kX11_lookAt_5) (v := .int (s2 0 14)) rfl dX11_lookAt_123 ?_
  refine lv_iconst (v := 3) hx hb dX11_lookAt_126 (by decide) ?_
  refine lv_icmp_ge (tgt := 134) hx hb dX11_lookAt_127 (by decide) (fun c127 => ?_) (fun c127 => ?_)
  · have hv := hv.1 c127
    refine lv_iconst (v := 0) hx hb dX11_lookAt_134 (by decide) ?_
    refine lv_istore_n (lv' := [(3, .int 0), (0, .ref (ad 0))]) hx hb dX11_lookAt_135 rfl hl (by decide) rfl (fun ls hl => ?_)
    exact hY 136 [0] [] s2 hv _ _ rfl H locs ls hP hS (lv_sub hl [1, 0] rfl)
  · have hv := hv.2 c127
    refine lv_iconst (v := 1) hx hb dX11_lookAt_130 (by decide) ?_
    refine lv_goto (tgt := 135) hx hb dX11_lookAt_131 (by decide) ?_
    refine lv_istore_n (lv' := [(3, .int 1), (0, .ref (ad 0))]) hx hb dX11_lookAt_135 rfl hl (by decide) rfl (fun ls hl => ?_)
    exact hY 136 [1] [] s2 hv _ _ rfl H locs ls hP hS (lv_sub hl [1, 0] rfl)
set_option maxHeartbeats 4000000 in
set_option maxRecDepth 100000 in
theorem w_X11_lookAt_136 {p : Program} {l : Launch} {e : Env} {s : State} {m : MethodId} {args : Array Value} {below : List Frame} {meth : Method} {c : Code} {dC : Nat → ClassId} {dI : Nat → Nat → Nat} {ad : Nat → Nat} {cA cZ : ClassId} (hi : Inj 12 ad) (a1 : Int32)  (C0 : Cx cX11_lookAt RX11 wsX11_lookAt 5 none p s m args meth c) (hK : KK dC dI cA cZ s) (Q : St → Prop) (Y : Nat → List Int32 → List Int64 → St → Prop) (hY : ∀ P xs ys σ, Y P xs ys σ → XX p l e ({ frames := 2, cells := 0, slots := 0, locals := 45 } : Room) s m args below meth c (dC, dI) 12 ad (celM ad cA cZ) 5 (ZV below args s (dC, dI) 12 ad (celM ad cA cZ) Q) (lay_X11_lookAt ad a1) P xs ys σ) (x3 : Int32) (s0 : St) (hv : B_X11_lookAt_136 a1 Q Y x3 s0) {H : Heap} {locs : List Loc} {ls : Array Slot} (hP : va_P (dC, dI) vwCl (wd 12 ad (celM ad cA cZ) s0) H) (hS : va_S (AA 12 ad s.heap.size) s.heap H locs) (hl : lv_has ls 5 [(0, .ref (ad 0)), (3, .int x3)]) : W p l e ({ frames := 2, cells := 0, slots := 0, locals := 45 } : Room) s m args below meth c H locs 0 0 (ZV below args s (dC, dI) 12 ad (celM ad cA cZ) Q) (F0 m 136 ls []) := by
  obtain ⟨hx, hb, hml, hown, hts, hr, hlocks⟩ := C0
  have hD := wd_D (s := s) (cel := celM ad cA cZ) (σ := s0) hi
  unfold B_X11_lookAt_136 at hv
  refine lv_iload_n hx hb dX11_lookAt_136 rfl (lv_at hl 1 rfl) ?_
  refine lv_if_eq (tgt := 215) hx hb dX11_lookAt_137 (by decide) (fun c137 => ?_) (fun c137 => ?_)
  · have hv := hv.1 c137
    refine lv_iconst (v := 0) hx hb dX11_lookAt_215 (by decide) ?_
    refine lv_istore (lv' := [(4, .int 0), (0, .ref (ad 0)), (3, .int x3)]) hx hb dX11_lookAt_216 hl (by decide) rfl (fun ls hl => ?_)
    exact hY 218 [0] [] s0 hv _ _ rfl H locs ls hP hS (lv_sub hl [1, 0] rfl)
  · have hv := hv.2 c137
    refine lv_aload_n hx hb dX11_lookAt_140 rfl (lv_at hl 0 rfl) ?_
    refine r_get hx hb hts (iwX11_lookAt_X11) hown hK.1 hP 0 (by decide) (ceMo_0 (s0 0)) rfl 12 (by decide) (hts _ kX11_lookAt_1) (v := .int (s0 0 12)) rfl dX11_lookAt_141 ?_
    refine lv_aload_n hx hb dX11_lookAt_144 rfl (lv_at hl 0 rfl) ?_
    refine r_get hx hb hts (iwX11_lookAt_X11) hown hK.1 hP 0 (by decide) (ceMo_0 (s0 0)) rfl 13 (by decide) (hts _ kX11_lookAt_4) (v := .int (s0 0 13)) rfl dX11_lookAt_145 ?_
    refine lv_iadd hx hb dX11_lookAt_148 ?_
    refine lv_aload_n hx hb dX11_lookAt_149 rfl (lv_at hl 0 rfl) ?_
    refine r_get hx hb hts (iwX11_lookAt_X11) hown hK.1 hP 0 (by decide) (ceMo_0 (s0 0)) rfl 11 (by decide) (hts _ kX11_lookAt_2) (v := .int (s0 0 11)) rfl dX11_lookAt_150 ?_
    refine lv_icmp_ge (tgt := 215) hx hb dX11_lookAt_153 (by decide) (fun c153 => ?_) (fun c153 => ?_)
    · have hv := hv.1 c153
      refine lv_iconst (v := 0) hx hb dX11_lookAt_215 (by decide) ?_
      refine lv_istore (lv' := [(4, .int 0), (0, .ref (ad 0)), (3, .int x3)]) hx hb dX11_lookAt_216 hl (by decide) rfl (fun ls hl => ?_)
      exact hY 218 [0] [] s0 hv _ _ rfl H locs ls hP hS (lv_sub hl [1, 0] rfl)
    · have hv := hv.2 c153
      refine lv_aload_n hx hb dX11_lookAt_156 rfl (lv_at hl 0 rfl) ?_
      refine r_get hx hb hts (iwX11_lookAt_X11) hown hK.1 hP 0 (by decide) (ceMo_0 (s0 0)) rfl 10 (by decide) (hts _ kX11_lookAt_3) (v := .ref (ad 9)) rfl dX11_lookAt_157 ?_
      refine lv_aload_n hx hb dX11_lookAt_160 rfl (lv_at hl 0 rfl) ?_
      refine r_get hx hb hts (iwX11_lookAt_X11) hown hK.1 hP 0 (by decide) (ceMo_0 (s0 0)) rfl 12 (by decide) (hts _ kX11_lookAt_1) (v := .int (s0 0 12)) rfl dX11_lookAt_161 ?_
      refine lv_aload_n hx hb dX11_lookAt_164 rfl (lv_at hl 0 rfl) ?_
      refine r_get hx hb hts (iwX11_lookAt_X11) hown hK.1 hP 0 (by decide) (ceMo_0 (s0 0)) rfl 13 (by decide) (hts _ kX11_lookAt_4) (v := .int (s0 0 13)) rfl dX11_lookAt_165 ?_
      refine lv_iadd hx hb dX11_lookAt_168 ?_
      obtain ⟨hin, hv⟩ := hv
      refine r_iald hx hb hK.1 hP 9 (by decide) (ceMo_9 (s0 9)) hin dX11_lookAt_169 ?_
      refine lv_topi (fun v1 ev1 => ?_)
      have hv := hv v1 ev1
      refine lv_istore (lv' := [(4, .int v1), (0, .ref (ad 0)), (3, .int x3)]) hx hb dX11_lookAt_170 hl (by decide) rfl (fun ls hl => ?_)
      refine lv_aload_n hx hb dX11_lookAt_172 rfl (lv_at hl 1 rfl) ?_
      refine r_get hx hb hts (iwX11_lookAt_X11) hown hK.1 hP 0 (by decide) (ceMo_0 (s0 0)) rfl 14 (by decide) (hts _ kX11_lookAt_5) (v := .int (s0 0 14)) rfl dX11_lookAt_173 ?_
      refine lv_iconst (v := 1) hx hb dX11_lookAt_176 (by decide) ?_
      refine lv_icmp_ne (tgt := 188) hx hb dX11_lookAt_177 (by decide) (fun c177 => ?_) (fun c177 => ?_)
      · have hv := hv.1 c177
        refine lv_iload hx hb dX11_lookAt_188 (lv_at hl 0 rfl) ?_
        refine r_ci (va_runS (As := [.int v1]) (rest := []) ⟨hx, hb, hml, hown, hts⟩ (c_X11_isFigure hi v1 s0 _ hv H.size) (va_cwS 1 hts gX11_lookAt_X11_isFigure rfl rfl rfl (by decide +kernel) ⟨Nat.le_of_ble_eq_true rfl, Nat.le_of_ble_eq_true rfl⟩) ⟨pre_blind, pre_of hP hK⟩ rfl rfl hl.1 rfl (lv_room (Nat.le_of_ble_eq_true rfl)) dX11_lookAt_190 ⟨Nat.zero_le _, Nat.zero_le _⟩) hS (fun r2 s2 H locs hv hP hS => ?_)
        obtain ⟨hz_r2, hv⟩ := hv
        have hD := wd_D (s := s) (cel := celM ad cA cZ) (σ := s2) hi
        exact hY 193 [r2] [] s2 hv _ _ rfl H locs ls hP hS (lv_sub hl [1] rfl)
      · have hv := hv.2 c177
        refine lv_iload hx hb dX11_lookAt_180 (lv_at hl 0 rfl) ?_
        refine r_ci (va_runS (As := [.int v1]) (rest := []) ⟨hx, hb, hml, hown, hts⟩ (c_X11_isSmall hi v1 s0 _ hv H.size) (va_cwS 1 hts gX11_lookAt_X11_isSmall rfl rfl rfl (by decide +kernel) ⟨Nat.le_of_ble_eq_true rfl, Nat.le_of_ble_eq_true rfl⟩) ⟨pre_blind, pre_of hP hK⟩ rfl rfl hl.1 rfl (lv_room (Nat.le_of_ble_eq_true rfl)) dX11_lookAt_182 ⟨Nat.zero_le _, Nat.zero_le _⟩) hS (fun r3 s3 H locs hv hP hS => ?_)
        obtain ⟨hz_r3, hv⟩ := hv
        have hD := wd_D (s := s) (cel := celM ad cA cZ) (σ := s3) hi
        refine lv_goto (tgt := 193) hx hb dX11_lookAt_185 (by decide) ?_
        exact hY 193 [r3] [] s3 hv _ _ rfl H locs ls hP hS (lv_sub hl [1] rfl)
set_option maxHeartbeats 4000000 in
set_option maxRecDepth 100000 in
theorem w_X11_lookAt_193 {p : Program} {l : Launch} {e : Env} {s : State} {m : MethodId} {args : Array Value} {below : List Frame} {meth : Method} {c : Code} {dC : Nat → ClassId} {dI : Nat → Nat → Nat} {ad : Nat → Nat} {cA cZ : ClassId} (hi : Inj 12 ad) (a1 : Int32)  (C0 : Cx cX11_lookAt RX11 wsX11_lookAt 5 none p s m args meth c) (hK : KK dC dI cA cZ s) (Q : St → Prop) (Y : Nat → List Int32 → List Int64 → St → Prop) (hY : ∀ P xs ys σ, Y P xs ys σ → XX p l e ({ frames := 2, cells := 0, slots := 0, locals := 45 } : Room) s m args below meth c (dC, dI) 12 ad (celM ad cA cZ) 5 (ZV below args s (dC, dI) 12 ad (celM ad cA cZ) Q) (lay_X11_lookAt ad a1) P xs ys σ) (t0 : Int32) (s0 : St) (hv : B_X11_lookAt_193 a1 Q Y t0 s0) {H : Heap} {locs : List Loc} {ls : Array Slot} (hP : va_P (dC, dI) vwCl (wd 12 ad (celM ad cA cZ) s0) H) (hS : va_S (AA 12 ad s.heap.size) s.heap H locs) (hl : lv_has ls 5 [(0, .ref (ad 0))]) : W p l e ({ frames := 2, cells := 0, slots := 0, locals := 45 } : Room) s m args below meth c H locs 0 0 (ZV below args s (dC, dI) 12 ad (celM ad cA cZ) Q) (F0 m 193 ls [.int t0]) := by
  obtain ⟨hx, hb, hml, hown, hts, hr, hlocks⟩ := C0
  have hD := wd_D (s := s) (cel := celM ad cA cZ) (σ := s0) hi
  unfold B_X11_lookAt_193 at hv
  refine lv_istore_n (lv' := [(3, .int t0), (0, .ref (ad 0))]) hx hb dX11_lookAt_193 rfl hl (by decide) rfl (fun ls hl => ?_)
  refine lv_aload_n hx hb dX11_lookAt_194 rfl (lv_at hl 1 rfl) ?_
  refine lv_dup hx hb dX11_lookAt_195 rfl ?_
  refine r_get hx hb hts (iwX11_lookAt_X11) hown hK.1 hP 0 (by decide) (ceMo_0 (s0 0)) rfl 13 (by decide) (hts _ kX11_lookAt_4) (v := .int (s0 0 13)) rfl dX11_lookAt_196 ?_
  refine lv_iload_n hx hb dX11_lookAt_199 rfl (lv_at hl 0 rfl) ?_
  refine lv_if_eq (tgt := 207) hx hb dX11_lookAt_200 (by decide) (fun c200 => ?_) (fun c200 => ?_)
  · have hv := hv.1 c200
    refine lv_iconst (v := 0) hx hb dX11_lookAt_207 (by decide) ?_
    refine lv_iadd hx hb dX11_lookAt_208 ?_
    refine r_put hx hb hts (iwX11_lookAt_X11) tyX11 tyX11_ok nmX11 hown hK.1 hP hD hS 0 (by decide) (ceMo_0 (s0 0)) rfl 13 (by decide) (hts _ kX11_lookAt_4) rfl (ty := .int) (v := .int ((s0 0 13) + 0)) (by decide +kernel) rfl rfl (Nat.le_of_ble_eq_true rfl) (row := (upd (s0 0) 13 ((s0 0 13) + 0))) (by rw [(ceMo_0 (upd (s0 0) 13 ((s0 0 13) + 0)))]; rfl) dX11_lookAt_209 (fun H locs s1 es1 hP hD hS => ?_)
    have hv := hv s1 es1
    refine lv_goto (tgt := 136) hx hb dX11_lookAt_212 (by decide) ?_
    exact hY 136 [t0] [] s1 hv _ _ rfl H locs ls hP hS (lv_sub hl [1, 0] rfl)
  · have hv := hv.2 c200
    refine lv_iconst (v := 1) hx hb dX11_lookAt_203 (by decide) ?_
    refine lv_goto (tgt := 208) hx hb dX11_lookAt_204 (by decide) ?_
    refine lv_iadd hx hb dX11_lookAt_208 ?_
    refine r_put hx hb hts (iwX11_lookAt_X11) tyX11 tyX11_ok nmX11 hown hK.1 hP hD hS 0 (by decide) (ceMo_0 (s0 0)) rfl 13 (by decide) (hts _ kX11_lookAt_4) rfl (ty := .int) (v := .int ((s0 0 13) + 1)) (by decide +kernel) rfl rfl (Nat.le_of_ble_eq_true rfl) (row := (upd (s0 0) 13 ((s0 0 13) + 1))) (by rw [(ceMo_0 (upd (s0 0) 13 ((s0 0 13) + 1)))]; rfl) dX11_lookAt_209 (fun H locs s2 es2 hP hD hS => ?_)
    have hv := hv s2 es2
    refine lv_goto (tgt := 136) hx hb dX11_lookAt_212 (by decide) ?_
    exact hY 136 [t0] [] s2 hv _ _ rfl H locs ls hP hS (lv_sub hl [1, 0] rfl)
set_option maxHeartbeats 4000000 in
set_option maxRecDepth 100000 in
theorem w_X11_lookAt_218 {p : Program} {l : Launch} {e : Env} {s : State} {m : MethodId} {args : Array Value} {below : List Frame} {meth : Method} {c : Code} {dC : Nat → ClassId} {dI : Nat → Nat → Nat} {ad : Nat → Nat} {cA cZ : ClassId} (hi : Inj 12 ad) (a1 : Int32)  (C0 : Cx cX11_lookAt RX11 wsX11_lookAt 5 none p s m args meth c) (hK : KK dC dI cA cZ s) (Q : St → Prop) (Y : Nat → List Int32 → List Int64 → St → Prop) (hY : ∀ P xs ys σ, Y P xs ys σ → XX p l e ({ frames := 2, cells := 0, slots := 0, locals := 45 } : Room) s m args below meth c (dC, dI) 12 ad (celM ad cA cZ) 5 (ZV below args s (dC, dI) 12 ad (celM ad cA cZ) Q) (lay_X11_lookAt ad a1) P xs ys σ) (x4 : Int32) (s0 : St) (hv : B_X11_lookAt_218 a1 Q Y x4 s0) {H : Heap} {locs : List Loc} {ls : Array Slot} (hP : va_P (dC, dI) vwCl (wd 12 ad (celM ad cA cZ) s0) H) (hS : va_S (AA 12 ad s.heap.size) s.heap H locs) (hl : lv_has ls 5 [(0, .ref (ad 0)), (4, .int x4)]) : W p l e ({ frames := 2, cells := 0, slots := 0, locals := 45 } : Room) s m args below meth c H locs 0 0 (ZV below args s (dC, dI) 12 ad (celM ad cA cZ) Q) (F0 m 218 ls []) := by
  obtain ⟨hx, hb, hml, hown, hts, hr, hlocks⟩ := C0
  have hD := wd_D (s := s) (cel := celM ad cA cZ) (σ := s0) hi
  unfold B_X11_lookAt_218 at hv
  refine lv_iload hx hb dX11_lookAt_218 (lv_at hl 1 rfl) ?_
  refine lv_aload_n hx hb dX11_lookAt_220 rfl (lv_at hl 0 rfl) ?_
  refine r_get hx hb hts (iwX11_lookAt_X11) hown hK.1 hP 0 (by decide) (ceMo_0 (s0 0)) rfl 13 (by decide) (hts _ kX11_lookAt_4) (v := .int (s0 0 13)) rfl dX11_lookAt_221 ?_
  refine lv_icmp_ge (tgt := 274) hx hb dX11_lookAt_224 (by decide) (fun c224 => ?_) (fun c224 => ?_)
  · have hv := hv.1 c224
    exact hY 274 [] [] s0 hv _ _ rfl H locs ls hP hS (lv_sub hl [0] rfl)
  · have hv := hv.2 c224
    refine lv_iload hx hb dX11_lookAt_227 (lv_at hl 1 rfl) ?_
    refine lv_iconst (v := 2) hx hb dX11_lookAt_229 (by decide) ?_
    refine lv_icmp_ge (tgt := 274) hx hb dX11_lookAt_230 (by decide) (fun c230 => ?_) (fun c230 => ?_)
    · have hv := hv.1 c230
      exact hY 274 [] [] s0 hv _ _ rfl H locs ls hP hS (lv_sub hl [0] rfl)
    · have hv := hv.2 c230
      refine lv_aload_n hx hb dX11_lookAt_233 rfl (lv_at hl 0 rfl) ?_
      refine r_get hx hb hts (iwX11_lookAt_X11) hown hK.1 hP 0 (by decide) (ceMo_0 (s0 0)) rfl 14 (by decide) (hts _ kX11_lookAt_5) (v := .int (s0 0 14)) rfl dX11_lookAt_234 ?_
      refine lv_iconst (v := 2) hx hb dX11_lookAt_237 (by decide) ?_
      refine lv_icmp_ne (tgt := 274) hx hb dX11_lookAt_238 (by decide) (fun c238 => ?_) (fun c238 => ?_)
      · have hv := hv.1 c238
        exact hY 274 [] [] s0 hv _ _ rfl H locs ls hP hS (lv_sub hl [0] rfl)
      · have hv := hv.2 c238
        refine lv_aload_n hx hb dX11_lookAt_241 rfl (lv_at hl 0 rfl) ?_
        refine lv_bipush (v := 10) hx hb dX11_lookAt_242 (by decide) ?_
        refine lv_aload_n hx hb dX11_lookAt_244 rfl (lv_at hl 0 rfl) ?_
        refine r_get hx hb hts (iwX11_lookAt_X11) hown hK.1 hP 0 (by decide) (ceMo_0 (s0 0)) rfl 15 (by decide) (hts _ kX11_lookAt_6) (v := .int (s0 0 15)) rfl dX11_lookAt_245 ?_
        refine lv_imul hx hb dX11_lookAt_248 ?_
        refine lv_aload_n hx hb dX11_lookAt_249 rfl (lv_at hl 0 rfl) ?_
        refine r_get hx hb hts (iwX11_lookAt_X11) hown hK.1 hP 0 (by decide) (ceMo_0 (s0 0)) rfl 10 (by decide) (hts _ kX11_lookAt_3) (v := .ref (ad 9)) rfl dX11_lookAt_250 ?_
        refine lv_aload_n hx hb dX11_lookAt_253 rfl (lv_at hl 0 rfl) ?_
        refine r_get hx hb hts (iwX11_lookAt_X11) hown hK.1 hP 0 (by decide) (ceMo_0 (s0 0)) rfl 12 (by decide) (hts _ kX11_lookAt_1) (v := .int (s0 0 12)) rfl dX11_lookAt_254 ?_
        refine lv_iload hx hb dX11_lookAt_257 (lv_at hl 1 rfl) ?_
        refine lv_iadd hx hb dX11_lookAt_259 ?_
        obtain ⟨hin, hv⟩ := hv
        refine r_iald hx hb hK.1 hP 9 (by decide) (ceMo_9 (s0 9)) hin dX11_lookAt_260 ?_
        refine lv_iadd hx hb dX11_lookAt_261 ?_
        refine lv_bipush (v := 48) hx hb dX11_lookAt_262 (by decide) ?_
        refine lv_isub hx hb dX11_lookAt_264 ?_
        refine r_put hx hb hts (iwX11_lookAt_X11) tyX11 tyX11_ok nmX11 hown hK.1 hP hD hS 0 (by decide) (ceMo_0 (s0 0)) rfl 15 (by decide) (hts _ kX11_lookAt_6) rfl (ty := .int) (v := .int (((10 * (s0 0 15)) + (s0 9 ((s0 0 12) + x4).toNatClampNeg)) - 48)) (by decide +kernel) rfl rfl (Nat.le_of_ble_eq_true rfl) (row := (upd (s0 0) 15 (((10 * (s0 0 15)) + (s0 9 ((s0 0 12) + x4).toNatClampNeg)) - 48))) (by rw [(ceMo_0 (upd (s0 0) 15 (((10 * (s0 0 15)) + (s0 9 ((s0 0 12) + x4).toNatClampNeg)) - 48)))]; rfl) dX11_lookAt_265 (fun H locs s1 es1 hP hD hS => ?_)
        have hv := hv s1 es1
        refine lv_iinc (v := x4 + 1) (lv' := [(4, .int (x4 + 1)), (0, .ref (ad 0))]) hx hb dX11_lookAt_268 hl (k := 1) rfl rfl (by decide) rfl (fun ls hl => ?_)
        refine lv_goto (tgt := 218) hx hb dX11_lookAt_271 (by decide) ?_
        exact hY 218 [x4 + 1] [] s1 hv _ _ rfl H locs ls hP hS (lv_sub hl [1, 0] rfl)
set_option maxHeartbeats 4000000 in
set_option maxRecDepth 100000 in
theorem w_X11_lookAt_274 {p : Program} {l : Launch} {e : Env} {s : State} {m : MethodId} {args : Array Value} {below : List Frame} {meth : Method} {c : Code} {dC : Nat → ClassId} {dI : Nat → Nat → Nat} {ad : Nat → Nat} {cA cZ : ClassId} (hi : Inj 12 ad) (a1 : Int32)  (C0 : Cx cX11_lookAt RX11 wsX11_lookAt 5 none p s m args meth c) (hK : KK dC dI cA cZ s) (Q : St → Prop) (Y : Nat → List Int32 → List Int64 → St → Prop) (hY : ∀ P xs ys σ, Y P xs ys σ → XX p l e ({ frames := 2, cells := 0, slots := 0, locals := 45 } : Room) s m args below meth c (dC, dI) 12 ad (celM ad cA cZ) 5 (ZV below args s (dC, dI) 12 ad (celM ad cA cZ) Q) (lay_X11_lookAt ad a1) P xs ys σ)  (s0 : St) (hv : B_X11_lookAt_274 a1 Q Y  s0) {H : Heap} {locs : List Loc} {ls : Array Slot} (hP : va_P (dC, dI) vwCl (wd 12 ad (celM ad cA cZ) s0) H) (hS : va_S (AA 12 ad s.heap.size) s.heap H locs) (hl : lv_has ls 5 [(0, .ref (ad 0))]) : W p l e ({ frames := 2, cells := 0, slots := 0, locals := 45 } : Room) s m args below meth c H locs 0 0 (ZV below args s (dC, dI) 12 ad (celM ad cA cZ) Q) (F0 m 274 ls []) := by
  obtain ⟨hx, hb, hml, hown, hts, hr, hlocks⟩ := C0
  have hD := wd_D (s := s) (cel := celM ad cA cZ) (σ := s0) hi
  unfold B_X11_lookAt_274 at hv
  refine lv_aload_n hx hb dX11_lookAt_274 rfl (lv_at hl 0 rfl) ?_
  refine lv_aload_n hx hb dX11_lookAt_275 rfl (lv_at hl 0 rfl) ?_
  refine r_get hx hb hts (iwX11_lookAt_X11) hown hK.1 hP 0 (by decide) (ceMo_0 (s0 0)) rfl 14 (by decide) (hts _ kX11_lookAt_5) (v := .int (s0 0 14)) rfl dX11_lookAt_276 ?_
  refine lv_iconst (v := 2) hx hb dX11_lookAt_279 (by decide) ?_
  refine lv_icmp_ne (tgt := 295) hx hb dX11_lookAt_280 (by decide) (fun c280 => ?_) (fun c280 => ?_)
  · have hv := hv.1 c280
    refine lv_aload_n hx hb dX11_lookAt_295 rfl (lv_at hl 0 rfl) ?_
    refine r_get hx hb hts (iwX11_lookAt_X11) hown hK.1 hP 0 (by decide) (ceMo_0 (s0 0)) rfl 14 (by decide) (hts _ kX11_lookAt_5) (v := .int (s0 0 14)) rfl dX11_lookAt_296 ?_
    refine r_put hx hb hts (iwX11_lookAt_X11) tyX11 tyX11_ok nmX11 hown hK.1 hP hD hS 0 (by decide) (ceMo_0 (s0 0)) rfl 14 (by decide) (hts _ kX11_lookAt_5) rfl (ty := .int) (v := .int (s0 0 14)) (by decide +kernel) rfl rfl (Nat.le_of_ble_eq_true rfl) (row := (upd (s0 0) 14 (s0 0 14))) (by rw [(ceMo_0 (upd (s0 0) 14 (s0 0 14)))]; rfl) dX11_lookAt_299 (fun H locs s1 es1 hP hD hS => ?_)
    have hv := hv s1 es1
    exact r_vret hx hb hr hlocks hv hP hS dX11_lookAt_302
  · have hv := hv.2 c280
    refine lv_aload_n hx hb dX11_lookAt_283 rfl (lv_at hl 0 rfl) ?_
    refine r_get hx hb hts (iwX11_lookAt_X11) hown hK.1 hP 0 (by decide) (ceMo_0 (s0 0)) rfl 13 (by decide) (hts _ kX11_lookAt_4) (v := .int (s0 0 13)) rfl dX11_lookAt_284 ?_
    refine lv_iconst (v := 2) hx hb dX11_lookAt_287 (by decide) ?_
    refine lv_icmp_le (tgt := 295) hx hb dX11_lookAt_288 (by decide) (fun c288 => ?_) (fun c288 => ?_)
    · have hv := hv.1 c288
      refine lv_aload_n hx hb dX11_lookAt_295 rfl (lv_at hl 0 rfl) ?_
      refine r_get hx hb hts (iwX11_lookAt_X11) hown hK.1 hP 0 (by decide) (ceMo_0 (s0 0)) rfl 14 (by decide) (hts _ kX11_lookAt_5) (v := .int (s0 0 14)) rfl dX11_lookAt_296 ?_
      refine r_put hx hb hts (iwX11_lookAt_X11) tyX11 tyX11_ok nmX11 hown hK.1 hP hD hS 0 (by decide) (ceMo_0 (s0 0)) rfl 14 (by decide) (hts _ kX11_lookAt_5) rfl (ty := .int) (v := .int (s0 0 14)) (by decide +kernel) rfl rfl (Nat.le_of_ble_eq_true rfl) (row := (upd (s0 0) 14 (s0 0 14))) (by rw [(ceMo_0 (upd (s0 0) 14 (s0 0 14)))]; rfl) dX11_lookAt_299 (fun H locs s2 es2 hP hD hS => ?_)
      have hv := hv s2 es2
      exact r_vret hx hb hr hlocks hv hP hS dX11_lookAt_302
    · have hv := hv.2 c288
      refine lv_iconst (v := 4) hx hb dX11_lookAt_291 (by decide) ?_
      refine lv_goto (tgt := 299) hx hb dX11_lookAt_292 (by decide) ?_
      refine r_put hx hb hts (iwX11_lookAt_X11) tyX11 tyX11_ok nmX11 hown hK.1 hP hD hS 0 (by decide) (ceMo_0 (s0 0)) rfl 14 (by decide) (hts _ kX11_lookAt_5) rfl (ty := .int) (v := .int 4) (by decide +kernel) rfl rfl (Nat.le_of_ble_eq_true rfl) (row := (upd (s0 0) 14 4)) (by rw [(ceMo_0 (upd (s0 0) 14 4))]; rfl) dX11_lookAt_299 (fun H locs s3 es3 hP hD hS => ?_)
      have hv := hv s3 es3
      exact r_vret hx hb hr hlocks hv hP hS dX11_lookAt_302
set_option maxHeartbeats 4000000 in
theorem y_X11_lookAt {p : Program} {l : Launch} {e : Env} {s : State} {m : MethodId} {args : Array Value} {below : List Frame} {meth : Method} {c : Code} {dC : Nat → ClassId} {dI : Nat → Nat → Nat} {ad : Nat → Nat} {cA cZ : ClassId} (hi : Inj 12 ad) (a1 : Int32)  (C0 : Cx cX11_lookAt RX11 wsX11_lookAt 5 none p s m args meth c) (hK : KK dC dI cA cZ s) (Q : St → Prop) : ∀ P xs ys σ, R_X11_lookAt a1 Q P xs ys σ → XX p l e ({ frames := 2, cells := 0, slots := 0, locals := 45 } : Room) s m args below meth c (dC, dI) 12 ad (celM ad cA cZ) 5 (ZV below args s (dC, dI) 12 ad (celM ad cA cZ) Q) (lay_X11_lookAt ad a1) P xs ys σ := by
  refine Fx.elim _ (fun P xs ys σ Y hY hB => ?_)
  rcases hB with ⟨rfl, rfl, rfl, hB⟩ | ⟨rfl, rfl, rfl, hB⟩ | ⟨rfl, t0, rfl, rfl, hB⟩ | ⟨rfl, x3, rfl, rfl, hB⟩ | ⟨rfl, t0, rfl, rfl, hB⟩ | ⟨rfl, x4, rfl, rfl, hB⟩ | ⟨rfl, rfl, rfl, hB⟩
  · intro lv st he H locs ls hP hS hl
    cases he
    exact w_X11_lookAt_5 hi a1  C0 hK Q Y hY  σ hB hP hS hl
  · intro lv st he H locs ls hP hS hl
    cases he
    exact w_X11_lookAt_43 hi a1  C0 hK Q Y hY  σ hB hP hS hl
  · intro lv st he H locs ls hP hS hl
    cases he
    exact w_X11_lookAt_114 hi a1  C0 hK Q Y hY t0 σ hB hP hS hl
  · intro lv st he H locs ls hP hS hl
    cases he
    exact w_X11_lookAt_136 hi a1  C0 hK Q Y hY x3 σ hB hP hS hl
  · intro lv st he H locs ls hP hS hl
    cases he
    exact w_X11_lookAt_193 hi a1  C0 hK Q Y hY t0 σ hB hP hS hl
  · intro lv st he H locs ls hP hS hl
    cases he
    exact w_X11_lookAt_218 hi a1  C0 hK Q Y hY x4 σ hB hP hS hl
  · intro lv st he H locs ls hP hS hl
    cases he
    exact w_X11_lookAt_274 hi a1  C0 hK Q Y hY  σ hB hP hS hl
set_option maxHeartbeats 4000000 in
theorem c_X11_lookAt {l : Launch} {dC : Nat → ClassId} {dI : Nat → Nat → Nat} {ad : Nat → Nat} {cA cZ : ClassId} (hi : Inj 12 ad) (a1 : Int32)  (s0 : St) (Q : St → Prop) (hv : V_X11_lookAt a1 s0 Q) (sz : Nat) : Met l yX11_lookAt wsX11_lookAt ({ frames := 2, cells := 0, slots := 0, locals := 45 } : Room) (va_Pc [.ref (ad 0), .int a1] (PW dC dI ad cA cZ 12 (celM ad cA cZ) sz s0)) (va_Qv Q (fun u t => va_P (dC, dI) vwCl (wd 12 ad (celM ad cA cZ) u) t.heap) (AA 12 ad sz)) 0 0 (AA 12 ad sz) := by
  refine Met.ofW (cc := cX11_lookAt) (maxL := 5) (ret := none) (by decide) rfl ?_
  intro p e s m args below meth c s₁ B hml hv0
  obtain ⟨rfl, hsz, hP, hK⟩ := hv0
  subst hsz
  have C0 : Cx cX11_lookAt RX11 wsX11_lookAt 5 none p s m ([.ref (ad 0), .int a1] : List Value).toArray meth c := ⟨B.exec, B.bytes, hml, findClass_of_methodNamed B.named, atoms_spec (ws := wsX11_lookAt) B.pre, B.returns, B.notSynchronized⟩
  have hl := lv_entry ([.ref (ad 0), .int a1]) (n := 5) (Nat.le_of_ble_eq_true rfl)
  rw [lg_entry_eq]
  generalize (lg_sl ([.ref (ad 0), .int a1]) ++ List.replicate (5 - (lg_sl ([.ref (ad 0), .int a1])).length) Slot.unset).toArray = ls at hl ⊢
  have hl : lv_has ls 5 [(0, .ref (ad 0)), (1, .int a1)] := hl
  exact w_X11_lookAt_e hi a1  C0 hK Q (R_X11_lookAt a1 Q) (y_X11_lookAt hi a1  C0 hK Q)  s0 hv hP va_S.rf hl
def lay_X11_goBehind (ad : Nat → Nat)  : Nat → List Int32 → List Int64 → Option (List (Nat × Value) × List Value) := fun P xs ys => match P, xs, ys with
  | _, _, _ => none
set_option maxHeartbeats 4000000 in
set_option maxRecDepth 100000 in
theorem w_X11_goBehind_e {p : Program} {l : Launch} {e : Env} {s : State} {m : MethodId} {args : Array Value} {below : List Frame} {meth : Method} {c : Code} {dC : Nat → ClassId} {dI : Nat → Nat → Nat} {ad : Nat → Nat} {cA cZ : ClassId} (hi : Inj 12 ad)   (C0 : Cx cX11_goBehind RX11 wsX11_goBehind 1 none p s m args meth c) (hK : KK dC dI cA cZ s) (Q : St → Prop) (Y : Nat → List Int32 → List Int64 → St → Prop) (hY : ∀ P xs ys σ, Y P xs ys σ → XX p l e ({ frames := 3, cells := 0, slots := 0, locals := 69 } : Room) s m args below meth c (dC, dI) 12 ad (celM ad cA cZ) 1 (ZV below args s (dC, dI) 12 ad (celM ad cA cZ) Q) (lay_X11_goBehind ad ) P xs ys σ)  (s0 : St) (hv : B_X11_goBehind_e  Q Y  s0) {H : Heap} {locs : List Loc} {ls : Array Slot} (hP : va_P (dC, dI) vwCl (wd 12 ad (celM ad cA cZ) s0) H) (hS : va_S (AA 12 ad s.heap.size) s.heap H locs) (hl : lv_has ls 1 [(0, .ref (ad 0))]) : W p l e ({ frames := 3, cells := 0, slots := 0, locals := 69 } : Room) s m args below meth c H locs 0 0 (ZV below args s (dC, dI) 12 ad (celM ad cA cZ) Q) (F0 m 0 ls []) := by
  obtain ⟨hx, hb, hml, hown, hts, hr, hlocks⟩ := C0
  have hD := wd_D (s := s) (cel := celM ad cA cZ) (σ := s0) hi
  unfold B_X11_goBehind_e at hv
  refine lv_aload_n hx hb dX11_goBehind_0 rfl (lv_at hl 0 rfl) ?_
  refine lv_aload_n hx hb dX11_goBehind_1 rfl (lv_at hl 0 rfl) ?_
  refine r_get hx hb hts (iwX11_goBehind_X11) hown hK.1 hP 0 (by decide) (ceMo_0 (s0 0)) rfl 12 (by decide) (hts _ kX11_goBehind_1) (v := .int (s0 0 12)) rfl dX11_goBehind_2 ?_
  refine lv_aload_n hx hb dX11_goBehind_5 rfl (lv_at hl 0 rfl) ?_
  refine r_get hx hb hts (iwX11_goBehind_X11) hown hK.1 hP 0 (by decide) (ceMo_0 (s0 0)) rfl 13 (by decide) (hts _ kX11_goBehind_2) (v := .int (s0 0 13)) rfl dX11_goBehind_6 ?_
  refine lv_iadd hx hb dX11_goBehind_9 ?_
  refine r_cv (va_runV (As := [.int ((s0 0 12) + (s0 0 13))]) (rest := []) ⟨hx, hb, hml, hown, hts⟩ (c_X11_lookAt hi ((s0 0 12) + (s0 0 13)) s0 _ hv H.size) (cwV 1 hts gX11_goBehind_X11_lookAt rfl rfl rfl (by decide +kernel) ⟨Nat.le_of_ble_eq_true rfl, Nat.le_of_ble_eq_true rfl⟩) ⟨pre_blind, r_recv hK.1 hP 0 (by decide) (ceMo_0 (s0 0)) rfl, pre_of hP hK⟩ rfl rfl hl.1 rfl (lv_room (Nat.le_of_ble_eq_true rfl)) dX11_goBehind_10 ⟨Nat.zero_le _, Nat.zero_le _⟩) hS (fun s1 H locs hv hP hS => ?_)
  have hD := wd_D (s := s) (cel := celM ad cA cZ) (σ := s1) hi
  exact r_vret hx hb hr hlocks hv hP hS dX11_goBehind_13
set_option maxHeartbeats 4000000 in
theorem y_X11_goBehind {p : Program} {l : Launch} {e : Env} {s : State} {m : MethodId} {args : Array Value} {below : List Frame} {meth : Method} {c : Code} {dC : Nat → ClassId} {dI : Nat → Nat → Nat} {ad : Nat → Nat} {cA cZ : ClassId} (hi : Inj 12 ad)   (C0 : Cx cX11_goBehind RX11 wsX11_goBehind 1 none p s m args meth c) (hK : KK dC dI cA cZ s) (Q : St → Prop) : ∀ P xs ys σ, R_X11_goBehind  Q P xs ys σ → XX p l e ({ frames := 3, cells := 0, slots := 0, locals := 69 } : Room) s m args below meth c (dC, dI) 12 ad (celM ad cA cZ) 1 (ZV below args s (dC, dI) 12 ad (celM ad cA cZ) Q) (lay_X11_goBehind ad ) P xs ys σ := by
  refine Fx.elim _ (fun P xs ys σ Y hY hB => ?_)
  exact hB.elim
set_option maxHeartbeats 4000000 in
theorem c_X11_goBehind {l : Launch} {dC : Nat → ClassId} {dI : Nat → Nat → Nat} {ad : Nat → Nat} {cA cZ : ClassId} (hi : Inj 12 ad)   (s0 : St) (Q : St → Prop) (hv : V_X11_goBehind  s0 Q) (sz : Nat) : Met l yX11_goBehind wsX11_goBehind ({ frames := 3, cells := 0, slots := 0, locals := 69 } : Room) (va_Pc [.ref (ad 0)] (PW dC dI ad cA cZ 12 (celM ad cA cZ) sz s0)) (va_Qv Q (fun u t => va_P (dC, dI) vwCl (wd 12 ad (celM ad cA cZ) u) t.heap) (AA 12 ad sz)) 0 0 (AA 12 ad sz) := by
  refine Met.ofW (cc := cX11_goBehind) (maxL := 1) (ret := none) (by decide) rfl ?_
  intro p e s m args below meth c s₁ B hml hv0
  obtain ⟨rfl, hsz, hP, hK⟩ := hv0
  subst hsz
  have C0 : Cx cX11_goBehind RX11 wsX11_goBehind 1 none p s m ([.ref (ad 0)] : List Value).toArray meth c := ⟨B.exec, B.bytes, hml, findClass_of_methodNamed B.named, atoms_spec (ws := wsX11_goBehind) B.pre, B.returns, B.notSynchronized⟩
  have hl := lv_entry ([.ref (ad 0)]) (n := 1) (Nat.le_of_ble_eq_true rfl)
  rw [lg_entry_eq]
  generalize (lg_sl ([.ref (ad 0)]) ++ List.replicate (1 - (lg_sl ([.ref (ad 0)])).length) Slot.unset).toArray = ls at hl ⊢
  have hl : lv_has ls 1 [(0, .ref (ad 0))] := hl
  exact w_X11_goBehind_e hi   C0 hK Q (R_X11_goBehind  Q) (y_X11_goBehind hi   C0 hK Q)  s0 hv hP va_S.rf hl
def lay_X11_spells (ad : Nat → Nat) (a1 : Int32) (a2 : Int32) (a3 : Int32) (a4 : Int32) (a5 : Int32) (a6 : Int32) (a7 : Int32) : Nat → List Int32 → List Int64 → Option (List (Nat × Value) × List Value) := fun P xs ys => match P, xs, ys with
  | 26, [x8, x9], [] => some ([(0, .ref (ad 0)), (1, .int a1), (2, .int a2), (3, .int a3), (4, .int a4), (5, .int a5), (6, .int a6), (7, .int a7), (8, .int x8), (9, .int x9)], [])
  | 103, [x9, t0, t1], [] => some ([(0, .ref (ad 0)), (1, .int a1), (2, .int a2), (3, .int a3), (4, .int a4), (5, .int a5), (6, .int a6), (7, .int a7), (9, .int x9)], [.int t0, .int t1])
  | _, _, _ => none
set_option maxHeartbeats 4000000 in
set_option maxRecDepth 100000 in
theorem w_X11_spells_e {p : Program} {l : Launch} {e : Env} {s : State} {m : MethodId} {args : Array Value} {below : List Frame} {meth : Method} {c : Code} {dC : Nat → ClassId} {dI : Nat → Nat → Nat} {ad : Nat → Nat} {cA cZ : ClassId} (hi : Inj 12 ad) (a1 : Int32) (a2 : Int32) (a3 : Int32) (a4 : Int32) (a5 : Int32) (a6 : Int32) (a7 : Int32)  (C0 : Cx cX11_spells RX11 wsX11_spells 10 (some .boolean) p s m args meth c) (hK : KK dC dI cA cZ s) (Q : Int32 → St → Prop) (Y : Nat → List Int32 → List Int64 → St → Prop) (hY : ∀ P xs ys σ, Y P xs ys σ → XX p l e ({ frames := 0, cells := 0, slots := 0, locals := 0 } : Room) s m args below meth c (dC, dI) 12 ad (celM ad cA cZ) 10 (ZZ below args s (dC, dI) 12 ad (celM ad cA cZ) Q) (lay_X11_spells ad a1 a2 a3 a4 a5 a6 a7) P xs ys σ)  (s0 : St) (hv : B_X11_spells_e a1 a2 a3 a4 a5 a6 a7 Q Y  s0) {H : Heap} {locs : List Loc} {ls : Array Slot} (hP : va_P (dC, dI) vwCl (wd 12 ad (celM ad cA cZ) s0) H) (hS : va_S (AA 12 ad s.heap.size) s.heap H locs) (hl : lv_has ls 10 [(0, .ref (ad 0)), (1, .int a1), (2, .int a2), (3, .int a3), (4, .int a4), (5, .int a5), (6, .int a6), (7, .int a7)]) : W p l e ({ frames := 0, cells := 0, slots := 0, locals := 0 } : Room) s m args below meth c H locs 0 0 (ZZ below args s (dC, dI) 12 ad (celM ad cA cZ) Q) (F0 m 0 ls []) := by
  obtain ⟨hx, hb, hml, hown, hts, hr, hlocks⟩ := C0
  have hD := wd_D (s := s) (cel := celM ad cA cZ) (σ := s0) hi
  unfold B_X11_spells_e at hv
  refine lv_aload_n hx hb dX11_spells_0 rfl (lv_at hl 0 rfl) ?_
  refine r_get hx hb hts (iwX11_spells_X11) hown hK.1 hP 0 (by decide) (ceMo_0 (s0 0)) rfl 14 (by decide) (hts _ kX11_spells_1) (v := .int (s0 0 14)) rfl dX11_spells_1 ?_
  refine lv_iconst (v := 1) hx hb dX11_spells_4 (by decide) ?_
  refine lv_icmp_ne (tgt := 20) hx hb dX11_spells_5 (by decide) (fun c5 => ?_) (fun c5 => ?_)
  · have hv := hv.1 c5
    refine lv_iconst (v := 0) hx hb dX11_spells_20 (by decide) ?_
    refine lv_istore (lv' := [(8, .int 0), (0, .ref (ad 0)), (1, .int a1), (2, .int a2), (3, .int a3), (4, .int a4), (5, .int a5), (6, .int a6), (7, .int a7)]) hx hb dX11_spells_21 hl (by decide) rfl (fun ls hl => ?_)
    refine lv_iconst (v := 0) hx hb dX11_spells_23 (by decide) ?_
    refine lv_istore (lv' := [(9, .int 0), (8, .int 0), (0, .ref (ad 0)), (1, .int a1), (2, .int a2), (3, .int a3), (4, .int a4), (5, .int a5), (6, .int a6), (7, .int a7)]) hx hb dX11_spells_24 hl (by decide) rfl (fun ls hl => ?_)
    exact hY 26 [0, 0] [] s0 hv _ _ rfl H locs ls hP hS (lv_sub hl [2, 3, 4, 5, 6, 7, 8, 9, 1, 0] rfl)
  · have hv := hv.2 c5
    refine lv_aload_n hx hb dX11_spells_8 rfl (lv_at hl 0 rfl) ?_
    refine r_get hx hb hts (iwX11_spells_X11) hown hK.1 hP 0 (by decide) (ceMo_0 (s0 0)) rfl 13 (by decide) (hts _ kX11_spells_2) (v := .int (s0 0 13)) rfl dX11_spells_9 ?_
    refine lv_iload_n hx hb dX11_spells_12 rfl (lv_at hl 1 rfl) ?_
    refine lv_icmp_ne (tgt := 20) hx hb dX11_spells_13 (by decide) (fun c13 => ?_) (fun c13 => ?_)
    · have hv := hv.1 c13
      refine lv_iconst (v := 0) hx hb dX11_spells_20 (by decide) ?_
      refine lv_istore (lv' := [(8, .int 0), (0, .ref (ad 0)), (1, .int a1), (2, .int a2), (3, .int a3), (4, .int a4), (5, .int a5), (6, .int a6), (7, .int a7)]) hx hb dX11_spells_21 hl (by decide) rfl (fun ls hl => ?_)
      refine lv_iconst (v := 0) hx hb dX11_spells_23 (by decide) ?_
      refine lv_istore (lv' := [(9, .int 0), (8, .int 0), (0, .ref (ad 0)), (1, .int a1), (2, .int a2), (3, .int a3), (4, .int a4), (5, .int a5), (6, .int a6), (7, .int a7)]) hx hb dX11_spells_24 hl (by decide) rfl (fun ls hl => ?_)
      exact hY 26 [0, 0] [] s0 hv _ _ rfl H locs ls hP hS (lv_sub hl [2, 3, 4, 5, 6, 7, 8, 9, 1, 0] rfl)
    · have hv := hv.2 c13
      refine lv_iconst (v := 1) hx hb dX11_spells_16 (by decide) ?_
      refine lv_goto (tgt := 21) hx hb dX11_spells_17 (by decide) ?_
      refine lv_istore (lv' := [(8, .int 1), (0, .ref (ad 0)), (1, .int a1), (2, .int a2), (3, .int a3), (4, .int a4), (5, .int a5), (6, .int a6), (7, .int a7)]) hx hb dX11_spells_21 hl (by decide) rfl (fun ls hl => ?_)
      refine lv_iconst (v := 0) hx hb dX11_spells_23 (by decide) ?_
      refine lv_istore (lv' := [(9, .int 0), (8, .int 1), (0, .ref (ad 0)), (1, .int a1), (2, .int a2), (3, .int a3), (4, .int a4), (5, .int a5), (6, .int a6), (7, .int a7)]) hx hb dX11_spells_24 hl (by decide) rfl (fun ls hl => ?_)
      exact hY 26 [1, 0] [] s0 hv _ _ rfl H locs ls hP hS (lv_sub hl [2, 3, 4, 5, 6, 7, 8, 9, 1, 0] rfl)
set_option maxHeartbeats 4000000 in
set_option maxRecDepth 100000 in
theorem w_X11_spells_26 {p : Program} {l : Launch} {e : Env} {s : State} {m : MethodId} {args : Array Value} {below : List Frame} {meth : Method} {c : Code} {dC : Nat → ClassId} {dI : Nat → Nat → Nat} {ad : Nat → Nat} {cA cZ : ClassId} (hi : Inj 12 ad) (a1 : Int32) (a2 : Int32) (a3 : Int32) (a4 : Int32) (a5 : Int32) (a6 : Int32) (a7 : Int32)  (C0 : Cx cX11_spells RX11 wsX11_spells 10 (some .boolean) p s m args meth c) (hK : KK dC dI cA cZ s) (Q : Int32 → St → Prop) (Y : Nat → List Int32 → List Int64 → St → Prop) (hY : ∀ P xs ys σ, Y P xs ys σ → XX p l e ({ frames := 0, cells := 0, slots := 0, locals := 0 } : Room) s m args below meth c (dC, dI) 12 ad (celM ad cA cZ) 10 (ZZ below args s (dC, dI) 12 ad (celM ad cA cZ) Q) (lay_X11_spells ad a1 a2 a3 a4 a5 a6 a7) P xs ys σ) (x8 : Int32) (x9 : Int32) (s0 : St) (hv : B_X11_spells_26 a1 a2 a3 a4 a5 a6 a7 Q Y x8 x9 s0) {H : Heap} {locs : List Loc} {ls : Array Slot} (hP : va_P (dC, dI) vwCl (wd 12 ad (celM ad cA cZ) s0) H) (hS : va_S (AA 12 ad s.heap.size) s.heap H locs) (hl : lv_has ls 10 [(0, .ref (ad 0)), (1, .int a1), (2, .int a2), (3, .int a3), (4, .int a4), (5, .int a5), (6, .int a6), (7, .int a7), (8, .int x8), (9, .int x9)]) : W p l e ({ frames := 0, cells := 0, slots := 0, locals := 0 } : Room) s m args below meth c H locs 0 0 (ZZ below args s (dC, dI) 12 ad (celM ad cA cZ) Q) (F0 m 26 ls []) := by
  obtain ⟨hx, hb, hml, hown, hts, hr, hlocks⟩ := C0
  have hD := wd_D (s := s) (cel := celM ad cA cZ) (σ := s0) hi
  unfold B_X11_spells_26 at hv
  refine lv_iload hx hb dX11_spells_26 (lv_at hl 9 rfl) ?_
  refine lv_iload_n hx hb dX11_spells_28 rfl (lv_at hl 1 rfl) ?_
  refine lv_icmp_ge (tgt := 119) hx hb dX11_spells_29 (by decide) (fun c29 => ?_) (fun c29 => ?_)
  · have hv := hv.1 c29
    refine lv_iload hx hb dX11_spells_119 (lv_at hl 8 rfl) ?_
    obtain ⟨hz, hv⟩ := hv
    exact r_zret hx hb hr hlocks hz hv hP hS dX11_spells_121
  · have hv := hv.2 c29
    refine lv_iload hx hb dX11_spells_32 (lv_at hl 8 rfl) ?_
    refine lv_if_eq (tgt := 119) hx hb dX11_spells_34 (by decide) (fun c34 => ?_) (fun c34 => ?_)
    · have hv := hv.1 c34
      refine lv_iload hx hb dX11_spells_119 (lv_at hl 8 rfl) ?_
      obtain ⟨hz, hv⟩ := hv
      exact r_zret hx hb hr hlocks hz hv hP hS dX11_spells_121
    · have hv := hv.2 c34
      refine lv_aload_n hx hb dX11_spells_37 rfl (lv_at hl 0 rfl) ?_
      refine r_get hx hb hts (iwX11_spells_X11) hown hK.1 hP 0 (by decide) (ceMo_0 (s0 0)) rfl 10 (by decide) (hts _ kX11_spells_3) (v := .ref (ad 9)) rfl dX11_spells_38 ?_
      refine lv_aload_n hx hb dX11_spells_41 rfl (lv_at hl 0 rfl) ?_
      refine r_get hx hb hts (iwX11_spells_X11) hown hK.1 hP 0 (by decide) (ceMo_0 (s0 0)) rfl 12 (by decide) (hts _ kX11_spells_4) (v := .int (s0 0 12)) rfl dX11_spells_42 ?_
      refine lv_iload hx hb dX11_spells_45 (lv_at hl 9 rfl) ?_
      refine lv_iadd hx hb dX11_spells_47 ?_
      obtain ⟨hin, hv⟩ := hv
      refine r_iald hx hb hK.1 hP 9 (by decide) (ceMo_9 (s0 9)) hin dX11_spells_48 ?_
      refine lv_iload hx hb dX11_spells_49 (lv_at hl 9 rfl) ?_
      refine lv_if_ne (tgt := 58) hx hb dX11_spells_51 (by decide) (fun c51 => ?_) (fun c51 => ?_)
      · have hv := hv.1 c51
        refine lv_iload hx hb dX11_spells_58 (lv_at hl 9 rfl) ?_
        refine lv_iconst (v := 1) hx hb dX11_spells_60 (by decide) ?_
        refine lv_icmp_ne (tgt := 68) hx hb dX11_spells_61 (by decide) (fun c61 => ?_) (fun c61 => ?_)
        · have hv := hv.1 c61
          refine lv_iload hx hb dX11_spells_68 (lv_at hl 9 rfl) ?_
          refine lv_iconst (v := 2) hx hb dX11_spells_70 (by decide) ?_
          refine lv_icmp_ne (tgt := 79) hx hb dX11_spells_71 (by decide) (fun c71 => ?_) (fun c71 => ?_)
          · have hv := hv.1 c71
            refine lv_iload hx hb dX11_spells_79 (lv_at hl 9 rfl) ?_
            refine lv_iconst (v := 3) hx hb dX11_spells_81 (by decide) ?_
            refine lv_icmp_ne (tgt := 90) hx hb dX11_spells_82 (by decide) (fun c82 => ?_) (fun c82 => ?_)
            · have hv := hv.1 c82
              refine lv_iload hx hb dX11_spells_90 (lv_at hl 9 rfl) ?_
              refine lv_iconst (v := 4) hx hb dX11_spells_92 (by decide) ?_
              refine lv_icmp_ne (tgt := 101) hx hb dX11_spells_93 (by decide) (fun c93 => ?_) (fun c93 => ?_)
              · have hv := hv.1 c93
                refine lv_iload hx hb dX11_spells_101 (lv_at hl 7 rfl) ?_
                exact hY 103 [x9, a7, s0 9 ((s0 0 12) + x9).toNatClampNeg] [] s0 hv _ _ rfl H locs ls hP hS (lv_sub hl [0, 1, 2, 3, 4, 5, 6, 7, 9] rfl)
              · have hv := hv.2 c93
                refine lv_iload hx hb dX11_spells_96 (lv_at hl 6 rfl) ?_
                refine lv_goto (tgt := 103) hx hb dX11_spells_98 (by decide) ?_
                exact hY 103 [x9, a6, s0 9 ((s0 0 12) + x9).toNatClampNeg] [] s0 hv _ _ rfl H locs ls hP hS (lv_sub hl [0, 1, 2, 3, 4, 5, 6, 7, 9] rfl)
            · have hv := hv.2 c82
              refine lv_iload hx hb dX11_spells_85 (lv_at hl 5 rfl) ?_
              refine lv_goto (tgt := 103) hx hb dX11_spells_87 (by decide) ?_
              exact hY 103 [x9, a5, s0 9 ((s0 0 12) + x9).toNatClampNeg] [] s0 hv _ _ rfl H locs ls hP hS (lv_sub hl [0, 1, 2, 3, 4, 5, 6, 7, 9] rfl)
          · have hv := hv.2 c71
            refine lv_iload hx hb dX11_spells_74 (lv_at hl 4 rfl) ?_
            refine lv_goto (tgt := 103) hx hb dX11_spells_76 (by decide) ?_
            exact hY 103 [x9, a4, s0 9 ((s0 0 12) + x9).toNatClampNeg] [] s0 hv _ _ rfl H locs ls hP hS (lv_sub hl [0, 1, 2, 3, 4, 5, 6, 7, 9] rfl)
        · have hv := hv.2 c61
          refine lv_iload_n hx hb dX11_spells_64 rfl (lv_at hl 3 rfl) ?_
          refine lv_goto (tgt := 103) hx hb dX11_spells_65 (by decide) ?_
          exact hY 103 [x9, a3, s0 9 ((s0 0 12) + x9).toNatClampNeg] [] s0 hv _ _ rfl H locs ls hP hS (lv_sub hl [0, 1, 2, 3, 4, 5, 6, 7, 9] rfl)
      · have hv := hv.2 c51
        refine lv_iload_n hx hb dX11_spells_54 rfl (lv_at hl 2 rfl) ?_
        refine lv_goto (tgt := 103) hx hb dX11_spells_55 (by decide) ?_
        exact hY 103 [x9, a2, s0 9 ((s0 0 12) + x9).toNatClampNeg] [] s0 hv _ _ rfl H locs ls hP hS (lv_sub hl [0, 1, 2, 3, 4, 5, 6, 7, 9] rfl)
set_option maxHeartbeats 4000000 in
set_option maxRecDepth 100000 in
theorem w_X11_spells_103 {p : Program} {l : Launch} {e : Env} {s : State} {m : MethodId} {args : Array Value} {below : List Frame} {meth : Method} {c : Code} {dC : Nat → ClassId} {dI : Nat → Nat → Nat} {ad : Nat → Nat} {cA cZ : ClassId} (hi : Inj 12 ad) (a1 : Int32) (a2 : Int32) (a3 : Int32) (a4 : Int32) (a5 : Int32) (a6 : Int32) (a7 : Int32)  (C0 : Cx cX11_spells RX11 wsX11_spells 10 (some .boolean) p s m args meth c) (hK : KK dC dI cA cZ s) (Q : Int32 → St → Prop) (Y : Nat → List Int32 → List Int64 → St → Prop) (hY : ∀ P xs ys σ, Y P xs ys σ → XX p l e ({ frames := 0, cells := 0, slots := 0, locals := 0 } : Room) s m args below meth c (dC, dI) 12 ad (celM ad cA cZ) 10 (ZZ below args s (dC, dI) 12 ad (celM ad cA cZ) Q) (lay_X11_spells ad a1 a2 a3 a4 a5 a6 a7) P xs ys σ) (x9 : Int32) (t0 : Int32) (t1 : Int32) (s0 : St) (hv : B_X11_spells_103 a1 a2 a3 a4 a5 a6 a7 Q Y x9 t0 t1 s0) {H : Heap} {locs : List Loc} {ls : Array Slot} (hP : va_P (dC, dI) vwCl (wd 12 ad (celM ad cA cZ) s0) H) (hS : va_S (AA 12 ad s.heap.size) s.heap H locs) (hl : lv_has ls 10 [(0, .ref (ad 0)), (1, .int a1), (2, .int a2), (3, .int a3), (4, .int a4), (5, .int a5), (6, .int a6), (7, .int a7), (9, .int x9)]) : W p l e ({ frames := 0, cells := 0, slots := 0, locals := 0 } : Room) s m args below meth c H locs 0 0 (ZZ below args s (dC, dI) 12 ad (celM ad cA cZ) Q) (F0 m 103 ls [.int t0, .int t1]) := by
  obtain ⟨hx, hb, hml, hown, hts, hr, hlocks⟩ := C0
  have hD := wd_D (s := s) (cel := celM ad cA cZ) (σ := s0) hi
  unfold B_X11_spells_103 at hv
  refine lv_icmp_ne (tgt := 110) hx hb dX11_spells_103 (by decide) (fun c103 => ?_) (fun c103 => ?_)
  · have hv := hv.1 c103
    refine lv_iconst (v := 0) hx hb dX11_spells_110 (by decide) ?_
    refine lv_istore (lv' := [(8, .int 0), (0, .ref (ad 0)), (1, .int a1), (2, .int a2), (3, .int a3), (4, .int a4), (5, .int a5), (6, .int a6), (7, .int a7), (9, .int x9)]) hx hb dX11_spells_111 hl (by decide) rfl (fun ls hl => ?_)
    refine lv_iinc (v := x9 + 1) (lv' := [(9, .int (x9 + 1)), (8, .int 0), (0, .ref (ad 0)), (1, .int a1), (2, .int a2), (3, .int a3), (4, .int a4), (5, .int a5), (6, .int a6), (7, .int a7)]) hx hb dX11_spells_113 hl (k := 9) rfl rfl (by decide) rfl (fun ls hl => ?_)
    refine lv_goto (tgt := 26) hx hb dX11_spells_116 (by decide) ?_
    exact hY 26 [0, x9 + 1] [] s0 hv _ _ rfl H locs ls hP hS (lv_sub hl [2, 3, 4, 5, 6, 7, 8, 9, 1, 0] rfl)
  · have hv := hv.2 c103
    refine lv_iconst (v := 1) hx hb dX11_spells_106 (by decide) ?_
    refine lv_goto (tgt := 111) hx hb dX11_spells_107 (by decide) ?_
    refine lv_istore (lv' := [(8, .int 1), (0, .ref (ad 0)), (1, .int a1), (2, .int a2), (3, .int a3), (4, .int a4), (5, .int a5), (6, .int a6), (7, .int a7), (9, .int x9)]) hx hb dX11_spells_111 hl (by decide) rfl (fun ls hl => ?_)
    refine lv_iinc (v := x9 + 1) (lv' := [(9, .int (x9 + 1)), (8, .int 1), (0, .ref (ad 0)), (1, .int a1), (2, .int a2), (3, .int a3), (4, .int a4), (5, .int a5), (6, .int a6), (7, .int a7)]) hx hb dX11_spells_113 hl (k := 9) rfl rfl (by decide) rfl (fun ls hl => ?_)
    refine lv_goto (tgt := 26) hx hb dX11_spells_116 (by decide) ?_
    exact hY 26 [1, x9 + 1] [] s0 hv _ _ rfl H locs ls hP hS (lv_sub hl [2, 3, 4, 5, 6, 7, 8, 9, 1, 0] rfl)
set_option maxHeartbeats 4000000 in
theorem y_X11_spells {p : Program} {l : Launch} {e : Env} {s : State} {m : MethodId} {args : Array Value} {below : List Frame} {meth : Method} {c : Code} {dC : Nat → ClassId} {dI : Nat → Nat → Nat} {ad : Nat → Nat} {cA cZ : ClassId} (hi : Inj 12 ad) (a1 : Int32) (a2 : Int32) (a3 : Int32) (a4 : Int32) (a5 : Int32) (a6 : Int32) (a7 : Int32)  (C0 : Cx cX11_spells RX11 wsX11_spells 10 (some .boolean) p s m args meth c) (hK : KK dC dI cA cZ s) (Q : Int32 → St → Prop) : ∀ P xs ys σ, R_X11_spells a1 a2 a3 a4 a5 a6 a7 Q P xs ys σ → XX p l e ({ frames := 0, cells := 0, slots := 0, locals := 0 } : Room) s m args below meth c (dC, dI) 12 ad (celM ad cA cZ) 10 (ZZ below args s (dC, dI) 12 ad (celM ad cA cZ) Q) (lay_X11_spells ad a1 a2 a3 a4 a5 a6 a7) P xs ys σ := by
  refine Fx.elim _ (fun P xs ys σ Y hY hB => ?_)
  rcases hB with ⟨rfl, x8, x9, rfl, rfl, hB⟩ | ⟨rfl, x9, t0, t1, rfl, rfl, hB⟩
  · intro lv st he H locs ls hP hS hl
    cases he
    exact w_X11_spells_26 hi a1 a2 a3 a4 a5 a6 a7  C0 hK Q Y hY x8 x9 σ hB hP hS hl
  · intro lv st he H locs ls hP hS hl
    cases he
    exact w_X11_spells_103 hi a1 a2 a3 a4 a5 a6 a7  C0 hK Q Y hY x9 t0 t1 σ hB hP hS hl
set_option maxHeartbeats 4000000 in
theorem c_X11_spells {l : Launch} {dC : Nat → ClassId} {dI : Nat → Nat → Nat} {ad : Nat → Nat} {cA cZ : ClassId} (hi : Inj 12 ad) (a1 : Int32) (a2 : Int32) (a3 : Int32) (a4 : Int32) (a5 : Int32) (a6 : Int32) (a7 : Int32)  (s0 : St) (Q : Int32 → St → Prop) (hv : V_X11_spells a1 a2 a3 a4 a5 a6 a7 s0 Q) (sz : Nat) : Met l yX11_spells wsX11_spells ({ frames := 0, cells := 0, slots := 0, locals := 0 } : Room) (va_Pc [.ref (ad 0), .int a1, .int a2, .int a3, .int a4, .int a5, .int a6, .int a7] (PW dC dI ad cA cZ 12 (celM ad cA cZ) sz s0)) (va_Qi (fun r u => (r = 0 ∨ r = 1) ∧ Q r u) (fun u t => va_P (dC, dI) vwCl (wd 12 ad (celM ad cA cZ) u) t.heap) (AA 12 ad sz)) 0 0 (AA 12 ad sz) := by
  refine Met.ofW (cc := cX11_spells) (maxL := 10) (ret := (some .boolean)) (by decide) rfl ?_
  intro p e s m args below meth c s₁ B hml hv0
  obtain ⟨rfl, hsz, hP, hK⟩ := hv0
  subst hsz
  have C0 : Cx cX11_spells RX11 wsX11_spells 10 (some .boolean) p s m ([.ref (ad 0), .int a1, .int a2, .int a3, .int a4, .int a5, .int a6, .int a7] : List Value).toArray meth c := ⟨B.exec, B.bytes, hml, findClass_of_methodNamed B.named, atoms_spec (ws := wsX11_spells) B.pre, B.returns, B.notSynchronized⟩
  have hl := lv_entry ([.ref (ad 0), .int a1, .int a2, .int a3, .int a4, .int a5, .int a6, .int a7]) (n := 10) (Nat.le_of_ble_eq_true rfl)
  rw [lg_entry_eq]
  generalize (lg_sl ([.ref (ad 0), .int a1, .int a2, .int a3, .int a4, .int a5, .int a6, .int a7]) ++ List.replicate (10 - (lg_sl ([.ref (ad 0), .int a1, .int a2, .int a3, .int a4, .int a5, .int a6, .int a7])).length) Slot.unset).toArray = ls at hl ⊢
  have hl : lv_has ls 10 [(0, .ref (ad 0)), (1, .int a1), (2, .int a2), (3, .int a3), (4, .int a4), (5, .int a5), (6, .int a6), (7, .int a7)] := hl
  exact w_X11_spells_e hi a1 a2 a3 a4 a5 a6 a7  C0 hK Q (R_X11_spells a1 a2 a3 a4 a5 a6 a7 Q) (y_X11_spells hi a1 a2 a3 a4 a5 a6 a7  C0 hK Q)  s0 hv hP va_S.rf hl
def lay_X11_takes (ad : Nat → Nat) (a1 : Int32) (a2 : Int32) (a3 : Int32) : Nat → List Int32 → List Int64 → Option (List (Nat × Value) × List Value) := fun P xs ys => match P, xs, ys with
  | _, _, _ => none
set_option maxHeartbeats 4000000 in
set_option maxRecDepth 100000 in
theorem w_X11_takes_e {p : Program} {l : Launch} {e : Env} {s : State} {m : MethodId} {args : Array Value} {below : List Frame} {meth : Method} {c : Code} {dC : Nat → ClassId} {dI : Nat → Nat → Nat} {ad : Nat → Nat} {cA cZ : ClassId} (hi : Inj 12 ad) (a1 : Int32) (a2 : Int32) (a3 : Int32)  (C0 : Cx cX11_takes RX11 wsX11_takes 4 (some .boolean) p s m args meth c) (hK : KK dC dI cA cZ s) (Q : Int32 → St → Prop) (Y : Nat → List Int32 → List Int64 → St → Prop) (hY : ∀ P xs ys σ, Y P xs ys σ → XX p l e ({ frames := 4, cells := 0, slots := 0, locals := 89 } : Room) s m args below meth c (dC, dI) 12 ad (celM ad cA cZ) 4 (ZZ below args s (dC, dI) 12 ad (celM ad cA cZ) Q) (lay_X11_takes ad a1 a2 a3) P xs ys σ)  (s0 : St) (hv : B_X11_takes_e a1 a2 a3 Q Y  s0) {H : Heap} {locs : List Loc} {ls : Array Slot} (hP : va_P (dC, dI) vwCl (wd 12 ad (celM ad cA cZ) s0) H) (hS : va_S (AA 12 ad s.heap.size) s.heap H locs) (hl : lv_has ls 4 [(0, .ref (ad 0)), (1, .int a1), (2, .int a2), (3, .int a3)]) : W p l e ({ frames := 4, cells := 0, slots := 0, locals := 89 } : Room) s m args below meth c H locs 0 0 (ZZ below args s (dC, dI) 12 ad (celM ad cA cZ) Q) (F0 m 0 ls []) := by
  obtain ⟨hx, hb, hml, hown, hts, hr, hlocks⟩ := C0
  have hD := wd_D (s := s) (cel := celM ad cA cZ) (σ := s0) hi
  unfold B_X11_takes_e at hv
  refine lv_aload_n hx hb dX11_takes_0 rfl (lv_at hl 0 rfl) ?_
  refine r_get hx hb hts (iwX11_takes_X11) hown hK.1 hP 0 (by decide) (ceMo_0 (s0 0)) rfl 14 (by decide) (hts _ kX11_takes_1) (v := .int (s0 0 14)) rfl dX11_takes_1 ?_
  refine lv_iconst (v := 2) hx hb dX11_takes_4 (by decide) ?_
  refine lv_icmp_ne (tgt := 23) hx hb dX11_takes_5 (by decide) (fun c5 => ?_) (fun c5 => ?_)
  · have hv := hv.1 c5
    refine lv_iconst (v := 0) hx hb dX11_takes_23 (by decide) ?_
    exact r_zret hx hb hr hlocks (Or.inl rfl) hv hP hS dX11_takes_24
  · have hv := hv.2 c5
    refine lv_aload_n hx hb dX11_takes_8 rfl (lv_at hl 0 rfl) ?_
    refine r_get hx hb hts (iwX11_takes_X11) hown hK.1 hP 0 (by decide) (ceMo_0 (s0 0)) rfl 15 (by decide) (hts _ kX11_takes_2) (v := .int (s0 0 15)) rfl dX11_takes_9 ?_
    refine lv_i2l (v := (s0 0 15).toInt64) hx hb dX11_takes_12 rfl ?_
    refine lv_iload_n hx hb dX11_takes_13 rfl (lv_at hl 2 rfl) ?_
    refine lv_i2l (v := a2.toInt64) hx hb dX11_takes_14 rfl ?_
    refine lv_iload_n hx hb dX11_takes_15 rfl (lv_at hl 3 rfl) ?_
    refine lv_i2l (v := a3.toInt64) hx hb dX11_takes_16 rfl ?_
    refine r_ci (va_runS (As := [.long ((s0 0 15).toInt64), .long a2.toInt64, .long a3.toInt64]) (rest := []) ⟨hx, hb, hml, hown, hts⟩ (c_X11_in hi ((s0 0 15).toInt64) a2.toInt64 a3.toInt64 s0 _ hv H.size) (va_cwS 3 hts gX11_takes_X11_in rfl rfl rfl (by decide +kernel) ⟨Nat.le_of_ble_eq_true rfl, Nat.le_of_ble_eq_true rfl⟩) ⟨pre_blind, pre_of hP hK⟩ rfl rfl hl.1 rfl (lv_room (Nat.le_of_ble_eq_true rfl)) dX11_takes_17 ⟨Nat.zero_le _, Nat.zero_le _⟩) hS (fun r1 s1 H locs hv hP hS => ?_)
    obtain ⟨hz_r1, hv⟩ := hv
    have hD := wd_D (s := s) (cel := celM ad cA cZ) (σ := s1) hi
    refine lv_if_ne (tgt := 25) hx hb dX11_takes_20 (by decide) (fun c20 => ?_) (fun c20 => ?_)
    · have hv := hv.1 c20
      refine lv_aload_n hx hb dX11_takes_25 rfl (lv_at hl 0 rfl) ?_
      refine r_get hx hb hts (iwX11_takes_X11) hown hK.1 hP 0 (by decide) (ceMo_0 (s1 0)) rfl 17 (by decide) (hts _ kX11_takes_3) (v := .ref (ad 11)) rfl dX11_takes_26 ?_
      refine lv_iload_n hx hb dX11_takes_29 rfl (lv_at hl 1 rfl) ?_
      refine lv_aload_n hx hb dX11_takes_30 rfl (lv_at hl 0 rfl) ?_
      refine r_get hx hb hts (iwX11_takes_X11) hown hK.1 hP 0 (by decide) (ceMo_0 (s1 0)) rfl 15 (by decide) (hts _ kX11_takes_2) (v := .int (s1 0 15)) rfl dX11_takes_31 ?_
      obtain ⟨hin, hv⟩ := hv
      refine r_iast hx hb hK.1 hP hD hS 11 (by decide) (ceMo_11 (s1 11)) (ceMo_11 _) hin dX11_takes_34 (fun H locs s2 es2 hP hD hS => ?_)
      have hv := hv s2 es2
      refine lv_aload_n hx hb dX11_takes_35 rfl (lv_at hl 0 rfl) ?_
      refine r_cv (va_runV (As := []) (rest := []) ⟨hx, hb, hml, hown, hts⟩ (c_X11_goBehind hi  s2 _ hv H.size) (cwV 0 hts gX11_takes_X11_goBehind rfl rfl rfl (by decide +kernel) ⟨Nat.le_of_ble_eq_true rfl, Nat.le_of_ble_eq_true rfl⟩) ⟨pre_blind, r_recv hK.1 hP 0 (by decide) (ceMo_0 (s2 0)) rfl, pre_of hP hK⟩ rfl rfl hl.1 rfl (lv_room (Nat.le_of_ble_eq_true rfl)) dX11_takes_36 ⟨Nat.zero_le _, Nat.zero_le _⟩) hS (fun s3 H locs hv hP hS => ?_)
      have hD := wd_D (s := s) (cel := celM ad cA cZ) (σ := s3) hi
      refine lv_iconst (v := 1) hx hb dX11_takes_39 (by decide) ?_
      exact r_zret hx hb hr hlocks (Or.inr rfl) hv hP hS dX11_takes_40
    · have hv := hv.2 c20
      refine lv_iconst (v := 0) hx hb dX11_takes_23 (by decide) ?_
      exact r_zret hx hb hr hlocks (Or.inl rfl) hv hP hS dX11_takes_24
set_option maxHeartbeats 4000000 in
theorem y_X11_takes {p : Program} {l : Launch} {e : Env} {s : State} {m : MethodId} {args : Array Value} {below : List Frame} {meth : Method} {c : Code} {dC : Nat → ClassId} {dI : Nat → Nat → Nat} {ad : Nat → Nat} {cA cZ : ClassId} (hi : Inj 12 ad) (a1 : Int32) (a2 : Int32) (a3 : Int32)  (C0 : Cx cX11_takes RX11 wsX11_takes 4 (some .boolean) p s m args meth c) (hK : KK dC dI cA cZ s) (Q : Int32 → St → Prop) : ∀ P xs ys σ, R_X11_takes a1 a2 a3 Q P xs ys σ → XX p l e ({ frames := 4, cells := 0, slots := 0, locals := 89 } : Room) s m args below meth c (dC, dI) 12 ad (celM ad cA cZ) 4 (ZZ below args s (dC, dI) 12 ad (celM ad cA cZ) Q) (lay_X11_takes ad a1 a2 a3) P xs ys σ := by
  refine Fx.elim _ (fun P xs ys σ Y hY hB => ?_)
  exact hB.elim
set_option maxHeartbeats 4000000 in
theorem c_X11_takes {l : Launch} {dC : Nat → ClassId} {dI : Nat → Nat → Nat} {ad : Nat → Nat} {cA cZ : ClassId} (hi : Inj 12 ad) (a1 : Int32) (a2 : Int32) (a3 : Int32)  (s0 : St) (Q : Int32 → St → Prop) (hv : V_X11_takes a1 a2 a3 s0 Q) (sz : Nat) : Met l yX11_takes wsX11_takes ({ frames := 4, cells := 0, slots := 0, locals := 89 } : Room) (va_Pc [.ref (ad 0), .int a1, .int a2, .int a3] (PW dC dI ad cA cZ 12 (celM ad cA cZ) sz s0)) (va_Qi (fun r u => (r = 0 ∨ r = 1) ∧ Q r u) (fun u t => va_P (dC, dI) vwCl (wd 12 ad (celM ad cA cZ) u) t.heap) (AA 12 ad sz)) 0 0 (AA 12 ad sz) := by
  refine Met.ofW (cc := cX11_takes) (maxL := 4) (ret := (some .boolean)) (by decide) rfl ?_
  intro p e s m args below meth c s₁ B hml hv0
  obtain ⟨rfl, hsz, hP, hK⟩ := hv0
  subst hsz
  have C0 : Cx cX11_takes RX11 wsX11_takes 4 (some .boolean) p s m ([.ref (ad 0), .int a1, .int a2, .int a3] : List Value).toArray meth c := ⟨B.exec, B.bytes, hml, findClass_of_methodNamed B.named, atoms_spec (ws := wsX11_takes) B.pre, B.returns, B.notSynchronized⟩
  have hl := lv_entry ([.ref (ad 0), .int a1, .int a2, .int a3]) (n := 4) (Nat.le_of_ble_eq_true rfl)
  rw [lg_entry_eq]
  generalize (lg_sl ([.ref (ad 0), .int a1, .int a2, .int a3]) ++ List.replicate (4 - (lg_sl ([.ref (ad 0), .int a1, .int a2, .int a3])).length) Slot.unset).toArray = ls at hl ⊢
  have hl : lv_has ls 4 [(0, .ref (ad 0)), (1, .int a1), (2, .int a2), (3, .int a3)] := hl
  exact w_X11_takes_e hi a1 a2 a3  C0 hK Q (R_X11_takes a1 a2 a3 Q) (y_X11_takes hi a1 a2 a3  C0 hK Q)  s0 hv hP va_S.rf hl
def lay_X11_takesWet (ad : Nat → Nat)  : Nat → List Int32 → List Int64 → Option (List (Nat × Value) × List Value) := fun P xs ys => match P, xs, ys with
  | 6, [x1], [] => some ([(0, .ref (ad 0)), (1, .int x1)], [])
  | 18, [x1], [] => some ([(0, .ref (ad 0)), (1, .int x1)], [])
  | _, _, _ => none
set_option maxHeartbeats 4000000 in
set_option maxRecDepth 100000 in
theorem w_X11_takesWet_e {p : Program} {l : Launch} {e : Env} {s : State} {m : MethodId} {args : Array Value} {below : List Frame} {meth : Method} {c : Code} {dC : Nat → ClassId} {dI : Nat → Nat → Nat} {ad : Nat → Nat} {cA cZ : ClassId} (hi : Inj 12 ad)   (C0 : Cx cX11_takesWet RX11 wsX11_takesWet 2 (some .boolean) p s m args meth c) (hK : KK dC dI cA cZ s) (Q : Int32 → St → Prop) (Y : Nat → List Int32 → List Int64 → St → Prop) (hY : ∀ P xs ys σ, Y P xs ys σ → XX p l e ({ frames := 5, cells := 0, slots := 0, locals := 112 } : Room) s m args below meth c (dC, dI) 12 ad (celM ad cA cZ) 2 (ZZ below args s (dC, dI) 12 ad (celM ad cA cZ) Q) (lay_X11_takesWet ad ) P xs ys σ)  (s0 : St) (hv : B_X11_takesWet_e  Q Y  s0) {H : Heap} {locs : List Loc} {ls : Array Slot} (hP : va_P (dC, dI) vwCl (wd 12 ad (celM ad cA cZ) s0) H) (hS : va_S (AA 12 ad s.heap.size) s.heap H locs) (hl : lv_has ls 2 [(0, .ref (ad 0))]) : W p l e ({ frames := 5, cells := 0, slots := 0, locals := 112 } : Room) s m args below meth c H locs 0 0 (ZZ below args s (dC, dI) 12 ad (celM ad cA cZ) Q) (F0 m 0 ls []) := by
  obtain ⟨hx, hb, hml, hown, hts, hr, hlocks⟩ := C0
  have hD := wd_D (s := s) (cel := celM ad cA cZ) (σ := s0) hi
  unfold B_X11_takesWet_e at hv
  refine lv_iconst (v := 0) hx hb dX11_takesWet_0 (by decide) ?_
  refine lv_istore_n (lv' := [(1, .int 0), (0, .ref (ad 0))]) hx hb dX11_takesWet_1 rfl hl (by decide) rfl (fun ls hl => ?_)
  refine lv_aload_n hx hb dX11_takesWet_2 rfl (lv_at hl 1 rfl) ?_
  refine r_cv (va_runV (As := []) (rest := []) ⟨hx, hb, hml, hown, hts⟩ (c_X11_goBehind hi  s0 _ hv H.size) (cwV 0 hts gX11_takesWet_X11_goBehind rfl rfl rfl (by decide +kernel) ⟨Nat.le_of_ble_eq_true rfl, Nat.le_of_ble_eq_true rfl⟩) ⟨pre_blind, r_recv hK.1 hP 0 (by decide) (ceMo_0 (s0 0)) rfl, pre_of hP hK⟩ rfl rfl hl.1 rfl (lv_room (Nat.le_of_ble_eq_true rfl)) dX11_takesWet_3 ⟨Nat.zero_le _, Nat.zero_le _⟩) hS (fun s1 H locs hv hP hS => ?_)
  have hD := wd_D (s := s) (cel := celM ad cA cZ) (σ := s1) hi
  exact hY 6 [0] [] s1 hv _ _ rfl H locs ls hP hS (lv_sub hl [1, 0] rfl)
set_option maxHeartbeats 4000000 in
set_option maxRecDepth 100000 in
theorem w_X11_takesWet_6 {p : Program} {l : Launch} {e : Env} {s : State} {m : MethodId} {args : Array Value} {below : List Frame} {meth : Method} {c : Code} {dC : Nat → ClassId} {dI : Nat → Nat → Nat} {ad : Nat → Nat} {cA cZ : ClassId} (hi : Inj 12 ad)   (C0 : Cx cX11_takesWet RX11 wsX11_takesWet 2 (some .boolean) p s m args meth c) (hK : KK dC dI cA cZ s) (Q : Int32 → St → Prop) (Y : Nat → List Int32 → List Int64 → St → Prop) (hY : ∀ P xs ys σ, Y P xs ys σ → XX p l e ({ frames := 5, cells := 0, slots := 0, locals := 112 } : Room) s m args below meth c (dC, dI) 12 ad (celM ad cA cZ) 2 (ZZ below args s (dC, dI) 12 ad (celM ad cA cZ) Q) (lay_X11_takesWet ad ) P xs ys σ) (x1 : Int32) (s0 : St) (hv : B_X11_takesWet_6  Q Y x1 s0) {H : Heap} {locs : List Loc} {ls : Array Slot} (hP : va_P (dC, dI) vwCl (wd 12 ad (celM ad cA cZ) s0) H) (hS : va_S (AA 12 ad s.heap.size) s.heap H locs) (hl : lv_has ls 2 [(0, .ref (ad 0)), (1, .int x1)]) : W p l e ({ frames := 5, cells := 0, slots := 0, locals := 112 } : Room) s m args below meth c H locs 0 0 (ZZ below args s (dC, dI) 12 ad (celM ad cA cZ) Q) (F0 m 6 ls []) := by
  obtain ⟨hx, hb, hml, hown, hts, hr, hlocks⟩ := C0
  have hD := wd_D (s := s) (cel := celM ad cA cZ) (σ := s0) hi
  unfold B_X11_takesWet_6 at hv
  refine lv_iload_n hx hb dX11_takesWet_6 rfl (lv_at hl 1 rfl) ?_
  refine lv_if_eq (tgt := 18) hx hb dX11_takesWet_7 (by decide) (fun c7 => ?_) (fun c7 => ?_)
  · have hv := hv.1 c7
    exact hY 18 [x1] [] s0 hv _ _ rfl H locs ls hP hS (lv_sub hl [0, 1] rfl)
  · have hv := hv.2 c7
    refine lv_aload_n hx hb dX11_takesWet_10 rfl (lv_at hl 0 rfl) ?_
    refine r_get hx hb hts (iwX11_takesWet_X11) hown hK.1 hP 0 (by decide) (ceMo_0 (s0 0)) rfl 14 (by decide) (hts _ kX11_takesWet_1) (v := .int (s0 0 14)) rfl dX11_takesWet_11 ?_
    refine lv_iconst (v := 3) hx hb dX11_takesWet_14 (by decide) ?_
    refine lv_icmp_eq (tgt := 57) hx hb dX11_takesWet_15 (by decide) (fun c15 => ?_) (fun c15 => ?_)
    · have hv := hv.1 c15
      refine lv_iconst (v := 1) hx hb dX11_takesWet_57 (by decide) ?_
      exact r_zret hx hb hr hlocks (Or.inr rfl) hv hP hS dX11_takesWet_58
    · have hv := hv.2 c15
      exact hY 18 [x1] [] s0 hv _ _ rfl H locs ls hP hS (lv_sub hl [0, 1] rfl)
set_option maxHeartbeats 4000000 in
set_option maxRecDepth 100000 in
theorem w_X11_takesWet_18 {p : Program} {l : Launch} {e : Env} {s : State} {m : MethodId} {args : Array Value} {below : List Frame} {meth : Method} {c : Code} {dC : Nat → ClassId} {dI : Nat → Nat → Nat} {ad : Nat → Nat} {cA cZ : ClassId} (hi : Inj 12 ad)   (C0 : Cx cX11_takesWet RX11 wsX11_takesWet 2 (some .boolean) p s m args meth c) (hK : KK dC dI cA cZ s) (Q : Int32 → St → Prop) (Y : Nat → List Int32 → List Int64 → St → Prop) (hY : ∀ P xs ys σ, Y P xs ys σ → XX p l e ({ frames := 5, cells := 0, slots := 0, locals := 112 } : Room) s m args below meth c (dC, dI) 12 ad (celM ad cA cZ) 2 (ZZ below args s (dC, dI) 12 ad (celM ad cA cZ) Q) (lay_X11_takesWet ad ) P xs ys σ) (x1 : Int32) (s0 : St) (hv : B_X11_takesWet_18  Q Y x1 s0) {H : Heap} {locs : List Loc} {ls : Array Slot} (hP : va_P (dC, dI) vwCl (wd 12 ad (celM ad cA cZ) s0) H) (hS : va_S (AA 12 ad s.heap.size) s.heap H locs) (hl : lv_has ls 2 [(0, .ref (ad 0)), (1, .int x1)]) : W p l e ({ frames := 5, cells := 0, slots := 0, locals := 112 } : Room) s m args below meth c H locs 0 0 (ZZ below args s (dC, dI) 12 ad (celM ad cA cZ) Q) (F0 m 18 ls []) := by
  obtain ⟨hx, hb, hml, hown, hts, hr, hlocks⟩ := C0
  have hD := wd_D (s := s) (cel := celM ad cA cZ) (σ := s0) hi
  unfold B_X11_takesWet_18 at hv
  refine lv_iload_n hx hb dX11_takesWet_18 rfl (lv_at hl 1 rfl) ?_
  refine lv_bipush (v := 6) hx hb dX11_takesWet_19 (by decide) ?_
  refine lv_icmp_eq (tgt := 34) hx hb dX11_takesWet_21 (by decide) (fun c21 => ?_) (fun c21 => ?_)
  · have hv := hv.1 c21
    refine lv_iconst (v := 0) hx hb dX11_takesWet_34 (by decide) ?_
    exact r_zret hx hb hr hlocks (Or.inl rfl) hv hP hS dX11_takesWet_35
  · have hv := hv.2 c21
    refine lv_aload_n hx hb dX11_takesWet_24 rfl (lv_at hl 0 rfl) ?_
    refine lv_iconst (v := 0) hx hb dX11_takesWet_25 (by decide) ?_
    refine lv_iconst (v := 0) hx hb dX11_takesWet_26 (by decide) ?_
    refine lv_iconst (v := 4) hx hb dX11_takesWet_27 (by decide) ?_
    refine r_ci (va_runV (As := [.int 0, .int 0, .int 4]) (rest := []) ⟨hx, hb, hml, hown, hts⟩ (c_X11_takes hi 0 0 4 s0 _ hv H.size) (cwV 3 hts gX11_takesWet_X11_takes rfl rfl rfl (by decide +kernel) ⟨Nat.le_of_ble_eq_true rfl, Nat.le_of_ble_eq_true rfl⟩) ⟨pre_blind, r_recv hK.1 hP 0 (by decide) (ceMo_0 (s0 0)) rfl, pre_of hP hK⟩ rfl rfl hl.1 rfl (lv_room (Nat.le_of_ble_eq_true rfl)) dX11_takesWet_28 ⟨Nat.zero_le _, Nat.zero_le _⟩) hS (fun r1 s1 H locs hv hP hS => ?_)
    obtain ⟨hz_r1, hv⟩ := hv
    have hD := wd_D (s := s) (cel := celM ad cA cZ) (σ := s1) hi
    refine lv_if_ne (tgt := 36) hx hb dX11_takesWet_31 (by decide) (fun c31 => ?_) (fun c31 => ?_)
    · have hv := hv.1 c31
      refine lv_aload_n hx hb dX11_takesWet_36 rfl (lv_at hl 0 rfl) ?_
      refine r_get hx hb hts (iwX11_takesWet_X11) hown hK.1 hP 0 (by decide) (ceMo_0 (s1 0)) rfl 16 (by decide) (hts _ kX11_takesWet_2) (v := .ref (ad 10)) rfl dX11_takesWet_37 ?_
      refine lv_bipush (v := 16) hx hb dX11_takesWet_40 (by decide) ?_
      refine lv_iload_n hx hb dX11_takesWet_42 rfl (lv_at hl 1 rfl) ?_
      refine lv_iadd hx hb dX11_takesWet_43 ?_
      refine lv_aload_n hx hb dX11_takesWet_44 rfl (lv_at hl 0 rfl) ?_
      refine r_get hx hb hts (iwX11_takesWet_X11) hown hK.1 hP 0 (by decide) (ceMo_0 (s1 0)) rfl 17 (by decide) (hts _ kX11_takesWet_3) (v := .ref (ad 11)) rfl dX11_takesWet_45 ?_
      refine lv_iconst (v := 0) hx hb dX11_takesWet_48 (by decide) ?_
      refine r_iald hx hb hK.1 hP 11 (by decide) (ceMo_11 (s1 11)) (vp_in_of_dec (by decide)) dX11_takesWet_49 ?_
      obtain ⟨hin, hv⟩ := hv
      refine r_iast hx hb hK.1 hP hD hS 10 (by decide) (ceMo_10 (s1 10)) (ceMo_10 _) hin dX11_takesWet_50 (fun H locs s2 es2 hP hD hS => ?_)
      have hv := hv s2 es2
      refine lv_iinc (v := x1 + 1) (lv' := [(1, .int (x1 + 1)), (0, .ref (ad 0))]) hx hb dX11_takesWet_51 hl (k := 1) rfl rfl (by decide) rfl (fun ls hl => ?_)
      refine lv_goto (tgt := 6) hx hb dX11_takesWet_54 (by decide) ?_
      exact hY 6 [x1 + 1] [] s2 hv _ _ rfl H locs ls hP hS (lv_sub hl [1, 0] rfl)
    · have hv := hv.2 c31
      refine lv_iconst (v := 0) hx hb dX11_takesWet_34 (by decide) ?_
      exact r_zret hx hb hr hlocks (Or.inl rfl) hv hP hS dX11_takesWet_35
set_option maxHeartbeats 4000000 in
theorem y_X11_takesWet {p : Program} {l : Launch} {e : Env} {s : State} {m : MethodId} {args : Array Value} {below : List Frame} {meth : Method} {c : Code} {dC : Nat → ClassId} {dI : Nat → Nat → Nat} {ad : Nat → Nat} {cA cZ : ClassId} (hi : Inj 12 ad)   (C0 : Cx cX11_takesWet RX11 wsX11_takesWet 2 (some .boolean) p s m args meth c) (hK : KK dC dI cA cZ s) (Q : Int32 → St → Prop) : ∀ P xs ys σ, R_X11_takesWet  Q P xs ys σ → XX p l e ({ frames := 5, cells := 0, slots := 0, locals := 112 } : Room) s m args below meth c (dC, dI) 12 ad (celM ad cA cZ) 2 (ZZ below args s (dC, dI) 12 ad (celM ad cA cZ) Q) (lay_X11_takesWet ad ) P xs ys σ := by
  refine Fx.elim _ (fun P xs ys σ Y hY hB => ?_)
  rcases hB with ⟨rfl, x1, rfl, rfl, hB⟩ | ⟨rfl, x1, rfl, rfl, hB⟩
  · intro lv st he H locs ls hP hS hl
    cases he
    exact w_X11_takesWet_6 hi   C0 hK Q Y hY x1 σ hB hP hS hl
  · intro lv st he H locs ls hP hS hl
    cases he
    exact w_X11_takesWet_18 hi   C0 hK Q Y hY x1 σ hB hP hS hl
set_option maxHeartbeats 4000000 in
theorem c_X11_takesWet {l : Launch} {dC : Nat → ClassId} {dI : Nat → Nat → Nat} {ad : Nat → Nat} {cA cZ : ClassId} (hi : Inj 12 ad)   (s0 : St) (Q : Int32 → St → Prop) (hv : V_X11_takesWet  s0 Q) (sz : Nat) : Met l yX11_takesWet wsX11_takesWet ({ frames := 5, cells := 0, slots := 0, locals := 112 } : Room) (va_Pc [.ref (ad 0)] (PW dC dI ad cA cZ 12 (celM ad cA cZ) sz s0)) (va_Qi (fun r u => (r = 0 ∨ r = 1) ∧ Q r u) (fun u t => va_P (dC, dI) vwCl (wd 12 ad (celM ad cA cZ) u) t.heap) (AA 12 ad sz)) 0 0 (AA 12 ad sz) := by
  refine Met.ofW (cc := cX11_takesWet) (maxL := 2) (ret := (some .boolean)) (by decide) rfl ?_
  intro p e s m args below meth c s₁ B hml hv0
  obtain ⟨rfl, hsz, hP, hK⟩ := hv0
  subst hsz
  have C0 : Cx cX11_takesWet RX11 wsX11_takesWet 2 (some .boolean) p s m ([.ref (ad 0)] : List Value).toArray meth c := ⟨B.exec, B.bytes, hml, findClass_of_methodNamed B.named, atoms_spec (ws := wsX11_takesWet) B.pre, B.returns, B.notSynchronized⟩
  have hl := lv_entry ([.ref (ad 0)]) (n := 2) (Nat.le_of_ble_eq_true rfl)
  rw [lg_entry_eq]
  generalize (lg_sl ([.ref (ad 0)]) ++ List.replicate (2 - (lg_sl ([.ref (ad 0)])).length) Slot.unset).toArray = ls at hl ⊢
  have hl : lv_has ls 2 [(0, .ref (ad 0))] := hl
  exact w_X11_takesWet_e hi   C0 hK Q (R_X11_takesWet  Q) (y_X11_takesWet hi   C0 hK Q)  s0 hv hP va_S.rf hl
def lay_X11_takesGlove (ad : Nat → Nat)  : Nat → List Int32 → List Int64 → Option (List (Nat × Value) × List Value) := fun P xs ys => match P, xs, ys with
  | _, _, _ => none
set_option maxHeartbeats 4000000 in
set_option maxRecDepth 100000 in
theorem w_X11_takesGlove_e {p : Program} {l : Launch} {e : Env} {s : State} {m : MethodId} {args : Array Value} {below : List Frame} {meth : Method} {c : Code} {dC : Nat → ClassId} {dI : Nat → Nat → Nat} {ad : Nat → Nat} {cA cZ : ClassId} (hi : Inj 12 ad)   (C0 : Cx cX11_takesGlove RX11 wsX11_takesGlove 1 (some .boolean) p s m args meth c) (hK : KK dC dI cA cZ s) (Q : Int32 → St → Prop) (Y : Nat → List Int32 → List Int64 → St → Prop) (hY : ∀ P xs ys σ, Y P xs ys σ → XX p l e ({ frames := 5, cells := 0, slots := 0, locals := 112 } : Room) s m args below meth c (dC, dI) 12 ad (celM ad cA cZ) 1 (ZZ below args s (dC, dI) 12 ad (celM ad cA cZ) Q) (lay_X11_takesGlove ad ) P xs ys σ)  (s0 : St) (hv : B_X11_takesGlove_e  Q Y  s0) {H : Heap} {locs : List Loc} {ls : Array Slot} (hP : va_P (dC, dI) vwCl (wd 12 ad (celM ad cA cZ) s0) H) (hS : va_S (AA 12 ad s.heap.size) s.heap H locs) (hl : lv_has ls 1 [(0, .ref (ad 0))]) : W p l e ({ frames := 5, cells := 0, slots := 0, locals := 112 } : Room) s m args below meth c H locs 0 0 (ZZ below args s (dC, dI) 12 ad (celM ad cA cZ) Q) (F0 m 0 ls []) := by
  obtain ⟨hx, hb, hml, hown, hts, hr, hlocks⟩ := C0
  have hD := wd_D (s := s) (cel := celM ad cA cZ) (σ := s0) hi
  unfold B_X11_takesGlove_e at hv
  refine lv_aload_n hx hb dX11_takesGlove_0 rfl (lv_at hl 0 rfl) ?_
  refine r_get hx hb hts (iwX11_takesGlove_X11) hown hK.1 hP 0 (by decide) (ceMo_0 (s0 0)) rfl 16 (by decide) (hts _ kX11_takesGlove_1) (v := .ref (ad 10)) rfl dX11_takesGlove_1 ?_
  refine lv_iconst (v := 0) hx hb dX11_takesGlove_4 (by decide) ?_
  refine r_iald hx hb hK.1 hP 10 (by decide) (ceMo_10 (s0 10)) (vp_in_of_dec (by decide)) dX11_takesGlove_5 ?_
  refine lv_bipush (v := 7) hx hb dX11_takesGlove_6 (by decide) ?_
  refine lv_icmp_ne (tgt := 13) hx hb dX11_takesGlove_8 (by decide) (fun c8 => ?_) (fun c8 => ?_)
  · have hv := hv.1 c8
    refine lv_aload_n hx hb dX11_takesGlove_13 rfl (lv_at hl 0 rfl) ?_
    refine r_cv (va_runV (As := []) (rest := []) ⟨hx, hb, hml, hown, hts⟩ (c_X11_goBehind hi  s0 _ hv H.size) (cwV 0 hts gX11_takesGlove_X11_goBehind rfl rfl rfl (by decide +kernel) ⟨Nat.le_of_ble_eq_true rfl, Nat.le_of_ble_eq_true rfl⟩) ⟨pre_blind, r_recv hK.1 hP 0 (by decide) (ceMo_0 (s0 0)) rfl, pre_of hP hK⟩ rfl rfl hl.1 rfl (lv_room (Nat.le_of_ble_eq_true rfl)) dX11_takesGlove_14 ⟨Nat.zero_le _, Nat.zero_le _⟩) hS (fun s1 H locs hv hP hS => ?_)
    have hD := wd_D (s := s) (cel := celM ad cA cZ) (σ := s1) hi
    refine lv_aload_n hx hb dX11_takesGlove_17 rfl (lv_at hl 0 rfl) ?_
    refine lv_iconst (v := 0) hx hb dX11_takesGlove_18 (by decide) ?_
    refine lv_iconst (v := 0) hx hb dX11_takesGlove_19 (by decide) ?_
    refine lv_iconst (v := 5) hx hb dX11_takesGlove_20 (by decide) ?_
    refine r_ci (va_runV (As := [.int 0, .int 0, .int 5]) (rest := []) ⟨hx, hb, hml, hown, hts⟩ (c_X11_takes hi 0 0 5 s1 _ hv H.size) (cwV 3 hts gX11_takesGlove_X11_takes rfl rfl rfl (by decide +kernel) ⟨Nat.le_of_ble_eq_true rfl, Nat.le_of_ble_eq_true rfl⟩) ⟨pre_blind, r_recv hK.1 hP 0 (by decide) (ceMo_0 (s1 0)) rfl, pre_of hP hK⟩ rfl rfl hl.1 rfl (lv_room (Nat.le_of_ble_eq_true rfl)) dX11_takesGlove_21 ⟨Nat.zero_le _, Nat.zero_le _⟩) hS (fun r2 s2 H locs hv hP hS => ?_)
    obtain ⟨hz_r2, hv⟩ := hv
    have hD := wd_D (s := s) (cel := celM ad cA cZ) (σ := s2) hi
    refine lv_if_eq (tgt := 49) hx hb dX11_takesGlove_24 (by decide) (fun c24 => ?_) (fun c24 => ?_)
    · have hv := hv.1 c24
      refine lv_iconst (v := 0) hx hb dX11_takesGlove_49 (by decide) ?_
      exact r_zret hx hb hr hlocks (Or.inl rfl) hv hP hS dX11_takesGlove_50
    · have hv := hv.2 c24
      refine lv_aload_n hx hb dX11_takesGlove_27 rfl (lv_at hl 0 rfl) ?_
      refine lv_iconst (v := 1) hx hb dX11_takesGlove_28 (by decide) ?_
      refine lv_iconst (v := 1) hx hb dX11_takesGlove_29 (by decide) ?_
      refine lv_bipush (v := 9) hx hb dX11_takesGlove_30 (by decide) ?_
      refine r_ci (va_runV (As := [.int 1, .int 1, .int 9]) (rest := []) ⟨hx, hb, hml, hown, hts⟩ (c_X11_takes hi 1 1 9 s2 _ hv H.size) (cwV 3 hts gX11_takesGlove_X11_takes rfl rfl rfl (by decide +kernel) ⟨Nat.le_of_ble_eq_true rfl, Nat.le_of_ble_eq_true rfl⟩) ⟨pre_blind, r_recv hK.1 hP 0 (by decide) (ceMo_0 (s2 0)) rfl, pre_of hP hK⟩ rfl rfl hl.1 rfl (lv_room (Nat.le_of_ble_eq_true rfl)) dX11_takesGlove_32 ⟨Nat.zero_le _, Nat.zero_le _⟩) hS (fun r3 s3 H locs hv hP hS => ?_)
      obtain ⟨hz_r3, hv⟩ := hv
      have hD := wd_D (s := s) (cel := celM ad cA cZ) (σ := s3) hi
      refine lv_if_eq (tgt := 49) hx hb dX11_takesGlove_35 (by decide) (fun c35 => ?_) (fun c35 => ?_)
      · have hv := hv.1 c35
        refine lv_iconst (v := 0) hx hb dX11_takesGlove_49 (by decide) ?_
        exact r_zret hx hb hr hlocks (Or.inl rfl) hv hP hS dX11_takesGlove_50
      · have hv := hv.2 c35
        refine lv_aload_n hx hb dX11_takesGlove_38 rfl (lv_at hl 0 rfl) ?_
        refine lv_iconst (v := 2) hx hb dX11_takesGlove_39 (by decide) ?_
        refine lv_iconst (v := 0) hx hb dX11_takesGlove_40 (by decide) ?_
        refine lv_bipush (v := 23) hx hb dX11_takesGlove_41 (by decide) ?_
        refine r_ci (va_runV (As := [.int 2, .int 0, .int 23]) (rest := []) ⟨hx, hb, hml, hown, hts⟩ (c_X11_takes hi 2 0 23 s3 _ hv H.size) (cwV 3 hts gX11_takesGlove_X11_takes rfl rfl rfl (by decide +kernel) ⟨Nat.le_of_ble_eq_true rfl, Nat.le_of_ble_eq_true rfl⟩) ⟨pre_blind, r_recv hK.1 hP 0 (by decide) (ceMo_0 (s3 0)) rfl, pre_of hP hK⟩ rfl rfl hl.1 rfl (lv_room (Nat.le_of_ble_eq_true rfl)) dX11_takesGlove_43 ⟨Nat.zero_le _, Nat.zero_le _⟩) hS (fun r4 s4 H locs hv hP hS => ?_)
        obtain ⟨hz_r4, hv⟩ := hv
        have hD := wd_D (s := s) (cel := celM ad cA cZ) (σ := s4) hi
        refine lv_if_ne (tgt := 51) hx hb dX11_takesGlove_46 (by decide) (fun c46 => ?_) (fun c46 => ?_)
        · have hv := hv.1 c46
          refine lv_aload_n hx hb dX11_takesGlove_51 rfl (lv_at hl 0 rfl) ?_
          refine r_get hx hb hts (iwX11_takesGlove_X11) hown hK.1 hP 0 (by decide) (ceMo_0 (s4 0)) rfl 16 (by decide) (hts _ kX11_takesGlove_1) (v := .ref (ad 10)) rfl dX11_takesGlove_52 ?_
          refine lv_aload_n hx hb dX11_takesGlove_55 rfl (lv_at hl 0 rfl) ?_
          refine r_get hx hb hts (iwX11_takesGlove_X11) hown hK.1 hP 0 (by decide) (ceMo_0 (s4 0)) rfl 17 (by decide) (hts _ kX11_takesGlove_2) (v := .ref (ad 11)) rfl dX11_takesGlove_56 ?_
          refine lv_iconst (v := 0) hx hb dX11_takesGlove_59 (by decide) ?_
          refine r_iald hx hb hK.1 hP 11 (by decide) (ceMo_11 (s4 11)) (vp_in_of_dec (by decide)) dX11_takesGlove_60 ?_
          refine lv_aload_n hx hb dX11_takesGlove_61 rfl (lv_at hl 0 rfl) ?_
          refine r_get hx hb hts (iwX11_takesGlove_X11) hown hK.1 hP 0 (by decide) (ceMo_0 (s4 0)) rfl 17 (by decide) (hts _ kX11_takesGlove_2) (v := .ref (ad 11)) rfl dX11_takesGlove_62 ?_
          refine lv_iconst (v := 1) hx hb dX11_takesGlove_65 (by decide) ?_
          refine r_iald hx hb hK.1 hP 11 (by decide) (ceMo_11 (s4 11)) (vp_in_of_dec (by decide)) dX11_takesGlove_66 ?_
          refine lv_aload_n hx hb dX11_takesGlove_67 rfl (lv_at hl 0 rfl) ?_
          refine r_get hx hb hts (iwX11_takesGlove_X11) hown hK.1 hP 0 (by decide) (ceMo_0 (s4 0)) rfl 17 (by decide) (hts _ kX11_takesGlove_2) (v := .ref (ad 11)) rfl dX11_takesGlove_68 ?_
          refine lv_iconst (v := 2) hx hb dX11_takesGlove_71 (by decide) ?_
          refine r_iald hx hb hK.1 hP 11 (by decide) (ceMo_11 (s4 11)) (vp_in_of_dec (by decide)) dX11_takesGlove_72 ?_
          refine r_cv (va_runS (As := [.ref (ad 10), .int (s4 11 0), .int (s4 11 1), .int (s4 11 2)]) (rest := []) ⟨hx, hb, hml, hown, hts⟩ (c_X11_layGlove hi 10 101 (s4 11 0) (s4 11 1) (s4 11 2) arM_10 s4 _ hv H.size) (va_cwS 4 hts gX11_takesGlove_X11_layGlove rfl rfl rfl (by decide +kernel) ⟨Nat.le_of_ble_eq_true rfl, Nat.le_of_ble_eq_true rfl⟩) ⟨pre_blind, pre_of hP hK⟩ rfl rfl hl.1 rfl (lv_room (Nat.le_of_ble_eq_true rfl)) dX11_takesGlove_73 ⟨Nat.zero_le _, Nat.zero_le _⟩) hS (fun s5 H locs hv hP hS => ?_)
          have hD := wd_D (s := s) (cel := celM ad cA cZ) (σ := s5) hi
          refine lv_iconst (v := 1) hx hb dX11_takesGlove_76 (by decide) ?_
          exact r_zret hx hb hr hlocks (Or.inr rfl) hv hP hS dX11_takesGlove_77
        · have hv := hv.2 c46
          refine lv_iconst (v := 0) hx hb dX11_takesGlove_49 (by decide) ?_
          exact r_zret hx hb hr hlocks (Or.inl rfl) hv hP hS dX11_takesGlove_50
  · have hv := hv.2 c8
    refine lv_iconst (v := 0) hx hb dX11_takesGlove_11 (by decide) ?_
    exact r_zret hx hb hr hlocks (Or.inl rfl) hv hP hS dX11_takesGlove_12
set_option maxHeartbeats 4000000 in
theorem y_X11_takesGlove {p : Program} {l : Launch} {e : Env} {s : State} {m : MethodId} {args : Array Value} {below : List Frame} {meth : Method} {c : Code} {dC : Nat → ClassId} {dI : Nat → Nat → Nat} {ad : Nat → Nat} {cA cZ : ClassId} (hi : Inj 12 ad)   (C0 : Cx cX11_takesGlove RX11 wsX11_takesGlove 1 (some .boolean) p s m args meth c) (hK : KK dC dI cA cZ s) (Q : Int32 → St → Prop) : ∀ P xs ys σ, R_X11_takesGlove  Q P xs ys σ → XX p l e ({ frames := 5, cells := 0, slots := 0, locals := 112 } : Room) s m args below meth c (dC, dI) 12 ad (celM ad cA cZ) 1 (ZZ below args s (dC, dI) 12 ad (celM ad cA cZ) Q) (lay_X11_takesGlove ad ) P xs ys σ := by
  refine Fx.elim _ (fun P xs ys σ Y hY hB => ?_)
  exact hB.elim
set_option maxHeartbeats 4000000 in
theorem c_X11_takesGlove {l : Launch} {dC : Nat → ClassId} {dI : Nat → Nat → Nat} {ad : Nat → Nat} {cA cZ : ClassId} (hi : Inj 12 ad)   (s0 : St) (Q : Int32 → St → Prop) (hv : V_X11_takesGlove  s0 Q) (sz : Nat) : Met l yX11_takesGlove wsX11_takesGlove ({ frames := 5, cells := 0, slots := 0, locals := 112 } : Room) (va_Pc [.ref (ad 0)] (PW dC dI ad cA cZ 12 (celM ad cA cZ) sz s0)) (va_Qi (fun r u => (r = 0 ∨ r = 1) ∧ Q r u) (fun u t => va_P (dC, dI) vwCl (wd 12 ad (celM ad cA cZ) u) t.heap) (AA 12 ad sz)) 0 0 (AA 12 ad sz) := by
  refine Met.ofW (cc := cX11_takesGlove) (maxL := 1) (ret := (some .boolean)) (by decide) rfl ?_
  intro p e s m args below meth c s₁ B hml hv0
  obtain ⟨rfl, hsz, hP, hK⟩ := hv0
  subst hsz
  have C0 : Cx cX11_takesGlove RX11 wsX11_takesGlove 1 (some .boolean) p s m ([.ref (ad 0)] : List Value).toArray meth c := ⟨B.exec, B.bytes, hml, findClass_of_methodNamed B.named, atoms_spec (ws := wsX11_takesGlove) B.pre, B.returns, B.notSynchronized⟩
  have hl := lv_entry ([.ref (ad 0)]) (n := 1) (Nat.le_of_ble_eq_true rfl)
  rw [lg_entry_eq]
  generalize (lg_sl ([.ref (ad 0)]) ++ List.replicate (1 - (lg_sl ([.ref (ad 0)])).length) Slot.unset).toArray = ls at hl ⊢
  have hl : lv_has ls 1 [(0, .ref (ad 0))] := hl
  exact w_X11_takesGlove_e hi   C0 hK Q (R_X11_takesGlove  Q) (y_X11_takesGlove hi   C0 hK Q)  s0 hv hP va_S.rf hl
def lay_X11_takesCrossing (ad : Nat → Nat)  : Nat → List Int32 → List Int64 → Option (List (Nat × Value) × List Value) := fun P xs ys => match P, xs, ys with
  | _, _, _ => none
set_option maxHeartbeats 4000000 in
set_option maxRecDepth 100000 in
theorem w_X11_takesCrossing_e {p : Program} {l : Launch} {e : Env} {s : State} {m : MethodId} {args : Array Value} {below : List Frame} {meth : Method} {c : Code} {dC : Nat → ClassId} {dI : Nat → Nat → Nat} {ad : Nat → Nat} {cA cZ : ClassId} (hi : Inj 12 ad)   (C0 : Cx cX11_takesCrossing RX11 wsX11_takesCrossing 1 (some .boolean) p s m args meth c) (hK : KK dC dI cA cZ s) (Q : Int32 → St → Prop) (Y : Nat → List Int32 → List Int64 → St → Prop) (hY : ∀ P xs ys σ, Y P xs ys σ → XX p l e ({ frames := 5, cells := 0, slots := 0, locals := 112 } : Room) s m args below meth c (dC, dI) 12 ad (celM ad cA cZ) 1 (ZZ below args s (dC, dI) 12 ad (celM ad cA cZ) Q) (lay_X11_takesCrossing ad ) P xs ys σ)  (s0 : St) (hv : B_X11_takesCrossing_e  Q Y  s0) {H : Heap} {locs : List Loc} {ls : Array Slot} (hP : va_P (dC, dI) vwCl (wd 12 ad (celM ad cA cZ) s0) H) (hS : va_S (AA 12 ad s.heap.size) s.heap H locs) (hl : lv_has ls 1 [(0, .ref (ad 0))]) : W p l e ({ frames := 5, cells := 0, slots := 0, locals := 112 } : Room) s m args below meth c H locs 0 0 (ZZ below args s (dC, dI) 12 ad (celM ad cA cZ) Q) (F0 m 0 ls []) := by
  obtain ⟨hx, hb, hml, hown, hts, hr, hlocks⟩ := C0
  have hD := wd_D (s := s) (cel := celM ad cA cZ) (σ := s0) hi
  unfold B_X11_takesCrossing_e at hv
  refine lv_aload_n hx hb dX11_takesCrossing_0 rfl (lv_at hl 0 rfl) ?_
  refine r_get hx hb hts (iwX11_takesCrossing_X11) hown hK.1 hP 0 (by decide) (ceMo_0 (s0 0)) rfl 16 (by decide) (hts _ kX11_takesCrossing_1) (v := .ref (ad 10)) rfl dX11_takesCrossing_1 ?_
  refine lv_iconst (v := 1) hx hb dX11_takesCrossing_4 (by decide) ?_
  refine r_iald hx hb hK.1 hP 10 (by decide) (ceMo_10 (s0 10)) (vp_in_of_dec (by decide)) dX11_takesCrossing_5 ?_
  refine lv_iconst (v := 3) hx hb dX11_takesCrossing_6 (by decide) ?_
  refine lv_icmp_ne (tgt := 12) hx hb dX11_takesCrossing_7 (by decide) (fun c7 => ?_) (fun c7 => ?_)
  · have hv := hv.1 c7
    refine lv_aload_n hx hb dX11_takesCrossing_12 rfl (lv_at hl 0 rfl) ?_
    refine r_cv (va_runV (As := []) (rest := []) ⟨hx, hb, hml, hown, hts⟩ (c_X11_goBehind hi  s0 _ hv H.size) (cwV 0 hts gX11_takesCrossing_X11_goBehind rfl rfl rfl (by decide +kernel) ⟨Nat.le_of_ble_eq_true rfl, Nat.le_of_ble_eq_true rfl⟩) ⟨pre_blind, r_recv hK.1 hP 0 (by decide) (ceMo_0 (s0 0)) rfl, pre_of hP hK⟩ rfl rfl hl.1 rfl (lv_room (Nat.le_of_ble_eq_true rfl)) dX11_takesCrossing_13 ⟨Nat.zero_le _, Nat.zero_le _⟩) hS (fun s1 H locs hv hP hS => ?_)
    have hD := wd_D (s := s) (cel := celM ad cA cZ) (σ := s1) hi
    refine lv_aload_n hx hb dX11_takesCrossing_16 rfl (lv_at hl 0 rfl) ?_
    refine lv_iconst (v := 0) hx hb dX11_takesCrossing_17 (by decide) ?_
    refine lv_iconst (v := 0) hx hb dX11_takesCrossing_18 (by decide) ?_
    refine lv_iconst (v := 5) hx hb dX11_takesCrossing_19 (by decide) ?_
    refine r_ci (va_runV (As := [.int 0, .int 0, .int 5]) (rest := []) ⟨hx, hb, hml, hown, hts⟩ (c_X11_takes hi 0 0 5 s1 _ hv H.size) (cwV 3 hts gX11_takesCrossing_X11_takes rfl rfl rfl (by decide +kernel) ⟨Nat.le_of_ble_eq_true rfl, Nat.le_of_ble_eq_true rfl⟩) ⟨pre_blind, r_recv hK.1 hP 0 (by decide) (ceMo_0 (s1 0)) rfl, pre_of hP hK⟩ rfl rfl hl.1 rfl (lv_room (Nat.le_of_ble_eq_true rfl)) dX11_takesCrossing_20 ⟨Nat.zero_le _, Nat.zero_le _⟩) hS (fun r2 s2 H locs hv hP hS => ?_)
    obtain ⟨hz_r2, hv⟩ := hv
    have hD := wd_D (s := s) (cel := celM ad cA cZ) (σ := s2) hi
    refine lv_if_eq (tgt := 60) hx hb dX11_takesCrossing_23 (by decide) (fun c23 => ?_) (fun c23 => ?_)
    · have hv := hv.1 c23
      refine lv_iconst (v := 0) hx hb dX11_takesCrossing_60 (by decide) ?_
      exact r_zret hx hb hr hlocks (Or.inl rfl) hv hP hS dX11_takesCrossing_61
    · have hv := hv.2 c23
      refine lv_aload_n hx hb dX11_takesCrossing_26 rfl (lv_at hl 0 rfl) ?_
      refine r_get hx hb hts (iwX11_takesCrossing_X11) hown hK.1 hP 0 (by decide) (ceMo_0 (s2 0)) rfl 14 (by decide) (hts _ kX11_takesCrossing_2) (v := .int (s2 0 14)) rfl dX11_takesCrossing_27 ?_
      refine lv_iconst (v := 2) hx hb dX11_takesCrossing_30 (by decide) ?_
      refine lv_icmp_ne (tgt := 60) hx hb dX11_takesCrossing_31 (by decide) (fun c31 => ?_) (fun c31 => ?_)
      · have hv := hv.1 c31
        refine lv_iconst (v := 0) hx hb dX11_takesCrossing_60 (by decide) ?_
        exact r_zret hx hb hr hlocks (Or.inl rfl) hv hP hS dX11_takesCrossing_61
      · have hv := hv.2 c31
        refine lv_aload_n hx hb dX11_takesCrossing_34 rfl (lv_at hl 0 rfl) ?_
        refine r_get hx hb hts (iwX11_takesCrossing_X11) hown hK.1 hP 0 (by decide) (ceMo_0 (s2 0)) rfl 16 (by decide) (hts _ kX11_takesCrossing_1) (v := .ref (ad 10)) rfl dX11_takesCrossing_35 ?_
        refine lv_aload_n hx hb dX11_takesCrossing_38 rfl (lv_at hl 0 rfl) ?_
        refine r_get hx hb hts (iwX11_takesCrossing_X11) hown hK.1 hP 0 (by decide) (ceMo_0 (s2 0)) rfl 15 (by decide) (hts _ kX11_takesCrossing_3) (v := .int (s2 0 15)) rfl dX11_takesCrossing_39 ?_
        refine r_ci (va_runS (As := [.ref (ad 10), .int (s2 0 15)]) (rest := []) ⟨hx, hb, hml, hown, hts⟩ (c_X11_behind hi 10 101 (s2 0 15) arM_10 s2 _ hv H.size) (va_cwS 2 hts gX11_takesCrossing_X11_behind rfl rfl rfl (by decide +kernel) ⟨Nat.le_of_ble_eq_true rfl, Nat.le_of_ble_eq_true rfl⟩) ⟨pre_blind, pre_of hP hK⟩ rfl rfl hl.1 rfl (lv_room (Nat.le_of_ble_eq_true rfl)) dX11_takesCrossing_42 ⟨Nat.zero_le _, Nat.zero_le _⟩) hS (fun r3 s3 H locs hv hP hS => ?_)
        have hD := wd_D (s := s) (cel := celM ad cA cZ) (σ := s3) hi
        refine lv_iconst (v := (-1)) hx hb dX11_takesCrossing_45 (by decide) ?_
        refine lv_icmp_ne (tgt := 60) hx hb dX11_takesCrossing_46 (by decide) (fun c46 => ?_) (fun c46 => ?_)
        · have hv := hv.1 c46
          refine lv_iconst (v := 0) hx hb dX11_takesCrossing_60 (by decide) ?_
          exact r_zret hx hb hr hlocks (Or.inl rfl) hv hP hS dX11_takesCrossing_61
        · have hv := hv.2 c46
          refine lv_aload_n hx hb dX11_takesCrossing_49 rfl (lv_at hl 0 rfl) ?_
          refine lv_iconst (v := 1) hx hb dX11_takesCrossing_50 (by decide) ?_
          refine lv_iconst (v := 0) hx hb dX11_takesCrossing_51 (by decide) ?_
          refine lv_bipush (v := 22) hx hb dX11_takesCrossing_52 (by decide) ?_
          refine r_ci (va_runV (As := [.int 1, .int 0, .int 22]) (rest := []) ⟨hx, hb, hml, hown, hts⟩ (c_X11_takes hi 1 0 22 s3 _ hv H.size) (cwV 3 hts gX11_takesCrossing_X11_takes rfl rfl rfl (by decide +kernel) ⟨Nat.le_of_ble_eq_true rfl, Nat.le_of_ble_eq_true rfl⟩) ⟨pre_blind, r_recv hK.1 hP 0 (by decide) (ceMo_0 (s3 0)) rfl, pre_of hP hK⟩ rfl rfl hl.1 rfl (lv_room (Nat.le_of_ble_eq_true rfl)) dX11_takesCrossing_54 ⟨Nat.zero_le _, Nat.zero_le _⟩) hS (fun r4 s4 H locs hv hP hS => ?_)
          obtain ⟨hz_r4, hv⟩ := hv
          have hD := wd_D (s := s) (cel := celM ad cA cZ) (σ := s4) hi
          refine lv_if_ne (tgt := 62) hx hb dX11_takesCrossing_57 (by decide) (fun c57 => ?_) (fun c57 => ?_)
          · have hv := hv.1 c57
            refine lv_aload_n hx hb dX11_takesCrossing_62 rfl (lv_at hl 0 rfl) ?_
            refine r_get hx hb hts (iwX11_takesCrossing_X11) hown hK.1 hP 0 (by decide) (ceMo_0 (s4 0)) rfl 16 (by decide) (hts _ kX11_takesCrossing_1) (v := .ref (ad 10)) rfl dX11_takesCrossing_63 ?_
            refine lv_aload_n hx hb dX11_takesCrossing_66 rfl (lv_at hl 0 rfl) ?_
            refine r_get hx hb hts (iwX11_takesCrossing_X11) hown hK.1 hP 0 (by decide) (ceMo_0 (s4 0)) rfl 17 (by decide) (hts _ kX11_takesCrossing_4) (v := .ref (ad 11)) rfl dX11_takesCrossing_67 ?_
            refine lv_iconst (v := 0) hx hb dX11_takesCrossing_70 (by decide) ?_
            refine r_iald hx hb hK.1 hP 11 (by decide) (ceMo_11 (s4 11)) (vp_in_of_dec (by decide)) dX11_takesCrossing_71 ?_
            refine lv_aload_n hx hb dX11_takesCrossing_72 rfl (lv_at hl 0 rfl) ?_
            refine r_get hx hb hts (iwX11_takesCrossing_X11) hown hK.1 hP 0 (by decide) (ceMo_0 (s4 0)) rfl 17 (by decide) (hts _ kX11_takesCrossing_4) (v := .ref (ad 11)) rfl dX11_takesCrossing_73 ?_
            refine lv_iconst (v := 1) hx hb dX11_takesCrossing_76 (by decide) ?_
            refine r_iald hx hb hK.1 hP 11 (by decide) (ceMo_11 (s4 11)) (vp_in_of_dec (by decide)) dX11_takesCrossing_77 ?_
            refine r_cv (va_runS (As := [.ref (ad 10), .int (s4 11 0), .int (s4 11 1)]) (rest := []) ⟨hx, hb, hml, hown, hts⟩ (c_X11_layCrossing hi 10 101 (s4 11 0) (s4 11 1) arM_10 s4 _ hv H.size) (va_cwS 3 hts gX11_takesCrossing_X11_layCrossing rfl rfl rfl (by decide +kernel) ⟨Nat.le_of_ble_eq_true rfl, Nat.le_of_ble_eq_true rfl⟩) ⟨pre_blind, pre_of hP hK⟩ rfl rfl hl.1 rfl (lv_room (Nat.le_of_ble_eq_true rfl)) dX11_takesCrossing_78 ⟨Nat.zero_le _, Nat.zero_le _⟩) hS (fun s5 H locs hv hP hS => ?_)
            have hD := wd_D (s := s) (cel := celM ad cA cZ) (σ := s5) hi
            refine lv_iconst (v := 1) hx hb dX11_takesCrossing_81 (by decide) ?_
            exact r_zret hx hb hr hlocks (Or.inr rfl) hv hP hS dX11_takesCrossing_82
          · have hv := hv.2 c57
            refine lv_iconst (v := 0) hx hb dX11_takesCrossing_60 (by decide) ?_
            exact r_zret hx hb hr hlocks (Or.inl rfl) hv hP hS dX11_takesCrossing_61
  · have hv := hv.2 c7
    refine lv_iconst (v := 0) hx hb dX11_takesCrossing_10 (by decide) ?_
    exact r_zret hx hb hr hlocks (Or.inl rfl) hv hP hS dX11_takesCrossing_11
set_option maxHeartbeats 4000000 in
theorem y_X11_takesCrossing {p : Program} {l : Launch} {e : Env} {s : State} {m : MethodId} {args : Array Value} {below : List Frame} {meth : Method} {c : Code} {dC : Nat → ClassId} {dI : Nat → Nat → Nat} {ad : Nat → Nat} {cA cZ : ClassId} (hi : Inj 12 ad)   (C0 : Cx cX11_takesCrossing RX11 wsX11_takesCrossing 1 (some .boolean) p s m args meth c) (hK : KK dC dI cA cZ s) (Q : Int32 → St → Prop) : ∀ P xs ys σ, R_X11_takesCrossing  Q P xs ys σ → XX p l e ({ frames := 5, cells := 0, slots := 0, locals := 112 } : Room) s m args below meth c (dC, dI) 12 ad (celM ad cA cZ) 1 (ZZ below args s (dC, dI) 12 ad (celM ad cA cZ) Q) (lay_X11_takesCrossing ad ) P xs ys σ := by
  refine Fx.elim _ (fun P xs ys σ Y hY hB => ?_)
  exact hB.elim
set_option maxHeartbeats 4000000 in
theorem c_X11_takesCrossing {l : Launch} {dC : Nat → ClassId} {dI : Nat → Nat → Nat} {ad : Nat → Nat} {cA cZ : ClassId} (hi : Inj 12 ad)   (s0 : St) (Q : Int32 → St → Prop) (hv : V_X11_takesCrossing  s0 Q) (sz : Nat) : Met l yX11_takesCrossing wsX11_takesCrossing ({ frames := 5, cells := 0, slots := 0, locals := 112 } : Room) (va_Pc [.ref (ad 0)] (PW dC dI ad cA cZ 12 (celM ad cA cZ) sz s0)) (va_Qi (fun r u => (r = 0 ∨ r = 1) ∧ Q r u) (fun u t => va_P (dC, dI) vwCl (wd 12 ad (celM ad cA cZ) u) t.heap) (AA 12 ad sz)) 0 0 (AA 12 ad sz) := by
  refine Met.ofW (cc := cX11_takesCrossing) (maxL := 1) (ret := (some .boolean)) (by decide) rfl ?_
  intro p e s m args below meth c s₁ B hml hv0
  obtain ⟨rfl, hsz, hP, hK⟩ := hv0
  subst hsz
  have C0 : Cx cX11_takesCrossing RX11 wsX11_takesCrossing 1 (some .boolean) p s m ([.ref (ad 0)] : List Value).toArray meth c := ⟨B.exec, B.bytes, hml, findClass_of_methodNamed B.named, atoms_spec (ws := wsX11_takesCrossing) B.pre, B.returns, B.notSynchronized⟩
  have hl := lv_entry ([.ref (ad 0)]) (n := 1) (Nat.le_of_ble_eq_true rfl)
  rw [lg_entry_eq]
  generalize (lg_sl ([.ref (ad 0)]) ++ List.replicate (1 - (lg_sl ([.ref (ad 0)])).length) Slot.unset).toArray = ls at hl ⊢
  have hl : lv_has ls 1 [(0, .ref (ad 0))] := hl
  exact w_X11_takesCrossing_e hi   C0 hK Q (R_X11_takesCrossing  Q) (y_X11_takesCrossing hi   C0 hK Q)  s0 hv hP va_S.rf hl
def lay_X11_takesShut (ad : Nat → Nat)  : Nat → List Int32 → List Int64 → Option (List (Nat × Value) × List Value) := fun P xs ys => match P, xs, ys with
  | _, _, _ => none
set_option maxHeartbeats 4000000 in
set_option maxRecDepth 100000 in
theorem w_X11_takesShut_e {p : Program} {l : Launch} {e : Env} {s : State} {m : MethodId} {args : Array Value} {below : List Frame} {meth : Method} {c : Code} {dC : Nat → ClassId} {dI : Nat → Nat → Nat} {ad : Nat → Nat} {cA cZ : ClassId} (hi : Inj 12 ad)   (C0 : Cx cX11_takesShut RX11 wsX11_takesShut 1 (some .boolean) p s m args meth c) (hK : KK dC dI cA cZ s) (Q : Int32 → St → Prop) (Y : Nat → List Int32 → List Int64 → St → Prop) (hY : ∀ P xs ys σ, Y P xs ys σ → XX p l e ({ frames := 5, cells := 0, slots := 0, locals := 112 } : Room) s m args below meth c (dC, dI) 12 ad (celM ad cA cZ) 1 (ZZ below args s (dC, dI) 12 ad (celM ad cA cZ) Q) (lay_X11_takesShut ad ) P xs ys σ)  (s0 : St) (hv : B_X11_takesShut_e  Q Y  s0) {H : Heap} {locs : List Loc} {ls : Array Slot} (hP : va_P (dC, dI) vwCl (wd 12 ad (celM ad cA cZ) s0) H) (hS : va_S (AA 12 ad s.heap.size) s.heap H locs) (hl : lv_has ls 1 [(0, .ref (ad 0))]) : W p l e ({ frames := 5, cells := 0, slots := 0, locals := 112 } : Room) s m args below meth c H locs 0 0 (ZZ below args s (dC, dI) 12 ad (celM ad cA cZ) Q) (F0 m 0 ls []) := by
  obtain ⟨hx, hb, hml, hown, hts, hr, hlocks⟩ := C0
  have hD := wd_D (s := s) (cel := celM ad cA cZ) (σ := s0) hi
  unfold B_X11_takesShut_e at hv
  refine lv_aload_n hx hb dX11_takesShut_0 rfl (lv_at hl 0 rfl) ?_
  refine r_cv (va_runV (As := []) (rest := []) ⟨hx, hb, hml, hown, hts⟩ (c_X11_goBehind hi  s0 _ hv H.size) (cwV 0 hts gX11_takesShut_X11_goBehind rfl rfl rfl (by decide +kernel) ⟨Nat.le_of_ble_eq_true rfl, Nat.le_of_ble_eq_true rfl⟩) ⟨pre_blind, r_recv hK.1 hP 0 (by decide) (ceMo_0 (s0 0)) rfl, pre_of hP hK⟩ rfl rfl hl.1 rfl (lv_room (Nat.le_of_ble_eq_true rfl)) dX11_takesShut_1 ⟨Nat.zero_le _, Nat.zero_le _⟩) hS (fun s1 H locs hv hP hS => ?_)
  have hD := wd_D (s := s) (cel := celM ad cA cZ) (σ := s1) hi
  refine lv_aload_n hx hb dX11_takesShut_4 rfl (lv_at hl 0 rfl) ?_
  refine lv_iconst (v := 0) hx hb dX11_takesShut_5 (by decide) ?_
  refine lv_iconst (v := 0) hx hb dX11_takesShut_6 (by decide) ?_
  refine lv_aload_n hx hb dX11_takesShut_7 rfl (lv_at hl 0 rfl) ?_
  refine r_get hx hb hts (iwX11_takesShut_X11) hown hK.1 hP 0 (by decide) (ceMo_0 (s1 0)) rfl 16 (by decide) (hts _ kX11_takesShut_1) (v := .ref (ad 10)) rfl dX11_takesShut_8 ?_
  refine lv_iconst (v := 1) hx hb dX11_takesShut_11 (by decide) ?_
  refine r_iald hx hb hK.1 hP 10 (by decide) (ceMo_10 (s1 10)) (vp_in_of_dec (by decide)) dX11_takesShut_12 ?_
  refine lv_iconst (v := 1) hx hb dX11_takesShut_13 (by decide) ?_
  refine lv_isub hx hb dX11_takesShut_14 ?_
  refine r_ci (va_runV (As := [.int 0, .int 0, .int ((s1 10 1) - 1)]) (rest := []) ⟨hx, hb, hml, hown, hts⟩ (c_X11_takes hi 0 0 ((s1 10 1) - 1) s1 _ hv H.size) (cwV 3 hts gX11_takesShut_X11_takes rfl rfl rfl (by decide +kernel) ⟨Nat.le_of_ble_eq_true rfl, Nat.le_of_ble_eq_true rfl⟩) ⟨pre_blind, r_recv hK.1 hP 0 (by decide) (ceMo_0 (s1 0)) rfl, pre_of hP hK⟩ rfl rfl hl.1 rfl (lv_room (Nat.le_of_ble_eq_true rfl)) dX11_takesShut_15 ⟨Nat.zero_le _, Nat.zero_le _⟩) hS (fun r2 s2 H locs hv hP hS => ?_)
  obtain ⟨hz_r2, hv⟩ := hv
  have hD := wd_D (s := s) (cel := celM ad cA cZ) (σ := s2) hi
  refine lv_if_ne (tgt := 23) hx hb dX11_takesShut_18 (by decide) (fun c18 => ?_) (fun c18 => ?_)
  · have hv := hv.1 c18
    refine lv_aload_n hx hb dX11_takesShut_23 rfl (lv_at hl 0 rfl) ?_
    refine r_get hx hb hts (iwX11_takesShut_X11) hown hK.1 hP 0 (by decide) (ceMo_0 (s2 0)) rfl 16 (by decide) (hts _ kX11_takesShut_1) (v := .ref (ad 10)) rfl dX11_takesShut_24 ?_
    refine lv_bipush (v := 14) hx hb dX11_takesShut_27 (by decide) ?_
    refine lv_dup2_11 hx hb dX11_takesShut_29 rfl rfl ?_
    refine r_iald hx hb hK.1 hP 10 (by decide) (ceMo_10 (s2 10)) (vp_in_of_dec (by decide)) dX11_takesShut_30 ?_
    refine lv_iconst (v := 1) hx hb dX11_takesShut_31 (by decide) ?_
    refine lv_aload_n hx hb dX11_takesShut_32 rfl (lv_at hl 0 rfl) ?_
    refine r_get hx hb hts (iwX11_takesShut_X11) hown hK.1 hP 0 (by decide) (ceMo_0 (s2 0)) rfl 17 (by decide) (hts _ kX11_takesShut_2) (v := .ref (ad 11)) rfl dX11_takesShut_33 ?_
    refine lv_iconst (v := 0) hx hb dX11_takesShut_36 (by decide) ?_
    refine r_iald hx hb hK.1 hP 11 (by decide) (ceMo_11 (s2 11)) (vp_in_of_dec (by decide)) dX11_takesShut_37 ?_
    refine lv_ishl hx hb dX11_takesShut_38 ?_
    refine lv_ixor hx hb dX11_takesShut_39 ?_
    refine r_iast hx hb hK.1 hP hD hS 10 (by decide) (ceMo_10 (s2 10)) (ceMo_10 _) (vp_in_of_dec (by decide)) dX11_takesShut_40 (fun H locs s3 es3 hP hD hS => ?_)
    have hv := hv s3 es3
    refine lv_iconst (v := 1) hx hb dX11_takesShut_41 (by decide) ?_
    exact r_zret hx hb hr hlocks (Or.inr rfl) hv hP hS dX11_takesShut_42
  · have hv := hv.2 c18
    refine lv_iconst (v := 0) hx hb dX11_takesShut_21 (by decide) ?_
    exact r_zret hx hb hr hlocks (Or.inl rfl) hv hP hS dX11_takesShut_22
set_option maxHeartbeats 4000000 in
theorem y_X11_takesShut {p : Program} {l : Launch} {e : Env} {s : State} {m : MethodId} {args : Array Value} {below : List Frame} {meth : Method} {c : Code} {dC : Nat → ClassId} {dI : Nat → Nat → Nat} {ad : Nat → Nat} {cA cZ : ClassId} (hi : Inj 12 ad)   (C0 : Cx cX11_takesShut RX11 wsX11_takesShut 1 (some .boolean) p s m args meth c) (hK : KK dC dI cA cZ s) (Q : Int32 → St → Prop) : ∀ P xs ys σ, R_X11_takesShut  Q P xs ys σ → XX p l e ({ frames := 5, cells := 0, slots := 0, locals := 112 } : Room) s m args below meth c (dC, dI) 12 ad (celM ad cA cZ) 1 (ZZ below args s (dC, dI) 12 ad (celM ad cA cZ) Q) (lay_X11_takesShut ad ) P xs ys σ := by
  refine Fx.elim _ (fun P xs ys σ Y hY hB => ?_)
  exact hB.elim
set_option maxHeartbeats 4000000 in
theorem c_X11_takesShut {l : Launch} {dC : Nat → ClassId} {dI : Nat → Nat → Nat} {ad : Nat → Nat} {cA cZ : ClassId} (hi : Inj 12 ad)   (s0 : St) (Q : Int32 → St → Prop) (hv : V_X11_takesShut  s0 Q) (sz : Nat) : Met l yX11_takesShut wsX11_takesShut ({ frames := 5, cells := 0, slots := 0, locals := 112 } : Room) (va_Pc [.ref (ad 0)] (PW dC dI ad cA cZ 12 (celM ad cA cZ) sz s0)) (va_Qi (fun r u => (r = 0 ∨ r = 1) ∧ Q r u) (fun u t => va_P (dC, dI) vwCl (wd 12 ad (celM ad cA cZ) u) t.heap) (AA 12 ad sz)) 0 0 (AA 12 ad sz) := by
  refine Met.ofW (cc := cX11_takesShut) (maxL := 1) (ret := (some .boolean)) (by decide) rfl ?_
  intro p e s m args below meth c s₁ B hml hv0
  obtain ⟨rfl, hsz, hP, hK⟩ := hv0
  subst hsz
  have C0 : Cx cX11_takesShut RX11 wsX11_takesShut 1 (some .boolean) p s m ([.ref (ad 0)] : List Value).toArray meth c := ⟨B.exec, B.bytes, hml, findClass_of_methodNamed B.named, atoms_spec (ws := wsX11_takesShut) B.pre, B.returns, B.notSynchronized⟩
  have hl := lv_entry ([.ref (ad 0)]) (n := 1) (Nat.le_of_ble_eq_true rfl)
  rw [lg_entry_eq]
  generalize (lg_sl ([.ref (ad 0)]) ++ List.replicate (1 - (lg_sl ([.ref (ad 0)])).length) Slot.unset).toArray = ls at hl ⊢
  have hl : lv_has ls 1 [(0, .ref (ad 0))] := hl
  exact w_X11_takesShut_e hi   C0 hK Q (R_X11_takesShut  Q) (y_X11_takesShut hi   C0 hK Q)  s0 hv hP va_S.rf hl
