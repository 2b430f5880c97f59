def lay_X9_advance (ad : Nat → Nat)  : Nat → List Int32 → List Int64 → Option (List (Nat × Value) × List Value) := fun P xs ys => match P, xs, ys with
  | 8, [], [] => some ([(0, .ref (ad 70))], [])
  | 46, [], [] => some ([(0, .ref (ad 70))], [])
  | 87, [t0], [] => some ([(0, .ref (ad 70))], [.int t0, .ref (ad 70)])
  | 117, [], [] => some ([(0, .ref (ad 70))], [])
  | 160, [], [] => some ([(0, .ref (ad 70))], [])
  | _, _, _ => none
set_option maxHeartbeats 4000000 in
set_option maxRecDepth 100000 in
theorem w_X9_advance_e {p : Program} {l : Launch} {e : Env} {s : State} {m : MethodId} {args : Array Value} {below : List Frame} {meth : Method} {c : Code} {dC : Nat → ClassId} {dI : Nat → Nat → Nat} {ad : Nat → Nat} {cA cZ : ClassId} (hi : Inj 81 ad)   (C0 : Cx cX9_advance RX9 wsX9_advance 2 none p s m args meth c) (hK : KK dC dI cA cZ s) (Q : St → Prop) (Y : Nat → List Int32 → List Int64 → St → Prop) (hY : ∀ P xs ys σ, Y P xs ys σ → XX p l e ({ frames := 1, cells := 0, slots := 0, locals := 20 } : Room) s m args below meth c (dC, dI) 81 ad (celC ad cA) 2 (ZV below args s (dC, dI) 81 ad (celC ad cA) Q) (lay_X9_advance ad ) P xs ys σ)  (s0 : St) (hv : B_X9_advance_e  Q Y  s0) {H : Heap} {locs : List Loc} {ls : Array Slot} (hP : va_P (dC, dI) vwCl (wd 81 ad (celC ad cA) s0) H) (hS : va_S (AA 81 ad s.heap.size) s.heap H locs) (hl : lv_has ls 2 [(0, .ref (ad 70))]) : W p l e ({ frames := 1, cells := 0, slots := 0, locals := 20 } : Room) s m args below meth c H locs 0 0 (ZV below args s (dC, dI) 81 ad (celC ad cA) Q) (F0 m 0 ls []) := by
  obtain ⟨hx, hb, hml, hown, hts, hr, hlocks⟩ := C0
  have hD := wd_D (s := s) (cel := celC ad cA) (σ := s0) hi
  unfold B_X9_advance_e at hv
  refine lv_aload_n hx hb dX9_advance_0 rfl (lv_at hl 0 rfl) ?_
  refine lv_aload_n hx hb dX9_advance_1 rfl (lv_at hl 0 rfl) ?_
  refine r_get hx hb hts (iwX9_advance_X9) hown hK.1 hP 70 (by decide) (ceTo_0 (s0 70)) rfl 5 (by decide) (hts _ kX9_advance_1) (v := .int (s0 70 5)) rfl dX9_advance_2 ?_
  refine r_put hx hb hts (iwX9_advance_X9) tyX9 tyX9_ok nmX9 hown hK.1 hP hD hS 70 (by decide) (ceTo_0 (s0 70)) rfl 3 (by decide) (hts _ kX9_advance_2) rfl (ty := .int) (v := .int (s0 70 5)) (by decide +kernel) rfl rfl (Nat.le_of_ble_eq_true rfl) (row := (upd (s0 70) 3 (s0 70 5))) (by rw [(ceTo_0 (upd (s0 70) 3 (s0 70 5)))]; rfl) dX9_advance_5 (fun H locs s1 es1 hP hD hS => ?_)
  have hv := hv s1 es1
  exact hY 8 [] [] s1 hv _ _ rfl H locs ls hP hS (lv_sub hl [0] rfl)
set_option maxHeartbeats 4000000 in
set_option maxRecDepth 100000 in
theorem w_X9_advance_8 {p : Program} {l : Launch} {e : Env} {s : State} {m : MethodId} {args : Array Value} {below : List Frame} {meth : Method} {c : Code} {dC : Nat → ClassId} {dI : Nat → Nat → Nat} {ad : Nat → Nat} {cA cZ : ClassId} (hi : Inj 81 ad)   (C0 : Cx cX9_advance RX9 wsX9_advance 2 none p s m args meth c) (hK : KK dC dI cA cZ s) (Q : St → Prop) (Y : Nat → List Int32 → List Int64 → St → Prop) (hY : ∀ P xs ys σ, Y P xs ys σ → XX p l e ({ frames := 1, cells := 0, slots := 0, locals := 20 } : Room) s m args below meth c (dC, dI) 81 ad (celC ad cA) 2 (ZV below args s (dC, dI) 81 ad (celC ad cA) Q) (lay_X9_advance ad ) P xs ys σ)  (s0 : St) (hv : B_X9_advance_8  Q Y  s0) {H : Heap} {locs : List Loc} {ls : Array Slot} (hP : va_P (dC, dI) vwCl (wd 81 ad (celC ad cA) s0) H) (hS : va_S (AA 81 ad s.heap.size) s.heap H locs) (hl : lv_has ls 2 [(0, .ref (ad 70))]) : W p l e ({ frames := 1, cells := 0, slots := 0, locals := 20 } : Room) s m args below meth c H locs 0 0 (ZV below args s (dC, dI) 81 ad (celC ad cA) Q) (F0 m 8 ls []) := by
  obtain ⟨hx, hb, hml, hown, hts, hr, hlocks⟩ := C0
  have hD := wd_D (s := s) (cel := celC ad cA) (σ := s0) hi
  unfold B_X9_advance_8 at hv
  refine lv_aload_n hx hb dX9_advance_8 rfl (lv_at hl 0 rfl) ?_
  refine r_get hx hb hts (iwX9_advance_X9) hown hK.1 hP 70 (by decide) (ceTo_0 (s0 70)) rfl 3 (by decide) (hts _ kX9_advance_2) (v := .int (s0 70 3)) rfl dX9_advance_9 ?_
  refine lv_aload_n hx hb dX9_advance_12 rfl (lv_at hl 0 rfl) ?_
  refine r_get hx hb hts (iwX9_advance_X9) hown hK.1 hP 70 (by decide) (ceTo_0 (s0 70)) rfl 1 (by decide) (hts _ kX9_advance_3) (v := .int (s0 70 1)) rfl dX9_advance_13 ?_
  refine lv_icmp_ge (tgt := 46) hx hb dX9_advance_16 (by decide) (fun c16 => ?_) (fun c16 => ?_)
  · have hv := hv.1 c16
    exact hY 46 [] [] s0 hv _ _ rfl H locs ls hP hS (lv_sub hl [0] rfl)
  · have hv := hv.2 c16
    refine lv_aload_n hx hb dX9_advance_19 rfl (lv_at hl 0 rfl) ?_
    refine r_get hx hb hts (iwX9_advance_X9) hown hK.1 hP 70 (by decide) (ceTo_0 (s0 70)) rfl 0 (by decide) (hts _ kX9_advance_4) (v := .ref (ad 71)) rfl dX9_advance_20 ?_
    refine lv_aload_n hx hb dX9_advance_23 rfl (lv_at hl 0 rfl) ?_
    refine r_get hx hb hts (iwX9_advance_X9) hown hK.1 hP 70 (by decide) (ceTo_0 (s0 70)) rfl 3 (by decide) (hts _ kX9_advance_2) (v := .int (s0 70 3)) rfl dX9_advance_24 ?_
    obtain ⟨hin, hv⟩ := hv
    refine r_iald hx hb hK.1 hP 71 (by decide) (ceTo_1 (s0 71)) hin dX9_advance_27 ?_
    refine lv_bipush (v := 32) hx hb dX9_advance_28 (by decide) ?_
    refine lv_icmp_ne (tgt := 46) hx hb dX9_advance_30 (by decide) (fun c30 => ?_) (fun c30 => ?_)
    · have hv := hv.1 c30
      exact hY 46 [] [] s0 hv _ _ rfl H locs ls hP hS (lv_sub hl [0] rfl)
    · have hv := hv.2 c30
      refine lv_aload_n hx hb dX9_advance_33 rfl (lv_at hl 0 rfl) ?_
      refine lv_dup hx hb dX9_advance_34 rfl ?_
      refine r_get hx hb hts (iwX9_advance_X9) hown hK.1 hP 70 (by decide) (ceTo_0 (s0 70)) rfl 3 (by decide) (hts _ kX9_advance_2) (v := .int (s0 70 3)) rfl dX9_advance_35 ?_
      refine lv_iconst (v := 1) hx hb dX9_advance_38 (by decide) ?_
      refine lv_iadd hx hb dX9_advance_39 ?_
      refine r_put hx hb hts (iwX9_advance_X9) tyX9 tyX9_ok nmX9 hown hK.1 hP hD hS 70 (by decide) (ceTo_0 (s0 70)) rfl 3 (by decide) (hts _ kX9_advance_2) rfl (ty := .int) (v := .int ((s0 70 3) + 1)) (by decide +kernel) rfl rfl (Nat.le_of_ble_eq_true rfl) (row := (upd (s0 70) 3 ((s0 70 3) + 1))) (by rw [(ceTo_0 (upd (s0 70) 3 ((s0 70 3) + 1)))]; rfl) dX9_advance_40 (fun H locs s1 es1 hP hD hS => ?_)
      have hv := hv s1 es1
      refine lv_goto (tgt := 8) hx hb dX9_advance_43 (by decide) ?_
      exact hY 8 [] [] s1 hv _ _ rfl H locs ls hP hS (lv_sub hl [0] rfl)
set_option maxHeartbeats 4000000 in
set_option maxRecDepth 100000 in
theorem w_X9_advance_46 {p : Program} {l : Launch} {e : Env} {s : State} {m : MethodId} {args : Array Value} {below : List Frame} {meth : Method} {c : Code} {dC : Nat → ClassId} {dI : Nat → Nat → Nat} {ad : Nat → Nat} {cA cZ : ClassId} (hi : Inj 81 ad)   (C0 : Cx cX9_advance RX9 wsX9_advance 2 none p s m args meth c) (hK : KK dC dI cA cZ s) (Q : St → Prop) (Y : Nat → List Int32 → List Int64 → St → Prop) (hY : ∀ P xs ys σ, Y P xs ys σ → XX p l e ({ frames := 1, cells := 0, slots := 0, locals := 20 } : Room) s m args below meth c (dC, dI) 81 ad (celC ad cA) 2 (ZV below args s (dC, dI) 81 ad (celC ad cA) Q) (lay_X9_advance ad ) P xs ys σ)  (s0 : St) (hv : B_X9_advance_46  Q Y  s0) {H : Heap} {locs : List Loc} {ls : Array Slot} (hP : va_P (dC, dI) vwCl (wd 81 ad (celC ad cA) s0) H) (hS : va_S (AA 81 ad s.heap.size) s.heap H locs) (hl : lv_has ls 2 [(0, .ref (ad 70))]) : W p l e ({ frames := 1, cells := 0, slots := 0, locals := 20 } : Room) s m args below meth c H locs 0 0 (ZV below args s (dC, dI) 81 ad (celC ad cA) Q) (F0 m 46 ls []) := by
  obtain ⟨hx, hb, hml, hown, hts, hr, hlocks⟩ := C0
  have hD := wd_D (s := s) (cel := celC ad cA) (σ := s0) hi
  unfold B_X9_advance_46 at hv
  refine lv_aload_n hx hb dX9_advance_46 rfl (lv_at hl 0 rfl) ?_
  refine lv_aload_n hx hb dX9_advance_47 rfl (lv_at hl 0 rfl) ?_
  refine r_get hx hb hts (iwX9_advance_X9) hown hK.1 hP 70 (by decide) (ceTo_0 (s0 70)) rfl 3 (by decide) (hts _ kX9_advance_2) (v := .int (s0 70 3)) rfl dX9_advance_48 ?_
  refine r_put hx hb hts (iwX9_advance_X9) tyX9 tyX9_ok nmX9 hown hK.1 hP hD hS 70 (by decide) (ceTo_0 (s0 70)) rfl 5 (by decide) (hts _ kX9_advance_1) rfl (ty := .int) (v := .int (s0 70 3)) (by decide +kernel) rfl rfl (Nat.le_of_ble_eq_true rfl) (row := (upd (s0 70) 5 (s0 70 3))) (by rw [(ceTo_0 (upd (s0 70) 5 (s0 70 3)))]; rfl) dX9_advance_51 (fun H locs s1 es1 hP hD hS => ?_)
  have hv := hv s1 es1
  refine lv_aload_n hx hb dX9_advance_54 rfl (lv_at hl 0 rfl) ?_
  refine lv_iconst (v := (-1)) hx hb dX9_advance_55 (by decide) ?_
  refine r_put hx hb hts (iwX9_advance_X9) tyX9 tyX9_ok nmX9 hown hK.1 hP hD hS 70 (by decide) (ceTo_0 (s1 70)) rfl 4 (by decide) (hts _ kX9_advance_5) rfl (ty := .int) (v := .int ((-1))) (by decide +kernel) rfl rfl (Nat.le_of_ble_eq_true rfl) (row := (upd (s1 70) 4 ((-1)))) (by rw [(ceTo_0 (upd (s1 70) 4 ((-1))))]; rfl) dX9_advance_56 (fun H locs s2 es2 hP hD hS => ?_)
  have hv := hv s2 es2
  refine lv_aload_n hx hb dX9_advance_59 rfl (lv_at hl 0 rfl) ?_
  refine lv_aload_n hx hb dX9_advance_60 rfl (lv_at hl 0 rfl) ?_
  refine r_get hx hb hts (iwX9_advance_X9) hown hK.1 hP 70 (by decide) (ceTo_0 (s2 70)) rfl 3 (by decide) (hts _ kX9_advance_2) (v := .int (s2 70 3)) rfl dX9_advance_61 ?_
  refine lv_aload_n hx hb dX9_advance_64 rfl (lv_at hl 0 rfl) ?_
  refine r_get hx hb hts (iwX9_advance_X9) hown hK.1 hP 70 (by decide) (ceTo_0 (s2 70)) rfl 1 (by decide) (hts _ kX9_advance_3) (v := .int (s2 70 1)) rfl dX9_advance_65 ?_
  refine lv_icmp_ge (tgt := 86) hx hb dX9_advance_68 (by decide) (fun c68 => ?_) (fun c68 => ?_)
  · have hv := hv.1 c68
    refine lv_iconst (v := 0) hx hb dX9_advance_86 (by decide) ?_
    exact hY 87 [0] [] s2 hv _ _ rfl H locs ls hP hS (lv_sub hl [0] rfl)
  · have hv := hv.2 c68
    refine lv_aload_n hx hb dX9_advance_71 rfl (lv_at hl 0 rfl) ?_
    refine r_get hx hb hts (iwX9_advance_X9) hown hK.1 hP 70 (by decide) (ceTo_0 (s2 70)) rfl 0 (by decide) (hts _ kX9_advance_4) (v := .ref (ad 71)) rfl dX9_advance_72 ?_
    refine lv_aload_n hx hb dX9_advance_75 rfl (lv_at hl 0 rfl) ?_
    refine r_get hx hb hts (iwX9_advance_X9) hown hK.1 hP 70 (by decide) (ceTo_0 (s2 70)) rfl 3 (by decide) (hts _ kX9_advance_2) (v := .int (s2 70 3)) rfl dX9_advance_76 ?_
    obtain ⟨hin, hv⟩ := hv
    refine r_iald hx hb hK.1 hP 71 (by decide) (ceTo_1 (s2 71)) hin dX9_advance_79 ?_
    refine r_ci (va_runS (As := [.int (s2 71 (s2 70 3).toNatClampNeg)]) (rest := [.ref (ad 70)]) ⟨hx, hb, hml, hown, hts⟩ (c_X9_kindOf hi (s2 71 (s2 70 3).toNatClampNeg) s2 _ hv H.size) (va_cwS 1 hts gX9_advance_X9_kindOf rfl rfl rfl (by decide +kernel) ⟨Nat.le_of_ble_eq_true rfl, Nat.le_of_ble_eq_true rfl⟩) ⟨pre_blind, pre_of hP hK⟩ rfl rfl hl.1 rfl (lv_room (Nat.le_of_ble_eq_true rfl)) dX9_advance_80 ⟨Nat.zero_le _, Nat.zero_le _⟩) hS (fun r3 s3 H locs hv hP hS => ?_)
    have hD := wd_D (s := s) (cel := celC ad cA) (σ := s3) hi
    refine lv_goto (tgt := 87) hx hb dX9_advance_83 (by decide) ?_
    exact hY 87 [r3] [] s3 hv _ _ rfl H locs ls hP hS (lv_sub hl [0] rfl)
set_option maxHeartbeats 4000000 in
set_option maxRecDepth 100000 in
theorem w_X9_advance_87 {p : Program} {l : Launch} {e : Env} {s : State} {m : MethodId} {args : Array Value} {below : List Frame} {meth : Method} {c : Code} {dC : Nat → ClassId} {dI : Nat → Nat → Nat} {ad : Nat → Nat} {cA cZ : ClassId} (hi : Inj 81 ad)   (C0 : Cx cX9_advance RX9 wsX9_advance 2 none p s m args meth c) (hK : KK dC dI cA cZ s) (Q : St → Prop) (Y : Nat → List Int32 → List Int64 → St → Prop) (hY : ∀ P xs ys σ, Y P xs ys σ → XX p l e ({ frames := 1, cells := 0, slots := 0, locals := 20 } : Room) s m args below meth c (dC, dI) 81 ad (celC ad cA) 2 (ZV below args s (dC, dI) 81 ad (celC ad cA) Q) (lay_X9_advance ad ) P xs ys σ) (t0 : Int32) (s0 : St) (hv : B_X9_advance_87  Q Y t0 s0) {H : Heap} {locs : List Loc} {ls : Array Slot} (hP : va_P (dC, dI) vwCl (wd 81 ad (celC ad cA) s0) H) (hS : va_S (AA 81 ad s.heap.size) s.heap H locs) (hl : lv_has ls 2 [(0, .ref (ad 70))]) : W p l e ({ frames := 1, cells := 0, slots := 0, locals := 20 } : Room) s m args below meth c H locs 0 0 (ZV below args s (dC, dI) 81 ad (celC ad cA) Q) (F0 m 87 ls [.int t0, .ref (ad 70)]) := by
  obtain ⟨hx, hb, hml, hown, hts, hr, hlocks⟩ := C0
  have hD := wd_D (s := s) (cel := celC ad cA) (σ := s0) hi
  unfold B_X9_advance_87 at hv
  refine r_put hx hb hts (iwX9_advance_X9) tyX9 tyX9_ok nmX9 hown hK.1 hP hD hS 70 (by decide) (ceTo_0 (s0 70)) rfl 2 (by decide) (hts _ kX9_advance_6) rfl (ty := .int) (v := .int t0) (by decide +kernel) rfl rfl (Nat.le_of_ble_eq_true rfl) (row := (upd (s0 70) 2 t0)) (by rw [(ceTo_0 (upd (s0 70) 2 t0))]; rfl) dX9_advance_87 (fun H locs s1 es1 hP hD hS => ?_)
  have hv := hv s1 es1
  refine lv_aload_n hx hb dX9_advance_90 rfl (lv_at hl 0 rfl) ?_
  refine r_get hx hb hts (iwX9_advance_X9) hown hK.1 hP 70 (by decide) (ceTo_0 (s1 70)) rfl 2 (by decide) (hts _ kX9_advance_6) (v := .int (s1 70 2)) rfl dX9_advance_91 ?_
  refine lv_iconst (v := 3) hx hb dX9_advance_94 (by decide) ?_
  refine lv_icmp_eq (tgt := 106) hx hb dX9_advance_95 (by decide) (fun c95 => ?_) (fun c95 => ?_)
  · have hv := hv.1 c95
    refine lv_aload_n hx hb dX9_advance_106 rfl (lv_at hl 0 rfl) ?_
    refine lv_dup hx hb dX9_advance_107 rfl ?_
    refine r_get hx hb hts (iwX9_advance_X9) hown hK.1 hP 70 (by decide) (ceTo_0 (s1 70)) rfl 5 (by decide) (hts _ kX9_advance_1) (v := .int (s1 70 5)) rfl dX9_advance_108 ?_
    refine lv_iconst (v := 1) hx hb dX9_advance_111 (by decide) ?_
    refine lv_iadd hx hb dX9_advance_112 ?_
    refine r_put hx hb hts (iwX9_advance_X9) tyX9 tyX9_ok nmX9 hown hK.1 hP hD hS 70 (by decide) (ceTo_0 (s1 70)) rfl 5 (by decide) (hts _ kX9_advance_1) rfl (ty := .int) (v := .int ((s1 70 5) + 1)) (by decide +kernel) rfl rfl (Nat.le_of_ble_eq_true rfl) (row := (upd (s1 70) 5 ((s1 70 5) + 1))) (by rw [(ceTo_0 (upd (s1 70) 5 ((s1 70 5) + 1)))]; rfl) dX9_advance_113 (fun H locs s2 es2 hP hD hS => ?_)
    have hv := hv s2 es2
    exact r_vret hx hb hr hlocks hv hP hS dX9_advance_116
  · have hv := hv.2 c95
    refine lv_aload_n hx hb dX9_advance_98 rfl (lv_at hl 0 rfl) ?_
    refine r_get hx hb hts (iwX9_advance_X9) hown hK.1 hP 70 (by decide) (ceTo_0 (s1 70)) rfl 2 (by decide) (hts _ kX9_advance_6) (v := .int (s1 70 2)) rfl dX9_advance_99 ?_
    refine lv_iconst (v := 4) hx hb dX9_advance_102 (by decide) ?_
    refine lv_icmp_ne (tgt := 117) hx hb dX9_advance_103 (by decide) (fun c103 => ?_) (fun c103 => ?_)
    · have hv := hv.1 c103
      exact hY 117 [] [] s1 hv _ _ rfl H locs ls hP hS (lv_sub hl [0] rfl)
    · have hv := hv.2 c103
      refine lv_aload_n hx hb dX9_advance_106 rfl (lv_at hl 0 rfl) ?_
      refine lv_dup hx hb dX9_advance_107 rfl ?_
      refine r_get hx hb hts (iwX9_advance_X9) hown hK.1 hP 70 (by decide) (ceTo_0 (s1 70)) rfl 5 (by decide) (hts _ kX9_advance_1) (v := .int (s1 70 5)) rfl dX9_advance_108 ?_
      refine lv_iconst (v := 1) hx hb dX9_advance_111 (by decide) ?_
      refine lv_iadd hx hb dX9_advance_112 ?_
      refine r_put hx hb hts (iwX9_advance_X9) tyX9 tyX9_ok nmX9 hown hK.1 hP hD hS 70 (by decide) (ceTo_0 (s1 70)) rfl 5 (by decide) (hts _ kX9_advance_1) rfl (ty := .int) (v := .int ((s1 70 5) + 1)) (by decide +kernel) rfl rfl (Nat.le_of_ble_eq_true rfl) (row := (upd (s1 70) 5 ((s1 70 5) + 1))) (by rw [(ceTo_0 (upd (s1 70) 5 ((s1 70 5) + 1)))]; rfl) dX9_advance_113 (fun H locs s3 es3 hP hD hS => ?_)
      have hv := hv s3 es3
      exact r_vret hx hb hr hlocks hv hP hS dX9_advance_116
set_option maxHeartbeats 4000000 in
set_option maxRecDepth 100000 in
theorem w_X9_advance_117 {p : Program} {l : Launch} {e : Env} {s : State} {m : MethodId} {args : Array Value} {below : List Frame} {meth : Method} {c : Code} {dC : Nat → ClassId} {dI : Nat → Nat → Nat} {ad : Nat → Nat} {cA cZ : ClassId} (hi : Inj 81 ad)   (C0 : Cx cX9_advance RX9 wsX9_advance 2 none p s m args meth c) (hK : KK dC dI cA cZ s) (Q : St → Prop) (Y : Nat → List Int32 → List Int64 → St → Prop) (hY : ∀ P xs ys σ, Y P xs ys σ → XX p l e ({ frames := 1, cells := 0, slots := 0, locals := 20 } : Room) s m args below meth c (dC, dI) 81 ad (celC ad cA) 2 (ZV below args s (dC, dI) 81 ad (celC ad cA) Q) (lay_X9_advance ad ) P xs ys σ)  (s0 : St) (hv : B_X9_advance_117  Q Y  s0) {H : Heap} {locs : List Loc} {ls : Array Slot} (hP : va_P (dC, dI) vwCl (wd 81 ad (celC ad cA) s0) H) (hS : va_S (AA 81 ad s.heap.size) s.heap H locs) (hl : lv_has ls 2 [(0, .ref (ad 70))]) : W p l e ({ frames := 1, cells := 0, slots := 0, locals := 20 } : Room) s m args below meth c H locs 0 0 (ZV below args s (dC, dI) 81 ad (celC ad cA) Q) (F0 m 117 ls []) := by
  obtain ⟨hx, hb, hml, hown, hts, hr, hlocks⟩ := C0
  have hD := wd_D (s := s) (cel := celC ad cA) (σ := s0) hi
  unfold B_X9_advance_117 at hv
  refine lv_aload_n hx hb dX9_advance_117 rfl (lv_at hl 0 rfl) ?_
  refine r_get hx hb hts (iwX9_advance_X9) hown hK.1 hP 70 (by decide) (ceTo_0 (s0 70)) rfl 5 (by decide) (hts _ kX9_advance_1) (v := .int (s0 70 5)) rfl dX9_advance_118 ?_
  refine lv_aload_n hx hb dX9_advance_121 rfl (lv_at hl 0 rfl) ?_
  refine r_get hx hb hts (iwX9_advance_X9) hown hK.1 hP 70 (by decide) (ceTo_0 (s0 70)) rfl 1 (by decide) (hts _ kX9_advance_3) (v := .int (s0 70 1)) rfl dX9_advance_122 ?_
  refine lv_icmp_ge (tgt := 160) hx hb dX9_advance_125 (by decide) (fun c125 => ?_) (fun c125 => ?_)
  · have hv := hv.1 c125
    exact hY 160 [] [] s0 hv _ _ rfl H locs ls hP hS (lv_sub hl [0] rfl)
  · have hv := hv.2 c125
    refine lv_aload_n hx hb dX9_advance_128 rfl (lv_at hl 0 rfl) ?_
    refine r_get hx hb hts (iwX9_advance_X9) hown hK.1 hP 70 (by decide) (ceTo_0 (s0 70)) rfl 0 (by decide) (hts _ kX9_advance_4) (v := .ref (ad 71)) rfl dX9_advance_129 ?_
    refine lv_aload_n hx hb dX9_advance_132 rfl (lv_at hl 0 rfl) ?_
    refine r_get hx hb hts (iwX9_advance_X9) hown hK.1 hP 70 (by decide) (ceTo_0 (s0 70)) rfl 5 (by decide) (hts _ kX9_advance_1) (v := .int (s0 70 5)) rfl dX9_advance_133 ?_
    obtain ⟨hin, hv⟩ := hv
    refine r_iald hx hb hK.1 hP 71 (by decide) (ceTo_1 (s0 71)) hin dX9_advance_136 ?_
    refine r_ci (va_runS (As := [.int (s0 71 (s0 70 5).toNatClampNeg)]) (rest := []) ⟨hx, hb, hml, hown, hts⟩ (c_X9_kindOf hi (s0 71 (s0 70 5).toNatClampNeg) s0 _ hv H.size) (va_cwS 1 hts gX9_advance_X9_kindOf rfl rfl rfl (by decide +kernel) ⟨Nat.le_of_ble_eq_true rfl, Nat.le_of_ble_eq_true rfl⟩) ⟨pre_blind, pre_of hP hK⟩ rfl rfl hl.1 rfl (lv_room (Nat.le_of_ble_eq_true rfl)) dX9_advance_137 ⟨Nat.zero_le _, Nat.zero_le _⟩) hS (fun r1 s1 H locs hv hP hS => ?_)
    have hD := wd_D (s := s) (cel := celC ad cA) (σ := s1) hi
    refine lv_aload_n hx hb dX9_advance_140 rfl (lv_at hl 0 rfl) ?_
    refine r_get hx hb hts (iwX9_advance_X9) hown hK.1 hP 70 (by decide) (ceTo_0 (s1 70)) rfl 2 (by decide) (hts _ kX9_advance_6) (v := .int (s1 70 2)) rfl dX9_advance_141 ?_
    refine lv_icmp_ne (tgt := 160) hx hb dX9_advance_144 (by decide) (fun c144 => ?_) (fun c144 => ?_)
    · have hv := hv.1 c144
      exact hY 160 [] [] s1 hv _ _ rfl H locs ls hP hS (lv_sub hl [0] rfl)
    · have hv := hv.2 c144
      refine lv_aload_n hx hb dX9_advance_147 rfl (lv_at hl 0 rfl) ?_
      refine lv_dup hx hb dX9_advance_148 rfl ?_
      refine r_get hx hb hts (iwX9_advance_X9) hown hK.1 hP 70 (by decide) (ceTo_0 (s1 70)) rfl 5 (by decide) (hts _ kX9_advance_1) (v := .int (s1 70 5)) rfl dX9_advance_149 ?_
      refine lv_iconst (v := 1) hx hb dX9_advance_152 (by decide) ?_
      refine lv_iadd hx hb dX9_advance_153 ?_
      refine r_put hx hb hts (iwX9_advance_X9) tyX9 tyX9_ok nmX9 hown hK.1 hP hD hS 70 (by decide) (ceTo_0 (s1 70)) rfl 5 (by decide) (hts _ kX9_advance_1) rfl (ty := .int) (v := .int ((s1 70 5) + 1)) (by decide +kernel) rfl rfl (Nat.le_of_ble_eq_true rfl) (row := (upd (s1 70) 5 ((s1 70 5) + 1))) (by rw [(ceTo_0 (upd (s1 70) 5 ((s1 70 5) + 1)))]; rfl) dX9_advance_154 (fun H locs s2 es2 hP hD hS => ?_)
      have hv := hv s2 es2
      refine lv_goto (tgt := 117) hx hb dX9_advance_157 (by decide) ?_
      exact hY 117 [] [] s2 hv _ _ rfl H locs ls hP hS (lv_sub hl [0] rfl)
set_option maxHeartbeats 4000000 in
set_option maxRecDepth 100000 in
theorem w_X9_advance_160 {p : Program} {l : Launch} {e : Env} {s : State} {m : MethodId} {args : Array Value} {below : List Frame} {meth : Method} {c : Code} {dC : Nat → ClassId} {dI : Nat → Nat → Nat} {ad : Nat → Nat} {cA cZ : ClassId} (hi : Inj 81 ad)   (C0 : Cx cX9_advance RX9 wsX9_advance 2 none p s m args meth c) (hK : KK dC dI cA cZ s) (Q : St → Prop) (Y : Nat → List Int32 → List Int64 → St → Prop) (hY : ∀ P xs ys σ, Y P xs ys σ → XX p l e ({ frames := 1, cells := 0, slots := 0, locals := 20 } : Room) s m args below meth c (dC, dI) 81 ad (celC ad cA) 2 (ZV below args s (dC, dI) 81 ad (celC ad cA) Q) (lay_X9_advance ad ) P xs ys σ)  (s0 : St) (hv : B_X9_advance_160  Q Y  s0) {H : Heap} {locs : List Loc} {ls : Array Slot} (hP : va_P (dC, dI) vwCl (wd 81 ad (celC ad cA) s0) H) (hS : va_S (AA 81 ad s.heap.size) s.heap H locs) (hl : lv_has ls 2 [(0, .ref (ad 70))]) : W p l e ({ frames := 1, cells := 0, slots := 0, locals := 20 } : Room) s m args below meth c H locs 0 0 (ZV below args s (dC, dI) 81 ad (celC ad cA) Q) (F0 m 160 ls []) := by
  obtain ⟨hx, hb, hml, hown, hts, hr, hlocks⟩ := C0
  have hD := wd_D (s := s) (cel := celC ad cA) (σ := s0) hi
  unfold B_X9_advance_160 at hv
  refine lv_aload_n hx hb dX9_advance_160 rfl (lv_at hl 0 rfl) ?_
  refine r_get hx hb hts (iwX9_advance_X9) hown hK.1 hP 70 (by decide) (ceTo_0 (s0 70)) rfl 2 (by decide) (hts _ kX9_advance_6) (v := .int (s0 70 2)) rfl dX9_advance_161 ?_
  refine lv_iconst (v := 2) hx hb dX9_advance_164 (by decide) ?_
  refine lv_icmp_ne (tgt := 234) hx hb dX9_advance_165 (by decide) (fun c165 => ?_) (fun c165 => ?_)
  · have hv := hv.1 c165
    exact r_vret hx hb hr hlocks hv hP hS dX9_advance_234
  · have hv := hv.2 c165
    refine lv_aload_n hx hb dX9_advance_168 rfl (lv_at hl 0 rfl) ?_
    refine r_get hx hb hts (iwX9_advance_X9) hown hK.1 hP 70 (by decide) (ceTo_0 (s0 70)) rfl 5 (by decide) (hts _ kX9_advance_1) (v := .int (s0 70 5)) rfl dX9_advance_169 ?_
    refine lv_aload_n hx hb dX9_advance_172 rfl (lv_at hl 0 rfl) ?_
    refine r_get hx hb hts (iwX9_advance_X9) hown hK.1 hP 70 (by decide) (ceTo_0 (s0 70)) rfl 3 (by decide) (hts _ kX9_advance_2) (v := .int (s0 70 3)) rfl dX9_advance_173 ?_
    refine lv_isub hx hb dX9_advance_176 ?_
    refine lv_iconst (v := 2) hx hb dX9_advance_177 (by decide) ?_
    refine lv_icmp_gt (tgt := 234) hx hb dX9_advance_178 (by decide) (fun c178 => ?_) (fun c178 => ?_)
    · have hv := hv.1 c178
      exact r_vret hx hb hr hlocks hv hP hS dX9_advance_234
    · have hv := hv.2 c178
      refine lv_aload_n hx hb dX9_advance_181 rfl (lv_at hl 0 rfl) ?_
      refine r_get hx hb hts (iwX9_advance_X9) hown hK.1 hP 70 (by decide) (ceTo_0 (s0 70)) rfl 0 (by decide) (hts _ kX9_advance_4) (v := .ref (ad 71)) rfl dX9_advance_182 ?_
      refine lv_aload_n hx hb dX9_advance_185 rfl (lv_at hl 0 rfl) ?_
      refine r_get hx hb hts (iwX9_advance_X9) hown hK.1 hP 70 (by decide) (ceTo_0 (s0 70)) rfl 5 (by decide) (hts _ kX9_advance_1) (v := .int (s0 70 5)) rfl dX9_advance_186 ?_
      refine lv_iconst (v := 1) hx hb dX9_advance_189 (by decide) ?_
      refine lv_isub hx hb dX9_advance_190 ?_
      obtain ⟨hin, hv⟩ := hv
      refine r_iald hx hb hK.1 hP 71 (by decide) (ceTo_1 (s0 71)) hin dX9_advance_191 ?_
      refine lv_bipush (v := 48) hx hb dX9_advance_192 (by decide) ?_
      refine lv_isub hx hb dX9_advance_194 ?_
      refine lv_topi (fun v1 ev1 => ?_)
      have hv := hv v1 ev1
      refine lv_istore_n (lv' := [(1, .int v1), (0, .ref (ad 70))]) hx hb dX9_advance_195 rfl hl (by decide) rfl (fun ls hl => ?_)
      refine lv_aload_n hx hb dX9_advance_196 rfl (lv_at hl 1 rfl) ?_
      refine lv_aload_n hx hb dX9_advance_197 rfl (lv_at hl 1 rfl) ?_
      refine r_get hx hb hts (iwX9_advance_X9) hown hK.1 hP 70 (by decide) (ceTo_0 (s0 70)) rfl 5 (by decide) (hts _ kX9_advance_1) (v := .int (s0 70 5)) rfl dX9_advance_198 ?_
      refine lv_aload_n hx hb dX9_advance_201 rfl (lv_at hl 1 rfl) ?_
      refine r_get hx hb hts (iwX9_advance_X9) hown hK.1 hP 70 (by decide) (ceTo_0 (s0 70)) rfl 3 (by decide) (hts _ kX9_advance_2) (v := .int (s0 70 3)) rfl dX9_advance_202 ?_
      refine lv_isub hx hb dX9_advance_205 ?_
      refine lv_iconst (v := 2) hx hb dX9_advance_206 (by decide) ?_
      refine lv_icmp_ne (tgt := 230) hx hb dX9_advance_207 (by decide) (fun c207 => ?_) (fun c207 => ?_)
      · have hv := hv.1 c207
        refine lv_iload_n hx hb dX9_advance_230 rfl (lv_at hl 0 rfl) ?_
        refine r_put hx hb hts (iwX9_advance_X9) tyX9 tyX9_ok nmX9 hown hK.1 hP hD hS 70 (by decide) (ceTo_0 (s0 70)) rfl 4 (by decide) (hts _ kX9_advance_5) rfl (ty := .int) (v := .int v1) (by decide +kernel) rfl rfl (Nat.le_of_ble_eq_true rfl) (row := (upd (s0 70) 4 v1)) (by rw [(ceTo_0 (upd (s0 70) 4 v1))]; rfl) dX9_advance_231 (fun H locs s2 es2 hP hD hS => ?_)
        have hv := hv s2 es2
        exact r_vret hx hb hr hlocks hv hP hS dX9_advance_234
      · have hv := hv.2 c207
        refine lv_bipush (v := 10) hx hb dX9_advance_210 (by decide) ?_
        refine lv_aload_n hx hb dX9_advance_212 rfl (lv_at hl 1 rfl) ?_
        refine r_get hx hb hts (iwX9_advance_X9) hown hK.1 hP 70 (by decide) (ceTo_0 (s0 70)) rfl 0 (by decide) (hts _ kX9_advance_4) (v := .ref (ad 71)) rfl dX9_advance_213 ?_
        refine lv_aload_n hx hb dX9_advance_216 rfl (lv_at hl 1 rfl) ?_
        refine r_get hx hb hts (iwX9_advance_X9) hown hK.1 hP 70 (by decide) (ceTo_0 (s0 70)) rfl 3 (by decide) (hts _ kX9_advance_2) (v := .int (s0 70 3)) rfl dX9_advance_217 ?_
        obtain ⟨hin, hv⟩ := hv
        refine r_iald hx hb hK.1 hP 71 (by decide) (ceTo_1 (s0 71)) hin dX9_advance_220 ?_
        refine lv_bipush (v := 48) hx hb dX9_advance_221 (by decide) ?_
        refine lv_isub hx hb dX9_advance_223 ?_
        refine lv_imul hx hb dX9_advance_224 ?_
        refine lv_iload_n hx hb dX9_advance_225 rfl (lv_at hl 0 rfl) ?_
        refine lv_iadd hx hb dX9_advance_226 ?_
        refine lv_goto (tgt := 231) hx hb dX9_advance_227 (by decide) ?_
        refine r_put hx hb hts (iwX9_advance_X9) tyX9 tyX9_ok nmX9 hown hK.1 hP hD hS 70 (by decide) (ceTo_0 (s0 70)) rfl 4 (by decide) (hts _ kX9_advance_5) rfl (ty := .int) (v := .int ((10 * ((s0 71 (s0 70 3).toNatClampNeg) - 48)) + v1)) (by decide +kernel) rfl rfl (Nat.le_of_ble_eq_true rfl) (row := (upd (s0 70) 4 ((10 * ((s0 71 (s0 70 3).toNatClampNeg) - 48)) + v1))) (by rw [(ceTo_0 (upd (s0 70) 4 ((10 * ((s0 71 (s0 70 3).toNatClampNeg) - 48)) + v1)))]; rfl) dX9_advance_231 (fun H locs s3 es3 hP hD hS => ?_)
        have hv := hv s3 es3
        exact r_vret hx hb hr hlocks hv hP hS dX9_advance_234
set_option maxHeartbeats 4000000 in
theorem y_X9_advance {p : Program} {l : Launch} {e : Env} {s : State} {m : MethodId} {args : Array Value} {below : List Frame} {meth : Method} {c : Code} {dC : Nat → ClassId} {dI : Nat → Nat → Nat} {ad : Nat → Nat} {cA cZ : ClassId} (hi : Inj 81 ad)   (C0 : Cx cX9_advance RX9 wsX9_advance 2 none p s m args meth c) (hK : KK dC dI cA cZ s) (Q : St → Prop) : ∀ P xs ys σ, R_X9_advance  Q P xs ys σ → XX p l e ({ frames := 1, cells := 0, slots := 0, locals := 20 } : Room) s m args below meth c (dC, dI) 81 ad (celC ad cA) 2 (ZV below args s (dC, dI) 81 ad (celC ad cA) Q) (lay_X9_advance ad ) P xs ys σ := by
  refine Fx.elim _ (fun P xs ys σ Y hY hB => ?_)
  rcases hB with ⟨rfl, rfl, rfl, hB⟩ | ⟨rfl, rfl, rfl, hB⟩ | ⟨rfl, t0, rfl, rfl, hB⟩ | ⟨rfl, rfl, rfl, hB⟩ | ⟨rfl, rfl, rfl, hB⟩
  · intro lv st he H locs ls hP hS hl
    cases he
    exact w_X9_advance_8 hi   C0 hK Q Y hY  σ hB hP hS hl
  · intro lv st he H locs ls hP hS hl
    cases he
    exact w_X9_advance_46 hi   C0 hK Q Y hY  σ hB hP hS hl
  · intro lv st he H locs ls hP hS hl
    cases he
    exact w_X9_advance_87 hi   C0 hK Q Y hY t0 σ hB hP hS hl
  · intro lv st he H locs ls hP hS hl
    cases he
    exact w_X9_advance_117 hi   C0 hK Q Y hY  σ hB hP hS hl
  · intro lv st he H locs ls hP hS hl
    cases he
    exact w_X9_advance_160 hi   C0 hK Q Y hY  σ hB hP hS hl
set_option maxHeartbeats 4000000 in
theorem c_X9_advance {l : Launch} {dC : Nat → ClassId} {dI : Nat → Nat → Nat} {ad : Nat → Nat} {cA cZ : ClassId} (hi : Inj 81 ad)   (s0 : St) (Q : St → Prop) (hv : V_X9_advance  s0 Q) (sz : Nat) : Met l yX9_advance wsX9_advance ({ frames := 1, cells := 0, slots := 0, locals := 20 } : Room) (va_Pc [.ref (ad 70)] (PW dC dI ad cA cZ 81 (celC ad cA) sz s0)) (va_Qv Q (fun u t => va_P (dC, dI) vwCl (wd 81 ad (celC ad cA) u) t.heap) (AA 81 ad sz)) 0 0 (AA 81 ad sz) := by
  refine Met.ofW (cc := cX9_advance) (maxL := 2) (ret := none) (by decide) rfl ?_
  intro p e s m args below meth c s₁ B hml hv0
  obtain ⟨rfl, hsz, hP, hK⟩ := hv0
  subst hsz
  have C0 : Cx cX9_advance RX9 wsX9_advance 2 none p s m ([.ref (ad 70)] : List Value).toArray meth c := ⟨B.exec, B.bytes, hml, findClass_of_methodNamed B.named, atoms_spec (ws := wsX9_advance) B.pre, B.returns, B.notSynchronized⟩
  have hl := lv_entry ([.ref (ad 70)]) (n := 2) (Nat.le_of_ble_eq_true rfl)
  rw [lg_entry_eq]
  generalize (lg_sl ([.ref (ad 70)]) ++ List.replicate (2 - (lg_sl ([.ref (ad 70)])).length) Slot.unset).toArray = ls at hl ⊢
  have hl : lv_has ls 2 [(0, .ref (ad 70))] := hl
  exact w_X9_advance_e hi   C0 hK Q (R_X9_advance  Q) (y_X9_advance hi   C0 hK Q)  s0 hv hP va_S.rf hl
def lay_X5_takeStop (ad : Nat → Nat)  : Nat → List Int32 → List Int64 → Option (List (Nat × Value) × List Value) := fun P xs ys => match P, xs, ys with
  | _, _, _ => none
set_option maxHeartbeats 4000000 in
set_option maxRecDepth 100000 in
theorem w_X5_takeStop_e {p : Program} {l : Launch} {e : Env} {s : State} {m : MethodId} {args : Array Value} {below : List Frame} {meth : Method} {c : Code} {dC : Nat → ClassId} {dI : Nat → Nat → Nat} {ad : Nat → Nat} {cA cZ : ClassId} (hi : Inj 81 ad)   (C0 : Cx cX5_takeStop RX5 wsX5_takeStop 1 (some .boolean) p s m args meth c) (hK : KK dC dI cA cZ s) (Q : Int32 → St → Prop) (Y : Nat → List Int32 → List Int64 → St → Prop) (hY : ∀ P xs ys σ, Y P xs ys σ → XX p l e ({ frames := 2, cells := 0, slots := 0, locals := 41 } : Room) s m args below meth c (dC, dI) 81 ad (celC ad cA) 1 (ZZ below args s (dC, dI) 81 ad (celC ad cA) Q) (lay_X5_takeStop ad ) P xs ys σ)  (s0 : St) (hv : B_X5_takeStop_e  Q Y  s0) {H : Heap} {locs : List Loc} {ls : Array Slot} (hP : va_P (dC, dI) vwCl (wd 81 ad (celC ad cA) s0) H) (hS : va_S (AA 81 ad s.heap.size) s.heap H locs) (hl : lv_has ls 1 [(0, .ref (ad 69))]) : W p l e ({ frames := 2, cells := 0, slots := 0, locals := 41 } : Room) s m args below meth c H locs 0 0 (ZZ below args s (dC, dI) 81 ad (celC ad cA) Q) (F0 m 0 ls []) := by
  obtain ⟨hx, hb, hml, hown, hts, hr, hlocks⟩ := C0
  have hD := wd_D (s := s) (cel := celC ad cA) (σ := s0) hi
  unfold B_X5_takeStop_e at hv
  refine lv_aload_n hx hb dX5_takeStop_0 rfl (lv_at hl 0 rfl) ?_
  refine r_get hx hb hts (iwX5_takeStop_X5) hown hK.1 hP 69 (by decide) (ceRe_0 (s0 69)) rfl 0 (by decide) (hts _ kX5_takeStop_1) (v := .ref (ad 70)) rfl dX5_takeStop_1 ?_
  refine r_get hx hb hts (iwX5_takeStop_X9) hown hK.1 hP 70 (by decide) (ceTo_0 (s0 70)) rfl 2 (by decide) (hts _ kX5_takeStop_2) (v := .int (s0 70 2)) rfl dX5_takeStop_4 ?_
  refine lv_iconst (v := 3) hx hb dX5_takeStop_7 (by decide) ?_
  refine lv_icmp_eq (tgt := 13) hx hb dX5_takeStop_8 (by decide) (fun c8 => ?_) (fun c8 => ?_)
  · have hv := hv.1 c8
    refine lv_aload_n hx hb dX5_takeStop_13 rfl (lv_at hl 0 rfl) ?_
    refine r_get hx hb hts (iwX5_takeStop_X5) hown hK.1 hP 69 (by decide) (ceRe_0 (s0 69)) rfl 0 (by decide) (hts _ kX5_takeStop_1) (v := .ref (ad 70)) rfl dX5_takeStop_14 ?_
    refine r_cv (va_runV (As := []) (rest := []) ⟨hx, hb, hml, hown, hts⟩ (c_X9_advance hi  s0 _ hv H.size) (cwV 0 hts gX5_takeStop_X9_advance rfl rfl rfl (by decide +kernel) ⟨Nat.le_of_ble_eq_true rfl, Nat.le_of_ble_eq_true rfl⟩) ⟨pre_blind, r_recv hK.1 hP 70 (by decide) (ceTo_0 (s0 70)) rfl, pre_of hP hK⟩ rfl rfl hl.1 rfl (lv_room (Nat.le_of_ble_eq_true rfl)) dX5_takeStop_17 ⟨Nat.zero_le _, Nat.zero_le _⟩) hS (fun s1 H locs hv hP hS => ?_)
    have hD := wd_D (s := s) (cel := celC ad cA) (σ := s1) hi
    refine lv_iconst (v := 1) hx hb dX5_takeStop_20 (by decide) ?_
    exact r_zret hx hb hr hlocks (Or.inr rfl) hv hP hS dX5_takeStop_21
  · have hv := hv.2 c8
    refine lv_iconst (v := 0) hx hb dX5_takeStop_11 (by decide) ?_
    exact r_zret hx hb hr hlocks (Or.inl rfl) hv hP hS dX5_takeStop_12
set_option maxHeartbeats 4000000 in
theorem y_X5_takeStop {p : Program} {l : Launch} {e : Env} {s : State} {m : MethodId} {args : Array Value} {below : List Frame} {meth : Method} {c : Code} {dC : Nat → ClassId} {dI : Nat → Nat → Nat} {ad : Nat → Nat} {cA cZ : ClassId} (hi : Inj 81 ad)   (C0 : Cx cX5_takeStop RX5 wsX5_takeStop 1 (some .boolean) p s m args meth c) (hK : KK dC dI cA cZ s) (Q : Int32 → St → Prop) : ∀ P xs ys σ, R_X5_takeStop  Q P xs ys σ → XX p l e ({ frames := 2, cells := 0, slots := 0, locals := 41 } : Room) s m args below meth c (dC, dI) 81 ad (celC ad cA) 1 (ZZ below args s (dC, dI) 81 ad (celC ad cA) Q) (lay_X5_takeStop ad ) P xs ys σ := by
  refine Fx.elim _ (fun P xs ys σ Y hY hB => ?_)
  exact hB.elim
set_option maxHeartbeats 4000000 in
theorem c_X5_takeStop {l : Launch} {dC : Nat → ClassId} {dI : Nat → Nat → Nat} {ad : Nat → Nat} {cA cZ : ClassId} (hi : Inj 81 ad)   (s0 : St) (Q : Int32 → St → Prop) (hv : V_X5_takeStop  s0 Q) (sz : Nat) : Met l yX5_takeStop wsX5_takeStop ({ frames := 2, cells := 0, slots := 0, locals := 41 } : Room) (va_Pc [.ref (ad 69)] (PW dC dI ad cA cZ 81 (celC ad cA) sz s0)) (va_Qi (fun r u => (r = 0 ∨ r = 1) ∧ Q r u) (fun u t => va_P (dC, dI) vwCl (wd 81 ad (celC ad cA) u) t.heap) (AA 81 ad sz)) 0 0 (AA 81 ad sz) := by
  refine Met.ofW (cc := cX5_takeStop) (maxL := 1) (ret := (some .boolean)) (by decide) rfl ?_
  intro p e s m args below meth c s₁ B hml hv0
  obtain ⟨rfl, hsz, hP, hK⟩ := hv0
  subst hsz
  have C0 : Cx cX5_takeStop RX5 wsX5_takeStop 1 (some .boolean) p s m ([.ref (ad 69)] : List Value).toArray meth c := ⟨B.exec, B.bytes, hml, findClass_of_methodNamed B.named, atoms_spec (ws := wsX5_takeStop) B.pre, B.returns, B.notSynchronized⟩
  have hl := lv_entry ([.ref (ad 69)]) (n := 1) (Nat.le_of_ble_eq_true rfl)
  rw [lg_entry_eq]
  generalize (lg_sl ([.ref (ad 69)]) ++ List.replicate (1 - (lg_sl ([.ref (ad 69)])).length) Slot.unset).toArray = ls at hl ⊢
  have hl : lv_has ls 1 [(0, .ref (ad 69))] := hl
  exact w_X5_takeStop_e hi   C0 hK Q (R_X5_takeStop  Q) (y_X5_takeStop hi   C0 hK Q)  s0 hv hP va_S.rf hl
def lay_X5_takeNumber (ad : Nat → Nat) (a1 : Int32) (a2 : Int32) : Nat → List Int32 → List Int64 → Option (List (Nat × Value) × List Value) := fun P xs ys => match P, xs, ys with
  | _, _, _ => none
set_option maxHeartbeats 4000000 in
set_option maxRecDepth 100000 in
theorem w_X5_takeNumber_e {p : Program} {l : Launch} {e : Env} {s : State} {m : MethodId} {args : Array Value} {below : List Frame} {meth : Method} {c : Code} {dC : Nat → ClassId} {dI : Nat → Nat → Nat} {ad : Nat → Nat} {cA cZ : ClassId} (hi : Inj 81 ad) (a1 : Int32) (a2 : Int32)  (C0 : Cx cX5_takeNumber RX5 wsX5_takeNumber 4 (some .int) p s m args meth c) (hK : KK dC dI cA cZ s) (Q : Int32 → St → Prop) (Y : Nat → List Int32 → List Int64 → St → Prop) (hY : ∀ P xs ys σ, Y P xs ys σ → XX p l e ({ frames := 2, cells := 0, slots := 0, locals := 41 } : Room) s m args below meth c (dC, dI) 81 ad (celC ad cA) 4 (ZI below args s (dC, dI) 81 ad (celC ad cA) Q) (lay_X5_takeNumber ad a1 a2) P xs ys σ)  (s0 : St) (hv : B_X5_takeNumber_e a1 a2 Q Y  s0) {H : Heap} {locs : List Loc} {ls : Array Slot} (hP : va_P (dC, dI) vwCl (wd 81 ad (celC ad cA) s0) H) (hS : va_S (AA 81 ad s.heap.size) s.heap H locs) (hl : lv_has ls 4 [(0, .ref (ad 69)), (1, .int a1), (2, .int a2)]) : W p l e ({ frames := 2, cells := 0, slots := 0, locals := 41 } : Room) s m args below meth c H locs 0 0 (ZI below args s (dC, dI) 81 ad (celC ad cA) Q) (F0 m 0 ls []) := by
  obtain ⟨hx, hb, hml, hown, hts, hr, hlocks⟩ := C0
  have hD := wd_D (s := s) (cel := celC ad cA) (σ := s0) hi
  unfold B_X5_takeNumber_e at hv
  refine lv_aload_n hx hb dX5_takeNumber_0 rfl (lv_at hl 0 rfl) ?_
  refine r_get hx hb hts (iwX5_takeNumber_X5) hown hK.1 hP 69 (by decide) (ceRe_0 (s0 69)) rfl 0 (by decide) (hts _ kX5_takeNumber_1) (v := .ref (ad 70)) rfl dX5_takeNumber_1 ?_
  refine r_get hx hb hts (iwX5_takeNumber_X9) hown hK.1 hP 70 (by decide) (ceTo_0 (s0 70)) rfl 4 (by decide) (hts _ kX5_takeNumber_2) (v := .int (s0 70 4)) rfl dX5_takeNumber_4 ?_
  refine lv_istore_n (lv' := [(3, .int (s0 70 4)), (0, .ref (ad 69)), (1, .int a1), (2, .int a2)]) hx hb dX5_takeNumber_7 rfl hl (by decide) rfl (fun ls hl => ?_)
  refine lv_iload_n hx hb dX5_takeNumber_8 rfl (lv_at hl 0 rfl) ?_
  refine lv_iload_n hx hb dX5_takeNumber_9 rfl (lv_at hl 2 rfl) ?_
  refine lv_iload_n hx hb dX5_takeNumber_10 rfl (lv_at hl 3 rfl) ?_
  refine r_ci (va_runSN (As := [.int (s0 70 4), .int a1, .int a2]) (rest := []) ⟨hx, hb, hml, hown, hts⟩ (c_X10_within hi (s0 70 4) a1 a2 s0 _ hv H.size) ⟨va_cnB 3 hts gX5_takeNumber_X10_within_n86 rfl rfl rfl hK.2.2 (hts _ kX5_takeNumber_4) (by decide +kernel) ⟨Nat.le_of_ble_eq_true rfl, Nat.le_of_ble_eq_true rfl⟩, (hts _ kX5_takeNumber_3), trivial⟩ ⟨pre_blind, pre_of hP hK⟩ rfl rfl hl.1 rfl (lv_room (Nat.le_of_ble_eq_true rfl)) dX5_takeNumber_11 ⟨Nat.zero_le _, Nat.zero_le _⟩) hS (fun r1 s1 H locs hv hP hS => ?_)
  obtain ⟨hz_r1, hv⟩ := hv
  have hD := wd_D (s := s) (cel := celC ad cA) (σ := s1) hi
  refine lv_if_ne (tgt := 19) hx hb dX5_takeNumber_14 (by decide) (fun c14 => ?_) (fun c14 => ?_)
  · have hv := hv.1 c14
    refine lv_aload_n hx hb dX5_takeNumber_19 rfl (lv_at hl 1 rfl) ?_
    refine r_get hx hb hts (iwX5_takeNumber_X5) hown hK.1 hP 69 (by decide) (ceRe_0 (s1 69)) rfl 0 (by decide) (hts _ kX5_takeNumber_1) (v := .ref (ad 70)) rfl dX5_takeNumber_20 ?_
    refine r_cv (va_runV (As := []) (rest := []) ⟨hx, hb, hml, hown, hts⟩ (c_X9_advance hi  s1 _ hv H.size) (cwV 0 hts gX5_takeNumber_X9_advance rfl rfl rfl (by decide +kernel) ⟨Nat.le_of_ble_eq_true rfl, Nat.le_of_ble_eq_true rfl⟩) ⟨pre_blind, r_recv hK.1 hP 70 (by decide) (ceTo_0 (s1 70)) rfl, pre_of hP hK⟩ rfl rfl hl.1 rfl (lv_room (Nat.le_of_ble_eq_true rfl)) dX5_takeNumber_23 ⟨Nat.zero_le _, Nat.zero_le _⟩) hS (fun s2 H locs hv hP hS => ?_)
    have hD := wd_D (s := s) (cel := celC ad cA) (σ := s2) hi
    refine lv_iload_n hx hb dX5_takeNumber_26 rfl (lv_at hl 0 rfl) ?_
    exact r_iret hx hb hr hlocks hv hP hS dX5_takeNumber_27
  · have hv := hv.2 c14
    refine lv_iconst (v := (-1)) hx hb dX5_takeNumber_17 (by decide) ?_
    exact r_iret hx hb hr hlocks hv hP hS dX5_takeNumber_18
set_option maxHeartbeats 4000000 in
theorem y_X5_takeNumber {p : Program} {l : Launch} {e : Env} {s : State} {m : MethodId} {args : Array Value} {below : List Frame} {meth : Method} {c : Code} {dC : Nat → ClassId} {dI : Nat → Nat → Nat} {ad : Nat → Nat} {cA cZ : ClassId} (hi : Inj 81 ad) (a1 : Int32) (a2 : Int32)  (C0 : Cx cX5_takeNumber RX5 wsX5_takeNumber 4 (some .int) p s m args meth c) (hK : KK dC dI cA cZ s) (Q : Int32 → St → Prop) : ∀ P xs ys σ, R_X5_takeNumber a1 a2 Q P xs ys σ → XX p l e ({ frames := 2, cells := 0, slots := 0, locals := 41 } : Room) s m args below meth c (dC, dI) 81 ad (celC ad cA) 4 (ZI below args s (dC, dI) 81 ad (celC ad cA) Q) (lay_X5_takeNumber ad a1 a2) P xs ys σ := by
  refine Fx.elim _ (fun P xs ys σ Y hY hB => ?_)
  exact hB.elim
set_option maxHeartbeats 4000000 in
theorem c_X5_takeNumber {l : Launch} {dC : Nat → ClassId} {dI : Nat → Nat → Nat} {ad : Nat → Nat} {cA cZ : ClassId} (hi : Inj 81 ad) (a1 : Int32) (a2 : Int32)  (s0 : St) (Q : Int32 → St → Prop) (hv : V_X5_takeNumber a1 a2 s0 Q) (sz : Nat) : Met l yX5_takeNumber wsX5_takeNumber ({ frames := 2, cells := 0, slots := 0, locals := 41 } : Room) (va_Pc [.ref (ad 69), .int a1, .int a2] (PW dC dI ad cA cZ 81 (celC ad cA) sz s0)) (va_Qi Q (fun u t => va_P (dC, dI) vwCl (wd 81 ad (celC ad cA) u) t.heap) (AA 81 ad sz)) 0 0 (AA 81 ad sz) := by
  refine Met.ofW (cc := cX5_takeNumber) (maxL := 4) (ret := (some .int)) (by decide) rfl ?_
  intro p e s m args below meth c s₁ B hml hv0
  obtain ⟨rfl, hsz, hP, hK⟩ := hv0
  subst hsz
  have C0 : Cx cX5_takeNumber RX5 wsX5_takeNumber 4 (some .int) p s m ([.ref (ad 69), .int a1, .int a2] : List Value).toArray meth c := ⟨B.exec, B.bytes, hml, findClass_of_methodNamed B.named, atoms_spec (ws := wsX5_takeNumber) B.pre, B.returns, B.notSynchronized⟩
  have hl := lv_entry ([.ref (ad 69), .int a1, .int a2]) (n := 4) (Nat.le_of_ble_eq_true rfl)
  rw [lg_entry_eq]
  generalize (lg_sl ([.ref (ad 69), .int a1, .int a2]) ++ List.replicate (4 - (lg_sl ([.ref (ad 69), .int a1, .int a2])).length) Slot.unset).toArray = ls at hl ⊢
  have hl : lv_has ls 4 [(0, .ref (ad 69)), (1, .int a1), (2, .int a2)] := hl
  exact w_X5_takeNumber_e hi a1 a2  C0 hK Q (R_X5_takeNumber a1 a2 Q) (y_X5_takeNumber hi a1 a2  C0 hK Q)  s0 hv hP va_S.rf hl
def lay_X5_readWets (ad : Nat → Nat)  : Nat → List Int32 → List Int64 → Option (List (Nat × Value) × List Value) := fun P xs ys => match P, xs, ys with
  | 9, [x1], [] => some ([(0, .ref (ad 69)), (1, .int x1)], [])
  | _, _, _ => none
set_option maxHeartbeats 4000000 in
set_option maxRecDepth 100000 in
theorem w_X5_readWets_e {p : Program} {l : Launch} {e : Env} {s : State} {m : MethodId} {args : Array Value} {below : List Frame} {meth : Method} {c : Code} {dC : Nat → ClassId} {dI : Nat → Nat → Nat} {ad : Nat → Nat} {cA cZ : ClassId} (hi : Inj 81 ad)   (C0 : Cx cX5_readWets RX5 wsX5_readWets 3 (some .boolean) p s m args meth c) (hK : KK dC dI cA cZ s) (Q : Int32 → St → Prop) (Y : Nat → List Int32 → List Int64 → St → Prop) (hY : ∀ P xs ys σ, Y P xs ys σ → XX p l e ({ frames := 3, cells := 0, slots := 0, locals := 64 } : Room) s m args below meth c (dC, dI) 81 ad (celC ad cA) 3 (ZZ below args s (dC, dI) 81 ad (celC ad cA) Q) (lay_X5_readWets ad ) P xs ys σ)  (s0 : St) (hv : B_X5_readWets_e  Q Y  s0) {H : Heap} {locs : List Loc} {ls : Array Slot} (hP : va_P (dC, dI) vwCl (wd 81 ad (celC ad cA) s0) H) (hS : va_S (AA 81 ad s.heap.size) s.heap H locs) (hl : lv_has ls 3 [(0, .ref (ad 69))]) : W p l e ({ frames := 3, cells := 0, slots := 0, locals := 64 } : Room) s m args below meth c H locs 0 0 (ZZ below args s (dC, dI) 81 ad (celC ad cA) Q) (F0 m 0 ls []) := by
  obtain ⟨hx, hb, hml, hown, hts, hr, hlocks⟩ := C0
  have hD := wd_D (s := s) (cel := celC ad cA) (σ := s0) hi
  unfold B_X5_readWets_e at hv
  refine lv_aload_n hx hb dX5_readWets_0 rfl (lv_at hl 0 rfl) ?_
  refine r_get hx hb hts (iwX5_readWets_X5) hown hK.1 hP 69 (by decide) (ceRe_0 (s0 69)) rfl 0 (by decide) (hts _ kX5_readWets_1) (v := .ref (ad 70)) rfl dX5_readWets_1 ?_
  refine r_cv (va_runV (As := []) (rest := []) ⟨hx, hb, hml, hown, hts⟩ (c_X9_advance hi  s0 _ hv H.size) (cwV 0 hts gX5_readWets_X9_advance rfl rfl rfl (by decide +kernel) ⟨Nat.le_of_ble_eq_true rfl, Nat.le_of_ble_eq_true rfl⟩) ⟨pre_blind, r_recv hK.1 hP 70 (by decide) (ceTo_0 (s0 70)) rfl, pre_of hP hK⟩ rfl rfl hl.1 rfl (lv_room (Nat.le_of_ble_eq_true rfl)) dX5_readWets_4 ⟨Nat.zero_le _, Nat.zero_le _⟩) hS (fun s1 H locs hv hP hS => ?_)
  have hD := wd_D (s := s) (cel := celC ad cA) (σ := s1) hi
  refine lv_iconst (v := 0) hx hb dX5_readWets_7 (by decide) ?_
  refine lv_istore_n (lv' := [(1, .int 0), (0, .ref (ad 69))]) hx hb dX5_readWets_8 rfl hl (by decide) rfl (fun ls hl => ?_)
  exact hY 9 [0] [] s1 hv _ _ rfl H locs ls hP hS (lv_sub hl [1, 0] rfl)
set_option maxHeartbeats 4000000 in
set_option maxRecDepth 100000 in
theorem w_X5_readWets_9 {p : Program} {l : Launch} {e : Env} {s : State} {m : MethodId} {args : Array Value} {below : List Frame} {meth : Method} {c : Code} {dC : Nat → ClassId} {dI : Nat → Nat → Nat} {ad : Nat → Nat} {cA cZ : ClassId} (hi : Inj 81 ad)   (C0 : Cx cX5_readWets RX5 wsX5_readWets 3 (some .boolean) p s m args meth c) (hK : KK dC dI cA cZ s) (Q : Int32 → St → Prop) (Y : Nat → List Int32 → List Int64 → St → Prop) (hY : ∀ P xs ys σ, Y P xs ys σ → XX p l e ({ frames := 3, cells := 0, slots := 0, locals := 64 } : Room) s m args below meth c (dC, dI) 81 ad (celC ad cA) 3 (ZZ below args s (dC, dI) 81 ad (celC ad cA) Q) (lay_X5_readWets ad ) P xs ys σ) (x1 : Int32) (s0 : St) (hv : B_X5_readWets_9  Q Y x1 s0) {H : Heap} {locs : List Loc} {ls : Array Slot} (hP : va_P (dC, dI) vwCl (wd 81 ad (celC ad cA) s0) H) (hS : va_S (AA 81 ad s.heap.size) s.heap H locs) (hl : lv_has ls 3 [(0, .ref (ad 69)), (1, .int x1)]) : W p l e ({ frames := 3, cells := 0, slots := 0, locals := 64 } : Room) s m args below meth c H locs 0 0 (ZZ below args s (dC, dI) 81 ad (celC ad cA) Q) (F0 m 9 ls []) := by
  obtain ⟨hx, hb, hml, hown, hts, hr, hlocks⟩ := C0
  have hD := wd_D (s := s) (cel := celC ad cA) (σ := s0) hi
  unfold B_X5_readWets_9 at hv
  refine lv_aload_n hx hb dX5_readWets_9 rfl (lv_at hl 0 rfl) ?_
  refine lv_iconst (v := 0) hx hb dX5_readWets_10 (by decide) ?_
  refine lv_iconst (v := 4) hx hb dX5_readWets_11 (by decide) ?_
  refine r_ci (va_runV (As := [.int 0, .int 4]) (rest := []) ⟨hx, hb, hml, hown, hts⟩ (c_X5_takeNumber hi 0 4 s0 _ hv H.size) (cwV 2 hts gX5_readWets_X5_takeNumber rfl rfl rfl (by decide +kernel) ⟨Nat.le_of_ble_eq_true rfl, Nat.le_of_ble_eq_true rfl⟩) ⟨pre_blind, r_recv hK.1 hP 69 (by decide) (ceRe_0 (s0 69)) rfl, pre_of hP hK⟩ rfl rfl hl.1 rfl (lv_room (Nat.le_of_ble_eq_true rfl)) dX5_readWets_12 ⟨Nat.zero_le _, Nat.zero_le _⟩) hS (fun r1 s1 H locs hv hP hS => ?_)
  have hD := wd_D (s := s) (cel := celC ad cA) (σ := s1) hi
  refine lv_istore_n (lv' := [(2, .int r1), (0, .ref (ad 69)), (1, .int x1)]) hx hb dX5_readWets_15 rfl hl (by decide) rfl (fun ls hl => ?_)
  refine lv_iload_n hx hb dX5_readWets_16 rfl (lv_at hl 0 rfl) ?_
  refine lv_iconst (v := (-1)) hx hb dX5_readWets_17 (by decide) ?_
  refine lv_icmp_ne (tgt := 23) hx hb dX5_readWets_18 (by decide) (fun c18 => ?_) (fun c18 => ?_)
  · have hv := hv.1 c18
    refine lv_aload_n hx hb dX5_readWets_23 rfl (lv_at hl 1 rfl) ?_
    refine r_get hx hb hts (iwX5_readWets_X5) hown hK.1 hP 69 (by decide) (ceRe_0 (s1 69)) rfl 1 (by decide) (hts _ kX5_readWets_2) (v := .ref (ad 72)) rfl dX5_readWets_24 ?_
    refine r_get hx hb hts (iwX5_readWets_X8) hown hK.1 hP 72 (ltSt_0 vSt_72) (ceSt_0 vSt_72 (s1 72)) rfl 0 (by decide) (hts _ kX5_readWets_3) (v := .ref (ad 73)) rfl dX5_readWets_27 ?_
    refine lv_iload_n hx hb dX5_readWets_30 rfl (lv_at hl 2 rfl) ?_
    refine lv_iload_n hx hb dX5_readWets_31 rfl (lv_at hl 0 rfl) ?_
    obtain ⟨hin, hv⟩ := hv
    refine r_iast hx hb hK.1 hP hD hS 73 (ltSt_1 vSt_72) (ceSt_1 vSt_72 (s1 73)) (ceSt_1 vSt_72 _) hin dX5_readWets_32 (fun H locs s2 es2 hP hD hS => ?_)
    have hv := hv s2 es2
    refine lv_iinc (v := x1 + 1) (lv' := [(1, .int (x1 + 1)), (2, .int r1), (0, .ref (ad 69))]) hx hb dX5_readWets_33 hl (k := 2) rfl rfl (by decide) rfl (fun ls hl => ?_)
    refine lv_iload_n hx hb dX5_readWets_36 rfl (lv_at hl 0 rfl) ?_
    refine lv_bipush (v := 6) hx hb dX5_readWets_37 (by decide) ?_
    refine lv_icmp_ge (tgt := 53) hx hb dX5_readWets_39 (by decide) (fun c39 => ?_) (fun c39 => ?_)
    · have hv := hv.1 c39
      refine lv_iconst (v := 1) hx hb dX5_readWets_53 (by decide) ?_
      exact r_zret hx hb hr hlocks (Or.inr rfl) hv hP hS dX5_readWets_54
    · have hv := hv.2 c39
      refine lv_aload_n hx hb dX5_readWets_42 rfl (lv_at hl 2 rfl) ?_
      refine r_get hx hb hts (iwX5_readWets_X5) hown hK.1 hP 69 (by decide) (ceRe_0 (s2 69)) rfl 0 (by decide) (hts _ kX5_readWets_1) (v := .ref (ad 70)) rfl dX5_readWets_43 ?_
      refine r_get hx hb hts (iwX5_readWets_X9) hown hK.1 hP 70 (by decide) (ceTo_0 (s2 70)) rfl 2 (by decide) (hts _ kX5_readWets_4) (v := .int (s2 70 2)) rfl dX5_readWets_46 ?_
      refine lv_iconst (v := 2) hx hb dX5_readWets_49 (by decide) ?_
      refine lv_icmp_eq (tgt := 9) hx hb dX5_readWets_50 (by decide) (fun c50 => ?_) (fun c50 => ?_)
      · have hv := hv.1 c50
        exact hY 9 [x1 + 1] [] s2 hv _ _ rfl H locs ls hP hS (lv_sub hl [2, 0] rfl)
      · have hv := hv.2 c50
        refine lv_iconst (v := 1) hx hb dX5_readWets_53 (by decide) ?_
        exact r_zret hx hb hr hlocks (Or.inr rfl) hv hP hS dX5_readWets_54
  · have hv := hv.2 c18
    refine lv_iconst (v := 0) hx hb dX5_readWets_21 (by decide) ?_
    exact r_zret hx hb hr hlocks (Or.inl rfl) hv hP hS dX5_readWets_22
set_option maxHeartbeats 4000000 in
theorem y_X5_readWets {p : Program} {l : Launch} {e : Env} {s : State} {m : MethodId} {args : Array Value} {below : List Frame} {meth : Method} {c : Code} {dC : Nat → ClassId} {dI : Nat → Nat → Nat} {ad : Nat → Nat} {cA cZ : ClassId} (hi : Inj 81 ad)   (C0 : Cx cX5_readWets RX5 wsX5_readWets 3 (some .boolean) p s m args meth c) (hK : KK dC dI cA cZ s) (Q : Int32 → St → Prop) : ∀ P xs ys σ, R_X5_readWets  Q P xs ys σ → XX p l e ({ frames := 3, cells := 0, slots := 0, locals := 64 } : Room) s m args below meth c (dC, dI) 81 ad (celC ad cA) 3 (ZZ below args s (dC, dI) 81 ad (celC ad cA) Q) (lay_X5_readWets ad ) P xs ys σ := by
  refine Fx.elim _ (fun P xs ys σ Y hY hB => ?_)
  rcases hB with ⟨rfl, x1, rfl, rfl, hB⟩
  · intro lv st he H locs ls hP hS hl
    cases he
    exact w_X5_readWets_9 hi   C0 hK Q Y hY x1 σ hB hP hS hl
set_option maxHeartbeats 4000000 in
theorem c_X5_readWets {l : Launch} {dC : Nat → ClassId} {dI : Nat → Nat → Nat} {ad : Nat → Nat} {cA cZ : ClassId} (hi : Inj 81 ad)   (s0 : St) (Q : Int32 → St → Prop) (hv : V_X5_readWets  s0 Q) (sz : Nat) : Met l yX5_readWets wsX5_readWets ({ frames := 3, cells := 0, slots := 0, locals := 64 } : Room) (va_Pc [.ref (ad 69)] (PW dC dI ad cA cZ 81 (celC ad cA) sz s0)) (va_Qi (fun r u => (r = 0 ∨ r = 1) ∧ Q r u) (fun u t => va_P (dC, dI) vwCl (wd 81 ad (celC ad cA) u) t.heap) (AA 81 ad sz)) 0 0 (AA 81 ad sz) := by
  refine Met.ofW (cc := cX5_readWets) (maxL := 3) (ret := (some .boolean)) (by decide) rfl ?_
  intro p e s m args below meth c s₁ B hml hv0
  obtain ⟨rfl, hsz, hP, hK⟩ := hv0
  subst hsz
  have C0 : Cx cX5_readWets RX5 wsX5_readWets 3 (some .boolean) p s m ([.ref (ad 69)] : List Value).toArray meth c := ⟨B.exec, B.bytes, hml, findClass_of_methodNamed B.named, atoms_spec (ws := wsX5_readWets) B.pre, B.returns, B.notSynchronized⟩
  have hl := lv_entry ([.ref (ad 69)]) (n := 3) (Nat.le_of_ble_eq_true rfl)
  rw [lg_entry_eq]
  generalize (lg_sl ([.ref (ad 69)]) ++ List.replicate (3 - (lg_sl ([.ref (ad 69)])).length) Slot.unset).toArray = ls at hl ⊢
  have hl : lv_has ls 3 [(0, .ref (ad 69))] := hl
  exact w_X5_readWets_e hi   C0 hK Q (R_X5_readWets  Q) (y_X5_readWets hi   C0 hK Q)  s0 hv hP va_S.rf hl
def lay_X5_readGlove (ad : Nat → Nat)  : Nat → List Int32 → List Int64 → Option (List (Nat × Value) × List Value) := fun P xs ys => match P, xs, ys with
  | 44, [x1, t0], [] => some ([(0, .ref (ad 69)), (1, .int x1)], [.int t0])
  | 61, [x1, x2, t0], [] => some ([(0, .ref (ad 69)), (1, .int x1), (2, .int x2)], [.int t0])
  | _, _, _ => none
set_option maxHeartbeats 4000000 in
set_option maxRecDepth 100000 in
theorem w_X5_readGlove_e {p : Program} {l : Launch} {e : Env} {s : State} {m : MethodId} {args : Array Value} {below : List Frame} {meth : Method} {c : Code} {dC : Nat → ClassId} {dI : Nat → Nat → Nat} {ad : Nat → Nat} {cA cZ : ClassId} (hi : Inj 81 ad)   (C0 : Cx cX5_readGlove RX5 wsX5_readGlove 4 (some .boolean) p s m args meth c) (hK : KK dC dI cA cZ s) (Q : Int32 → St → Prop) (Y : Nat → List Int32 → List Int64 → St → Prop) (hY : ∀ P xs ys σ, Y P xs ys σ → XX p l e ({ frames := 3, cells := 0, slots := 0, locals := 64 } : Room) s m args below meth c (dC, dI) 81 ad (celC ad cA) 4 (ZZ below args s (dC, dI) 81 ad (celC ad cA) Q) (lay_X5_readGlove ad ) P xs ys σ)  (s0 : St) (hv : B_X5_readGlove_e  Q Y  s0) {H : Heap} {locs : List Loc} {ls : Array Slot} (hP : va_P (dC, dI) vwCl (wd 81 ad (celC ad cA) s0) H) (hS : va_S (AA 81 ad s.heap.size) s.heap H locs) (hl : lv_has ls 4 [(0, .ref (ad 69))]) : W p l e ({ frames := 3, cells := 0, slots := 0, locals := 64 } : Room) s m args below meth c H locs 0 0 (ZZ below args s (dC, dI) 81 ad (celC ad cA) Q) (F0 m 0 ls []) := by
  obtain ⟨hx, hb, hml, hown, hts, hr, hlocks⟩ := C0
  have hD := wd_D (s := s) (cel := celC ad cA) (σ := s0) hi
  unfold B_X5_readGlove_e at hv
  refine lv_aload_n hx hb dX5_readGlove_0 rfl (lv_at hl 0 rfl) ?_
  refine r_get hx hb hts (iwX5_readGlove_X5) hown hK.1 hP 69 (by decide) (ceRe_0 (s0 69)) rfl 1 (by decide) (hts _ kX5_readGlove_1) (v := .ref (ad 72)) rfl dX5_readGlove_1 ?_
  refine r_get hx hb hts (iwX5_readGlove_X8) hown hK.1 hP 72 (ltSt_0 vSt_72) (ceSt_0 vSt_72 (s0 72)) rfl 8 (by decide) (hts _ kX5_readGlove_2) (v := .int (s0 72 8)) rfl dX5_readGlove_4 ?_
  refine lv_bipush (v := 7) hx hb dX5_readGlove_7 (by decide) ?_
  refine lv_icmp_lt (tgt := 14) hx hb dX5_readGlove_9 (by decide) (fun c9 => ?_) (fun c9 => ?_)
  · have hv := hv.1 c9
    refine lv_aload_n hx hb dX5_readGlove_14 rfl (lv_at hl 0 rfl) ?_
    refine r_get hx hb hts (iwX5_readGlove_X5) hown hK.1 hP 69 (by decide) (ceRe_0 (s0 69)) rfl 0 (by decide) (hts _ kX5_readGlove_3) (v := .ref (ad 70)) rfl dX5_readGlove_15 ?_
    refine r_cv (va_runV (As := []) (rest := []) ⟨hx, hb, hml, hown, hts⟩ (c_X9_advance hi  s0 _ hv H.size) (cwV 0 hts gX5_readGlove_X9_advance rfl rfl rfl (by decide +kernel) ⟨Nat.le_of_ble_eq_true rfl, Nat.le_of_ble_eq_true rfl⟩) ⟨pre_blind, r_recv hK.1 hP 70 (by decide) (ceTo_0 (s0 70)) rfl, pre_of hP hK⟩ rfl rfl hl.1 rfl (lv_room (Nat.le_of_ble_eq_true rfl)) dX5_readGlove_18 ⟨Nat.zero_le _, Nat.zero_le _⟩) hS (fun s1 H locs hv hP hS => ?_)
    have hD := wd_D (s := s) (cel := celC ad cA) (σ := s1) hi
    refine lv_aload_n hx hb dX5_readGlove_21 rfl (lv_at hl 0 rfl) ?_
    refine lv_iconst (v := 0) hx hb dX5_readGlove_22 (by decide) ?_
    refine lv_iconst (v := 5) hx hb dX5_readGlove_23 (by decide) ?_
    refine r_ci (va_runV (As := [.int 0, .int 5]) (rest := []) ⟨hx, hb, hml, hown, hts⟩ (c_X5_takeNumber hi 0 5 s1 _ hv H.size) (cwV 2 hts gX5_readGlove_X5_takeNumber rfl rfl rfl (by decide +kernel) ⟨Nat.le_of_ble_eq_true rfl, Nat.le_of_ble_eq_true rfl⟩) ⟨pre_blind, r_recv hK.1 hP 69 (by decide) (ceRe_0 (s1 69)) rfl, pre_of hP hK⟩ rfl rfl hl.1 rfl (lv_room (Nat.le_of_ble_eq_true rfl)) dX5_readGlove_24 ⟨Nat.zero_le _, Nat.zero_le _⟩) hS (fun r2 s2 H locs hv hP hS => ?_)
    have hD := wd_D (s := s) (cel := celC ad cA) (σ := s2) hi
    refine lv_istore_n (lv' := [(1, .int r2), (0, .ref (ad 69))]) hx hb dX5_readGlove_27 rfl hl (by decide) rfl (fun ls hl => ?_)
    refine lv_iload_n hx hb dX5_readGlove_28 rfl (lv_at hl 0 rfl) ?_
    refine lv_iconst (v := (-1)) hx hb dX5_readGlove_29 (by decide) ?_
    refine lv_icmp_ne (tgt := 37) hx hb dX5_readGlove_30 (by decide) (fun c30 => ?_) (fun c30 => ?_)
    · have hv := hv.1 c30
      refine lv_aload_n hx hb dX5_readGlove_37 rfl (lv_at hl 1 rfl) ?_
      refine lv_iconst (v := 1) hx hb dX5_readGlove_38 (by decide) ?_
      refine lv_bipush (v := 9) hx hb dX5_readGlove_39 (by decide) ?_
      refine r_ci (va_runV (As := [.int 1, .int 9]) (rest := []) ⟨hx, hb, hml, hown, hts⟩ (c_X5_takeNumber hi 1 9 s2 _ hv H.size) (cwV 2 hts gX5_readGlove_X5_takeNumber rfl rfl rfl (by decide +kernel) ⟨Nat.le_of_ble_eq_true rfl, Nat.le_of_ble_eq_true rfl⟩) ⟨pre_blind, r_recv hK.1 hP 69 (by decide) (ceRe_0 (s2 69)) rfl, pre_of hP hK⟩ rfl rfl hl.1 rfl (lv_room (Nat.le_of_ble_eq_true rfl)) dX5_readGlove_41 ⟨Nat.zero_le _, Nat.zero_le _⟩) hS (fun r3 s3 H locs hv hP hS => ?_)
      have hD := wd_D (s := s) (cel := celC ad cA) (σ := s3) hi
      exact hY 44 [r2, r3] [] s3 hv _ _ rfl H locs ls hP hS (lv_sub hl [1, 0] rfl)
    · have hv := hv.2 c30
      refine lv_iconst (v := (-1)) hx hb dX5_readGlove_33 (by decide) ?_
      refine lv_goto (tgt := 44) hx hb dX5_readGlove_34 (by decide) ?_
      exact hY 44 [r2, (-1)] [] s2 hv _ _ rfl H locs ls hP hS (lv_sub hl [1, 0] rfl)
  · have hv := hv.2 c9
    refine lv_iconst (v := 0) hx hb dX5_readGlove_12 (by decide) ?_
    exact r_zret hx hb hr hlocks (Or.inl rfl) hv hP hS dX5_readGlove_13
set_option maxHeartbeats 4000000 in
set_option maxRecDepth 100000 in
theorem w_X5_readGlove_44 {p : Program} {l : Launch} {e : Env} {s : State} {m : MethodId} {args : Array Value} {below : List Frame} {meth : Method} {c : Code} {dC : Nat → ClassId} {dI : Nat → Nat → Nat} {ad : Nat → Nat} {cA cZ : ClassId} (hi : Inj 81 ad)   (C0 : Cx cX5_readGlove RX5 wsX5_readGlove 4 (some .boolean) p s m args meth c) (hK : KK dC dI cA cZ s) (Q : Int32 → St → Prop) (Y : Nat → List Int32 → List Int64 → St → Prop) (hY : ∀ P xs ys σ, Y P xs ys σ → XX p l e ({ frames := 3, cells := 0, slots := 0, locals := 64 } : Room) s m args below meth c (dC, dI) 81 ad (celC ad cA) 4 (ZZ below args s (dC, dI) 81 ad (celC ad cA) Q) (lay_X5_readGlove ad ) P xs ys σ) (x1 : Int32) (t0 : Int32) (s0 : St) (hv : B_X5_readGlove_44  Q Y x1 t0 s0) {H : Heap} {locs : List Loc} {ls : Array Slot} (hP : va_P (dC, dI) vwCl (wd 81 ad (celC ad cA) s0) H) (hS : va_S (AA 81 ad s.heap.size) s.heap H locs) (hl : lv_has ls 4 [(0, .ref (ad 69)), (1, .int x1)]) : W p l e ({ frames := 3, cells := 0, slots := 0, locals := 64 } : Room) s m args below meth c H locs 0 0 (ZZ below args s (dC, dI) 81 ad (celC ad cA) Q) (F0 m 44 ls [.int t0]) := by
  obtain ⟨hx, hb, hml, hown, hts, hr, hlocks⟩ := C0
  have hD := wd_D (s := s) (cel := celC ad cA) (σ := s0) hi
  unfold B_X5_readGlove_44 at hv
  refine lv_istore_n (lv' := [(2, .int t0), (0, .ref (ad 69)), (1, .int x1)]) hx hb dX5_readGlove_44 rfl hl (by decide) rfl (fun ls hl => ?_)
  refine lv_iload_n hx hb dX5_readGlove_45 rfl (lv_at hl 0 rfl) ?_
  refine lv_iconst (v := (-1)) hx hb dX5_readGlove_46 (by decide) ?_
  refine lv_icmp_ne (tgt := 54) hx hb dX5_readGlove_47 (by decide) (fun c47 => ?_) (fun c47 => ?_)
  · have hv := hv.1 c47
    refine lv_aload_n hx hb dX5_readGlove_54 rfl (lv_at hl 1 rfl) ?_
    refine lv_iconst (v := 0) hx hb dX5_readGlove_55 (by decide) ?_
    refine lv_bipush (v := 23) hx hb dX5_readGlove_56 (by decide) ?_
    refine r_ci (va_runV (As := [.int 0, .int 23]) (rest := []) ⟨hx, hb, hml, hown, hts⟩ (c_X5_takeNumber hi 0 23 s0 _ hv H.size) (cwV 2 hts gX5_readGlove_X5_takeNumber rfl rfl rfl (by decide +kernel) ⟨Nat.le_of_ble_eq_true rfl, Nat.le_of_ble_eq_true rfl⟩) ⟨pre_blind, r_recv hK.1 hP 69 (by decide) (ceRe_0 (s0 69)) rfl, pre_of hP hK⟩ rfl rfl hl.1 rfl (lv_room (Nat.le_of_ble_eq_true rfl)) dX5_readGlove_58 ⟨Nat.zero_le _, Nat.zero_le _⟩) hS (fun r1 s1 H locs hv hP hS => ?_)
    have hD := wd_D (s := s) (cel := celC ad cA) (σ := s1) hi
    exact hY 61 [x1, t0, r1] [] s1 hv _ _ rfl H locs ls hP hS (lv_sub hl [1, 2, 0] rfl)
  · have hv := hv.2 c47
    refine lv_iconst (v := (-1)) hx hb dX5_readGlove_50 (by decide) ?_
    refine lv_goto (tgt := 61) hx hb dX5_readGlove_51 (by decide) ?_
    exact hY 61 [x1, t0, (-1)] [] s0 hv _ _ rfl H locs ls hP hS (lv_sub hl [1, 2, 0] rfl)
set_option maxHeartbeats 4000000 in
set_option maxRecDepth 100000 in
theorem w_X5_readGlove_61 {p : Program} {l : Launch} {e : Env} {s : State} {m : MethodId} {args : Array Value} {below : List Frame} {meth : Method} {c : Code} {dC : Nat → ClassId} {dI : Nat → Nat → Nat} {ad : Nat → Nat} {cA cZ : ClassId} (hi : Inj 81 ad)   (C0 : Cx cX5_readGlove RX5 wsX5_readGlove 4 (some .boolean) p s m args meth c) (hK : KK dC dI cA cZ s) (Q : Int32 → St → Prop) (Y : Nat → List Int32 → List Int64 → St → Prop) (hY : ∀ P xs ys σ, Y P xs ys σ → XX p l e ({ frames := 3, cells := 0, slots := 0, locals := 64 } : Room) s m args below meth c (dC, dI) 81 ad (celC ad cA) 4 (ZZ below args s (dC, dI) 81 ad (celC ad cA) Q) (lay_X5_readGlove ad ) P xs ys σ) (x1 : Int32) (x2 : Int32) (t0 : Int32) (s0 : St) (hv : B_X5_readGlove_61  Q Y x1 x2 t0 s0) {H : Heap} {locs : List Loc} {ls : Array Slot} (hP : va_P (dC, dI) vwCl (wd 81 ad (celC ad cA) s0) H) (hS : va_S (AA 81 ad s.heap.size) s.heap H locs) (hl : lv_has ls 4 [(0, .ref (ad 69)), (1, .int x1), (2, .int x2)]) : W p l e ({ frames := 3, cells := 0, slots := 0, locals := 64 } : Room) s m args below meth c H locs 0 0 (ZZ below args s (dC, dI) 81 ad (celC ad cA) Q) (F0 m 61 ls [.int t0]) := by
  obtain ⟨hx, hb, hml, hown, hts, hr, hlocks⟩ := C0
  have hD := wd_D (s := s) (cel := celC ad cA) (σ := s0) hi
  unfold B_X5_readGlove_61 at hv
  refine lv_istore_n (lv' := [(3, .int t0), (0, .ref (ad 69)), (1, .int x1), (2, .int x2)]) hx hb dX5_readGlove_61 rfl hl (by decide) rfl (fun ls hl => ?_)
  refine lv_iload_n hx hb dX5_readGlove_62 rfl (lv_at hl 0 rfl) ?_
  refine lv_iconst (v := (-1)) hx hb dX5_readGlove_63 (by decide) ?_
  refine lv_icmp_eq (tgt := 84) hx hb dX5_readGlove_64 (by decide) (fun c64 => ?_) (fun c64 => ?_)
  · have hv := hv.1 c64
    refine lv_iconst (v := 0) hx hb dX5_readGlove_84 (by decide) ?_
    exact r_zret hx hb hr hlocks (Or.inl rfl) hv hP hS dX5_readGlove_85
  · have hv := hv.2 c64
    refine lv_aload_n hx hb dX5_readGlove_67 rfl (lv_at hl 1 rfl) ?_
    refine r_get hx hb hts (iwX5_readGlove_X5) hown hK.1 hP 69 (by decide) (ceRe_0 (s0 69)) rfl 1 (by decide) (hts _ kX5_readGlove_1) (v := .ref (ad 72)) rfl dX5_readGlove_68 ?_
    refine lv_iload_n hx hb dX5_readGlove_71 rfl (lv_at hl 2 rfl) ?_
    refine lv_iload_n hx hb dX5_readGlove_72 rfl (lv_at hl 3 rfl) ?_
    refine lv_iload_n hx hb dX5_readGlove_73 rfl (lv_at hl 0 rfl) ?_
    refine r_ci (va_runV (As := [.int x1, .int x2, .int t0]) (rest := []) ⟨hx, hb, hml, hown, hts⟩ (c_X8_addGlove hi 72 x1 x2 t0 vSt_72 s0 _ hv H.size) (cwV 3 hts gX5_readGlove_X8_addGlove rfl rfl rfl (by decide +kernel) ⟨Nat.le_of_ble_eq_true rfl, Nat.le_of_ble_eq_true rfl⟩) ⟨pre_blind, r_recv hK.1 hP 72 (ltSt_0 vSt_72) (ceSt_0 vSt_72 (s0 72)) rfl, pre_of hP hK⟩ rfl rfl hl.1 rfl (lv_room (Nat.le_of_ble_eq_true rfl)) dX5_readGlove_74 ⟨Nat.zero_le _, Nat.zero_le _⟩) hS (fun r1 s1 H locs hv hP hS => ?_)
    have hD := wd_D (s := s) (cel := celC ad cA) (σ := s1) hi
    refine lv_if_lt (tgt := 84) hx hb dX5_readGlove_77 (by decide) (fun c77 => ?_) (fun c77 => ?_)
    · have hv := hv.1 c77
      refine lv_iconst (v := 0) hx hb dX5_readGlove_84 (by decide) ?_
      exact r_zret hx hb hr hlocks (Or.inl rfl) hv hP hS dX5_readGlove_85
    · have hv := hv.2 c77
      refine lv_iconst (v := 1) hx hb dX5_readGlove_80 (by decide) ?_
      refine lv_goto (tgt := 85) hx hb dX5_readGlove_81 (by decide) ?_
      exact r_zret hx hb hr hlocks (Or.inr rfl) hv hP hS dX5_readGlove_85
set_option maxHeartbeats 4000000 in
theorem y_X5_readGlove {p : Program} {l : Launch} {e : Env} {s : State} {m : MethodId} {args : Array Value} {below : List Frame} {meth : Method} {c : Code} {dC : Nat → ClassId} {dI : Nat → Nat → Nat} {ad : Nat → Nat} {cA cZ : ClassId} (hi : Inj 81 ad)   (C0 : Cx cX5_readGlove RX5 wsX5_readGlove 4 (some .boolean) p s m args meth c) (hK : KK dC dI cA cZ s) (Q : Int32 → St → Prop) : ∀ P xs ys σ, R_X5_readGlove  Q P xs ys σ → XX p l e ({ frames := 3, cells := 0, slots := 0, locals := 64 } : Room) s m args below meth c (dC, dI) 81 ad (celC ad cA) 4 (ZZ below args s (dC, dI) 81 ad (celC ad cA) Q) (lay_X5_readGlove ad ) P xs ys σ := by
  refine Fx.elim _ (fun P xs ys σ Y hY hB => ?_)
  rcases hB with ⟨rfl, x1, t0, rfl, rfl, hB⟩ | ⟨rfl, x1, x2, t0, rfl, rfl, hB⟩
  · intro lv st he H locs ls hP hS hl
    cases he
    exact w_X5_readGlove_44 hi   C0 hK Q Y hY x1 t0 σ hB hP hS hl
  · intro lv st he H locs ls hP hS hl
    cases he
    exact w_X5_readGlove_61 hi   C0 hK Q Y hY x1 x2 t0 σ hB hP hS hl
set_option maxHeartbeats 4000000 in
theorem c_X5_readGlove {l : Launch} {dC : Nat → ClassId} {dI : Nat → Nat → Nat} {ad : Nat → Nat} {cA cZ : ClassId} (hi : Inj 81 ad)   (s0 : St) (Q : Int32 → St → Prop) (hv : V_X5_readGlove  s0 Q) (sz : Nat) : Met l yX5_readGlove wsX5_readGlove ({ frames := 3, cells := 0, slots := 0, locals := 64 } : Room) (va_Pc [.ref (ad 69)] (PW dC dI ad cA cZ 81 (celC ad cA) sz s0)) (va_Qi (fun r u => (r = 0 ∨ r = 1) ∧ Q r u) (fun u t => va_P (dC, dI) vwCl (wd 81 ad (celC ad cA) u) t.heap) (AA 81 ad sz)) 0 0 (AA 81 ad sz) := by
  refine Met.ofW (cc := cX5_readGlove) (maxL := 4) (ret := (some .boolean)) (by decide) rfl ?_
  intro p e s m args below meth c s₁ B hml hv0
  obtain ⟨rfl, hsz, hP, hK⟩ := hv0
  subst hsz
  have C0 : Cx cX5_readGlove RX5 wsX5_readGlove 4 (some .boolean) p s m ([.ref (ad 69)] : List Value).toArray meth c := ⟨B.exec, B.bytes, hml, findClass_of_methodNamed B.named, atoms_spec (ws := wsX5_readGlove) B.pre, B.returns, B.notSynchronized⟩
  have hl := lv_entry ([.ref (ad 69)]) (n := 4) (Nat.le_of_ble_eq_true rfl)
  rw [lg_entry_eq]
  generalize (lg_sl ([.ref (ad 69)]) ++ List.replicate (4 - (lg_sl ([.ref (ad 69)])).length) Slot.unset).toArray = ls at hl ⊢
  have hl : lv_has ls 4 [(0, .ref (ad 69))] := hl
  exact w_X5_readGlove_e hi   C0 hK Q (R_X5_readGlove  Q) (y_X5_readGlove hi   C0 hK Q)  s0 hv hP va_S.rf hl
def lay_X5_readCrossing (ad : Nat → Nat)  : Nat → List Int32 → List Int64 → Option (List (Nat × Value) × List Value) := fun P xs ys => match P, xs, ys with
  | _, _, _ => none
set_option maxHeartbeats 4000000 in
set_option maxRecDepth 100000 in
theorem w_X5_readCrossing_e {p : Program} {l : Launch} {e : Env} {s : State} {m : MethodId} {args : Array Value} {below : List Frame} {meth : Method} {c : Code} {dC : Nat → ClassId} {dI : Nat → Nat → Nat} {ad : Nat → Nat} {cA cZ : ClassId} (hi : Inj 81 ad)   (C0 : Cx cX5_readCrossing RX5 wsX5_readCrossing 3 (some .boolean) p s m args meth c) (hK : KK dC dI cA cZ s) (Q : Int32 → St → Prop) (Y : Nat → List Int32 → List Int64 → St → Prop) (hY : ∀ P xs ys σ, Y P xs ys σ → XX p l e ({ frames := 3, cells := 0, slots := 0, locals := 64 } : Room) s m args below meth c (dC, dI) 81 ad (celC ad cA) 3 (ZZ below args s (dC, dI) 81 ad (celC ad cA) Q) (lay_X5_readCrossing ad ) P xs ys σ)  (s0 : St) (hv : B_X5_readCrossing_e  Q Y  s0) {H : Heap} {locs : List Loc} {ls : Array Slot} (hP : va_P (dC, dI) vwCl (wd 81 ad (celC ad cA) s0) H) (hS : va_S (AA 81 ad s.heap.size) s.heap H locs) (hl : lv_has ls 3 [(0, .ref (ad 69))]) : W p l e ({ frames := 3, cells := 0, slots := 0, locals := 64 } : Room) s m args below meth c H locs 0 0 (ZZ below args s (dC, dI) 81 ad (celC ad cA) Q) (F0 m 0 ls []) := by
  obtain ⟨hx, hb, hml, hown, hts, hr, hlocks⟩ := C0
  have hD := wd_D (s := s) (cel := celC ad cA) (σ := s0) hi
  unfold B_X5_readCrossing_e at hv
  refine lv_aload_n hx hb dX5_readCrossing_0 rfl (lv_at hl 0 rfl) ?_
  refine r_get hx hb hts (iwX5_readCrossing_X5) hown hK.1 hP 69 (by decide) (ceRe_0 (s0 69)) rfl 1 (by decide) (hts _ kX5_readCrossing_1) (v := .ref (ad 72)) rfl dX5_readCrossing_1 ?_
  refine r_get hx hb hts (iwX5_readCrossing_X8) hown hK.1 hP 72 (ltSt_0 vSt_72) (ceSt_0 vSt_72 (s0 72)) rfl 9 (by decide) (hts _ kX5_readCrossing_2) (v := .int (s0 72 9)) rfl dX5_readCrossing_4 ?_
  refine lv_iconst (v := 3) hx hb dX5_readCrossing_7 (by decide) ?_
  refine lv_icmp_lt (tgt := 13) hx hb dX5_readCrossing_8 (by decide) (fun c8 => ?_) (fun c8 => ?_)
  · have hv := hv.1 c8
    refine lv_aload_n hx hb dX5_readCrossing_13 rfl (lv_at hl 0 rfl) ?_
    refine r_get hx hb hts (iwX5_readCrossing_X5) hown hK.1 hP 69 (by decide) (ceRe_0 (s0 69)) rfl 0 (by decide) (hts _ kX5_readCrossing_3) (v := .ref (ad 70)) rfl dX5_readCrossing_14 ?_
    refine r_cv (va_runV (As := []) (rest := []) ⟨hx, hb, hml, hown, hts⟩ (c_X9_advance hi  s0 _ hv H.size) (cwV 0 hts gX5_readCrossing_X9_advance rfl rfl rfl (by decide +kernel) ⟨Nat.le_of_ble_eq_true rfl, Nat.le_of_ble_eq_true rfl⟩) ⟨pre_blind, r_recv hK.1 hP 70 (by decide) (ceTo_0 (s0 70)) rfl, pre_of hP hK⟩ rfl rfl hl.1 rfl (lv_room (Nat.le_of_ble_eq_true rfl)) dX5_readCrossing_17 ⟨Nat.zero_le _, Nat.zero_le _⟩) hS (fun s1 H locs hv hP hS => ?_)
    have hD := wd_D (s := s) (cel := celC ad cA) (σ := s1) hi
    refine lv_aload_n hx hb dX5_readCrossing_20 rfl (lv_at hl 0 rfl) ?_
    refine lv_iconst (v := 0) hx hb dX5_readCrossing_21 (by decide) ?_
    refine lv_iconst (v := 5) hx hb dX5_readCrossing_22 (by decide) ?_
    refine r_ci (va_runV (As := [.int 0, .int 5]) (rest := []) ⟨hx, hb, hml, hown, hts⟩ (c_X5_takeNumber hi 0 5 s1 _ hv H.size) (cwV 2 hts gX5_readCrossing_X5_takeNumber rfl rfl rfl (by decide +kernel) ⟨Nat.le_of_ble_eq_true rfl, Nat.le_of_ble_eq_true rfl⟩) ⟨pre_blind, r_recv hK.1 hP 69 (by decide) (ceRe_0 (s1 69)) rfl, pre_of hP hK⟩ rfl rfl hl.1 rfl (lv_room (Nat.le_of_ble_eq_true rfl)) dX5_readCrossing_23 ⟨Nat.zero_le _, Nat.zero_le _⟩) hS (fun r2 s2 H locs hv hP hS => ?_)
    have hD := wd_D (s := s) (cel := celC ad cA) (σ := s2) hi
    refine lv_istore_n (lv' := [(1, .int r2), (0, .ref (ad 69))]) hx hb dX5_readCrossing_26 rfl hl (by decide) rfl (fun ls hl => ?_)
    refine lv_iload_n hx hb dX5_readCrossing_27 rfl (lv_at hl 0 rfl) ?_
    refine lv_iconst (v := (-1)) hx hb dX5_readCrossing_28 (by decide) ?_
    refine lv_icmp_eq (tgt := 49) hx hb dX5_readCrossing_29 (by decide) (fun c29 => ?_) (fun c29 => ?_)
    · have hv := hv.1 c29
      refine lv_iconst (v := 0) hx hb dX5_readCrossing_49 (by decide) ?_
      exact r_zret hx hb hr hlocks (Or.inl rfl) hv hP hS dX5_readCrossing_50
    · have hv := hv.2 c29
      refine lv_aload_n hx hb dX5_readCrossing_32 rfl (lv_at hl 1 rfl) ?_
      refine r_get hx hb hts (iwX5_readCrossing_X5) hown hK.1 hP 69 (by decide) (ceRe_0 (s2 69)) rfl 1 (by decide) (hts _ kX5_readCrossing_1) (v := .ref (ad 72)) rfl dX5_readCrossing_33 ?_
      refine lv_aload_n hx hb dX5_readCrossing_36 rfl (lv_at hl 1 rfl) ?_
      refine r_get hx hb hts (iwX5_readCrossing_X5) hown hK.1 hP 69 (by decide) (ceRe_0 (s2 69)) rfl 0 (by decide) (hts _ kX5_readCrossing_3) (v := .ref (ad 70)) rfl dX5_readCrossing_37 ?_
      refine r_get hx hb hts (iwX5_readCrossing_X9) hown hK.1 hP 70 (by decide) (ceTo_0 (s2 70)) rfl 4 (by decide) (hts _ kX5_readCrossing_4) (v := .int (s2 70 4)) rfl dX5_readCrossing_40 ?_
      refine r_ci (va_runV (As := [.int (s2 70 4)]) (rest := []) ⟨hx, hb, hml, hown, hts⟩ (c_X8_hasCrossing hi 72 (s2 70 4) vSt_72 s2 _ hv H.size) (cwV 1 hts gX5_readCrossing_X8_hasCrossing rfl rfl rfl (by decide +kernel) ⟨Nat.le_of_ble_eq_true rfl, Nat.le_of_ble_eq_true rfl⟩) ⟨pre_blind, r_recv hK.1 hP 72 (ltSt_0 vSt_72) (ceSt_0 vSt_72 (s2 72)) rfl, pre_of hP hK⟩ rfl rfl hl.1 rfl (lv_room (Nat.le_of_ble_eq_true rfl)) dX5_readCrossing_43 ⟨Nat.zero_le _, Nat.zero_le _⟩) hS (fun r3 s3 H locs hv hP hS => ?_)
      obtain ⟨hz_r3, hv⟩ := hv
      have hD := wd_D (s := s) (cel := celC ad cA) (σ := s3) hi
      refine lv_if_eq (tgt := 51) hx hb dX5_readCrossing_46 (by decide) (fun c46 => ?_) (fun c46 => ?_)
      · have hv := hv.1 c46
        refine lv_aload_n hx hb dX5_readCrossing_51 rfl (lv_at hl 1 rfl) ?_
        refine lv_iconst (v := 0) hx hb dX5_readCrossing_52 (by decide) ?_
        refine lv_bipush (v := 22) hx hb dX5_readCrossing_53 (by decide) ?_
        refine r_ci (va_runV (As := [.int 0, .int 22]) (rest := []) ⟨hx, hb, hml, hown, hts⟩ (c_X5_takeNumber hi 0 22 s3 _ hv H.size) (cwV 2 hts gX5_readCrossing_X5_takeNumber rfl rfl rfl (by decide +kernel) ⟨Nat.le_of_ble_eq_true rfl, Nat.le_of_ble_eq_true rfl⟩) ⟨pre_blind, r_recv hK.1 hP 69 (by decide) (ceRe_0 (s3 69)) rfl, pre_of hP hK⟩ rfl rfl hl.1 rfl (lv_room (Nat.le_of_ble_eq_true rfl)) dX5_readCrossing_55 ⟨Nat.zero_le _, Nat.zero_le _⟩) hS (fun r4 s4 H locs hv hP hS => ?_)
        have hD := wd_D (s := s) (cel := celC ad cA) (σ := s4) hi
        refine lv_istore_n (lv' := [(2, .int r4), (1, .int r2), (0, .ref (ad 69))]) hx hb dX5_readCrossing_58 rfl hl (by decide) rfl (fun ls hl => ?_)
        refine lv_iload_n hx hb dX5_readCrossing_59 rfl (lv_at hl 0 rfl) ?_
        refine lv_iconst (v := (-1)) hx hb dX5_readCrossing_60 (by decide) ?_
        refine lv_icmp_eq (tgt := 80) hx hb dX5_readCrossing_61 (by decide) (fun c61 => ?_) (fun c61 => ?_)
        · have hv := hv.1 c61
          refine lv_iconst (v := 0) hx hb dX5_readCrossing_80 (by decide) ?_
          exact r_zret hx hb hr hlocks (Or.inl rfl) hv hP hS dX5_readCrossing_81
        · have hv := hv.2 c61
          refine lv_aload_n hx hb dX5_readCrossing_64 rfl (lv_at hl 2 rfl) ?_
          refine r_get hx hb hts (iwX5_readCrossing_X5) hown hK.1 hP 69 (by decide) (ceRe_0 (s4 69)) rfl 1 (by decide) (hts _ kX5_readCrossing_1) (v := .ref (ad 72)) rfl dX5_readCrossing_65 ?_
          refine lv_iload_n hx hb dX5_readCrossing_68 rfl (lv_at hl 1 rfl) ?_
          refine lv_iload_n hx hb dX5_readCrossing_69 rfl (lv_at hl 0 rfl) ?_
          refine r_ci (va_runV (As := [.int r2, .int r4]) (rest := []) ⟨hx, hb, hml, hown, hts⟩ (c_X8_addCrossing hi 72 r2 r4 vSt_72 s4 _ hv H.size) (cwV 2 hts gX5_readCrossing_X8_addCrossing rfl rfl rfl (by decide +kernel) ⟨Nat.le_of_ble_eq_true rfl, Nat.le_of_ble_eq_true rfl⟩) ⟨pre_blind, r_recv hK.1 hP 72 (ltSt_0 vSt_72) (ceSt_0 vSt_72 (s4 72)) rfl, pre_of hP hK⟩ rfl rfl hl.1 rfl (lv_room (Nat.le_of_ble_eq_true rfl)) dX5_readCrossing_70 ⟨Nat.zero_le _, Nat.zero_le _⟩) hS (fun r5 s5 H locs hv hP hS => ?_)
          have hD := wd_D (s := s) (cel := celC ad cA) (σ := s5) hi
          refine lv_if_lt (tgt := 80) hx hb dX5_readCrossing_73 (by decide) (fun c73 => ?_) (fun c73 => ?_)
          · have hv := hv.1 c73
            refine lv_iconst (v := 0) hx hb dX5_readCrossing_80 (by decide) ?_
            exact r_zret hx hb hr hlocks (Or.inl rfl) hv hP hS dX5_readCrossing_81
          · have hv := hv.2 c73
            refine lv_iconst (v := 1) hx hb dX5_readCrossing_76 (by decide) ?_
            refine lv_goto (tgt := 81) hx hb dX5_readCrossing_77 (by decide) ?_
            exact r_zret hx hb hr hlocks (Or.inr rfl) hv hP hS dX5_readCrossing_81
      · have hv := hv.2 c46
        refine lv_iconst (v := 0) hx hb dX5_readCrossing_49 (by decide) ?_
        exact r_zret hx hb hr hlocks (Or.inl rfl) hv hP hS dX5_readCrossing_50
  · have hv := hv.2 c8
    refine lv_iconst (v := 0) hx hb dX5_readCrossing_11 (by decide) ?_
    exact r_zret hx hb hr hlocks (Or.inl rfl) hv hP hS dX5_readCrossing_12
set_option maxHeartbeats 4000000 in
theorem y_X5_readCrossing {p : Program} {l : Launch} {e : Env} {s : State} {m : MethodId} {args : Array Value} {below : List Frame} {meth : Method} {c : Code} {dC : Nat → ClassId} {dI : Nat → Nat → Nat} {ad : Nat → Nat} {cA cZ : ClassId} (hi : Inj 81 ad)   (C0 : Cx cX5_readCrossing RX5 wsX5_readCrossing 3 (some .boolean) p s m args meth c) (hK : KK dC dI cA cZ s) (Q : Int32 → St → Prop) : ∀ P xs ys σ, R_X5_readCrossing  Q P xs ys σ → XX p l e ({ frames := 3, cells := 0, slots := 0, locals := 64 } : Room) s m args below meth c (dC, dI) 81 ad (celC ad cA) 3 (ZZ below args s (dC, dI) 81 ad (celC ad cA) Q) (lay_X5_readCrossing ad ) P xs ys σ := by
  refine Fx.elim _ (fun P xs ys σ Y hY hB => ?_)
  exact hB.elim
set_option maxHeartbeats 4000000 in
theorem c_X5_readCrossing {l : Launch} {dC : Nat → ClassId} {dI : Nat → Nat → Nat} {ad : Nat → Nat} {cA cZ : ClassId} (hi : Inj 81 ad)   (s0 : St) (Q : Int32 → St → Prop) (hv : V_X5_readCrossing  s0 Q) (sz : Nat) : Met l yX5_readCrossing wsX5_readCrossing ({ frames := 3, cells := 0, slots := 0, locals := 64 } : Room) (va_Pc [.ref (ad 69)] (PW dC dI ad cA cZ 81 (celC ad cA) sz s0)) (va_Qi (fun r u => (r = 0 ∨ r = 1) ∧ Q r u) (fun u t => va_P (dC, dI) vwCl (wd 81 ad (celC ad cA) u) t.heap) (AA 81 ad sz)) 0 0 (AA 81 ad sz) := by
  refine Met.ofW (cc := cX5_readCrossing) (maxL := 3) (ret := (some .boolean)) (by decide) rfl ?_
  intro p e s m args below meth c s₁ B hml hv0
  obtain ⟨rfl, hsz, hP, hK⟩ := hv0
  subst hsz
  have C0 : Cx cX5_readCrossing RX5 wsX5_readCrossing 3 (some .boolean) p s m ([.ref (ad 69)] : List Value).toArray meth c := ⟨B.exec, B.bytes, hml, findClass_of_methodNamed B.named, atoms_spec (ws := wsX5_readCrossing) B.pre, B.returns, B.notSynchronized⟩
  have hl := lv_entry ([.ref (ad 69)]) (n := 3) (Nat.le_of_ble_eq_true rfl)
  rw [lg_entry_eq]
  generalize (lg_sl ([.ref (ad 69)]) ++ List.replicate (3 - (lg_sl ([.ref (ad 69)])).length) Slot.unset).toArray = ls at hl ⊢
  have hl : lv_has ls 3 [(0, .ref (ad 69))] := hl
  exact w_X5_readCrossing_e hi   C0 hK Q (R_X5_readCrossing  Q) (y_X5_readCrossing hi   C0 hK Q)  s0 hv hP va_S.rf hl
def lay_X5_readShut (ad : Nat → Nat)  : Nat → List Int32 → List Int64 → Option (List (Nat × Value) × List Value) := fun P xs ys => match P, xs, ys with
  | _, _, _ => none
set_option maxHeartbeats 4000000 in
set_option maxRecDepth 100000 in
theorem w_X5_readShut_e {p : Program} {l : Launch} {e : Env} {s : State} {m : MethodId} {args : Array Value} {below : List Frame} {meth : Method} {c : Code} {dC : Nat → ClassId} {dI : Nat → Nat → Nat} {ad : Nat → Nat} {cA cZ : ClassId} (hi : Inj 81 ad)   (C0 : Cx cX5_readShut RX5 wsX5_readShut 2 (some .boolean) p s m args meth c) (hK : KK dC dI cA cZ s) (Q : Int32 → St → Prop) (Y : Nat → List Int32 → List Int64 → St → Prop) (hY : ∀ P xs ys σ, Y P xs ys σ → XX p l e ({ frames := 3, cells := 0, slots := 0, locals := 64 } : Room) s m args below meth c (dC, dI) 81 ad (celC ad cA) 2 (ZZ below args s (dC, dI) 81 ad (celC ad cA) Q) (lay_X5_readShut ad ) P xs ys σ)  (s0 : St) (hv : B_X5_readShut_e  Q Y  s0) {H : Heap} {locs : List Loc} {ls : Array Slot} (hP : va_P (dC, dI) vwCl (wd 81 ad (celC ad cA) s0) H) (hS : va_S (AA 81 ad s.heap.size) s.heap H locs) (hl : lv_has ls 2 [(0, .ref (ad 69))]) : W p l e ({ frames := 3, cells := 0, slots := 0, locals := 64 } : Room) s m args below meth c H locs 0 0 (ZZ below args s (dC, dI) 81 ad (celC ad cA) Q) (F0 m 0 ls []) := by
  obtain ⟨hx, hb, hml, hown, hts, hr, hlocks⟩ := C0
  have hD := wd_D (s := s) (cel := celC ad cA) (σ := s0) hi
  unfold B_X5_readShut_e at hv
  refine lv_aload_n hx hb dX5_readShut_0 rfl (lv_at hl 0 rfl) ?_
  refine r_get hx hb hts (iwX5_readShut_X5) hown hK.1 hP 69 (by decide) (ceRe_0 (s0 69)) rfl 0 (by decide) (hts _ kX5_readShut_1) (v := .ref (ad 70)) rfl dX5_readShut_1 ?_
  refine r_cv (va_runV (As := []) (rest := []) ⟨hx, hb, hml, hown, hts⟩ (c_X9_advance hi  s0 _ hv H.size) (cwV 0 hts gX5_readShut_X9_advance rfl rfl rfl (by decide +kernel) ⟨Nat.le_of_ble_eq_true rfl, Nat.le_of_ble_eq_true rfl⟩) ⟨pre_blind, r_recv hK.1 hP 70 (by decide) (ceTo_0 (s0 70)) rfl, pre_of hP hK⟩ rfl rfl hl.1 rfl (lv_room (Nat.le_of_ble_eq_true rfl)) dX5_readShut_4 ⟨Nat.zero_le _, Nat.zero_le _⟩) hS (fun s1 H locs hv hP hS => ?_)
  have hD := wd_D (s := s) (cel := celC ad cA) (σ := s1) hi
  refine lv_aload_n hx hb dX5_readShut_7 rfl (lv_at hl 0 rfl) ?_
  refine lv_iconst (v := 0) hx hb dX5_readShut_8 (by decide) ?_
  refine lv_aload_n hx hb dX5_readShut_9 rfl (lv_at hl 0 rfl) ?_
  refine r_get hx hb hts (iwX5_readShut_X5) hown hK.1 hP 69 (by decide) (ceRe_0 (s1 69)) rfl 1 (by decide) (hts _ kX5_readShut_2) (v := .ref (ad 72)) rfl dX5_readShut_10 ?_
  refine r_get hx hb hts (iwX5_readShut_X8) hown hK.1 hP 72 (ltSt_0 vSt_72) (ceSt_0 vSt_72 (s1 72)) rfl 9 (by decide) (hts _ kX5_readShut_3) (v := .int (s1 72 9)) rfl dX5_readShut_13 ?_
  refine lv_iconst (v := 1) hx hb dX5_readShut_16 (by decide) ?_
  refine lv_isub hx hb dX5_readShut_17 ?_
  refine r_ci (va_runV (As := [.int 0, .int ((s1 72 9) - 1)]) (rest := []) ⟨hx, hb, hml, hown, hts⟩ (c_X5_takeNumber hi 0 ((s1 72 9) - 1) s1 _ hv H.size) (cwV 2 hts gX5_readShut_X5_takeNumber rfl rfl rfl (by decide +kernel) ⟨Nat.le_of_ble_eq_true rfl, Nat.le_of_ble_eq_true rfl⟩) ⟨pre_blind, r_recv hK.1 hP 69 (by decide) (ceRe_0 (s1 69)) rfl, pre_of hP hK⟩ rfl rfl hl.1 rfl (lv_room (Nat.le_of_ble_eq_true rfl)) dX5_readShut_18 ⟨Nat.zero_le _, Nat.zero_le _⟩) hS (fun r2 s2 H locs hv hP hS => ?_)
  have hD := wd_D (s := s) (cel := celC ad cA) (σ := s2) hi
  refine lv_istore_n (lv' := [(1, .int r2), (0, .ref (ad 69))]) hx hb dX5_readShut_21 rfl hl (by decide) rfl (fun ls hl => ?_)
  refine lv_iload_n hx hb dX5_readShut_22 rfl (lv_at hl 0 rfl) ?_
  refine lv_iconst (v := (-1)) hx hb dX5_readShut_23 (by decide) ?_
  refine lv_icmp_ne (tgt := 29) hx hb dX5_readShut_24 (by decide) (fun c24 => ?_) (fun c24 => ?_)
  · have hv := hv.1 c24
    refine lv_aload_n hx hb dX5_readShut_29 rfl (lv_at hl 1 rfl) ?_
    refine r_get hx hb hts (iwX5_readShut_X5) hown hK.1 hP 69 (by decide) (ceRe_0 (s2 69)) rfl 1 (by decide) (hts _ kX5_readShut_2) (v := .ref (ad 72)) rfl dX5_readShut_30 ?_
    refine lv_iload_n hx hb dX5_readShut_33 rfl (lv_at hl 0 rfl) ?_
    refine r_cv (va_runV (As := [.int r2]) (rest := []) ⟨hx, hb, hml, hown, hts⟩ (c_X8_turn hi 72 r2 vSt_72 s2 _ hv H.size) (cwV 1 hts gX5_readShut_X8_turn rfl rfl rfl (by decide +kernel) ⟨Nat.le_of_ble_eq_true rfl, Nat.le_of_ble_eq_true rfl⟩) ⟨pre_blind, r_recv hK.1 hP 72 (ltSt_0 vSt_72) (ceSt_0 vSt_72 (s2 72)) rfl, pre_of hP hK⟩ rfl rfl hl.1 rfl (lv_room (Nat.le_of_ble_eq_true rfl)) dX5_readShut_34 ⟨Nat.zero_le _, Nat.zero_le _⟩) hS (fun s3 H locs hv hP hS => ?_)
    have hD := wd_D (s := s) (cel := celC ad cA) (σ := s3) hi
    refine lv_iconst (v := 1) hx hb dX5_readShut_37 (by decide) ?_
    exact r_zret hx hb hr hlocks (Or.inr rfl) hv hP hS dX5_readShut_38
  · have hv := hv.2 c24
    refine lv_iconst (v := 0) hx hb dX5_readShut_27 (by decide) ?_
    exact r_zret hx hb hr hlocks (Or.inl rfl) hv hP hS dX5_readShut_28
set_option maxHeartbeats 4000000 in
theorem y_X5_readShut {p : Program} {l : Launch} {e : Env} {s : State} {m : MethodId} {args : Array Value} {below : List Frame} {meth : Method} {c : Code} {dC : Nat → ClassId} {dI : Nat → Nat → Nat} {ad : Nat → Nat} {cA cZ : ClassId} (hi : Inj 81 ad)   (C0 : Cx cX5_readShut RX5 wsX5_readShut 2 (some .boolean) p s m args meth c) (hK : KK dC dI cA cZ s) (Q : Int32 → St → Prop) : ∀ P xs ys σ, R_X5_readShut  Q P xs ys σ → XX p l e ({ frames := 3, cells := 0, slots := 0, locals := 64 } : Room) s m args below meth c (dC, dI) 81 ad (celC ad cA) 2 (ZZ below args s (dC, dI) 81 ad (celC ad cA) Q) (lay_X5_readShut ad ) P xs ys σ := by
  refine Fx.elim _ (fun P xs ys σ Y hY hB => ?_)
  exact hB.elim
set_option maxHeartbeats 4000000 in
theorem c_X5_readShut {l : Launch} {dC : Nat → ClassId} {dI : Nat → Nat → Nat} {ad : Nat → Nat} {cA cZ : ClassId} (hi : Inj 81 ad)   (s0 : St) (Q : Int32 → St → Prop) (hv : V_X5_readShut  s0 Q) (sz : Nat) : Met l yX5_readShut wsX5_readShut ({ frames := 3, cells := 0, slots := 0, locals := 64 } : Room) (va_Pc [.ref (ad 69)] (PW dC dI ad cA cZ 81 (celC ad cA) sz s0)) (va_Qi (fun r u => (r = 0 ∨ r = 1) ∧ Q r u) (fun u t => va_P (dC, dI) vwCl (wd 81 ad (celC ad cA) u) t.heap) (AA 81 ad sz)) 0 0 (AA 81 ad sz) := by
  refine Met.ofW (cc := cX5_readShut) (maxL := 2) (ret := (some .boolean)) (by decide) rfl ?_
  intro p e s m args below meth c s₁ B hml hv0
  obtain ⟨rfl, hsz, hP, hK⟩ := hv0
  subst hsz
  have C0 : Cx cX5_readShut RX5 wsX5_readShut 2 (some .boolean) p s m ([.ref (ad 69)] : List Value).toArray meth c := ⟨B.exec, B.bytes, hml, findClass_of_methodNamed B.named, atoms_spec (ws := wsX5_readShut) B.pre, B.returns, B.notSynchronized⟩
  have hl := lv_entry ([.ref (ad 69)]) (n := 2) (Nat.le_of_ble_eq_true rfl)
  rw [lg_entry_eq]
  generalize (lg_sl ([.ref (ad 69)]) ++ List.replicate (2 - (lg_sl ([.ref (ad 69)])).length) Slot.unset).toArray = ls at hl ⊢
  have hl : lv_has ls 2 [(0, .ref (ad 69))] := hl
  exact w_X5_readShut_e hi   C0 hK Q (R_X5_readShut  Q) (y_X5_readShut hi   C0 hK Q)  s0 hv hP va_S.rf hl
def lay_X5_readHours (ad : Nat → Nat)  : Nat → List Int32 → List Int64 → Option (List (Nat × Value) × List Value) := fun P xs ys => match P, xs, ys with
  | 24, [x1, x2], [] => some ([(0, .ref (ad 69)), (1, .int x1), (2, .int x2)], [])
  | _, _, _ => none
set_option maxHeartbeats 4000000 in
set_option maxRecDepth 100000 in
theorem w_X5_readHours_e {p : Program} {l : Launch} {e : Env} {s : State} {m : MethodId} {args : Array Value} {below : List Frame} {meth : Method} {c : Code} {dC : Nat → ClassId} {dI : Nat → Nat → Nat} {ad : Nat → Nat} {cA cZ : ClassId} (hi : Inj 81 ad)   (C0 : Cx cX5_readHours RX5 wsX5_readHours 3 (some .boolean) p s m args meth c) (hK : KK dC dI cA cZ s) (Q : Int32 → St → Prop) (Y : Nat → List Int32 → List Int64 → St → Prop) (hY : ∀ P xs ys σ, Y P xs ys σ → XX p l e ({ frames := 3, cells := 0, slots := 0, locals := 69 } : Room) s m args below meth c (dC, dI) 81 ad (celC ad cA) 3 (ZZ below args s (dC, dI) 81 ad (celC ad cA) Q) (lay_X5_readHours ad ) P xs ys σ)  (s0 : St) (hv : B_X5_readHours_e  Q Y  s0) {H : Heap} {locs : List Loc} {ls : Array Slot} (hP : va_P (dC, dI) vwCl (wd 81 ad (celC ad cA) s0) H) (hS : va_S (AA 81 ad s.heap.size) s.heap H locs) (hl : lv_has ls 3 [(0, .ref (ad 69))]) : W p l e ({ frames := 3, cells := 0, slots := 0, locals := 69 } : Room) s m args below meth c H locs 0 0 (ZZ below args s (dC, dI) 81 ad (celC ad cA) Q) (F0 m 0 ls []) := by
  obtain ⟨hx, hb, hml, hown, hts, hr, hlocks⟩ := C0
  have hD := wd_D (s := s) (cel := celC ad cA) (σ := s0) hi
  unfold B_X5_readHours_e at hv
  refine lv_aload_n hx hb dX5_readHours_0 rfl (lv_at hl 0 rfl) ?_
  refine r_get hx hb hts (iwX5_readHours_X5) hown hK.1 hP 69 (by decide) (ceRe_0 (s0 69)) rfl 0 (by decide) (hts _ kX5_readHours_1) (v := .ref (ad 70)) rfl dX5_readHours_1 ?_
  refine r_cv (va_runV (As := []) (rest := []) ⟨hx, hb, hml, hown, hts⟩ (c_X9_advance hi  s0 _ hv H.size) (cwV 0 hts gX5_readHours_X9_advance rfl rfl rfl (by decide +kernel) ⟨Nat.le_of_ble_eq_true rfl, Nat.le_of_ble_eq_true rfl⟩) ⟨pre_blind, r_recv hK.1 hP 70 (by decide) (ceTo_0 (s0 70)) rfl, pre_of hP hK⟩ rfl rfl hl.1 rfl (lv_room (Nat.le_of_ble_eq_true rfl)) dX5_readHours_4 ⟨Nat.zero_le _, Nat.zero_le _⟩) hS (fun s1 H locs hv hP hS => ?_)
  have hD := wd_D (s := s) (cel := celC ad cA) (σ := s1) hi
  refine lv_aload_n hx hb dX5_readHours_7 rfl (lv_at hl 0 rfl) ?_
  refine lv_iconst (v := 1) hx hb dX5_readHours_8 (by decide) ?_
  refine lv_bipush (v := 99) hx hb dX5_readHours_9 (by decide) ?_
  refine r_ci (va_runV (As := [.int 1, .int 99]) (rest := []) ⟨hx, hb, hml, hown, hts⟩ (c_X5_takeNumber hi 1 99 s1 _ hv H.size) (cwV 2 hts gX5_readHours_X5_takeNumber rfl rfl rfl (by decide +kernel) ⟨Nat.le_of_ble_eq_true rfl, Nat.le_of_ble_eq_true rfl⟩) ⟨pre_blind, r_recv hK.1 hP 69 (by decide) (ceRe_0 (s1 69)) rfl, pre_of hP hK⟩ rfl rfl hl.1 rfl (lv_room (Nat.le_of_ble_eq_true rfl)) dX5_readHours_11 ⟨Nat.zero_le _, Nat.zero_le _⟩) hS (fun r2 s2 H locs hv hP hS => ?_)
  have hD := wd_D (s := s) (cel := celC ad cA) (σ := s2) hi
  refine lv_istore_n (lv' := [(1, .int r2), (0, .ref (ad 69))]) hx hb dX5_readHours_14 rfl hl (by decide) rfl (fun ls hl => ?_)
  refine lv_iload_n hx hb dX5_readHours_15 rfl (lv_at hl 0 rfl) ?_
  refine lv_iconst (v := (-1)) hx hb dX5_readHours_16 (by decide) ?_
  refine lv_icmp_ne (tgt := 22) hx hb dX5_readHours_17 (by decide) (fun c17 => ?_) (fun c17 => ?_)
  · have hv := hv.1 c17
    refine lv_iconst (v := 0) hx hb dX5_readHours_22 (by decide) ?_
    refine lv_istore_n (lv' := [(2, .int 0), (1, .int r2), (0, .ref (ad 69))]) hx hb dX5_readHours_23 rfl hl (by decide) rfl (fun ls hl => ?_)
    exact hY 24 [r2, 0] [] s2 hv _ _ rfl H locs ls hP hS (lv_sub hl [2, 1, 0] rfl)
  · have hv := hv.2 c17
    refine lv_iconst (v := 0) hx hb dX5_readHours_20 (by decide) ?_
    exact r_zret hx hb hr hlocks (Or.inl rfl) hv hP hS dX5_readHours_21
set_option maxHeartbeats 4000000 in
set_option maxRecDepth 100000 in
theorem w_X5_readHours_24 {p : Program} {l : Launch} {e : Env} {s : State} {m : MethodId} {args : Array Value} {below : List Frame} {meth : Method} {c : Code} {dC : Nat → ClassId} {dI : Nat → Nat → Nat} {ad : Nat → Nat} {cA cZ : ClassId} (hi : Inj 81 ad)   (C0 : Cx cX5_readHours RX5 wsX5_readHours 3 (some .boolean) p s m args meth c) (hK : KK dC dI cA cZ s) (Q : Int32 → St → Prop) (Y : Nat → List Int32 → List Int64 → St → Prop) (hY : ∀ P xs ys σ, Y P xs ys σ → XX p l e ({ frames := 3, cells := 0, slots := 0, locals := 69 } : Room) s m args below meth c (dC, dI) 81 ad (celC ad cA) 3 (ZZ below args s (dC, dI) 81 ad (celC ad cA) Q) (lay_X5_readHours ad ) P xs ys σ) (x1 : Int32) (x2 : Int32) (s0 : St) (hv : B_X5_readHours_24  Q Y x1 x2 s0) {H : Heap} {locs : List Loc} {ls : Array Slot} (hP : va_P (dC, dI) vwCl (wd 81 ad (celC ad cA) s0) H) (hS : va_S (AA 81 ad s.heap.size) s.heap H locs) (hl : lv_has ls 3 [(0, .ref (ad 69)), (1, .int x1), (2, .int x2)]) : W p l e ({ frames := 3, cells := 0, slots := 0, locals := 69 } : Room) s m args below meth c H locs 0 0 (ZZ below args s (dC, dI) 81 ad (celC ad cA) Q) (F0 m 24 ls []) := by
  obtain ⟨hx, hb, hml, hown, hts, hr, hlocks⟩ := C0
  have hD := wd_D (s := s) (cel := celC ad cA) (σ := s0) hi
  unfold B_X5_readHours_24 at hv
  refine lv_iload_n hx hb dX5_readHours_24 rfl (lv_at hl 2 rfl) ?_
  refine lv_iload_n hx hb dX5_readHours_25 rfl (lv_at hl 1 rfl) ?_
  refine lv_icmp_ge (tgt := 42) hx hb dX5_readHours_26 (by decide) (fun c26 => ?_) (fun c26 => ?_)
  · have hv := hv.1 c26
    refine lv_iconst (v := 1) hx hb dX5_readHours_42 (by decide) ?_
    exact r_zret hx hb hr hlocks (Or.inr rfl) hv hP hS dX5_readHours_43
  · have hv := hv.2 c26
    refine lv_aload_n hx hb dX5_readHours_29 rfl (lv_at hl 0 rfl) ?_
    refine r_get hx hb hts (iwX5_readHours_X5) hown hK.1 hP 69 (by decide) (ceRe_0 (s0 69)) rfl 1 (by decide) (hts _ kX5_readHours_2) (v := .ref (ad 72)) rfl dX5_readHours_30 ?_
    refine r_cv (va_runV (As := []) (rest := []) ⟨hx, hb, hml, hown, hts⟩ (c_X8_passHour hi 72 vSt_72 s0 _ hv H.size) (cwV 0 hts gX5_readHours_X8_passHour rfl rfl rfl (by decide +kernel) ⟨Nat.le_of_ble_eq_true rfl, Nat.le_of_ble_eq_true rfl⟩) ⟨pre_blind, r_recv hK.1 hP 72 (ltSt_0 vSt_72) (ceSt_0 vSt_72 (s0 72)) rfl, pre_of hP hK⟩ rfl rfl hl.1 rfl (lv_room (Nat.le_of_ble_eq_true rfl)) dX5_readHours_33 ⟨Nat.zero_le _, Nat.zero_le _⟩) hS (fun s1 H locs hv hP hS => ?_)
    have hD := wd_D (s := s) (cel := celC ad cA) (σ := s1) hi
    refine lv_iinc (v := x2 + 1) (lv' := [(2, .int (x2 + 1)), (0, .ref (ad 69)), (1, .int x1)]) hx hb dX5_readHours_36 hl (k := 2) rfl rfl (by decide) rfl (fun ls hl => ?_)
    refine lv_goto (tgt := 24) hx hb dX5_readHours_39 (by decide) ?_
    exact hY 24 [x1, x2 + 1] [] s1 hv _ _ rfl H locs ls hP hS (lv_sub hl [1, 2, 0] rfl)
set_option maxHeartbeats 4000000 in
theorem y_X5_readHours {p : Program} {l : Launch} {e : Env} {s : State} {m : MethodId} {args : Array Value} {below : List Frame} {meth : Method} {c : Code} {dC : Nat → ClassId} {dI : Nat → Nat → Nat} {ad : Nat → Nat} {cA cZ : ClassId} (hi : Inj 81 ad)   (C0 : Cx cX5_readHours RX5 wsX5_readHours 3 (some .boolean) p s m args meth c) (hK : KK dC dI cA cZ s) (Q : Int32 → St → Prop) : ∀ P xs ys σ, R_X5_readHours  Q P xs ys σ → XX p l e ({ frames := 3, cells := 0, slots := 0, locals := 69 } : Room) s m args below meth c (dC, dI) 81 ad (celC ad cA) 3 (ZZ below args s (dC, dI) 81 ad (celC ad cA) Q) (lay_X5_readHours ad ) P xs ys σ := by
  refine Fx.elim _ (fun P xs ys σ Y hY hB => ?_)
  rcases hB with ⟨rfl, x1, x2, rfl, rfl, hB⟩
  · intro lv st he H locs ls hP hS hl
    cases he
    exact w_X5_readHours_24 hi   C0 hK Q Y hY x1 x2 σ hB hP hS hl
set_option maxHeartbeats 4000000 in
theorem c_X5_readHours {l : Launch} {dC : Nat → ClassId} {dI : Nat → Nat → Nat} {ad : Nat → Nat} {cA cZ : ClassId} (hi : Inj 81 ad)   (s0 : St) (Q : Int32 → St → Prop) (hv : V_X5_readHours  s0 Q) (sz : Nat) : Met l yX5_readHours wsX5_readHours ({ frames := 3, cells := 0, slots := 0, locals := 69 } : Room) (va_Pc [.ref (ad 69)] (PW dC dI ad cA cZ 81 (celC ad cA) sz s0)) (va_Qi (fun r u => (r = 0 ∨ r = 1) ∧ Q r u) (fun u t => va_P (dC, dI) vwCl (wd 81 ad (celC ad cA) u) t.heap) (AA 81 ad sz)) 0 0 (AA 81 ad sz) := by
  refine Met.ofW (cc := cX5_readHours) (maxL := 3) (ret := (some .boolean)) (by decide) rfl ?_
  intro p e s m args below meth c s₁ B hml hv0
  obtain ⟨rfl, hsz, hP, hK⟩ := hv0
  subst hsz
  have C0 : Cx cX5_readHours RX5 wsX5_readHours 3 (some .boolean) p s m ([.ref (ad 69)] : List Value).toArray meth c := ⟨B.exec, B.bytes, hml, findClass_of_methodNamed B.named, atoms_spec (ws := wsX5_readHours) B.pre, B.returns, B.notSynchronized⟩
  have hl := lv_entry ([.ref (ad 69)]) (n := 3) (Nat.le_of_ble_eq_true rfl)
  rw [lg_entry_eq]
  generalize (lg_sl ([.ref (ad 69)]) ++ List.replicate (3 - (lg_sl ([.ref (ad 69)])).length) Slot.unset).toArray = ls at hl ⊢
  have hl : lv_has ls 3 [(0, .ref (ad 69))] := hl
  exact w_X5_readHours_e hi   C0 hK Q (R_X5_readHours  Q) (y_X5_readHours hi   C0 hK Q)  s0 hv hP va_S.rf hl
def lay_X9_begin (ad : Nat → Nat)  : Nat → List Int32 → List Int64 → Option (List (Nat × Value) × List Value) := fun P xs ys => match P, xs, ys with
  | _, _, _ => none
set_option maxHeartbeats 4000000 in
set_option maxRecDepth 100000 in
theorem w_X9_begin_e {p : Program} {l : Launch} {e : Env} {s : State} {m : MethodId} {args : Array Value} {below : List Frame} {meth : Method} {c : Code} {dC : Nat → ClassId} {dI : Nat → Nat → Nat} {ad : Nat → Nat} {cA cZ : ClassId} (hi : Inj 81 ad)   (C0 : Cx cX9_begin RX9 wsX9_begin 1 none p s m args meth c) (hK : KK dC dI cA cZ s) (Q : St → Prop) (Y : Nat → List Int32 → List Int64 → St → Prop) (hY : ∀ P xs ys σ, Y P xs ys σ → XX p l e ({ frames := 2, cells := 0, slots := 0, locals := 41 } : Room) s m args below meth c (dC, dI) 81 ad (celC ad cA) 1 (ZV below args s (dC, dI) 81 ad (celC ad cA) Q) (lay_X9_begin ad ) P xs ys σ)  (s0 : St) (hv : B_X9_begin_e  Q Y  s0) {H : Heap} {locs : List Loc} {ls : Array Slot} (hP : va_P (dC, dI) vwCl (wd 81 ad (celC ad cA) s0) H) (hS : va_S (AA 81 ad s.heap.size) s.heap H locs) (hl : lv_has ls 1 [(0, .ref (ad 70))]) : W p l e ({ frames := 2, cells := 0, slots := 0, locals := 41 } : Room) s m args below meth c H locs 0 0 (ZV below args s (dC, dI) 81 ad (celC ad cA) Q) (F0 m 0 ls []) := by
  obtain ⟨hx, hb, hml, hown, hts, hr, hlocks⟩ := C0
  have hD := wd_D (s := s) (cel := celC ad cA) (σ := s0) hi
  unfold B_X9_begin_e at hv
  refine lv_aload_n hx hb dX9_begin_0 rfl (lv_at hl 0 rfl) ?_
  refine lv_iconst (v := 0) hx hb dX9_begin_1 (by decide) ?_
  refine r_put hx hb hts (iwX9_begin_X9) tyX9 tyX9_ok nmX9 hown hK.1 hP hD hS 70 (by decide) (ceTo_0 (s0 70)) rfl 5 (by decide) (hts _ kX9_begin_1) rfl (ty := .int) (v := .int 0) (by decide +kernel) rfl rfl (Nat.le_of_ble_eq_true rfl) (row := (upd (s0 70) 5 0)) (by rw [(ceTo_0 (upd (s0 70) 5 0))]; rfl) dX9_begin_2 (fun H locs s1 es1 hP hD hS => ?_)
  have hv := hv s1 es1
  refine lv_aload_n hx hb dX9_begin_5 rfl (lv_at hl 0 rfl) ?_
  refine r_cv (va_runV (As := []) (rest := []) ⟨hx, hb, hml, hown, hts⟩ (c_X9_advance hi  s1 _ hv H.size) (cwV 0 hts gX9_begin_X9_advance rfl rfl rfl (by decide +kernel) ⟨Nat.le_of_ble_eq_true rfl, Nat.le_of_ble_eq_true rfl⟩) ⟨pre_blind, r_recv hK.1 hP 70 (by decide) (ceTo_0 (s1 70)) rfl, pre_of hP hK⟩ rfl rfl hl.1 rfl (lv_room (Nat.le_of_ble_eq_true rfl)) dX9_begin_6 ⟨Nat.zero_le _, Nat.zero_le _⟩) hS (fun s2 H locs hv hP hS => ?_)
  have hD := wd_D (s := s) (cel := celC ad cA) (σ := s2) hi
  exact r_vret hx hb hr hlocks hv hP hS dX9_begin_9
set_option maxHeartbeats 4000000 in
theorem y_X9_begin {p : Program} {l : Launch} {e : Env} {s : State} {m : MethodId} {args : Array Value} {below : List Frame} {meth : Method} {c : Code} {dC : Nat → ClassId} {dI : Nat → Nat → Nat} {ad : Nat → Nat} {cA cZ : ClassId} (hi : Inj 81 ad)   (C0 : Cx cX9_begin RX9 wsX9_begin 1 none p s m args meth c) (hK : KK dC dI cA cZ s) (Q : St → Prop) : ∀ P xs ys σ, R_X9_begin  Q P xs ys σ → XX p l e ({ frames := 2, cells := 0, slots := 0, locals := 41 } : Room) s m args below meth c (dC, dI) 81 ad (celC ad cA) 1 (ZV below args s (dC, dI) 81 ad (celC ad cA) Q) (lay_X9_begin ad ) P xs ys σ := by
  refine Fx.elim _ (fun P xs ys σ Y hY hB => ?_)
  exact hB.elim
set_option maxHeartbeats 4000000 in
theorem c_X9_begin {l : Launch} {dC : Nat → ClassId} {dI : Nat → Nat → Nat} {ad : Nat → Nat} {cA cZ : ClassId} (hi : Inj 81 ad)   (s0 : St) (Q : St → Prop) (hv : V_X9_begin  s0 Q) (sz : Nat) : Met l yX9_begin wsX9_begin ({ frames := 2, cells := 0, slots := 0, locals := 41 } : Room) (va_Pc [.ref (ad 70)] (PW dC dI ad cA cZ 81 (celC ad cA) sz s0)) (va_Qv Q (fun u t => va_P (dC, dI) vwCl (wd 81 ad (celC ad cA) u) t.heap) (AA 81 ad sz)) 0 0 (AA 81 ad sz) := by
  refine Met.ofW (cc := cX9_begin) (maxL := 1) (ret := none) (by decide) rfl ?_
  intro p e s m args below meth c s₁ B hml hv0
  obtain ⟨rfl, hsz, hP, hK⟩ := hv0
  subst hsz
  have C0 : Cx cX9_begin RX9 wsX9_begin 1 none p s m ([.ref (ad 70)] : List Value).toArray meth c := ⟨B.exec, B.bytes, hml, findClass_of_methodNamed B.named, atoms_spec (ws := wsX9_begin) B.pre, B.returns, B.notSynchronized⟩
  have hl := lv_entry ([.ref (ad 70)]) (n := 1) (Nat.le_of_ble_eq_true rfl)
  rw [lg_entry_eq]
  generalize (lg_sl ([.ref (ad 70)]) ++ List.replicate (1 - (lg_sl ([.ref (ad 70)])).length) Slot.unset).toArray = ls at hl ⊢
  have hl : lv_has ls 1 [(0, .ref (ad 70))] := hl
  exact w_X9_begin_e hi   C0 hK Q (R_X9_begin  Q) (y_X9_begin hi   C0 hK Q)  s0 hv hP va_S.rf hl
