def lay_X11_mostAlike (ad : Nat → Nat) (a1 : Int32) : Nat → List Int32 → List Int64 → Option (List (Nat × Value) × List Value) := fun P xs ys => match P, xs, ys with
  | 4, [x2, x3], [] => some ([(0, .ref (ad 0)), (1, .int a1), (2, .int x2), (3, .int x3)], [])
  | 16, [x2, x3, x4, x5], [] => some ([(0, .ref (ad 0)), (1, .int a1), (2, .int x2), (3, .int x3), (4, .int x4), (5, .int x5)], [])
  | 72, [x2, x3, x4], [] => some ([(0, .ref (ad 0)), (1, .int a1), (2, .int x2), (3, .int x3), (4, .int x4)], [])
  | _, _, _ => none
set_option maxHeartbeats 4000000 in
set_option maxRecDepth 100000 in
theorem w_X11_mostAlike_e {p : Program} {l : Launch} {e : Env} {s : State} {m : MethodId} {args : Array Value} {below : List Frame} {meth : Method} {c : Code} {dC : Nat → ClassId} {dI : Nat → Nat → Nat} {ad : Nat → Nat} {cA cZ : ClassId} (hi : Inj 12 ad) (a1 : Int32)  (C0 : Cx cX11_mostAlike RX11 wsX11_mostAlike 6 (some .int) p s m args meth c) (hK : KK dC dI cA cZ s) (Q : Int32 → St → Prop) (Y : Nat → List Int32 → List Int64 → St → Prop) (hY : ∀ P xs ys σ, Y P xs ys σ → XX p l e ({ frames := 1, cells := 0, slots := 0, locals := 21 } : Room) s m args below meth c (dC, dI) 12 ad (celM ad cA cZ) 6 (ZI below args s (dC, dI) 12 ad (celM ad cA cZ) Q) (lay_X11_mostAlike ad a1) P xs ys σ)  (s0 : St) (hv : B_X11_mostAlike_e a1 Q Y  s0) {H : Heap} {locs : List Loc} {ls : Array Slot} (hP : va_P (dC, dI) vwCl (wd 12 ad (celM ad cA cZ) s0) H) (hS : va_S (AA 12 ad s.heap.size) s.heap H locs) (hl : lv_has ls 6 [(0, .ref (ad 0)), (1, .int a1)]) : W p l e ({ frames := 1, cells := 0, slots := 0, locals := 21 } : Room) s m args below meth c H locs 0 0 (ZI below args s (dC, dI) 12 ad (celM ad cA cZ) Q) (F0 m 0 ls []) := by
  obtain ⟨hx, hb, hml, hown, hts, hr, hlocks⟩ := C0
  have hD := wd_D (s := s) (cel := celM ad cA cZ) (σ := s0) hi
  unfold B_X11_mostAlike_e at hv
  refine lv_iconst (v := 0) hx hb dX11_mostAlike_0 (by decide) ?_
  refine lv_istore_n (lv' := [(2, .int 0), (0, .ref (ad 0)), (1, .int a1)]) hx hb dX11_mostAlike_1 rfl hl (by decide) rfl (fun ls hl => ?_)
  refine lv_iconst (v := 0) hx hb dX11_mostAlike_2 (by decide) ?_
  refine lv_istore_n (lv' := [(3, .int 0), (2, .int 0), (0, .ref (ad 0)), (1, .int a1)]) hx hb dX11_mostAlike_3 rfl hl (by decide) rfl (fun ls hl => ?_)
  exact hY 4 [0, 0] [] s0 hv _ _ rfl H locs ls hP hS (lv_sub hl [2, 3, 1, 0] rfl)
set_option maxHeartbeats 4000000 in
set_option maxRecDepth 100000 in
theorem w_X11_mostAlike_4 {p : Program} {l : Launch} {e : Env} {s : State} {m : MethodId} {args : Array Value} {below : List Frame} {meth : Method} {c : Code} {dC : Nat → ClassId} {dI : Nat → Nat → Nat} {ad : Nat → Nat} {cA cZ : ClassId} (hi : Inj 12 ad) (a1 : Int32)  (C0 : Cx cX11_mostAlike RX11 wsX11_mostAlike 6 (some .int) p s m args meth c) (hK : KK dC dI cA cZ s) (Q : Int32 → St → Prop) (Y : Nat → List Int32 → List Int64 → St → Prop) (hY : ∀ P xs ys σ, Y P xs ys σ → XX p l e ({ frames := 1, cells := 0, slots := 0, locals := 21 } : Room) s m args below meth c (dC, dI) 12 ad (celM ad cA cZ) 6 (ZI below args s (dC, dI) 12 ad (celM ad cA cZ) Q) (lay_X11_mostAlike ad a1) P xs ys σ) (x2 : Int32) (x3 : Int32) (s0 : St) (hv : B_X11_mostAlike_4 a1 Q Y x2 x3 s0) {H : Heap} {locs : List Loc} {ls : Array Slot} (hP : va_P (dC, dI) vwCl (wd 12 ad (celM ad cA cZ) s0) H) (hS : va_S (AA 12 ad s.heap.size) s.heap H locs) (hl : lv_has ls 6 [(0, .ref (ad 0)), (1, .int a1), (2, .int x2), (3, .int x3)]) : W p l e ({ frames := 1, cells := 0, slots := 0, locals := 21 } : Room) s m args below meth c H locs 0 0 (ZI below args s (dC, dI) 12 ad (celM ad cA cZ) Q) (F0 m 4 ls []) := by
  obtain ⟨hx, hb, hml, hown, hts, hr, hlocks⟩ := C0
  have hD := wd_D (s := s) (cel := celM ad cA cZ) (σ := s0) hi
  unfold B_X11_mostAlike_4 at hv
  refine lv_iload_n hx hb dX11_mostAlike_4 rfl (lv_at hl 3 rfl) ?_
  refine lv_bipush (v := 6) hx hb dX11_mostAlike_5 (by decide) ?_
  refine lv_icmp_ge (tgt := 91) hx hb dX11_mostAlike_7 (by decide) (fun c7 => ?_) (fun c7 => ?_)
  · have hv := hv.1 c7
    refine lv_iload_n hx hb dX11_mostAlike_91 rfl (lv_at hl 2 rfl) ?_
    exact r_iret hx hb hr hlocks hv hP hS dX11_mostAlike_92
  · have hv := hv.2 c7
    refine lv_iconst (v := 0) hx hb dX11_mostAlike_10 (by decide) ?_
    refine lv_istore (lv' := [(4, .int 0), (0, .ref (ad 0)), (1, .int a1), (2, .int x2), (3, .int x3)]) hx hb dX11_mostAlike_11 hl (by decide) rfl (fun ls hl => ?_)
    refine lv_iconst (v := 0) hx hb dX11_mostAlike_13 (by decide) ?_
    refine lv_istore (lv' := [(5, .int 0), (4, .int 0), (0, .ref (ad 0)), (1, .int a1), (2, .int x2), (3, .int x3)]) hx hb dX11_mostAlike_14 hl (by decide) rfl (fun ls hl => ?_)
    exact hY 16 [x2, x3, 0, 0] [] s0 hv _ _ rfl H locs ls hP hS (lv_sub hl [2, 3, 4, 5, 1, 0] rfl)
set_option maxHeartbeats 4000000 in
set_option maxRecDepth 100000 in
theorem w_X11_mostAlike_16 {p : Program} {l : Launch} {e : Env} {s : State} {m : MethodId} {args : Array Value} {below : List Frame} {meth : Method} {c : Code} {dC : Nat → ClassId} {dI : Nat → Nat → Nat} {ad : Nat → Nat} {cA cZ : ClassId} (hi : Inj 12 ad) (a1 : Int32)  (C0 : Cx cX11_mostAlike RX11 wsX11_mostAlike 6 (some .int) p s m args meth c) (hK : KK dC dI cA cZ s) (Q : Int32 → St → Prop) (Y : Nat → List Int32 → List Int64 → St → Prop) (hY : ∀ P xs ys σ, Y P xs ys σ → XX p l e ({ frames := 1, cells := 0, slots := 0, locals := 21 } : Room) s m args below meth c (dC, dI) 12 ad (celM ad cA cZ) 6 (ZI below args s (dC, dI) 12 ad (celM ad cA cZ) Q) (lay_X11_mostAlike ad a1) P xs ys σ) (x2 : Int32) (x3 : Int32) (x4 : Int32) (x5 : Int32) (s0 : St) (hv : B_X11_mostAlike_16 a1 Q Y x2 x3 x4 x5 s0) {H : Heap} {locs : List Loc} {ls : Array Slot} (hP : va_P (dC, dI) vwCl (wd 12 ad (celM ad cA cZ) s0) H) (hS : va_S (AA 12 ad s.heap.size) s.heap H locs) (hl : lv_has ls 6 [(0, .ref (ad 0)), (1, .int a1), (2, .int x2), (3, .int x3), (4, .int x4), (5, .int x5)]) : W p l e ({ frames := 1, cells := 0, slots := 0, locals := 21 } : Room) s m args below meth c H locs 0 0 (ZI below args s (dC, dI) 12 ad (celM ad cA cZ) Q) (F0 m 16 ls []) := by
  obtain ⟨hx, hb, hml, hown, hts, hr, hlocks⟩ := C0
  have hD := wd_D (s := s) (cel := celM ad cA cZ) (σ := s0) hi
  unfold B_X11_mostAlike_16 at hv
  refine lv_iload hx hb dX11_mostAlike_16 (lv_at hl 5 rfl) ?_
  refine lv_bipush (v := 6) hx hb dX11_mostAlike_18 (by decide) ?_
  refine lv_icmp_ge (tgt := 72) hx hb dX11_mostAlike_20 (by decide) (fun c20 => ?_) (fun c20 => ?_)
  · have hv := hv.1 c20
    exact hY 72 [x2, x3, x4] [] s0 hv _ _ rfl H locs ls hP hS (lv_sub hl [0, 1, 2, 3, 4] rfl)
  · have hv := hv.2 c20
    refine lv_iload_n hx hb dX11_mostAlike_23 rfl (lv_at hl 1 rfl) ?_
    refine lv_iload_n hx hb dX11_mostAlike_24 rfl (lv_at hl 3 rfl) ?_
    refine r_ci (va_runS (As := [.int a1, .int x3]) (rest := []) ⟨hx, hb, hml, hown, hts⟩ (c_X11_has hi a1 x3 s0 _ hv H.size) (va_cwS 2 hts gX11_mostAlike_X11_has rfl rfl rfl (by decide +kernel) ⟨Nat.le_of_ble_eq_true rfl, Nat.le_of_ble_eq_true rfl⟩) ⟨pre_blind, pre_of hP hK⟩ rfl rfl hl.1 rfl (lv_room (Nat.le_of_ble_eq_true rfl)) dX11_mostAlike_25 ⟨Nat.zero_le _, Nat.zero_le _⟩) hS (fun r1 s1 H locs hv hP hS => ?_)
    obtain ⟨hz_r1, hv⟩ := hv
    have hD := wd_D (s := s) (cel := celM ad cA cZ) (σ := s1) hi
    refine lv_if_eq (tgt := 72) hx hb dX11_mostAlike_28 (by decide) (fun c28 => ?_) (fun c28 => ?_)
    · have hv := hv.1 c28
      exact hY 72 [x2, x3, x4] [] s1 hv _ _ rfl H locs ls hP hS (lv_sub hl [0, 1, 2, 3, 4] rfl)
    · have hv := hv.2 c28
      refine lv_iload hx hb dX11_mostAlike_31 (lv_at hl 4 rfl) ?_
      refine lv_iload_n hx hb dX11_mostAlike_33 rfl (lv_at hl 1 rfl) ?_
      refine lv_iload hx hb dX11_mostAlike_34 (lv_at hl 5 rfl) ?_
      refine r_ci (va_runS (As := [.int a1, .int x5]) (rest := [.int x4]) ⟨hx, hb, hml, hown, hts⟩ (c_X11_has hi a1 x5 s1 _ hv H.size) (va_cwS 2 hts gX11_mostAlike_X11_has rfl rfl rfl (by decide +kernel) ⟨Nat.le_of_ble_eq_true rfl, Nat.le_of_ble_eq_true rfl⟩) ⟨pre_blind, pre_of hP hK⟩ rfl rfl hl.1 rfl (lv_room (Nat.le_of_ble_eq_true rfl)) dX11_mostAlike_36 ⟨Nat.zero_le _, Nat.zero_le _⟩) hS (fun r2 s2 H locs hv hP hS => ?_)
      obtain ⟨hz_r2, hv⟩ := hv
      have hD := wd_D (s := s) (cel := celM ad cA cZ) (σ := s2) hi
      refine lv_if_eq (tgt := 62) hx hb dX11_mostAlike_39 (by decide) (fun c39 => ?_) (fun c39 => ?_)
      · have hv := hv.1 c39
        refine lv_iconst (v := 0) hx hb dX11_mostAlike_62 (by decide) ?_
        refine lv_iadd hx hb dX11_mostAlike_63 ?_
        refine lv_istore (lv' := [(4, .int (x4 + 0)), (0, .ref (ad 0)), (1, .int a1), (2, .int x2), (3, .int x3), (5, .int x5)]) hx hb dX11_mostAlike_64 hl (by decide) rfl (fun ls hl => ?_)
        refine lv_iinc (v := x5 + 1) (lv' := [(5, .int (x5 + 1)), (4, .int (x4 + 0)), (0, .ref (ad 0)), (1, .int a1), (2, .int x2), (3, .int x3)]) hx hb dX11_mostAlike_66 hl (k := 5) rfl rfl (by decide) rfl (fun ls hl => ?_)
        refine lv_goto (tgt := 16) hx hb dX11_mostAlike_69 (by decide) ?_
        exact hY 16 [x2, x3, x4 + 0, x5 + 1] [] s2 hv _ _ rfl H locs ls hP hS (lv_sub hl [2, 3, 4, 5, 1, 0] rfl)
      · have hv := hv.2 c39
        refine lv_aload_n hx hb dX11_mostAlike_42 rfl (lv_at hl 0 rfl) ?_
        refine r_get hx hb hts (iwX11_mostAlike_X11) hown hK.1 hP 0 (by decide) (ceMo_0 (s2 0)) rfl 9 (by decide) (hts _ kX11_mostAlike_1) (v := .ref (ad 8)) rfl dX11_mostAlike_43 ?_
        refine lv_iload_n hx hb dX11_mostAlike_46 rfl (lv_at hl 3 rfl) ?_
        obtain ⟨hin, hv⟩ := hv
        refine r_iald hx hb hK.1 hP 8 (by decide) (ceMo_8 (s2 8)) hin dX11_mostAlike_47 ?_
        refine lv_aload_n hx hb dX11_mostAlike_48 rfl (lv_at hl 0 rfl) ?_
        refine r_get hx hb hts (iwX11_mostAlike_X11) hown hK.1 hP 0 (by decide) (ceMo_0 (s2 0)) rfl 9 (by decide) (hts _ kX11_mostAlike_1) (v := .ref (ad 8)) rfl dX11_mostAlike_49 ?_
        refine lv_iload hx hb dX11_mostAlike_52 (lv_at hl 5 rfl) ?_
        obtain ⟨hin, hv⟩ := hv
        refine r_iald hx hb hK.1 hP 8 (by decide) (ceMo_8 (s2 8)) hin dX11_mostAlike_54 ?_
        refine lv_icmp_ne (tgt := 62) hx hb dX11_mostAlike_55 (by decide) (fun c55 => ?_) (fun c55 => ?_)
        · have hv := hv.1 c55
          refine lv_iconst (v := 0) hx hb dX11_mostAlike_62 (by decide) ?_
          refine lv_iadd hx hb dX11_mostAlike_63 ?_
          refine lv_istore (lv' := [(4, .int (x4 + 0)), (0, .ref (ad 0)), (1, .int a1), (2, .int x2), (3, .int x3), (5, .int x5)]) hx hb dX11_mostAlike_64 hl (by decide) rfl (fun ls hl => ?_)
          refine lv_iinc (v := x5 + 1) (lv' := [(5, .int (x5 + 1)), (4, .int (x4 + 0)), (0, .ref (ad 0)), (1, .int a1), (2, .int x2), (3, .int x3)]) hx hb dX11_mostAlike_66 hl (k := 5) rfl rfl (by decide) rfl (fun ls hl => ?_)
          refine lv_goto (tgt := 16) hx hb dX11_mostAlike_69 (by decide) ?_
          exact hY 16 [x2, x3, x4 + 0, x5 + 1] [] s2 hv _ _ rfl H locs ls hP hS (lv_sub hl [2, 3, 4, 5, 1, 0] rfl)
        · have hv := hv.2 c55
          refine lv_iconst (v := 1) hx hb dX11_mostAlike_58 (by decide) ?_
          refine lv_goto (tgt := 63) hx hb dX11_mostAlike_59 (by decide) ?_
          refine lv_iadd hx hb dX11_mostAlike_63 ?_
          refine lv_istore (lv' := [(4, .int (x4 + 1)), (0, .ref (ad 0)), (1, .int a1), (2, .int x2), (3, .int x3), (5, .int x5)]) hx hb dX11_mostAlike_64 hl (by decide) rfl (fun ls hl => ?_)
          refine lv_iinc (v := x5 + 1) (lv' := [(5, .int (x5 + 1)), (4, .int (x4 + 1)), (0, .ref (ad 0)), (1, .int a1), (2, .int x2), (3, .int x3)]) hx hb dX11_mostAlike_66 hl (k := 5) rfl rfl (by decide) rfl (fun ls hl => ?_)
          refine lv_goto (tgt := 16) hx hb dX11_mostAlike_69 (by decide) ?_
          exact hY 16 [x2, x3, x4 + 1, x5 + 1] [] s2 hv _ _ rfl H locs ls hP hS (lv_sub hl [2, 3, 4, 5, 1, 0] rfl)
set_option maxHeartbeats 4000000 in
set_option maxRecDepth 100000 in
theorem w_X11_mostAlike_72 {p : Program} {l : Launch} {e : Env} {s : State} {m : MethodId} {args : Array Value} {below : List Frame} {meth : Method} {c : Code} {dC : Nat → ClassId} {dI : Nat → Nat → Nat} {ad : Nat → Nat} {cA cZ : ClassId} (hi : Inj 12 ad) (a1 : Int32)  (C0 : Cx cX11_mostAlike RX11 wsX11_mostAlike 6 (some .int) p s m args meth c) (hK : KK dC dI cA cZ s) (Q : Int32 → St → Prop) (Y : Nat → List Int32 → List Int64 → St → Prop) (hY : ∀ P xs ys σ, Y P xs ys σ → XX p l e ({ frames := 1, cells := 0, slots := 0, locals := 21 } : Room) s m args below meth c (dC, dI) 12 ad (celM ad cA cZ) 6 (ZI below args s (dC, dI) 12 ad (celM ad cA cZ) Q) (lay_X11_mostAlike ad a1) P xs ys σ) (x2 : Int32) (x3 : Int32) (x4 : Int32) (s0 : St) (hv : B_X11_mostAlike_72 a1 Q Y x2 x3 x4 s0) {H : Heap} {locs : List Loc} {ls : Array Slot} (hP : va_P (dC, dI) vwCl (wd 12 ad (celM ad cA cZ) s0) H) (hS : va_S (AA 12 ad s.heap.size) s.heap H locs) (hl : lv_has ls 6 [(0, .ref (ad 0)), (1, .int a1), (2, .int x2), (3, .int x3), (4, .int x4)]) : W p l e ({ frames := 1, cells := 0, slots := 0, locals := 21 } : Room) s m args below meth c H locs 0 0 (ZI below args s (dC, dI) 12 ad (celM ad cA cZ) Q) (F0 m 72 ls []) := by
  obtain ⟨hx, hb, hml, hown, hts, hr, hlocks⟩ := C0
  have hD := wd_D (s := s) (cel := celM ad cA cZ) (σ := s0) hi
  unfold B_X11_mostAlike_72 at hv
  refine lv_iload hx hb dX11_mostAlike_72 (lv_at hl 4 rfl) ?_
  refine lv_iload_n hx hb dX11_mostAlike_74 rfl (lv_at hl 2 rfl) ?_
  refine lv_icmp_le (tgt := 83) hx hb dX11_mostAlike_75 (by decide) (fun c75 => ?_) (fun c75 => ?_)
  · have hv := hv.1 c75
    refine lv_iload_n hx hb dX11_mostAlike_83 rfl (lv_at hl 2 rfl) ?_
    refine lv_istore_n (lv' := [(2, .int x2), (0, .ref (ad 0)), (1, .int a1), (3, .int x3), (4, .int x4)]) hx hb dX11_mostAlike_84 rfl hl (by decide) rfl (fun ls hl => ?_)
    refine lv_iinc (v := x3 + 1) (lv' := [(3, .int (x3 + 1)), (2, .int x2), (0, .ref (ad 0)), (1, .int a1), (4, .int x4)]) hx hb dX11_mostAlike_85 hl (k := 3) rfl rfl (by decide) rfl (fun ls hl => ?_)
    refine lv_goto (tgt := 4) hx hb dX11_mostAlike_88 (by decide) ?_
    exact hY 4 [x2, x3 + 1] [] s0 hv _ _ rfl H locs ls hP hS (lv_sub hl [2, 3, 1, 0] rfl)
  · have hv := hv.2 c75
    refine lv_iload hx hb dX11_mostAlike_78 (lv_at hl 4 rfl) ?_
    refine lv_goto (tgt := 84) hx hb dX11_mostAlike_80 (by decide) ?_
    refine lv_istore_n (lv' := [(2, .int x4), (0, .ref (ad 0)), (1, .int a1), (3, .int x3), (4, .int x4)]) hx hb dX11_mostAlike_84 rfl hl (by decide) rfl (fun ls hl => ?_)
    refine lv_iinc (v := x3 + 1) (lv' := [(3, .int (x3 + 1)), (2, .int x4), (0, .ref (ad 0)), (1, .int a1), (4, .int x4)]) hx hb dX11_mostAlike_85 hl (k := 3) rfl rfl (by decide) rfl (fun ls hl => ?_)
    refine lv_goto (tgt := 4) hx hb dX11_mostAlike_88 (by decide) ?_
    exact hY 4 [x4, x3 + 1] [] s0 hv _ _ rfl H locs ls hP hS (lv_sub hl [2, 3, 1, 0] rfl)
set_option maxHeartbeats 4000000 in
theorem y_X11_mostAlike {p : Program} {l : Launch} {e : Env} {s : State} {m : MethodId} {args : Array Value} {below : List Frame} {meth : Method} {c : Code} {dC : Nat → ClassId} {dI : Nat → Nat → Nat} {ad : Nat → Nat} {cA cZ : ClassId} (hi : Inj 12 ad) (a1 : Int32)  (C0 : Cx cX11_mostAlike RX11 wsX11_mostAlike 6 (some .int) p s m args meth c) (hK : KK dC dI cA cZ s) (Q : Int32 → St → Prop) : ∀ P xs ys σ, R_X11_mostAlike a1 Q P xs ys σ → XX p l e ({ frames := 1, cells := 0, slots := 0, locals := 21 } : Room) s m args below meth c (dC, dI) 12 ad (celM ad cA cZ) 6 (ZI below args s (dC, dI) 12 ad (celM ad cA cZ) Q) (lay_X11_mostAlike ad a1) P xs ys σ := by
  refine Fx.elim _ (fun P xs ys σ Y hY hB => ?_)
  rcases hB with ⟨rfl, x2, x3, rfl, rfl, hB⟩ | ⟨rfl, x2, x3, x4, x5, rfl, rfl, hB⟩ | ⟨rfl, x2, x3, x4, rfl, rfl, hB⟩
  · intro lv st he H locs ls hP hS hl
    cases he
    exact w_X11_mostAlike_4 hi a1  C0 hK Q Y hY x2 x3 σ hB hP hS hl
  · intro lv st he H locs ls hP hS hl
    cases he
    exact w_X11_mostAlike_16 hi a1  C0 hK Q Y hY x2 x3 x4 x5 σ hB hP hS hl
  · intro lv st he H locs ls hP hS hl
    cases he
    exact w_X11_mostAlike_72 hi a1  C0 hK Q Y hY x2 x3 x4 σ hB hP hS hl
set_option maxHeartbeats 4000000 in
theorem c_X11_mostAlike {l : Launch} {dC : Nat → ClassId} {dI : Nat → Nat → Nat} {ad : Nat → Nat} {cA cZ : ClassId} (hi : Inj 12 ad) (a1 : Int32)  (s0 : St) (Q : Int32 → St → Prop) (hv : V_X11_mostAlike a1 s0 Q) (sz : Nat) : Met l yX11_mostAlike wsX11_mostAlike ({ frames := 1, cells := 0, slots := 0, locals := 21 } : Room) (va_Pc [.ref (ad 0), .int a1] (PW dC dI ad cA cZ 12 (celM ad cA cZ) sz s0)) (va_Qi Q (fun u t => va_P (dC, dI) vwCl (wd 12 ad (celM ad cA cZ) u) t.heap) (AA 12 ad sz)) 0 0 (AA 12 ad sz) := by
  refine Met.ofW (cc := cX11_mostAlike) (maxL := 6) (ret := (some .int)) (by decide) rfl ?_
  intro p e s m args below meth c s₁ B hml hv0
  obtain ⟨rfl, hsz, hP, hK⟩ := hv0
  subst hsz
  have C0 : Cx cX11_mostAlike RX11 wsX11_mostAlike 6 (some .int) p s m ([.ref (ad 0), .int a1] : List Value).toArray meth c := ⟨B.exec, B.bytes, hml, findClass_of_methodNamed B.named, atoms_spec (ws := wsX11_mostAlike) B.pre, B.returns, B.notSynchronized⟩
  have hl := lv_entry ([.ref (ad 0), .int a1]) (n := 6) (Nat.le_of_ble_eq_true rfl)
  rw [lg_entry_eq]
  generalize (lg_sl ([.ref (ad 0), .int a1]) ++ List.replicate (6 - (lg_sl ([.ref (ad 0), .int a1])).length) Slot.unset).toArray = ls at hl ⊢
  have hl : lv_has ls 6 [(0, .ref (ad 0)), (1, .int a1)] := hl
  exact w_X11_mostAlike_e hi a1  C0 hK Q (R_X11_mostAlike a1 Q) (y_X11_mostAlike hi a1  C0 hK Q)  s0 hv hP va_S.rf hl
def lay_X11_bestLook (ad : Nat → Nat) (a1 : Int32) (a2 : Int32) (a3 : Int32) (a4 : Int32) (a5 : Int32) : Nat → List Int32 → List Int64 → Option (List (Nat × Value) × List Value) := fun P xs ys => match P, xs, ys with
  | 10, [x6, x7, x8], [] => some ([(0, .ref (ad 0)), (1, .int a1), (2, .int a2), (3, .int a3), (4, .int a4), (5, .int a5), (6, .int x6), (7, .int x7), (8, .int x8)], [])
  | 23, [x6, x7, x8, x9], [] => some ([(0, .ref (ad 0)), (1, .int a1), (2, .int a2), (3, .int a3), (4, .int a4), (5, .int a5), (6, .int x6), (7, .int x7), (8, .int x8), (9, .int x9)], [])
  | 33, [x6, x7, x8, x9, x10], [] => some ([(0, .ref (ad 0)), (1, .int a1), (2, .int a2), (3, .int a3), (4, .int a4), (5, .int a5), (6, .int x6), (7, .int x7), (8, .int x8), (9, .int x9), (10, .int x10)], [])
  | 106, [x7, x8, x9, x10, t0], [] => some ([(0, .ref (ad 0)), (1, .int a1), (2, .int a2), (3, .int a3), (4, .int a4), (5, .int a5), (7, .int x7), (8, .int x8), (9, .int x9), (10, .int x10)], [.int t0])
  | _, _, _ => none
set_option maxHeartbeats 4000000 in
set_option maxRecDepth 100000 in
theorem w_X11_bestLook_e {p : Program} {l : Launch} {e : Env} {s : State} {m : MethodId} {args : Array Value} {below : List Frame} {meth : Method} {c : Code} {dC : Nat → ClassId} {dI : Nat → Nat → Nat} {ad : Nat → Nat} {cA cZ : ClassId} (hi : Inj 12 ad) (a1 : Int32) (a2 : Int32) (a3 : Int32) (a4 : Int32) (a5 : Int32)  (C0 : Cx cX11_bestLook RX11 wsX11_bestLook 11 (some .int) p s m args meth c) (hK : KK dC dI cA cZ s) (Q : Int32 → St → Prop) (Y : Nat → List Int32 → List Int64 → St → Prop) (hY : ∀ P xs ys σ, Y P xs ys σ → XX p l e ({ frames := 2, cells := 0, slots := 0, locals := 46 } : Room) s m args below meth c (dC, dI) 12 ad (celM ad cA cZ) 11 (ZI below args s (dC, dI) 12 ad (celM ad cA cZ) Q) (lay_X11_bestLook ad a1 a2 a3 a4 a5) P xs ys σ)  (s0 : St) (hv : B_X11_bestLook_e a1 a2 a3 a4 a5 Q Y  s0) {H : Heap} {locs : List Loc} {ls : Array Slot} (hP : va_P (dC, dI) vwCl (wd 12 ad (celM ad cA cZ) s0) H) (hS : va_S (AA 12 ad s.heap.size) s.heap H locs) (hl : lv_has ls 11 [(0, .ref (ad 0)), (1, .int a1), (2, .int a2), (3, .int a3), (4, .int a4), (5, .int a5)]) : W p l e ({ frames := 2, cells := 0, slots := 0, locals := 46 } : Room) s m args below meth c H locs 0 0 (ZI below args s (dC, dI) 12 ad (celM ad cA cZ) Q) (F0 m 0 ls []) := by
  obtain ⟨hx, hb, hml, hown, hts, hr, hlocks⟩ := C0
  have hD := wd_D (s := s) (cel := celM ad cA cZ) (σ := s0) hi
  unfold B_X11_bestLook_e at hv
  refine lv_iconst (v := (-1)) hx hb dX11_bestLook_0 (by decide) ?_
  refine lv_istore (lv' := [(6, .int ((-1))), (0, .ref (ad 0)), (1, .int a1), (2, .int a2), (3, .int a3), (4, .int a4), (5, .int a5)]) hx hb dX11_bestLook_1 hl (by decide) rfl (fun ls hl => ?_)
  refine lv_ldc (v := 1000000) hx hb hown (hts _ kX11_bestLook_1) dX11_bestLook_3 ?_
  refine lv_istore (lv' := [(7, .int 1000000), (6, .int ((-1))), (0, .ref (ad 0)), (1, .int a1), (2, .int a2), (3, .int a3), (4, .int a4), (5, .int a5)]) hx hb dX11_bestLook_5 hl (by decide) rfl (fun ls hl => ?_)
  refine lv_iconst (v := 0) hx hb dX11_bestLook_7 (by decide) ?_
  refine lv_istore (lv' := [(8, .int 0), (7, .int 1000000), (6, .int ((-1))), (0, .ref (ad 0)), (1, .int a1), (2, .int a2), (3, .int a3), (4, .int a4), (5, .int a5)]) hx hb dX11_bestLook_8 hl (by decide) rfl (fun ls hl => ?_)
  exact hY 10 [(-1), 1000000, 0] [] s0 hv _ _ rfl H locs ls hP hS (lv_sub hl [3, 4, 5, 6, 7, 8, 2, 1, 0] rfl)
set_option maxHeartbeats 4000000 in
set_option maxRecDepth 100000 in
theorem w_X11_bestLook_10 {p : Program} {l : Launch} {e : Env} {s : State} {m : MethodId} {args : Array Value} {below : List Frame} {meth : Method} {c : Code} {dC : Nat → ClassId} {dI : Nat → Nat → Nat} {ad : Nat → Nat} {cA cZ : ClassId} (hi : Inj 12 ad) (a1 : Int32) (a2 : Int32) (a3 : Int32) (a4 : Int32) (a5 : Int32)  (C0 : Cx cX11_bestLook RX11 wsX11_bestLook 11 (some .int) p s m args meth c) (hK : KK dC dI cA cZ s) (Q : Int32 → St → Prop) (Y : Nat → List Int32 → List Int64 → St → Prop) (hY : ∀ P xs ys σ, Y P xs ys σ → XX p l e ({ frames := 2, cells := 0, slots := 0, locals := 46 } : Room) s m args below meth c (dC, dI) 12 ad (celM ad cA cZ) 11 (ZI below args s (dC, dI) 12 ad (celM ad cA cZ) Q) (lay_X11_bestLook ad a1 a2 a3 a4 a5) P xs ys σ) (x6 : Int32) (x7 : Int32) (x8 : Int32) (s0 : St) (hv : B_X11_bestLook_10 a1 a2 a3 a4 a5 Q Y x6 x7 x8 s0) {H : Heap} {locs : List Loc} {ls : Array Slot} (hP : va_P (dC, dI) vwCl (wd 12 ad (celM ad cA cZ) s0) H) (hS : va_S (AA 12 ad s.heap.size) s.heap H locs) (hl : lv_has ls 11 [(0, .ref (ad 0)), (1, .int a1), (2, .int a2), (3, .int a3), (4, .int a4), (5, .int a5), (6, .int x6), (7, .int x7), (8, .int x8)]) : W p l e ({ frames := 2, cells := 0, slots := 0, locals := 46 } : Room) s m args below meth c H locs 0 0 (ZI below args s (dC, dI) 12 ad (celM ad cA cZ) Q) (F0 m 10 ls []) := by
  obtain ⟨hx, hb, hml, hown, hts, hr, hlocks⟩ := C0
  have hD := wd_D (s := s) (cel := celM ad cA cZ) (σ := s0) hi
  unfold B_X11_bestLook_10 at hv
  refine lv_iload hx hb dX11_bestLook_10 (lv_at hl 8 rfl) ?_
  refine lv_iload_n hx hb dX11_bestLook_12 rfl (lv_at hl 2 rfl) ?_
  refine lv_icmp_ge (tgt := 136) hx hb dX11_bestLook_13 (by decide) (fun c13 => ?_) (fun c13 => ?_)
  · have hv := hv.1 c13
    refine lv_iload hx hb dX11_bestLook_136 (lv_at hl 6 rfl) ?_
    exact r_iret hx hb hr hlocks hv hP hS dX11_bestLook_138
  · have hv := hv.2 c13
    refine lv_iload_n hx hb dX11_bestLook_16 rfl (lv_at hl 1 rfl) ?_
    refine lv_if_le (tgt := 136) hx hb dX11_bestLook_17 (by decide) (fun c17 => ?_) (fun c17 => ?_)
    · have hv := hv.1 c17
      refine lv_iload hx hb dX11_bestLook_136 (lv_at hl 6 rfl) ?_
      exact r_iret hx hb hr hlocks hv hP hS dX11_bestLook_138
    · have hv := hv.2 c17
      refine lv_iload_n hx hb dX11_bestLook_20 rfl (lv_at hl 3 rfl) ?_
      refine lv_istore (lv' := [(9, .int a3), (0, .ref (ad 0)), (1, .int a1), (2, .int a2), (3, .int a3), (4, .int a4), (5, .int a5), (6, .int x6), (7, .int x7), (8, .int x8)]) hx hb dX11_bestLook_21 hl (by decide) rfl (fun ls hl => ?_)
      exact hY 23 [x6, x7, x8, a3] [] s0 hv _ _ rfl H locs ls hP hS (lv_sub hl [1, 2, 3, 4, 5, 6, 7, 8, 9, 0] rfl)
set_option maxHeartbeats 4000000 in
set_option maxRecDepth 100000 in
theorem w_X11_bestLook_23 {p : Program} {l : Launch} {e : Env} {s : State} {m : MethodId} {args : Array Value} {below : List Frame} {meth : Method} {c : Code} {dC : Nat → ClassId} {dI : Nat → Nat → Nat} {ad : Nat → Nat} {cA cZ : ClassId} (hi : Inj 12 ad) (a1 : Int32) (a2 : Int32) (a3 : Int32) (a4 : Int32) (a5 : Int32)  (C0 : Cx cX11_bestLook RX11 wsX11_bestLook 11 (some .int) p s m args meth c) (hK : KK dC dI cA cZ s) (Q : Int32 → St → Prop) (Y : Nat → List Int32 → List Int64 → St → Prop) (hY : ∀ P xs ys σ, Y P xs ys σ → XX p l e ({ frames := 2, cells := 0, slots := 0, locals := 46 } : Room) s m args below meth c (dC, dI) 12 ad (celM ad cA cZ) 11 (ZI below args s (dC, dI) 12 ad (celM ad cA cZ) Q) (lay_X11_bestLook ad a1 a2 a3 a4 a5) P xs ys σ) (x6 : Int32) (x7 : Int32) (x8 : Int32) (x9 : Int32) (s0 : St) (hv : B_X11_bestLook_23 a1 a2 a3 a4 a5 Q Y x6 x7 x8 x9 s0) {H : Heap} {locs : List Loc} {ls : Array Slot} (hP : va_P (dC, dI) vwCl (wd 12 ad (celM ad cA cZ) s0) H) (hS : va_S (AA 12 ad s.heap.size) s.heap H locs) (hl : lv_has ls 11 [(0, .ref (ad 0)), (1, .int a1), (2, .int a2), (3, .int a3), (4, .int a4), (5, .int a5), (6, .int x6), (7, .int x7), (8, .int x8), (9, .int x9)]) : W p l e ({ frames := 2, cells := 0, slots := 0, locals := 46 } : Room) s m args below meth c H locs 0 0 (ZI below args s (dC, dI) 12 ad (celM ad cA cZ) Q) (F0 m 23 ls []) := by
  obtain ⟨hx, hb, hml, hown, hts, hr, hlocks⟩ := C0
  have hD := wd_D (s := s) (cel := celM ad cA cZ) (σ := s0) hi
  unfold B_X11_bestLook_23 at hv
  refine lv_iload hx hb dX11_bestLook_23 (lv_at hl 9 rfl) ?_
  refine lv_iload hx hb dX11_bestLook_25 (lv_at hl 4 rfl) ?_
  refine lv_icmp_gt (tgt := 130) hx hb dX11_bestLook_27 (by decide) (fun c27 => ?_) (fun c27 => ?_)
  · have hv := hv.1 c27
    refine lv_iinc (v := x8 + 1) (lv' := [(8, .int (x8 + 1)), (0, .ref (ad 0)), (1, .int a1), (2, .int a2), (3, .int a3), (4, .int a4), (5, .int a5), (6, .int x6), (7, .int x7), (9, .int x9)]) hx hb dX11_bestLook_130 hl (k := 8) rfl rfl (by decide) rfl (fun ls hl => ?_)
    refine lv_goto (tgt := 10) hx hb dX11_bestLook_133 (by decide) ?_
    exact hY 10 [x6, x7, x8 + 1] [] s0 hv _ _ rfl H locs ls hP hS (lv_sub hl [1, 2, 3, 4, 5, 6, 7, 8, 0] rfl)
  · have hv := hv.2 c27
    refine lv_iconst (v := 0) hx hb dX11_bestLook_30 (by decide) ?_
    refine lv_istore (lv' := [(10, .int 0), (0, .ref (ad 0)), (1, .int a1), (2, .int a2), (3, .int a3), (4, .int a4), (5, .int a5), (6, .int x6), (7, .int x7), (8, .int x8), (9, .int x9)]) hx hb dX11_bestLook_31 hl (by decide) rfl (fun ls hl => ?_)
    exact hY 33 [x6, x7, x8, x9, 0] [] s0 hv _ _ rfl H locs ls hP hS (lv_sub hl [1, 2, 3, 4, 5, 6, 7, 8, 9, 10, 0] rfl)
set_option maxHeartbeats 4000000 in
set_option maxRecDepth 100000 in
theorem w_X11_bestLook_33 {p : Program} {l : Launch} {e : Env} {s : State} {m : MethodId} {args : Array Value} {below : List Frame} {meth : Method} {c : Code} {dC : Nat → ClassId} {dI : Nat → Nat → Nat} {ad : Nat → Nat} {cA cZ : ClassId} (hi : Inj 12 ad) (a1 : Int32) (a2 : Int32) (a3 : Int32) (a4 : Int32) (a5 : Int32)  (C0 : Cx cX11_bestLook RX11 wsX11_bestLook 11 (some .int) p s m args meth c) (hK : KK dC dI cA cZ s) (Q : Int32 → St → Prop) (Y : Nat → List Int32 → List Int64 → St → Prop) (hY : ∀ P xs ys σ, Y P xs ys σ → XX p l e ({ frames := 2, cells := 0, slots := 0, locals := 46 } : Room) s m args below meth c (dC, dI) 12 ad (celM ad cA cZ) 11 (ZI below args s (dC, dI) 12 ad (celM ad cA cZ) Q) (lay_X11_bestLook ad a1 a2 a3 a4 a5) P xs ys σ) (x6 : Int32) (x7 : Int32) (x8 : Int32) (x9 : Int32) (x10 : Int32) (s0 : St) (hv : B_X11_bestLook_33 a1 a2 a3 a4 a5 Q Y x6 x7 x8 x9 x10 s0) {H : Heap} {locs : List Loc} {ls : Array Slot} (hP : va_P (dC, dI) vwCl (wd 12 ad (celM ad cA cZ) s0) H) (hS : va_S (AA 12 ad s.heap.size) s.heap H locs) (hl : lv_has ls 11 [(0, .ref (ad 0)), (1, .int a1), (2, .int a2), (3, .int a3), (4, .int a4), (5, .int a5), (6, .int x6), (7, .int x7), (8, .int x8), (9, .int x9), (10, .int x10)]) : W p l e ({ frames := 2, cells := 0, slots := 0, locals := 46 } : Room) s m args below meth c H locs 0 0 (ZI below args s (dC, dI) 12 ad (celM ad cA cZ) Q) (F0 m 33 ls []) := by
  obtain ⟨hx, hb, hml, hown, hts, hr, hlocks⟩ := C0
  have hD := wd_D (s := s) (cel := celM ad cA cZ) (σ := s0) hi
  unfold B_X11_bestLook_33 at hv
  refine lv_iload hx hb dX11_bestLook_33 (lv_at hl 10 rfl) ?_
  refine lv_bipush (v := 6) hx hb dX11_bestLook_35 (by decide) ?_
  refine lv_icmp_ge (tgt := 79) hx hb dX11_bestLook_37 (by decide) (fun c37 => ?_) (fun c37 => ?_)
  · have hv := hv.1 c37
    refine lv_aload_n hx hb dX11_bestLook_79 rfl (lv_at hl 0 rfl) ?_
    refine lv_iload_n hx hb dX11_bestLook_80 rfl (lv_at hl 1 rfl) ?_
    refine r_ci (va_runV (As := [.int a1]) (rest := []) ⟨hx, hb, hml, hown, hts⟩ (c_X11_mostAlike hi a1 s0 _ hv H.size) (cwV 1 hts gX11_bestLook_X11_mostAlike rfl rfl rfl (by decide +kernel) ⟨Nat.le_of_ble_eq_true rfl, Nat.le_of_ble_eq_true rfl⟩) ⟨pre_blind, r_recv hK.1 hP 0 (by decide) (ceMo_0 (s0 0)) rfl, pre_of hP hK⟩ rfl rfl hl.1 rfl (lv_room (Nat.le_of_ble_eq_true rfl)) dX11_bestLook_81 ⟨Nat.zero_le _, Nat.zero_le _⟩) hS (fun r1 s1 H locs hv hP hS => ?_)
    have hD := wd_D (s := s) (cel := celM ad cA cZ) (σ := s1) hi
    refine lv_istore (lv' := [(10, .int r1), (0, .ref (ad 0)), (1, .int a1), (2, .int a2), (3, .int a3), (4, .int a4), (5, .int a5), (6, .int x6), (7, .int x7), (8, .int x8), (9, .int x9)]) hx hb dX11_bestLook_84 hl (by decide) rfl (fun ls hl => ?_)
    refine lv_iload hx hb dX11_bestLook_86 (lv_at hl 0 rfl) ?_
    refine lv_iload hx hb dX11_bestLook_88 (lv_at hl 8 rfl) ?_
    refine lv_icmp_ge (tgt := 104) hx hb dX11_bestLook_90 (by decide) (fun c90 => ?_) (fun c90 => ?_)
    · have hv := hv.1 c90
      refine lv_iload hx hb dX11_bestLook_104 (lv_at hl 7 rfl) ?_
      exact hY 106 [x7, x8, x9, r1, x6] [] s1 hv _ _ rfl H locs ls hP hS (lv_sub hl [1, 2, 3, 4, 5, 6, 8, 9, 10, 0] rfl)
    · have hv := hv.2 c90
      refine lv_bipush (v := 10) hx hb dX11_bestLook_93 (by decide) ?_
      refine lv_iload hx hb dX11_bestLook_95 (lv_at hl 9 rfl) ?_
      refine lv_imul hx hb dX11_bestLook_97 ?_
      refine lv_iload hx hb dX11_bestLook_98 (lv_at hl 10 rfl) ?_
      refine lv_iadd hx hb dX11_bestLook_100 ?_
      refine lv_goto (tgt := 106) hx hb dX11_bestLook_101 (by decide) ?_
      exact hY 106 [x7, x8, x9, r1, (10 * x8) + x9] [] s1 hv _ _ rfl H locs ls hP hS (lv_sub hl [1, 2, 3, 4, 5, 6, 8, 9, 10, 0] rfl)
  · have hv := hv.2 c37
    refine lv_aload_n hx hb dX11_bestLook_40 rfl (lv_at hl 0 rfl) ?_
    refine r_get hx hb hts (iwX11_bestLook_X11) hown hK.1 hP 0 (by decide) (ceMo_0 (s0 0)) rfl 9 (by decide) (hts _ kX11_bestLook_2) (v := .ref (ad 8)) rfl dX11_bestLook_41 ?_
    refine lv_iload hx hb dX11_bestLook_44 (lv_at hl 10 rfl) ?_
    refine lv_iload hx hb dX11_bestLook_46 (lv_at hl 5 rfl) ?_
    refine lv_if_eq (tgt := 63) hx hb dX11_bestLook_48 (by decide) (fun c48 => ?_) (fun c48 => ?_)
    · have hv := hv.1 c48
      refine lv_iload hx hb dX11_bestLook_63 (lv_at hl 10 rfl) ?_
      refine lv_iload hx hb dX11_bestLook_65 (lv_at hl 8 rfl) ?_
      refine lv_iload hx hb dX11_bestLook_67 (lv_at hl 9 rfl) ?_
      refine r_ci (va_runS (As := [.int x10, .int x8, .int x9]) (rest := [.int x10, .ref (ad 8)]) ⟨hx, hb, hml, hown, hts⟩ (c_X11_letsAs hi x10 x8 x9 s0 _ hv H.size) (va_cwS 3 hts gX11_bestLook_X11_letsAs rfl rfl rfl (by decide +kernel) ⟨Nat.le_of_ble_eq_true rfl, Nat.le_of_ble_eq_true rfl⟩) ⟨pre_blind, pre_of hP hK⟩ rfl rfl hl.1 rfl (lv_room (Nat.le_of_ble_eq_true rfl)) dX11_bestLook_69 ⟨Nat.zero_le _, Nat.zero_le _⟩) hS (fun r2 s2 H locs hv hP hS => ?_)
      have hD := wd_D (s := s) (cel := celM ad cA cZ) (σ := s2) hi
      obtain ⟨hin, hv⟩ := hv
      refine r_iast hx hb hK.1 hP hD hS 8 (by decide) (ceMo_8 (s2 8)) (ceMo_8 _) hin dX11_bestLook_72 (fun H locs s3 es3 hP hD hS => ?_)
      have hv := hv s3 es3
      refine lv_iinc (v := x10 + 1) (lv' := [(10, .int (x10 + 1)), (0, .ref (ad 0)), (1, .int a1), (2, .int a2), (3, .int a3), (4, .int a4), (5, .int a5), (6, .int x6), (7, .int x7), (8, .int x8), (9, .int x9)]) hx hb dX11_bestLook_73 hl (k := 10) rfl rfl (by decide) rfl (fun ls hl => ?_)
      refine lv_goto (tgt := 33) hx hb dX11_bestLook_76 (by decide) ?_
      exact hY 33 [x6, x7, x8, x9, x10 + 1] [] s3 hv _ _ rfl H locs ls hP hS (lv_sub hl [1, 2, 3, 4, 5, 6, 7, 8, 9, 10, 0] rfl)
    · have hv := hv.2 c48
      refine lv_iload hx hb dX11_bestLook_51 (lv_at hl 10 rfl) ?_
      refine lv_iload hx hb dX11_bestLook_53 (lv_at hl 8 rfl) ?_
      refine lv_iload hx hb dX11_bestLook_55 (lv_at hl 9 rfl) ?_
      refine r_ci (va_runS (As := [.int x10, .int x8, .int x9]) (rest := [.int x10, .ref (ad 8)]) ⟨hx, hb, hml, hown, hts⟩ (c_X11_goesAs hi x10 x8 x9 s0 _ hv H.size) (va_cwS 3 hts gX11_bestLook_X11_goesAs rfl rfl rfl (by decide +kernel) ⟨Nat.le_of_ble_eq_true rfl, Nat.le_of_ble_eq_true rfl⟩) ⟨pre_blind, pre_of hP hK⟩ rfl rfl hl.1 rfl (lv_room (Nat.le_of_ble_eq_true rfl)) dX11_bestLook_57 ⟨Nat.zero_le _, Nat.zero_le _⟩) hS (fun r4 s4 H locs hv hP hS => ?_)
      have hD := wd_D (s := s) (cel := celM ad cA cZ) (σ := s4) hi
      refine lv_goto (tgt := 72) hx hb dX11_bestLook_60 (by decide) ?_
      obtain ⟨hin, hv⟩ := hv
      refine r_iast hx hb hK.1 hP hD hS 8 (by decide) (ceMo_8 (s4 8)) (ceMo_8 _) hin dX11_bestLook_72 (fun H locs s5 es5 hP hD hS => ?_)
      have hv := hv s5 es5
      refine lv_iinc (v := x10 + 1) (lv' := [(10, .int (x10 + 1)), (0, .ref (ad 0)), (1, .int a1), (2, .int a2), (3, .int a3), (4, .int a4), (5, .int a5), (6, .int x6), (7, .int x7), (8, .int x8), (9, .int x9)]) hx hb dX11_bestLook_73 hl (k := 10) rfl rfl (by decide) rfl (fun ls hl => ?_)
      refine lv_goto (tgt := 33) hx hb dX11_bestLook_76 (by decide) ?_
      exact hY 33 [x6, x7, x8, x9, x10 + 1] [] s5 hv _ _ rfl H locs ls hP hS (lv_sub hl [1, 2, 3, 4, 5, 6, 7, 8, 9, 10, 0] rfl)
set_option maxHeartbeats 4000000 in
set_option maxRecDepth 100000 in
theorem w_X11_bestLook_106 {p : Program} {l : Launch} {e : Env} {s : State} {m : MethodId} {args : Array Value} {below : List Frame} {meth : Method} {c : Code} {dC : Nat → ClassId} {dI : Nat → Nat → Nat} {ad : Nat → Nat} {cA cZ : ClassId} (hi : Inj 12 ad) (a1 : Int32) (a2 : Int32) (a3 : Int32) (a4 : Int32) (a5 : Int32)  (C0 : Cx cX11_bestLook RX11 wsX11_bestLook 11 (some .int) p s m args meth c) (hK : KK dC dI cA cZ s) (Q : Int32 → St → Prop) (Y : Nat → List Int32 → List Int64 → St → Prop) (hY : ∀ P xs ys σ, Y P xs ys σ → XX p l e ({ frames := 2, cells := 0, slots := 0, locals := 46 } : Room) s m args below meth c (dC, dI) 12 ad (celM ad cA cZ) 11 (ZI below args s (dC, dI) 12 ad (celM ad cA cZ) Q) (lay_X11_bestLook ad a1 a2 a3 a4 a5) P xs ys σ) (x7 : Int32) (x8 : Int32) (x9 : Int32) (x10 : Int32) (t0 : Int32) (s0 : St) (hv : B_X11_bestLook_106 a1 a2 a3 a4 a5 Q Y x7 x8 x9 x10 t0 s0) {H : Heap} {locs : List Loc} {ls : Array Slot} (hP : va_P (dC, dI) vwCl (wd 12 ad (celM ad cA cZ) s0) H) (hS : va_S (AA 12 ad s.heap.size) s.heap H locs) (hl : lv_has ls 11 [(0, .ref (ad 0)), (1, .int a1), (2, .int a2), (3, .int a3), (4, .int a4), (5, .int a5), (7, .int x7), (8, .int x8), (9, .int x9), (10, .int x10)]) : W p l e ({ frames := 2, cells := 0, slots := 0, locals := 46 } : Room) s m args below meth c H locs 0 0 (ZI below args s (dC, dI) 12 ad (celM ad cA cZ) Q) (F0 m 106 ls [.int t0]) := by
  obtain ⟨hx, hb, hml, hown, hts, hr, hlocks⟩ := C0
  have hD := wd_D (s := s) (cel := celM ad cA cZ) (σ := s0) hi
  unfold B_X11_bestLook_106 at hv
  refine lv_istore (lv' := [(6, .int t0), (0, .ref (ad 0)), (1, .int a1), (2, .int a2), (3, .int a3), (4, .int a4), (5, .int a5), (7, .int x7), (8, .int x8), (9, .int x9), (10, .int x10)]) hx hb dX11_bestLook_106 hl (by decide) rfl (fun ls hl => ?_)
  refine lv_iload hx hb dX11_bestLook_108 (lv_at hl 10 rfl) ?_
  refine lv_iload hx hb dX11_bestLook_110 (lv_at hl 7 rfl) ?_
  refine lv_icmp_ge (tgt := 120) hx hb dX11_bestLook_112 (by decide) (fun c112 => ?_) (fun c112 => ?_)
  · have hv := hv.1 c112
    refine lv_iload hx hb dX11_bestLook_120 (lv_at hl 7 rfl) ?_
    refine lv_istore (lv' := [(7, .int x7), (6, .int t0), (0, .ref (ad 0)), (1, .int a1), (2, .int a2), (3, .int a3), (4, .int a4), (5, .int a5), (8, .int x8), (9, .int x9), (10, .int x10)]) hx hb dX11_bestLook_122 hl (by decide) rfl (fun ls hl => ?_)
    refine lv_iinc (v := x9 + 1) (lv' := [(9, .int (x9 + 1)), (7, .int x7), (6, .int t0), (0, .ref (ad 0)), (1, .int a1), (2, .int a2), (3, .int a3), (4, .int a4), (5, .int a5), (8, .int x8), (10, .int x10)]) hx hb dX11_bestLook_124 hl (k := 9) rfl rfl (by decide) rfl (fun ls hl => ?_)
    refine lv_goto (tgt := 23) hx hb dX11_bestLook_127 (by decide) ?_
    exact hY 23 [t0, x7, x8, x9 + 1] [] s0 hv _ _ rfl H locs ls hP hS (lv_sub hl [3, 4, 5, 6, 7, 8, 2, 1, 9, 0] rfl)
  · have hv := hv.2 c112
    refine lv_iload hx hb dX11_bestLook_115 (lv_at hl 10 rfl) ?_
    refine lv_goto (tgt := 122) hx hb dX11_bestLook_117 (by decide) ?_
    refine lv_istore (lv' := [(7, .int x10), (6, .int t0), (0, .ref (ad 0)), (1, .int a1), (2, .int a2), (3, .int a3), (4, .int a4), (5, .int a5), (8, .int x8), (9, .int x9), (10, .int x10)]) hx hb dX11_bestLook_122 hl (by decide) rfl (fun ls hl => ?_)
    refine lv_iinc (v := x9 + 1) (lv' := [(9, .int (x9 + 1)), (7, .int x10), (6, .int t0), (0, .ref (ad 0)), (1, .int a1), (2, .int a2), (3, .int a3), (4, .int a4), (5, .int a5), (8, .int x8), (10, .int x10)]) hx hb dX11_bestLook_124 hl (k := 9) rfl rfl (by decide) rfl (fun ls hl => ?_)
    refine lv_goto (tgt := 23) hx hb dX11_bestLook_127 (by decide) ?_
    exact hY 23 [t0, x10, x8, x9 + 1] [] s0 hv _ _ rfl H locs ls hP hS (lv_sub hl [3, 4, 5, 6, 7, 8, 2, 1, 9, 0] rfl)
set_option maxHeartbeats 4000000 in
theorem y_X11_bestLook {p : Program} {l : Launch} {e : Env} {s : State} {m : MethodId} {args : Array Value} {below : List Frame} {meth : Method} {c : Code} {dC : Nat → ClassId} {dI : Nat → Nat → Nat} {ad : Nat → Nat} {cA cZ : ClassId} (hi : Inj 12 ad) (a1 : Int32) (a2 : Int32) (a3 : Int32) (a4 : Int32) (a5 : Int32)  (C0 : Cx cX11_bestLook RX11 wsX11_bestLook 11 (some .int) p s m args meth c) (hK : KK dC dI cA cZ s) (Q : Int32 → St → Prop) : ∀ P xs ys σ, R_X11_bestLook a1 a2 a3 a4 a5 Q P xs ys σ → XX p l e ({ frames := 2, cells := 0, slots := 0, locals := 46 } : Room) s m args below meth c (dC, dI) 12 ad (celM ad cA cZ) 11 (ZI below args s (dC, dI) 12 ad (celM ad cA cZ) Q) (lay_X11_bestLook ad a1 a2 a3 a4 a5) P xs ys σ := by
  refine Fx.elim _ (fun P xs ys σ Y hY hB => ?_)
  rcases hB with ⟨rfl, x6, x7, x8, rfl, rfl, hB⟩ | ⟨rfl, x6, x7, x8, x9, rfl, rfl, hB⟩ | ⟨rfl, x6, x7, x8, x9, x10, rfl, rfl, hB⟩ | ⟨rfl, x7, x8, x9, x10, t0, rfl, rfl, hB⟩
  · intro lv st he H locs ls hP hS hl
    cases he
    exact w_X11_bestLook_10 hi a1 a2 a3 a4 a5  C0 hK Q Y hY x6 x7 x8 σ hB hP hS hl
  · intro lv st he H locs ls hP hS hl
    cases he
    exact w_X11_bestLook_23 hi a1 a2 a3 a4 a5  C0 hK Q Y hY x6 x7 x8 x9 σ hB hP hS hl
  · intro lv st he H locs ls hP hS hl
    cases he
    exact w_X11_bestLook_33 hi a1 a2 a3 a4 a5  C0 hK Q Y hY x6 x7 x8 x9 x10 σ hB hP hS hl
  · intro lv st he H locs ls hP hS hl
    cases he
    exact w_X11_bestLook_106 hi a1 a2 a3 a4 a5  C0 hK Q Y hY x7 x8 x9 x10 t0 σ hB hP hS hl
set_option maxHeartbeats 4000000 in
theorem c_X11_bestLook {l : Launch} {dC : Nat → ClassId} {dI : Nat → Nat → Nat} {ad : Nat → Nat} {cA cZ : ClassId} (hi : Inj 12 ad) (a1 : Int32) (a2 : Int32) (a3 : Int32) (a4 : Int32) (a5 : Int32)  (s0 : St) (Q : Int32 → St → Prop) (hv : V_X11_bestLook a1 a2 a3 a4 a5 s0 Q) (sz : Nat) : Met l yX11_bestLook wsX11_bestLook ({ frames := 2, cells := 0, slots := 0, locals := 46 } : Room) (va_Pc [.ref (ad 0), .int a1, .int a2, .int a3, .int a4, .int a5] (PW dC dI ad cA cZ 12 (celM ad cA cZ) sz s0)) (va_Qi Q (fun u t => va_P (dC, dI) vwCl (wd 12 ad (celM ad cA cZ) u) t.heap) (AA 12 ad sz)) 0 0 (AA 12 ad sz) := by
  refine Met.ofW (cc := cX11_bestLook) (maxL := 11) (ret := (some .int)) (by decide) rfl ?_
  intro p e s m args below meth c s₁ B hml hv0
  obtain ⟨rfl, hsz, hP, hK⟩ := hv0
  subst hsz
  have C0 : Cx cX11_bestLook RX11 wsX11_bestLook 11 (some .int) p s m ([.ref (ad 0), .int a1, .int a2, .int a3, .int a4, .int a5] : List Value).toArray meth c := ⟨B.exec, B.bytes, hml, findClass_of_methodNamed B.named, atoms_spec (ws := wsX11_bestLook) B.pre, B.returns, B.notSynchronized⟩
  have hl := lv_entry ([.ref (ad 0), .int a1, .int a2, .int a3, .int a4, .int a5]) (n := 11) (Nat.le_of_ble_eq_true rfl)
  rw [lg_entry_eq]
  generalize (lg_sl ([.ref (ad 0), .int a1, .int a2, .int a3, .int a4, .int a5]) ++ List.replicate (11 - (lg_sl ([.ref (ad 0), .int a1, .int a2, .int a3, .int a4, .int a5])).length) Slot.unset).toArray = ls at hl ⊢
  have hl : lv_has ls 11 [(0, .ref (ad 0)), (1, .int a1), (2, .int a2), (3, .int a3), (4, .int a4), (5, .int a5)] := hl
  exact w_X11_bestLook_e hi a1 a2 a3 a4 a5  C0 hK Q (R_X11_bestLook a1 a2 a3 a4 a5 Q) (y_X11_bestLook hi a1 a2 a3 a4 a5  C0 hK Q)  s0 hv hP va_S.rf hl
def lay_X11_is (ad : Nat → Nat) (a1 : Int32) : Nat → List Int32 → List Int64 → Option (List (Nat × Value) × List Value) := fun P xs ys => match P, xs, ys with
  | _, _, _ => none
set_option maxHeartbeats 4000000 in
set_option maxRecDepth 100000 in
theorem w_X11_is_e {p : Program} {l : Launch} {e : Env} {s : State} {m : MethodId} {args : Array Value} {below : List Frame} {meth : Method} {c : Code} {dC : Nat → ClassId} {dI : Nat → Nat → Nat} {ad : Nat → Nat} {cA cZ : ClassId} (hi : Inj 12 ad) (a1 : Int32)  (C0 : Cx cX11_is RX11 wsX11_is 2 (some .int) p s m args meth c) (hK : KK dC dI cA cZ s) (Q : Int32 → St → Prop) (Y : Nat → List Int32 → List Int64 → St → Prop) (hY : ∀ P xs ys σ, Y P xs ys σ → XX p l e ({ frames := 3, cells := 0, slots := 0, locals := 76 } : Room) s m args below meth c (dC, dI) 12 ad (celM ad cA cZ) 2 (ZI below args s (dC, dI) 12 ad (celM ad cA cZ) Q) (lay_X11_is ad a1) P xs ys σ)  (s0 : St) (hv : B_X11_is_e a1 Q Y  s0) {H : Heap} {locs : List Loc} {ls : Array Slot} (hP : va_P (dC, dI) vwCl (wd 12 ad (celM ad cA cZ) s0) H) (hS : va_S (AA 12 ad s.heap.size) s.heap H locs) (hl : lv_has ls 2 [(0, .ref (ad 0)), (1, .int a1)]) : W p l e ({ frames := 3, cells := 0, slots := 0, locals := 76 } : Room) s m args below meth c H locs 0 0 (ZI below args s (dC, dI) 12 ad (celM ad cA cZ) Q) (F0 m 0 ls []) := by
  obtain ⟨hx, hb, hml, hown, hts, hr, hlocks⟩ := C0
  have hD := wd_D (s := s) (cel := celM ad cA cZ) (σ := s0) hi
  unfold B_X11_is_e at hv
  refine lv_aload_n hx hb dX11_is_0 rfl (lv_at hl 0 rfl) ?_
  refine lv_iload_n hx hb dX11_is_1 rfl (lv_at hl 1 rfl) ?_
  refine r_ci (va_runV (As := [.int a1]) (rest := []) ⟨hx, hb, hml, hown, hts⟩ (c_X11_isGlove hi a1 s0 _ hv H.size) (cwV 1 hts gX11_is_X11_isGlove rfl rfl rfl (by decide +kernel) ⟨Nat.le_of_ble_eq_true rfl, Nat.le_of_ble_eq_true rfl⟩) ⟨pre_blind, r_recv hK.1 hP 0 (by decide) (ceMo_0 (s0 0)) rfl, pre_of hP hK⟩ rfl rfl hl.1 rfl (lv_room (Nat.le_of_ble_eq_true rfl)) dX11_is_2 ⟨Nat.zero_le _, Nat.zero_le _⟩) hS (fun r1 s1 H locs hv hP hS => ?_)
  obtain ⟨hz_r1, hv⟩ := hv
  have hD := wd_D (s := s) (cel := celM ad cA cZ) (σ := s1) hi
  refine lv_if_eq (tgt := 16) hx hb dX11_is_5 (by decide) (fun c5 => ?_) (fun c5 => ?_)
  · have hv := hv.1 c5
    refine lv_aload_n hx hb dX11_is_16 rfl (lv_at hl 0 rfl) ?_
    refine lv_bipush (v := (-2)) hx hb dX11_is_17 (by decide) ?_
    refine r_ci (va_runV (As := [.int ((-2))]) (rest := []) ⟨hx, hb, hml, hown, hts⟩ (c_X11_bad hi ((-2)) s1 _ hv H.size) (cwV 1 hts gX11_is_X11_bad rfl rfl rfl (by decide +kernel) ⟨Nat.le_of_ble_eq_true rfl, Nat.le_of_ble_eq_true rfl⟩) ⟨pre_blind, r_recv hK.1 hP 0 (by decide) (ceMo_0 (s1 0)) rfl, pre_of hP hK⟩ rfl rfl hl.1 rfl (lv_room (Nat.le_of_ble_eq_true rfl)) dX11_is_19 ⟨Nat.zero_le _, Nat.zero_le _⟩) hS (fun r2 s2 H locs hv hP hS => ?_)
    have hD := wd_D (s := s) (cel := celM ad cA cZ) (σ := s2) hi
    exact r_iret hx hb hr hlocks hv hP hS dX11_is_22
  · have hv := hv.2 c5
    refine lv_aload_n hx hb dX11_is_8 rfl (lv_at hl 0 rfl) ?_
    refine lv_iload_n hx hb dX11_is_9 rfl (lv_at hl 1 rfl) ?_
    refine r_ci (va_runV (As := [.int a1]) (rest := []) ⟨hx, hb, hml, hown, hts⟩ (c_X11_kindsOfGlove hi a1 s1 _ hv H.size) (cwV 1 hts gX11_is_X11_kindsOfGlove rfl rfl rfl (by decide +kernel) ⟨Nat.le_of_ble_eq_true rfl, Nat.le_of_ble_eq_true rfl⟩) ⟨pre_blind, r_recv hK.1 hP 0 (by decide) (ceMo_0 (s1 0)) rfl, pre_of hP hK⟩ rfl rfl hl.1 rfl (lv_room (Nat.le_of_ble_eq_true rfl)) dX11_is_10 ⟨Nat.zero_le _, Nat.zero_le _⟩) hS (fun r3 s3 H locs hv hP hS => ?_)
    have hD := wd_D (s := s) (cel := celM ad cA cZ) (σ := s3) hi
    refine lv_goto (tgt := 22) hx hb dX11_is_13 (by decide) ?_
    exact r_iret hx hb hr hlocks hv hP hS dX11_is_22
set_option maxHeartbeats 4000000 in
theorem y_X11_is {p : Program} {l : Launch} {e : Env} {s : State} {m : MethodId} {args : Array Value} {below : List Frame} {meth : Method} {c : Code} {dC : Nat → ClassId} {dI : Nat → Nat → Nat} {ad : Nat → Nat} {cA cZ : ClassId} (hi : Inj 12 ad) (a1 : Int32)  (C0 : Cx cX11_is RX11 wsX11_is 2 (some .int) p s m args meth c) (hK : KK dC dI cA cZ s) (Q : Int32 → St → Prop) : ∀ P xs ys σ, R_X11_is a1 Q P xs ys σ → XX p l e ({ frames := 3, cells := 0, slots := 0, locals := 76 } : Room) s m args below meth c (dC, dI) 12 ad (celM ad cA cZ) 2 (ZI below args s (dC, dI) 12 ad (celM ad cA cZ) Q) (lay_X11_is ad a1) P xs ys σ := by
  refine Fx.elim _ (fun P xs ys σ Y hY hB => ?_)
  exact hB.elim
set_option maxHeartbeats 4000000 in
theorem c_X11_is {l : Launch} {dC : Nat → ClassId} {dI : Nat → Nat → Nat} {ad : Nat → Nat} {cA cZ : ClassId} (hi : Inj 12 ad) (a1 : Int32)  (s0 : St) (Q : Int32 → St → Prop) (hv : V_X11_is a1 s0 Q) (sz : Nat) : Met l yX11_is wsX11_is ({ frames := 3, cells := 0, slots := 0, locals := 76 } : Room) (va_Pc [.ref (ad 0), .int a1] (PW dC dI ad cA cZ 12 (celM ad cA cZ) sz s0)) (va_Qi Q (fun u t => va_P (dC, dI) vwCl (wd 12 ad (celM ad cA cZ) u) t.heap) (AA 12 ad sz)) 0 0 (AA 12 ad sz) := by
  refine Met.ofW (cc := cX11_is) (maxL := 2) (ret := (some .int)) (by decide) rfl ?_
  intro p e s m args below meth c s₁ B hml hv0
  obtain ⟨rfl, hsz, hP, hK⟩ := hv0
  subst hsz
  have C0 : Cx cX11_is RX11 wsX11_is 2 (some .int) p s m ([.ref (ad 0), .int a1] : List Value).toArray meth c := ⟨B.exec, B.bytes, hml, findClass_of_methodNamed B.named, atoms_spec (ws := wsX11_is) B.pre, B.returns, B.notSynchronized⟩
  have hl := lv_entry ([.ref (ad 0), .int a1]) (n := 2) (Nat.le_of_ble_eq_true rfl)
  rw [lg_entry_eq]
  generalize (lg_sl ([.ref (ad 0), .int a1]) ++ List.replicate (2 - (lg_sl ([.ref (ad 0), .int a1])).length) Slot.unset).toArray = ls at hl ⊢
  have hl : lv_has ls 2 [(0, .ref (ad 0)), (1, .int a1)] := hl
  exact w_X11_is_e hi a1  C0 hK Q (R_X11_is a1 Q) (y_X11_is hi a1  C0 hK Q)  s0 hv hP va_S.rf hl
def lay_X11_look (ad : Nat → Nat) (a1 : Int32) : Nat → List Int32 → List Int64 → Option (List (Nat × Value) × List Value) := fun P xs ys => match P, xs, ys with
  | _, _, _ => none
set_option maxHeartbeats 4000000 in
set_option maxRecDepth 100000 in
theorem w_X11_look_e {p : Program} {l : Launch} {e : Env} {s : State} {m : MethodId} {args : Array Value} {below : List Frame} {meth : Method} {c : Code} {dC : Nat → ClassId} {dI : Nat → Nat → Nat} {ad : Nat → Nat} {cA cZ : ClassId} (hi : Inj 12 ad) (a1 : Int32)  (C0 : Cx cX11_look RX11 wsX11_look 2 (some .int) p s m args meth c) (hK : KK dC dI cA cZ s) (Q : Int32 → St → Prop) (Y : Nat → List Int32 → List Int64 → St → Prop) (hY : ∀ P xs ys σ, Y P xs ys σ → XX p l e ({ frames := 3, cells := 0, slots := 0, locals := 76 } : Room) s m args below meth c (dC, dI) 12 ad (celM ad cA cZ) 2 (ZI below args s (dC, dI) 12 ad (celM ad cA cZ) Q) (lay_X11_look ad a1) P xs ys σ)  (s0 : St) (hv : B_X11_look_e a1 Q Y  s0) {H : Heap} {locs : List Loc} {ls : Array Slot} (hP : va_P (dC, dI) vwCl (wd 12 ad (celM ad cA cZ) s0) H) (hS : va_S (AA 12 ad s.heap.size) s.heap H locs) (hl : lv_has ls 2 [(0, .ref (ad 0)), (1, .int a1)]) : W p l e ({ frames := 3, cells := 0, slots := 0, locals := 76 } : Room) s m args below meth c H locs 0 0 (ZI below args s (dC, dI) 12 ad (celM ad cA cZ) Q) (F0 m 0 ls []) := by
  obtain ⟨hx, hb, hml, hown, hts, hr, hlocks⟩ := C0
  have hD := wd_D (s := s) (cel := celM ad cA cZ) (σ := s0) hi
  unfold B_X11_look_e at hv
  refine lv_aload_n hx hb dX11_look_0 rfl (lv_at hl 0 rfl) ?_
  refine lv_iload_n hx hb dX11_look_1 rfl (lv_at hl 1 rfl) ?_
  refine r_ci (va_runV (As := [.int a1]) (rest := []) ⟨hx, hb, hml, hown, hts⟩ (c_X11_isGlove hi a1 s0 _ hv H.size) (cwV 1 hts gX11_look_X11_isGlove rfl rfl rfl (by decide +kernel) ⟨Nat.le_of_ble_eq_true rfl, Nat.le_of_ble_eq_true rfl⟩) ⟨pre_blind, r_recv hK.1 hP 0 (by decide) (ceMo_0 (s0 0)) rfl, pre_of hP hK⟩ rfl rfl hl.1 rfl (lv_room (Nat.le_of_ble_eq_true rfl)) dX11_look_2 ⟨Nat.zero_le _, Nat.zero_le _⟩) hS (fun r1 s1 H locs hv hP hS => ?_)
  obtain ⟨hz_r1, hv⟩ := hv
  have hD := wd_D (s := s) (cel := celM ad cA cZ) (σ := s1) hi
  refine lv_if_eq (tgt := 25) hx hb dX11_look_5 (by decide) (fun c5 => ?_) (fun c5 => ?_)
  · have hv := hv.1 c5
    refine lv_aload_n hx hb dX11_look_25 rfl (lv_at hl 0 rfl) ?_
    refine lv_bipush (v := (-2)) hx hb dX11_look_26 (by decide) ?_
    refine r_ci (va_runV (As := [.int ((-2))]) (rest := []) ⟨hx, hb, hml, hown, hts⟩ (c_X11_bad hi ((-2)) s1 _ hv H.size) (cwV 1 hts gX11_look_X11_bad rfl rfl rfl (by decide +kernel) ⟨Nat.le_of_ble_eq_true rfl, Nat.le_of_ble_eq_true rfl⟩) ⟨pre_blind, r_recv hK.1 hP 0 (by decide) (ceMo_0 (s1 0)) rfl, pre_of hP hK⟩ rfl rfl hl.1 rfl (lv_room (Nat.le_of_ble_eq_true rfl)) dX11_look_28 ⟨Nat.zero_le _, Nat.zero_le _⟩) hS (fun r2 s2 H locs hv hP hS => ?_)
    have hD := wd_D (s := s) (cel := celM ad cA cZ) (σ := s2) hi
    exact r_iret hx hb hr hlocks hv hP hS dX11_look_31
  · have hv := hv.2 c5
    refine lv_aload_n hx hb dX11_look_8 rfl (lv_at hl 0 rfl) ?_
    refine lv_aload_n hx hb dX11_look_9 rfl (lv_at hl 0 rfl) ?_
    refine lv_iload_n hx hb dX11_look_10 rfl (lv_at hl 1 rfl) ?_
    refine r_ci (va_runV (As := [.int a1]) (rest := [.ref (ad 0)]) ⟨hx, hb, hml, hown, hts⟩ (c_X11_kindsOfGlove hi a1 s1 _ hv H.size) (cwV 1 hts gX11_look_X11_kindsOfGlove rfl rfl rfl (by decide +kernel) ⟨Nat.le_of_ble_eq_true rfl, Nat.le_of_ble_eq_true rfl⟩) ⟨pre_blind, r_recv hK.1 hP 0 (by decide) (ceMo_0 (s1 0)) rfl, pre_of hP hK⟩ rfl rfl hl.1 rfl (lv_room (Nat.le_of_ble_eq_true rfl)) dX11_look_11 ⟨Nat.zero_le _, Nat.zero_le _⟩) hS (fun r3 s3 H locs hv hP hS => ?_)
    have hD := wd_D (s := s) (cel := celM ad cA cZ) (σ := s3) hi
    refine lv_bipush (v := 10) hx hb dX11_look_14 (by decide) ?_
    refine lv_iconst (v := 0) hx hb dX11_look_16 (by decide) ?_
    refine lv_iconst (v := 4) hx hb dX11_look_17 (by decide) ?_
    refine lv_iconst (v := 1) hx hb dX11_look_18 (by decide) ?_
    refine r_ci (va_runV (As := [.int r3, .int 10, .int 0, .int 4, .int 1]) (rest := []) ⟨hx, hb, hml, hown, hts⟩ (c_X11_bestLook hi r3 10 0 4 1 s3 _ hv H.size) (cwV 5 hts gX11_look_X11_bestLook rfl rfl rfl (by decide +kernel) ⟨Nat.le_of_ble_eq_true rfl, Nat.le_of_ble_eq_true rfl⟩) ⟨pre_blind, r_recv hK.1 hP 0 (by decide) (ceMo_0 (s3 0)) rfl, pre_of hP hK⟩ rfl rfl hl.1 rfl (lv_room (Nat.le_of_ble_eq_true rfl)) dX11_look_19 ⟨Nat.zero_le _, Nat.zero_le _⟩) hS (fun r4 s4 H locs hv hP hS => ?_)
    have hD := wd_D (s := s) (cel := celM ad cA cZ) (σ := s4) hi
    refine lv_goto (tgt := 31) hx hb dX11_look_22 (by decide) ?_
    exact r_iret hx hb hr hlocks hv hP hS dX11_look_31
set_option maxHeartbeats 4000000 in
theorem y_X11_look {p : Program} {l : Launch} {e : Env} {s : State} {m : MethodId} {args : Array Value} {below : List Frame} {meth : Method} {c : Code} {dC : Nat → ClassId} {dI : Nat → Nat → Nat} {ad : Nat → Nat} {cA cZ : ClassId} (hi : Inj 12 ad) (a1 : Int32)  (C0 : Cx cX11_look RX11 wsX11_look 2 (some .int) p s m args meth c) (hK : KK dC dI cA cZ s) (Q : Int32 → St → Prop) : ∀ P xs ys σ, R_X11_look a1 Q P xs ys σ → XX p l e ({ frames := 3, cells := 0, slots := 0, locals := 76 } : Room) s m args below meth c (dC, dI) 12 ad (celM ad cA cZ) 2 (ZI below args s (dC, dI) 12 ad (celM ad cA cZ) Q) (lay_X11_look ad a1) P xs ys σ := by
  refine Fx.elim _ (fun P xs ys σ Y hY hB => ?_)
  exact hB.elim
set_option maxHeartbeats 4000000 in
theorem c_X11_look {l : Launch} {dC : Nat → ClassId} {dI : Nat → Nat → Nat} {ad : Nat → Nat} {cA cZ : ClassId} (hi : Inj 12 ad) (a1 : Int32)  (s0 : St) (Q : Int32 → St → Prop) (hv : V_X11_look a1 s0 Q) (sz : Nat) : Met l yX11_look wsX11_look ({ frames := 3, cells := 0, slots := 0, locals := 76 } : Room) (va_Pc [.ref (ad 0), .int a1] (PW dC dI ad cA cZ 12 (celM ad cA cZ) sz s0)) (va_Qi Q (fun u t => va_P (dC, dI) vwCl (wd 12 ad (celM ad cA cZ) u) t.heap) (AA 12 ad sz)) 0 0 (AA 12 ad sz) := by
  refine Met.ofW (cc := cX11_look) (maxL := 2) (ret := (some .int)) (by decide) rfl ?_
  intro p e s m args below meth c s₁ B hml hv0
  obtain ⟨rfl, hsz, hP, hK⟩ := hv0
  subst hsz
  have C0 : Cx cX11_look RX11 wsX11_look 2 (some .int) p s m ([.ref (ad 0), .int a1] : List Value).toArray meth c := ⟨B.exec, B.bytes, hml, findClass_of_methodNamed B.named, atoms_spec (ws := wsX11_look) B.pre, B.returns, B.notSynchronized⟩
  have hl := lv_entry ([.ref (ad 0), .int a1]) (n := 2) (Nat.le_of_ble_eq_true rfl)
  rw [lg_entry_eq]
  generalize (lg_sl ([.ref (ad 0), .int a1]) ++ List.replicate (2 - (lg_sl ([.ref (ad 0), .int a1])).length) Slot.unset).toArray = ls at hl ⊢
  have hl : lv_has ls 2 [(0, .ref (ad 0)), (1, .int a1)] := hl
  exact w_X11_look_e hi a1  C0 hK Q (R_X11_look a1 Q) (y_X11_look hi a1  C0 hK Q)  s0 hv hP va_S.rf hl
def lay_X11_kinds (ad : Nat → Nat) (a1 : Int32) : Nat → List Int32 → List Int64 → Option (List (Nat × Value) × List Value) := fun P xs ys => match P, xs, ys with
  | _, _, _ => none
set_option maxHeartbeats 4000000 in
set_option maxRecDepth 100000 in
theorem w_X11_kinds_e {p : Program} {l : Launch} {e : Env} {s : State} {m : MethodId} {args : Array Value} {below : List Frame} {meth : Method} {c : Code} {dC : Nat → ClassId} {dI : Nat → Nat → Nat} {ad : Nat → Nat} {cA cZ : ClassId} (hi : Inj 12 ad) (a1 : Int32)  (C0 : Cx cX11_kinds RX11 wsX11_kinds 2 (some .int) p s m args meth c) (hK : KK dC dI cA cZ s) (Q : Int32 → St → Prop) (Y : Nat → List Int32 → List Int64 → St → Prop) (hY : ∀ P xs ys σ, Y P xs ys σ → XX p l e ({ frames := 3, cells := 0, slots := 0, locals := 76 } : Room) s m args below meth c (dC, dI) 12 ad (celM ad cA cZ) 2 (ZI below args s (dC, dI) 12 ad (celM ad cA cZ) Q) (lay_X11_kinds ad a1) P xs ys σ)  (s0 : St) (hv : B_X11_kinds_e a1 Q Y  s0) {H : Heap} {locs : List Loc} {ls : Array Slot} (hP : va_P (dC, dI) vwCl (wd 12 ad (celM ad cA cZ) s0) H) (hS : va_S (AA 12 ad s.heap.size) s.heap H locs) (hl : lv_has ls 2 [(0, .ref (ad 0)), (1, .int a1)]) : W p l e ({ frames := 3, cells := 0, slots := 0, locals := 76 } : Room) s m args below meth c H locs 0 0 (ZI below args s (dC, dI) 12 ad (celM ad cA cZ) Q) (F0 m 0 ls []) := by
  obtain ⟨hx, hb, hml, hown, hts, hr, hlocks⟩ := C0
  have hD := wd_D (s := s) (cel := celM ad cA cZ) (σ := s0) hi
  unfold B_X11_kinds_e at hv
  refine lv_aload_n hx hb dX11_kinds_0 rfl (lv_at hl 0 rfl) ?_
  refine lv_iload_n hx hb dX11_kinds_1 rfl (lv_at hl 1 rfl) ?_
  refine r_ci (va_runV (As := [.int a1]) (rest := []) ⟨hx, hb, hml, hown, hts⟩ (c_X11_isCrossing hi a1 s0 _ hv H.size) (cwV 1 hts gX11_kinds_X11_isCrossing rfl rfl rfl (by decide +kernel) ⟨Nat.le_of_ble_eq_true rfl, Nat.le_of_ble_eq_true rfl⟩) ⟨pre_blind, r_recv hK.1 hP 0 (by decide) (ceMo_0 (s0 0)) rfl, pre_of hP hK⟩ rfl rfl hl.1 rfl (lv_room (Nat.le_of_ble_eq_true rfl)) dX11_kinds_2 ⟨Nat.zero_le _, Nat.zero_le _⟩) hS (fun r1 s1 H locs hv hP hS => ?_)
  obtain ⟨hz_r1, hv⟩ := hv
  have hD := wd_D (s := s) (cel := celM ad cA cZ) (σ := s1) hi
  refine lv_if_eq (tgt := 16) hx hb dX11_kinds_5 (by decide) (fun c5 => ?_) (fun c5 => ?_)
  · have hv := hv.1 c5
    refine lv_aload_n hx hb dX11_kinds_16 rfl (lv_at hl 0 rfl) ?_
    refine lv_bipush (v := (-2)) hx hb dX11_kinds_17 (by decide) ?_
    refine r_ci (va_runV (As := [.int ((-2))]) (rest := []) ⟨hx, hb, hml, hown, hts⟩ (c_X11_bad hi ((-2)) s1 _ hv H.size) (cwV 1 hts gX11_kinds_X11_bad rfl rfl rfl (by decide +kernel) ⟨Nat.le_of_ble_eq_true rfl, Nat.le_of_ble_eq_true rfl⟩) ⟨pre_blind, r_recv hK.1 hP 0 (by decide) (ceMo_0 (s1 0)) rfl, pre_of hP hK⟩ rfl rfl hl.1 rfl (lv_room (Nat.le_of_ble_eq_true rfl)) dX11_kinds_19 ⟨Nat.zero_le _, Nat.zero_le _⟩) hS (fun r2 s2 H locs hv hP hS => ?_)
    have hD := wd_D (s := s) (cel := celM ad cA cZ) (σ := s2) hi
    exact r_iret hx hb hr hlocks hv hP hS dX11_kinds_22
  · have hv := hv.2 c5
    refine lv_aload_n hx hb dX11_kinds_8 rfl (lv_at hl 0 rfl) ?_
    refine lv_iload_n hx hb dX11_kinds_9 rfl (lv_at hl 1 rfl) ?_
    refine r_ci (va_runV (As := [.int a1]) (rest := []) ⟨hx, hb, hml, hown, hts⟩ (c_X11_kindsOfCrossing hi a1 s1 _ hv H.size) (cwV 1 hts gX11_kinds_X11_kindsOfCrossing rfl rfl rfl (by decide +kernel) ⟨Nat.le_of_ble_eq_true rfl, Nat.le_of_ble_eq_true rfl⟩) ⟨pre_blind, r_recv hK.1 hP 0 (by decide) (ceMo_0 (s1 0)) rfl, pre_of hP hK⟩ rfl rfl hl.1 rfl (lv_room (Nat.le_of_ble_eq_true rfl)) dX11_kinds_10 ⟨Nat.zero_le _, Nat.zero_le _⟩) hS (fun r3 s3 H locs hv hP hS => ?_)
    have hD := wd_D (s := s) (cel := celM ad cA cZ) (σ := s3) hi
    refine lv_goto (tgt := 22) hx hb dX11_kinds_13 (by decide) ?_
    exact r_iret hx hb hr hlocks hv hP hS dX11_kinds_22
set_option maxHeartbeats 4000000 in
theorem y_X11_kinds {p : Program} {l : Launch} {e : Env} {s : State} {m : MethodId} {args : Array Value} {below : List Frame} {meth : Method} {c : Code} {dC : Nat → ClassId} {dI : Nat → Nat → Nat} {ad : Nat → Nat} {cA cZ : ClassId} (hi : Inj 12 ad) (a1 : Int32)  (C0 : Cx cX11_kinds RX11 wsX11_kinds 2 (some .int) p s m args meth c) (hK : KK dC dI cA cZ s) (Q : Int32 → St → Prop) : ∀ P xs ys σ, R_X11_kinds a1 Q P xs ys σ → XX p l e ({ frames := 3, cells := 0, slots := 0, locals := 76 } : Room) s m args below meth c (dC, dI) 12 ad (celM ad cA cZ) 2 (ZI below args s (dC, dI) 12 ad (celM ad cA cZ) Q) (lay_X11_kinds ad a1) P xs ys σ := by
  refine Fx.elim _ (fun P xs ys σ Y hY hB => ?_)
  exact hB.elim
set_option maxHeartbeats 4000000 in
theorem c_X11_kinds {l : Launch} {dC : Nat → ClassId} {dI : Nat → Nat → Nat} {ad : Nat → Nat} {cA cZ : ClassId} (hi : Inj 12 ad) (a1 : Int32)  (s0 : St) (Q : Int32 → St → Prop) (hv : V_X11_kinds a1 s0 Q) (sz : Nat) : Met l yX11_kinds wsX11_kinds ({ frames := 3, cells := 0, slots := 0, locals := 76 } : Room) (va_Pc [.ref (ad 0), .int a1] (PW dC dI ad cA cZ 12 (celM ad cA cZ) sz s0)) (va_Qi Q (fun u t => va_P (dC, dI) vwCl (wd 12 ad (celM ad cA cZ) u) t.heap) (AA 12 ad sz)) 0 0 (AA 12 ad sz) := by
  refine Met.ofW (cc := cX11_kinds) (maxL := 2) (ret := (some .int)) (by decide) rfl ?_
  intro p e s m args below meth c s₁ B hml hv0
  obtain ⟨rfl, hsz, hP, hK⟩ := hv0
  subst hsz
  have C0 : Cx cX11_kinds RX11 wsX11_kinds 2 (some .int) p s m ([.ref (ad 0), .int a1] : List Value).toArray meth c := ⟨B.exec, B.bytes, hml, findClass_of_methodNamed B.named, atoms_spec (ws := wsX11_kinds) B.pre, B.returns, B.notSynchronized⟩
  have hl := lv_entry ([.ref (ad 0), .int a1]) (n := 2) (Nat.le_of_ble_eq_true rfl)
  rw [lg_entry_eq]
  generalize (lg_sl ([.ref (ad 0), .int a1]) ++ List.replicate (2 - (lg_sl ([.ref (ad 0), .int a1])).length) Slot.unset).toArray = ls at hl ⊢
  have hl : lv_has ls 2 [(0, .ref (ad 0)), (1, .int a1)] := hl
  exact w_X11_kinds_e hi a1  C0 hK Q (R_X11_kinds a1 Q) (y_X11_kinds hi a1  C0 hK Q)  s0 hv hP va_S.rf hl
def lay_X11_ask (ad : Nat → Nat) (a1 : Int32) : Nat → List Int32 → List Int64 → Option (List (Nat × Value) × List Value) := fun P xs ys => match P, xs, ys with
  | _, _, _ => none
set_option maxHeartbeats 4000000 in
set_option maxRecDepth 100000 in
theorem w_X11_ask_e {p : Program} {l : Launch} {e : Env} {s : State} {m : MethodId} {args : Array Value} {below : List Frame} {meth : Method} {c : Code} {dC : Nat → ClassId} {dI : Nat → Nat → Nat} {ad : Nat → Nat} {cA cZ : ClassId} (hi : Inj 12 ad) (a1 : Int32)  (C0 : Cx cX11_ask RX11 wsX11_ask 2 (some .int) p s m args meth c) (hK : KK dC dI cA cZ s) (Q : Int32 → St → Prop) (Y : Nat → List Int32 → List Int64 → St → Prop) (hY : ∀ P xs ys σ, Y P xs ys σ → XX p l e ({ frames := 3, cells := 0, slots := 0, locals := 76 } : Room) s m args below meth c (dC, dI) 12 ad (celM ad cA cZ) 2 (ZI below args s (dC, dI) 12 ad (celM ad cA cZ) Q) (lay_X11_ask ad a1) P xs ys σ)  (s0 : St) (hv : B_X11_ask_e a1 Q Y  s0) {H : Heap} {locs : List Loc} {ls : Array Slot} (hP : va_P (dC, dI) vwCl (wd 12 ad (celM ad cA cZ) s0) H) (hS : va_S (AA 12 ad s.heap.size) s.heap H locs) (hl : lv_has ls 2 [(0, .ref (ad 0)), (1, .int a1)]) : W p l e ({ frames := 3, cells := 0, slots := 0, locals := 76 } : Room) s m args below meth c H locs 0 0 (ZI below args s (dC, dI) 12 ad (celM ad cA cZ) Q) (F0 m 0 ls []) := by
  obtain ⟨hx, hb, hml, hown, hts, hr, hlocks⟩ := C0
  have hD := wd_D (s := s) (cel := celM ad cA cZ) (σ := s0) hi
  unfold B_X11_ask_e at hv
  refine lv_aload_n hx hb dX11_ask_0 rfl (lv_at hl 0 rfl) ?_
  refine lv_iload_n hx hb dX11_ask_1 rfl (lv_at hl 1 rfl) ?_
  refine r_ci (va_runV (As := [.int a1]) (rest := []) ⟨hx, hb, hml, hown, hts⟩ (c_X11_isCrossing hi a1 s0 _ hv H.size) (cwV 1 hts gX11_ask_X11_isCrossing rfl rfl rfl (by decide +kernel) ⟨Nat.le_of_ble_eq_true rfl, Nat.le_of_ble_eq_true rfl⟩) ⟨pre_blind, r_recv hK.1 hP 0 (by decide) (ceMo_0 (s0 0)) rfl, pre_of hP hK⟩ rfl rfl hl.1 rfl (lv_room (Nat.le_of_ble_eq_true rfl)) dX11_ask_2 ⟨Nat.zero_le _, Nat.zero_le _⟩) hS (fun r1 s1 H locs hv hP hS => ?_)
  obtain ⟨hz_r1, hv⟩ := hv
  have hD := wd_D (s := s) (cel := celM ad cA cZ) (σ := s1) hi
  refine lv_if_eq (tgt := 26) hx hb dX11_ask_5 (by decide) (fun c5 => ?_) (fun c5 => ?_)
  · have hv := hv.1 c5
    refine lv_aload_n hx hb dX11_ask_26 rfl (lv_at hl 0 rfl) ?_
    refine lv_bipush (v := (-2)) hx hb dX11_ask_27 (by decide) ?_
    refine r_ci (va_runV (As := [.int ((-2))]) (rest := []) ⟨hx, hb, hml, hown, hts⟩ (c_X11_bad hi ((-2)) s1 _ hv H.size) (cwV 1 hts gX11_ask_X11_bad rfl rfl rfl (by decide +kernel) ⟨Nat.le_of_ble_eq_true rfl, Nat.le_of_ble_eq_true rfl⟩) ⟨pre_blind, r_recv hK.1 hP 0 (by decide) (ceMo_0 (s1 0)) rfl, pre_of hP hK⟩ rfl rfl hl.1 rfl (lv_room (Nat.le_of_ble_eq_true rfl)) dX11_ask_29 ⟨Nat.zero_le _, Nat.zero_le _⟩) hS (fun r2 s2 H locs hv hP hS => ?_)
    have hD := wd_D (s := s) (cel := celM ad cA cZ) (σ := s2) hi
    exact r_iret hx hb hr hlocks hv hP hS dX11_ask_32
  · have hv := hv.2 c5
    refine lv_aload_n hx hb dX11_ask_8 rfl (lv_at hl 0 rfl) ?_
    refine lv_aload_n hx hb dX11_ask_9 rfl (lv_at hl 0 rfl) ?_
    refine lv_iload_n hx hb dX11_ask_10 rfl (lv_at hl 1 rfl) ?_
    refine r_ci (va_runV (As := [.int a1]) (rest := [.ref (ad 0)]) ⟨hx, hb, hml, hown, hts⟩ (c_X11_kindsOfCrossing hi a1 s1 _ hv H.size) (cwV 1 hts gX11_ask_X11_kindsOfCrossing rfl rfl rfl (by decide +kernel) ⟨Nat.le_of_ble_eq_true rfl, Nat.le_of_ble_eq_true rfl⟩) ⟨pre_blind, r_recv hK.1 hP 0 (by decide) (ceMo_0 (s1 0)) rfl, pre_of hP hK⟩ rfl rfl hl.1 rfl (lv_room (Nat.le_of_ble_eq_true rfl)) dX11_ask_11 ⟨Nat.zero_le _, Nat.zero_le _⟩) hS (fun r3 s3 H locs hv hP hS => ?_)
    have hD := wd_D (s := s) (cel := celM ad cA cZ) (σ := s3) hi
    refine lv_bipush (v := 24) hx hb dX11_ask_14 (by decide) ?_
    refine lv_iconst (v := 1) hx hb dX11_ask_16 (by decide) ?_
    refine lv_bipush (v := 7) hx hb dX11_ask_17 (by decide) ?_
    refine lv_iconst (v := 0) hx hb dX11_ask_19 (by decide) ?_
    refine r_ci (va_runV (As := [.int r3, .int 24, .int 1, .int 7, .int 0]) (rest := []) ⟨hx, hb, hml, hown, hts⟩ (c_X11_bestLook hi r3 24 1 7 0 s3 _ hv H.size) (cwV 5 hts gX11_ask_X11_bestLook rfl rfl rfl (by decide +kernel) ⟨Nat.le_of_ble_eq_true rfl, Nat.le_of_ble_eq_true rfl⟩) ⟨pre_blind, r_recv hK.1 hP 0 (by decide) (ceMo_0 (s3 0)) rfl, pre_of hP hK⟩ rfl rfl hl.1 rfl (lv_room (Nat.le_of_ble_eq_true rfl)) dX11_ask_20 ⟨Nat.zero_le _, Nat.zero_le _⟩) hS (fun r4 s4 H locs hv hP hS => ?_)
    have hD := wd_D (s := s) (cel := celM ad cA cZ) (σ := s4) hi
    refine lv_goto (tgt := 32) hx hb dX11_ask_23 (by decide) ?_
    exact r_iret hx hb hr hlocks hv hP hS dX11_ask_32
set_option maxHeartbeats 4000000 in
theorem y_X11_ask {p : Program} {l : Launch} {e : Env} {s : State} {m : MethodId} {args : Array Value} {below : List Frame} {meth : Method} {c : Code} {dC : Nat → ClassId} {dI : Nat → Nat → Nat} {ad : Nat → Nat} {cA cZ : ClassId} (hi : Inj 12 ad) (a1 : Int32)  (C0 : Cx cX11_ask RX11 wsX11_ask 2 (some .int) p s m args meth c) (hK : KK dC dI cA cZ s) (Q : Int32 → St → Prop) : ∀ P xs ys σ, R_X11_ask a1 Q P xs ys σ → XX p l e ({ frames := 3, cells := 0, slots := 0, locals := 76 } : Room) s m args below meth c (dC, dI) 12 ad (celM ad cA cZ) 2 (ZI below args s (dC, dI) 12 ad (celM ad cA cZ) Q) (lay_X11_ask ad a1) P xs ys σ := by
  refine Fx.elim _ (fun P xs ys σ Y hY hB => ?_)
  exact hB.elim
set_option maxHeartbeats 4000000 in
theorem c_X11_ask {l : Launch} {dC : Nat → ClassId} {dI : Nat → Nat → Nat} {ad : Nat → Nat} {cA cZ : ClassId} (hi : Inj 12 ad) (a1 : Int32)  (s0 : St) (Q : Int32 → St → Prop) (hv : V_X11_ask a1 s0 Q) (sz : Nat) : Met l yX11_ask wsX11_ask ({ frames := 3, cells := 0, slots := 0, locals := 76 } : Room) (va_Pc [.ref (ad 0), .int a1] (PW dC dI ad cA cZ 12 (celM ad cA cZ) sz s0)) (va_Qi Q (fun u t => va_P (dC, dI) vwCl (wd 12 ad (celM ad cA cZ) u) t.heap) (AA 12 ad sz)) 0 0 (AA 12 ad sz) := by
  refine Met.ofW (cc := cX11_ask) (maxL := 2) (ret := (some .int)) (by decide) rfl ?_
  intro p e s m args below meth c s₁ B hml hv0
  obtain ⟨rfl, hsz, hP, hK⟩ := hv0
  subst hsz
  have C0 : Cx cX11_ask RX11 wsX11_ask 2 (some .int) p s m ([.ref (ad 0), .int a1] : List Value).toArray meth c := ⟨B.exec, B.bytes, hml, findClass_of_methodNamed B.named, atoms_spec (ws := wsX11_ask) B.pre, B.returns, B.notSynchronized⟩
  have hl := lv_entry ([.ref (ad 0), .int a1]) (n := 2) (Nat.le_of_ble_eq_true rfl)
  rw [lg_entry_eq]
  generalize (lg_sl ([.ref (ad 0), .int a1]) ++ List.replicate (2 - (lg_sl ([.ref (ad 0), .int a1])).length) Slot.unset).toArray = ls at hl ⊢
  have hl : lv_has ls 2 [(0, .ref (ad 0)), (1, .int a1)] := hl
  exact w_X11_ask_e hi a1  C0 hK Q (R_X11_ask a1 Q) (y_X11_ask hi a1  C0 hK Q)  s0 hv hP va_S.rf hl
def lay_X11_spikesOf (ad : Nat → Nat) (a1 : Int32) : Nat → List Int32 → List Int64 → Option (List (Nat × Value) × List Value) := fun P xs ys => match P, xs, ys with
  | 8, [x2, x3], [] => some ([(0, .ref (ad 0)), (1, .int a1), (2, .int x2), (3, .int x3)], [])
  | _, _, _ => none
set_option maxHeartbeats 4000000 in
set_option maxRecDepth 100000 in
theorem w_X11_spikesOf_e {p : Program} {l : Launch} {e : Env} {s : State} {m : MethodId} {args : Array Value} {below : List Frame} {meth : Method} {c : Code} {dC : Nat → ClassId} {dI : Nat → Nat → Nat} {ad : Nat → Nat} {cA cZ : ClassId} (hi : Inj 12 ad) (a1 : Int32)  (C0 : Cx cX11_spikesOf RX11 wsX11_spikesOf 4 (some .int) p s m args meth c) (hK : KK dC dI cA cZ s) (Q : Int32 → St → Prop) (Y : Nat → List Int32 → List Int64 → St → Prop) (hY : ∀ P xs ys σ, Y P xs ys σ → XX p l e ({ frames := 4, cells := 0, slots := 0, locals := 94 } : Room) s m args below meth c (dC, dI) 12 ad (celM ad cA cZ) 4 (ZI below args s (dC, dI) 12 ad (celM ad cA cZ) Q) (lay_X11_spikesOf ad a1) P xs ys σ)  (s0 : St) (hv : B_X11_spikesOf_e a1 Q Y  s0) {H : Heap} {locs : List Loc} {ls : Array Slot} (hP : va_P (dC, dI) vwCl (wd 12 ad (celM ad cA cZ) s0) H) (hS : va_S (AA 12 ad s.heap.size) s.heap H locs) (hl : lv_has ls 4 [(0, .ref (ad 0)), (1, .int a1)]) : W p l e ({ frames := 4, cells := 0, slots := 0, locals := 94 } : Room) s m args below meth c H locs 0 0 (ZI below args s (dC, dI) 12 ad (celM ad cA cZ) Q) (F0 m 0 ls []) := by
  obtain ⟨hx, hb, hml, hown, hts, hr, hlocks⟩ := C0
  have hD := wd_D (s := s) (cel := celM ad cA cZ) (σ := s0) hi
  unfold B_X11_spikesOf_e at hv
  refine lv_iconst (v := 0) hx hb dX11_spikesOf_0 (by decide) ?_
  refine lv_istore_n (lv' := [(2, .int 0), (0, .ref (ad 0)), (1, .int a1)]) hx hb dX11_spikesOf_1 rfl hl (by decide) rfl (fun ls hl => ?_)
  refine lv_aload_n hx hb dX11_spikesOf_2 rfl (lv_at hl 1 rfl) ?_
  refine r_cv (va_runV (As := []) (rest := []) ⟨hx, hb, hml, hown, hts⟩ (c_X11_layHand hi  s0 _ hv H.size) (cwV 0 hts gX11_spikesOf_X11_layHand rfl rfl rfl (by decide +kernel) ⟨Nat.le_of_ble_eq_true rfl, Nat.le_of_ble_eq_true rfl⟩) ⟨pre_blind, r_recv hK.1 hP 0 (by decide) (ceMo_0 (s0 0)) rfl, pre_of hP hK⟩ rfl rfl hl.1 rfl (lv_room (Nat.le_of_ble_eq_true rfl)) dX11_spikesOf_3 ⟨Nat.zero_le _, Nat.zero_le _⟩) hS (fun s1 H locs hv hP hS => ?_)
  have hD := wd_D (s := s) (cel := celM ad cA cZ) (σ := s1) hi
  refine lv_iconst (v := 0) hx hb dX11_spikesOf_6 (by decide) ?_
  refine lv_istore_n (lv' := [(3, .int 0), (2, .int 0), (0, .ref (ad 0)), (1, .int a1)]) hx hb dX11_spikesOf_7 rfl hl (by decide) rfl (fun ls hl => ?_)
  exact hY 8 [0, 0] [] s1 hv _ _ rfl H locs ls hP hS (lv_sub hl [2, 3, 1, 0] rfl)
set_option maxHeartbeats 4000000 in
set_option maxRecDepth 100000 in
theorem w_X11_spikesOf_8 {p : Program} {l : Launch} {e : Env} {s : State} {m : MethodId} {args : Array Value} {below : List Frame} {meth : Method} {c : Code} {dC : Nat → ClassId} {dI : Nat → Nat → Nat} {ad : Nat → Nat} {cA cZ : ClassId} (hi : Inj 12 ad) (a1 : Int32)  (C0 : Cx cX11_spikesOf RX11 wsX11_spikesOf 4 (some .int) p s m args meth c) (hK : KK dC dI cA cZ s) (Q : Int32 → St → Prop) (Y : Nat → List Int32 → List Int64 → St → Prop) (hY : ∀ P xs ys σ, Y P xs ys σ → XX p l e ({ frames := 4, cells := 0, slots := 0, locals := 94 } : Room) s m args below meth c (dC, dI) 12 ad (celM ad cA cZ) 4 (ZI below args s (dC, dI) 12 ad (celM ad cA cZ) Q) (lay_X11_spikesOf ad a1) P xs ys σ) (x2 : Int32) (x3 : Int32) (s0 : St) (hv : B_X11_spikesOf_8 a1 Q Y x2 x3 s0) {H : Heap} {locs : List Loc} {ls : Array Slot} (hP : va_P (dC, dI) vwCl (wd 12 ad (celM ad cA cZ) s0) H) (hS : va_S (AA 12 ad s.heap.size) s.heap H locs) (hl : lv_has ls 4 [(0, .ref (ad 0)), (1, .int a1), (2, .int x2), (3, .int x3)]) : W p l e ({ frames := 4, cells := 0, slots := 0, locals := 94 } : Room) s m args below meth c H locs 0 0 (ZI below args s (dC, dI) 12 ad (celM ad cA cZ) Q) (F0 m 8 ls []) := by
  obtain ⟨hx, hb, hml, hown, hts, hr, hlocks⟩ := C0
  have hD := wd_D (s := s) (cel := celM ad cA cZ) (σ := s0) hi
  unfold B_X11_spikesOf_8 at hv
  refine lv_iload_n hx hb dX11_spikesOf_8 rfl (lv_at hl 3 rfl) ?_
  refine lv_bipush (v := 30) hx hb dX11_spikesOf_9 (by decide) ?_
  refine lv_icmp_gt (tgt := 41) hx hb dX11_spikesOf_11 (by decide) (fun c11 => ?_) (fun c11 => ?_)
  · have hv := hv.1 c11
    refine lv_iload_n hx hb dX11_spikesOf_41 rfl (lv_at hl 2 rfl) ?_
    exact r_iret hx hb hr hlocks hv hP hS dX11_spikesOf_42
  · have hv := hv.2 c11
    refine lv_iload_n hx hb dX11_spikesOf_14 rfl (lv_at hl 2 rfl) ?_
    refine lv_iconst (v := 1) hx hb dX11_spikesOf_15 (by decide) ?_
    refine lv_aload_n hx hb dX11_spikesOf_16 rfl (lv_at hl 0 rfl) ?_
    refine r_get hx hb hts (iwX11_spikesOf_X11) hown hK.1 hP 0 (by decide) (ceMo_0 (s0 0)) rfl 6 (by decide) (hts _ kX11_spikesOf_1) (v := .ref (ad 5)) rfl dX11_spikesOf_17 ?_
    refine lv_bipush (v := 6) hx hb dX11_spikesOf_20 (by decide) ?_
    refine lv_iload_n hx hb dX11_spikesOf_22 rfl (lv_at hl 1 rfl) ?_
    refine lv_iadd hx hb dX11_spikesOf_23 ?_
    obtain ⟨hin, hv⟩ := hv
    refine r_iald hx hb hK.1 hP 5 (by decide) (ceMo_5 (s0 5)) hin dX11_spikesOf_24 ?_
    refine lv_ishl hx hb dX11_spikesOf_25 ?_
    refine lv_ior hx hb dX11_spikesOf_26 ?_
    refine lv_topi (fun v1 ev1 => ?_)
    have hv := hv v1 ev1
    refine lv_istore_n (lv' := [(2, .int v1), (0, .ref (ad 0)), (1, .int a1), (3, .int x3)]) hx hb dX11_spikesOf_27 rfl hl (by decide) rfl (fun ls hl => ?_)
    refine lv_aload_n hx hb dX11_spikesOf_28 rfl (lv_at hl 1 rfl) ?_
    refine r_get hx hb hts (iwX11_spikesOf_X11) hown hK.1 hP 0 (by decide) (ceMo_0 (s0 0)) rfl 6 (by decide) (hts _ kX11_spikesOf_1) (v := .ref (ad 5)) rfl dX11_spikesOf_29 ?_
    refine r_cv (va_runS (As := [.ref (ad 5)]) (rest := []) ⟨hx, hb, hml, hown, hts⟩ (c_X11_goHour hi 5 43 arM_5 s0 _ hv H.size) (va_cwS 1 hts gX11_spikesOf_X11_goHour rfl rfl rfl (by decide +kernel) ⟨Nat.le_of_ble_eq_true rfl, Nat.le_of_ble_eq_true rfl⟩) ⟨pre_blind, pre_of hP hK⟩ rfl rfl hl.1 rfl (lv_room (Nat.le_of_ble_eq_true rfl)) dX11_spikesOf_32 ⟨Nat.zero_le _, Nat.zero_le _⟩) hS (fun s2 H locs hv hP hS => ?_)
    have hD := wd_D (s := s) (cel := celM ad cA cZ) (σ := s2) hi
    refine lv_iinc (v := x3 + 1) (lv' := [(3, .int (x3 + 1)), (2, .int v1), (0, .ref (ad 0)), (1, .int a1)]) hx hb dX11_spikesOf_35 hl (k := 3) rfl rfl (by decide) rfl (fun ls hl => ?_)
    refine lv_goto (tgt := 8) hx hb dX11_spikesOf_38 (by decide) ?_
    exact hY 8 [v1, x3 + 1] [] s2 hv _ _ rfl H locs ls hP hS (lv_sub hl [2, 3, 1, 0] rfl)
set_option maxHeartbeats 4000000 in
theorem y_X11_spikesOf {p : Program} {l : Launch} {e : Env} {s : State} {m : MethodId} {args : Array Value} {below : List Frame} {meth : Method} {c : Code} {dC : Nat → ClassId} {dI : Nat → Nat → Nat} {ad : Nat → Nat} {cA cZ : ClassId} (hi : Inj 12 ad) (a1 : Int32)  (C0 : Cx cX11_spikesOf RX11 wsX11_spikesOf 4 (some .int) p s m args meth c) (hK : KK dC dI cA cZ s) (Q : Int32 → St → Prop) : ∀ P xs ys σ, R_X11_spikesOf a1 Q P xs ys σ → XX p l e ({ frames := 4, cells := 0, slots := 0, locals := 94 } : Room) s m args below meth c (dC, dI) 12 ad (celM ad cA cZ) 4 (ZI below args s (dC, dI) 12 ad (celM ad cA cZ) Q) (lay_X11_spikesOf ad a1) P xs ys σ := by
  refine Fx.elim _ (fun P xs ys σ Y hY hB => ?_)
  rcases hB with ⟨rfl, x2, x3, rfl, rfl, hB⟩
  · intro lv st he H locs ls hP hS hl
    cases he
    exact w_X11_spikesOf_8 hi a1  C0 hK Q Y hY x2 x3 σ hB hP hS hl
set_option maxHeartbeats 4000000 in
theorem c_X11_spikesOf {l : Launch} {dC : Nat → ClassId} {dI : Nat → Nat → Nat} {ad : Nat → Nat} {cA cZ : ClassId} (hi : Inj 12 ad) (a1 : Int32)  (s0 : St) (Q : Int32 → St → Prop) (hv : V_X11_spikesOf a1 s0 Q) (sz : Nat) : Met l yX11_spikesOf wsX11_spikesOf ({ frames := 4, cells := 0, slots := 0, locals := 94 } : Room) (va_Pc [.ref (ad 0), .int a1] (PW dC dI ad cA cZ 12 (celM ad cA cZ) sz s0)) (va_Qi Q (fun u t => va_P (dC, dI) vwCl (wd 12 ad (celM ad cA cZ) u) t.heap) (AA 12 ad sz)) 0 0 (AA 12 ad sz) := by
  refine Met.ofW (cc := cX11_spikesOf) (maxL := 4) (ret := (some .int)) (by decide) rfl ?_
  intro p e s m args below meth c s₁ B hml hv0
  obtain ⟨rfl, hsz, hP, hK⟩ := hv0
  subst hsz
  have C0 : Cx cX11_spikesOf RX11 wsX11_spikesOf 4 (some .int) p s m ([.ref (ad 0), .int a1] : List Value).toArray meth c := ⟨B.exec, B.bytes, hml, findClass_of_methodNamed B.named, atoms_spec (ws := wsX11_spikesOf) B.pre, B.returns, B.notSynchronized⟩
  have hl := lv_entry ([.ref (ad 0), .int a1]) (n := 4) (Nat.le_of_ble_eq_true rfl)
  rw [lg_entry_eq]
  generalize (lg_sl ([.ref (ad 0), .int a1]) ++ List.replicate (4 - (lg_sl ([.ref (ad 0), .int a1])).length) Slot.unset).toArray = ls at hl ⊢
  have hl : lv_has ls 4 [(0, .ref (ad 0)), (1, .int a1)] := hl
  exact w_X11_spikesOf_e hi a1  C0 hK Q (R_X11_spikesOf a1 Q) (y_X11_spikesOf hi a1  C0 hK Q)  s0 hv hP va_S.rf hl
def lay_X11_toHer (ad : Nat → Nat) (a0 : Int32) (a1 : Int32) (a2 : Int32) : Nat → List Int32 → List Int64 → Option (List (Nat × Value) × List Value) := fun P xs ys => match P, xs, ys with
  | 13, [t0], [] => some ([(1, .int a1), (2, .int a2)], [.int t0])
  | _, _, _ => none
set_option maxHeartbeats 4000000 in
set_option maxRecDepth 100000 in
theorem w_X11_toHer_e {p : Program} {l : Launch} {e : Env} {s : State} {m : MethodId} {args : Array Value} {below : List Frame} {meth : Method} {c : Code} {dC : Nat → ClassId} {dI : Nat → Nat → Nat} {ad : Nat → Nat} {cA cZ : ClassId} (hi : Inj 12 ad) (a0 : Int32) (a1 : Int32) (a2 : Int32)  (C0 : Cx cX11_toHer RX11 wsX11_toHer 3 (some .int) p s m args meth c) (hK : KK dC dI cA cZ s) (Q : Int32 → St → Prop) (Y : Nat → List Int32 → List Int64 → St → Prop) (hY : ∀ P xs ys σ, Y P xs ys σ → XX p l e ({ frames := 1, cells := 0, slots := 0, locals := 21 } : Room) s m args below meth c (dC, dI) 12 ad (celM ad cA cZ) 3 (ZI below args s (dC, dI) 12 ad (celM ad cA cZ) Q) (lay_X11_toHer ad a0 a1 a2) P xs ys σ)  (s0 : St) (hv : B_X11_toHer_e a0 a1 a2 Q Y  s0) {H : Heap} {locs : List Loc} {ls : Array Slot} (hP : va_P (dC, dI) vwCl (wd 12 ad (celM ad cA cZ) s0) H) (hS : va_S (AA 12 ad s.heap.size) s.heap H locs) (hl : lv_has ls 3 [(0, .int a0), (1, .int a1), (2, .int a2)]) : W p l e ({ frames := 1, cells := 0, slots := 0, locals := 21 } : Room) s m args below meth c H locs 0 0 (ZI below args s (dC, dI) 12 ad (celM ad cA cZ) Q) (F0 m 0 ls []) := by
  obtain ⟨hx, hb, hml, hown, hts, hr, hlocks⟩ := C0
  have hD := wd_D (s := s) (cel := celM ad cA cZ) (σ := s0) hi
  unfold B_X11_toHer_e at hv
  refine lv_iload_n hx hb dX11_toHer_0 rfl (lv_at hl 0 rfl) ?_
  refine lv_iload_n hx hb dX11_toHer_1 rfl (lv_at hl 1 rfl) ?_
  refine r_ci (va_runS (As := [.int a0, .int a1]) (rest := []) ⟨hx, hb, hml, hown, hts⟩ (c_X11_has hi a0 a1 s0 _ hv H.size) (va_cwS 2 hts gX11_toHer_X11_has rfl rfl rfl (by decide +kernel) ⟨Nat.le_of_ble_eq_true rfl, Nat.le_of_ble_eq_true rfl⟩) ⟨pre_blind, pre_of hP hK⟩ rfl rfl hl.1 rfl (lv_room (Nat.le_of_ble_eq_true rfl)) dX11_toHer_2 ⟨Nat.zero_le _, Nat.zero_le _⟩) hS (fun r1 s1 H locs hv hP hS => ?_)
  obtain ⟨hz_r1, hv⟩ := hv
  have hD := wd_D (s := s) (cel := celM ad cA cZ) (σ := s1) hi
  refine lv_if_eq (tgt := 12) hx hb dX11_toHer_5 (by decide) (fun c5 => ?_) (fun c5 => ?_)
  · have hv := hv.1 c5
    refine lv_iconst (v := 0) hx hb dX11_toHer_12 (by decide) ?_
    exact hY 13 [0] [] s1 hv _ _ rfl H locs ls hP hS (lv_sub hl [1, 2] rfl)
  · have hv := hv.2 c5
    refine lv_iconst (v := 5) hx hb dX11_toHer_8 (by decide) ?_
    refine lv_goto (tgt := 13) hx hb dX11_toHer_9 (by decide) ?_
    exact hY 13 [5] [] s1 hv _ _ rfl H locs ls hP hS (lv_sub hl [1, 2] rfl)
set_option maxHeartbeats 4000000 in
set_option maxRecDepth 100000 in
theorem w_X11_toHer_13 {p : Program} {l : Launch} {e : Env} {s : State} {m : MethodId} {args : Array Value} {below : List Frame} {meth : Method} {c : Code} {dC : Nat → ClassId} {dI : Nat → Nat → Nat} {ad : Nat → Nat} {cA cZ : ClassId} (hi : Inj 12 ad) (a0 : Int32) (a1 : Int32) (a2 : Int32)  (C0 : Cx cX11_toHer RX11 wsX11_toHer 3 (some .int) p s m args meth c) (hK : KK dC dI cA cZ s) (Q : Int32 → St → Prop) (Y : Nat → List Int32 → List Int64 → St → Prop) (hY : ∀ P xs ys σ, Y P xs ys σ → XX p l e ({ frames := 1, cells := 0, slots := 0, locals := 21 } : Room) s m args below meth c (dC, dI) 12 ad (celM ad cA cZ) 3 (ZI below args s (dC, dI) 12 ad (celM ad cA cZ) Q) (lay_X11_toHer ad a0 a1 a2) P xs ys σ) (t0 : Int32) (s0 : St) (hv : B_X11_toHer_13 a0 a1 a2 Q Y t0 s0) {H : Heap} {locs : List Loc} {ls : Array Slot} (hP : va_P (dC, dI) vwCl (wd 12 ad (celM ad cA cZ) s0) H) (hS : va_S (AA 12 ad s.heap.size) s.heap H locs) (hl : lv_has ls 3 [(1, .int a1), (2, .int a2)]) : W p l e ({ frames := 1, cells := 0, slots := 0, locals := 21 } : Room) s m args below meth c H locs 0 0 (ZI below args s (dC, dI) 12 ad (celM ad cA cZ) Q) (F0 m 13 ls [.int t0]) := by
  obtain ⟨hx, hb, hml, hown, hts, hr, hlocks⟩ := C0
  have hD := wd_D (s := s) (cel := celM ad cA cZ) (σ := s0) hi
  unfold B_X11_toHer_13 at hv
  refine lv_iload_n hx hb dX11_toHer_13 rfl (lv_at hl 0 rfl) ?_
  refine lv_iconst (v := 3) hx hb dX11_toHer_14 (by decide) ?_
  refine lv_idiv hx hb dX11_toHer_15 (by decide) ?_
  refine lv_isub hx hb dX11_toHer_16 ?_
  refine lv_iload_n hx hb dX11_toHer_17 rfl (lv_at hl 0 rfl) ?_
  refine lv_iload_n hx hb dX11_toHer_18 rfl (lv_at hl 1 rfl) ?_
  refine lv_icmp_ne (tgt := 26) hx hb dX11_toHer_19 (by decide) (fun c19 => ?_) (fun c19 => ?_)
  · have hv := hv.1 c19
    refine lv_iconst (v := 0) hx hb dX11_toHer_26 (by decide) ?_
    refine lv_isub hx hb dX11_toHer_27 ?_
    exact r_iret hx hb hr hlocks hv hP hS dX11_toHer_28
  · have hv := hv.2 c19
    refine lv_iconst (v := 3) hx hb dX11_toHer_22 (by decide) ?_
    refine lv_goto (tgt := 27) hx hb dX11_toHer_23 (by decide) ?_
    refine lv_isub hx hb dX11_toHer_27 ?_
    exact r_iret hx hb hr hlocks hv hP hS dX11_toHer_28
set_option maxHeartbeats 4000000 in
theorem y_X11_toHer {p : Program} {l : Launch} {e : Env} {s : State} {m : MethodId} {args : Array Value} {below : List Frame} {meth : Method} {c : Code} {dC : Nat → ClassId} {dI : Nat → Nat → Nat} {ad : Nat → Nat} {cA cZ : ClassId} (hi : Inj 12 ad) (a0 : Int32) (a1 : Int32) (a2 : Int32)  (C0 : Cx cX11_toHer RX11 wsX11_toHer 3 (some .int) p s m args meth c) (hK : KK dC dI cA cZ s) (Q : Int32 → St → Prop) : ∀ P xs ys σ, R_X11_toHer a0 a1 a2 Q P xs ys σ → XX p l e ({ frames := 1, cells := 0, slots := 0, locals := 21 } : Room) s m args below meth c (dC, dI) 12 ad (celM ad cA cZ) 3 (ZI below args s (dC, dI) 12 ad (celM ad cA cZ) Q) (lay_X11_toHer ad a0 a1 a2) P xs ys σ := by
  refine Fx.elim _ (fun P xs ys σ Y hY hB => ?_)
  rcases hB with ⟨rfl, t0, rfl, rfl, hB⟩
  · intro lv st he H locs ls hP hS hl
    cases he
    exact w_X11_toHer_13 hi a0 a1 a2  C0 hK Q Y hY t0 σ hB hP hS hl
set_option maxHeartbeats 4000000 in
theorem c_X11_toHer {l : Launch} {dC : Nat → ClassId} {dI : Nat → Nat → Nat} {ad : Nat → Nat} {cA cZ : ClassId} (hi : Inj 12 ad) (a0 : Int32) (a1 : Int32) (a2 : Int32)  (s0 : St) (Q : Int32 → St → Prop) (hv : V_X11_toHer a0 a1 a2 s0 Q) (sz : Nat) : Met l yX11_toHer wsX11_toHer ({ frames := 1, cells := 0, slots := 0, locals := 21 } : Room) (va_Pc [.int a0, .int a1, .int a2] (PW dC dI ad cA cZ 12 (celM ad cA cZ) sz s0)) (va_Qi Q (fun u t => va_P (dC, dI) vwCl (wd 12 ad (celM ad cA cZ) u) t.heap) (AA 12 ad sz)) 0 0 (AA 12 ad sz) := by
  refine Met.ofW (cc := cX11_toHer) (maxL := 3) (ret := (some .int)) (by decide) rfl ?_
  intro p e s m args below meth c s₁ B hml hv0
  obtain ⟨rfl, hsz, hP, hK⟩ := hv0
  subst hsz
  have C0 : Cx cX11_toHer RX11 wsX11_toHer 3 (some .int) p s m ([.int a0, .int a1, .int a2] : List Value).toArray meth c := ⟨B.exec, B.bytes, hml, findClass_of_methodNamed B.named, atoms_spec (ws := wsX11_toHer) B.pre, B.returns, B.notSynchronized⟩
  have hl := lv_entry ([.int a0, .int a1, .int a2]) (n := 3) (Nat.le_of_ble_eq_true rfl)
  rw [lg_entry_eq]
  generalize (lg_sl ([.int a0, .int a1, .int a2]) ++ List.replicate (3 - (lg_sl ([.int a0, .int a1, .int a2])).length) Slot.unset).toArray = ls at hl ⊢
  have hl : lv_has ls 3 [(0, .int a0), (1, .int a1), (2, .int a2)] := hl
  exact w_X11_toHer_e hi a0 a1 a2  C0 hK Q (R_X11_toHer a0 a1 a2 Q) (y_X11_toHer hi a0 a1 a2  C0 hK Q)  s0 hv hP va_S.rf hl
def lay_X11_toHim (ad : Nat → Nat) (a0 : Int32) (a1 : Int32) : Nat → List Int32 → List Int64 → Option (List (Nat × Value) × List Value) := fun P xs ys => match P, xs, ys with
  | _, _, _ => none
set_option maxHeartbeats 4000000 in
set_option maxRecDepth 100000 in
theorem w_X11_toHim_e {p : Program} {l : Launch} {e : Env} {s : State} {m : MethodId} {args : Array Value} {below : List Frame} {meth : Method} {c : Code} {dC : Nat → ClassId} {dI : Nat → Nat → Nat} {ad : Nat → Nat} {cA cZ : ClassId} (hi : Inj 12 ad) (a0 : Int32) (a1 : Int32)  (C0 : Cx cX11_toHim RX11 wsX11_toHim 2 (some .int) p s m args meth c) (hK : KK dC dI cA cZ s) (Q : Int32 → St → Prop) (Y : Nat → List Int32 → List Int64 → St → Prop) (hY : ∀ P xs ys σ, Y P xs ys σ → XX p l e ({ frames := 0, cells := 0, slots := 0, locals := 0 } : Room) s m args below meth c (dC, dI) 12 ad (celM ad cA cZ) 2 (ZI below args s (dC, dI) 12 ad (celM ad cA cZ) Q) (lay_X11_toHim ad a0 a1) P xs ys σ)  (s0 : St) (hv : B_X11_toHim_e a0 a1 Q Y  s0) {H : Heap} {locs : List Loc} {ls : Array Slot} (hP : va_P (dC, dI) vwCl (wd 12 ad (celM ad cA cZ) s0) H) (hS : va_S (AA 12 ad s.heap.size) s.heap H locs) (hl : lv_has ls 2 [(0, .int a0), (1, .int a1)]) : W p l e ({ frames := 0, cells := 0, slots := 0, locals := 0 } : Room) s m args below meth c H locs 0 0 (ZI below args s (dC, dI) 12 ad (celM ad cA cZ) Q) (F0 m 0 ls []) := by
  obtain ⟨hx, hb, hml, hown, hts, hr, hlocks⟩ := C0
  have hD := wd_D (s := s) (cel := celM ad cA cZ) (σ := s0) hi
  unfold B_X11_toHim_e at hv
  refine lv_iload_n hx hb dX11_toHim_0 rfl (lv_at hl 0 rfl) ?_
  refine lv_iload_n hx hb dX11_toHim_1 rfl (lv_at hl 1 rfl) ?_
  refine lv_icmp_ne (tgt := 9) hx hb dX11_toHim_2 (by decide) (fun c2 => ?_) (fun c2 => ?_)
  · have hv := hv.1 c2
    refine lv_iconst (v := 0) hx hb dX11_toHim_9 (by decide) ?_
    refine lv_iload_n hx hb dX11_toHim_10 rfl (lv_at hl 1 rfl) ?_
    refine lv_iconst (v := 3) hx hb dX11_toHim_11 (by decide) ?_
    refine lv_idiv hx hb dX11_toHim_12 (by decide) ?_
    refine lv_isub hx hb dX11_toHim_13 ?_
    exact r_iret hx hb hr hlocks hv hP hS dX11_toHim_14
  · have hv := hv.2 c2
    refine lv_iconst (v := 3) hx hb dX11_toHim_5 (by decide) ?_
    refine lv_goto (tgt := 10) hx hb dX11_toHim_6 (by decide) ?_
    refine lv_iload_n hx hb dX11_toHim_10 rfl (lv_at hl 1 rfl) ?_
    refine lv_iconst (v := 3) hx hb dX11_toHim_11 (by decide) ?_
    refine lv_idiv hx hb dX11_toHim_12 (by decide) ?_
    refine lv_isub hx hb dX11_toHim_13 ?_
    exact r_iret hx hb hr hlocks hv hP hS dX11_toHim_14
set_option maxHeartbeats 4000000 in
theorem y_X11_toHim {p : Program} {l : Launch} {e : Env} {s : State} {m : MethodId} {args : Array Value} {below : List Frame} {meth : Method} {c : Code} {dC : Nat → ClassId} {dI : Nat → Nat → Nat} {ad : Nat → Nat} {cA cZ : ClassId} (hi : Inj 12 ad) (a0 : Int32) (a1 : Int32)  (C0 : Cx cX11_toHim RX11 wsX11_toHim 2 (some .int) p s m args meth c) (hK : KK dC dI cA cZ s) (Q : Int32 → St → Prop) : ∀ P xs ys σ, R_X11_toHim a0 a1 Q P xs ys σ → XX p l e ({ frames := 0, cells := 0, slots := 0, locals := 0 } : Room) s m args below meth c (dC, dI) 12 ad (celM ad cA cZ) 2 (ZI below args s (dC, dI) 12 ad (celM ad cA cZ) Q) (lay_X11_toHim ad a0 a1) P xs ys σ := by
  refine Fx.elim _ (fun P xs ys σ Y hY hB => ?_)
  exact hB.elim
set_option maxHeartbeats 4000000 in
theorem c_X11_toHim {l : Launch} {dC : Nat → ClassId} {dI : Nat → Nat → Nat} {ad : Nat → Nat} {cA cZ : ClassId} (hi : Inj 12 ad) (a0 : Int32) (a1 : Int32)  (s0 : St) (Q : Int32 → St → Prop) (hv : V_X11_toHim a0 a1 s0 Q) (sz : Nat) : Met l yX11_toHim wsX11_toHim ({ frames := 0, cells := 0, slots := 0, locals := 0 } : Room) (va_Pc [.int a0, .int a1] (PW dC dI ad cA cZ 12 (celM ad cA cZ) sz s0)) (va_Qi Q (fun u t => va_P (dC, dI) vwCl (wd 12 ad (celM ad cA cZ) u) t.heap) (AA 12 ad sz)) 0 0 (AA 12 ad sz) := by
  refine Met.ofW (cc := cX11_toHim) (maxL := 2) (ret := (some .int)) (by decide) rfl ?_
  intro p e s m args below meth c s₁ B hml hv0
  obtain ⟨rfl, hsz, hP, hK⟩ := hv0
  subst hsz
  have C0 : Cx cX11_toHim RX11 wsX11_toHim 2 (some .int) p s m ([.int a0, .int a1] : List Value).toArray meth c := ⟨B.exec, B.bytes, hml, findClass_of_methodNamed B.named, atoms_spec (ws := wsX11_toHim) B.pre, B.returns, B.notSynchronized⟩
  have hl := lv_entry ([.int a0, .int a1]) (n := 2) (Nat.le_of_ble_eq_true rfl)
  rw [lg_entry_eq]
  generalize (lg_sl ([.int a0, .int a1]) ++ List.replicate (2 - (lg_sl ([.int a0, .int a1])).length) Slot.unset).toArray = ls at hl ⊢
  have hl : lv_has ls 2 [(0, .int a0), (1, .int a1)] := hl
  exact w_X11_toHim_e hi a0 a1  C0 hK Q (R_X11_toHim a0 a1 Q) (y_X11_toHim hi a0 a1  C0 hK Q)  s0 hv hP va_S.rf hl
def lay_X11_rests (ad : Nat → Nat) (a0 : Int32) (a1 : Int32) (a2 : Int32) : Nat → List Int32 → List Int64 → Option (List (Nat × Value) × List Value) := fun P xs ys => match P, xs, ys with
  | 5, [x3, x4], [] => some ([(0, .int a0), (1, .int a1), (2, .int a2), (3, .int x3), (4, .int x4)], [])
  | _, _, _ => none
set_option maxHeartbeats 4000000 in
set_option maxRecDepth 100000 in
theorem w_X11_rests_e {p : Program} {l : Launch} {e : Env} {s : State} {m : MethodId} {args : Array Value} {below : List Frame} {meth : Method} {c : Code} {dC : Nat → ClassId} {dI : Nat → Nat → Nat} {ad : Nat → Nat} {cA cZ : ClassId} (hi : Inj 12 ad) (a0 : Int32) (a1 : Int32) (a2 : Int32)  (C0 : Cx cX11_rests RX11 wsX11_rests 5 (some .boolean) p s m args meth c) (hK : KK dC dI cA cZ s) (Q : Int32 → St → Prop) (Y : Nat → List Int32 → List Int64 → St → Prop) (hY : ∀ P xs ys σ, Y P xs ys σ → XX p l e ({ frames := 2, cells := 0, slots := 0, locals := 43 } : Room) s m args below meth c (dC, dI) 12 ad (celM ad cA cZ) 5 (ZZ below args s (dC, dI) 12 ad (celM ad cA cZ) Q) (lay_X11_rests ad a0 a1 a2) P xs ys σ)  (s0 : St) (hv : B_X11_rests_e a0 a1 a2 Q Y  s0) {H : Heap} {locs : List Loc} {ls : Array Slot} (hP : va_P (dC, dI) vwCl (wd 12 ad (celM ad cA cZ) s0) H) (hS : va_S (AA 12 ad s.heap.size) s.heap H locs) (hl : lv_has ls 5 [(0, .int a0), (1, .int a1), (2, .int a2)]) : W p l e ({ frames := 2, cells := 0, slots := 0, locals := 43 } : Room) s m args below meth c H locs 0 0 (ZZ below args s (dC, dI) 12 ad (celM ad cA cZ) Q) (F0 m 0 ls []) := by
  obtain ⟨hx, hb, hml, hown, hts, hr, hlocks⟩ := C0
  have hD := wd_D (s := s) (cel := celM ad cA cZ) (σ := s0) hi
  unfold B_X11_rests_e at hv
  refine lv_iconst (v := 1) hx hb dX11_rests_0 (by decide) ?_
  refine lv_istore_n (lv' := [(3, .int 1), (0, .int a0), (1, .int a1), (2, .int a2)]) hx hb dX11_rests_1 rfl hl (by decide) rfl (fun ls hl => ?_)
  refine lv_iconst (v := 0) hx hb dX11_rests_2 (by decide) ?_
  refine lv_istore (lv' := [(4, .int 0), (3, .int 1), (0, .int a0), (1, .int a1), (2, .int a2)]) hx hb dX11_rests_3 hl (by decide) rfl (fun ls hl => ?_)
  exact hY 5 [1, 0] [] s0 hv _ _ rfl H locs ls hP hS (lv_sub hl [2, 3, 4, 1, 0] rfl)
set_option maxHeartbeats 4000000 in
set_option maxRecDepth 100000 in
theorem w_X11_rests_5 {p : Program} {l : Launch} {e : Env} {s : State} {m : MethodId} {args : Array Value} {below : List Frame} {meth : Method} {c : Code} {dC : Nat → ClassId} {dI : Nat → Nat → Nat} {ad : Nat → Nat} {cA cZ : ClassId} (hi : Inj 12 ad) (a0 : Int32) (a1 : Int32) (a2 : Int32)  (C0 : Cx cX11_rests RX11 wsX11_rests 5 (some .boolean) p s m args meth c) (hK : KK dC dI cA cZ s) (Q : Int32 → St → Prop) (Y : Nat → List Int32 → List Int64 → St → Prop) (hY : ∀ P xs ys σ, Y P xs ys σ → XX p l e ({ frames := 2, cells := 0, slots := 0, locals := 43 } : Room) s m args below meth c (dC, dI) 12 ad (celM ad cA cZ) 5 (ZZ below args s (dC, dI) 12 ad (celM ad cA cZ) Q) (lay_X11_rests ad a0 a1 a2) P xs ys σ) (x3 : Int32) (x4 : Int32) (s0 : St) (hv : B_X11_rests_5 a0 a1 a2 Q Y x3 x4 s0) {H : Heap} {locs : List Loc} {ls : Array Slot} (hP : va_P (dC, dI) vwCl (wd 12 ad (celM ad cA cZ) s0) H) (hS : va_S (AA 12 ad s.heap.size) s.heap H locs) (hl : lv_has ls 5 [(0, .int a0), (1, .int a1), (2, .int a2), (3, .int x3), (4, .int x4)]) : W p l e ({ frames := 2, cells := 0, slots := 0, locals := 43 } : Room) s m args below meth c H locs 0 0 (ZZ below args s (dC, dI) 12 ad (celM ad cA cZ) Q) (F0 m 5 ls []) := by
  obtain ⟨hx, hb, hml, hown, hts, hr, hlocks⟩ := C0
  have hD := wd_D (s := s) (cel := celM ad cA cZ) (σ := s0) hi
  unfold B_X11_rests_5 at hv
  refine lv_iload hx hb dX11_rests_5 (lv_at hl 4 rfl) ?_
  refine lv_bipush (v := 10) hx hb dX11_rests_7 (by decide) ?_
  refine lv_icmp_ge (tgt := 58) hx hb dX11_rests_9 (by decide) (fun c9 => ?_) (fun c9 => ?_)
  · have hv := hv.1 c9
    refine lv_iload_n hx hb dX11_rests_58 rfl (lv_at hl 3 rfl) ?_
    obtain ⟨hz, hv⟩ := hv
    exact r_zret hx hb hr hlocks hz hv hP hS dX11_rests_59
  · have hv := hv.2 c9
    refine lv_iload_n hx hb dX11_rests_12 rfl (lv_at hl 3 rfl) ?_
    refine lv_if_eq (tgt := 50) hx hb dX11_rests_13 (by decide) (fun c13 => ?_) (fun c13 => ?_)
    · have hv := hv.1 c13
      refine lv_iconst (v := 0) hx hb dX11_rests_50 (by decide) ?_
      refine lv_istore_n (lv' := [(3, .int 0), (0, .int a0), (1, .int a1), (2, .int a2), (4, .int x4)]) hx hb dX11_rests_51 rfl hl (by decide) rfl (fun ls hl => ?_)
      refine lv_iinc (v := x4 + 1) (lv' := [(4, .int (x4 + 1)), (3, .int 0), (0, .int a0), (1, .int a1), (2, .int a2)]) hx hb dX11_rests_52 hl (k := 4) rfl rfl (by decide) rfl (fun ls hl => ?_)
      refine lv_goto (tgt := 5) hx hb dX11_rests_55 (by decide) ?_
      exact hY 5 [0, x4 + 1] [] s0 hv _ _ rfl H locs ls hP hS (lv_sub hl [2, 3, 4, 1, 0] rfl)
    · have hv := hv.2 c13
      refine lv_iload_n hx hb dX11_rests_16 rfl (lv_at hl 0 rfl) ?_
      refine lv_iload hx hb dX11_rests_17 (lv_at hl 4 rfl) ?_
      refine lv_iload_n hx hb dX11_rests_19 rfl (lv_at hl 2 rfl) ?_
      refine r_ci (va_runS (As := [.int a0, .int x4, .int a2]) (rest := []) ⟨hx, hb, hml, hown, hts⟩ (c_X11_toHer hi a0 x4 a2 s0 _ hv H.size) (va_cwS 3 hts gX11_rests_X11_toHer rfl rfl rfl (by decide +kernel) ⟨Nat.le_of_ble_eq_true rfl, Nat.le_of_ble_eq_true rfl⟩) ⟨pre_blind, pre_of hP hK⟩ rfl rfl hl.1 rfl (lv_room (Nat.le_of_ble_eq_true rfl)) dX11_rests_20 ⟨Nat.zero_le _, Nat.zero_le _⟩) hS (fun r1 s1 H locs hv hP hS => ?_)
      have hD := wd_D (s := s) (cel := celM ad cA cZ) (σ := s1) hi
      refine lv_iload_n hx hb dX11_rests_23 rfl (lv_at hl 0 rfl) ?_
      refine lv_iload_n hx hb dX11_rests_24 rfl (lv_at hl 1 rfl) ?_
      refine lv_iload_n hx hb dX11_rests_25 rfl (lv_at hl 2 rfl) ?_
      refine r_ci (va_runS (As := [.int a0, .int a1, .int a2]) (rest := [.int r1]) ⟨hx, hb, hml, hown, hts⟩ (c_X11_toHer hi a0 a1 a2 s1 _ hv H.size) (va_cwS 3 hts gX11_rests_X11_toHer rfl rfl rfl (by decide +kernel) ⟨Nat.le_of_ble_eq_true rfl, Nat.le_of_ble_eq_true rfl⟩) ⟨pre_blind, pre_of hP hK⟩ rfl rfl hl.1 rfl (lv_room (Nat.le_of_ble_eq_true rfl)) dX11_rests_26 ⟨Nat.zero_le _, Nat.zero_le _⟩) hS (fun r2 s2 H locs hv hP hS => ?_)
      have hD := wd_D (s := s) (cel := celM ad cA cZ) (σ := s2) hi
      refine lv_icmp_gt (tgt := 50) hx hb dX11_rests_29 (by decide) (fun c29 => ?_) (fun c29 => ?_)
      · have hv := hv.1 c29
        refine lv_iconst (v := 0) hx hb dX11_rests_50 (by decide) ?_
        refine lv_istore_n (lv' := [(3, .int 0), (0, .int a0), (1, .int a1), (2, .int a2), (4, .int x4)]) hx hb dX11_rests_51 rfl hl (by decide) rfl (fun ls hl => ?_)
        refine lv_iinc (v := x4 + 1) (lv' := [(4, .int (x4 + 1)), (3, .int 0), (0, .int a0), (1, .int a1), (2, .int a2)]) hx hb dX11_rests_52 hl (k := 4) rfl rfl (by decide) rfl (fun ls hl => ?_)
        refine lv_goto (tgt := 5) hx hb dX11_rests_55 (by decide) ?_
        exact hY 5 [0, x4 + 1] [] s2 hv _ _ rfl H locs ls hP hS (lv_sub hl [2, 3, 4, 1, 0] rfl)
      · have hv := hv.2 c29
        refine lv_iload_n hx hb dX11_rests_32 rfl (lv_at hl 1 rfl) ?_
        refine lv_iload hx hb dX11_rests_33 (lv_at hl 4 rfl) ?_
        refine r_ci (va_runS (As := [.int a1, .int x4]) (rest := []) ⟨hx, hb, hml, hown, hts⟩ (c_X11_toHim hi a1 x4 s2 _ hv H.size) (va_cwS 2 hts gX11_rests_X11_toHim rfl rfl rfl (by decide +kernel) ⟨Nat.le_of_ble_eq_true rfl, Nat.le_of_ble_eq_true rfl⟩) ⟨pre_blind, pre_of hP hK⟩ rfl rfl hl.1 rfl (lv_room (Nat.le_of_ble_eq_true rfl)) dX11_rests_35 ⟨Nat.zero_le _, Nat.zero_le _⟩) hS (fun r3 s3 H locs hv hP hS => ?_)
        have hD := wd_D (s := s) (cel := celM ad cA cZ) (σ := s3) hi
        refine lv_iload_n hx hb dX11_rests_38 rfl (lv_at hl 1 rfl) ?_
        refine lv_iload_n hx hb dX11_rests_39 rfl (lv_at hl 2 rfl) ?_
        refine r_ci (va_runS (As := [.int a1, .int a2]) (rest := [.int r3]) ⟨hx, hb, hml, hown, hts⟩ (c_X11_toHim hi a1 a2 s3 _ hv H.size) (va_cwS 2 hts gX11_rests_X11_toHim rfl rfl rfl (by decide +kernel) ⟨Nat.le_of_ble_eq_true rfl, Nat.le_of_ble_eq_true rfl⟩) ⟨pre_blind, pre_of hP hK⟩ rfl rfl hl.1 rfl (lv_room (Nat.le_of_ble_eq_true rfl)) dX11_rests_40 ⟨Nat.zero_le _, Nat.zero_le _⟩) hS (fun r4 s4 H locs hv hP hS => ?_)
        have hD := wd_D (s := s) (cel := celM ad cA cZ) (σ := s4) hi
        refine lv_icmp_gt (tgt := 50) hx hb dX11_rests_43 (by decide) (fun c43 => ?_) (fun c43 => ?_)
        · have hv := hv.1 c43
          refine lv_iconst (v := 0) hx hb dX11_rests_50 (by decide) ?_
          refine lv_istore_n (lv' := [(3, .int 0), (0, .int a0), (1, .int a1), (2, .int a2), (4, .int x4)]) hx hb dX11_rests_51 rfl hl (by decide) rfl (fun ls hl => ?_)
          refine lv_iinc (v := x4 + 1) (lv' := [(4, .int (x4 + 1)), (3, .int 0), (0, .int a0), (1, .int a1), (2, .int a2)]) hx hb dX11_rests_52 hl (k := 4) rfl rfl (by decide) rfl (fun ls hl => ?_)
          refine lv_goto (tgt := 5) hx hb dX11_rests_55 (by decide) ?_
          exact hY 5 [0, x4 + 1] [] s4 hv _ _ rfl H locs ls hP hS (lv_sub hl [2, 3, 4, 1, 0] rfl)
        · have hv := hv.2 c43
          refine lv_iconst (v := 1) hx hb dX11_rests_46 (by decide) ?_
          refine lv_goto (tgt := 51) hx hb dX11_rests_47 (by decide) ?_
          refine lv_istore_n (lv' := [(3, .int 1), (0, .int a0), (1, .int a1), (2, .int a2), (4, .int x4)]) hx hb dX11_rests_51 rfl hl (by decide) rfl (fun ls hl => ?_)
          refine lv_iinc (v := x4 + 1) (lv' := [(4, .int (x4 + 1)), (3, .int 1), (0, .int a0), (1, .int a1), (2, .int a2)]) hx hb dX11_rests_52 hl (k := 4) rfl rfl (by decide) rfl (fun ls hl => ?_)
          refine lv_goto (tgt := 5) hx hb dX11_rests_55 (by decide) ?_
          exact hY 5 [1, x4 + 1] [] s4 hv _ _ rfl H locs ls hP hS (lv_sub hl [2, 3, 4, 1, 0] rfl)
set_option maxHeartbeats 4000000 in
theorem y_X11_rests {p : Program} {l : Launch} {e : Env} {s : State} {m : MethodId} {args : Array Value} {below : List Frame} {meth : Method} {c : Code} {dC : Nat → ClassId} {dI : Nat → Nat → Nat} {ad : Nat → Nat} {cA cZ : ClassId} (hi : Inj 12 ad) (a0 : Int32) (a1 : Int32) (a2 : Int32)  (C0 : Cx cX11_rests RX11 wsX11_rests 5 (some .boolean) p s m args meth c) (hK : KK dC dI cA cZ s) (Q : Int32 → St → Prop) : ∀ P xs ys σ, R_X11_rests a0 a1 a2 Q P xs ys σ → XX p l e ({ frames := 2, cells := 0, slots := 0, locals := 43 } : Room) s m args below meth c (dC, dI) 12 ad (celM ad cA cZ) 5 (ZZ below args s (dC, dI) 12 ad (celM ad cA cZ) Q) (lay_X11_rests ad a0 a1 a2) P xs ys σ := by
  refine Fx.elim _ (fun P xs ys σ Y hY hB => ?_)
  rcases hB with ⟨rfl, x3, x4, rfl, rfl, hB⟩
  · intro lv st he H locs ls hP hS hl
    cases he
    exact w_X11_rests_5 hi a0 a1 a2  C0 hK Q Y hY x3 x4 σ hB hP hS hl
set_option maxHeartbeats 4000000 in
theorem c_X11_rests {l : Launch} {dC : Nat → ClassId} {dI : Nat → Nat → Nat} {ad : Nat → Nat} {cA cZ : ClassId} (hi : Inj 12 ad) (a0 : Int32) (a1 : Int32) (a2 : Int32)  (s0 : St) (Q : Int32 → St → Prop) (hv : V_X11_rests a0 a1 a2 s0 Q) (sz : Nat) : Met l yX11_rests wsX11_rests ({ frames := 2, cells := 0, slots := 0, locals := 43 } : Room) (va_Pc [.int a0, .int a1, .int a2] (PW dC dI ad cA cZ 12 (celM ad cA cZ) sz s0)) (va_Qi (fun r u => (r = 0 ∨ r = 1) ∧ Q r u) (fun u t => va_P (dC, dI) vwCl (wd 12 ad (celM ad cA cZ) u) t.heap) (AA 12 ad sz)) 0 0 (AA 12 ad sz) := by
  refine Met.ofW (cc := cX11_rests) (maxL := 5) (ret := (some .boolean)) (by decide) rfl ?_
  intro p e s m args below meth c s₁ B hml hv0
  obtain ⟨rfl, hsz, hP, hK⟩ := hv0
  subst hsz
  have C0 : Cx cX11_rests RX11 wsX11_rests 5 (some .boolean) p s m ([.int a0, .int a1, .int a2] : List Value).toArray meth c := ⟨B.exec, B.bytes, hml, findClass_of_methodNamed B.named, atoms_spec (ws := wsX11_rests) B.pre, B.returns, B.notSynchronized⟩
  have hl := lv_entry ([.int a0, .int a1, .int a2]) (n := 5) (Nat.le_of_ble_eq_true rfl)
  rw [lg_entry_eq]
  generalize (lg_sl ([.int a0, .int a1, .int a2]) ++ List.replicate (5 - (lg_sl ([.int a0, .int a1, .int a2])).length) Slot.unset).toArray = ls at hl ⊢
  have hl : lv_has ls 5 [(0, .int a0), (1, .int a1), (2, .int a2)] := hl
  exact w_X11_rests_e hi a0 a1 a2  C0 hK Q (R_X11_rests a0 a1 a2 Q) (y_X11_rests hi a0 a1 a2  C0 hK Q)  s0 hv hP va_S.rf hl
def lay_X11_lady (ad : Nat → Nat) (a1 : Int32) (a2 : Int32) : Nat → List Int32 → List Int64 → Option (List (Nat × Value) × List Value) := fun P xs ys => match P, xs, ys with
  | 13, [], [] => some ([(0, .ref (ad 0))], [])
  | 32, [x3, x4, x5], [] => some ([(2, .int a2), (3, .int x3), (4, .int x4), (5, .int x5)], [])
  | _, _, _ => none
set_option maxHeartbeats 4000000 in
set_option maxRecDepth 100000 in
theorem w_X11_lady_e {p : Program} {l : Launch} {e : Env} {s : State} {m : MethodId} {args : Array Value} {below : List Frame} {meth : Method} {c : Code} {dC : Nat → ClassId} {dI : Nat → Nat → Nat} {ad : Nat → Nat} {cA cZ : ClassId} (hi : Inj 12 ad) (a1 : Int32) (a2 : Int32)  (C0 : Cx cX11_lady RX11 wsX11_lady 6 (some .int) p s m args meth c) (hK : KK dC dI cA cZ s) (Q : Int32 → St → Prop) (Y : Nat → List Int32 → List Int64 → St → Prop) (hY : ∀ P xs ys σ, Y P xs ys σ → XX p l e ({ frames := 5, cells := 0, slots := 0, locals := 117 } : Room) s m args below meth c (dC, dI) 12 ad (celM ad cA cZ) 6 (ZI below args s (dC, dI) 12 ad (celM ad cA cZ) Q) (lay_X11_lady ad a1 a2) P xs ys σ)  (s0 : St) (hv : B_X11_lady_e a1 a2 Q Y  s0) {H : Heap} {locs : List Loc} {ls : Array Slot} (hP : va_P (dC, dI) vwCl (wd 12 ad (celM ad cA cZ) s0) H) (hS : va_S (AA 12 ad s.heap.size) s.heap H locs) (hl : lv_has ls 6 [(0, .ref (ad 0)), (1, .int a1), (2, .int a2)]) : W p l e ({ frames := 5, cells := 0, slots := 0, locals := 117 } : Room) s m args below meth c H locs 0 0 (ZI below args s (dC, dI) 12 ad (celM ad cA cZ) Q) (F0 m 0 ls []) := by
  obtain ⟨hx, hb, hml, hown, hts, hr, hlocks⟩ := C0
  have hD := wd_D (s := s) (cel := celM ad cA cZ) (σ := s0) hi
  unfold B_X11_lady_e at hv
  refine lv_aload_n hx hb dX11_lady_0 rfl (lv_at hl 0 rfl) ?_
  refine lv_iload_n hx hb dX11_lady_1 rfl (lv_at hl 1 rfl) ?_
  refine r_ci (va_runV (As := [.int a1]) (rest := []) ⟨hx, hb, hml, hown, hts⟩ (c_X11_isGlove hi a1 s0 _ hv H.size) (cwV 1 hts gX11_lady_X11_isGlove rfl rfl rfl (by decide +kernel) ⟨Nat.le_of_ble_eq_true rfl, Nat.le_of_ble_eq_true rfl⟩) ⟨pre_blind, r_recv hK.1 hP 0 (by decide) (ceMo_0 (s0 0)) rfl, pre_of hP hK⟩ rfl rfl hl.1 rfl (lv_room (Nat.le_of_ble_eq_true rfl)) dX11_lady_2 ⟨Nat.zero_le _, Nat.zero_le _⟩) hS (fun r1 s1 H locs hv hP hS => ?_)
  obtain ⟨hz_r1, hv⟩ := hv
  have hD := wd_D (s := s) (cel := celM ad cA cZ) (σ := s1) hi
  refine lv_if_eq (tgt := 13) hx hb dX11_lady_5 (by decide) (fun c5 => ?_) (fun c5 => ?_)
  · have hv := hv.1 c5
    exact hY 13 [] [] s1 hv _ _ rfl H locs ls hP hS (lv_sub hl [0] rfl)
  · have hv := hv.2 c5
    refine lv_iload_n hx hb dX11_lady_8 rfl (lv_at hl 2 rfl) ?_
    refine lv_iconst (v := (-1)) hx hb dX11_lady_9 (by decide) ?_
    refine lv_icmp_ge (tgt := 20) hx hb dX11_lady_10 (by decide) (fun c10 => ?_) (fun c10 => ?_)
    · have hv := hv.1 c10
      refine lv_aload_n hx hb dX11_lady_20 rfl (lv_at hl 0 rfl) ?_
      refine lv_iload_n hx hb dX11_lady_21 rfl (lv_at hl 1 rfl) ?_
      refine r_ci (va_runV (As := [.int a1]) (rest := []) ⟨hx, hb, hml, hown, hts⟩ (c_X11_spikesOf hi a1 s1 _ hv H.size) (cwV 1 hts gX11_lady_X11_spikesOf rfl rfl rfl (by decide +kernel) ⟨Nat.le_of_ble_eq_true rfl, Nat.le_of_ble_eq_true rfl⟩) ⟨pre_blind, r_recv hK.1 hP 0 (by decide) (ceMo_0 (s1 0)) rfl, pre_of hP hK⟩ rfl rfl hl.1 rfl (lv_room (Nat.le_of_ble_eq_true rfl)) dX11_lady_22 ⟨Nat.zero_le _, Nat.zero_le _⟩) hS (fun r2 s2 H locs hv hP hS => ?_)
      have hD := wd_D (s := s) (cel := celM ad cA cZ) (σ := s2) hi
      refine lv_istore_n (lv' := [(3, .int r2), (0, .ref (ad 0)), (1, .int a1), (2, .int a2)]) hx hb dX11_lady_25 rfl hl (by decide) rfl (fun ls hl => ?_)
      refine lv_iconst (v := 0) hx hb dX11_lady_26 (by decide) ?_
      refine lv_istore (lv' := [(4, .int 0), (3, .int r2), (0, .ref (ad 0)), (1, .int a1), (2, .int a2)]) hx hb dX11_lady_27 hl (by decide) rfl (fun ls hl => ?_)
      refine lv_iconst (v := 0) hx hb dX11_lady_29 (by decide) ?_
      refine lv_istore (lv' := [(5, .int 0), (4, .int 0), (3, .int r2), (0, .ref (ad 0)), (1, .int a1), (2, .int a2)]) hx hb dX11_lady_30 hl (by decide) rfl (fun ls hl => ?_)
      exact hY 32 [r2, 0, 0] [] s2 hv _ _ rfl H locs ls hP hS (lv_sub hl [5, 2, 1, 0] rfl)
    · have hv := hv.2 c10
      exact hY 13 [] [] s1 hv _ _ rfl H locs ls hP hS (lv_sub hl [0] rfl)
set_option maxHeartbeats 4000000 in
set_option maxRecDepth 100000 in
theorem w_X11_lady_13 {p : Program} {l : Launch} {e : Env} {s : State} {m : MethodId} {args : Array Value} {below : List Frame} {meth : Method} {c : Code} {dC : Nat → ClassId} {dI : Nat → Nat → Nat} {ad : Nat → Nat} {cA cZ : ClassId} (hi : Inj 12 ad) (a1 : Int32) (a2 : Int32)  (C0 : Cx cX11_lady RX11 wsX11_lady 6 (some .int) p s m args meth c) (hK : KK dC dI cA cZ s) (Q : Int32 → St → Prop) (Y : Nat → List Int32 → List Int64 → St → Prop) (hY : ∀ P xs ys σ, Y P xs ys σ → XX p l e ({ frames := 5, cells := 0, slots := 0, locals := 117 } : Room) s m args below meth c (dC, dI) 12 ad (celM ad cA cZ) 6 (ZI below args s (dC, dI) 12 ad (celM ad cA cZ) Q) (lay_X11_lady ad a1 a2) P xs ys σ)  (s0 : St) (hv : B_X11_lady_13 a1 a2 Q Y  s0) {H : Heap} {locs : List Loc} {ls : Array Slot} (hP : va_P (dC, dI) vwCl (wd 12 ad (celM ad cA cZ) s0) H) (hS : va_S (AA 12 ad s.heap.size) s.heap H locs) (hl : lv_has ls 6 [(0, .ref (ad 0))]) : W p l e ({ frames := 5, cells := 0, slots := 0, locals := 117 } : Room) s m args below meth c H locs 0 0 (ZI below args s (dC, dI) 12 ad (celM ad cA cZ) Q) (F0 m 13 ls []) := by
  obtain ⟨hx, hb, hml, hown, hts, hr, hlocks⟩ := C0
  have hD := wd_D (s := s) (cel := celM ad cA cZ) (σ := s0) hi
  unfold B_X11_lady_13 at hv
  refine lv_aload_n hx hb dX11_lady_13 rfl (lv_at hl 0 rfl) ?_
  refine lv_bipush (v := (-10)) hx hb dX11_lady_14 (by decide) ?_
  refine r_ci (va_runV (As := [.int ((-10))]) (rest := []) ⟨hx, hb, hml, hown, hts⟩ (c_X11_bad hi ((-10)) s0 _ hv H.size) (cwV 1 hts gX11_lady_X11_bad rfl rfl rfl (by decide +kernel) ⟨Nat.le_of_ble_eq_true rfl, Nat.le_of_ble_eq_true rfl⟩) ⟨pre_blind, r_recv hK.1 hP 0 (by decide) (ceMo_0 (s0 0)) rfl, pre_of hP hK⟩ rfl rfl hl.1 rfl (lv_room (Nat.le_of_ble_eq_true rfl)) dX11_lady_16 ⟨Nat.zero_le _, Nat.zero_le _⟩) hS (fun r1 s1 H locs hv hP hS => ?_)
  have hD := wd_D (s := s) (cel := celM ad cA cZ) (σ := s1) hi
  exact r_iret hx hb hr hlocks hv hP hS dX11_lady_19
set_option maxHeartbeats 4000000 in
set_option maxRecDepth 100000 in
theorem w_X11_lady_32 {p : Program} {l : Launch} {e : Env} {s : State} {m : MethodId} {args : Array Value} {below : List Frame} {meth : Method} {c : Code} {dC : Nat → ClassId} {dI : Nat → Nat → Nat} {ad : Nat → Nat} {cA cZ : ClassId} (hi : Inj 12 ad) (a1 : Int32) (a2 : Int32)  (C0 : Cx cX11_lady RX11 wsX11_lady 6 (some .int) p s m args meth c) (hK : KK dC dI cA cZ s) (Q : Int32 → St → Prop) (Y : Nat → List Int32 → List Int64 → St → Prop) (hY : ∀ P xs ys σ, Y P xs ys σ → XX p l e ({ frames := 5, cells := 0, slots := 0, locals := 117 } : Room) s m args below meth c (dC, dI) 12 ad (celM ad cA cZ) 6 (ZI below args s (dC, dI) 12 ad (celM ad cA cZ) Q) (lay_X11_lady ad a1 a2) P xs ys σ) (x3 : Int32) (x4 : Int32) (x5 : Int32) (s0 : St) (hv : B_X11_lady_32 a1 a2 Q Y x3 x4 x5 s0) {H : Heap} {locs : List Loc} {ls : Array Slot} (hP : va_P (dC, dI) vwCl (wd 12 ad (celM ad cA cZ) s0) H) (hS : va_S (AA 12 ad s.heap.size) s.heap H locs) (hl : lv_has ls 6 [(2, .int a2), (3, .int x3), (4, .int x4), (5, .int x5)]) : W p l e ({ frames := 5, cells := 0, slots := 0, locals := 117 } : Room) s m args below meth c H locs 0 0 (ZI below args s (dC, dI) 12 ad (celM ad cA cZ) Q) (F0 m 32 ls []) := by
  obtain ⟨hx, hb, hml, hown, hts, hr, hlocks⟩ := C0
  have hD := wd_D (s := s) (cel := celM ad cA cZ) (σ := s0) hi
  unfold B_X11_lady_32 at hv
  refine lv_iload hx hb dX11_lady_32 (lv_at hl 3 rfl) ?_
  refine lv_bipush (v := 100) hx hb dX11_lady_34 (by decide) ?_
  refine lv_icmp_ge (tgt := 74) hx hb dX11_lady_36 (by decide) (fun c36 => ?_) (fun c36 => ?_)
  · have hv := hv.1 c36
    refine lv_iload_n hx hb dX11_lady_74 rfl (lv_at hl 0 rfl) ?_
    refine lv_iconst (v := (-1)) hx hb dX11_lady_75 (by decide) ?_
    refine lv_icmp_ne (tgt := 84) hx hb dX11_lady_76 (by decide) (fun c76 => ?_) (fun c76 => ?_)
    · have hv := hv.1 c76
      refine lv_bipush (v := (-5)) hx hb dX11_lady_84 (by decide) ?_
      exact r_iret hx hb hr hlocks hv hP hS dX11_lady_86
    · have hv := hv.2 c76
      refine lv_iload hx hb dX11_lady_79 (lv_at hl 2 rfl) ?_
      refine lv_goto (tgt := 86) hx hb dX11_lady_81 (by decide) ?_
      exact r_iret hx hb hr hlocks hv hP hS dX11_lady_86
  · have hv := hv.2 c36
    refine lv_iload_n hx hb dX11_lady_39 rfl (lv_at hl 1 rfl) ?_
    refine lv_iload hx hb dX11_lady_40 (lv_at hl 3 rfl) ?_
    refine lv_bipush (v := 10) hx hb dX11_lady_42 (by decide) ?_
    refine lv_idiv hx hb dX11_lady_44 (by decide) ?_
    refine lv_iload hx hb dX11_lady_45 (lv_at hl 3 rfl) ?_
    refine lv_bipush (v := 10) hx hb dX11_lady_47 (by decide) ?_
    refine lv_irem hx hb dX11_lady_49 (by decide) ?_
    refine r_ci (va_runS (As := [.int x3, .int (x5 / 10), .int (x5 - x5 / 10 * 10)]) (rest := []) ⟨hx, hb, hml, hown, hts⟩ (c_X11_rests hi x3 (x5 / 10) (x5 - x5 / 10 * 10) s0 _ hv H.size) (va_cwS 3 hts gX11_lady_X11_rests rfl rfl rfl (by decide +kernel) ⟨Nat.le_of_ble_eq_true rfl, Nat.le_of_ble_eq_true rfl⟩) ⟨pre_blind, pre_of hP hK⟩ rfl rfl hl.1 rfl (lv_room (Nat.le_of_ble_eq_true rfl)) dX11_lady_50 ⟨Nat.zero_le _, Nat.zero_le _⟩) hS (fun r1 s1 H locs hv hP hS => ?_)
    obtain ⟨hz_r1, hv⟩ := hv
    have hD := wd_D (s := s) (cel := celM ad cA cZ) (σ := s1) hi
    refine lv_if_eq (tgt := 68) hx hb dX11_lady_53 (by decide) (fun c53 => ?_) (fun c53 => ?_)
    · have hv := hv.1 c53
      refine lv_iinc (v := x5 + 1) (lv' := [(5, .int (x5 + 1)), (2, .int a2), (3, .int x3), (4, .int x4)]) hx hb dX11_lady_68 hl (k := 3) rfl rfl (by decide) rfl (fun ls hl => ?_)
      refine lv_goto (tgt := 32) hx hb dX11_lady_71 (by decide) ?_
      exact hY 32 [x3, x4, x5 + 1] [] s1 hv _ _ rfl H locs ls hP hS (lv_sub hl [1, 2, 3, 0] rfl)
    · have hv := hv.2 c53
      refine lv_iload hx hb dX11_lady_56 (lv_at hl 2 rfl) ?_
      refine lv_iload_n hx hb dX11_lady_58 rfl (lv_at hl 0 rfl) ?_
      refine lv_icmp_ne (tgt := 65) hx hb dX11_lady_59 (by decide) (fun c59 => ?_) (fun c59 => ?_)
      · have hv := hv.1 c59
        refine lv_iinc (v := x4 + 1) (lv' := [(4, .int (x4 + 1)), (2, .int a2), (3, .int x3), (5, .int x5)]) hx hb dX11_lady_65 hl (k := 2) rfl rfl (by decide) rfl (fun ls hl => ?_)
        refine lv_iinc (v := x5 + 1) (lv' := [(5, .int (x5 + 1)), (4, .int (x4 + 1)), (2, .int a2), (3, .int x3)]) hx hb dX11_lady_68 hl (k := 3) rfl rfl (by decide) rfl (fun ls hl => ?_)
        refine lv_goto (tgt := 32) hx hb dX11_lady_71 (by decide) ?_
        exact hY 32 [x3, x4 + 1, x5 + 1] [] s1 hv _ _ rfl H locs ls hP hS (lv_sub hl [2, 3, 1, 0] rfl)
      · have hv := hv.2 c59
        refine lv_iload hx hb dX11_lady_62 (lv_at hl 3 rfl) ?_
        exact r_iret hx hb hr hlocks hv hP hS dX11_lady_64
set_option maxHeartbeats 4000000 in
theorem y_X11_lady {p : Program} {l : Launch} {e : Env} {s : State} {m : MethodId} {args : Array Value} {below : List Frame} {meth : Method} {c : Code} {dC : Nat → ClassId} {dI : Nat → Nat → Nat} {ad : Nat → Nat} {cA cZ : ClassId} (hi : Inj 12 ad) (a1 : Int32) (a2 : Int32)  (C0 : Cx cX11_lady RX11 wsX11_lady 6 (some .int) p s m args meth c) (hK : KK dC dI cA cZ s) (Q : Int32 → St → Prop) : ∀ P xs ys σ, R_X11_lady a1 a2 Q P xs ys σ → XX p l e ({ frames := 5, cells := 0, slots := 0, locals := 117 } : Room) s m args below meth c (dC, dI) 12 ad (celM ad cA cZ) 6 (ZI below args s (dC, dI) 12 ad (celM ad cA cZ) Q) (lay_X11_lady ad a1 a2) P xs ys σ := by
  refine Fx.elim _ (fun P xs ys σ Y hY hB => ?_)
  rcases hB with ⟨rfl, rfl, rfl, hB⟩ | ⟨rfl, x3, x4, x5, rfl, rfl, hB⟩
  · intro lv st he H locs ls hP hS hl
    cases he
    exact w_X11_lady_13 hi a1 a2  C0 hK Q Y hY  σ hB hP hS hl
  · intro lv st he H locs ls hP hS hl
    cases he
    exact w_X11_lady_32 hi a1 a2  C0 hK Q Y hY x3 x4 x5 σ hB hP hS hl
set_option maxHeartbeats 4000000 in
theorem c_X11_lady {l : Launch} {dC : Nat → ClassId} {dI : Nat → Nat → Nat} {ad : Nat → Nat} {cA cZ : ClassId} (hi : Inj 12 ad) (a1 : Int32) (a2 : Int32)  (s0 : St) (Q : Int32 → St → Prop) (hv : V_X11_lady a1 a2 s0 Q) (sz : Nat) : Met l yX11_lady wsX11_lady ({ frames := 5, cells := 0, slots := 0, locals := 117 } : Room) (va_Pc [.ref (ad 0), .int a1, .int a2] (PW dC dI ad cA cZ 12 (celM ad cA cZ) sz s0)) (va_Qi Q (fun u t => va_P (dC, dI) vwCl (wd 12 ad (celM ad cA cZ) u) t.heap) (AA 12 ad sz)) 0 0 (AA 12 ad sz) := by
  refine Met.ofW (cc := cX11_lady) (maxL := 6) (ret := (some .int)) (by decide) rfl ?_
  intro p e s m args below meth c s₁ B hml hv0
  obtain ⟨rfl, hsz, hP, hK⟩ := hv0
  subst hsz
  have C0 : Cx cX11_lady RX11 wsX11_lady 6 (some .int) p s m ([.ref (ad 0), .int a1, .int a2] : List Value).toArray meth c := ⟨B.exec, B.bytes, hml, findClass_of_methodNamed B.named, atoms_spec (ws := wsX11_lady) B.pre, B.returns, B.notSynchronized⟩
  have hl := lv_entry ([.ref (ad 0), .int a1, .int a2]) (n := 6) (Nat.le_of_ble_eq_true rfl)
  rw [lg_entry_eq]
  generalize (lg_sl ([.ref (ad 0), .int a1, .int a2]) ++ List.replicate (6 - (lg_sl ([.ref (ad 0), .int a1, .int a2])).length) Slot.unset).toArray = ls at hl ⊢
  have hl : lv_has ls 6 [(0, .ref (ad 0)), (1, .int a1), (2, .int a2)] := hl
  exact w_X11_lady_e hi a1 a2  C0 hK Q (R_X11_lady a1 a2 Q) (y_X11_lady hi a1 a2  C0 hK Q)  s0 hv hP va_S.rf hl
def lay_X11_fraction (ad : Nat → Nat) (a1 : Int64) (a3 : Int64) : Nat → List Int32 → List Int64 → Option (List (Nat × Value) × List Value) := fun P xs ys => match P, xs, ys with
  | 6, [], [y5, y7] => some ([(0, .ref (ad 0)), (1, .long a1), (3, .long a3), (5, .long y5), (7, .long y7)], [])
  | _, _, _ => none
set_option maxHeartbeats 4000000 in
set_option maxRecDepth 100000 in
theorem w_X11_fraction_e {p : Program} {l : Launch} {e : Env} {s : State} {m : MethodId} {args : Array Value} {below : List Frame} {meth : Method} {c : Code} {dC : Nat → ClassId} {dI : Nat → Nat → Nat} {ad : Nat → Nat} {cA cZ : ClassId} (hi : Inj 12 ad) (a1 : Int64) (a3 : Int64)  (C0 : Cx cX11_fraction RX11 wsX11_fraction 11 none p s m args meth c) (hK : KK dC dI cA cZ s) (Q : St → Prop) (Y : Nat → List Int32 → List Int64 → St → Prop) (hY : ∀ P xs ys σ, Y P xs ys σ → XX p l e ({ frames := 0, cells := 0, slots := 0, locals := 0 } : Room) s m args below meth c (dC, dI) 12 ad (celM ad cA cZ) 11 (ZV below args s (dC, dI) 12 ad (celM ad cA cZ) Q) (lay_X11_fraction ad a1 a3) P xs ys σ)  (s0 : St) (hv : B_X11_fraction_e a1 a3 Q Y  s0) {H : Heap} {locs : List Loc} {ls : Array Slot} (hP : va_P (dC, dI) vwCl (wd 12 ad (celM ad cA cZ) s0) H) (hS : va_S (AA 12 ad s.heap.size) s.heap H locs) (hl : lv_has ls 11 [(0, .ref (ad 0)), (1, .long a1), (3, .long a3)]) : W p l e ({ frames := 0, cells := 0, slots := 0, locals := 0 } : Room) s m args below meth c H locs 0 0 (ZV below args s (dC, dI) 12 ad (celM ad cA cZ) Q) (F0 m 0 ls []) := by
  obtain ⟨hx, hb, hml, hown, hts, hr, hlocks⟩ := C0
  have hD := wd_D (s := s) (cel := celM ad cA cZ) (σ := s0) hi
  unfold B_X11_fraction_e at hv
  refine lv_lload_n hx hb dX11_fraction_0 rfl (lv_at hl 1 rfl) ?_
  refine lv_lstore (lv' := [(5, .long a1), (0, .ref (ad 0)), (1, .long a1), (3, .long a3)]) hx hb dX11_fraction_1 hl (by decide) rfl (fun ls hl => ?_)
  refine lv_lload_n hx hb dX11_fraction_3 rfl (lv_at hl 3 rfl) ?_
  refine lv_lstore (lv' := [(7, .long a3), (5, .long a1), (0, .ref (ad 0)), (1, .long a1), (3, .long a3)]) hx hb dX11_fraction_4 hl (by decide) rfl (fun ls hl => ?_)
  exact hY 6 [] [a1, a3] s0 hv _ _ rfl H locs ls hP hS (lv_sub hl [2, 3, 4, 1, 0] rfl)
set_option maxHeartbeats 4000000 in
set_option maxRecDepth 100000 in
theorem w_X11_fraction_6 {p : Program} {l : Launch} {e : Env} {s : State} {m : MethodId} {args : Array Value} {below : List Frame} {meth : Method} {c : Code} {dC : Nat → ClassId} {dI : Nat → Nat → Nat} {ad : Nat → Nat} {cA cZ : ClassId} (hi : Inj 12 ad) (a1 : Int64) (a3 : Int64)  (C0 : Cx cX11_fraction RX11 wsX11_fraction 11 none p s m args meth c) (hK : KK dC dI cA cZ s) (Q : St → Prop) (Y : Nat → List Int32 → List Int64 → St → Prop) (hY : ∀ P xs ys σ, Y P xs ys σ → XX p l e ({ frames := 0, cells := 0, slots := 0, locals := 0 } : Room) s m args below meth c (dC, dI) 12 ad (celM ad cA cZ) 11 (ZV below args s (dC, dI) 12 ad (celM ad cA cZ) Q) (lay_X11_fraction ad a1 a3) P xs ys σ) (y5 : Int64) (y7 : Int64) (s0 : St) (hv : B_X11_fraction_6 a1 a3 Q Y y5 y7 s0) {H : Heap} {locs : List Loc} {ls : Array Slot} (hP : va_P (dC, dI) vwCl (wd 12 ad (celM ad cA cZ) s0) H) (hS : va_S (AA 12 ad s.heap.size) s.heap H locs) (hl : lv_has ls 11 [(0, .ref (ad 0)), (1, .long a1), (3, .long a3), (5, .long y5), (7, .long y7)]) : W p l e ({ frames := 0, cells := 0, slots := 0, locals := 0 } : Room) s m args below meth c H locs 0 0 (ZV below args s (dC, dI) 12 ad (celM ad cA cZ) Q) (F0 m 6 ls []) := by
  obtain ⟨hx, hb, hml, hown, hts, hr, hlocks⟩ := C0
  have hD := wd_D (s := s) (cel := celM ad cA cZ) (σ := s0) hi
  unfold B_X11_fraction_6 at hv
  refine lv_lload hx hb dX11_fraction_6 (lv_at hl 4 rfl) ?_
  refine lv_lconst (v := 0) hx hb dX11_fraction_8 (by decide) ?_
  refine W.lcmp hx hb dX11_fraction_9 ?_
  refine lv_if_eq (tgt := 31) hx hb dX11_fraction_10 (by decide) (fun c10 => ?_) (fun c10 => ?_)
  · have hv := hv.1 c10
    refine lv_aload_n hx hb dX11_fraction_31 rfl (lv_at hl 0 rfl) ?_
    refine lv_lload_n hx hb dX11_fraction_32 rfl (lv_at hl 1 rfl) ?_
    refine lv_lload hx hb dX11_fraction_33 (lv_at hl 3 rfl) ?_
    obtain ⟨hne, hv⟩ := hv
    refine lv_ldiv hx hb dX11_fraction_35 hne ?_
    refine r_put hx hb hts (iwX11_fraction_X11) tyX11 tyX11_ok nmX11 hown hK.1 hP hD hS 0 (by decide) (ceMo_0 (s0 0)) rfl 4 (by decide) (hts _ kX11_fraction_1) rfl (ty := .long) (v := .long (a1 / y5)) (by decide +kernel) rfl rfl (Nat.le_of_ble_eq_true rfl) (row := (upd (upd (s0 0) 28 (lgh (a1 / y5))) 29 (lgl (a1 / y5)))) (by rw [(ceMo_0 (upd (upd (s0 0) 28 (lgh (a1 / y5))) 29 (lgl (a1 / y5))))]; simp [upd, lg2_hl]) dX11_fraction_36 (fun H locs s1 es1 hP hD hS => ?_)
    have hv := hv s1 es1
    refine lv_aload_n hx hb dX11_fraction_39 rfl (lv_at hl 0 rfl) ?_
    refine lv_lload_n hx hb dX11_fraction_40 rfl (lv_at hl 2 rfl) ?_
    refine lv_lload hx hb dX11_fraction_41 (lv_at hl 3 rfl) ?_
    obtain ⟨hne, hv⟩ := hv
    refine lv_ldiv hx hb dX11_fraction_43 hne ?_
    refine r_put hx hb hts (iwX11_fraction_X11) tyX11 tyX11_ok nmX11 hown hK.1 hP hD hS 0 (by decide) (ceMo_0 (s1 0)) rfl 5 (by decide) (hts _ kX11_fraction_2) rfl (ty := .long) (v := .long (a3 / y5)) (by decide +kernel) rfl rfl (Nat.le_of_ble_eq_true rfl) (row := (upd (upd (s1 0) 30 (lgh (a3 / y5))) 31 (lgl (a3 / y5)))) (by rw [(ceMo_0 (upd (upd (s1 0) 30 (lgh (a3 / y5))) 31 (lgl (a3 / y5))))]; simp [upd, lg2_hl]) dX11_fraction_44 (fun H locs s2 es2 hP hD hS => ?_)
    have hv := hv s2 es2
    exact r_vret hx hb hr hlocks hv hP hS dX11_fraction_47
  · have hv := hv.2 c10
    refine lv_lload hx hb dX11_fraction_13 (lv_at hl 3 rfl) ?_
    refine lv_lload hx hb dX11_fraction_15 (lv_at hl 4 rfl) ?_
    obtain ⟨hne, hv⟩ := hv
    refine lv_lrem hx hb dX11_fraction_17 hne ?_
    refine lv_lstore (lv' := [(9, .long (y5 - y5 / y7 * y7)), (0, .ref (ad 0)), (1, .long a1), (3, .long a3), (5, .long y5), (7, .long y7)]) hx hb dX11_fraction_18 hl (by decide) rfl (fun ls hl => ?_)
    refine lv_lload hx hb dX11_fraction_20 (lv_at hl 5 rfl) ?_
    refine lv_lstore (lv' := [(5, .long y7), (9, .long (y5 - y5 / y7 * y7)), (0, .ref (ad 0)), (1, .long a1), (3, .long a3), (7, .long y7)]) hx hb dX11_fraction_22 hl (by decide) rfl (fun ls hl => ?_)
    refine lv_lload hx hb dX11_fraction_24 (lv_at hl 1 rfl) ?_
    refine lv_lstore (lv' := [(7, .long (y5 - y5 / y7 * y7)), (5, .long y7), (9, .long (y5 - y5 / y7 * y7)), (0, .ref (ad 0)), (1, .long a1), (3, .long a3)]) hx hb dX11_fraction_26 hl (by decide) rfl (fun ls hl => ?_)
    refine lv_goto (tgt := 6) hx hb dX11_fraction_28 (by decide) ?_
    exact hY 6 [] [y7, y5 - y5 / y7 * y7] s0 hv _ _ rfl H locs ls hP hS (lv_sub hl [3, 4, 5, 1, 0] rfl)
set_option maxHeartbeats 4000000 in
theorem y_X11_fraction {p : Program} {l : Launch} {e : Env} {s : State} {m : MethodId} {args : Array Value} {below : List Frame} {meth : Method} {c : Code} {dC : Nat → ClassId} {dI : Nat → Nat → Nat} {ad : Nat → Nat} {cA cZ : ClassId} (hi : Inj 12 ad) (a1 : Int64) (a3 : Int64)  (C0 : Cx cX11_fraction RX11 wsX11_fraction 11 none p s m args meth c) (hK : KK dC dI cA cZ s) (Q : St → Prop) : ∀ P xs ys σ, R_X11_fraction a1 a3 Q P xs ys σ → XX p l e ({ frames := 0, cells := 0, slots := 0, locals := 0 } : Room) s m args below meth c (dC, dI) 12 ad (celM ad cA cZ) 11 (ZV below args s (dC, dI) 12 ad (celM ad cA cZ) Q) (lay_X11_fraction ad a1 a3) P xs ys σ := by
  refine Fx.elim _ (fun P xs ys σ Y hY hB => ?_)
  rcases hB with ⟨rfl, y5, y7, rfl, rfl, hB⟩
  · intro lv st he H locs ls hP hS hl
    cases he
    exact w_X11_fraction_6 hi a1 a3  C0 hK Q Y hY y5 y7 σ hB hP hS hl
set_option maxHeartbeats 4000000 in
theorem c_X11_fraction {l : Launch} {dC : Nat → ClassId} {dI : Nat → Nat → Nat} {ad : Nat → Nat} {cA cZ : ClassId} (hi : Inj 12 ad) (a1 : Int64) (a3 : Int64)  (s0 : St) (Q : St → Prop) (hv : V_X11_fraction a1 a3 s0 Q) (sz : Nat) : Met l yX11_fraction wsX11_fraction ({ frames := 0, cells := 0, slots := 0, locals := 0 } : Room) (va_Pc [.ref (ad 0), .long a1, .long a3] (PW dC dI ad cA cZ 12 (celM ad cA cZ) sz s0)) (va_Qv Q (fun u t => va_P (dC, dI) vwCl (wd 12 ad (celM ad cA cZ) u) t.heap) (AA 12 ad sz)) 0 0 (AA 12 ad sz) := by
  refine Met.ofW (cc := cX11_fraction) (maxL := 11) (ret := none) (by decide) rfl ?_
  intro p e s m args below meth c s₁ B hml hv0
  obtain ⟨rfl, hsz, hP, hK⟩ := hv0
  subst hsz
  have C0 : Cx cX11_fraction RX11 wsX11_fraction 11 none p s m ([.ref (ad 0), .long a1, .long a3] : List Value).toArray meth c := ⟨B.exec, B.bytes, hml, findClass_of_methodNamed B.named, atoms_spec (ws := wsX11_fraction) B.pre, B.returns, B.notSynchronized⟩
  have hl := lv_entry ([.ref (ad 0), .long a1, .long a3]) (n := 11) (Nat.le_of_ble_eq_true rfl)
  rw [lg_entry_eq]
  generalize (lg_sl ([.ref (ad 0), .long a1, .long a3]) ++ List.replicate (11 - (lg_sl ([.ref (ad 0), .long a1, .long a3])).length) Slot.unset).toArray = ls at hl ⊢
  have hl : lv_has ls 11 [(0, .ref (ad 0)), (1, .long a1), (3, .long a3)] := hl
  exact w_X11_fraction_e hi a1 a3  C0 hK Q (R_X11_fraction a1 a3 Q) (y_X11_fraction hi a1 a3  C0 hK Q)  s0 hv hP va_S.rf hl
def lay_X11_rain (ad : Nat → Nat) (a1 : Int32) : Nat → List Int32 → List Int64 → Option (List (Nat × Value) × List Value) := fun P xs ys => match P, xs, ys with
  | 24, [x4], [y2] => some ([(0, .ref (ad 0)), (1, .int a1), (2, .long y2), (4, .int x4)], [])
  | _, _, _ => none
set_option maxHeartbeats 4000000 in
set_option maxRecDepth 100000 in
theorem w_X11_rain_e {p : Program} {l : Launch} {e : Env} {s : State} {m : MethodId} {args : Array Value} {below : List Frame} {meth : Method} {c : Code} {dC : Nat → ClassId} {dI : Nat → Nat → Nat} {ad : Nat → Nat} {cA cZ : ClassId} (hi : Inj 12 ad) (a1 : Int32)  (C0 : Cx cX11_rain RX11 wsX11_rain 5 (some .int) p s m args meth c) (hK : KK dC dI cA cZ s) (Q : Int32 → St → Prop) (Y : Nat → List Int32 → List Int64 → St → Prop) (hY : ∀ P xs ys σ, Y P xs ys σ → XX p l e ({ frames := 2, cells := 0, slots := 0, locals := 43 } : Room) s m args below meth c (dC, dI) 12 ad (celM ad cA cZ) 5 (ZI below args s (dC, dI) 12 ad (celM ad cA cZ) Q) (lay_X11_rain ad a1) P xs ys σ)  (s0 : St) (hv : B_X11_rain_e a1 Q Y  s0) {H : Heap} {locs : List Loc} {ls : Array Slot} (hP : va_P (dC, dI) vwCl (wd 12 ad (celM ad cA cZ) s0) H) (hS : va_S (AA 12 ad s.heap.size) s.heap H locs) (hl : lv_has ls 5 [(0, .ref (ad 0)), (1, .int a1)]) : W p l e ({ frames := 2, cells := 0, slots := 0, locals := 43 } : Room) s m args below meth c H locs 0 0 (ZI below args s (dC, dI) 12 ad (celM ad cA cZ) Q) (F0 m 0 ls []) := by
  obtain ⟨hx, hb, hml, hown, hts, hr, hlocks⟩ := C0
  have hD := wd_D (s := s) (cel := celM ad cA cZ) (σ := s0) hi
  unfold B_X11_rain_e at hv
  refine lv_iload_n hx hb dX11_rain_0 rfl (lv_at hl 1 rfl) ?_
  refine lv_i2l (v := a1.toInt64) hx hb dX11_rain_1 rfl ?_
  refine lv_lconst (v := 0) hx hb dX11_rain_2 (by decide) ?_
  refine lv_ldc2 (v := 10) hx hb hown (hts _ kX11_rain_1) dX11_rain_3 ?_
  refine r_ci (va_runS (As := [.long a1.toInt64, .long 0, .long 10]) (rest := []) ⟨hx, hb, hml, hown, hts⟩ (c_X11_in hi a1.toInt64 0 10 s0 _ hv H.size) (va_cwS 3 hts gX11_rain_X11_in rfl rfl rfl (by decide +kernel) ⟨Nat.le_of_ble_eq_true rfl, Nat.le_of_ble_eq_true rfl⟩) ⟨pre_blind, pre_of hP hK⟩ rfl rfl hl.1 rfl (lv_room (Nat.le_of_ble_eq_true rfl)) dX11_rain_6 ⟨Nat.zero_le _, Nat.zero_le _⟩) hS (fun r1 s1 H locs hv hP hS => ?_)
  obtain ⟨hz_r1, hv⟩ := hv
  have hD := wd_D (s := s) (cel := celM ad cA cZ) (σ := s1) hi
  refine lv_if_ne (tgt := 19) hx hb dX11_rain_9 (by decide) (fun c9 => ?_) (fun c9 => ?_)
  · have hv := hv.1 c9
    refine lv_lconst (v := 0) hx hb dX11_rain_19 (by decide) ?_
    refine lv_lstore_n (lv' := [(2, .long 0), (0, .ref (ad 0)), (1, .int a1)]) hx hb dX11_rain_20 rfl hl (by decide) rfl (fun ls hl => ?_)
    refine lv_iconst (v := 0) hx hb dX11_rain_21 (by decide) ?_
    refine lv_istore (lv' := [(4, .int 0), (2, .long 0), (0, .ref (ad 0)), (1, .int a1)]) hx hb dX11_rain_22 hl (by decide) rfl (fun ls hl => ?_)
    exact hY 24 [0] [0] s1 hv _ _ rfl H locs ls hP hS (lv_sub hl [2, 3, 1, 0] rfl)
  · have hv := hv.2 c9
    refine lv_aload_n hx hb dX11_rain_12 rfl (lv_at hl 0 rfl) ?_
    refine lv_bipush (v := (-2)) hx hb dX11_rain_13 (by decide) ?_
    refine r_ci (va_runV (As := [.int ((-2))]) (rest := []) ⟨hx, hb, hml, hown, hts⟩ (c_X11_bad hi ((-2)) s1 _ hv H.size) (cwV 1 hts gX11_rain_X11_bad rfl rfl rfl (by decide +kernel) ⟨Nat.le_of_ble_eq_true rfl, Nat.le_of_ble_eq_true rfl⟩) ⟨pre_blind, r_recv hK.1 hP 0 (by decide) (ceMo_0 (s1 0)) rfl, pre_of hP hK⟩ rfl rfl hl.1 rfl (lv_room (Nat.le_of_ble_eq_true rfl)) dX11_rain_15 ⟨Nat.zero_le _, Nat.zero_le _⟩) hS (fun r2 s2 H locs hv hP hS => ?_)
    have hD := wd_D (s := s) (cel := celM ad cA cZ) (σ := s2) hi
    exact r_iret hx hb hr hlocks hv hP hS dX11_rain_18
set_option maxHeartbeats 4000000 in
set_option maxRecDepth 100000 in
theorem w_X11_rain_24 {p : Program} {l : Launch} {e : Env} {s : State} {m : MethodId} {args : Array Value} {below : List Frame} {meth : Method} {c : Code} {dC : Nat → ClassId} {dI : Nat → Nat → Nat} {ad : Nat → Nat} {cA cZ : ClassId} (hi : Inj 12 ad) (a1 : Int32)  (C0 : Cx cX11_rain RX11 wsX11_rain 5 (some .int) p s m args meth c) (hK : KK dC dI cA cZ s) (Q : Int32 → St → Prop) (Y : Nat → List Int32 → List Int64 → St → Prop) (hY : ∀ P xs ys σ, Y P xs ys σ → XX p l e ({ frames := 2, cells := 0, slots := 0, locals := 43 } : Room) s m args below meth c (dC, dI) 12 ad (celM ad cA cZ) 5 (ZI below args s (dC, dI) 12 ad (celM ad cA cZ) Q) (lay_X11_rain ad a1) P xs ys σ) (x4 : Int32) (y2 : Int64) (s0 : St) (hv : B_X11_rain_24 a1 Q Y x4 y2 s0) {H : Heap} {locs : List Loc} {ls : Array Slot} (hP : va_P (dC, dI) vwCl (wd 12 ad (celM ad cA cZ) s0) H) (hS : va_S (AA 12 ad s.heap.size) s.heap H locs) (hl : lv_has ls 5 [(0, .ref (ad 0)), (1, .int a1), (2, .long y2), (4, .int x4)]) : W p l e ({ frames := 2, cells := 0, slots := 0, locals := 43 } : Room) s m args below meth c H locs 0 0 (ZI below args s (dC, dI) 12 ad (celM ad cA cZ) Q) (F0 m 24 ls []) := by
  obtain ⟨hx, hb, hml, hown, hts, hr, hlocks⟩ := C0
  have hD := wd_D (s := s) (cel := celM ad cA cZ) (σ := s0) hi
  unfold B_X11_rain_24 at hv
  refine lv_iload hx hb dX11_rain_24 (lv_at hl 3 rfl) ?_
  refine lv_aload_n hx hb dX11_rain_26 rfl (lv_at hl 0 rfl) ?_
  refine r_ci (va_runV (As := []) (rest := [.int x4]) ⟨hx, hb, hml, hown, hts⟩ (c_X11_many hi  s0 _ hv H.size) (cwV 0 hts gX11_rain_X11_many rfl rfl rfl (by decide +kernel) ⟨Nat.le_of_ble_eq_true rfl, Nat.le_of_ble_eq_true rfl⟩) ⟨pre_blind, r_recv hK.1 hP 0 (by decide) (ceMo_0 (s0 0)) rfl, pre_of hP hK⟩ rfl rfl hl.1 rfl (lv_room (Nat.le_of_ble_eq_true rfl)) dX11_rain_27 ⟨Nat.zero_le _, Nat.zero_le _⟩) hS (fun r1 s1 H locs hv hP hS => ?_)
  have hD := wd_D (s := s) (cel := celM ad cA cZ) (σ := s1) hi
  refine lv_icmp_ge (tgt := 105) hx hb dX11_rain_30 (by decide) (fun c30 => ?_) (fun c30 => ?_)
  · have hv := hv.1 c30
    refine lv_aload_n hx hb dX11_rain_105 rfl (lv_at hl 0 rfl) ?_
    refine lv_lload_n hx hb dX11_rain_106 rfl (lv_at hl 2 rfl) ?_
    refine lv_ldc2 (v := 10) hx hb hown (hts _ kX11_rain_1) dX11_rain_107 ?_
    refine r_cv (va_runV (As := [.long y2, .long 10]) (rest := []) ⟨hx, hb, hml, hown, hts⟩ (c_X11_fraction hi y2 10 s1 _ hv H.size) (cwV 2 hts gX11_rain_X11_fraction rfl rfl rfl (by decide +kernel) ⟨Nat.le_of_ble_eq_true rfl, Nat.le_of_ble_eq_true rfl⟩) ⟨pre_blind, r_recv hK.1 hP 0 (by decide) (ceMo_0 (s1 0)) rfl, pre_of hP hK⟩ rfl rfl hl.1 rfl (lv_room (Nat.le_of_ble_eq_true rfl)) dX11_rain_110 ⟨Nat.zero_le _, Nat.zero_le _⟩) hS (fun s2 H locs hv hP hS => ?_)
    have hD := wd_D (s := s) (cel := celM ad cA cZ) (σ := s2) hi
    refine lv_iconst (v := 1) hx hb dX11_rain_113 (by decide) ?_
    exact r_iret hx hb hr hlocks hv hP hS dX11_rain_114
  · have hv := hv.2 c30
    refine lv_aload_n hx hb dX11_rain_33 rfl (lv_at hl 0 rfl) ?_
    refine r_get hx hb hts (iwX11_rain_X11) hown hK.1 hP 0 (by decide) (ceMo_0 (s1 0)) rfl 0 (by decide) (hts _ kX11_rain_2) (v := .ref (ad 1)) rfl dX11_rain_34 ?_
    refine lv_iload hx hb dX11_rain_37 (lv_at hl 3 rfl) ?_
    refine r_ci (va_runS (As := [.ref (ad 1), .int x4]) (rest := []) ⟨hx, hb, hml, hown, hts⟩ (c_X11_waits hi 1 181 x4 arM_1 s1 _ hv H.size) (va_cwS 2 hts gX11_rain_X11_waits rfl rfl rfl (by decide +kernel) ⟨Nat.le_of_ble_eq_true rfl, Nat.le_of_ble_eq_true rfl⟩) ⟨pre_blind, pre_of hP hK⟩ rfl rfl hl.1 rfl (lv_room (Nat.le_of_ble_eq_true rfl)) dX11_rain_39 ⟨Nat.zero_le _, Nat.zero_le _⟩) hS (fun r3 s3 H locs hv hP hS => ?_)
    obtain ⟨hz_r3, hv⟩ := hv
    have hD := wd_D (s := s) (cel := celM ad cA cZ) (σ := s3) hi
    refine lv_if_ne (tgt := 99) hx hb dX11_rain_42 (by decide) (fun c42 => ?_) (fun c42 => ?_)
    · have hv := hv.1 c42
      refine lv_iinc (v := x4 + 1) (lv' := [(4, .int (x4 + 1)), (0, .ref (ad 0)), (1, .int a1), (2, .long y2)]) hx hb dX11_rain_99 hl (k := 3) rfl rfl (by decide) rfl (fun ls hl => ?_)
      refine lv_goto (tgt := 24) hx hb dX11_rain_102 (by decide) ?_
      exact hY 24 [x4 + 1] [y2] s3 hv _ _ rfl H locs ls hP hS (lv_sub hl [1, 2, 3, 0] rfl)
    · have hv := hv.2 c42
      refine lv_lload_n hx hb dX11_rain_45 rfl (lv_at hl 2 rfl) ?_
      refine lv_iload_n hx hb dX11_rain_46 rfl (lv_at hl 1 rfl) ?_
      refine lv_aload_n hx hb dX11_rain_47 rfl (lv_at hl 0 rfl) ?_
      refine r_get hx hb hts (iwX11_rain_X11) hown hK.1 hP 0 (by decide) (ceMo_0 (s3 0)) rfl 0 (by decide) (hts _ kX11_rain_2) (v := .ref (ad 1)) rfl dX11_rain_48 ?_
      refine lv_bipush (v := 22) hx hb dX11_rain_51 (by decide) ?_
      refine lv_iload hx hb dX11_rain_53 (lv_at hl 3 rfl) ?_
      refine lv_iadd hx hb dX11_rain_55 ?_
      obtain ⟨hin, hv⟩ := hv
      refine r_iald hx hb hK.1 hP 1 (by decide) (ceMo_1 (s3 1)) hin dX11_rain_56 ?_
      refine lv_aload_n hx hb dX11_rain_57 rfl (lv_at hl 0 rfl) ?_
      refine r_get hx hb hts (iwX11_rain_X11) hown hK.1 hP 0 (by decide) (ceMo_0 (s3 0)) rfl 0 (by decide) (hts _ kX11_rain_2) (v := .ref (ad 1)) rfl dX11_rain_58 ?_
      refine lv_bipush (v := 15) hx hb dX11_rain_61 (by decide) ?_
      refine r_iald hx hb hK.1 hP 1 (by decide) (ceMo_1 (s3 1)) (vp_in_of_dec (by decide)) dX11_rain_63 ?_
      refine lv_iconst (v := 4) hx hb dX11_rain_64 (by decide) ?_
      refine r_ci (va_runS (As := [.int (s3 1 (22 + x4).toNatClampNeg), .int (s3 1 15), .int 4]) (rest := [.int a1, .long y2]) ⟨hx, hb, hml, hown, hts⟩ (c_X11_goesAs hi (s3 1 (22 + x4).toNatClampNeg) (s3 1 15) 4 s3 _ hv H.size) (va_cwS 3 hts gX11_rain_X11_goesAs rfl rfl rfl (by decide +kernel) ⟨Nat.le_of_ble_eq_true rfl, Nat.le_of_ble_eq_true rfl⟩) ⟨pre_blind, pre_of hP hK⟩ rfl rfl hl.1 rfl (lv_room (Nat.le_of_ble_eq_true rfl)) dX11_rain_65 ⟨Nat.zero_le _, Nat.zero_le _⟩) hS (fun r4 s4 H locs hv hP hS => ?_)
      have hD := wd_D (s := s) (cel := celM ad cA cZ) (σ := s4) hi
      refine lv_imul hx hb dX11_rain_68 ?_
      refine lv_bipush (v := 10) hx hb dX11_rain_69 (by decide) ?_
      refine lv_iload_n hx hb dX11_rain_71 rfl (lv_at hl 1 rfl) ?_
      refine lv_isub hx hb dX11_rain_72 ?_
      refine lv_aload_n hx hb dX11_rain_73 rfl (lv_at hl 0 rfl) ?_
      refine r_get hx hb hts (iwX11_rain_X11) hown hK.1 hP 0 (by decide) (ceMo_0 (s4 0)) rfl 0 (by decide) (hts _ kX11_rain_2) (v := .ref (ad 1)) rfl dX11_rain_74 ?_
      refine lv_bipush (v := 22) hx hb dX11_rain_77 (by decide) ?_
      refine lv_iload hx hb dX11_rain_79 (lv_at hl 3 rfl) ?_
      refine lv_iadd hx hb dX11_rain_81 ?_
      obtain ⟨hin, hv⟩ := hv
      refine r_iald hx hb hK.1 hP 1 (by decide) (ceMo_1 (s4 1)) hin dX11_rain_82 ?_
      refine lv_aload_n hx hb dX11_rain_83 rfl (lv_at hl 0 rfl) ?_
      refine r_get hx hb hts (iwX11_rain_X11) hown hK.1 hP 0 (by decide) (ceMo_0 (s4 0)) rfl 0 (by decide) (hts _ kX11_rain_2) (v := .ref (ad 1)) rfl dX11_rain_84 ?_
      refine lv_bipush (v := 15) hx hb dX11_rain_87 (by decide) ?_
      refine r_iald hx hb hK.1 hP 1 (by decide) (ceMo_1 (s4 1)) (vp_in_of_dec (by decide)) dX11_rain_89 ?_
      refine lv_iconst (v := 0) hx hb dX11_rain_90 (by decide) ?_
      refine r_ci (va_runS (As := [.int (s4 1 (22 + x4).toNatClampNeg), .int (s4 1 15), .int 0]) (rest := [.int (10 - a1), .int (a1 * r4), .long y2]) ⟨hx, hb, hml, hown, hts⟩ (c_X11_goesAs hi (s4 1 (22 + x4).toNatClampNeg) (s4 1 15) 0 s4 _ hv H.size) (va_cwS 3 hts gX11_rain_X11_goesAs rfl rfl rfl (by decide +kernel) ⟨Nat.le_of_ble_eq_true rfl, Nat.le_of_ble_eq_true rfl⟩) ⟨pre_blind, pre_of hP hK⟩ rfl rfl hl.1 rfl (lv_room (Nat.le_of_ble_eq_true rfl)) dX11_rain_91 ⟨Nat.zero_le _, Nat.zero_le _⟩) hS (fun r5 s5 H locs hv hP hS => ?_)
      have hD := wd_D (s := s) (cel := celM ad cA cZ) (σ := s5) hi
      refine lv_imul hx hb dX11_rain_94 ?_
      refine lv_iadd hx hb dX11_rain_95 ?_
      refine lv_i2l (v := ((a1 * r4) + ((10 - a1) * r5)).toInt64) hx hb dX11_rain_96 rfl ?_
      refine lv_ladd hx hb dX11_rain_97 ?_
      refine lv_topl (fun v6 ev6 => ?_)
      have hv := hv v6 ev6
      refine lv_lstore_n (lv' := [(2, .long v6), (0, .ref (ad 0)), (1, .int a1), (4, .int x4)]) hx hb dX11_rain_98 rfl hl (by decide) rfl (fun ls hl => ?_)
      refine lv_iinc (v := x4 + 1) (lv' := [(4, .int (x4 + 1)), (2, .long v6), (0, .ref (ad 0)), (1, .int a1)]) hx hb dX11_rain_99 hl (k := 3) rfl rfl (by decide) rfl (fun ls hl => ?_)
      refine lv_goto (tgt := 24) hx hb dX11_rain_102 (by decide) ?_
      exact hY 24 [x4 + 1] [v6] s5 hv _ _ rfl H locs ls hP hS (lv_sub hl [2, 3, 1, 0] rfl)
set_option maxHeartbeats 4000000 in
theorem y_X11_rain {p : Program} {l : Launch} {e : Env} {s : State} {m : MethodId} {args : Array Value} {below : List Frame} {meth : Method} {c : Code} {dC : Nat → ClassId} {dI : Nat → Nat → Nat} {ad : Nat → Nat} {cA cZ : ClassId} (hi : Inj 12 ad) (a1 : Int32)  (C0 : Cx cX11_rain RX11 wsX11_rain 5 (some .int) p s m args meth c) (hK : KK dC dI cA cZ s) (Q : Int32 → St → Prop) : ∀ P xs ys σ, R_X11_rain a1 Q P xs ys σ → XX p l e ({ frames := 2, cells := 0, slots := 0, locals := 43 } : Room) s m args below meth c (dC, dI) 12 ad (celM ad cA cZ) 5 (ZI below args s (dC, dI) 12 ad (celM ad cA cZ) Q) (lay_X11_rain ad a1) P xs ys σ := by
  refine Fx.elim _ (fun P xs ys σ Y hY hB => ?_)
  rcases hB with ⟨rfl, x4, y2, rfl, rfl, hB⟩
  · intro lv st he H locs ls hP hS hl
    cases he
    exact w_X11_rain_24 hi a1  C0 hK Q Y hY x4 y2 σ hB hP hS hl
set_option maxHeartbeats 4000000 in
theorem c_X11_rain {l : Launch} {dC : Nat → ClassId} {dI : Nat → Nat → Nat} {ad : Nat → Nat} {cA cZ : ClassId} (hi : Inj 12 ad) (a1 : Int32)  (s0 : St) (Q : Int32 → St → Prop) (hv : V_X11_rain a1 s0 Q) (sz : Nat) : Met l yX11_rain wsX11_rain ({ frames := 2, cells := 0, slots := 0, locals := 43 } : Room) (va_Pc [.ref (ad 0), .int a1] (PW dC dI ad cA cZ 12 (celM ad cA cZ) sz s0)) (va_Qi Q (fun u t => va_P (dC, dI) vwCl (wd 12 ad (celM ad cA cZ) u) t.heap) (AA 12 ad sz)) 0 0 (AA 12 ad sz) := by
  refine Met.ofW (cc := cX11_rain) (maxL := 5) (ret := (some .int)) (by decide) rfl ?_
  intro p e s m args below meth c s₁ B hml hv0
  obtain ⟨rfl, hsz, hP, hK⟩ := hv0
  subst hsz
  have C0 : Cx cX11_rain RX11 wsX11_rain 5 (some .int) p s m ([.ref (ad 0), .int a1] : List Value).toArray meth c := ⟨B.exec, B.bytes, hml, findClass_of_methodNamed B.named, atoms_spec (ws := wsX11_rain) B.pre, B.returns, B.notSynchronized⟩
  have hl := lv_entry ([.ref (ad 0), .int a1]) (n := 5) (Nat.le_of_ble_eq_true rfl)
  rw [lg_entry_eq]
  generalize (lg_sl ([.ref (ad 0), .int a1]) ++ List.replicate (5 - (lg_sl ([.ref (ad 0), .int a1])).length) Slot.unset).toArray = ls at hl ⊢
  have hl : lv_has ls 5 [(0, .ref (ad 0)), (1, .int a1)] := hl
  exact w_X11_rain_e hi a1  C0 hK Q (R_X11_rain a1 Q) (y_X11_rain hi a1  C0 hK Q)  s0 hv hP va_S.rf hl
