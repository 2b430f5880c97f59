def lay_X1_spikesGone (ad : Nat → Nat) (a0 : Int32) (a1 : Int32) (a2 : Int32) : Nat → List Int32 → List Int64 → Option (List (Nat × Value) × List Value) := fun P xs ys => match P, xs, ys with
  | 13, [x3, t0], [] => some ([(0, .int a0), (1, .int a1), (2, .int a2), (3, .int x3)], [.int t0])
  | 30, [x3, x4, t0], [] => some ([(0, .int a0), (1, .int a1), (2, .int a2), (3, .int x3), (4, .int x4)], [.int t0])
  | _, _, _ => none
set_option maxHeartbeats 4000000 in
set_option maxRecDepth 100000 in
theorem w_X1_spikesGone_e {p : Program} {l : Launch} {e : Env} {s : State} {m : MethodId} {args : Array Value} {below : List Frame} {meth : Method} {c : Code} {dC : Nat → ClassId} {dI : Nat → Nat → Nat} {ad : Nat → Nat} {cA cZ : ClassId} (hi : Inj 81 ad) (a0 : Int32) (a1 : Int32) (a2 : Int32)  (C0 : Cx cX1_spikesGone RX1 wsX1_spikesGone 6 (some .int) p s m args meth c) (hK : KK dC dI cA cZ s) (Q : Int32 → St → Prop) (Y : Nat → List Int32 → List Int64 → St → Prop) (hY : ∀ P xs ys σ, Y P xs ys σ → XX p l e ({ frames := 0, cells := 0, slots := 0, locals := 0 } : Room) s m args below meth c (dC, dI) 81 ad (celC ad cA) 6 (ZI below args s (dC, dI) 81 ad (celC ad cA) Q) (lay_X1_spikesGone ad a0 a1 a2) P xs ys σ)  (s0 : St) (hv : B_X1_spikesGone_e a0 a1 a2 Q Y  s0) {H : Heap} {locs : List Loc} {ls : Array Slot} (hP : va_P (dC, dI) vwCl (wd 81 ad (celC ad cA) s0) H) (hS : va_S (AA 81 ad s.heap.size) s.heap H locs) (hl : lv_has ls 6 [(0, .int a0), (1, .int a1), (2, .int a2)]) : W p l e ({ frames := 0, cells := 0, slots := 0, locals := 0 } : Room) s m args below meth c H locs 0 0 (ZI below args s (dC, dI) 81 ad (celC ad cA) Q) (F0 m 0 ls []) := by
  obtain ⟨hx, hb, hml, hown, hts, hr, hlocks⟩ := C0
  have hD := wd_D (s := s) (cel := celC ad cA) (σ := s0) hi
  unfold B_X1_spikesGone_e at hv
  refine lv_iconst (v := 1) hx hb dX1_spikesGone_0 (by decide) ?_
  refine lv_istore_n (lv' := [(3, .int 1), (0, .int a0), (1, .int a1), (2, .int a2)]) hx hb dX1_spikesGone_1 rfl hl (by decide) rfl (fun ls hl => ?_)
  refine lv_iload_n hx hb dX1_spikesGone_2 rfl (lv_at hl 3 rfl) ?_
  refine lv_if_ne (tgt := 12) hx hb dX1_spikesGone_3 (by decide) (fun c3 => ?_) (fun c3 => ?_)
  · have hv := hv.1 c3
    refine lv_iload_n hx hb dX1_spikesGone_12 rfl (lv_at hl 0 rfl) ?_
    exact hY 13 [1, 1] [] s0 hv _ _ rfl H locs ls hP hS (lv_sub hl [1, 2, 3, 0] rfl)
  · have hv := hv.2 c3
    refine lv_iload_n hx hb dX1_spikesGone_6 rfl (lv_at hl 0 rfl) ?_
    refine lv_iconst (v := 1) hx hb dX1_spikesGone_7 (by decide) ?_
    refine lv_iadd hx hb dX1_spikesGone_8 ?_
    refine lv_goto (tgt := 13) hx hb dX1_spikesGone_9 (by decide) ?_
    exact hY 13 [1, 1 + 1] [] s0 hv _ _ rfl H locs ls hP hS (lv_sub hl [1, 2, 3, 0] rfl)
set_option maxHeartbeats 4000000 in
set_option maxRecDepth 100000 in
theorem w_X1_spikesGone_13 {p : Program} {l : Launch} {e : Env} {s : State} {m : MethodId} {args : Array Value} {below : List Frame} {meth : Method} {c : Code} {dC : Nat → ClassId} {dI : Nat → Nat → Nat} {ad : Nat → Nat} {cA cZ : ClassId} (hi : Inj 81 ad) (a0 : Int32) (a1 : Int32) (a2 : Int32)  (C0 : Cx cX1_spikesGone RX1 wsX1_spikesGone 6 (some .int) p s m args meth c) (hK : KK dC dI cA cZ s) (Q : Int32 → St → Prop) (Y : Nat → List Int32 → List Int64 → St → Prop) (hY : ∀ P xs ys σ, Y P xs ys σ → XX p l e ({ frames := 0, cells := 0, slots := 0, locals := 0 } : Room) s m args below meth c (dC, dI) 81 ad (celC ad cA) 6 (ZI below args s (dC, dI) 81 ad (celC ad cA) Q) (lay_X1_spikesGone ad a0 a1 a2) P xs ys σ) (x3 : Int32) (t0 : Int32) (s0 : St) (hv : B_X1_spikesGone_13 a0 a1 a2 Q Y x3 t0 s0) {H : Heap} {locs : List Loc} {ls : Array Slot} (hP : va_P (dC, dI) vwCl (wd 81 ad (celC ad cA) s0) H) (hS : va_S (AA 81 ad s.heap.size) s.heap H locs) (hl : lv_has ls 6 [(0, .int a0), (1, .int a1), (2, .int a2), (3, .int x3)]) : W p l e ({ frames := 0, cells := 0, slots := 0, locals := 0 } : Room) s m args below meth c H locs 0 0 (ZI below args s (dC, dI) 81 ad (celC ad cA) Q) (F0 m 13 ls [.int t0]) := by
  obtain ⟨hx, hb, hml, hown, hts, hr, hlocks⟩ := C0
  have hD := wd_D (s := s) (cel := celC ad cA) (σ := s0) hi
  unfold B_X1_spikesGone_13 at hv
  refine lv_istore (lv' := [(4, .int t0), (0, .int a0), (1, .int a1), (2, .int a2), (3, .int x3)]) hx hb dX1_spikesGone_13 hl (by decide) rfl (fun ls hl => ?_)
  refine lv_iload_n hx hb dX1_spikesGone_15 rfl (lv_at hl 2 rfl) ?_
  refine lv_iconst (v := 2) hx hb dX1_spikesGone_16 (by decide) ?_
  refine lv_irem hx hb dX1_spikesGone_17 (by decide) ?_
  refine lv_if_ne (tgt := 28) hx hb dX1_spikesGone_18 (by decide) (fun c18 => ?_) (fun c18 => ?_)
  · have hv := hv.1 c18
    refine lv_iload hx hb dX1_spikesGone_28 (lv_at hl 0 rfl) ?_
    exact hY 30 [x3, t0, t0] [] s0 hv _ _ rfl H locs ls hP hS (lv_sub hl [1, 2, 3, 4, 0] rfl)
  · have hv := hv.2 c18
    refine lv_iconst (v := 2) hx hb dX1_spikesGone_21 (by decide) ?_
    refine lv_iload hx hb dX1_spikesGone_22 (lv_at hl 0 rfl) ?_
    refine lv_imul hx hb dX1_spikesGone_24 ?_
    refine lv_goto (tgt := 30) hx hb dX1_spikesGone_25 (by decide) ?_
    exact hY 30 [x3, t0, 2 * t0] [] s0 hv _ _ rfl H locs ls hP hS (lv_sub hl [1, 2, 3, 4, 0] rfl)
set_option maxHeartbeats 4000000 in
set_option maxRecDepth 100000 in
theorem w_X1_spikesGone_30 {p : Program} {l : Launch} {e : Env} {s : State} {m : MethodId} {args : Array Value} {below : List Frame} {meth : Method} {c : Code} {dC : Nat → ClassId} {dI : Nat → Nat → Nat} {ad : Nat → Nat} {cA cZ : ClassId} (hi : Inj 81 ad) (a0 : Int32) (a1 : Int32) (a2 : Int32)  (C0 : Cx cX1_spikesGone RX1 wsX1_spikesGone 6 (some .int) p s m args meth c) (hK : KK dC dI cA cZ s) (Q : Int32 → St → Prop) (Y : Nat → List Int32 → List Int64 → St → Prop) (hY : ∀ P xs ys σ, Y P xs ys σ → XX p l e ({ frames := 0, cells := 0, slots := 0, locals := 0 } : Room) s m args below meth c (dC, dI) 81 ad (celC ad cA) 6 (ZI below args s (dC, dI) 81 ad (celC ad cA) Q) (lay_X1_spikesGone ad a0 a1 a2) P xs ys σ) (x3 : Int32) (x4 : Int32) (t0 : Int32) (s0 : St) (hv : B_X1_spikesGone_30 a0 a1 a2 Q Y x3 x4 t0 s0) {H : Heap} {locs : List Loc} {ls : Array Slot} (hP : va_P (dC, dI) vwCl (wd 81 ad (celC ad cA) s0) H) (hS : va_S (AA 81 ad s.heap.size) s.heap H locs) (hl : lv_has ls 6 [(0, .int a0), (1, .int a1), (2, .int a2), (3, .int x3), (4, .int x4)]) : W p l e ({ frames := 0, cells := 0, slots := 0, locals := 0 } : Room) s m args below meth c H locs 0 0 (ZI below args s (dC, dI) 81 ad (celC ad cA) Q) (F0 m 30 ls [.int t0]) := by
  obtain ⟨hx, hb, hml, hown, hts, hr, hlocks⟩ := C0
  have hD := wd_D (s := s) (cel := celC ad cA) (σ := s0) hi
  unfold B_X1_spikesGone_30 at hv
  refine lv_istore (lv' := [(5, .int t0), (0, .int a0), (1, .int a1), (2, .int a2), (3, .int x3), (4, .int x4)]) hx hb dX1_spikesGone_30 hl (by decide) rfl (fun ls hl => ?_)
  refine lv_iload_n hx hb dX1_spikesGone_32 rfl (lv_at hl 1 rfl) ?_
  by_cases c33_1 : a0 = 1
  · have hv := hv.1 c33_1
    refine lv_tableIn (off := 35) (tgt := 68) hx hb dX1_spikesGone_33 (by rw [c33_1]; decide) (by rw [c33_1]; decide) (by rw [c33_1]; rfl) (by decide) ?_
    refine lv_iload hx hb dX1_spikesGone_68 (lv_at hl 5 rfl) ?_
    exact r_iret hx hb hr hlocks hv hP hS dX1_spikesGone_70
  have hv := hv.2 c33_1
  by_cases c33_2 : a0 = 2
  · have hv := hv.1 c33_2
    refine lv_tableIn (off := 38) (tgt := 71) hx hb dX1_spikesGone_33 (by rw [c33_2]; decide) (by rw [c33_2]; decide) (by rw [c33_2]; rfl) (by decide) ?_
    refine lv_iload_n hx hb dX1_spikesGone_71 rfl (lv_at hl 3 rfl) ?_
    refine lv_iconst (v := 3) hx hb dX1_spikesGone_72 (by decide) ?_
    refine lv_icmp_lt (tgt := 80) hx hb dX1_spikesGone_73 (by decide) (fun c73 => ?_) (fun c73 => ?_)
    · have hv := hv.1 c73
      refine lv_iload_n hx hb dX1_spikesGone_80 rfl (lv_at hl 4 rfl) ?_
      exact r_iret hx hb hr hlocks hv hP hS dX1_spikesGone_81
    · have hv := hv.2 c73
      refine lv_iconst (v := 0) hx hb dX1_spikesGone_76 (by decide) ?_
      refine lv_goto (tgt := 81) hx hb dX1_spikesGone_77 (by decide) ?_
      exact r_iret hx hb hr hlocks hv hP hS dX1_spikesGone_81
  have hv := hv.2 c33_2
  by_cases c33_3 : a0 = 3
  · have hv := hv.1 c33_3
    refine lv_tableIn (off := 49) (tgt := 82) hx hb dX1_spikesGone_33 (by rw [c33_3]; decide) (by rw [c33_3]; decide) (by rw [c33_3]; rfl) (by decide) ?_
    refine lv_iload hx hb dX1_spikesGone_82 (lv_at hl 0 rfl) ?_
    exact r_iret hx hb hr hlocks hv hP hS dX1_spikesGone_84
  have hv := hv.2 c33_3
  by_cases c33_4 : a0 = 4
  · have hv := hv.1 c33_4
    refine lv_tableIn (off := 52) (tgt := 85) hx hb dX1_spikesGone_33 (by rw [c33_4]; decide) (by rw [c33_4]; decide) (by rw [c33_4]; rfl) (by decide) ?_
    refine lv_iload_n hx hb dX1_spikesGone_85 rfl (lv_at hl 2 rfl) ?_
    refine lv_iconst (v := 5) hx hb dX1_spikesGone_86 (by decide) ?_
    refine lv_irem hx hb dX1_spikesGone_87 (by decide) ?_
    refine lv_if_ne (tgt := 97) hx hb dX1_spikesGone_88 (by decide) (fun c88 => ?_) (fun c88 => ?_)
    · have hv := hv.1 c88
      refine lv_iload_n hx hb dX1_spikesGone_97 rfl (lv_at hl 4 rfl) ?_
      exact r_iret hx hb hr hlocks hv hP hS dX1_spikesGone_98
    · have hv := hv.2 c88
      refine lv_iload_n hx hb dX1_spikesGone_91 rfl (lv_at hl 4 rfl) ?_
      refine lv_iconst (v := 3) hx hb dX1_spikesGone_92 (by decide) ?_
      refine lv_iadd hx hb dX1_spikesGone_93 ?_
      refine lv_goto (tgt := 98) hx hb dX1_spikesGone_94 (by decide) ?_
      exact r_iret hx hb hr hlocks hv hP hS dX1_spikesGone_98
  have hv := hv.2 c33_4
  by_cases c33_5 : a0 = 5
  · have hv := hv.1 c33_5
    refine lv_tableIn (off := 66) (tgt := 99) hx hb dX1_spikesGone_33 (by rw [c33_5]; decide) (by rw [c33_5]; decide) (by rw [c33_5]; rfl) (by decide) ?_
    refine lv_iload hx hb dX1_spikesGone_99 (lv_at hl 0 rfl) ?_
    refine lv_iload_n hx hb dX1_spikesGone_101 rfl (lv_at hl 3 rfl) ?_
    refine lv_icmp_le (tgt := 112) hx hb dX1_spikesGone_102 (by decide) (fun c102 => ?_) (fun c102 => ?_)
    · have hv := hv.1 c102
      refine lv_iconst (v := 0) hx hb dX1_spikesGone_112 (by decide) ?_
      exact r_iret hx hb hr hlocks hv hP hS dX1_spikesGone_113
    · have hv := hv.2 c102
      refine lv_iload hx hb dX1_spikesGone_105 (lv_at hl 0 rfl) ?_
      refine lv_iload_n hx hb dX1_spikesGone_107 rfl (lv_at hl 3 rfl) ?_
      refine lv_isub hx hb dX1_spikesGone_108 ?_
      refine lv_goto (tgt := 113) hx hb dX1_spikesGone_109 (by decide) ?_
      exact r_iret hx hb hr hlocks hv hP hS dX1_spikesGone_113
  have hv := hv.2 c33_5
  refine lv_tableOut (tgt := 114) hx hb dX1_spikesGone_33 (by have w1 := lv_neT (a := 1) c33_1 (by decide); have w2 := lv_neT (a := 2) c33_2 (by decide); have w3 := lv_neT (a := 3) c33_3 (by decide); have w4 := lv_neT (a := 4) c33_4 (by decide); have w5 := lv_neT (a := 5) c33_5 (by decide); omega) (by decide) ?_
  refine lv_iload_n hx hb dX1_spikesGone_114 rfl (lv_at hl 4 rfl) ?_
  exact r_iret hx hb hr hlocks hv hP hS dX1_spikesGone_115
set_option maxHeartbeats 4000000 in
theorem y_X1_spikesGone {p : Program} {l : Launch} {e : Env} {s : State} {m : MethodId} {args : Array Value} {below : List Frame} {meth : Method} {c : Code} {dC : Nat → ClassId} {dI : Nat → Nat → Nat} {ad : Nat → Nat} {cA cZ : ClassId} (hi : Inj 81 ad) (a0 : Int32) (a1 : Int32) (a2 : Int32)  (C0 : Cx cX1_spikesGone RX1 wsX1_spikesGone 6 (some .int) p s m args meth c) (hK : KK dC dI cA cZ s) (Q : Int32 → St → Prop) : ∀ P xs ys σ, R_X1_spikesGone a0 a1 a2 Q P xs ys σ → XX p l e ({ frames := 0, cells := 0, slots := 0, locals := 0 } : Room) s m args below meth c (dC, dI) 81 ad (celC ad cA) 6 (ZI below args s (dC, dI) 81 ad (celC ad cA) Q) (lay_X1_spikesGone ad a0 a1 a2) P xs ys σ := by
  refine Fx.elim _ (fun P xs ys σ Y hY hB => ?_)
  rcases hB with ⟨rfl, x3, t0, rfl, rfl, hB⟩ | ⟨rfl, x3, x4, t0, rfl, rfl, hB⟩
  · intro lv st he H locs ls hP hS hl
    cases he
    exact w_X1_spikesGone_13 hi a0 a1 a2  C0 hK Q Y hY x3 t0 σ hB hP hS hl
  · intro lv st he H locs ls hP hS hl
    cases he
    exact w_X1_spikesGone_30 hi a0 a1 a2  C0 hK Q Y hY x3 x4 t0 σ hB hP hS hl
set_option maxHeartbeats 4000000 in
theorem c_X1_spikesGone {l : Launch} {dC : Nat → ClassId} {dI : Nat → Nat → Nat} {ad : Nat → Nat} {cA cZ : ClassId} (hi : Inj 81 ad) (a0 : Int32) (a1 : Int32) (a2 : Int32)  (s0 : St) (Q : Int32 → St → Prop) (hv : V_X1_spikesGone a0 a1 a2 s0 Q) (sz : Nat) : Met l yX1_spikesGone wsX1_spikesGone ({ frames := 0, cells := 0, slots := 0, locals := 0 } : Room) (va_Pc [.int a0, .int a1, .int a2] (PW dC dI ad cA cZ 81 (celC ad cA) sz s0)) (va_Qi Q (fun u t => va_P (dC, dI) vwCl (wd 81 ad (celC ad cA) u) t.heap) (AA 81 ad sz)) 0 0 (AA 81 ad sz) := by
  refine Met.ofW (cc := cX1_spikesGone) (maxL := 6) (ret := (some .int)) (by decide) rfl ?_
  intro p e s m args below meth c s₁ B hml hv0
  obtain ⟨rfl, hsz, hP, hK⟩ := hv0
  subst hsz
  have C0 : Cx cX1_spikesGone RX1 wsX1_spikesGone 6 (some .int) p s m ([.int a0, .int a1, .int a2] : List Value).toArray meth c := ⟨B.exec, B.bytes, hml, findClass_of_methodNamed B.named, atoms_spec (ws := wsX1_spikesGone) B.pre, B.returns, B.notSynchronized⟩
  have hl := lv_entry ([.int a0, .int a1, .int a2]) (n := 6) (Nat.le_of_ble_eq_true rfl)
  rw [lg_entry_eq]
  generalize (lg_sl ([.int a0, .int a1, .int a2]) ++ List.replicate (6 - (lg_sl ([.int a0, .int a1, .int a2])).length) Slot.unset).toArray = ls at hl ⊢
  have hl : lv_has ls 6 [(0, .int a0), (1, .int a1), (2, .int a2)] := hl
  exact w_X1_spikesGone_e hi a0 a1 a2  C0 hK Q (R_X1_spikesGone a0 a1 a2 Q) (y_X1_spikesGone hi a0 a1 a2  C0 hK Q)  s0 hv hP va_S.rf hl
def lay_X8_goesNow (ad : Nat → Nat) (h0 : Nat) (a1 : Int32) : Nat → List Int32 → List Int64 → Option (List (Nat × Value) × List Value) := fun P xs ys => match P, xs, ys with
  | _, _, _ => none
set_option maxHeartbeats 4000000 in
set_option maxRecDepth 100000 in
theorem w_X8_goesNow_e {p : Program} {l : Launch} {e : Env} {s : State} {m : MethodId} {args : Array Value} {below : List Frame} {meth : Method} {c : Code} {dC : Nat → ClassId} {dI : Nat → Nat → Nat} {ad : Nat → Nat} {cA cZ : ClassId} (hi : Inj 81 ad) (h0 : Nat) (a1 : Int32) (hh0 : isSt h0) (C0 : Cx cX8_goesNow RX8 wsX8_goesNow 2 (some .int) p s m args meth c) (hK : KK dC dI cA cZ s) (Q : Int32 → St → Prop) (Y : Nat → List Int32 → List Int64 → St → Prop) (hY : ∀ P xs ys σ, Y P xs ys σ → XX p l e ({ frames := 1, cells := 0, slots := 0, locals := 25 } : Room) s m args below meth c (dC, dI) 81 ad (celC ad cA) 2 (ZI below args s (dC, dI) 81 ad (celC ad cA) Q) (lay_X8_goesNow ad h0 a1) P xs ys σ)  (s0 : St) (hv : B_X8_goesNow_e h0 a1 Q Y  s0) {H : Heap} {locs : List Loc} {ls : Array Slot} (hP : va_P (dC, dI) vwCl (wd 81 ad (celC ad cA) s0) H) (hS : va_S (AA 81 ad s.heap.size) s.heap H locs) (hl : lv_has ls 2 [(0, .ref (ad h0)), (1, .int a1)]) : W p l e ({ frames := 1, cells := 0, slots := 0, locals := 25 } : Room) s m args below meth c H locs 0 0 (ZI below args s (dC, dI) 81 ad (celC ad cA) Q) (F0 m 0 ls []) := by
  obtain ⟨hx, hb, hml, hown, hts, hr, hlocks⟩ := C0
  have hD := wd_D (s := s) (cel := celC ad cA) (σ := s0) hi
  unfold B_X8_goesNow_e at hv
  refine lv_aload_n hx hb dX8_goesNow_0 rfl (lv_at hl 0 rfl) ?_
  refine r_get hx hb hts (iwX8_goesNow_X8) hown hK.1 hP h0 (ltSt_0 hh0) (ceSt_0 hh0 (s0 h0)) rfl 1 (by decide) (hts _ kX8_goesNow_1) (v := .ref (ad (h0 + 2))) rfl dX8_goesNow_1 ?_
  refine lv_iload_n hx hb dX8_goesNow_4 rfl (lv_at hl 1 rfl) ?_
  obtain ⟨hin, hv⟩ := hv
  refine r_iald hx hb hK.1 hP (h0 + 2) (ltSt_2 hh0) (ceSt_2 hh0 (s0 (h0 + 2))) hin dX8_goesNow_5 ?_
  refine lv_aload_n hx hb dX8_goesNow_6 rfl (lv_at hl 0 rfl) ?_
  refine r_get hx hb hts (iwX8_goesNow_X8) hown hK.1 hP h0 (ltSt_0 hh0) (ceSt_0 hh0 (s0 h0)) rfl 11 (by decide) (hts _ kX8_goesNow_2) (v := .int (s0 h0 11)) rfl dX8_goesNow_7 ?_
  refine lv_aload_n hx hb dX8_goesNow_10 rfl (lv_at hl 0 rfl) ?_
  refine r_get hx hb hts (iwX8_goesNow_X8) hown hK.1 hP h0 (ltSt_0 hh0) (ceSt_0 hh0 (s0 h0)) rfl 0 (by decide) (hts _ kX8_goesNow_3) (v := .ref (ad (h0 + 1))) rfl dX8_goesNow_11 ?_
  refine lv_aload_n hx hb dX8_goesNow_14 rfl (lv_at hl 0 rfl) ?_
  refine r_get hx hb hts (iwX8_goesNow_X8) hown hK.1 hP h0 (ltSt_0 hh0) (ceSt_0 hh0 (s0 h0)) rfl 11 (by decide) (hts _ kX8_goesNow_2) (v := .int (s0 h0 11)) rfl dX8_goesNow_15 ?_
  refine lv_bipush (v := 6) hx hb dX8_goesNow_18 (by decide) ?_
  refine lv_irem hx hb dX8_goesNow_20 (by decide) ?_
  obtain ⟨hin, hv⟩ := hv
  refine r_iald hx hb hK.1 hP (h0 + 1) (ltSt_1 hh0) (ceSt_1 hh0 (s0 (h0 + 1))) hin dX8_goesNow_21 ?_
  refine r_ci (va_runS (As := [.int (s0 (h0 + 2) a1.toNatClampNeg), .int (s0 h0 11), .int (s0 (h0 + 1) ((s0 h0 11) - (s0 h0 11) / 6 * 6).toNatClampNeg)]) (rest := []) ⟨hx, hb, hml, hown, hts⟩ (c_X1_spikesGone hi (s0 (h0 + 2) a1.toNatClampNeg) (s0 h0 11) (s0 (h0 + 1) ((s0 h0 11) - (s0 h0 11) / 6 * 6).toNatClampNeg) s0 _ hv H.size) (va_cwS 3 hts gX8_goesNow_X1_spikesGone rfl rfl rfl (by decide +kernel) ⟨Nat.le_of_ble_eq_true rfl, Nat.le_of_ble_eq_true rfl⟩) ⟨pre_blind, pre_of hP hK⟩ rfl rfl hl.1 rfl (lv_room (Nat.le_of_ble_eq_true rfl)) dX8_goesNow_22 ⟨Nat.zero_le _, Nat.zero_le _⟩) hS (fun r1 s1 H locs hv hP hS => ?_)
  have hD := wd_D (s := s) (cel := celC ad cA) (σ := s1) hi
  exact r_iret hx hb hr hlocks hv hP hS dX8_goesNow_25
set_option maxHeartbeats 4000000 in
theorem y_X8_goesNow {p : Program} {l : Launch} {e : Env} {s : State} {m : MethodId} {args : Array Value} {below : List Frame} {meth : Method} {c : Code} {dC : Nat → ClassId} {dI : Nat → Nat → Nat} {ad : Nat → Nat} {cA cZ : ClassId} (hi : Inj 81 ad) (h0 : Nat) (a1 : Int32) (hh0 : isSt h0) (C0 : Cx cX8_goesNow RX8 wsX8_goesNow 2 (some .int) p s m args meth c) (hK : KK dC dI cA cZ s) (Q : Int32 → St → Prop) : ∀ P xs ys σ, R_X8_goesNow h0 a1 Q P xs ys σ → XX p l e ({ frames := 1, cells := 0, slots := 0, locals := 25 } : Room) s m args below meth c (dC, dI) 81 ad (celC ad cA) 2 (ZI below args s (dC, dI) 81 ad (celC ad cA) Q) (lay_X8_goesNow ad h0 a1) P xs ys σ := by
  refine Fx.elim _ (fun P xs ys σ Y hY hB => ?_)
  exact hB.elim
set_option maxHeartbeats 4000000 in
theorem c_X8_goesNow {l : Launch} {dC : Nat → ClassId} {dI : Nat → Nat → Nat} {ad : Nat → Nat} {cA cZ : ClassId} (hi : Inj 81 ad) (h0 : Nat) (a1 : Int32) (hh0 : isSt h0) (s0 : St) (Q : Int32 → St → Prop) (hv : V_X8_goesNow h0 a1 s0 Q) (sz : Nat) : Met l yX8_goesNow wsX8_goesNow ({ frames := 1, cells := 0, slots := 0, locals := 25 } : Room) (va_Pc [.ref (ad h0), .int a1] (PW dC dI ad cA cZ 81 (celC ad cA) sz s0)) (va_Qi Q (fun u t => va_P (dC, dI) vwCl (wd 81 ad (celC ad cA) u) t.heap) (AA 81 ad sz)) 0 0 (AA 81 ad sz) := by
  refine Met.ofW (cc := cX8_goesNow) (maxL := 2) (ret := (some .int)) (by decide) rfl ?_
  intro p e s m args below meth c s₁ B hml hv0
  obtain ⟨rfl, hsz, hP, hK⟩ := hv0
  subst hsz
  have C0 : Cx cX8_goesNow RX8 wsX8_goesNow 2 (some .int) p s m ([.ref (ad h0), .int a1] : List Value).toArray meth c := ⟨B.exec, B.bytes, hml, findClass_of_methodNamed B.named, atoms_spec (ws := wsX8_goesNow) B.pre, B.returns, B.notSynchronized⟩
  have hl := lv_entry ([.ref (ad h0), .int a1]) (n := 2) (Nat.le_of_ble_eq_true rfl)
  rw [lg_entry_eq]
  generalize (lg_sl ([.ref (ad h0), .int a1]) ++ List.replicate (2 - (lg_sl ([.ref (ad h0), .int a1])).length) Slot.unset).toArray = ls at hl ⊢
  have hl : lv_has ls 2 [(0, .ref (ad h0)), (1, .int a1)] := hl
  exact w_X8_goesNow_e hi h0 a1 hh0 C0 hK Q (R_X8_goesNow h0 a1 Q) (y_X8_goesNow hi h0 a1 hh0 C0 hK Q)  s0 hv hP va_S.rf hl
def lay_X8_waits (ad : Nat → Nat) (h0 : Nat) (a1 : Int32) : Nat → List Int32 → List Int64 → Option (List (Nat × Value) × List Value) := fun P xs ys => match P, xs, ys with
  | _, _, _ => none
set_option maxHeartbeats 4000000 in
set_option maxRecDepth 100000 in
theorem w_X8_waits_e {p : Program} {l : Launch} {e : Env} {s : State} {m : MethodId} {args : Array Value} {below : List Frame} {meth : Method} {c : Code} {dC : Nat → ClassId} {dI : Nat → Nat → Nat} {ad : Nat → Nat} {cA cZ : ClassId} (hi : Inj 81 ad) (h0 : Nat) (a1 : Int32) (hh0 : isSt h0) (C0 : Cx cX8_waits RX8 wsX8_waits 2 (some .boolean) p s m args meth c) (hK : KK dC dI cA cZ s) (Q : Int32 → St → Prop) (Y : Nat → List Int32 → List Int64 → St → Prop) (hY : ∀ P xs ys σ, Y P xs ys σ → XX p l e ({ frames := 0, cells := 0, slots := 0, locals := 0 } : Room) s m args below meth c (dC, dI) 81 ad (celC ad cA) 2 (ZZ below args s (dC, dI) 81 ad (celC ad cA) Q) (lay_X8_waits ad h0 a1) P xs ys σ)  (s0 : St) (hv : B_X8_waits_e h0 a1 Q Y  s0) {H : Heap} {locs : List Loc} {ls : Array Slot} (hP : va_P (dC, dI) vwCl (wd 81 ad (celC ad cA) s0) H) (hS : va_S (AA 81 ad s.heap.size) s.heap H locs) (hl : lv_has ls 2 [(0, .ref (ad h0)), (1, .int a1)]) : W p l e ({ frames := 0, cells := 0, slots := 0, locals := 0 } : Room) s m args below meth c H locs 0 0 (ZZ below args s (dC, dI) 81 ad (celC ad cA) Q) (F0 m 0 ls []) := by
  obtain ⟨hx, hb, hml, hown, hts, hr, hlocks⟩ := C0
  have hD := wd_D (s := s) (cel := celC ad cA) (σ := s0) hi
  unfold B_X8_waits_e at hv
  refine lv_aload_n hx hb dX8_waits_0 rfl (lv_at hl 0 rfl) ?_
  refine r_get hx hb hts (iwX8_waits_X8) hown hK.1 hP h0 (ltSt_0 hh0) (ceSt_0 hh0 (s0 h0)) rfl 6 (by decide) (hts _ kX8_waits_1) (v := .ref (ad (h0 + 7))) rfl dX8_waits_1 ?_
  refine lv_aload_n hx hb dX8_waits_4 rfl (lv_at hl 0 rfl) ?_
  refine r_get hx hb hts (iwX8_waits_X8) hown hK.1 hP h0 (ltSt_0 hh0) (ceSt_0 hh0 (s0 h0)) rfl 3 (by decide) (hts _ kX8_waits_2) (v := .ref (ad (h0 + 4))) rfl dX8_waits_5 ?_
  refine lv_iload_n hx hb dX8_waits_8 rfl (lv_at hl 1 rfl) ?_
  obtain ⟨hin, hv⟩ := hv
  refine r_iald hx hb hK.1 hP (h0 + 4) (ltSt_4 hh0) (ceSt_4 hh0 (s0 (h0 + 4))) hin dX8_waits_9 ?_
  obtain ⟨hin, hv⟩ := hv
  refine r_iald hx hb hK.1 hP (h0 + 7) (ltSt_7 hh0) (ceSt_7 hh0 (s0 (h0 + 7))) hin dX8_waits_10 ?_
  refine lv_if_eq (tgt := 18) hx hb dX8_waits_11 (by decide) (fun c11 => ?_) (fun c11 => ?_)
  · have hv := hv.1 c11
    refine lv_iconst (v := 0) hx hb dX8_waits_18 (by decide) ?_
    exact r_zret hx hb hr hlocks (Or.inl rfl) hv hP hS dX8_waits_19
  · have hv := hv.2 c11
    refine lv_iconst (v := 1) hx hb dX8_waits_14 (by decide) ?_
    refine lv_goto (tgt := 19) hx hb dX8_waits_15 (by decide) ?_
    exact r_zret hx hb hr hlocks (Or.inr rfl) hv hP hS dX8_waits_19
set_option maxHeartbeats 4000000 in
theorem y_X8_waits {p : Program} {l : Launch} {e : Env} {s : State} {m : MethodId} {args : Array Value} {below : List Frame} {meth : Method} {c : Code} {dC : Nat → ClassId} {dI : Nat → Nat → Nat} {ad : Nat → Nat} {cA cZ : ClassId} (hi : Inj 81 ad) (h0 : Nat) (a1 : Int32) (hh0 : isSt h0) (C0 : Cx cX8_waits RX8 wsX8_waits 2 (some .boolean) p s m args meth c) (hK : KK dC dI cA cZ s) (Q : Int32 → St → Prop) : ∀ P xs ys σ, R_X8_waits h0 a1 Q P xs ys σ → XX p l e ({ frames := 0, cells := 0, slots := 0, locals := 0 } : Room) s m args below meth c (dC, dI) 81 ad (celC ad cA) 2 (ZZ below args s (dC, dI) 81 ad (celC ad cA) Q) (lay_X8_waits ad h0 a1) P xs ys σ := by
  refine Fx.elim _ (fun P xs ys σ Y hY hB => ?_)
  exact hB.elim
set_option maxHeartbeats 4000000 in
theorem c_X8_waits {l : Launch} {dC : Nat → ClassId} {dI : Nat → Nat → Nat} {ad : Nat → Nat} {cA cZ : ClassId} (hi : Inj 81 ad) (h0 : Nat) (a1 : Int32) (hh0 : isSt h0) (s0 : St) (Q : Int32 → St → Prop) (hv : V_X8_waits h0 a1 s0 Q) (sz : Nat) : Met l yX8_waits wsX8_waits ({ frames := 0, cells := 0, slots := 0, locals := 0 } : Room) (va_Pc [.ref (ad h0), .int a1] (PW dC dI ad cA cZ 81 (celC ad cA) sz s0)) (va_Qi (fun r u => (r = 0 ∨ r = 1) ∧ Q r u) (fun u t => va_P (dC, dI) vwCl (wd 81 ad (celC ad cA) u) t.heap) (AA 81 ad sz)) 0 0 (AA 81 ad sz) := by
  refine Met.ofW (cc := cX8_waits) (maxL := 2) (ret := (some .boolean)) (by decide) rfl ?_
  intro p e s m args below meth c s₁ B hml hv0
  obtain ⟨rfl, hsz, hP, hK⟩ := hv0
  subst hsz
  have C0 : Cx cX8_waits RX8 wsX8_waits 2 (some .boolean) p s m ([.ref (ad h0), .int a1] : List Value).toArray meth c := ⟨B.exec, B.bytes, hml, findClass_of_methodNamed B.named, atoms_spec (ws := wsX8_waits) B.pre, B.returns, B.notSynchronized⟩
  have hl := lv_entry ([.ref (ad h0), .int a1]) (n := 2) (Nat.le_of_ble_eq_true rfl)
  rw [lg_entry_eq]
  generalize (lg_sl ([.ref (ad h0), .int a1]) ++ List.replicate (2 - (lg_sl ([.ref (ad h0), .int a1])).length) Slot.unset).toArray = ls at hl ⊢
  have hl : lv_has ls 2 [(0, .ref (ad h0)), (1, .int a1)] := hl
  exact w_X8_waits_e hi h0 a1 hh0 C0 hK Q (R_X8_waits h0 a1 Q) (y_X8_waits hi h0 a1 hh0 C0 hK Q)  s0 hv hP va_S.rf hl
def lay_X8_walk (ad : Nat → Nat) (h0 : Nat) (a1 : Int32) (a2 : Int32) : Nat → List Int32 → List Int64 → Option (List (Nat × Value) × List Value) := fun P xs ys => match P, xs, ys with
  | 2, [x3], [] => some ([(0, .ref (ad h0)), (1, .int a1), (2, .int a2), (3, .int x3)], [])
  | _, _, _ => none
set_option maxHeartbeats 4000000 in
set_option maxRecDepth 100000 in
theorem w_X8_walk_e {p : Program} {l : Launch} {e : Env} {s : State} {m : MethodId} {args : Array Value} {below : List Frame} {meth : Method} {c : Code} {dC : Nat → ClassId} {dI : Nat → Nat → Nat} {ad : Nat → Nat} {cA cZ : ClassId} (hi : Inj 81 ad) (h0 : Nat) (a1 : Int32) (a2 : Int32) (hh0 : isSt h0) (C0 : Cx cX8_walk RX8 wsX8_walk 4 none p s m args meth c) (hK : KK dC dI cA cZ s) (Q : St → Prop) (Y : Nat → List Int32 → List Int64 → St → Prop) (hY : ∀ P xs ys σ, Y P xs ys σ → XX p l e ({ frames := 1, cells := 0, slots := 0, locals := 21 } : Room) s m args below meth c (dC, dI) 81 ad (celC ad cA) 4 (ZV below args s (dC, dI) 81 ad (celC ad cA) Q) (lay_X8_walk ad h0 a1 a2) P xs ys σ)  (s0 : St) (hv : B_X8_walk_e h0 a1 a2 Q Y  s0) {H : Heap} {locs : List Loc} {ls : Array Slot} (hP : va_P (dC, dI) vwCl (wd 81 ad (celC ad cA) s0) H) (hS : va_S (AA 81 ad s.heap.size) s.heap H locs) (hl : lv_has ls 4 [(0, .ref (ad h0)), (1, .int a1), (2, .int a2)]) : W p l e ({ frames := 1, cells := 0, slots := 0, locals := 21 } : Room) s m args below meth c H locs 0 0 (ZV below args s (dC, dI) 81 ad (celC ad cA) Q) (F0 m 0 ls []) := by
  obtain ⟨hx, hb, hml, hown, hts, hr, hlocks⟩ := C0
  have hD := wd_D (s := s) (cel := celC ad cA) (σ := s0) hi
  unfold B_X8_walk_e at hv
  refine lv_iconst (v := 0) hx hb dX8_walk_0 (by decide) ?_
  refine lv_istore_n (lv' := [(3, .int 0), (0, .ref (ad h0)), (1, .int a1), (2, .int a2)]) hx hb dX8_walk_1 rfl hl (by decide) rfl (fun ls hl => ?_)
  exact hY 2 [0] [] s0 hv _ _ rfl H locs ls hP hS (lv_sub hl [1, 2, 3, 0] rfl)
set_option maxHeartbeats 4000000 in
set_option maxRecDepth 100000 in
theorem w_X8_walk_2 {p : Program} {l : Launch} {e : Env} {s : State} {m : MethodId} {args : Array Value} {below : List Frame} {meth : Method} {c : Code} {dC : Nat → ClassId} {dI : Nat → Nat → Nat} {ad : Nat → Nat} {cA cZ : ClassId} (hi : Inj 81 ad) (h0 : Nat) (a1 : Int32) (a2 : Int32) (hh0 : isSt h0) (C0 : Cx cX8_walk RX8 wsX8_walk 4 none p s m args meth c) (hK : KK dC dI cA cZ s) (Q : St → Prop) (Y : Nat → List Int32 → List Int64 → St → Prop) (hY : ∀ P xs ys σ, Y P xs ys σ → XX p l e ({ frames := 1, cells := 0, slots := 0, locals := 21 } : Room) s m args below meth c (dC, dI) 81 ad (celC ad cA) 4 (ZV below args s (dC, dI) 81 ad (celC ad cA) Q) (lay_X8_walk ad h0 a1 a2) P xs ys σ) (x3 : Int32) (s0 : St) (hv : B_X8_walk_2 h0 a1 a2 Q Y x3 s0) {H : Heap} {locs : List Loc} {ls : Array Slot} (hP : va_P (dC, dI) vwCl (wd 81 ad (celC ad cA) s0) H) (hS : va_S (AA 81 ad s.heap.size) s.heap H locs) (hl : lv_has ls 4 [(0, .ref (ad h0)), (1, .int a1), (2, .int a2), (3, .int x3)]) : W p l e ({ frames := 1, cells := 0, slots := 0, locals := 21 } : Room) s m args below meth c H locs 0 0 (ZV below args s (dC, dI) 81 ad (celC ad cA) Q) (F0 m 2 ls []) := by
  obtain ⟨hx, hb, hml, hown, hts, hr, hlocks⟩ := C0
  have hD := wd_D (s := s) (cel := celC ad cA) (σ := s0) hi
  unfold B_X8_walk_2 at hv
  refine lv_iload_n hx hb dX8_walk_2 rfl (lv_at hl 3 rfl) ?_
  refine lv_iload_n hx hb dX8_walk_3 rfl (lv_at hl 2 rfl) ?_
  refine lv_icmp_ge (tgt := 42) hx hb dX8_walk_4 (by decide) (fun c4 => ?_) (fun c4 => ?_)
  · have hv := hv.1 c4
    exact r_vret hx hb hr hlocks hv hP hS dX8_walk_42
  · have hv := hv.2 c4
    refine lv_aload_n hx hb dX8_walk_7 rfl (lv_at hl 0 rfl) ?_
    refine r_get hx hb hts (iwX8_walk_X8) hown hK.1 hP h0 (ltSt_0 hh0) (ceSt_0 hh0 (s0 h0)) rfl 3 (by decide) (hts _ kX8_walk_1) (v := .ref (ad (h0 + 4))) rfl dX8_walk_8 ?_
    refine lv_iload_n hx hb dX8_walk_11 rfl (lv_at hl 1 rfl) ?_
    obtain ⟨hin, hv⟩ := hv
    refine r_iald hx hb hK.1 hP (h0 + 4) (ltSt_4 hh0) (ceSt_4 hh0 (s0 (h0 + 4))) hin dX8_walk_12 ?_
    refine lv_bipush (v := 23) hx hb dX8_walk_13 (by decide) ?_
    refine lv_icmp_ge (tgt := 42) hx hb dX8_walk_15 (by decide) (fun c15 => ?_) (fun c15 => ?_)
    · have hv := hv.1 c15
      exact r_vret hx hb hr hlocks hv hP hS dX8_walk_42
    · have hv := hv.2 c15
      refine lv_aload_n hx hb dX8_walk_18 rfl (lv_at hl 0 rfl) ?_
      refine lv_iload_n hx hb dX8_walk_19 rfl (lv_at hl 1 rfl) ?_
      refine r_ci (va_runV (As := [.int a1]) (rest := []) ⟨hx, hb, hml, hown, hts⟩ (c_X8_waits hi h0 a1 hh0 s0 _ hv H.size) (cwV 1 hts gX8_walk_X8_waits rfl rfl rfl (by decide +kernel) ⟨Nat.le_of_ble_eq_true rfl, Nat.le_of_ble_eq_true rfl⟩) ⟨pre_blind, r_recv hK.1 hP h0 (ltSt_0 hh0) (ceSt_0 hh0 (s0 h0)) rfl, pre_of hP hK⟩ rfl rfl hl.1 rfl (lv_room (Nat.le_of_ble_eq_true rfl)) dX8_walk_20 ⟨Nat.zero_le _, Nat.zero_le _⟩) hS (fun r1 s1 H locs hv hP hS => ?_)
      obtain ⟨hz_r1, hv⟩ := hv
      have hD := wd_D (s := s) (cel := celC ad cA) (σ := s1) hi
      refine lv_if_ne (tgt := 42) hx hb dX8_walk_23 (by decide) (fun c23 => ?_) (fun c23 => ?_)
      · have hv := hv.1 c23
        exact r_vret hx hb hr hlocks hv hP hS dX8_walk_42
      · have hv := hv.2 c23
        refine lv_aload_n hx hb dX8_walk_26 rfl (lv_at hl 0 rfl) ?_
        refine r_get hx hb hts (iwX8_walk_X8) hown hK.1 hP h0 (ltSt_0 hh0) (ceSt_0 hh0 (s1 h0)) rfl 3 (by decide) (hts _ kX8_walk_1) (v := .ref (ad (h0 + 4))) rfl dX8_walk_27 ?_
        refine lv_iload_n hx hb dX8_walk_30 rfl (lv_at hl 1 rfl) ?_
        refine lv_dup2_11 hx hb dX8_walk_31 rfl rfl ?_
        obtain ⟨hin, hv⟩ := hv
        refine r_iald hx hb hK.1 hP (h0 + 4) (ltSt_4 hh0) (ceSt_4 hh0 (s1 (h0 + 4))) hin dX8_walk_32 ?_
        refine lv_iconst (v := 1) hx hb dX8_walk_33 (by decide) ?_
        refine lv_iadd hx hb dX8_walk_34 ?_
        obtain ⟨hin, hv⟩ := hv
        refine r_iast hx hb hK.1 hP hD hS (h0 + 4) (ltSt_4 hh0) (ceSt_4 hh0 (s1 (h0 + 4))) (ceSt_4 hh0 _) hin dX8_walk_35 (fun H locs s2 es2 hP hD hS => ?_)
        have hv := hv s2 es2
        refine lv_iinc (v := x3 + 1) (lv' := [(3, .int (x3 + 1)), (0, .ref (ad h0)), (1, .int a1), (2, .int a2)]) hx hb dX8_walk_36 hl (k := 3) rfl rfl (by decide) rfl (fun ls hl => ?_)
        refine lv_goto (tgt := 2) hx hb dX8_walk_39 (by decide) ?_
        exact hY 2 [x3 + 1] [] s2 hv _ _ rfl H locs ls hP hS (lv_sub hl [1, 2, 3, 0] rfl)
set_option maxHeartbeats 4000000 in
theorem y_X8_walk {p : Program} {l : Launch} {e : Env} {s : State} {m : MethodId} {args : Array Value} {below : List Frame} {meth : Method} {c : Code} {dC : Nat → ClassId} {dI : Nat → Nat → Nat} {ad : Nat → Nat} {cA cZ : ClassId} (hi : Inj 81 ad) (h0 : Nat) (a1 : Int32) (a2 : Int32) (hh0 : isSt h0) (C0 : Cx cX8_walk RX8 wsX8_walk 4 none p s m args meth c) (hK : KK dC dI cA cZ s) (Q : St → Prop) : ∀ P xs ys σ, R_X8_walk h0 a1 a2 Q P xs ys σ → XX p l e ({ frames := 1, cells := 0, slots := 0, locals := 21 } : Room) s m args below meth c (dC, dI) 81 ad (celC ad cA) 4 (ZV below args s (dC, dI) 81 ad (celC ad cA) Q) (lay_X8_walk ad h0 a1 a2) P xs ys σ := by
  refine Fx.elim _ (fun P xs ys σ Y hY hB => ?_)
  rcases hB with ⟨rfl, x3, rfl, rfl, hB⟩
  · intro lv st he H locs ls hP hS hl
    cases he
    exact w_X8_walk_2 hi h0 a1 a2 hh0 C0 hK Q Y hY x3 σ hB hP hS hl
set_option maxHeartbeats 4000000 in
theorem c_X8_walk {l : Launch} {dC : Nat → ClassId} {dI : Nat → Nat → Nat} {ad : Nat → Nat} {cA cZ : ClassId} (hi : Inj 81 ad) (h0 : Nat) (a1 : Int32) (a2 : Int32) (hh0 : isSt h0) (s0 : St) (Q : St → Prop) (hv : V_X8_walk h0 a1 a2 s0 Q) (sz : Nat) : Met l yX8_walk wsX8_walk ({ frames := 1, cells := 0, slots := 0, locals := 21 } : Room) (va_Pc [.ref (ad h0), .int a1, .int a2] (PW dC dI ad cA cZ 81 (celC ad cA) sz s0)) (va_Qv Q (fun u t => va_P (dC, dI) vwCl (wd 81 ad (celC ad cA) u) t.heap) (AA 81 ad sz)) 0 0 (AA 81 ad sz) := by
  refine Met.ofW (cc := cX8_walk) (maxL := 4) (ret := none) (by decide) rfl ?_
  intro p e s m args below meth c s₁ B hml hv0
  obtain ⟨rfl, hsz, hP, hK⟩ := hv0
  subst hsz
  have C0 : Cx cX8_walk RX8 wsX8_walk 4 none p s m ([.ref (ad h0), .int a1, .int a2] : List Value).toArray meth c := ⟨B.exec, B.bytes, hml, findClass_of_methodNamed B.named, atoms_spec (ws := wsX8_walk) B.pre, B.returns, B.notSynchronized⟩
  have hl := lv_entry ([.ref (ad h0), .int a1, .int a2]) (n := 4) (Nat.le_of_ble_eq_true rfl)
  rw [lg_entry_eq]
  generalize (lg_sl ([.ref (ad h0), .int a1, .int a2]) ++ List.replicate (4 - (lg_sl ([.ref (ad h0), .int a1, .int a2])).length) Slot.unset).toArray = ls at hl ⊢
  have hl : lv_has ls 4 [(0, .ref (ad h0)), (1, .int a1), (2, .int a2)] := hl
  exact w_X8_walk_e hi h0 a1 a2 hh0 C0 hK Q (R_X8_walk h0 a1 a2 Q) (y_X8_walk hi h0 a1 a2 hh0 C0 hK Q)  s0 hv hP va_S.rf hl
def lay_X8_passHour (ad : Nat → Nat) (h0 : Nat) : Nat → List Int32 → List Int64 → Option (List (Nat × Value) × List Value) := fun P xs ys => match P, xs, ys with
  | 2, [x1], [] => some ([(0, .ref (ad h0)), (1, .int x1)], [])
  | 42, [x1], [] => some ([(0, .ref (ad h0)), (1, .int x1)], [])
  | _, _, _ => none
set_option maxHeartbeats 4000000 in
set_option maxRecDepth 100000 in
theorem w_X8_passHour_e {p : Program} {l : Launch} {e : Env} {s : State} {m : MethodId} {args : Array Value} {below : List Frame} {meth : Method} {c : Code} {dC : Nat → ClassId} {dI : Nat → Nat → Nat} {ad : Nat → Nat} {cA cZ : ClassId} (hi : Inj 81 ad) (h0 : Nat) (hh0 : isSt h0) (C0 : Cx cX8_passHour RX8 wsX8_passHour 3 none p s m args meth c) (hK : KK dC dI cA cZ s) (Q : St → Prop) (Y : Nat → List Int32 → List Int64 → St → Prop) (hY : ∀ P xs ys σ, Y P xs ys σ → XX p l e ({ frames := 2, cells := 0, slots := 0, locals := 47 } : Room) s m args below meth c (dC, dI) 81 ad (celC ad cA) 3 (ZV below args s (dC, dI) 81 ad (celC ad cA) Q) (lay_X8_passHour ad h0) P xs ys σ)  (s0 : St) (hv : B_X8_passHour_e h0 Q Y  s0) {H : Heap} {locs : List Loc} {ls : Array Slot} (hP : va_P (dC, dI) vwCl (wd 81 ad (celC ad cA) s0) H) (hS : va_S (AA 81 ad s.heap.size) s.heap H locs) (hl : lv_has ls 3 [(0, .ref (ad h0))]) : W p l e ({ frames := 2, cells := 0, slots := 0, locals := 47 } : Room) s m args below meth c H locs 0 0 (ZV below args s (dC, dI) 81 ad (celC ad cA) Q) (F0 m 0 ls []) := by
  obtain ⟨hx, hb, hml, hown, hts, hr, hlocks⟩ := C0
  have hD := wd_D (s := s) (cel := celC ad cA) (σ := s0) hi
  unfold B_X8_passHour_e at hv
  refine lv_iconst (v := 0) hx hb dX8_passHour_0 (by decide) ?_
  refine lv_istore_n (lv' := [(1, .int 0), (0, .ref (ad h0))]) hx hb dX8_passHour_1 rfl hl (by decide) rfl (fun ls hl => ?_)
  exact hY 2 [0] [] s0 hv _ _ rfl H locs ls hP hS (lv_sub hl [1, 0] rfl)
set_option maxHeartbeats 4000000 in
set_option maxRecDepth 100000 in
theorem w_X8_passHour_2 {p : Program} {l : Launch} {e : Env} {s : State} {m : MethodId} {args : Array Value} {below : List Frame} {meth : Method} {c : Code} {dC : Nat → ClassId} {dI : Nat → Nat → Nat} {ad : Nat → Nat} {cA cZ : ClassId} (hi : Inj 81 ad) (h0 : Nat) (hh0 : isSt h0) (C0 : Cx cX8_passHour RX8 wsX8_passHour 3 none p s m args meth c) (hK : KK dC dI cA cZ s) (Q : St → Prop) (Y : Nat → List Int32 → List Int64 → St → Prop) (hY : ∀ P xs ys σ, Y P xs ys σ → XX p l e ({ frames := 2, cells := 0, slots := 0, locals := 47 } : Room) s m args below meth c (dC, dI) 81 ad (celC ad cA) 3 (ZV below args s (dC, dI) 81 ad (celC ad cA) Q) (lay_X8_passHour ad h0) P xs ys σ) (x1 : Int32) (s0 : St) (hv : B_X8_passHour_2 h0 Q Y x1 s0) {H : Heap} {locs : List Loc} {ls : Array Slot} (hP : va_P (dC, dI) vwCl (wd 81 ad (celC ad cA) s0) H) (hS : va_S (AA 81 ad s.heap.size) s.heap H locs) (hl : lv_has ls 3 [(0, .ref (ad h0)), (1, .int x1)]) : W p l e ({ frames := 2, cells := 0, slots := 0, locals := 47 } : Room) s m args below meth c H locs 0 0 (ZV below args s (dC, dI) 81 ad (celC ad cA) Q) (F0 m 2 ls []) := by
  obtain ⟨hx, hb, hml, hown, hts, hr, hlocks⟩ := C0
  have hD := wd_D (s := s) (cel := celC ad cA) (σ := s0) hi
  unfold B_X8_passHour_2 at hv
  refine lv_iload_n hx hb dX8_passHour_2 rfl (lv_at hl 1 rfl) ?_
  refine lv_aload_n hx hb dX8_passHour_3 rfl (lv_at hl 0 rfl) ?_
  refine r_get hx hb hts (iwX8_passHour_X8) hown hK.1 hP h0 (ltSt_0 hh0) (ceSt_0 hh0 (s0 h0)) rfl 9 (by decide) (hts _ kX8_passHour_1) (v := .int (s0 h0 9)) rfl dX8_passHour_4 ?_
  refine lv_icmp_ge (tgt := 40) hx hb dX8_passHour_7 (by decide) (fun c7 => ?_) (fun c7 => ?_)
  · have hv := hv.1 c7
    refine lv_iconst (v := 0) hx hb dX8_passHour_40 (by decide) ?_
    refine lv_istore_n (lv' := [(1, .int 0), (0, .ref (ad h0))]) hx hb dX8_passHour_41 rfl hl (by decide) rfl (fun ls hl => ?_)
    exact hY 42 [0] [] s0 hv _ _ rfl H locs ls hP hS (lv_sub hl [1, 0] rfl)
  · have hv := hv.2 c7
    refine lv_aload_n hx hb dX8_passHour_10 rfl (lv_at hl 0 rfl) ?_
    refine r_get hx hb hts (iwX8_passHour_X8) hown hK.1 hP h0 (ltSt_0 hh0) (ceSt_0 hh0 (s0 h0)) rfl 7 (by decide) (hts _ kX8_passHour_2) (v := .ref (ad (h0 + 8))) rfl dX8_passHour_11 ?_
    refine lv_iload_n hx hb dX8_passHour_14 rfl (lv_at hl 1 rfl) ?_
    refine lv_aload_n hx hb dX8_passHour_15 rfl (lv_at hl 0 rfl) ?_
    refine lv_iload_n hx hb dX8_passHour_16 rfl (lv_at hl 1 rfl) ?_
    refine r_ci (va_runV (As := [.int x1]) (rest := [.int x1, .ref (ad (h0 + 8))]) ⟨hx, hb, hml, hown, hts⟩ (c_X8_shutBit hi h0 x1 hh0 s0 _ hv H.size) (cwV 1 hts gX8_passHour_X8_shutBit rfl rfl rfl (by decide +kernel) ⟨Nat.le_of_ble_eq_true rfl, Nat.le_of_ble_eq_true rfl⟩) ⟨pre_blind, r_recv hK.1 hP h0 (ltSt_0 hh0) (ceSt_0 hh0 (s0 h0)) rfl, pre_of hP hK⟩ rfl rfl hl.1 rfl (lv_room (Nat.le_of_ble_eq_true rfl)) dX8_passHour_17 ⟨Nat.zero_le _, Nat.zero_le _⟩) hS (fun r1 s1 H locs hv hP hS => ?_)
    have hD := wd_D (s := s) (cel := celC ad cA) (σ := s1) hi
    refine lv_iconst (v := 1) hx hb dX8_passHour_20 (by decide) ?_
    refine lv_icmp_ne (tgt := 28) hx hb dX8_passHour_21 (by decide) (fun c21 => ?_) (fun c21 => ?_)
    · have hv := hv.1 c21
      refine lv_aload_n hx hb dX8_passHour_28 rfl (lv_at hl 0 rfl) ?_
      refine lv_iload_n hx hb dX8_passHour_29 rfl (lv_at hl 1 rfl) ?_
      refine r_ci (va_runV (As := [.int x1]) (rest := [.int x1, .ref (ad (h0 + 8))]) ⟨hx, hb, hml, hown, hts⟩ (c_X8_letsNow hi h0 x1 hh0 s1 _ hv H.size) (cwV 1 hts gX8_passHour_X8_letsNow rfl rfl rfl (by decide +kernel) ⟨Nat.le_of_ble_eq_true rfl, Nat.le_of_ble_eq_true rfl⟩) ⟨pre_blind, r_recv hK.1 hP h0 (ltSt_0 hh0) (ceSt_0 hh0 (s1 h0)) rfl, pre_of hP hK⟩ rfl rfl hl.1 rfl (lv_room (Nat.le_of_ble_eq_true rfl)) dX8_passHour_30 ⟨Nat.zero_le _, Nat.zero_le _⟩) hS (fun r2 s2 H locs hv hP hS => ?_)
      have hD := wd_D (s := s) (cel := celC ad cA) (σ := s2) hi
      obtain ⟨hin, hv⟩ := hv
      refine r_iast hx hb hK.1 hP hD hS (h0 + 8) (ltSt_8 hh0) (ceSt_8 hh0 (s2 (h0 + 8))) (ceSt_8 hh0 _) hin dX8_passHour_33 (fun H locs s3 es3 hP hD hS => ?_)
      have hv := hv s3 es3
      refine lv_iinc (v := x1 + 1) (lv' := [(1, .int (x1 + 1)), (0, .ref (ad h0))]) hx hb dX8_passHour_34 hl (k := 1) rfl rfl (by decide) rfl (fun ls hl => ?_)
      refine lv_goto (tgt := 2) hx hb dX8_passHour_37 (by decide) ?_
      exact hY 2 [x1 + 1] [] s3 hv _ _ rfl H locs ls hP hS (lv_sub hl [1, 0] rfl)
    · have hv := hv.2 c21
      refine lv_iconst (v := 0) hx hb dX8_passHour_24 (by decide) ?_
      refine lv_goto (tgt := 33) hx hb dX8_passHour_25 (by decide) ?_
      obtain ⟨hin, hv⟩ := hv
      refine r_iast hx hb hK.1 hP hD hS (h0 + 8) (ltSt_8 hh0) (ceSt_8 hh0 (s1 (h0 + 8))) (ceSt_8 hh0 _) hin dX8_passHour_33 (fun H locs s4 es4 hP hD hS => ?_)
      have hv := hv s4 es4
      refine lv_iinc (v := x1 + 1) (lv' := [(1, .int (x1 + 1)), (0, .ref (ad h0))]) hx hb dX8_passHour_34 hl (k := 1) rfl rfl (by decide) rfl (fun ls hl => ?_)
      refine lv_goto (tgt := 2) hx hb dX8_passHour_37 (by decide) ?_
      exact hY 2 [x1 + 1] [] s4 hv _ _ rfl H locs ls hP hS (lv_sub hl [1, 0] rfl)
set_option maxHeartbeats 4000000 in
set_option maxRecDepth 100000 in
theorem w_X8_passHour_42 {p : Program} {l : Launch} {e : Env} {s : State} {m : MethodId} {args : Array Value} {below : List Frame} {meth : Method} {c : Code} {dC : Nat → ClassId} {dI : Nat → Nat → Nat} {ad : Nat → Nat} {cA cZ : ClassId} (hi : Inj 81 ad) (h0 : Nat) (hh0 : isSt h0) (C0 : Cx cX8_passHour RX8 wsX8_passHour 3 none p s m args meth c) (hK : KK dC dI cA cZ s) (Q : St → Prop) (Y : Nat → List Int32 → List Int64 → St → Prop) (hY : ∀ P xs ys σ, Y P xs ys σ → XX p l e ({ frames := 2, cells := 0, slots := 0, locals := 47 } : Room) s m args below meth c (dC, dI) 81 ad (celC ad cA) 3 (ZV below args s (dC, dI) 81 ad (celC ad cA) Q) (lay_X8_passHour ad h0) P xs ys σ) (x1 : Int32) (s0 : St) (hv : B_X8_passHour_42 h0 Q Y x1 s0) {H : Heap} {locs : List Loc} {ls : Array Slot} (hP : va_P (dC, dI) vwCl (wd 81 ad (celC ad cA) s0) H) (hS : va_S (AA 81 ad s.heap.size) s.heap H locs) (hl : lv_has ls 3 [(0, .ref (ad h0)), (1, .int x1)]) : W p l e ({ frames := 2, cells := 0, slots := 0, locals := 47 } : Room) s m args below meth c H locs 0 0 (ZV below args s (dC, dI) 81 ad (celC ad cA) Q) (F0 m 42 ls []) := by
  obtain ⟨hx, hb, hml, hown, hts, hr, hlocks⟩ := C0
  have hD := wd_D (s := s) (cel := celC ad cA) (σ := s0) hi
  unfold B_X8_passHour_42 at hv
  refine lv_iload_n hx hb dX8_passHour_42 rfl (lv_at hl 1 rfl) ?_
  refine lv_aload_n hx hb dX8_passHour_43 rfl (lv_at hl 0 rfl) ?_
  refine r_get hx hb hts (iwX8_passHour_X8) hown hK.1 hP h0 (ltSt_0 hh0) (ceSt_0 hh0 (s0 h0)) rfl 8 (by decide) (hts _ kX8_passHour_3) (v := .int (s0 h0 8)) rfl dX8_passHour_44 ?_
  refine lv_icmp_ge (tgt := 117) hx hb dX8_passHour_47 (by decide) (fun c47 => ?_) (fun c47 => ?_)
  · have hv := hv.1 c47
    refine lv_aload_n hx hb dX8_passHour_117 rfl (lv_at hl 0 rfl) ?_
    refine lv_dup hx hb dX8_passHour_118 rfl ?_
    refine r_get hx hb hts (iwX8_passHour_X8) hown hK.1 hP h0 (ltSt_0 hh0) (ceSt_0 hh0 (s0 h0)) rfl 11 (by decide) (hts _ kX8_passHour_6) (v := .int (s0 h0 11)) rfl dX8_passHour_119 ?_
    refine lv_iconst (v := 1) hx hb dX8_passHour_122 (by decide) ?_
    refine lv_iadd hx hb dX8_passHour_123 ?_
    refine r_put hx hb hts (iwX8_passHour_X8) tyX8 tyX8_ok nmX8 hown hK.1 hP hD hS h0 (ltSt_0 hh0) (ceSt_0 hh0 (s0 h0)) rfl 11 (by decide) (hts _ kX8_passHour_6) rfl (ty := .int) (v := .int ((s0 h0 11) + 1)) (by decide +kernel) rfl rfl (Nat.le_of_ble_eq_true rfl) (row := (upd (s0 h0) 11 ((s0 h0 11) + 1))) (by rw [(ceSt_0 hh0 (upd (s0 h0) 11 ((s0 h0 11) + 1)))]; rfl) dX8_passHour_124 (fun H locs s1 es1 hP hD hS => ?_)
    have hv := hv s1 es1
    exact r_vret hx hb hr hlocks hv hP hS dX8_passHour_127
  · have hv := hv.2 c47
    refine lv_aload_n hx hb dX8_passHour_50 rfl (lv_at hl 0 rfl) ?_
    refine r_get hx hb hts (iwX8_passHour_X8) hown hK.1 hP h0 (ltSt_0 hh0) (ceSt_0 hh0 (s0 h0)) rfl 6 (by decide) (hts _ kX8_passHour_4) (v := .ref (ad (h0 + 7))) rfl dX8_passHour_51 ?_
    refine lv_aload_n hx hb dX8_passHour_54 rfl (lv_at hl 0 rfl) ?_
    refine r_get hx hb hts (iwX8_passHour_X8) hown hK.1 hP h0 (ltSt_0 hh0) (ceSt_0 hh0 (s0 h0)) rfl 3 (by decide) (hts _ kX8_passHour_5) (v := .ref (ad (h0 + 4))) rfl dX8_passHour_55 ?_
    refine lv_iload_n hx hb dX8_passHour_58 rfl (lv_at hl 1 rfl) ?_
    obtain ⟨hin, hv⟩ := hv
    refine r_iald hx hb hK.1 hP (h0 + 4) (ltSt_4 hh0) (ceSt_4 hh0 (s0 (h0 + 4))) hin dX8_passHour_59 ?_
    obtain ⟨hin, hv⟩ := hv
    refine r_iald hx hb hK.1 hP (h0 + 7) (ltSt_7 hh0) (ceSt_7 hh0 (s0 (h0 + 7))) hin dX8_passHour_60 ?_
    refine lv_iconst (v := 1) hx hb dX8_passHour_61 (by decide) ?_
    refine lv_isub hx hb dX8_passHour_62 ?_
    refine lv_topi (fun v2 ev2 => ?_)
    have hv := hv v2 ev2
    refine lv_istore_n (lv' := [(2, .int v2), (0, .ref (ad h0)), (1, .int x1)]) hx hb dX8_passHour_63 rfl hl (by decide) rfl (fun ls hl => ?_)
    refine lv_iload_n hx hb dX8_passHour_64 rfl (lv_at hl 0 rfl) ?_
    refine lv_iconst (v := (-1)) hx hb dX8_passHour_65 (by decide) ?_
    refine lv_icmp_ne (tgt := 82) hx hb dX8_passHour_66 (by decide) (fun c66 => ?_) (fun c66 => ?_)
    · have hv := hv.1 c66
      refine lv_aload_n hx hb dX8_passHour_82 rfl (lv_at hl 1 rfl) ?_
      refine r_get hx hb hts (iwX8_passHour_X8) hown hK.1 hP h0 (ltSt_0 hh0) (ceSt_0 hh0 (s0 h0)) rfl 7 (by decide) (hts _ kX8_passHour_2) (v := .ref (ad (h0 + 8))) rfl dX8_passHour_83 ?_
      refine lv_iload_n hx hb dX8_passHour_86 rfl (lv_at hl 0 rfl) ?_
      obtain ⟨hin, hv⟩ := hv
      refine r_iald hx hb hK.1 hP (h0 + 8) (ltSt_8 hh0) (ceSt_8 hh0 (s0 (h0 + 8))) hin dX8_passHour_87 ?_
      refine lv_if_le (tgt := 111) hx hb dX8_passHour_88 (by decide) (fun c88 => ?_) (fun c88 => ?_)
      · have hv := hv.1 c88
        refine lv_iinc (v := x1 + 1) (lv' := [(1, .int (x1 + 1)), (2, .int v2), (0, .ref (ad h0))]) hx hb dX8_passHour_111 hl (k := 2) rfl rfl (by decide) rfl (fun ls hl => ?_)
        refine lv_goto (tgt := 42) hx hb dX8_passHour_114 (by decide) ?_
        exact hY 42 [x1 + 1] [] s0 hv _ _ rfl H locs ls hP hS (lv_sub hl [2, 0] rfl)
      · have hv := hv.2 c88
        refine lv_aload_n hx hb dX8_passHour_91 rfl (lv_at hl 1 rfl) ?_
        refine r_get hx hb hts (iwX8_passHour_X8) hown hK.1 hP h0 (ltSt_0 hh0) (ceSt_0 hh0 (s0 h0)) rfl 7 (by decide) (hts _ kX8_passHour_2) (v := .ref (ad (h0 + 8))) rfl dX8_passHour_92 ?_
        refine lv_iload_n hx hb dX8_passHour_95 rfl (lv_at hl 0 rfl) ?_
        refine lv_dup2_11 hx hb dX8_passHour_96 rfl rfl ?_
        obtain ⟨hin, hv⟩ := hv
        refine r_iald hx hb hK.1 hP (h0 + 8) (ltSt_8 hh0) (ceSt_8 hh0 (s0 (h0 + 8))) hin dX8_passHour_97 ?_
        refine lv_iconst (v := 1) hx hb dX8_passHour_98 (by decide) ?_
        refine lv_isub hx hb dX8_passHour_99 ?_
        obtain ⟨hin, hv⟩ := hv
        refine r_iast hx hb hK.1 hP hD hS (h0 + 8) (ltSt_8 hh0) (ceSt_8 hh0 (s0 (h0 + 8))) (ceSt_8 hh0 _) hin dX8_passHour_100 (fun H locs s3 es3 hP hD hS => ?_)
        have hv := hv s3 es3
        refine lv_aload_n hx hb dX8_passHour_101 rfl (lv_at hl 1 rfl) ?_
        refine r_get hx hb hts (iwX8_passHour_X8) hown hK.1 hP h0 (ltSt_0 hh0) (ceSt_0 hh0 (s3 h0)) rfl 3 (by decide) (hts _ kX8_passHour_5) (v := .ref (ad (h0 + 4))) rfl dX8_passHour_102 ?_
        refine lv_iload_n hx hb dX8_passHour_105 rfl (lv_at hl 2 rfl) ?_
        refine lv_dup2_11 hx hb dX8_passHour_106 rfl rfl ?_
        obtain ⟨hin, hv⟩ := hv
        refine r_iald hx hb hK.1 hP (h0 + 4) (ltSt_4 hh0) (ceSt_4 hh0 (s3 (h0 + 4))) hin dX8_passHour_107 ?_
        refine lv_iconst (v := 1) hx hb dX8_passHour_108 (by decide) ?_
        refine lv_iadd hx hb dX8_passHour_109 ?_
        obtain ⟨hin, hv⟩ := hv
        refine r_iast hx hb hK.1 hP hD hS (h0 + 4) (ltSt_4 hh0) (ceSt_4 hh0 (s3 (h0 + 4))) (ceSt_4 hh0 _) hin dX8_passHour_110 (fun H locs s4 es4 hP hD hS => ?_)
        have hv := hv s4 es4
        refine lv_iinc (v := x1 + 1) (lv' := [(1, .int (x1 + 1)), (2, .int v2), (0, .ref (ad h0))]) hx hb dX8_passHour_111 hl (k := 2) rfl rfl (by decide) rfl (fun ls hl => ?_)
        refine lv_goto (tgt := 42) hx hb dX8_passHour_114 (by decide) ?_
        exact hY 42 [x1 + 1] [] s4 hv _ _ rfl H locs ls hP hS (lv_sub hl [2, 0] rfl)
    · have hv := hv.2 c66
      refine lv_aload_n hx hb dX8_passHour_69 rfl (lv_at hl 1 rfl) ?_
      refine lv_iload_n hx hb dX8_passHour_70 rfl (lv_at hl 2 rfl) ?_
      refine lv_aload_n hx hb dX8_passHour_71 rfl (lv_at hl 1 rfl) ?_
      refine lv_iload_n hx hb dX8_passHour_72 rfl (lv_at hl 2 rfl) ?_
      refine r_ci (va_runV (As := [.int x1]) (rest := [.int x1, .ref (ad h0)]) ⟨hx, hb, hml, hown, hts⟩ (c_X8_goesNow hi h0 x1 hh0 s0 _ hv H.size) (cwV 1 hts gX8_passHour_X8_goesNow rfl rfl rfl (by decide +kernel) ⟨Nat.le_of_ble_eq_true rfl, Nat.le_of_ble_eq_true rfl⟩) ⟨pre_blind, r_recv hK.1 hP h0 (ltSt_0 hh0) (ceSt_0 hh0 (s0 h0)) rfl, pre_of hP hK⟩ rfl rfl hl.1 rfl (lv_room (Nat.le_of_ble_eq_true rfl)) dX8_passHour_73 ⟨Nat.zero_le _, Nat.zero_le _⟩) hS (fun r5 s5 H locs hv hP hS => ?_)
      have hD := wd_D (s := s) (cel := celC ad cA) (σ := s5) hi
      refine r_cv (va_runV (As := [.int x1, .int r5]) (rest := []) ⟨hx, hb, hml, hown, hts⟩ (c_X8_walk hi h0 x1 r5 hh0 s5 _ hv H.size) (cwV 2 hts gX8_passHour_X8_walk rfl rfl rfl (by decide +kernel) ⟨Nat.le_of_ble_eq_true rfl, Nat.le_of_ble_eq_true rfl⟩) ⟨pre_blind, r_recv hK.1 hP h0 (ltSt_0 hh0) (ceSt_0 hh0 (s5 h0)) rfl, pre_of hP hK⟩ rfl rfl hl.1 rfl (lv_room (Nat.le_of_ble_eq_true rfl)) dX8_passHour_76 ⟨Nat.zero_le _, Nat.zero_le _⟩) hS (fun s6 H locs hv hP hS => ?_)
      have hD := wd_D (s := s) (cel := celC ad cA) (σ := s6) hi
      refine lv_goto (tgt := 111) hx hb dX8_passHour_79 (by decide) ?_
      refine lv_iinc (v := x1 + 1) (lv' := [(1, .int (x1 + 1)), (2, .int v2), (0, .ref (ad h0))]) hx hb dX8_passHour_111 hl (k := 2) rfl rfl (by decide) rfl (fun ls hl => ?_)
      refine lv_goto (tgt := 42) hx hb dX8_passHour_114 (by decide) ?_
      exact hY 42 [x1 + 1] [] s6 hv _ _ rfl H locs ls hP hS (lv_sub hl [2, 0] rfl)
set_option maxHeartbeats 4000000 in
theorem y_X8_passHour {p : Program} {l : Launch} {e : Env} {s : State} {m : MethodId} {args : Array Value} {below : List Frame} {meth : Method} {c : Code} {dC : Nat → ClassId} {dI : Nat → Nat → Nat} {ad : Nat → Nat} {cA cZ : ClassId} (hi : Inj 81 ad) (h0 : Nat) (hh0 : isSt h0) (C0 : Cx cX8_passHour RX8 wsX8_passHour 3 none p s m args meth c) (hK : KK dC dI cA cZ s) (Q : St → Prop) : ∀ P xs ys σ, R_X8_passHour h0 Q P xs ys σ → XX p l e ({ frames := 2, cells := 0, slots := 0, locals := 47 } : Room) s m args below meth c (dC, dI) 81 ad (celC ad cA) 3 (ZV below args s (dC, dI) 81 ad (celC ad cA) Q) (lay_X8_passHour ad h0) P xs ys σ := by
  refine Fx.elim _ (fun P xs ys σ Y hY hB => ?_)
  rcases hB with ⟨rfl, x1, rfl, rfl, hB⟩ | ⟨rfl, x1, rfl, rfl, hB⟩
  · intro lv st he H locs ls hP hS hl
    cases he
    exact w_X8_passHour_2 hi h0 hh0 C0 hK Q Y hY x1 σ hB hP hS hl
  · intro lv st he H locs ls hP hS hl
    cases he
    exact w_X8_passHour_42 hi h0 hh0 C0 hK Q Y hY x1 σ hB hP hS hl
set_option maxHeartbeats 4000000 in
theorem c_X8_passHour {l : Launch} {dC : Nat → ClassId} {dI : Nat → Nat → Nat} {ad : Nat → Nat} {cA cZ : ClassId} (hi : Inj 81 ad) (h0 : Nat) (hh0 : isSt h0) (s0 : St) (Q : St → Prop) (hv : V_X8_passHour h0 s0 Q) (sz : Nat) : Met l yX8_passHour wsX8_passHour ({ frames := 2, cells := 0, slots := 0, locals := 47 } : Room) (va_Pc [.ref (ad h0)] (PW dC dI ad cA cZ 81 (celC ad cA) sz s0)) (va_Qv Q (fun u t => va_P (dC, dI) vwCl (wd 81 ad (celC ad cA) u) t.heap) (AA 81 ad sz)) 0 0 (AA 81 ad sz) := by
  refine Met.ofW (cc := cX8_passHour) (maxL := 3) (ret := none) (by decide) rfl ?_
  intro p e s m args below meth c s₁ B hml hv0
  obtain ⟨rfl, hsz, hP, hK⟩ := hv0
  subst hsz
  have C0 : Cx cX8_passHour RX8 wsX8_passHour 3 none p s m ([.ref (ad h0)] : List Value).toArray meth c := ⟨B.exec, B.bytes, hml, findClass_of_methodNamed B.named, atoms_spec (ws := wsX8_passHour) B.pre, B.returns, B.notSynchronized⟩
  have hl := lv_entry ([.ref (ad h0)]) (n := 3) (Nat.le_of_ble_eq_true rfl)
  rw [lg_entry_eq]
  generalize (lg_sl ([.ref (ad h0)]) ++ List.replicate (3 - (lg_sl ([.ref (ad h0)])).length) Slot.unset).toArray = ls at hl ⊢
  have hl : lv_has ls 3 [(0, .ref (ad h0))] := hl
  exact w_X8_passHour_e hi h0 hh0 C0 hK Q (R_X8_passHour h0 Q) (y_X8_passHour hi h0 hh0 C0 hK Q)  s0 hv hP va_S.rf hl
def lay_X8_pass (ad : Nat → Nat) (h0 : Nat) (a1 : Int32) : Nat → List Int32 → List Int64 → Option (List (Nat × Value) × List Value) := fun P xs ys => match P, xs, ys with
  | 2, [x2], [] => some ([(0, .ref (ad h0)), (1, .int a1), (2, .int x2)], [])
  | _, _, _ => none
set_option maxHeartbeats 4000000 in
set_option maxRecDepth 100000 in
theorem w_X8_pass_e {p : Program} {l : Launch} {e : Env} {s : State} {m : MethodId} {args : Array Value} {below : List Frame} {meth : Method} {c : Code} {dC : Nat → ClassId} {dI : Nat → Nat → Nat} {ad : Nat → Nat} {cA cZ : ClassId} (hi : Inj 81 ad) (h0 : Nat) (a1 : Int32) (hh0 : isSt h0) (C0 : Cx cX8_pass RX8 wsX8_pass 3 none p s m args meth c) (hK : KK dC dI cA cZ s) (Q : St → Prop) (Y : Nat → List Int32 → List Int64 → St → Prop) (hY : ∀ P xs ys σ, Y P xs ys σ → XX p l e ({ frames := 3, cells := 0, slots := 0, locals := 69 } : Room) s m args below meth c (dC, dI) 81 ad (celC ad cA) 3 (ZV below args s (dC, dI) 81 ad (celC ad cA) Q) (lay_X8_pass ad h0 a1) P xs ys σ)  (s0 : St) (hv : B_X8_pass_e h0 a1 Q Y  s0) {H : Heap} {locs : List Loc} {ls : Array Slot} (hP : va_P (dC, dI) vwCl (wd 81 ad (celC ad cA) s0) H) (hS : va_S (AA 81 ad s.heap.size) s.heap H locs) (hl : lv_has ls 3 [(0, .ref (ad h0)), (1, .int a1)]) : W p l e ({ frames := 3, cells := 0, slots := 0, locals := 69 } : Room) s m args below meth c H locs 0 0 (ZV below args s (dC, dI) 81 ad (celC ad cA) Q) (F0 m 0 ls []) := by
  obtain ⟨hx, hb, hml, hown, hts, hr, hlocks⟩ := C0
  have hD := wd_D (s := s) (cel := celC ad cA) (σ := s0) hi
  unfold B_X8_pass_e at hv
  refine lv_iconst (v := 0) hx hb dX8_pass_0 (by decide) ?_
  refine lv_istore_n (lv' := [(2, .int 0), (0, .ref (ad h0)), (1, .int a1)]) hx hb dX8_pass_1 rfl hl (by decide) rfl (fun ls hl => ?_)
  exact hY 2 [0] [] s0 hv _ _ rfl H locs ls hP hS (lv_sub hl [1, 2, 0] rfl)
set_option maxHeartbeats 4000000 in
set_option maxRecDepth 100000 in
theorem w_X8_pass_2 {p : Program} {l : Launch} {e : Env} {s : State} {m : MethodId} {args : Array Value} {below : List Frame} {meth : Method} {c : Code} {dC : Nat → ClassId} {dI : Nat → Nat → Nat} {ad : Nat → Nat} {cA cZ : ClassId} (hi : Inj 81 ad) (h0 : Nat) (a1 : Int32) (hh0 : isSt h0) (C0 : Cx cX8_pass RX8 wsX8_pass 3 none p s m args meth c) (hK : KK dC dI cA cZ s) (Q : St → Prop) (Y : Nat → List Int32 → List Int64 → St → Prop) (hY : ∀ P xs ys σ, Y P xs ys σ → XX p l e ({ frames := 3, cells := 0, slots := 0, locals := 69 } : Room) s m args below meth c (dC, dI) 81 ad (celC ad cA) 3 (ZV below args s (dC, dI) 81 ad (celC ad cA) Q) (lay_X8_pass ad h0 a1) P xs ys σ) (x2 : Int32) (s0 : St) (hv : B_X8_pass_2 h0 a1 Q Y x2 s0) {H : Heap} {locs : List Loc} {ls : Array Slot} (hP : va_P (dC, dI) vwCl (wd 81 ad (celC ad cA) s0) H) (hS : va_S (AA 81 ad s.heap.size) s.heap H locs) (hl : lv_has ls 3 [(0, .ref (ad h0)), (1, .int a1), (2, .int x2)]) : W p l e ({ frames := 3, cells := 0, slots := 0, locals := 69 } : Room) s m args below meth c H locs 0 0 (ZV below args s (dC, dI) 81 ad (celC ad cA) Q) (F0 m 2 ls []) := by
  obtain ⟨hx, hb, hml, hown, hts, hr, hlocks⟩ := C0
  have hD := wd_D (s := s) (cel := celC ad cA) (σ := s0) hi
  unfold B_X8_pass_2 at hv
  refine lv_iload_n hx hb dX8_pass_2 rfl (lv_at hl 2 rfl) ?_
  refine lv_iload_n hx hb dX8_pass_3 rfl (lv_at hl 1 rfl) ?_
  refine lv_icmp_ge (tgt := 17) hx hb dX8_pass_4 (by decide) (fun c4 => ?_) (fun c4 => ?_)
  · have hv := hv.1 c4
    exact r_vret hx hb hr hlocks hv hP hS dX8_pass_17
  · have hv := hv.2 c4
    refine lv_aload_n hx hb dX8_pass_7 rfl (lv_at hl 0 rfl) ?_
    refine r_cv (va_runV (As := []) (rest := []) ⟨hx, hb, hml, hown, hts⟩ (c_X8_passHour hi h0 hh0 s0 _ hv H.size) (cwV 0 hts gX8_pass_X8_passHour rfl rfl rfl (by decide +kernel) ⟨Nat.le_of_ble_eq_true rfl, Nat.le_of_ble_eq_true rfl⟩) ⟨pre_blind, r_recv hK.1 hP h0 (ltSt_0 hh0) (ceSt_0 hh0 (s0 h0)) rfl, pre_of hP hK⟩ rfl rfl hl.1 rfl (lv_room (Nat.le_of_ble_eq_true rfl)) dX8_pass_8 ⟨Nat.zero_le _, Nat.zero_le _⟩) hS (fun s1 H locs hv hP hS => ?_)
    have hD := wd_D (s := s) (cel := celC ad cA) (σ := s1) hi
    refine lv_iinc (v := x2 + 1) (lv' := [(2, .int (x2 + 1)), (0, .ref (ad h0)), (1, .int a1)]) hx hb dX8_pass_11 hl (k := 2) rfl rfl (by decide) rfl (fun ls hl => ?_)
    refine lv_goto (tgt := 2) hx hb dX8_pass_14 (by decide) ?_
    exact hY 2 [x2 + 1] [] s1 hv _ _ rfl H locs ls hP hS (lv_sub hl [1, 2, 0] rfl)
set_option maxHeartbeats 4000000 in
theorem y_X8_pass {p : Program} {l : Launch} {e : Env} {s : State} {m : MethodId} {args : Array Value} {below : List Frame} {meth : Method} {c : Code} {dC : Nat → ClassId} {dI : Nat → Nat → Nat} {ad : Nat → Nat} {cA cZ : ClassId} (hi : Inj 81 ad) (h0 : Nat) (a1 : Int32) (hh0 : isSt h0) (C0 : Cx cX8_pass RX8 wsX8_pass 3 none p s m args meth c) (hK : KK dC dI cA cZ s) (Q : St → Prop) : ∀ P xs ys σ, R_X8_pass h0 a1 Q P xs ys σ → XX p l e ({ frames := 3, cells := 0, slots := 0, locals := 69 } : Room) s m args below meth c (dC, dI) 81 ad (celC ad cA) 3 (ZV below args s (dC, dI) 81 ad (celC ad cA) Q) (lay_X8_pass ad h0 a1) P xs ys σ := by
  refine Fx.elim _ (fun P xs ys σ Y hY hB => ?_)
  rcases hB with ⟨rfl, x2, rfl, rfl, hB⟩
  · intro lv st he H locs ls hP hS hl
    cases he
    exact w_X8_pass_2 hi h0 a1 hh0 C0 hK Q Y hY x2 σ hB hP hS hl
set_option maxHeartbeats 4000000 in
theorem c_X8_pass {l : Launch} {dC : Nat → ClassId} {dI : Nat → Nat → Nat} {ad : Nat → Nat} {cA cZ : ClassId} (hi : Inj 81 ad) (h0 : Nat) (a1 : Int32) (hh0 : isSt h0) (s0 : St) (Q : St → Prop) (hv : V_X8_pass h0 a1 s0 Q) (sz : Nat) : Met l yX8_pass wsX8_pass ({ frames := 3, cells := 0, slots := 0, locals := 69 } : Room) (va_Pc [.ref (ad h0), .int a1] (PW dC dI ad cA cZ 81 (celC ad cA) sz s0)) (va_Qv Q (fun u t => va_P (dC, dI) vwCl (wd 81 ad (celC ad cA) u) t.heap) (AA 81 ad sz)) 0 0 (AA 81 ad sz) := by
  refine Met.ofW (cc := cX8_pass) (maxL := 3) (ret := none) (by decide) rfl ?_
  intro p e s m args below meth c s₁ B hml hv0
  obtain ⟨rfl, hsz, hP, hK⟩ := hv0
  subst hsz
  have C0 : Cx cX8_pass RX8 wsX8_pass 3 none p s m ([.ref (ad h0), .int a1] : List Value).toArray meth c := ⟨B.exec, B.bytes, hml, findClass_of_methodNamed B.named, atoms_spec (ws := wsX8_pass) B.pre, B.returns, B.notSynchronized⟩
  have hl := lv_entry ([.ref (ad h0), .int a1]) (n := 3) (Nat.le_of_ble_eq_true rfl)
  rw [lg_entry_eq]
  generalize (lg_sl ([.ref (ad h0), .int a1]) ++ List.replicate (3 - (lg_sl ([.ref (ad h0), .int a1])).length) Slot.unset).toArray = ls at hl ⊢
  have hl : lv_has ls 3 [(0, .ref (ad h0)), (1, .int a1)] := hl
  exact w_X8_pass_e hi h0 a1 hh0 C0 hK Q (R_X8_pass h0 a1 Q) (y_X8_pass hi h0 a1 hh0 C0 hK Q)  s0 hv hP va_S.rf hl
def lay_X8_over (ad : Nat → Nat) (h0 : Nat) : Nat → List Int32 → List Int64 → Option (List (Nat × Value) × List Value) := fun P xs ys => match P, xs, ys with
  | 4, [x1, x2], [] => some ([(0, .ref (ad h0)), (1, .int x1), (2, .int x2)], [])
  | _, _, _ => none
set_option maxHeartbeats 4000000 in
set_option maxRecDepth 100000 in
theorem w_X8_over_e {p : Program} {l : Launch} {e : Env} {s : State} {m : MethodId} {args : Array Value} {below : List Frame} {meth : Method} {c : Code} {dC : Nat → ClassId} {dI : Nat → Nat → Nat} {ad : Nat → Nat} {cA cZ : ClassId} (hi : Inj 81 ad) (h0 : Nat) (hh0 : isSt h0) (C0 : Cx cX8_over RX8 wsX8_over 3 (some .int) p s m args meth c) (hK : KK dC dI cA cZ s) (Q : Int32 → St → Prop) (Y : Nat → List Int32 → List Int64 → St → Prop) (hY : ∀ P xs ys σ, Y P xs ys σ → XX p l e ({ frames := 0, cells := 0, slots := 0, locals := 0 } : Room) s m args below meth c (dC, dI) 81 ad (celC ad cA) 3 (ZI below args s (dC, dI) 81 ad (celC ad cA) Q) (lay_X8_over ad h0) P xs ys σ)  (s0 : St) (hv : B_X8_over_e h0 Q Y  s0) {H : Heap} {locs : List Loc} {ls : Array Slot} (hP : va_P (dC, dI) vwCl (wd 81 ad (celC ad cA) s0) H) (hS : va_S (AA 81 ad s.heap.size) s.heap H locs) (hl : lv_has ls 3 [(0, .ref (ad h0))]) : W p l e ({ frames := 0, cells := 0, slots := 0, locals := 0 } : Room) s m args below meth c H locs 0 0 (ZI below args s (dC, dI) 81 ad (celC ad cA) Q) (F0 m 0 ls []) := by
  obtain ⟨hx, hb, hml, hown, hts, hr, hlocks⟩ := C0
  have hD := wd_D (s := s) (cel := celC ad cA) (σ := s0) hi
  unfold B_X8_over_e at hv
  refine lv_iconst (v := 0) hx hb dX8_over_0 (by decide) ?_
  refine lv_istore_n (lv' := [(1, .int 0), (0, .ref (ad h0))]) hx hb dX8_over_1 rfl hl (by decide) rfl (fun ls hl => ?_)
  refine lv_iconst (v := 0) hx hb dX8_over_2 (by decide) ?_
  refine lv_istore_n (lv' := [(2, .int 0), (1, .int 0), (0, .ref (ad h0))]) hx hb dX8_over_3 rfl hl (by decide) rfl (fun ls hl => ?_)
  exact hY 4 [0, 0] [] s0 hv _ _ rfl H locs ls hP hS (lv_sub hl [2, 1, 0] rfl)
set_option maxHeartbeats 4000000 in
set_option maxRecDepth 100000 in
theorem w_X8_over_4 {p : Program} {l : Launch} {e : Env} {s : State} {m : MethodId} {args : Array Value} {below : List Frame} {meth : Method} {c : Code} {dC : Nat → ClassId} {dI : Nat → Nat → Nat} {ad : Nat → Nat} {cA cZ : ClassId} (hi : Inj 81 ad) (h0 : Nat) (hh0 : isSt h0) (C0 : Cx cX8_over RX8 wsX8_over 3 (some .int) p s m args meth c) (hK : KK dC dI cA cZ s) (Q : Int32 → St → Prop) (Y : Nat → List Int32 → List Int64 → St → Prop) (hY : ∀ P xs ys σ, Y P xs ys σ → XX p l e ({ frames := 0, cells := 0, slots := 0, locals := 0 } : Room) s m args below meth c (dC, dI) 81 ad (celC ad cA) 3 (ZI below args s (dC, dI) 81 ad (celC ad cA) Q) (lay_X8_over ad h0) P xs ys σ) (x1 : Int32) (x2 : Int32) (s0 : St) (hv : B_X8_over_4 h0 Q Y x1 x2 s0) {H : Heap} {locs : List Loc} {ls : Array Slot} (hP : va_P (dC, dI) vwCl (wd 81 ad (celC ad cA) s0) H) (hS : va_S (AA 81 ad s.heap.size) s.heap H locs) (hl : lv_has ls 3 [(0, .ref (ad h0)), (1, .int x1), (2, .int x2)]) : W p l e ({ frames := 0, cells := 0, slots := 0, locals := 0 } : Room) s m args below meth c H locs 0 0 (ZI below args s (dC, dI) 81 ad (celC ad cA) Q) (F0 m 4 ls []) := by
  obtain ⟨hx, hb, hml, hown, hts, hr, hlocks⟩ := C0
  have hD := wd_D (s := s) (cel := celC ad cA) (σ := s0) hi
  unfold B_X8_over_4 at hv
  refine lv_iload_n hx hb dX8_over_4 rfl (lv_at hl 2 rfl) ?_
  refine lv_aload_n hx hb dX8_over_5 rfl (lv_at hl 0 rfl) ?_
  refine r_get hx hb hts (iwX8_over_X8) hown hK.1 hP h0 (ltSt_0 hh0) (ceSt_0 hh0 (s0 h0)) rfl 8 (by decide) (hts _ kX8_over_1) (v := .int (s0 h0 8)) rfl dX8_over_6 ?_
  refine lv_icmp_ge (tgt := 32) hx hb dX8_over_9 (by decide) (fun c9 => ?_) (fun c9 => ?_)
  · have hv := hv.1 c9
    refine lv_iload_n hx hb dX8_over_32 rfl (lv_at hl 1 rfl) ?_
    exact r_iret hx hb hr hlocks hv hP hS dX8_over_33
  · have hv := hv.2 c9
    refine lv_aload_n hx hb dX8_over_12 rfl (lv_at hl 0 rfl) ?_
    refine r_get hx hb hts (iwX8_over_X8) hown hK.1 hP h0 (ltSt_0 hh0) (ceSt_0 hh0 (s0 h0)) rfl 3 (by decide) (hts _ kX8_over_2) (v := .ref (ad (h0 + 4))) rfl dX8_over_13 ?_
    refine lv_iload_n hx hb dX8_over_16 rfl (lv_at hl 2 rfl) ?_
    obtain ⟨hin, hv⟩ := hv
    refine r_iald hx hb hK.1 hP (h0 + 4) (ltSt_4 hh0) (ceSt_4 hh0 (s0 (h0 + 4))) hin dX8_over_17 ?_
    refine lv_bipush (v := 23) hx hb dX8_over_18 (by decide) ?_
    refine lv_icmp_ne (tgt := 26) hx hb dX8_over_20 (by decide) (fun c20 => ?_) (fun c20 => ?_)
    · have hv := hv.1 c20
      refine lv_iinc (v := x2 + 1) (lv' := [(2, .int (x2 + 1)), (0, .ref (ad h0)), (1, .int x1)]) hx hb dX8_over_26 hl (k := 2) rfl rfl (by decide) rfl (fun ls hl => ?_)
      refine lv_goto (tgt := 4) hx hb dX8_over_29 (by decide) ?_
      exact hY 4 [x1, x2 + 1] [] s0 hv _ _ rfl H locs ls hP hS (lv_sub hl [1, 2, 0] rfl)
    · have hv := hv.2 c20
      refine lv_iinc (v := x1 + 1) (lv' := [(1, .int (x1 + 1)), (0, .ref (ad h0)), (2, .int x2)]) hx hb dX8_over_23 hl (k := 1) rfl rfl (by decide) rfl (fun ls hl => ?_)
      refine lv_iinc (v := x2 + 1) (lv' := [(2, .int (x2 + 1)), (1, .int (x1 + 1)), (0, .ref (ad h0))]) hx hb dX8_over_26 hl (k := 2) rfl rfl (by decide) rfl (fun ls hl => ?_)
      refine lv_goto (tgt := 4) hx hb dX8_over_29 (by decide) ?_
      exact hY 4 [x1 + 1, x2 + 1] [] s0 hv _ _ rfl H locs ls hP hS (lv_sub hl [2, 1, 0] rfl)
set_option maxHeartbeats 4000000 in
theorem y_X8_over {p : Program} {l : Launch} {e : Env} {s : State} {m : MethodId} {args : Array Value} {below : List Frame} {meth : Method} {c : Code} {dC : Nat → ClassId} {dI : Nat → Nat → Nat} {ad : Nat → Nat} {cA cZ : ClassId} (hi : Inj 81 ad) (h0 : Nat) (hh0 : isSt h0) (C0 : Cx cX8_over RX8 wsX8_over 3 (some .int) p s m args meth c) (hK : KK dC dI cA cZ s) (Q : Int32 → St → Prop) : ∀ P xs ys σ, R_X8_over h0 Q P xs ys σ → XX p l e ({ frames := 0, cells := 0, slots := 0, locals := 0 } : Room) s m args below meth c (dC, dI) 81 ad (celC ad cA) 3 (ZI below args s (dC, dI) 81 ad (celC ad cA) Q) (lay_X8_over ad h0) P xs ys σ := by
  refine Fx.elim _ (fun P xs ys σ Y hY hB => ?_)
  rcases hB with ⟨rfl, x1, x2, rfl, rfl, hB⟩
  · intro lv st he H locs ls hP hS hl
    cases he
    exact w_X8_over_4 hi h0 hh0 C0 hK Q Y hY x1 x2 σ hB hP hS hl
set_option maxHeartbeats 4000000 in
theorem c_X8_over {l : Launch} {dC : Nat → ClassId} {dI : Nat → Nat → Nat} {ad : Nat → Nat} {cA cZ : ClassId} (hi : Inj 81 ad) (h0 : Nat) (hh0 : isSt h0) (s0 : St) (Q : Int32 → St → Prop) (hv : V_X8_over h0 s0 Q) (sz : Nat) : Met l yX8_over wsX8_over ({ frames := 0, cells := 0, slots := 0, locals := 0 } : Room) (va_Pc [.ref (ad h0)] (PW dC dI ad cA cZ 81 (celC ad cA) sz s0)) (va_Qi Q (fun u t => va_P (dC, dI) vwCl (wd 81 ad (celC ad cA) u) t.heap) (AA 81 ad sz)) 0 0 (AA 81 ad sz) := by
  refine Met.ofW (cc := cX8_over) (maxL := 3) (ret := (some .int)) (by decide) rfl ?_
  intro p e s m args below meth c s₁ B hml hv0
  obtain ⟨rfl, hsz, hP, hK⟩ := hv0
  subst hsz
  have C0 : Cx cX8_over RX8 wsX8_over 3 (some .int) p s m ([.ref (ad h0)] : List Value).toArray meth c := ⟨B.exec, B.bytes, hml, findClass_of_methodNamed B.named, atoms_spec (ws := wsX8_over) B.pre, B.returns, B.notSynchronized⟩
  have hl := lv_entry ([.ref (ad h0)]) (n := 3) (Nat.le_of_ble_eq_true rfl)
  rw [lg_entry_eq]
  generalize (lg_sl ([.ref (ad h0)]) ++ List.replicate (3 - (lg_sl ([.ref (ad h0)])).length) Slot.unset).toArray = ls at hl ⊢
  have hl : lv_has ls 3 [(0, .ref (ad h0))] := hl
  exact w_X8_over_e hi h0 hh0 C0 hK Q (R_X8_over h0 Q) (y_X8_over hi h0 hh0 C0 hK Q)  s0 hv hP va_S.rf hl
def lay_X10_hours (ad : Nat → Nat) (a1 : Int32) : Nat → List Int32 → List Int64 → Option (List (Nat × Value) × List Value) := fun P xs ys => match P, xs, ys with
  | _, _, _ => none
set_option maxHeartbeats 4000000 in
set_option maxRecDepth 100000 in
theorem w_X10_hours_e {p : Program} {l : Launch} {e : Env} {s : State} {m : MethodId} {args : Array Value} {below : List Frame} {meth : Method} {c : Code} {dC : Nat → ClassId} {dI : Nat → Nat → Nat} {ad : Nat → Nat} {cA cZ : ClassId} (hi : Inj 81 ad) (a1 : Int32)  (C0 : Cx cX10_hours RX10 wsX10_hours 2 (some .int) p s m args meth c) (hK : KK dC dI cA cZ s) (Q : Int32 → St → Prop) (Y : Nat → List Int32 → List Int64 → St → Prop) (hY : ∀ P xs ys σ, Y P xs ys σ → XX p l e ({ frames := 4, cells := 0, slots := 0, locals := 91 } : Room) s m args below meth c (dC, dI) 81 ad (celC ad cA) 2 (ZI below args s (dC, dI) 81 ad (celC ad cA) Q) (lay_X10_hours ad a1) P xs ys σ)  (s0 : St) (hv : B_X10_hours_e a1 Q Y  s0) {H : Heap} {locs : List Loc} {ls : Array Slot} (hP : va_P (dC, dI) vwCl (wd 81 ad (celC ad cA) s0) H) (hS : va_S (AA 81 ad s.heap.size) s.heap H locs) (hl : lv_has ls 2 [(0, .ref (ad 0)), (1, .int a1)]) : W p l e ({ frames := 4, cells := 0, slots := 0, locals := 91 } : Room) s m args below meth c H locs 0 0 (ZI below args s (dC, dI) 81 ad (celC ad cA) Q) (F0 m 0 ls []) := by
  obtain ⟨hx, hb, hml, hown, hts, hr, hlocks⟩ := C0
  have hD := wd_D (s := s) (cel := celC ad cA) (σ := s0) hi
  unfold B_X10_hours_e at hv
  refine lv_iload_n hx hb dX10_hours_0 rfl (lv_at hl 1 rfl) ?_
  refine lv_iconst (v := 1) hx hb dX10_hours_1 (by decide) ?_
  refine lv_bipush (v := 60) hx hb dX10_hours_2 (by decide) ?_
  refine r_ci (va_runS (As := [.int a1, .int 1, .int 60]) (rest := []) ⟨hx, hb, hml, hown, hts⟩ (c_X10_within hi a1 1 60 s0 _ hv H.size) (va_cwS 3 hts gX10_hours_X10_within rfl rfl rfl (by decide +kernel) ⟨Nat.le_of_ble_eq_true rfl, Nat.le_of_ble_eq_true rfl⟩) ⟨pre_blind, pre_of hP hK⟩ rfl rfl hl.1 rfl (lv_room (Nat.le_of_ble_eq_true rfl)) dX10_hours_4 ⟨Nat.zero_le _, Nat.zero_le _⟩) hS (fun r1 s1 H locs hv hP hS => ?_)
  obtain ⟨hz_r1, hv⟩ := hv
  have hD := wd_D (s := s) (cel := celC ad cA) (σ := s1) hi
  refine lv_if_ne (tgt := 15) hx hb dX10_hours_7 (by decide) (fun c7 => ?_) (fun c7 => ?_)
  · have hv := hv.1 c7
    refine lv_aload_n hx hb dX10_hours_15 rfl (lv_at hl 0 rfl) ?_
    refine r_get hx hb hts (iwX10_hours_X10) hown hK.1 hP 0 (by decide) (ceGR_0 (s1 0)) rfl 0 (by decide) (hts _ kX10_hours_1) (v := .ref (ad 1)) rfl dX10_hours_16 ?_
    refine r_get hx hb hts (iwX10_hours_X7) hown hK.1 hP 1 (ltSc_0 vSc_1) (ceSc_0 vSc_1 (s1 1)) rfl 1 (by decide) (hts _ kX10_hours_2) (v := .ref (ad 11)) rfl dX10_hours_19 ?_
    refine lv_aload_n hx hb dX10_hours_22 rfl (lv_at hl 0 rfl) ?_
    refine r_get hx hb hts (iwX10_hours_X10) hown hK.1 hP 0 (by decide) (ceGR_0 (s1 0)) rfl 0 (by decide) (hts _ kX10_hours_1) (v := .ref (ad 1)) rfl dX10_hours_23 ?_
    refine r_get hx hb hts (iwX10_hours_X7) hown hK.1 hP 1 (ltSc_0 vSc_1) (ceSc_0 vSc_1 (s1 1)) rfl 0 (by decide) (hts _ kX10_hours_3) (v := .ref (ad 2)) rfl dX10_hours_26 ?_
    refine r_cv (va_runV (As := [.ref (ad 2)]) (rest := []) ⟨hx, hb, hml, hown, hts⟩ (c_X4_keep hi 11 2 (vSc10 vSc_1) (vSc1 vSc_1) s1 _ hv H.size) (cwV 1 hts gX10_hours_X4_keep rfl rfl rfl (by decide +kernel) ⟨Nat.le_of_ble_eq_true rfl, Nat.le_of_ble_eq_true rfl⟩) ⟨pre_blind, r_recv hK.1 hP 11 (ltPa_0 (vSc10 vSc_1)) (cePa_0 (vSc10 vSc_1) (s1 11)) rfl, pre_of hP hK⟩ rfl rfl hl.1 rfl (lv_room (Nat.le_of_ble_eq_true rfl)) dX10_hours_29 ⟨Nat.zero_le _, Nat.zero_le _⟩) hS (fun s2 H locs hv hP hS => ?_)
    have hD := wd_D (s := s) (cel := celC ad cA) (σ := s2) hi
    refine lv_aload_n hx hb dX10_hours_32 rfl (lv_at hl 0 rfl) ?_
    refine r_get hx hb hts (iwX10_hours_X10) hown hK.1 hP 0 (by decide) (ceGR_0 (s2 0)) rfl 0 (by decide) (hts _ kX10_hours_1) (v := .ref (ad 1)) rfl dX10_hours_33 ?_
    refine r_get hx hb hts (iwX10_hours_X7) hown hK.1 hP 1 (ltSc_0 vSc_1) (ceSc_0 vSc_1 (s2 1)) rfl 0 (by decide) (hts _ kX10_hours_3) (v := .ref (ad 2)) rfl dX10_hours_36 ?_
    refine lv_iload_n hx hb dX10_hours_39 rfl (lv_at hl 1 rfl) ?_
    refine lv_sipush (v := 9999) hx hb dX10_hours_40 (by decide) ?_
    refine lv_aload_n hx hb dX10_hours_43 rfl (lv_at hl 0 rfl) ?_
    refine r_get hx hb hts (iwX10_hours_X10) hown hK.1 hP 0 (by decide) (ceGR_0 (s2 0)) rfl 0 (by decide) (hts _ kX10_hours_1) (v := .ref (ad 1)) rfl dX10_hours_44 ?_
    refine r_get hx hb hts (iwX10_hours_X7) hown hK.1 hP 1 (ltSc_0 vSc_1) (ceSc_0 vSc_1 (s2 1)) rfl 0 (by decide) (hts _ kX10_hours_3) (v := .ref (ad 2)) rfl dX10_hours_47 ?_
    refine r_get hx hb hts (iwX10_hours_X8) hown hK.1 hP 2 (ltSt_0 (vSc1 vSc_1)) (ceSt_0 (vSc1 vSc_1) (s2 2)) rfl 11 (by decide) (hts _ kX10_hours_4) (v := .int (s2 2 11)) rfl dX10_hours_50 ?_
    refine lv_isub hx hb dX10_hours_53 ?_
    refine va_mmin hx hb (hml.trans hl.1.symm) hown (hts _ kX10_hours_5) (hts _ kX10_hours_6) (hts _ kX10_hours_7) (hts _ kX10_hours_8) (Nat.le_of_ble_eq_true rfl) (Nat.le_of_ble_eq_true rfl) (Nat.zero_le _) (Nat.zero_le _) dX10_hours_54 ?_
    refine r_cv (va_runV (As := [.int ((if (9999 - (s2 2 11)) < a1 then (9999 - (s2 2 11)) else a1))]) (rest := []) ⟨hx, hb, hml, hown, hts⟩ (c_X8_pass hi 2 ((if (9999 - (s2 2 11)) < a1 then (9999 - (s2 2 11)) else a1)) (vSc1 vSc_1) s2 _ hv H.size) (cwV 1 hts gX10_hours_X8_pass rfl rfl rfl (by decide +kernel) ⟨Nat.le_of_ble_eq_true rfl, Nat.le_of_ble_eq_true rfl⟩) ⟨pre_blind, r_recv hK.1 hP 2 (ltSt_0 (vSc1 vSc_1)) (ceSt_0 (vSc1 vSc_1) (s2 2)) rfl, pre_of hP hK⟩ rfl rfl hl.1 rfl (lv_room (Nat.le_of_ble_eq_true rfl)) dX10_hours_57 ⟨Nat.zero_le _, Nat.zero_le _⟩) hS (fun s3 H locs hv hP hS => ?_)
    have hD := wd_D (s := s) (cel := celC ad cA) (σ := s3) hi
    refine lv_aload_n hx hb dX10_hours_60 rfl (lv_at hl 0 rfl) ?_
    refine r_get hx hb hts (iwX10_hours_X10) hown hK.1 hP 0 (by decide) (ceGR_0 (s3 0)) rfl 0 (by decide) (hts _ kX10_hours_1) (v := .ref (ad 1)) rfl dX10_hours_61 ?_
    refine r_get hx hb hts (iwX10_hours_X7) hown hK.1 hP 1 (ltSc_0 vSc_1) (ceSc_0 vSc_1 (s3 1)) rfl 0 (by decide) (hts _ kX10_hours_3) (v := .ref (ad 2)) rfl dX10_hours_64 ?_
    refine r_ci (va_runV (As := []) (rest := []) ⟨hx, hb, hml, hown, hts⟩ (c_X8_over hi 2 (vSc1 vSc_1) s3 _ hv H.size) (cwV 0 hts gX10_hours_X8_over rfl rfl rfl (by decide +kernel) ⟨Nat.le_of_ble_eq_true rfl, Nat.le_of_ble_eq_true rfl⟩) ⟨pre_blind, r_recv hK.1 hP 2 (ltSt_0 (vSc1 vSc_1)) (ceSt_0 (vSc1 vSc_1) (s3 2)) rfl, pre_of hP hK⟩ rfl rfl hl.1 rfl (lv_room (Nat.le_of_ble_eq_true rfl)) dX10_hours_67 ⟨Nat.zero_le _, Nat.zero_le _⟩) hS (fun r4 s4 H locs hv hP hS => ?_)
    have hD := wd_D (s := s) (cel := celC ad cA) (σ := s4) hi
    exact r_iret hx hb hr hlocks hv hP hS dX10_hours_70
  · have hv := hv.2 c7
    refine lv_aload_n hx hb dX10_hours_10 rfl (lv_at hl 0 rfl) ?_
    refine r_ci (va_runV (As := []) (rest := []) ⟨hx, hb, hml, hown, hts⟩ (c_X10_bad hi  s1 _ hv H.size) (cwV 0 hts gX10_hours_X10_bad rfl rfl rfl (by decide +kernel) ⟨Nat.le_of_ble_eq_true rfl, Nat.le_of_ble_eq_true rfl⟩) ⟨pre_blind, r_recv hK.1 hP 0 (by decide) (ceGR_0 (s1 0)) rfl, pre_of hP hK⟩ rfl rfl hl.1 rfl (lv_room (Nat.le_of_ble_eq_true rfl)) dX10_hours_11 ⟨Nat.zero_le _, Nat.zero_le _⟩) hS (fun r5 s5 H locs hv hP hS => ?_)
    have hD := wd_D (s := s) (cel := celC ad cA) (σ := s5) hi
    exact r_iret hx hb hr hlocks hv hP hS dX10_hours_14
set_option maxHeartbeats 4000000 in
theorem y_X10_hours {p : Program} {l : Launch} {e : Env} {s : State} {m : MethodId} {args : Array Value} {below : List Frame} {meth : Method} {c : Code} {dC : Nat → ClassId} {dI : Nat → Nat → Nat} {ad : Nat → Nat} {cA cZ : ClassId} (hi : Inj 81 ad) (a1 : Int32)  (C0 : Cx cX10_hours RX10 wsX10_hours 2 (some .int) p s m args meth c) (hK : KK dC dI cA cZ s) (Q : Int32 → St → Prop) : ∀ P xs ys σ, R_X10_hours a1 Q P xs ys σ → XX p l e ({ frames := 4, cells := 0, slots := 0, locals := 91 } : Room) s m args below meth c (dC, dI) 81 ad (celC ad cA) 2 (ZI below args s (dC, dI) 81 ad (celC ad cA) Q) (lay_X10_hours ad a1) P xs ys σ := by
  refine Fx.elim _ (fun P xs ys σ Y hY hB => ?_)
  exact hB.elim
set_option maxHeartbeats 4000000 in
theorem c_X10_hours {l : Launch} {dC : Nat → ClassId} {dI : Nat → Nat → Nat} {ad : Nat → Nat} {cA cZ : ClassId} (hi : Inj 81 ad) (a1 : Int32)  (s0 : St) (Q : Int32 → St → Prop) (hv : V_X10_hours a1 s0 Q) (sz : Nat) : Met l yX10_hours wsX10_hours ({ frames := 4, cells := 0, slots := 0, locals := 91 } : Room) (va_Pc [.ref (ad 0), .int a1] (PW dC dI ad cA cZ 81 (celC ad cA) sz s0)) (va_Qi Q (fun u t => va_P (dC, dI) vwCl (wd 81 ad (celC ad cA) u) t.heap) (AA 81 ad sz)) 0 0 (AA 81 ad sz) := by
  refine Met.ofW (cc := cX10_hours) (maxL := 2) (ret := (some .int)) (by decide) rfl ?_
  intro p e s m args below meth c s₁ B hml hv0
  obtain ⟨rfl, hsz, hP, hK⟩ := hv0
  subst hsz
  have C0 : Cx cX10_hours RX10 wsX10_hours 2 (some .int) p s m ([.ref (ad 0), .int a1] : List Value).toArray meth c := ⟨B.exec, B.bytes, hml, findClass_of_methodNamed B.named, atoms_spec (ws := wsX10_hours) B.pre, B.returns, B.notSynchronized⟩
  have hl := lv_entry ([.ref (ad 0), .int a1]) (n := 2) (Nat.le_of_ble_eq_true rfl)
  rw [lg_entry_eq]
  generalize (lg_sl ([.ref (ad 0), .int a1]) ++ List.replicate (2 - (lg_sl ([.ref (ad 0), .int a1])).length) Slot.unset).toArray = ls at hl ⊢
  have hl : lv_has ls 2 [(0, .ref (ad 0)), (1, .int a1)] := hl
  exact w_X10_hours_e hi a1  C0 hK Q (R_X10_hours a1 Q) (y_X10_hours hi a1  C0 hK Q)  s0 hv hP va_S.rf hl
def lay_X10_isCrossing (ad : Nat → Nat) (a1 : Int32) : Nat → List Int32 → List Int64 → Option (List (Nat × Value) × List Value) := fun P xs ys => match P, xs, ys with
  | _, _, _ => none
set_option maxHeartbeats 4000000 in
set_option maxRecDepth 100000 in
theorem w_X10_isCrossing_e {p : Program} {l : Launch} {e : Env} {s : State} {m : MethodId} {args : Array Value} {below : List Frame} {meth : Method} {c : Code} {dC : Nat → ClassId} {dI : Nat → Nat → Nat} {ad : Nat → Nat} {cA cZ : ClassId} (hi : Inj 81 ad) (a1 : Int32)  (C0 : Cx cX10_isCrossing RX10 wsX10_isCrossing 2 (some .boolean) p s m args meth c) (hK : KK dC dI cA cZ s) (Q : Int32 → St → Prop) (Y : Nat → List Int32 → List Int64 → St → Prop) (hY : ∀ P xs ys σ, Y P xs ys σ → XX p l e ({ frames := 1, cells := 0, slots := 0, locals := 22 } : Room) s m args below meth c (dC, dI) 81 ad (celC ad cA) 2 (ZZ below args s (dC, dI) 81 ad (celC ad cA) Q) (lay_X10_isCrossing ad a1) P xs ys σ)  (s0 : St) (hv : B_X10_isCrossing_e a1 Q Y  s0) {H : Heap} {locs : List Loc} {ls : Array Slot} (hP : va_P (dC, dI) vwCl (wd 81 ad (celC ad cA) s0) H) (hS : va_S (AA 81 ad s.heap.size) s.heap H locs) (hl : lv_has ls 2 [(0, .ref (ad 0)), (1, .int a1)]) : W p l e ({ frames := 1, cells := 0, slots := 0, locals := 22 } : Room) s m args below meth c H locs 0 0 (ZZ below args s (dC, dI) 81 ad (celC ad cA) Q) (F0 m 0 ls []) := by
  obtain ⟨hx, hb, hml, hown, hts, hr, hlocks⟩ := C0
  have hD := wd_D (s := s) (cel := celC ad cA) (σ := s0) hi
  unfold B_X10_isCrossing_e at hv
  refine lv_iload_n hx hb dX10_isCrossing_0 rfl (lv_at hl 1 rfl) ?_
  refine lv_iconst (v := 0) hx hb dX10_isCrossing_1 (by decide) ?_
  refine lv_aload_n hx hb dX10_isCrossing_2 rfl (lv_at hl 0 rfl) ?_
  refine r_get hx hb hts (iwX10_isCrossing_X10) hown hK.1 hP 0 (by decide) (ceGR_0 (s0 0)) rfl 0 (by decide) (hts _ kX10_isCrossing_1) (v := .ref (ad 1)) rfl dX10_isCrossing_3 ?_
  refine r_get hx hb hts (iwX10_isCrossing_X7) hown hK.1 hP 1 (ltSc_0 vSc_1) (ceSc_0 vSc_1 (s0 1)) rfl 0 (by decide) (hts _ kX10_isCrossing_2) (v := .ref (ad 2)) rfl dX10_isCrossing_6 ?_
  refine r_get hx hb hts (iwX10_isCrossing_X8) hown hK.1 hP 2 (ltSt_0 (vSc1 vSc_1)) (ceSt_0 (vSc1 vSc_1) (s0 2)) rfl 9 (by decide) (hts _ kX10_isCrossing_3) (v := .int (s0 2 9)) rfl dX10_isCrossing_9 ?_
  refine lv_iconst (v := 1) hx hb dX10_isCrossing_12 (by decide) ?_
  refine lv_isub hx hb dX10_isCrossing_13 ?_
  refine r_ci (va_runS (As := [.int a1, .int 0, .int ((s0 2 9) - 1)]) (rest := []) ⟨hx, hb, hml, hown, hts⟩ (c_X10_within hi a1 0 ((s0 2 9) - 1) s0 _ hv H.size) (va_cwS 3 hts gX10_isCrossing_X10_within rfl rfl rfl (by decide +kernel) ⟨Nat.le_of_ble_eq_true rfl, Nat.le_of_ble_eq_true rfl⟩) ⟨pre_blind, pre_of hP hK⟩ rfl rfl hl.1 rfl (lv_room (Nat.le_of_ble_eq_true rfl)) dX10_isCrossing_14 ⟨Nat.zero_le _, Nat.zero_le _⟩) hS (fun r1 s1 H locs hv hP hS => ?_)
  obtain ⟨hz_r1, hv⟩ := hv
  have hD := wd_D (s := s) (cel := celC ad cA) (σ := s1) hi
  exact r_zret hx hb hr hlocks hz_r1 hv hP hS dX10_isCrossing_17
set_option maxHeartbeats 4000000 in
theorem y_X10_isCrossing {p : Program} {l : Launch} {e : Env} {s : State} {m : MethodId} {args : Array Value} {below : List Frame} {meth : Method} {c : Code} {dC : Nat → ClassId} {dI : Nat → Nat → Nat} {ad : Nat → Nat} {cA cZ : ClassId} (hi : Inj 81 ad) (a1 : Int32)  (C0 : Cx cX10_isCrossing RX10 wsX10_isCrossing 2 (some .boolean) p s m args meth c) (hK : KK dC dI cA cZ s) (Q : Int32 → St → Prop) : ∀ P xs ys σ, R_X10_isCrossing a1 Q P xs ys σ → XX p l e ({ frames := 1, cells := 0, slots := 0, locals := 22 } : Room) s m args below meth c (dC, dI) 81 ad (celC ad cA) 2 (ZZ below args s (dC, dI) 81 ad (celC ad cA) Q) (lay_X10_isCrossing ad a1) P xs ys σ := by
  refine Fx.elim _ (fun P xs ys σ Y hY hB => ?_)
  exact hB.elim
set_option maxHeartbeats 4000000 in
theorem c_X10_isCrossing {l : Launch} {dC : Nat → ClassId} {dI : Nat → Nat → Nat} {ad : Nat → Nat} {cA cZ : ClassId} (hi : Inj 81 ad) (a1 : Int32)  (s0 : St) (Q : Int32 → St → Prop) (hv : V_X10_isCrossing a1 s0 Q) (sz : Nat) : Met l yX10_isCrossing wsX10_isCrossing ({ frames := 1, cells := 0, slots := 0, locals := 22 } : Room) (va_Pc [.ref (ad 0), .int a1] (PW dC dI ad cA cZ 81 (celC ad cA) sz s0)) (va_Qi (fun r u => (r = 0 ∨ r = 1) ∧ Q r u) (fun u t => va_P (dC, dI) vwCl (wd 81 ad (celC ad cA) u) t.heap) (AA 81 ad sz)) 0 0 (AA 81 ad sz) := by
  refine Met.ofW (cc := cX10_isCrossing) (maxL := 2) (ret := (some .boolean)) (by decide) rfl ?_
  intro p e s m args below meth c s₁ B hml hv0
  obtain ⟨rfl, hsz, hP, hK⟩ := hv0
  subst hsz
  have C0 : Cx cX10_isCrossing RX10 wsX10_isCrossing 2 (some .boolean) p s m ([.ref (ad 0), .int a1] : List Value).toArray meth c := ⟨B.exec, B.bytes, hml, findClass_of_methodNamed B.named, atoms_spec (ws := wsX10_isCrossing) B.pre, B.returns, B.notSynchronized⟩
  have hl := lv_entry ([.ref (ad 0), .int a1]) (n := 2) (Nat.le_of_ble_eq_true rfl)
  rw [lg_entry_eq]
  generalize (lg_sl ([.ref (ad 0), .int a1]) ++ List.replicate (2 - (lg_sl ([.ref (ad 0), .int a1])).length) Slot.unset).toArray = ls at hl ⊢
  have hl : lv_has ls 2 [(0, .ref (ad 0)), (1, .int a1)] := hl
  exact w_X10_isCrossing_e hi a1  C0 hK Q (R_X10_isCrossing a1 Q) (y_X10_isCrossing hi a1  C0 hK Q)  s0 hv hP va_S.rf hl
def lay_X8_turn (ad : Nat → Nat) (h0 : Nat) (a1 : Int32) : Nat → List Int32 → List Int64 → Option (List (Nat × Value) × List Value) := fun P xs ys => match P, xs, ys with
  | _, _, _ => none
set_option maxHeartbeats 4000000 in
set_option maxRecDepth 100000 in
theorem w_X8_turn_e {p : Program} {l : Launch} {e : Env} {s : State} {m : MethodId} {args : Array Value} {below : List Frame} {meth : Method} {c : Code} {dC : Nat → ClassId} {dI : Nat → Nat → Nat} {ad : Nat → Nat} {cA cZ : ClassId} (hi : Inj 81 ad) (h0 : Nat) (a1 : Int32) (hh0 : isSt h0) (C0 : Cx cX8_turn RX8 wsX8_turn 2 none p s m args meth c) (hK : KK dC dI cA cZ s) (Q : St → Prop) (Y : Nat → List Int32 → List Int64 → St → Prop) (hY : ∀ P xs ys σ, Y P xs ys σ → XX p l e ({ frames := 0, cells := 0, slots := 0, locals := 0 } : Room) s m args below meth c (dC, dI) 81 ad (celC ad cA) 2 (ZV below args s (dC, dI) 81 ad (celC ad cA) Q) (lay_X8_turn ad h0 a1) P xs ys σ)  (s0 : St) (hv : B_X8_turn_e h0 a1 Q Y  s0) {H : Heap} {locs : List Loc} {ls : Array Slot} (hP : va_P (dC, dI) vwCl (wd 81 ad (celC ad cA) s0) H) (hS : va_S (AA 81 ad s.heap.size) s.heap H locs) (hl : lv_has ls 2 [(0, .ref (ad h0)), (1, .int a1)]) : W p l e ({ frames := 0, cells := 0, slots := 0, locals := 0 } : Room) s m args below meth c H locs 0 0 (ZV below args s (dC, dI) 81 ad (celC ad cA) Q) (F0 m 0 ls []) := by
  obtain ⟨hx, hb, hml, hown, hts, hr, hlocks⟩ := C0
  have hD := wd_D (s := s) (cel := celC ad cA) (σ := s0) hi
  unfold B_X8_turn_e at hv
  refine lv_aload_n hx hb dX8_turn_0 rfl (lv_at hl 0 rfl) ?_
  refine lv_dup hx hb dX8_turn_1 rfl ?_
  refine r_get hx hb hts (iwX8_turn_X8) hown hK.1 hP h0 (ltSt_0 hh0) (ceSt_0 hh0 (s0 h0)) rfl 10 (by decide) (hts _ kX8_turn_1) (v := .int (s0 h0 10)) rfl dX8_turn_2 ?_
  refine lv_iconst (v := 1) hx hb dX8_turn_5 (by decide) ?_
  refine lv_iload_n hx hb dX8_turn_6 rfl (lv_at hl 1 rfl) ?_
  refine lv_ishl hx hb dX8_turn_7 ?_
  refine lv_ixor hx hb dX8_turn_8 ?_
  refine r_put hx hb hts (iwX8_turn_X8) tyX8 tyX8_ok nmX8 hown hK.1 hP hD hS h0 (ltSt_0 hh0) (ceSt_0 hh0 (s0 h0)) rfl 10 (by decide) (hts _ kX8_turn_1) rfl (ty := .int) (v := .int ((s0 h0 10) ^^^ ((1 : Int32) <<< (a1 &&& 31)))) (by decide +kernel) rfl rfl (Nat.le_of_ble_eq_true rfl) (row := (upd (s0 h0) 10 ((s0 h0 10) ^^^ ((1 : Int32) <<< (a1 &&& 31))))) (by rw [(ceSt_0 hh0 (upd (s0 h0) 10 ((s0 h0 10) ^^^ ((1 : Int32) <<< (a1 &&& 31)))))]; rfl) dX8_turn_9 (fun H locs s1 es1 hP hD hS => ?_)
  have hv := hv s1 es1
  exact r_vret hx hb hr hlocks hv hP hS dX8_turn_12
set_option maxHeartbeats 4000000 in
theorem y_X8_turn {p : Program} {l : Launch} {e : Env} {s : State} {m : MethodId} {args : Array Value} {below : List Frame} {meth : Method} {c : Code} {dC : Nat → ClassId} {dI : Nat → Nat → Nat} {ad : Nat → Nat} {cA cZ : ClassId} (hi : Inj 81 ad) (h0 : Nat) (a1 : Int32) (hh0 : isSt h0) (C0 : Cx cX8_turn RX8 wsX8_turn 2 none p s m args meth c) (hK : KK dC dI cA cZ s) (Q : St → Prop) : ∀ P xs ys σ, R_X8_turn h0 a1 Q P xs ys σ → XX p l e ({ frames := 0, cells := 0, slots := 0, locals := 0 } : Room) s m args below meth c (dC, dI) 81 ad (celC ad cA) 2 (ZV below args s (dC, dI) 81 ad (celC ad cA) Q) (lay_X8_turn ad h0 a1) P xs ys σ := by
  refine Fx.elim _ (fun P xs ys σ Y hY hB => ?_)
  exact hB.elim
set_option maxHeartbeats 4000000 in
theorem c_X8_turn {l : Launch} {dC : Nat → ClassId} {dI : Nat → Nat → Nat} {ad : Nat → Nat} {cA cZ : ClassId} (hi : Inj 81 ad) (h0 : Nat) (a1 : Int32) (hh0 : isSt h0) (s0 : St) (Q : St → Prop) (hv : V_X8_turn h0 a1 s0 Q) (sz : Nat) : Met l yX8_turn wsX8_turn ({ frames := 0, cells := 0, slots := 0, locals := 0 } : Room) (va_Pc [.ref (ad h0), .int a1] (PW dC dI ad cA cZ 81 (celC ad cA) sz s0)) (va_Qv Q (fun u t => va_P (dC, dI) vwCl (wd 81 ad (celC ad cA) u) t.heap) (AA 81 ad sz)) 0 0 (AA 81 ad sz) := by
  refine Met.ofW (cc := cX8_turn) (maxL := 2) (ret := none) (by decide) rfl ?_
  intro p e s m args below meth c s₁ B hml hv0
  obtain ⟨rfl, hsz, hP, hK⟩ := hv0
  subst hsz
  have C0 : Cx cX8_turn RX8 wsX8_turn 2 none p s m ([.ref (ad h0), .int a1] : List Value).toArray meth c := ⟨B.exec, B.bytes, hml, findClass_of_methodNamed B.named, atoms_spec (ws := wsX8_turn) B.pre, B.returns, B.notSynchronized⟩
  have hl := lv_entry ([.ref (ad h0), .int a1]) (n := 2) (Nat.le_of_ble_eq_true rfl)
  rw [lg_entry_eq]
  generalize (lg_sl ([.ref (ad h0), .int a1]) ++ List.replicate (2 - (lg_sl ([.ref (ad h0), .int a1])).length) Slot.unset).toArray = ls at hl ⊢
  have hl : lv_has ls 2 [(0, .ref (ad h0)), (1, .int a1)] := hl
  exact w_X8_turn_e hi h0 a1 hh0 C0 hK Q (R_X8_turn h0 a1 Q) (y_X8_turn hi h0 a1 hh0 C0 hK Q)  s0 hv hP va_S.rf hl
def lay_X10_shuts (ad : Nat → Nat) (a1 : Int32) : Nat → List Int32 → List Int64 → Option (List (Nat × Value) × List Value) := fun P xs ys => match P, xs, ys with
  | _, _, _ => none
set_option maxHeartbeats 4000000 in
set_option maxRecDepth 100000 in
theorem w_X10_shuts_e {p : Program} {l : Launch} {e : Env} {s : State} {m : MethodId} {args : Array Value} {below : List Frame} {meth : Method} {c : Code} {dC : Nat → ClassId} {dI : Nat → Nat → Nat} {ad : Nat → Nat} {cA cZ : ClassId} (hi : Inj 81 ad) (a1 : Int32)  (C0 : Cx cX10_shuts RX10 wsX10_shuts 2 (some .int) p s m args meth c) (hK : KK dC dI cA cZ s) (Q : Int32 → St → Prop) (Y : Nat → List Int32 → List Int64 → St → Prop) (hY : ∀ P xs ys σ, Y P xs ys σ → XX p l e ({ frames := 2, cells := 0, slots := 0, locals := 57 } : Room) s m args below meth c (dC, dI) 81 ad (celC ad cA) 2 (ZI below args s (dC, dI) 81 ad (celC ad cA) Q) (lay_X10_shuts ad a1) P xs ys σ)  (s0 : St) (hv : B_X10_shuts_e a1 Q Y  s0) {H : Heap} {locs : List Loc} {ls : Array Slot} (hP : va_P (dC, dI) vwCl (wd 81 ad (celC ad cA) s0) H) (hS : va_S (AA 81 ad s.heap.size) s.heap H locs) (hl : lv_has ls 2 [(0, .ref (ad 0)), (1, .int a1)]) : W p l e ({ frames := 2, cells := 0, slots := 0, locals := 57 } : Room) s m args below meth c H locs 0 0 (ZI below args s (dC, dI) 81 ad (celC ad cA) Q) (F0 m 0 ls []) := by
  obtain ⟨hx, hb, hml, hown, hts, hr, hlocks⟩ := C0
  have hD := wd_D (s := s) (cel := celC ad cA) (σ := s0) hi
  unfold B_X10_shuts_e at hv
  refine lv_aload_n hx hb dX10_shuts_0 rfl (lv_at hl 0 rfl) ?_
  refine lv_iload_n hx hb dX10_shuts_1 rfl (lv_at hl 1 rfl) ?_
  refine r_ci (va_runV (As := [.int a1]) (rest := []) ⟨hx, hb, hml, hown, hts⟩ (c_X10_isCrossing hi a1 s0 _ hv H.size) (cwV 1 hts gX10_shuts_X10_isCrossing rfl rfl rfl (by decide +kernel) ⟨Nat.le_of_ble_eq_true rfl, Nat.le_of_ble_eq_true rfl⟩) ⟨pre_blind, r_recv hK.1 hP 0 (by decide) (ceGR_0 (s0 0)) rfl, pre_of hP hK⟩ rfl rfl hl.1 rfl (lv_room (Nat.le_of_ble_eq_true rfl)) dX10_shuts_2 ⟨Nat.zero_le _, Nat.zero_le _⟩) hS (fun r1 s1 H locs hv hP hS => ?_)
  obtain ⟨hz_r1, hv⟩ := hv
  have hD := wd_D (s := s) (cel := celC ad cA) (σ := s1) hi
  refine lv_if_ne (tgt := 13) hx hb dX10_shuts_5 (by decide) (fun c5 => ?_) (fun c5 => ?_)
  · have hv := hv.1 c5
    refine lv_aload_n hx hb dX10_shuts_13 rfl (lv_at hl 0 rfl) ?_
    refine r_get hx hb hts (iwX10_shuts_X10) hown hK.1 hP 0 (by decide) (ceGR_0 (s1 0)) rfl 0 (by decide) (hts _ kX10_shuts_1) (v := .ref (ad 1)) rfl dX10_shuts_14 ?_
    refine r_get hx hb hts (iwX10_shuts_X7) hown hK.1 hP 1 (ltSc_0 vSc_1) (ceSc_0 vSc_1 (s1 1)) rfl 1 (by decide) (hts _ kX10_shuts_2) (v := .ref (ad 11)) rfl dX10_shuts_17 ?_
    refine lv_aload_n hx hb dX10_shuts_20 rfl (lv_at hl 0 rfl) ?_
    refine r_get hx hb hts (iwX10_shuts_X10) hown hK.1 hP 0 (by decide) (ceGR_0 (s1 0)) rfl 0 (by decide) (hts _ kX10_shuts_1) (v := .ref (ad 1)) rfl dX10_shuts_21 ?_
    refine r_get hx hb hts (iwX10_shuts_X7) hown hK.1 hP 1 (ltSc_0 vSc_1) (ceSc_0 vSc_1 (s1 1)) rfl 0 (by decide) (hts _ kX10_shuts_3) (v := .ref (ad 2)) rfl dX10_shuts_24 ?_
    refine r_cv (va_runV (As := [.ref (ad 2)]) (rest := []) ⟨hx, hb, hml, hown, hts⟩ (c_X4_keep hi 11 2 (vSc10 vSc_1) (vSc1 vSc_1) s1 _ hv H.size) (cwV 1 hts gX10_shuts_X4_keep rfl rfl rfl (by decide +kernel) ⟨Nat.le_of_ble_eq_true rfl, Nat.le_of_ble_eq_true rfl⟩) ⟨pre_blind, r_recv hK.1 hP 11 (ltPa_0 (vSc10 vSc_1)) (cePa_0 (vSc10 vSc_1) (s1 11)) rfl, pre_of hP hK⟩ rfl rfl hl.1 rfl (lv_room (Nat.le_of_ble_eq_true rfl)) dX10_shuts_27 ⟨Nat.zero_le _, Nat.zero_le _⟩) hS (fun s2 H locs hv hP hS => ?_)
    have hD := wd_D (s := s) (cel := celC ad cA) (σ := s2) hi
    refine lv_aload_n hx hb dX10_shuts_30 rfl (lv_at hl 0 rfl) ?_
    refine r_get hx hb hts (iwX10_shuts_X10) hown hK.1 hP 0 (by decide) (ceGR_0 (s2 0)) rfl 0 (by decide) (hts _ kX10_shuts_1) (v := .ref (ad 1)) rfl dX10_shuts_31 ?_
    refine r_get hx hb hts (iwX10_shuts_X7) hown hK.1 hP 1 (ltSc_0 vSc_1) (ceSc_0 vSc_1 (s2 1)) rfl 0 (by decide) (hts _ kX10_shuts_3) (v := .ref (ad 2)) rfl dX10_shuts_34 ?_
    refine lv_iload_n hx hb dX10_shuts_37 rfl (lv_at hl 1 rfl) ?_
    refine r_cv (va_runV (As := [.int a1]) (rest := []) ⟨hx, hb, hml, hown, hts⟩ (c_X8_turn hi 2 a1 (vSc1 vSc_1) s2 _ hv H.size) (cwV 1 hts gX10_shuts_X8_turn rfl rfl rfl (by decide +kernel) ⟨Nat.le_of_ble_eq_true rfl, Nat.le_of_ble_eq_true rfl⟩) ⟨pre_blind, r_recv hK.1 hP 2 (ltSt_0 (vSc1 vSc_1)) (ceSt_0 (vSc1 vSc_1) (s2 2)) rfl, pre_of hP hK⟩ rfl rfl hl.1 rfl (lv_room (Nat.le_of_ble_eq_true rfl)) dX10_shuts_38 ⟨Nat.zero_le _, Nat.zero_le _⟩) hS (fun s3 H locs hv hP hS => ?_)
    have hD := wd_D (s := s) (cel := celC ad cA) (σ := s3) hi
    refine lv_aload_n hx hb dX10_shuts_41 rfl (lv_at hl 0 rfl) ?_
    refine r_get hx hb hts (iwX10_shuts_X10) hown hK.1 hP 0 (by decide) (ceGR_0 (s3 0)) rfl 0 (by decide) (hts _ kX10_shuts_1) (v := .ref (ad 1)) rfl dX10_shuts_42 ?_
    refine r_get hx hb hts (iwX10_shuts_X7) hown hK.1 hP 1 (ltSc_0 vSc_1) (ceSc_0 vSc_1 (s3 1)) rfl 0 (by decide) (hts _ kX10_shuts_3) (v := .ref (ad 2)) rfl dX10_shuts_45 ?_
    refine lv_iload_n hx hb dX10_shuts_48 rfl (lv_at hl 1 rfl) ?_
    refine r_ci (va_runV (As := [.int a1]) (rest := []) ⟨hx, hb, hml, hown, hts⟩ (c_X8_shutBit hi 2 a1 (vSc1 vSc_1) s3 _ hv H.size) (cwV 1 hts gX10_shuts_X8_shutBit rfl rfl rfl (by decide +kernel) ⟨Nat.le_of_ble_eq_true rfl, Nat.le_of_ble_eq_true rfl⟩) ⟨pre_blind, r_recv hK.1 hP 2 (ltSt_0 (vSc1 vSc_1)) (ceSt_0 (vSc1 vSc_1) (s3 2)) rfl, pre_of hP hK⟩ rfl rfl hl.1 rfl (lv_room (Nat.le_of_ble_eq_true rfl)) dX10_shuts_49 ⟨Nat.zero_le _, Nat.zero_le _⟩) hS (fun r4 s4 H locs hv hP hS => ?_)
    have hD := wd_D (s := s) (cel := celC ad cA) (σ := s4) hi
    exact r_iret hx hb hr hlocks hv hP hS dX10_shuts_52
  · have hv := hv.2 c5
    refine lv_aload_n hx hb dX10_shuts_8 rfl (lv_at hl 0 rfl) ?_
    refine r_ci (va_runV (As := []) (rest := []) ⟨hx, hb, hml, hown, hts⟩ (c_X10_bad hi  s1 _ hv H.size) (cwV 0 hts gX10_shuts_X10_bad rfl rfl rfl (by decide +kernel) ⟨Nat.le_of_ble_eq_true rfl, Nat.le_of_ble_eq_true rfl⟩) ⟨pre_blind, r_recv hK.1 hP 0 (by decide) (ceGR_0 (s1 0)) rfl, pre_of hP hK⟩ rfl rfl hl.1 rfl (lv_room (Nat.le_of_ble_eq_true rfl)) dX10_shuts_9 ⟨Nat.zero_le _, Nat.zero_le _⟩) hS (fun r5 s5 H locs hv hP hS => ?_)
    have hD := wd_D (s := s) (cel := celC ad cA) (σ := s5) hi
    exact r_iret hx hb hr hlocks hv hP hS dX10_shuts_12
set_option maxHeartbeats 4000000 in
theorem y_X10_shuts {p : Program} {l : Launch} {e : Env} {s : State} {m : MethodId} {args : Array Value} {below : List Frame} {meth : Method} {c : Code} {dC : Nat → ClassId} {dI : Nat → Nat → Nat} {ad : Nat → Nat} {cA cZ : ClassId} (hi : Inj 81 ad) (a1 : Int32)  (C0 : Cx cX10_shuts RX10 wsX10_shuts 2 (some .int) p s m args meth c) (hK : KK dC dI cA cZ s) (Q : Int32 → St → Prop) : ∀ P xs ys σ, R_X10_shuts a1 Q P xs ys σ → XX p l e ({ frames := 2, cells := 0, slots := 0, locals := 57 } : Room) s m args below meth c (dC, dI) 81 ad (celC ad cA) 2 (ZI below args s (dC, dI) 81 ad (celC ad cA) Q) (lay_X10_shuts ad a1) P xs ys σ := by
  refine Fx.elim _ (fun P xs ys σ Y hY hB => ?_)
  exact hB.elim
set_option maxHeartbeats 4000000 in
theorem c_X10_shuts {l : Launch} {dC : Nat → ClassId} {dI : Nat → Nat → Nat} {ad : Nat → Nat} {cA cZ : ClassId} (hi : Inj 81 ad) (a1 : Int32)  (s0 : St) (Q : Int32 → St → Prop) (hv : V_X10_shuts a1 s0 Q) (sz : Nat) : Met l yX10_shuts wsX10_shuts ({ frames := 2, cells := 0, slots := 0, locals := 57 } : Room) (va_Pc [.ref (ad 0), .int a1] (PW dC dI ad cA cZ 81 (celC ad cA) sz s0)) (va_Qi Q (fun u t => va_P (dC, dI) vwCl (wd 81 ad (celC ad cA) u) t.heap) (AA 81 ad sz)) 0 0 (AA 81 ad sz) := by
  refine Met.ofW (cc := cX10_shuts) (maxL := 2) (ret := (some .int)) (by decide) rfl ?_
  intro p e s m args below meth c s₁ B hml hv0
  obtain ⟨rfl, hsz, hP, hK⟩ := hv0
  subst hsz
  have C0 : Cx cX10_shuts RX10 wsX10_shuts 2 (some .int) p s m ([.ref (ad 0), .int a1] : List Value).toArray meth c := ⟨B.exec, B.bytes, hml, findClass_of_methodNamed B.named, atoms_spec (ws := wsX10_shuts) B.pre, B.returns, B.notSynchronized⟩
  have hl := lv_entry ([.ref (ad 0), .int a1]) (n := 2) (Nat.le_of_ble_eq_true rfl)
  rw [lg_entry_eq]
  generalize (lg_sl ([.ref (ad 0), .int a1]) ++ List.replicate (2 - (lg_sl ([.ref (ad 0), .int a1])).length) Slot.unset).toArray = ls at hl ⊢
  have hl : lv_has ls 2 [(0, .ref (ad 0)), (1, .int a1)] := hl
  exact w_X10_shuts_e hi a1  C0 hK Q (R_X10_shuts a1 Q) (y_X10_shuts hi a1  C0 hK Q)  s0 hv hP va_S.rf hl
def lay_X10_no (ad : Nat → Nat)  : Nat → List Int32 → List Int64 → Option (List (Nat × Value) × List Value) := fun P xs ys => match P, xs, ys with
  | _, _, _ => none
set_option maxHeartbeats 4000000 in
set_option maxRecDepth 100000 in
theorem w_X10_no_e {p : Program} {l : Launch} {e : Env} {s : State} {m : MethodId} {args : Array Value} {below : List Frame} {meth : Method} {c : Code} {dC : Nat → ClassId} {dI : Nat → Nat → Nat} {ad : Nat → Nat} {cA cZ : ClassId} (hi : Inj 81 ad)   (C0 : Cx cX10_no RX10 wsX10_no 1 (some .int) p s m args meth c) (hK : KK dC dI cA cZ s) (Q : Int32 → St → Prop) (Y : Nat → List Int32 → List Int64 → St → Prop) (hY : ∀ P xs ys σ, Y P xs ys σ → XX p l e ({ frames := 0, cells := 0, slots := 0, locals := 0 } : Room) s m args below meth c (dC, dI) 81 ad (celC ad cA) 1 (ZI below args s (dC, dI) 81 ad (celC ad cA) Q) (lay_X10_no ad ) P xs ys σ)  (s0 : St) (hv : B_X10_no_e  Q Y  s0) {H : Heap} {locs : List Loc} {ls : Array Slot} (hP : va_P (dC, dI) vwCl (wd 81 ad (celC ad cA) s0) H) (hS : va_S (AA 81 ad s.heap.size) s.heap H locs) (hl : lv_has ls 1 [(0, .ref (ad 0))]) : W p l e ({ frames := 0, cells := 0, slots := 0, locals := 0 } : Room) s m args below meth c H locs 0 0 (ZI below args s (dC, dI) 81 ad (celC ad cA) Q) (F0 m 0 ls []) := by
  obtain ⟨hx, hb, hml, hown, hts, hr, hlocks⟩ := C0
  have hD := wd_D (s := s) (cel := celC ad cA) (σ := s0) hi
  unfold B_X10_no_e at hv
  refine lv_aload_n hx hb dX10_no_0 rfl (lv_at hl 0 rfl) ?_
  refine lv_dup hx hb dX10_no_1 rfl ?_
  refine r_get hx hb hts (iwX10_no_X10) hown hK.1 hP 0 (by decide) (ceGR_0 (s0 0)) rfl 11 (by decide) (hts _ kX10_no_1) (v := .int (s0 0 11)) rfl dX10_no_2 ?_
  refine lv_iconst (v := 1) hx hb dX10_no_5 (by decide) ?_
  refine lv_iadd hx hb dX10_no_6 ?_
  refine r_put hx hb hts (iwX10_no_X10) tyX10 tyX10_ok nmX10 hown hK.1 hP hD hS 0 (by decide) (ceGR_0 (s0 0)) rfl 11 (by decide) (hts _ kX10_no_1) rfl (ty := .int) (v := .int ((s0 0 11) + 1)) (by decide +kernel) rfl rfl (Nat.le_of_ble_eq_true rfl) (row := (upd (s0 0) 11 ((s0 0 11) + 1))) (by rw [(ceGR_0 (upd (s0 0) 11 ((s0 0 11) + 1)))]; rfl) dX10_no_7 (fun H locs s1 es1 hP hD hS => ?_)
  have hv := hv s1 es1
  refine lv_bipush (v := (-3)) hx hb dX10_no_10 (by decide) ?_
  exact r_iret hx hb hr hlocks hv hP hS dX10_no_12
set_option maxHeartbeats 4000000 in
theorem y_X10_no {p : Program} {l : Launch} {e : Env} {s : State} {m : MethodId} {args : Array Value} {below : List Frame} {meth : Method} {c : Code} {dC : Nat → ClassId} {dI : Nat → Nat → Nat} {ad : Nat → Nat} {cA cZ : ClassId} (hi : Inj 81 ad)   (C0 : Cx cX10_no RX10 wsX10_no 1 (some .int) p s m args meth c) (hK : KK dC dI cA cZ s) (Q : Int32 → St → Prop) : ∀ P xs ys σ, R_X10_no  Q P xs ys σ → XX p l e ({ frames := 0, cells := 0, slots := 0, locals := 0 } : Room) s m args below meth c (dC, dI) 81 ad (celC ad cA) 1 (ZI below args s (dC, dI) 81 ad (celC ad cA) Q) (lay_X10_no ad ) P xs ys σ := by
  refine Fx.elim _ (fun P xs ys σ Y hY hB => ?_)
  exact hB.elim
set_option maxHeartbeats 4000000 in
theorem c_X10_no {l : Launch} {dC : Nat → ClassId} {dI : Nat → Nat → Nat} {ad : Nat → Nat} {cA cZ : ClassId} (hi : Inj 81 ad)   (s0 : St) (Q : Int32 → St → Prop) (hv : V_X10_no  s0 Q) (sz : Nat) : Met l yX10_no wsX10_no ({ frames := 0, cells := 0, slots := 0, locals := 0 } : Room) (va_Pc [.ref (ad 0)] (PW dC dI ad cA cZ 81 (celC ad cA) sz s0)) (va_Qi Q (fun u t => va_P (dC, dI) vwCl (wd 81 ad (celC ad cA) u) t.heap) (AA 81 ad sz)) 0 0 (AA 81 ad sz) := by
  refine Met.ofW (cc := cX10_no) (maxL := 1) (ret := (some .int)) (by decide) rfl ?_
  intro p e s m args below meth c s₁ B hml hv0
  obtain ⟨rfl, hsz, hP, hK⟩ := hv0
  subst hsz
  have C0 : Cx cX10_no RX10 wsX10_no 1 (some .int) p s m ([.ref (ad 0)] : List Value).toArray meth c := ⟨B.exec, B.bytes, hml, findClass_of_methodNamed B.named, atoms_spec (ws := wsX10_no) B.pre, B.returns, B.notSynchronized⟩
  have hl := lv_entry ([.ref (ad 0)]) (n := 1) (Nat.le_of_ble_eq_true rfl)
  rw [lg_entry_eq]
  generalize (lg_sl ([.ref (ad 0)]) ++ List.replicate (1 - (lg_sl ([.ref (ad 0)])).length) Slot.unset).toArray = ls at hl ⊢
  have hl : lv_has ls 1 [(0, .ref (ad 0))] := hl
  exact w_X10_no_e hi   C0 hK Q (R_X10_no  Q) (y_X10_no hi   C0 hK Q)  s0 hv hP va_S.rf hl
def lay_X4_bringBack (ad : Nat → Nat) (h0 : Nat) (h1 : Nat) : Nat → List Int32 → List Int64 → Option (List (Nat × Value) × List Value) := fun P xs ys => match P, xs, ys with
  | _, _, _ => none
set_option maxHeartbeats 4000000 in
set_option maxRecDepth 100000 in
theorem w_X4_bringBack_e {p : Program} {l : Launch} {e : Env} {s : State} {m : MethodId} {args : Array Value} {below : List Frame} {meth : Method} {c : Code} {dC : Nat → ClassId} {dI : Nat → Nat → Nat} {ad : Nat → Nat} {cA cZ : ClassId} (hi : Inj 81 ad) (h0 : Nat) (h1 : Nat) (hh0 : isPa h0) (hh1 : isSt h1) (C0 : Cx cX4_bringBack RX4 wsX4_bringBack 3 none p s m args meth c) (hK : KK dC dI cA cZ s) (Q : St → Prop) (Y : Nat → List Int32 → List Int64 → St → Prop) (hY : ∀ P xs ys σ, Y P xs ys σ → XX p l e ({ frames := 1, cells := 0, slots := 0, locals := 35 } : Room) s m args below meth c (dC, dI) 81 ad (celC ad cA) 3 (ZV below args s (dC, dI) 81 ad (celC ad cA) Q) (lay_X4_bringBack ad h0 h1) P xs ys σ)  (s0 : St) (hv : B_X4_bringBack_e h0 h1 Q Y  s0) {H : Heap} {locs : List Loc} {ls : Array Slot} (hP : va_P (dC, dI) vwCl (wd 81 ad (celC ad cA) s0) H) (hS : va_S (AA 81 ad s.heap.size) s.heap H locs) (hl : lv_has ls 3 [(0, .ref (ad h0)), (1, .ref (ad h1))]) : W p l e ({ frames := 1, cells := 0, slots := 0, locals := 35 } : Room) s m args below meth c H locs 0 0 (ZV below args s (dC, dI) 81 ad (celC ad cA) Q) (F0 m 0 ls []) := by
  obtain ⟨hx, hb, hml, hown, hts, hr, hlocks⟩ := C0
  have hD := wd_D (s := s) (cel := celC ad cA) (σ := s0) hi
  unfold B_X4_bringBack_e at hv
  refine lv_aload_n hx hb dX4_bringBack_0 rfl (lv_at hl 0 rfl) ?_
  refine r_get hx hb hts (iwX4_bringBack_X4) hown hK.1 hP h0 (ltPa_0 hh0) (cePa_0 hh0 (s0 h0)) rfl 1 (by decide) (hts _ kX4_bringBack_1) (v := .int (s0 h0 1)) rfl dX4_bringBack_1 ?_
  refine lv_if_gt (tgt := 8) hx hb dX4_bringBack_4 (by decide) (fun c4 => ?_) (fun c4 => ?_)
  · have hv := hv.1 c4
    refine lv_aload_n hx hb dX4_bringBack_8 rfl (lv_at hl 0 rfl) ?_
    refine lv_dup hx hb dX4_bringBack_9 rfl ?_
    refine r_get hx hb hts (iwX4_bringBack_X4) hown hK.1 hP h0 (ltPa_0 hh0) (cePa_0 hh0 (s0 h0)) rfl 1 (by decide) (hts _ kX4_bringBack_1) (v := .int (s0 h0 1)) rfl dX4_bringBack_10 ?_
    refine lv_iconst (v := 1) hx hb dX4_bringBack_13 (by decide) ?_
    refine lv_isub hx hb dX4_bringBack_14 ?_
    refine r_put hx hb hts (iwX4_bringBack_X4) tyX4 tyX4_ok nmX4 hown hK.1 hP hD hS h0 (ltPa_0 hh0) (cePa_0 hh0 (s0 h0)) rfl 1 (by decide) (hts _ kX4_bringBack_1) rfl (ty := .int) (v := .int ((s0 h0 1) - 1)) (by decide +kernel) rfl rfl (Nat.le_of_ble_eq_true rfl) (row := (upd (s0 h0) 1 ((s0 h0 1) - 1))) (by rw [(cePa_0 hh0 (upd (s0 h0) 1 ((s0 h0 1) - 1)))]; rfl) dX4_bringBack_15 (fun H locs s1 es1 hP hD hS => ?_)
    have hv := hv s1 es1
    refine lv_aload_n hx hb dX4_bringBack_18 rfl (lv_at hl 0 rfl) ?_
    refine r_get hx hb hts (iwX4_bringBack_X4) hown hK.1 hP h0 (ltPa_0 hh0) (cePa_0 hh0 (s1 h0)) rfl 1 (by decide) (hts _ kX4_bringBack_1) (v := .int (s1 h0 1)) rfl dX4_bringBack_19 ?_
    refine lv_bipush (v := 9) hx hb dX4_bringBack_22 (by decide) ?_
    refine lv_imul hx hb dX4_bringBack_24 ?_
    refine lv_istore_n (lv' := [(2, .int ((s1 h0 1) * 9)), (0, .ref (ad h0)), (1, .ref (ad h1))]) hx hb dX4_bringBack_25 rfl hl (by decide) rfl (fun ls hl => ?_)
    refine lv_aload_n hx hb dX4_bringBack_26 rfl (lv_at hl 1 rfl) ?_
    refine r_get hx hb hts (iwX4_bringBack_X4) hown hK.1 hP h0 (ltPa_0 hh0) (cePa_0 hh0 (s1 h0)) rfl 0 (by decide) (hts _ kX4_bringBack_2) (v := .ref (ad (h0 + 1))) rfl dX4_bringBack_27 ?_
    refine lv_iload_n hx hb dX4_bringBack_30 rfl (lv_at hl 0 rfl) ?_
    refine lv_aload_n hx hb dX4_bringBack_31 rfl (lv_at hl 2 rfl) ?_
    refine r_get hx hb hts (iwX4_bringBack_X8) hown hK.1 hP h1 (ltSt_0 hh1) (ceSt_0 hh1 (s1 h1)) rfl 3 (by decide) (hts _ kX4_bringBack_3) (v := .ref (ad (h1 + 4))) rfl dX4_bringBack_32 ?_
    refine lv_iconst (v := 0) hx hb dX4_bringBack_35 (by decide) ?_
    refine lv_bipush (v := 7) hx hb dX4_bringBack_36 (by decide) ?_
    obtain ⟨hcp0, hv⟩ := hv
    obtain ⟨hcp3, hv⟩ := hv
    refine r_copy (sp' := (((s1 h0 1) * 9).toNatClampNeg)) (dp' := 0) (n' := 7) hx hb (hml.trans hl.1.symm) hown (hts _ kX4_bringBack_4) (hts _ kX4_bringBack_5) (hts _ kX4_bringBack_6) (hts _ kX4_bringBack_7) hK.1 hP hD hS (h0 + 1) (h1 + 4) (ltPa_1 hh0) (ltSt_4 hh1) (cePa_1 hh0 (s1 (h0 + 1))) (ceSt_4 hh1 (s1 (h1 + 4))) (ceSt_4 hh1 _) hcp0 (by decide) (by decide) rfl rfl rfl hcp3 (by decide) (Nat.le_of_ble_eq_true rfl) (Nat.le_of_ble_eq_true rfl) dX4_bringBack_38 (fun H locs s2 es2 hP hD hS => ?_)
    have hv := hv s2 es2
    refine lv_aload_n hx hb dX4_bringBack_41 rfl (lv_at hl 2 rfl) ?_
    refine lv_aload_n hx hb dX4_bringBack_42 rfl (lv_at hl 1 rfl) ?_
    refine r_get hx hb hts (iwX4_bringBack_X4) hown hK.1 hP h0 (ltPa_0 hh0) (cePa_0 hh0 (s2 h0)) rfl 0 (by decide) (hts _ kX4_bringBack_2) (v := .ref (ad (h0 + 1))) rfl dX4_bringBack_43 ?_
    refine lv_iload_n hx hb dX4_bringBack_46 rfl (lv_at hl 0 rfl) ?_
    refine lv_bipush (v := 7) hx hb dX4_bringBack_47 (by decide) ?_
    refine lv_iadd hx hb dX4_bringBack_49 ?_
    obtain ⟨hin, hv⟩ := hv
    refine r_iald hx hb hK.1 hP (h0 + 1) (ltPa_1 hh0) (cePa_1 hh0 (s2 (h0 + 1))) hin dX4_bringBack_50 ?_
    refine r_put hx hb hts (iwX4_bringBack_X8) tyX8 tyX8_ok nmX8 hown hK.1 hP hD hS h1 (ltSt_0 hh1) (ceSt_0 hh1 (s2 h1)) rfl 10 (by decide) (hts _ kX4_bringBack_8) rfl (ty := .int) (v := .int (s2 (h0 + 1) (((s1 h0 1) * 9) + 7).toNatClampNeg)) (by decide +kernel) rfl rfl (Nat.le_of_ble_eq_true rfl) (row := (upd (s2 h1) 10 (s2 (h0 + 1) (((s1 h0 1) * 9) + 7).toNatClampNeg))) (by rw [(ceSt_0 hh1 (upd (s2 h1) 10 (s2 (h0 + 1) (((s1 h0 1) * 9) + 7).toNatClampNeg)))]; rfl) dX4_bringBack_51 (fun H locs s3 es3 hP hD hS => ?_)
    have hv := hv s3 es3
    refine lv_aload_n hx hb dX4_bringBack_54 rfl (lv_at hl 2 rfl) ?_
    refine lv_aload_n hx hb dX4_bringBack_55 rfl (lv_at hl 1 rfl) ?_
    refine r_get hx hb hts (iwX4_bringBack_X4) hown hK.1 hP h0 (ltPa_0 hh0) (cePa_0 hh0 (s3 h0)) rfl 0 (by decide) (hts _ kX4_bringBack_2) (v := .ref (ad (h0 + 1))) rfl dX4_bringBack_56 ?_
    refine lv_iload_n hx hb dX4_bringBack_59 rfl (lv_at hl 0 rfl) ?_
    refine lv_bipush (v := 8) hx hb dX4_bringBack_60 (by decide) ?_
    refine lv_iadd hx hb dX4_bringBack_62 ?_
    obtain ⟨hin, hv⟩ := hv
    refine r_iald hx hb hK.1 hP (h0 + 1) (ltPa_1 hh0) (cePa_1 hh0 (s3 (h0 + 1))) hin dX4_bringBack_63 ?_
    refine r_put hx hb hts (iwX4_bringBack_X8) tyX8 tyX8_ok nmX8 hown hK.1 hP hD hS h1 (ltSt_0 hh1) (ceSt_0 hh1 (s3 h1)) rfl 11 (by decide) (hts _ kX4_bringBack_9) rfl (ty := .int) (v := .int (s3 (h0 + 1) (((s1 h0 1) * 9) + 8).toNatClampNeg)) (by decide +kernel) rfl rfl (Nat.le_of_ble_eq_true rfl) (row := (upd (s3 h1) 11 (s3 (h0 + 1) (((s1 h0 1) * 9) + 8).toNatClampNeg))) (by rw [(ceSt_0 hh1 (upd (s3 h1) 11 (s3 (h0 + 1) (((s1 h0 1) * 9) + 8).toNatClampNeg)))]; rfl) dX4_bringBack_64 (fun H locs s4 es4 hP hD hS => ?_)
    have hv := hv s4 es4
    exact r_vret hx hb hr hlocks hv hP hS dX4_bringBack_67
  · have hv := hv.2 c4
    exact r_vret hx hb hr hlocks hv hP hS dX4_bringBack_7
set_option maxHeartbeats 4000000 in
theorem y_X4_bringBack {p : Program} {l : Launch} {e : Env} {s : State} {m : MethodId} {args : Array Value} {below : List Frame} {meth : Method} {c : Code} {dC : Nat → ClassId} {dI : Nat → Nat → Nat} {ad : Nat → Nat} {cA cZ : ClassId} (hi : Inj 81 ad) (h0 : Nat) (h1 : Nat) (hh0 : isPa h0) (hh1 : isSt h1) (C0 : Cx cX4_bringBack RX4 wsX4_bringBack 3 none p s m args meth c) (hK : KK dC dI cA cZ s) (Q : St → Prop) : ∀ P xs ys σ, R_X4_bringBack h0 h1 Q P xs ys σ → XX p l e ({ frames := 1, cells := 0, slots := 0, locals := 35 } : Room) s m args below meth c (dC, dI) 81 ad (celC ad cA) 3 (ZV below args s (dC, dI) 81 ad (celC ad cA) Q) (lay_X4_bringBack ad h0 h1) P xs ys σ := by
  refine Fx.elim _ (fun P xs ys σ Y hY hB => ?_)
  exact hB.elim
set_option maxHeartbeats 4000000 in
theorem c_X4_bringBack {l : Launch} {dC : Nat → ClassId} {dI : Nat → Nat → Nat} {ad : Nat → Nat} {cA cZ : ClassId} (hi : Inj 81 ad) (h0 : Nat) (h1 : Nat) (hh0 : isPa h0) (hh1 : isSt h1) (s0 : St) (Q : St → Prop) (hv : V_X4_bringBack h0 h1 s0 Q) (sz : Nat) : Met l yX4_bringBack wsX4_bringBack ({ frames := 1, cells := 0, slots := 0, locals := 35 } : Room) (va_Pc [.ref (ad h0), .ref (ad h1)] (PW dC dI ad cA cZ 81 (celC ad cA) sz s0)) (va_Qv Q (fun u t => va_P (dC, dI) vwCl (wd 81 ad (celC ad cA) u) t.heap) (AA 81 ad sz)) 0 0 (AA 81 ad sz) := by
  refine Met.ofW (cc := cX4_bringBack) (maxL := 3) (ret := none) (by decide) rfl ?_
  intro p e s m args below meth c s₁ B hml hv0
  obtain ⟨rfl, hsz, hP, hK⟩ := hv0
  subst hsz
  have C0 : Cx cX4_bringBack RX4 wsX4_bringBack 3 none p s m ([.ref (ad h0), .ref (ad h1)] : List Value).toArray meth c := ⟨B.exec, B.bytes, hml, findClass_of_methodNamed B.named, atoms_spec (ws := wsX4_bringBack) B.pre, B.returns, B.notSynchronized⟩
  have hl := lv_entry ([.ref (ad h0), .ref (ad h1)]) (n := 3) (Nat.le_of_ble_eq_true rfl)
  rw [lg_entry_eq]
  generalize (lg_sl ([.ref (ad h0), .ref (ad h1)]) ++ List.replicate (3 - (lg_sl ([.ref (ad h0), .ref (ad h1)])).length) Slot.unset).toArray = ls at hl ⊢
  have hl : lv_has ls 3 [(0, .ref (ad h0)), (1, .ref (ad h1))] := hl
  exact w_X4_bringBack_e hi h0 h1 hh0 hh1 C0 hK Q (R_X4_bringBack h0 h1 Q) (y_X4_bringBack hi h0 h1 hh0 hh1 C0 hK Q)  s0 hv hP va_S.rf hl
def lay_X10_undo (ad : Nat → Nat)  : Nat → List Int32 → List Int64 → Option (List (Nat × Value) × List Value) := fun P xs ys => match P, xs, ys with
  | _, _, _ => none
set_option maxHeartbeats 4000000 in
set_option maxRecDepth 100000 in
theorem w_X10_undo_e {p : Program} {l : Launch} {e : Env} {s : State} {m : MethodId} {args : Array Value} {below : List Frame} {meth : Method} {c : Code} {dC : Nat → ClassId} {dI : Nat → Nat → Nat} {ad : Nat → Nat} {cA cZ : ClassId} (hi : Inj 81 ad)   (C0 : Cx cX10_undo RX10 wsX10_undo 1 (some .int) p s m args meth c) (hK : KK dC dI cA cZ s) (Q : Int32 → St → Prop) (Y : Nat → List Int32 → List Int64 → St → Prop) (hY : ∀ P xs ys σ, Y P xs ys σ → XX p l e ({ frames := 2, cells := 0, slots := 0, locals := 57 } : Room) s m args below meth c (dC, dI) 81 ad (celC ad cA) 1 (ZI below args s (dC, dI) 81 ad (celC ad cA) Q) (lay_X10_undo ad ) P xs ys σ)  (s0 : St) (hv : B_X10_undo_e  Q Y  s0) {H : Heap} {locs : List Loc} {ls : Array Slot} (hP : va_P (dC, dI) vwCl (wd 81 ad (celC ad cA) s0) H) (hS : va_S (AA 81 ad s.heap.size) s.heap H locs) (hl : lv_has ls 1 [(0, .ref (ad 0))]) : W p l e ({ frames := 2, cells := 0, slots := 0, locals := 57 } : Room) s m args below meth c H locs 0 0 (ZI below args s (dC, dI) 81 ad (celC ad cA) Q) (F0 m 0 ls []) := by
  obtain ⟨hx, hb, hml, hown, hts, hr, hlocks⟩ := C0
  have hD := wd_D (s := s) (cel := celC ad cA) (σ := s0) hi
  unfold B_X10_undo_e at hv
  refine lv_aload_n hx hb dX10_undo_0 rfl (lv_at hl 0 rfl) ?_
  refine r_get hx hb hts (iwX10_undo_X10) hown hK.1 hP 0 (by decide) (ceGR_0 (s0 0)) rfl 0 (by decide) (hts _ kX10_undo_1) (v := .ref (ad 1)) rfl dX10_undo_1 ?_
  refine r_get hx hb hts (iwX10_undo_X7) hown hK.1 hP 1 (ltSc_0 vSc_1) (ceSc_0 vSc_1 (s0 1)) rfl 1 (by decide) (hts _ kX10_undo_2) (v := .ref (ad 11)) rfl dX10_undo_4 ?_
  refine r_get hx hb hts (iwX10_undo_X4) hown hK.1 hP 11 (ltPa_0 (vSc10 vSc_1)) (cePa_0 (vSc10 vSc_1) (s0 11)) rfl 1 (by decide) (hts _ kX10_undo_3) (v := .int (s0 11 1)) rfl dX10_undo_7 ?_
  refine lv_if_ne (tgt := 18) hx hb dX10_undo_10 (by decide) (fun c10 => ?_) (fun c10 => ?_)
  · have hv := hv.1 c10
    refine lv_aload_n hx hb dX10_undo_18 rfl (lv_at hl 0 rfl) ?_
    refine r_get hx hb hts (iwX10_undo_X10) hown hK.1 hP 0 (by decide) (ceGR_0 (s0 0)) rfl 0 (by decide) (hts _ kX10_undo_1) (v := .ref (ad 1)) rfl dX10_undo_19 ?_
    refine r_get hx hb hts (iwX10_undo_X7) hown hK.1 hP 1 (ltSc_0 vSc_1) (ceSc_0 vSc_1 (s0 1)) rfl 1 (by decide) (hts _ kX10_undo_2) (v := .ref (ad 11)) rfl dX10_undo_22 ?_
    refine lv_aload_n hx hb dX10_undo_25 rfl (lv_at hl 0 rfl) ?_
    refine r_get hx hb hts (iwX10_undo_X10) hown hK.1 hP 0 (by decide) (ceGR_0 (s0 0)) rfl 0 (by decide) (hts _ kX10_undo_1) (v := .ref (ad 1)) rfl dX10_undo_26 ?_
    refine r_get hx hb hts (iwX10_undo_X7) hown hK.1 hP 1 (ltSc_0 vSc_1) (ceSc_0 vSc_1 (s0 1)) rfl 0 (by decide) (hts _ kX10_undo_4) (v := .ref (ad 2)) rfl dX10_undo_29 ?_
    refine r_cv (va_runV (As := [.ref (ad 2)]) (rest := []) ⟨hx, hb, hml, hown, hts⟩ (c_X4_bringBack hi 11 2 (vSc10 vSc_1) (vSc1 vSc_1) s0 _ hv H.size) (cwV 1 hts gX10_undo_X4_bringBack rfl rfl rfl (by decide +kernel) ⟨Nat.le_of_ble_eq_true rfl, Nat.le_of_ble_eq_true rfl⟩) ⟨pre_blind, r_recv hK.1 hP 11 (ltPa_0 (vSc10 vSc_1)) (cePa_0 (vSc10 vSc_1) (s0 11)) rfl, pre_of hP hK⟩ rfl rfl hl.1 rfl (lv_room (Nat.le_of_ble_eq_true rfl)) dX10_undo_32 ⟨Nat.zero_le _, Nat.zero_le _⟩) hS (fun s1 H locs hv hP hS => ?_)
    have hD := wd_D (s := s) (cel := celC ad cA) (σ := s1) hi
    refine lv_aload_n hx hb dX10_undo_35 rfl (lv_at hl 0 rfl) ?_
    refine r_get hx hb hts (iwX10_undo_X10) hown hK.1 hP 0 (by decide) (ceGR_0 (s1 0)) rfl 0 (by decide) (hts _ kX10_undo_1) (v := .ref (ad 1)) rfl dX10_undo_36 ?_
    refine r_get hx hb hts (iwX10_undo_X7) hown hK.1 hP 1 (ltSc_0 vSc_1) (ceSc_0 vSc_1 (s1 1)) rfl 0 (by decide) (hts _ kX10_undo_4) (v := .ref (ad 2)) rfl dX10_undo_39 ?_
    refine r_get hx hb hts (iwX10_undo_X8) hown hK.1 hP 2 (ltSt_0 (vSc1 vSc_1)) (ceSt_0 (vSc1 vSc_1) (s1 2)) rfl 11 (by decide) (hts _ kX10_undo_5) (v := .int (s1 2 11)) rfl dX10_undo_42 ?_
    exact r_iret hx hb hr hlocks hv hP hS dX10_undo_45
  · have hv := hv.2 c10
    refine lv_aload_n hx hb dX10_undo_13 rfl (lv_at hl 0 rfl) ?_
    refine r_ci (va_runV (As := []) (rest := []) ⟨hx, hb, hml, hown, hts⟩ (c_X10_no hi  s0 _ hv H.size) (cwV 0 hts gX10_undo_X10_no rfl rfl rfl (by decide +kernel) ⟨Nat.le_of_ble_eq_true rfl, Nat.le_of_ble_eq_true rfl⟩) ⟨pre_blind, r_recv hK.1 hP 0 (by decide) (ceGR_0 (s0 0)) rfl, pre_of hP hK⟩ rfl rfl hl.1 rfl (lv_room (Nat.le_of_ble_eq_true rfl)) dX10_undo_14 ⟨Nat.zero_le _, Nat.zero_le _⟩) hS (fun r2 s2 H locs hv hP hS => ?_)
    have hD := wd_D (s := s) (cel := celC ad cA) (σ := s2) hi
    exact r_iret hx hb hr hlocks hv hP hS dX10_undo_17
set_option maxHeartbeats 4000000 in
theorem y_X10_undo {p : Program} {l : Launch} {e : Env} {s : State} {m : MethodId} {args : Array Value} {below : List Frame} {meth : Method} {c : Code} {dC : Nat → ClassId} {dI : Nat → Nat → Nat} {ad : Nat → Nat} {cA cZ : ClassId} (hi : Inj 81 ad)   (C0 : Cx cX10_undo RX10 wsX10_undo 1 (some .int) p s m args meth c) (hK : KK dC dI cA cZ s) (Q : Int32 → St → Prop) : ∀ P xs ys σ, R_X10_undo  Q P xs ys σ → XX p l e ({ frames := 2, cells := 0, slots := 0, locals := 57 } : Room) s m args below meth c (dC, dI) 81 ad (celC ad cA) 1 (ZI below args s (dC, dI) 81 ad (celC ad cA) Q) (lay_X10_undo ad ) P xs ys σ := by
  refine Fx.elim _ (fun P xs ys σ Y hY hB => ?_)
  exact hB.elim
set_option maxHeartbeats 4000000 in
theorem c_X10_undo {l : Launch} {dC : Nat → ClassId} {dI : Nat → Nat → Nat} {ad : Nat → Nat} {cA cZ : ClassId} (hi : Inj 81 ad)   (s0 : St) (Q : Int32 → St → Prop) (hv : V_X10_undo  s0 Q) (sz : Nat) : Met l yX10_undo wsX10_undo ({ frames := 2, cells := 0, slots := 0, locals := 57 } : Room) (va_Pc [.ref (ad 0)] (PW dC dI ad cA cZ 81 (celC ad cA) sz s0)) (va_Qi Q (fun u t => va_P (dC, dI) vwCl (wd 81 ad (celC ad cA) u) t.heap) (AA 81 ad sz)) 0 0 (AA 81 ad sz) := by
  refine Met.ofW (cc := cX10_undo) (maxL := 1) (ret := (some .int)) (by decide) rfl ?_
  intro p e s m args below meth c s₁ B hml hv0
  obtain ⟨rfl, hsz, hP, hK⟩ := hv0
  subst hsz
  have C0 : Cx cX10_undo RX10 wsX10_undo 1 (some .int) p s m ([.ref (ad 0)] : List Value).toArray meth c := ⟨B.exec, B.bytes, hml, findClass_of_methodNamed B.named, atoms_spec (ws := wsX10_undo) B.pre, B.returns, B.notSynchronized⟩
  have hl := lv_entry ([.ref (ad 0)]) (n := 1) (Nat.le_of_ble_eq_true rfl)
  rw [lg_entry_eq]
  generalize (lg_sl ([.ref (ad 0)]) ++ List.replicate (1 - (lg_sl ([.ref (ad 0)])).length) Slot.unset).toArray = ls at hl ⊢
  have hl : lv_has ls 1 [(0, .ref (ad 0))] := hl
  exact w_X10_undo_e hi   C0 hK Q (R_X10_undo  Q) (y_X10_undo hi   C0 hK Q)  s0 hv hP va_S.rf hl
def lay_X10_isGlove (ad : Nat → Nat) (a1 : Int32) : Nat → List Int32 → List Int64 → Option (List (Nat × Value) × List Value) := fun P xs ys => match P, xs, ys with
  | _, _, _ => none
set_option maxHeartbeats 4000000 in
set_option maxRecDepth 100000 in
theorem w_X10_isGlove_e {p : Program} {l : Launch} {e : Env} {s : State} {m : MethodId} {args : Array Value} {below : List Frame} {meth : Method} {c : Code} {dC : Nat → ClassId} {dI : Nat → Nat → Nat} {ad : Nat → Nat} {cA cZ : ClassId} (hi : Inj 81 ad) (a1 : Int32)  (C0 : Cx cX10_isGlove RX10 wsX10_isGlove 2 (some .boolean) p s m args meth c) (hK : KK dC dI cA cZ s) (Q : Int32 → St → Prop) (Y : Nat → List Int32 → List Int64 → St → Prop) (hY : ∀ P xs ys σ, Y P xs ys σ → XX p l e ({ frames := 1, cells := 0, slots := 0, locals := 22 } : Room) s m args below meth c (dC, dI) 81 ad (celC ad cA) 2 (ZZ below args s (dC, dI) 81 ad (celC ad cA) Q) (lay_X10_isGlove ad a1) P xs ys σ)  (s0 : St) (hv : B_X10_isGlove_e a1 Q Y  s0) {H : Heap} {locs : List Loc} {ls : Array Slot} (hP : va_P (dC, dI) vwCl (wd 81 ad (celC ad cA) s0) H) (hS : va_S (AA 81 ad s.heap.size) s.heap H locs) (hl : lv_has ls 2 [(0, .ref (ad 0)), (1, .int a1)]) : W p l e ({ frames := 1, cells := 0, slots := 0, locals := 22 } : Room) s m args below meth c H locs 0 0 (ZZ below args s (dC, dI) 81 ad (celC ad cA) Q) (F0 m 0 ls []) := by
  obtain ⟨hx, hb, hml, hown, hts, hr, hlocks⟩ := C0
  have hD := wd_D (s := s) (cel := celC ad cA) (σ := s0) hi
  unfold B_X10_isGlove_e at hv
  refine lv_iload_n hx hb dX10_isGlove_0 rfl (lv_at hl 1 rfl) ?_
  refine lv_iconst (v := 0) hx hb dX10_isGlove_1 (by decide) ?_
  refine lv_aload_n hx hb dX10_isGlove_2 rfl (lv_at hl 0 rfl) ?_
  refine r_get hx hb hts (iwX10_isGlove_X10) hown hK.1 hP 0 (by decide) (ceGR_0 (s0 0)) rfl 0 (by decide) (hts _ kX10_isGlove_1) (v := .ref (ad 1)) rfl dX10_isGlove_3 ?_
  refine r_get hx hb hts (iwX10_isGlove_X7) hown hK.1 hP 1 (ltSc_0 vSc_1) (ceSc_0 vSc_1 (s0 1)) rfl 0 (by decide) (hts _ kX10_isGlove_2) (v := .ref (ad 2)) rfl dX10_isGlove_6 ?_
  refine r_get hx hb hts (iwX10_isGlove_X8) hown hK.1 hP 2 (ltSt_0 (vSc1 vSc_1)) (ceSt_0 (vSc1 vSc_1) (s0 2)) rfl 8 (by decide) (hts _ kX10_isGlove_3) (v := .int (s0 2 8)) rfl dX10_isGlove_9 ?_
  refine lv_iconst (v := 1) hx hb dX10_isGlove_12 (by decide) ?_
  refine lv_isub hx hb dX10_isGlove_13 ?_
  refine r_ci (va_runS (As := [.int a1, .int 0, .int ((s0 2 8) - 1)]) (rest := []) ⟨hx, hb, hml, hown, hts⟩ (c_X10_within hi a1 0 ((s0 2 8) - 1) s0 _ hv H.size) (va_cwS 3 hts gX10_isGlove_X10_within rfl rfl rfl (by decide +kernel) ⟨Nat.le_of_ble_eq_true rfl, Nat.le_of_ble_eq_true rfl⟩) ⟨pre_blind, pre_of hP hK⟩ rfl rfl hl.1 rfl (lv_room (Nat.le_of_ble_eq_true rfl)) dX10_isGlove_14 ⟨Nat.zero_le _, Nat.zero_le _⟩) hS (fun r1 s1 H locs hv hP hS => ?_)
  obtain ⟨hz_r1, hv⟩ := hv
  have hD := wd_D (s := s) (cel := celC ad cA) (σ := s1) hi
  exact r_zret hx hb hr hlocks hz_r1 hv hP hS dX10_isGlove_17
set_option maxHeartbeats 4000000 in
theorem y_X10_isGlove {p : Program} {l : Launch} {e : Env} {s : State} {m : MethodId} {args : Array Value} {below : List Frame} {meth : Method} {c : Code} {dC : Nat → ClassId} {dI : Nat → Nat → Nat} {ad : Nat → Nat} {cA cZ : ClassId} (hi : Inj 81 ad) (a1 : Int32)  (C0 : Cx cX10_isGlove RX10 wsX10_isGlove 2 (some .boolean) p s m args meth c) (hK : KK dC dI cA cZ s) (Q : Int32 → St → Prop) : ∀ P xs ys σ, R_X10_isGlove a1 Q P xs ys σ → XX p l e ({ frames := 1, cells := 0, slots := 0, locals := 22 } : Room) s m args below meth c (dC, dI) 81 ad (celC ad cA) 2 (ZZ below args s (dC, dI) 81 ad (celC ad cA) Q) (lay_X10_isGlove ad a1) P xs ys σ := by
  refine Fx.elim _ (fun P xs ys σ Y hY hB => ?_)
  exact hB.elim
set_option maxHeartbeats 4000000 in
theorem c_X10_isGlove {l : Launch} {dC : Nat → ClassId} {dI : Nat → Nat → Nat} {ad : Nat → Nat} {cA cZ : ClassId} (hi : Inj 81 ad) (a1 : Int32)  (s0 : St) (Q : Int32 → St → Prop) (hv : V_X10_isGlove a1 s0 Q) (sz : Nat) : Met l yX10_isGlove wsX10_isGlove ({ frames := 1, cells := 0, slots := 0, locals := 22 } : Room) (va_Pc [.ref (ad 0), .int a1] (PW dC dI ad cA cZ 81 (celC ad cA) sz s0)) (va_Qi (fun r u => (r = 0 ∨ r = 1) ∧ Q r u) (fun u t => va_P (dC, dI) vwCl (wd 81 ad (celC ad cA) u) t.heap) (AA 81 ad sz)) 0 0 (AA 81 ad sz) := by
  refine Met.ofW (cc := cX10_isGlove) (maxL := 2) (ret := (some .boolean)) (by decide) rfl ?_
  intro p e s m args below meth c s₁ B hml hv0
  obtain ⟨rfl, hsz, hP, hK⟩ := hv0
  subst hsz
  have C0 : Cx cX10_isGlove RX10 wsX10_isGlove 2 (some .boolean) p s m ([.ref (ad 0), .int a1] : List Value).toArray meth c := ⟨B.exec, B.bytes, hml, findClass_of_methodNamed B.named, atoms_spec (ws := wsX10_isGlove) B.pre, B.returns, B.notSynchronized⟩
  have hl := lv_entry ([.ref (ad 0), .int a1]) (n := 2) (Nat.le_of_ble_eq_true rfl)
  rw [lg_entry_eq]
  generalize (lg_sl ([.ref (ad 0), .int a1]) ++ List.replicate (2 - (lg_sl ([.ref (ad 0), .int a1])).length) Slot.unset).toArray = ls at hl ⊢
  have hl : lv_has ls 2 [(0, .ref (ad 0)), (1, .int a1)] := hl
  exact w_X10_isGlove_e hi a1  C0 hK Q (R_X10_isGlove a1 Q) (y_X10_isGlove hi a1  C0 hK Q)  s0 hv hP va_S.rf hl
def lay_X10_of (ad : Nat → Nat) (a1 : Int32) (a2 : Int32) : Nat → List Int32 → List Int64 → Option (List (Nat × Value) × List Value) := fun P xs ys => match P, xs, ys with
  | _, _, _ => none
set_option maxHeartbeats 4000000 in
set_option maxRecDepth 100000 in
theorem w_X10_of_e {p : Program} {l : Launch} {e : Env} {s : State} {m : MethodId} {args : Array Value} {below : List Frame} {meth : Method} {c : Code} {dC : Nat → ClassId} {dI : Nat → Nat → Nat} {ad : Nat → Nat} {cA cZ : ClassId} (hi : Inj 81 ad) (a1 : Int32) (a2 : Int32)  (C0 : Cx cX10_of RX10 wsX10_of 4 (some .int) p s m args meth c) (hK : KK dC dI cA cZ s) (Q : Int32 → St → Prop) (Y : Nat → List Int32 → List Int64 → St → Prop) (hY : ∀ P xs ys σ, Y P xs ys σ → XX p l e ({ frames := 2, cells := 0, slots := 0, locals := 46 } : Room) s m args below meth c (dC, dI) 81 ad (celC ad cA) 4 (ZI below args s (dC, dI) 81 ad (celC ad cA) Q) (lay_X10_of ad a1 a2) P xs ys σ)  (s0 : St) (hv : B_X10_of_e a1 a2 Q Y  s0) {H : Heap} {locs : List Loc} {ls : Array Slot} (hP : va_P (dC, dI) vwCl (wd 81 ad (celC ad cA) s0) H) (hS : va_S (AA 81 ad s.heap.size) s.heap H locs) (hl : lv_has ls 4 [(0, .ref (ad 0)), (1, .int a1), (2, .int a2)]) : W p l e ({ frames := 2, cells := 0, slots := 0, locals := 46 } : Room) s m args below meth c H locs 0 0 (ZI below args s (dC, dI) 81 ad (celC ad cA) Q) (F0 m 0 ls []) := by
  obtain ⟨hx, hb, hml, hown, hts, hr, hlocks⟩ := C0
  have hD := wd_D (s := s) (cel := celC ad cA) (σ := s0) hi
  unfold B_X10_of_e at hv
  refine lv_aload_n hx hb dX10_of_0 rfl (lv_at hl 0 rfl) ?_
  refine lv_iload_n hx hb dX10_of_1 rfl (lv_at hl 1 rfl) ?_
  refine r_ci (va_runV (As := [.int a1]) (rest := []) ⟨hx, hb, hml, hown, hts⟩ (c_X10_isGlove hi a1 s0 _ hv H.size) (cwV 1 hts gX10_of_X10_isGlove rfl rfl rfl (by decide +kernel) ⟨Nat.le_of_ble_eq_true rfl, Nat.le_of_ble_eq_true rfl⟩) ⟨pre_blind, r_recv hK.1 hP 0 (by decide) (ceGR_0 (s0 0)) rfl, pre_of hP hK⟩ rfl rfl hl.1 rfl (lv_room (Nat.le_of_ble_eq_true rfl)) dX10_of_2 ⟨Nat.zero_le _, Nat.zero_le _⟩) hS (fun r1 s1 H locs hv hP hS => ?_)
  obtain ⟨hz_r1, hv⟩ := hv
  have hD := wd_D (s := s) (cel := celC ad cA) (σ := s1) hi
  refine lv_if_ne (tgt := 13) hx hb dX10_of_5 (by decide) (fun c5 => ?_) (fun c5 => ?_)
  · have hv := hv.1 c5
    refine lv_aload_n hx hb dX10_of_13 rfl (lv_at hl 0 rfl) ?_
    refine r_get hx hb hts (iwX10_of_X10) hown hK.1 hP 0 (by decide) (ceGR_0 (s1 0)) rfl 0 (by decide) (hts _ kX10_of_1) (v := .ref (ad 1)) rfl dX10_of_14 ?_
    refine r_get hx hb hts (iwX10_of_X7) hown hK.1 hP 1 (ltSc_0 vSc_1) (ceSc_0 vSc_1 (s1 1)) rfl 0 (by decide) (hts _ kX10_of_2) (v := .ref (ad 2)) rfl dX10_of_17 ?_
    refine lv_astore_n (lv' := [(3, .ref (ad 2)), (0, .ref (ad 0)), (1, .int a1), (2, .int a2)]) hx hb dX10_of_20 rfl hl (by decide) rfl (fun ls hl => ?_)
    refine lv_iload_n hx hb dX10_of_21 rfl (lv_at hl 3 rfl) ?_
    by_cases c22_0 : a2 = 0
    · have hv := hv.1 c22_0
      refine lv_tableIn (off := 34) (tgt := 56) hx hb dX10_of_22 (by rw [c22_0]; decide) (by rw [c22_0]; decide) (by rw [c22_0]; rfl) (by decide) ?_
      refine lv_aload_n hx hb dX10_of_56 rfl (lv_at hl 0 rfl) ?_
      refine r_get hx hb hts (iwX10_of_X8) hown hK.1 hP 2 (ltSt_0 (vSc1 vSc_1)) (ceSt_0 (vSc1 vSc_1) (s1 2)) rfl 1 (by decide) (hts _ kX10_of_3) (v := .ref (ad 4)) rfl dX10_of_57 ?_
      refine lv_iload_n hx hb dX10_of_60 rfl (lv_at hl 2 rfl) ?_
      obtain ⟨hin, hv⟩ := hv
      refine r_iald hx hb hK.1 hP 4 (ltSt_2 (vSc1 vSc_1)) (ceSt_2 (vSc1 vSc_1) (s1 4)) hin dX10_of_61 ?_
      exact r_iret hx hb hr hlocks hv hP hS dX10_of_62
    have hv := hv.2 c22_0
    by_cases c22_1 : a2 = 1
    · have hv := hv.1 c22_1
      refine lv_tableIn (off := 41) (tgt := 63) hx hb dX10_of_22 (by rw [c22_1]; decide) (by rw [c22_1]; decide) (by rw [c22_1]; rfl) (by decide) ?_
      refine lv_aload_n hx hb dX10_of_63 rfl (lv_at hl 0 rfl) ?_
      refine r_get hx hb hts (iwX10_of_X8) hown hK.1 hP 2 (ltSt_0 (vSc1 vSc_1)) (ceSt_0 (vSc1 vSc_1) (s1 2)) rfl 2 (by decide) (hts _ kX10_of_4) (v := .ref (ad 5)) rfl dX10_of_64 ?_
      refine lv_iload_n hx hb dX10_of_67 rfl (lv_at hl 2 rfl) ?_
      obtain ⟨hin, hv⟩ := hv
      refine r_iald hx hb hK.1 hP 5 (ltSt_3 (vSc1 vSc_1)) (ceSt_3 (vSc1 vSc_1) (s1 5)) hin dX10_of_68 ?_
      exact r_iret hx hb hr hlocks hv hP hS dX10_of_69
    have hv := hv.2 c22_1
    by_cases c22_2 : a2 = 2
    · have hv := hv.1 c22_2
      refine lv_tableIn (off := 48) (tgt := 70) hx hb dX10_of_22 (by rw [c22_2]; decide) (by rw [c22_2]; decide) (by rw [c22_2]; rfl) (by decide) ?_
      refine lv_aload_n hx hb dX10_of_70 rfl (lv_at hl 0 rfl) ?_
      refine r_get hx hb hts (iwX10_of_X8) hown hK.1 hP 2 (ltSt_0 (vSc1 vSc_1)) (ceSt_0 (vSc1 vSc_1) (s1 2)) rfl 3 (by decide) (hts _ kX10_of_5) (v := .ref (ad 6)) rfl dX10_of_71 ?_
      refine lv_iload_n hx hb dX10_of_74 rfl (lv_at hl 2 rfl) ?_
      obtain ⟨hin, hv⟩ := hv
      refine r_iald hx hb hK.1 hP 6 (ltSt_4 (vSc1 vSc_1)) (ceSt_4 (vSc1 vSc_1) (s1 6)) hin dX10_of_75 ?_
      exact r_iret hx hb hr hlocks hv hP hS dX10_of_76
    have hv := hv.2 c22_2
    by_cases c22_3 : a2 = 3
    · have hv := hv.1 c22_3
      refine lv_tableIn (off := 55) (tgt := 77) hx hb dX10_of_22 (by rw [c22_3]; decide) (by rw [c22_3]; decide) (by rw [c22_3]; rfl) (by decide) ?_
      refine lv_aload_n hx hb dX10_of_77 rfl (lv_at hl 0 rfl) ?_
      refine lv_iload_n hx hb dX10_of_78 rfl (lv_at hl 2 rfl) ?_
      refine r_ci (va_runV (As := [.int a1]) (rest := []) ⟨hx, hb, hml, hown, hts⟩ (c_X8_waits hi 2 a1 (vSc1 vSc_1) s1 _ hv H.size) (cwV 1 hts gX10_of_X8_waits rfl rfl rfl (by decide +kernel) ⟨Nat.le_of_ble_eq_true rfl, Nat.le_of_ble_eq_true rfl⟩) ⟨pre_blind, r_recv hK.1 hP 2 (ltSt_0 (vSc1 vSc_1)) (ceSt_0 (vSc1 vSc_1) (s1 2)) rfl, pre_of hP hK⟩ rfl rfl hl.1 rfl (lv_room (Nat.le_of_ble_eq_true rfl)) dX10_of_79 ⟨Nat.zero_le _, Nat.zero_le _⟩) hS (fun r2 s2 H locs hv hP hS => ?_)
      obtain ⟨hz_r2, hv⟩ := hv
      have hD := wd_D (s := s) (cel := celC ad cA) (σ := s2) hi
      refine lv_if_eq (tgt := 89) hx hb dX10_of_82 (by decide) (fun c82 => ?_) (fun c82 => ?_)
      · have hv := hv.1 c82
        refine lv_iconst (v := 0) hx hb dX10_of_89 (by decide) ?_
        exact r_iret hx hb hr hlocks hv hP hS dX10_of_90
      · have hv := hv.2 c82
        refine lv_iconst (v := 1) hx hb dX10_of_85 (by decide) ?_
        refine lv_goto (tgt := 90) hx hb dX10_of_86 (by decide) ?_
        exact r_iret hx hb hr hlocks hv hP hS dX10_of_90
    have hv := hv.2 c22_3
    by_cases c22_4 : a2 = 4
    · have hv := hv.1 c22_4
      refine lv_tableIn (off := 69) (tgt := 91) hx hb dX10_of_22 (by rw [c22_4]; decide) (by rw [c22_4]; decide) (by rw [c22_4]; rfl) (by decide) ?_
      refine lv_aload_n hx hb dX10_of_91 rfl (lv_at hl 0 rfl) ?_
      refine lv_iload_n hx hb dX10_of_92 rfl (lv_at hl 2 rfl) ?_
      refine r_ci (va_runV (As := [.int a1]) (rest := []) ⟨hx, hb, hml, hown, hts⟩ (c_X8_goesNow hi 2 a1 (vSc1 vSc_1) s1 _ hv H.size) (cwV 1 hts gX10_of_X8_goesNow rfl rfl rfl (by decide +kernel) ⟨Nat.le_of_ble_eq_true rfl, Nat.le_of_ble_eq_true rfl⟩) ⟨pre_blind, r_recv hK.1 hP 2 (ltSt_0 (vSc1 vSc_1)) (ceSt_0 (vSc1 vSc_1) (s1 2)) rfl, pre_of hP hK⟩ rfl rfl hl.1 rfl (lv_room (Nat.le_of_ble_eq_true rfl)) dX10_of_93 ⟨Nat.zero_le _, Nat.zero_le _⟩) hS (fun r3 s3 H locs hv hP hS => ?_)
      have hD := wd_D (s := s) (cel := celC ad cA) (σ := s3) hi
      exact r_iret hx hb hr hlocks hv hP hS dX10_of_96
    have hv := hv.2 c22_4
    refine lv_tableOut (tgt := 97) hx hb dX10_of_22 (by have w0 := lv_neT (a := 0) c22_0 (by decide); have w1 := lv_neT (a := 1) c22_1 (by decide); have w2 := lv_neT (a := 2) c22_2 (by decide); have w3 := lv_neT (a := 3) c22_3 (by decide); have w4 := lv_neT (a := 4) c22_4 (by decide); omega) (by decide) ?_
    refine lv_aload_n hx hb dX10_of_97 rfl (lv_at hl 1 rfl) ?_
    refine r_ci (va_runV (As := []) (rest := []) ⟨hx, hb, hml, hown, hts⟩ (c_X10_bad hi  s1 _ hv H.size) (cwV 0 hts gX10_of_X10_bad rfl rfl rfl (by decide +kernel) ⟨Nat.le_of_ble_eq_true rfl, Nat.le_of_ble_eq_true rfl⟩) ⟨pre_blind, r_recv hK.1 hP 0 (by decide) (ceGR_0 (s1 0)) rfl, pre_of hP hK⟩ rfl rfl hl.1 rfl (lv_room (Nat.le_of_ble_eq_true rfl)) dX10_of_98 ⟨Nat.zero_le _, Nat.zero_le _⟩) hS (fun r4 s4 H locs hv hP hS => ?_)
    have hD := wd_D (s := s) (cel := celC ad cA) (σ := s4) hi
    exact r_iret hx hb hr hlocks hv hP hS dX10_of_101
  · have hv := hv.2 c5
    refine lv_aload_n hx hb dX10_of_8 rfl (lv_at hl 0 rfl) ?_
    refine r_ci (va_runV (As := []) (rest := []) ⟨hx, hb, hml, hown, hts⟩ (c_X10_bad hi  s1 _ hv H.size) (cwV 0 hts gX10_of_X10_bad rfl rfl rfl (by decide +kernel) ⟨Nat.le_of_ble_eq_true rfl, Nat.le_of_ble_eq_true rfl⟩) ⟨pre_blind, r_recv hK.1 hP 0 (by decide) (ceGR_0 (s1 0)) rfl, pre_of hP hK⟩ rfl rfl hl.1 rfl (lv_room (Nat.le_of_ble_eq_true rfl)) dX10_of_9 ⟨Nat.zero_le _, Nat.zero_le _⟩) hS (fun r5 s5 H locs hv hP hS => ?_)
    have hD := wd_D (s := s) (cel := celC ad cA) (σ := s5) hi
    exact r_iret hx hb hr hlocks hv hP hS dX10_of_12
set_option maxHeartbeats 4000000 in
theorem y_X10_of {p : Program} {l : Launch} {e : Env} {s : State} {m : MethodId} {args : Array Value} {below : List Frame} {meth : Method} {c : Code} {dC : Nat → ClassId} {dI : Nat → Nat → Nat} {ad : Nat → Nat} {cA cZ : ClassId} (hi : Inj 81 ad) (a1 : Int32) (a2 : Int32)  (C0 : Cx cX10_of RX10 wsX10_of 4 (some .int) p s m args meth c) (hK : KK dC dI cA cZ s) (Q : Int32 → St → Prop) : ∀ P xs ys σ, R_X10_of a1 a2 Q P xs ys σ → XX p l e ({ frames := 2, cells := 0, slots := 0, locals := 46 } : Room) s m args below meth c (dC, dI) 81 ad (celC ad cA) 4 (ZI below args s (dC, dI) 81 ad (celC ad cA) Q) (lay_X10_of ad a1 a2) P xs ys σ := by
  refine Fx.elim _ (fun P xs ys σ Y hY hB => ?_)
  exact hB.elim
set_option maxHeartbeats 4000000 in
theorem c_X10_of {l : Launch} {dC : Nat → ClassId} {dI : Nat → Nat → Nat} {ad : Nat → Nat} {cA cZ : ClassId} (hi : Inj 81 ad) (a1 : Int32) (a2 : Int32)  (s0 : St) (Q : Int32 → St → Prop) (hv : V_X10_of a1 a2 s0 Q) (sz : Nat) : Met l yX10_of wsX10_of ({ frames := 2, cells := 0, slots := 0, locals := 46 } : Room) (va_Pc [.ref (ad 0), .int a1, .int a2] (PW dC dI ad cA cZ 81 (celC ad cA) sz s0)) (va_Qi Q (fun u t => va_P (dC, dI) vwCl (wd 81 ad (celC ad cA) u) t.heap) (AA 81 ad sz)) 0 0 (AA 81 ad sz) := by
  refine Met.ofW (cc := cX10_of) (maxL := 4) (ret := (some .int)) (by decide) rfl ?_
  intro p e s m args below meth c s₁ B hml hv0
  obtain ⟨rfl, hsz, hP, hK⟩ := hv0
  subst hsz
  have C0 : Cx cX10_of RX10 wsX10_of 4 (some .int) p s m ([.ref (ad 0), .int a1, .int a2] : List Value).toArray meth c := ⟨B.exec, B.bytes, hml, findClass_of_methodNamed B.named, atoms_spec (ws := wsX10_of) B.pre, B.returns, B.notSynchronized⟩
  have hl := lv_entry ([.ref (ad 0), .int a1, .int a2]) (n := 4) (Nat.le_of_ble_eq_true rfl)
  rw [lg_entry_eq]
  generalize (lg_sl ([.ref (ad 0), .int a1, .int a2]) ++ List.replicate (4 - (lg_sl ([.ref (ad 0), .int a1, .int a2])).length) Slot.unset).toArray = ls at hl ⊢
  have hl : lv_has ls 4 [(0, .ref (ad 0)), (1, .int a1), (2, .int a2)] := hl
  exact w_X10_of_e hi a1 a2  C0 hK Q (R_X10_of a1 a2 Q) (y_X10_of hi a1 a2  C0 hK Q)  s0 hv hP va_S.rf hl
def lay_X10_about (ad : Nat → Nat) (a1 : Int32) (a2 : Int32) : Nat → List Int32 → List Int64 → Option (List (Nat × Value) × List Value) := fun P xs ys => match P, xs, ys with
  | _, _, _ => none
set_option maxHeartbeats 4000000 in
set_option maxRecDepth 100000 in
theorem w_X10_about_e {p : Program} {l : Launch} {e : Env} {s : State} {m : MethodId} {args : Array Value} {below : List Frame} {meth : Method} {c : Code} {dC : Nat → ClassId} {dI : Nat → Nat → Nat} {ad : Nat → Nat} {cA cZ : ClassId} (hi : Inj 81 ad) (a1 : Int32) (a2 : Int32)  (C0 : Cx cX10_about RX10 wsX10_about 4 (some .int) p s m args meth c) (hK : KK dC dI cA cZ s) (Q : Int32 → St → Prop) (Y : Nat → List Int32 → List Int64 → St → Prop) (hY : ∀ P xs ys σ, Y P xs ys σ → XX p l e ({ frames := 2, cells := 0, slots := 0, locals := 47 } : Room) s m args below meth c (dC, dI) 81 ad (celC ad cA) 4 (ZI below args s (dC, dI) 81 ad (celC ad cA) Q) (lay_X10_about ad a1 a2) P xs ys σ)  (s0 : St) (hv : B_X10_about_e a1 a2 Q Y  s0) {H : Heap} {locs : List Loc} {ls : Array Slot} (hP : va_P (dC, dI) vwCl (wd 81 ad (celC ad cA) s0) H) (hS : va_S (AA 81 ad s.heap.size) s.heap H locs) (hl : lv_has ls 4 [(0, .ref (ad 0)), (1, .int a1), (2, .int a2)]) : W p l e ({ frames := 2, cells := 0, slots := 0, locals := 47 } : Room) s m args below meth c H locs 0 0 (ZI below args s (dC, dI) 81 ad (celC ad cA) Q) (F0 m 0 ls []) := by
  obtain ⟨hx, hb, hml, hown, hts, hr, hlocks⟩ := C0
  have hD := wd_D (s := s) (cel := celC ad cA) (σ := s0) hi
  unfold B_X10_about_e at hv
  refine lv_aload_n hx hb dX10_about_0 rfl (lv_at hl 0 rfl) ?_
  refine lv_iload_n hx hb dX10_about_1 rfl (lv_at hl 1 rfl) ?_
  refine r_ci (va_runV (As := [.int a1]) (rest := []) ⟨hx, hb, hml, hown, hts⟩ (c_X10_isCrossing hi a1 s0 _ hv H.size) (cwV 1 hts gX10_about_X10_isCrossing rfl rfl rfl (by decide +kernel) ⟨Nat.le_of_ble_eq_true rfl, Nat.le_of_ble_eq_true rfl⟩) ⟨pre_blind, r_recv hK.1 hP 0 (by decide) (ceGR_0 (s0 0)) rfl, pre_of hP hK⟩ rfl rfl hl.1 rfl (lv_room (Nat.le_of_ble_eq_true rfl)) dX10_about_2 ⟨Nat.zero_le _, Nat.zero_le _⟩) hS (fun r1 s1 H locs hv hP hS => ?_)
  obtain ⟨hz_r1, hv⟩ := hv
  have hD := wd_D (s := s) (cel := celC ad cA) (σ := s1) hi
  refine lv_if_ne (tgt := 13) hx hb dX10_about_5 (by decide) (fun c5 => ?_) (fun c5 => ?_)
  · have hv := hv.1 c5
    refine lv_aload_n hx hb dX10_about_13 rfl (lv_at hl 0 rfl) ?_
    refine r_get hx hb hts (iwX10_about_X10) hown hK.1 hP 0 (by decide) (ceGR_0 (s1 0)) rfl 0 (by decide) (hts _ kX10_about_1) (v := .ref (ad 1)) rfl dX10_about_14 ?_
    refine r_get hx hb hts (iwX10_about_X7) hown hK.1 hP 1 (ltSc_0 vSc_1) (ceSc_0 vSc_1 (s1 1)) rfl 0 (by decide) (hts _ kX10_about_2) (v := .ref (ad 2)) rfl dX10_about_17 ?_
    refine lv_astore_n (lv' := [(3, .ref (ad 2)), (0, .ref (ad 0)), (1, .int a1), (2, .int a2)]) hx hb dX10_about_20 rfl hl (by decide) rfl (fun ls hl => ?_)
    refine lv_iload_n hx hb dX10_about_21 rfl (lv_at hl 3 rfl) ?_
    by_cases c22_0 : a2 = 0
    · have hv := hv.1 c22_0
      refine lv_tableIn (off := 34) (tgt := 56) hx hb dX10_about_22 (by rw [c22_0]; decide) (by rw [c22_0]; decide) (by rw [c22_0]; rfl) (by decide) ?_
      refine lv_aload_n hx hb dX10_about_56 rfl (lv_at hl 0 rfl) ?_
      refine r_get hx hb hts (iwX10_about_X8) hown hK.1 hP 2 (ltSt_0 (vSc1 vSc_1)) (ceSt_0 (vSc1 vSc_1) (s1 2)) rfl 4 (by decide) (hts _ kX10_about_3) (v := .ref (ad 7)) rfl dX10_about_57 ?_
      refine lv_iload_n hx hb dX10_about_60 rfl (lv_at hl 2 rfl) ?_
      obtain ⟨hin, hv⟩ := hv
      refine r_iald hx hb hK.1 hP 7 (ltSt_5 (vSc1 vSc_1)) (ceSt_5 (vSc1 vSc_1) (s1 7)) hin dX10_about_61 ?_
      exact r_iret hx hb hr hlocks hv hP hS dX10_about_62
    have hv := hv.2 c22_0
    by_cases c22_1 : a2 = 1
    · have hv := hv.1 c22_1
      refine lv_tableIn (off := 41) (tgt := 63) hx hb dX10_about_22 (by rw [c22_1]; decide) (by rw [c22_1]; decide) (by rw [c22_1]; rfl) (by decide) ?_
      refine lv_aload_n hx hb dX10_about_63 rfl (lv_at hl 0 rfl) ?_
      refine r_get hx hb hts (iwX10_about_X8) hown hK.1 hP 2 (ltSt_0 (vSc1 vSc_1)) (ceSt_0 (vSc1 vSc_1) (s1 2)) rfl 5 (by decide) (hts _ kX10_about_4) (v := .ref (ad 8)) rfl dX10_about_64 ?_
      refine lv_iload_n hx hb dX10_about_67 rfl (lv_at hl 2 rfl) ?_
      obtain ⟨hin, hv⟩ := hv
      refine r_iald hx hb hK.1 hP 8 (ltSt_6 (vSc1 vSc_1)) (ceSt_6 (vSc1 vSc_1) (s1 8)) hin dX10_about_68 ?_
      exact r_iret hx hb hr hlocks hv hP hS dX10_about_69
    have hv := hv.2 c22_1
    by_cases c22_2 : a2 = 2
    · have hv := hv.1 c22_2
      refine lv_tableIn (off := 48) (tgt := 70) hx hb dX10_about_22 (by rw [c22_2]; decide) (by rw [c22_2]; decide) (by rw [c22_2]; rfl) (by decide) ?_
      refine lv_aload_n hx hb dX10_about_70 rfl (lv_at hl 0 rfl) ?_
      refine lv_iload_n hx hb dX10_about_71 rfl (lv_at hl 2 rfl) ?_
      refine r_ci (va_runV (As := [.int a1]) (rest := []) ⟨hx, hb, hml, hown, hts⟩ (c_X8_shutBit hi 2 a1 (vSc1 vSc_1) s1 _ hv H.size) (cwV 1 hts gX10_about_X8_shutBit rfl rfl rfl (by decide +kernel) ⟨Nat.le_of_ble_eq_true rfl, Nat.le_of_ble_eq_true rfl⟩) ⟨pre_blind, r_recv hK.1 hP 2 (ltSt_0 (vSc1 vSc_1)) (ceSt_0 (vSc1 vSc_1) (s1 2)) rfl, pre_of hP hK⟩ rfl rfl hl.1 rfl (lv_room (Nat.le_of_ble_eq_true rfl)) dX10_about_72 ⟨Nat.zero_le _, Nat.zero_le _⟩) hS (fun r2 s2 H locs hv hP hS => ?_)
      have hD := wd_D (s := s) (cel := celC ad cA) (σ := s2) hi
      exact r_iret hx hb hr hlocks hv hP hS dX10_about_75
    have hv := hv.2 c22_2
    by_cases c22_3 : a2 = 3
    · have hv := hv.1 c22_3
      refine lv_tableIn (off := 54) (tgt := 76) hx hb dX10_about_22 (by rw [c22_3]; decide) (by rw [c22_3]; decide) (by rw [c22_3]; rfl) (by decide) ?_
      refine lv_aload_n hx hb dX10_about_76 rfl (lv_at hl 0 rfl) ?_
      refine lv_iload_n hx hb dX10_about_77 rfl (lv_at hl 2 rfl) ?_
      refine r_ci (va_runV (As := [.int a1]) (rest := []) ⟨hx, hb, hml, hown, hts⟩ (c_X8_waitingBehind hi 2 a1 (vSc1 vSc_1) s1 _ hv H.size) (cwV 1 hts gX10_about_X8_waitingBehind rfl rfl rfl (by decide +kernel) ⟨Nat.le_of_ble_eq_true rfl, Nat.le_of_ble_eq_true rfl⟩) ⟨pre_blind, r_recv hK.1 hP 2 (ltSt_0 (vSc1 vSc_1)) (ceSt_0 (vSc1 vSc_1) (s1 2)) rfl, pre_of hP hK⟩ rfl rfl hl.1 rfl (lv_room (Nat.le_of_ble_eq_true rfl)) dX10_about_78 ⟨Nat.zero_le _, Nat.zero_le _⟩) hS (fun r3 s3 H locs hv hP hS => ?_)
      have hD := wd_D (s := s) (cel := celC ad cA) (σ := s3) hi
      exact r_iret hx hb hr hlocks hv hP hS dX10_about_81
    have hv := hv.2 c22_3
    by_cases c22_4 : a2 = 4
    · have hv := hv.1 c22_4
      refine lv_tableIn (off := 60) (tgt := 82) hx hb dX10_about_22 (by rw [c22_4]; decide) (by rw [c22_4]; decide) (by rw [c22_4]; rfl) (by decide) ?_
      refine lv_aload_n hx hb dX10_about_82 rfl (lv_at hl 0 rfl) ?_
      refine lv_iload_n hx hb dX10_about_83 rfl (lv_at hl 2 rfl) ?_
      refine r_ci (va_runV (As := [.int a1]) (rest := []) ⟨hx, hb, hml, hown, hts⟩ (c_X8_letsNow hi 2 a1 (vSc1 vSc_1) s1 _ hv H.size) (cwV 1 hts gX10_about_X8_letsNow rfl rfl rfl (by decide +kernel) ⟨Nat.le_of_ble_eq_true rfl, Nat.le_of_ble_eq_true rfl⟩) ⟨pre_blind, r_recv hK.1 hP 2 (ltSt_0 (vSc1 vSc_1)) (ceSt_0 (vSc1 vSc_1) (s1 2)) rfl, pre_of hP hK⟩ rfl rfl hl.1 rfl (lv_room (Nat.le_of_ble_eq_true rfl)) dX10_about_84 ⟨Nat.zero_le _, Nat.zero_le _⟩) hS (fun r4 s4 H locs hv hP hS => ?_)
      have hD := wd_D (s := s) (cel := celC ad cA) (σ := s4) hi
      exact r_iret hx hb hr hlocks hv hP hS dX10_about_87
    have hv := hv.2 c22_4
    refine lv_tableOut (tgt := 88) hx hb dX10_about_22 (by have w0 := lv_neT (a := 0) c22_0 (by decide); have w1 := lv_neT (a := 1) c22_1 (by decide); have w2 := lv_neT (a := 2) c22_2 (by decide); have w3 := lv_neT (a := 3) c22_3 (by decide); have w4 := lv_neT (a := 4) c22_4 (by decide); omega) (by decide) ?_
    refine lv_aload_n hx hb dX10_about_88 rfl (lv_at hl 1 rfl) ?_
    refine r_ci (va_runV (As := []) (rest := []) ⟨hx, hb, hml, hown, hts⟩ (c_X10_bad hi  s1 _ hv H.size) (cwV 0 hts gX10_about_X10_bad rfl rfl rfl (by decide +kernel) ⟨Nat.le_of_ble_eq_true rfl, Nat.le_of_ble_eq_true rfl⟩) ⟨pre_blind, r_recv hK.1 hP 0 (by decide) (ceGR_0 (s1 0)) rfl, pre_of hP hK⟩ rfl rfl hl.1 rfl (lv_room (Nat.le_of_ble_eq_true rfl)) dX10_about_89 ⟨Nat.zero_le _, Nat.zero_le _⟩) hS (fun r5 s5 H locs hv hP hS => ?_)
    have hD := wd_D (s := s) (cel := celC ad cA) (σ := s5) hi
    exact r_iret hx hb hr hlocks hv hP hS dX10_about_92
  · have hv := hv.2 c5
    refine lv_aload_n hx hb dX10_about_8 rfl (lv_at hl 0 rfl) ?_
    refine r_ci (va_runV (As := []) (rest := []) ⟨hx, hb, hml, hown, hts⟩ (c_X10_bad hi  s1 _ hv H.size) (cwV 0 hts gX10_about_X10_bad rfl rfl rfl (by decide +kernel) ⟨Nat.le_of_ble_eq_true rfl, Nat.le_of_ble_eq_true rfl⟩) ⟨pre_blind, r_recv hK.1 hP 0 (by decide) (ceGR_0 (s1 0)) rfl, pre_of hP hK⟩ rfl rfl hl.1 rfl (lv_room (Nat.le_of_ble_eq_true rfl)) dX10_about_9 ⟨Nat.zero_le _, Nat.zero_le _⟩) hS (fun r6 s6 H locs hv hP hS => ?_)
    have hD := wd_D (s := s) (cel := celC ad cA) (σ := s6) hi
    exact r_iret hx hb hr hlocks hv hP hS dX10_about_12
set_option maxHeartbeats 4000000 in
theorem y_X10_about {p : Program} {l : Launch} {e : Env} {s : State} {m : MethodId} {args : Array Value} {below : List Frame} {meth : Method} {c : Code} {dC : Nat → ClassId} {dI : Nat → Nat → Nat} {ad : Nat → Nat} {cA cZ : ClassId} (hi : Inj 81 ad) (a1 : Int32) (a2 : Int32)  (C0 : Cx cX10_about RX10 wsX10_about 4 (some .int) p s m args meth c) (hK : KK dC dI cA cZ s) (Q : Int32 → St → Prop) : ∀ P xs ys σ, R_X10_about a1 a2 Q P xs ys σ → XX p l e ({ frames := 2, cells := 0, slots := 0, locals := 47 } : Room) s m args below meth c (dC, dI) 81 ad (celC ad cA) 4 (ZI below args s (dC, dI) 81 ad (celC ad cA) Q) (lay_X10_about ad a1 a2) P xs ys σ := by
  refine Fx.elim _ (fun P xs ys σ Y hY hB => ?_)
  exact hB.elim
set_option maxHeartbeats 4000000 in
theorem c_X10_about {l : Launch} {dC : Nat → ClassId} {dI : Nat → Nat → Nat} {ad : Nat → Nat} {cA cZ : ClassId} (hi : Inj 81 ad) (a1 : Int32) (a2 : Int32)  (s0 : St) (Q : Int32 → St → Prop) (hv : V_X10_about a1 a2 s0 Q) (sz : Nat) : Met l yX10_about wsX10_about ({ frames := 2, cells := 0, slots := 0, locals := 47 } : Room) (va_Pc [.ref (ad 0), .int a1, .int a2] (PW dC dI ad cA cZ 81 (celC ad cA) sz s0)) (va_Qi Q (fun u t => va_P (dC, dI) vwCl (wd 81 ad (celC ad cA) u) t.heap) (AA 81 ad sz)) 0 0 (AA 81 ad sz) := by
  refine Met.ofW (cc := cX10_about) (maxL := 4) (ret := (some .int)) (by decide) rfl ?_
  intro p e s m args below meth c s₁ B hml hv0
  obtain ⟨rfl, hsz, hP, hK⟩ := hv0
  subst hsz
  have C0 : Cx cX10_about RX10 wsX10_about 4 (some .int) p s m ([.ref (ad 0), .int a1, .int a2] : List Value).toArray meth c := ⟨B.exec, B.bytes, hml, findClass_of_methodNamed B.named, atoms_spec (ws := wsX10_about) B.pre, B.returns, B.notSynchronized⟩
  have hl := lv_entry ([.ref (ad 0), .int a1, .int a2]) (n := 4) (Nat.le_of_ble_eq_true rfl)
  rw [lg_entry_eq]
  generalize (lg_sl ([.ref (ad 0), .int a1, .int a2]) ++ List.replicate (4 - (lg_sl ([.ref (ad 0), .int a1, .int a2])).length) Slot.unset).toArray = ls at hl ⊢
  have hl : lv_has ls 4 [(0, .ref (ad 0)), (1, .int a1), (2, .int a2)] := hl
  exact w_X10_about_e hi a1 a2  C0 hK Q (R_X10_about a1 a2 Q) (y_X10_about hi a1 a2  C0 hK Q)  s0 hv hP va_S.rf hl
