def lay_X0_takeGreaterHeap (ad : Nat → Nat) (a1 : Int32) (a2 : Int32) (a3 : Int32) : Nat → List Int32 → List Int64 → Option (List (Nat × Value) × List Value) := fun P xs ys => match P, xs, ys with
  | 29, [t0], [] => some ([(0, .ref (ad 55)), (1, .int a1), (2, .int a2), (3, .int a3)], [.int t0])
  | 44, [], [] => some ([(0, .ref (ad 55)), (1, .int a1), (2, .int a2), (3, .int a3)], [])
  | _, _, _ => none
set_option maxHeartbeats 4000000 in
set_option maxRecDepth 100000 in
theorem w_X0_takeGreaterHeap_e {p : Program} {l : Launch} {e : Env} {s : State} {m : MethodId} {args : Array Value} {below : List Frame} {meth : Method} {c : Code} {dC : Nat → ClassId} {dI : Nat → Nat → Nat} {ad : Nat → Nat} {cA cZ : ClassId} (hi : Inj 81 ad) (a1 : Int32) (a2 : Int32) (a3 : Int32)  (C0 : Cx cX0_takeGreaterHeap RX0 wsX0_takeGreaterHeap 5 none p s m args meth c) (hK : KK dC dI cA cZ s) (Q : St → Prop) (Y : Nat → List Int32 → List Int64 → St → Prop) (hY : ∀ P xs ys σ, Y P xs ys σ → XX p l e ({ frames := 0, cells := 0, slots := 0, locals := 0 } : Room) s m args below meth c (dC, dI) 81 ad (celC ad cA) 5 (ZV below args s (dC, dI) 81 ad (celC ad cA) Q) (lay_X0_takeGreaterHeap ad a1 a2 a3) P xs ys σ)  (s0 : St) (hv : B_X0_takeGreaterHeap_e a1 a2 a3 Q Y  s0) {H : Heap} {locs : List Loc} {ls : Array Slot} (hP : va_P (dC, dI) vwCl (wd 81 ad (celC ad cA) s0) H) (hS : va_S (AA 81 ad s.heap.size) s.heap H locs) (hl : lv_has ls 5 [(0, .ref (ad 55)), (1, .int a1), (2, .int a2), (3, .int a3)]) : W p l e ({ frames := 0, cells := 0, slots := 0, locals := 0 } : Room) s m args below meth c H locs 0 0 (ZV below args s (dC, dI) 81 ad (celC ad cA) Q) (F0 m 0 ls []) := by
  obtain ⟨hx, hb, hml, hown, hts, hr, hlocks⟩ := C0
  have hD := wd_D (s := s) (cel := celC ad cA) (σ := s0) hi
  unfold B_X0_takeGreaterHeap_e at hv
  refine lv_iload_n hx hb dX0_takeGreaterHeap_0 rfl (lv_at hl 1 rfl) ?_
  refine lv_aload_n hx hb dX0_takeGreaterHeap_1 rfl (lv_at hl 0 rfl) ?_
  refine r_get hx hb hts (iwX0_takeGreaterHeap_X0) hown hK.1 hP 55 (by decide) (ceFo_0 (s0 55)) rfl 1 (by decide) (hts _ kX0_takeGreaterHeap_1) (v := .int (s0 55 1)) rfl dX0_takeGreaterHeap_2 ?_
  refine lv_icmp_ne (tgt := 28) hx hb dX0_takeGreaterHeap_5 (by decide) (fun c5 => ?_) (fun c5 => ?_)
  · have hv := hv.1 c5
    refine lv_iconst (v := 0) hx hb dX0_takeGreaterHeap_28 (by decide) ?_
    exact hY 29 [0] [] s0 hv _ _ rfl H locs ls hP hS (lv_sub hl [0, 1, 2, 3] rfl)
  · have hv := hv.2 c5
    refine lv_iload_n hx hb dX0_takeGreaterHeap_8 rfl (lv_at hl 2 rfl) ?_
    refine lv_aload_n hx hb dX0_takeGreaterHeap_9 rfl (lv_at hl 0 rfl) ?_
    refine r_get hx hb hts (iwX0_takeGreaterHeap_X0) hown hK.1 hP 55 (by decide) (ceFo_0 (s0 55)) rfl 2 (by decide) (hts _ kX0_takeGreaterHeap_2) (v := .int (s0 55 2)) rfl dX0_takeGreaterHeap_10 ?_
    refine lv_icmp_ne (tgt := 28) hx hb dX0_takeGreaterHeap_13 (by decide) (fun c13 => ?_) (fun c13 => ?_)
    · have hv := hv.1 c13
      refine lv_iconst (v := 0) hx hb dX0_takeGreaterHeap_28 (by decide) ?_
      exact hY 29 [0] [] s0 hv _ _ rfl H locs ls hP hS (lv_sub hl [0, 1, 2, 3] rfl)
    · have hv := hv.2 c13
      refine lv_iload_n hx hb dX0_takeGreaterHeap_16 rfl (lv_at hl 3 rfl) ?_
      refine lv_aload_n hx hb dX0_takeGreaterHeap_17 rfl (lv_at hl 0 rfl) ?_
      refine r_get hx hb hts (iwX0_takeGreaterHeap_X0) hown hK.1 hP 55 (by decide) (ceFo_0 (s0 55)) rfl 3 (by decide) (hts _ kX0_takeGreaterHeap_3) (v := .int (s0 55 3)) rfl dX0_takeGreaterHeap_18 ?_
      refine lv_icmp_ge (tgt := 28) hx hb dX0_takeGreaterHeap_21 (by decide) (fun c21 => ?_) (fun c21 => ?_)
      · have hv := hv.1 c21
        refine lv_iconst (v := 0) hx hb dX0_takeGreaterHeap_28 (by decide) ?_
        exact hY 29 [0] [] s0 hv _ _ rfl H locs ls hP hS (lv_sub hl [0, 1, 2, 3] rfl)
      · have hv := hv.2 c21
        refine lv_iconst (v := 1) hx hb dX0_takeGreaterHeap_24 (by decide) ?_
        refine lv_goto (tgt := 29) hx hb dX0_takeGreaterHeap_25 (by decide) ?_
        exact hY 29 [1] [] s0 hv _ _ rfl H locs ls hP hS (lv_sub hl [0, 1, 2, 3] rfl)
set_option maxHeartbeats 4000000 in
set_option maxRecDepth 100000 in
theorem w_X0_takeGreaterHeap_29 {p : Program} {l : Launch} {e : Env} {s : State} {m : MethodId} {args : Array Value} {below : List Frame} {meth : Method} {c : Code} {dC : Nat → ClassId} {dI : Nat → Nat → Nat} {ad : Nat → Nat} {cA cZ : ClassId} (hi : Inj 81 ad) (a1 : Int32) (a2 : Int32) (a3 : Int32)  (C0 : Cx cX0_takeGreaterHeap RX0 wsX0_takeGreaterHeap 5 none p s m args meth c) (hK : KK dC dI cA cZ s) (Q : St → Prop) (Y : Nat → List Int32 → List Int64 → St → Prop) (hY : ∀ P xs ys σ, Y P xs ys σ → XX p l e ({ frames := 0, cells := 0, slots := 0, locals := 0 } : Room) s m args below meth c (dC, dI) 81 ad (celC ad cA) 5 (ZV below args s (dC, dI) 81 ad (celC ad cA) Q) (lay_X0_takeGreaterHeap ad a1 a2 a3) P xs ys σ) (t0 : Int32) (s0 : St) (hv : B_X0_takeGreaterHeap_29 a1 a2 a3 Q Y t0 s0) {H : Heap} {locs : List Loc} {ls : Array Slot} (hP : va_P (dC, dI) vwCl (wd 81 ad (celC ad cA) s0) H) (hS : va_S (AA 81 ad s.heap.size) s.heap H locs) (hl : lv_has ls 5 [(0, .ref (ad 55)), (1, .int a1), (2, .int a2), (3, .int a3)]) : W p l e ({ frames := 0, cells := 0, slots := 0, locals := 0 } : Room) s m args below meth c H locs 0 0 (ZV below args s (dC, dI) 81 ad (celC ad cA) Q) (F0 m 29 ls [.int t0]) := by
  obtain ⟨hx, hb, hml, hown, hts, hr, hlocks⟩ := C0
  have hD := wd_D (s := s) (cel := celC ad cA) (σ := s0) hi
  unfold B_X0_takeGreaterHeap_29 at hv
  refine lv_istore (lv' := [(4, .int t0), (0, .ref (ad 55)), (1, .int a1), (2, .int a2), (3, .int a3)]) hx hb dX0_takeGreaterHeap_29 hl (by decide) rfl (fun ls hl => ?_)
  refine lv_iload_n hx hb dX0_takeGreaterHeap_31 rfl (lv_at hl 2 rfl) ?_
  refine lv_aload_n hx hb dX0_takeGreaterHeap_32 rfl (lv_at hl 1 rfl) ?_
  refine r_get hx hb hts (iwX0_takeGreaterHeap_X0) hown hK.1 hP 55 (by decide) (ceFo_0 (s0 55)) rfl 1 (by decide) (hts _ kX0_takeGreaterHeap_1) (v := .int (s0 55 1)) rfl dX0_takeGreaterHeap_33 ?_
  refine lv_icmp_gt (tgt := 44) hx hb dX0_takeGreaterHeap_36 (by decide) (fun c36 => ?_) (fun c36 => ?_)
  · have hv := hv.1 c36
    exact hY 44 [] [] s0 hv _ _ rfl H locs ls hP hS (lv_sub hl [1, 2, 3, 4] rfl)
  · have hv := hv.2 c36
    refine lv_iload hx hb dX0_takeGreaterHeap_39 (lv_at hl 0 rfl) ?_
    refine lv_if_eq (tgt := 59) hx hb dX0_takeGreaterHeap_41 (by decide) (fun c41 => ?_) (fun c41 => ?_)
    · have hv := hv.1 c41
      exact r_vret hx hb hr hlocks hv hP hS dX0_takeGreaterHeap_59
    · have hv := hv.2 c41
      exact hY 44 [] [] s0 hv _ _ rfl H locs ls hP hS (lv_sub hl [1, 2, 3, 4] rfl)
set_option maxHeartbeats 4000000 in
set_option maxRecDepth 100000 in
theorem w_X0_takeGreaterHeap_44 {p : Program} {l : Launch} {e : Env} {s : State} {m : MethodId} {args : Array Value} {below : List Frame} {meth : Method} {c : Code} {dC : Nat → ClassId} {dI : Nat → Nat → Nat} {ad : Nat → Nat} {cA cZ : ClassId} (hi : Inj 81 ad) (a1 : Int32) (a2 : Int32) (a3 : Int32)  (C0 : Cx cX0_takeGreaterHeap RX0 wsX0_takeGreaterHeap 5 none p s m args meth c) (hK : KK dC dI cA cZ s) (Q : St → Prop) (Y : Nat → List Int32 → List Int64 → St → Prop) (hY : ∀ P xs ys σ, Y P xs ys σ → XX p l e ({ frames := 0, cells := 0, slots := 0, locals := 0 } : Room) s m args below meth c (dC, dI) 81 ad (celC ad cA) 5 (ZV below args s (dC, dI) 81 ad (celC ad cA) Q) (lay_X0_takeGreaterHeap ad a1 a2 a3) P xs ys σ)  (s0 : St) (hv : B_X0_takeGreaterHeap_44 a1 a2 a3 Q Y  s0) {H : Heap} {locs : List Loc} {ls : Array Slot} (hP : va_P (dC, dI) vwCl (wd 81 ad (celC ad cA) s0) H) (hS : va_S (AA 81 ad s.heap.size) s.heap H locs) (hl : lv_has ls 5 [(0, .ref (ad 55)), (1, .int a1), (2, .int a2), (3, .int a3)]) : W p l e ({ frames := 0, cells := 0, slots := 0, locals := 0 } : Room) s m args below meth c H locs 0 0 (ZV below args s (dC, dI) 81 ad (celC ad cA) Q) (F0 m 44 ls []) := by
  obtain ⟨hx, hb, hml, hown, hts, hr, hlocks⟩ := C0
  have hD := wd_D (s := s) (cel := celC ad cA) (σ := s0) hi
  unfold B_X0_takeGreaterHeap_44 at hv
  refine lv_aload_n hx hb dX0_takeGreaterHeap_44 rfl (lv_at hl 0 rfl) ?_
  refine lv_iload_n hx hb dX0_takeGreaterHeap_45 rfl (lv_at hl 1 rfl) ?_
  refine r_put hx hb hts (iwX0_takeGreaterHeap_X0) tyX0 tyX0_ok nmX0 hown hK.1 hP hD hS 55 (by decide) (ceFo_0 (s0 55)) rfl 1 (by decide) (hts _ kX0_takeGreaterHeap_1) rfl (ty := .int) (v := .int a1) (by decide +kernel) rfl rfl (Nat.le_of_ble_eq_true rfl) (row := (upd (s0 55) 1 a1)) (by rw [(ceFo_0 (upd (s0 55) 1 a1))]; rfl) dX0_takeGreaterHeap_46 (fun H locs s1 es1 hP hD hS => ?_)
  have hv := hv s1 es1
  refine lv_aload_n hx hb dX0_takeGreaterHeap_49 rfl (lv_at hl 0 rfl) ?_
  refine lv_iload_n hx hb dX0_takeGreaterHeap_50 rfl (lv_at hl 2 rfl) ?_
  refine r_put hx hb hts (iwX0_takeGreaterHeap_X0) tyX0 tyX0_ok nmX0 hown hK.1 hP hD hS 55 (by decide) (ceFo_0 (s1 55)) rfl 2 (by decide) (hts _ kX0_takeGreaterHeap_2) rfl (ty := .int) (v := .int a2) (by decide +kernel) rfl rfl (Nat.le_of_ble_eq_true rfl) (row := (upd (s1 55) 2 a2)) (by rw [(ceFo_0 (upd (s1 55) 2 a2))]; rfl) dX0_takeGreaterHeap_51 (fun H locs s2 es2 hP hD hS => ?_)
  have hv := hv s2 es2
  refine lv_aload_n hx hb dX0_takeGreaterHeap_54 rfl (lv_at hl 0 rfl) ?_
  refine lv_iload_n hx hb dX0_takeGreaterHeap_55 rfl (lv_at hl 3 rfl) ?_
  refine r_put hx hb hts (iwX0_takeGreaterHeap_X0) tyX0 tyX0_ok nmX0 hown hK.1 hP hD hS 55 (by decide) (ceFo_0 (s2 55)) rfl 3 (by decide) (hts _ kX0_takeGreaterHeap_3) rfl (ty := .int) (v := .int a3) (by decide +kernel) rfl rfl (Nat.le_of_ble_eq_true rfl) (row := (upd (s2 55) 3 a3)) (by rw [(ceFo_0 (upd (s2 55) 3 a3))]; rfl) dX0_takeGreaterHeap_56 (fun H locs s3 es3 hP hD hS => ?_)
  have hv := hv s3 es3
  exact r_vret hx hb hr hlocks hv hP hS dX0_takeGreaterHeap_59
set_option maxHeartbeats 4000000 in
theorem y_X0_takeGreaterHeap {p : Program} {l : Launch} {e : Env} {s : State} {m : MethodId} {args : Array Value} {below : List Frame} {meth : Method} {c : Code} {dC : Nat → ClassId} {dI : Nat → Nat → Nat} {ad : Nat → Nat} {cA cZ : ClassId} (hi : Inj 81 ad) (a1 : Int32) (a2 : Int32) (a3 : Int32)  (C0 : Cx cX0_takeGreaterHeap RX0 wsX0_takeGreaterHeap 5 none p s m args meth c) (hK : KK dC dI cA cZ s) (Q : St → Prop) : ∀ P xs ys σ, R_X0_takeGreaterHeap a1 a2 a3 Q P xs ys σ → XX p l e ({ frames := 0, cells := 0, slots := 0, locals := 0 } : Room) s m args below meth c (dC, dI) 81 ad (celC ad cA) 5 (ZV below args s (dC, dI) 81 ad (celC ad cA) Q) (lay_X0_takeGreaterHeap ad a1 a2 a3) P xs ys σ := by
  refine Fx.elim _ (fun P xs ys σ Y hY hB => ?_)
  rcases hB with ⟨rfl, t0, rfl, rfl, hB⟩ | ⟨rfl, rfl, rfl, hB⟩
  · intro lv st he H locs ls hP hS hl
    cases he
    exact w_X0_takeGreaterHeap_29 hi a1 a2 a3  C0 hK Q Y hY t0 σ hB hP hS hl
  · intro lv st he H locs ls hP hS hl
    cases he
    exact w_X0_takeGreaterHeap_44 hi a1 a2 a3  C0 hK Q Y hY  σ hB hP hS hl
set_option maxHeartbeats 4000000 in
theorem c_X0_takeGreaterHeap {l : Launch} {dC : Nat → ClassId} {dI : Nat → Nat → Nat} {ad : Nat → Nat} {cA cZ : ClassId} (hi : Inj 81 ad) (a1 : Int32) (a2 : Int32) (a3 : Int32)  (s0 : St) (Q : St → Prop) (hv : V_X0_takeGreaterHeap a1 a2 a3 s0 Q) (sz : Nat) : Met l yX0_takeGreaterHeap wsX0_takeGreaterHeap ({ frames := 0, cells := 0, slots := 0, locals := 0 } : Room) (va_Pc [.ref (ad 55), .int a1, .int a2, .int a3] (PW dC dI ad cA cZ 81 (celC ad cA) sz s0)) (va_Qv Q (fun u t => va_P (dC, dI) vwCl (wd 81 ad (celC ad cA) u) t.heap) (AA 81 ad sz)) 0 0 (AA 81 ad sz) := by
  refine Met.ofW (cc := cX0_takeGreaterHeap) (maxL := 5) (ret := none) (by decide) rfl ?_
  intro p e s m args below meth c s₁ B hml hv0
  obtain ⟨rfl, hsz, hP, hK⟩ := hv0
  subst hsz
  have C0 : Cx cX0_takeGreaterHeap RX0 wsX0_takeGreaterHeap 5 none p s m ([.ref (ad 55), .int a1, .int a2, .int a3] : List Value).toArray meth c := ⟨B.exec, B.bytes, hml, findClass_of_methodNamed B.named, atoms_spec (ws := wsX0_takeGreaterHeap) B.pre, B.returns, B.notSynchronized⟩
  have hl := lv_entry ([.ref (ad 55), .int a1, .int a2, .int a3]) (n := 5) (Nat.le_of_ble_eq_true rfl)
  rw [lg_entry_eq]
  generalize (lg_sl ([.ref (ad 55), .int a1, .int a2, .int a3]) ++ List.replicate (5 - (lg_sl ([.ref (ad 55), .int a1, .int a2, .int a3])).length) Slot.unset).toArray = ls at hl ⊢
  have hl : lv_has ls 5 [(0, .ref (ad 55)), (1, .int a1), (2, .int a2), (3, .int a3)] := hl
  exact w_X0_takeGreaterHeap_e hi a1 a2 a3  C0 hK Q (R_X0_takeGreaterHeap a1 a2 a3 Q) (y_X0_takeGreaterHeap hi a1 a2 a3  C0 hK Q)  s0 hv hP va_S.rf hl
def lay_X0_findHeap (ad : Nat → Nat) (h1 : Nat) : Nat → List Int32 → List Int64 → Option (List (Nat × Value) × List Value) := fun P xs ys => match P, xs, ys with
  | 25, [x2], [] => some ([(0, .ref (ad 55)), (2, .int x2)], [])
  | 33, [x2, x3], [] => some ([(0, .ref (ad 55)), (2, .int x2), (3, .int x3)], [])
  | _, _, _ => none
set_option maxHeartbeats 4000000 in
set_option maxRecDepth 100000 in
theorem w_X0_findHeap_e {p : Program} {l : Launch} {e : Env} {s : State} {m : MethodId} {args : Array Value} {below : List Frame} {meth : Method} {c : Code} {dC : Nat → ClassId} {dI : Nat → Nat → Nat} {ad : Nat → Nat} {cA cZ : ClassId} (hi : Inj 81 ad) (h1 : Nat) (hh1 : isSt h1) (C0 : Cx cX0_findHeap RX0 wsX0_findHeap 4 none p s m args meth c) (hK : KK dC dI cA cZ s) (Q : St → Prop) (Y : Nat → List Int32 → List Int64 → St → Prop) (hY : ∀ P xs ys σ, Y P xs ys σ → XX p l e ({ frames := 3, cells := 0, slots := 0, locals := 69 } : Room) s m args below meth c (dC, dI) 81 ad (celC ad cA) 4 (ZV below args s (dC, dI) 81 ad (celC ad cA) Q) (lay_X0_findHeap ad h1) P xs ys σ)  (s0 : St) (hv : B_X0_findHeap_e h1 Q Y  s0) {H : Heap} {locs : List Loc} {ls : Array Slot} (hP : va_P (dC, dI) vwCl (wd 81 ad (celC ad cA) s0) H) (hS : va_S (AA 81 ad s.heap.size) s.heap H locs) (hl : lv_has ls 4 [(0, .ref (ad 55)), (1, .ref (ad h1))]) : W p l e ({ frames := 3, cells := 0, slots := 0, locals := 69 } : Room) s m args below meth c H locs 0 0 (ZV below args s (dC, dI) 81 ad (celC ad cA) Q) (F0 m 0 ls []) := by
  obtain ⟨hx, hb, hml, hown, hts, hr, hlocks⟩ := C0
  have hD := wd_D (s := s) (cel := celC ad cA) (σ := s0) hi
  unfold B_X0_findHeap_e at hv
  refine lv_aload_n hx hb dX0_findHeap_0 rfl (lv_at hl 0 rfl) ?_
  refine lv_iconst (v := 0) hx hb dX0_findHeap_1 (by decide) ?_
  refine r_put hx hb hts (iwX0_findHeap_X0) tyX0 tyX0_ok nmX0 hown hK.1 hP hD hS 55 (by decide) (ceFo_0 (s0 55)) rfl 1 (by decide) (hts _ kX0_findHeap_1) rfl (ty := .int) (v := .int 0) (by decide +kernel) rfl rfl (Nat.le_of_ble_eq_true rfl) (row := (upd (s0 55) 1 0)) (by rw [(ceFo_0 (upd (s0 55) 1 0))]; rfl) dX0_findHeap_2 (fun H locs s1 es1 hP hD hS => ?_)
  have hv := hv s1 es1
  refine lv_aload_n hx hb dX0_findHeap_5 rfl (lv_at hl 0 rfl) ?_
  refine lv_iconst (v := 0) hx hb dX0_findHeap_6 (by decide) ?_
  refine r_put hx hb hts (iwX0_findHeap_X0) tyX0 tyX0_ok nmX0 hown hK.1 hP hD hS 55 (by decide) (ceFo_0 (s1 55)) rfl 2 (by decide) (hts _ kX0_findHeap_2) rfl (ty := .int) (v := .int 0) (by decide +kernel) rfl rfl (Nat.le_of_ble_eq_true rfl) (row := (upd (s1 55) 2 0)) (by rw [(ceFo_0 (upd (s1 55) 2 0))]; rfl) dX0_findHeap_7 (fun H locs s2 es2 hP hD hS => ?_)
  have hv := hv s2 es2
  refine lv_aload_n hx hb dX0_findHeap_10 rfl (lv_at hl 0 rfl) ?_
  refine lv_iconst (v := (-1)) hx hb dX0_findHeap_11 (by decide) ?_
  refine r_put hx hb hts (iwX0_findHeap_X0) tyX0 tyX0_ok nmX0 hown hK.1 hP hD hS 55 (by decide) (ceFo_0 (s2 55)) rfl 3 (by decide) (hts _ kX0_findHeap_3) rfl (ty := .int) (v := .int ((-1))) (by decide +kernel) rfl rfl (Nat.le_of_ble_eq_true rfl) (row := (upd (s2 55) 3 ((-1)))) (by rw [(ceFo_0 (upd (s2 55) 3 ((-1))))]; rfl) dX0_findHeap_12 (fun H locs s3 es3 hP hD hS => ?_)
  have hv := hv s3 es3
  refine lv_aload_n hx hb dX0_findHeap_15 rfl (lv_at hl 0 rfl) ?_
  refine r_get hx hb hts (iwX0_findHeap_X0) hown hK.1 hP 55 (by decide) (ceFo_0 (s3 55)) rfl 0 (by decide) (hts _ kX0_findHeap_4) (v := .ref (ad 56)) rfl dX0_findHeap_16 ?_
  refine lv_aload_n hx hb dX0_findHeap_19 rfl (lv_at hl 1 rfl) ?_
  refine r_cv (va_runV (As := [.ref (ad h1)]) (rest := []) ⟨hx, hb, hml, hown, hts⟩ (c_X8_copy hi 56 h1 vSt_56 hh1 s3 _ hv H.size) (cwV 1 hts gX0_findHeap_X8_copy rfl rfl rfl (by decide +kernel) ⟨Nat.le_of_ble_eq_true rfl, Nat.le_of_ble_eq_true rfl⟩) ⟨pre_blind, r_recv hK.1 hP 56 (ltSt_0 vSt_56) (ceSt_0 vSt_56 (s3 56)) rfl, pre_of hP hK⟩ rfl rfl hl.1 rfl (lv_room (Nat.le_of_ble_eq_true rfl)) dX0_findHeap_20 ⟨Nat.zero_le _, Nat.zero_le _⟩) hS (fun s4 H locs hv hP hS => ?_)
  have hD := wd_D (s := s) (cel := celC ad cA) (σ := s4) hi
  refine lv_iconst (v := 0) hx hb dX0_findHeap_23 (by decide) ?_
  refine lv_istore_n (lv' := [(2, .int 0), (0, .ref (ad 55)), (1, .ref (ad h1))]) hx hb dX0_findHeap_24 rfl hl (by decide) rfl (fun ls hl => ?_)
  exact hY 25 [0] [] s4 hv _ _ rfl H locs ls hP hS (lv_sub hl [1, 0] rfl)
set_option maxHeartbeats 4000000 in
set_option maxRecDepth 100000 in
theorem w_X0_findHeap_25 {p : Program} {l : Launch} {e : Env} {s : State} {m : MethodId} {args : Array Value} {below : List Frame} {meth : Method} {c : Code} {dC : Nat → ClassId} {dI : Nat → Nat → Nat} {ad : Nat → Nat} {cA cZ : ClassId} (hi : Inj 81 ad) (h1 : Nat) (hh1 : isSt h1) (C0 : Cx cX0_findHeap RX0 wsX0_findHeap 4 none p s m args meth c) (hK : KK dC dI cA cZ s) (Q : St → Prop) (Y : Nat → List Int32 → List Int64 → St → Prop) (hY : ∀ P xs ys σ, Y P xs ys σ → XX p l e ({ frames := 3, cells := 0, slots := 0, locals := 69 } : Room) s m args below meth c (dC, dI) 81 ad (celC ad cA) 4 (ZV below args s (dC, dI) 81 ad (celC ad cA) Q) (lay_X0_findHeap ad h1) P xs ys σ) (x2 : Int32) (s0 : St) (hv : B_X0_findHeap_25 h1 Q Y x2 s0) {H : Heap} {locs : List Loc} {ls : Array Slot} (hP : va_P (dC, dI) vwCl (wd 81 ad (celC ad cA) s0) H) (hS : va_S (AA 81 ad s.heap.size) s.heap H locs) (hl : lv_has ls 4 [(0, .ref (ad 55)), (2, .int x2)]) : W p l e ({ frames := 3, cells := 0, slots := 0, locals := 69 } : Room) s m args below meth c H locs 0 0 (ZV below args s (dC, dI) 81 ad (celC ad cA) Q) (F0 m 25 ls []) := by
  obtain ⟨hx, hb, hml, hown, hts, hr, hlocks⟩ := C0
  have hD := wd_D (s := s) (cel := celC ad cA) (σ := s0) hi
  unfold B_X0_findHeap_25 at hv
  refine lv_iload_n hx hb dX0_findHeap_25 rfl (lv_at hl 1 rfl) ?_
  refine lv_bipush (v := 30) hx hb dX0_findHeap_26 (by decide) ?_
  refine lv_icmp_gt (tgt := 85) hx hb dX0_findHeap_28 (by decide) (fun c28 => ?_) (fun c28 => ?_)
  · have hv := hv.1 c28
    exact r_vret hx hb hr hlocks hv hP hS dX0_findHeap_85
  · have hv := hv.2 c28
    refine lv_iconst (v := 0) hx hb dX0_findHeap_31 (by decide) ?_
    refine lv_istore_n (lv' := [(3, .int 0), (0, .ref (ad 55)), (2, .int x2)]) hx hb dX0_findHeap_32 rfl hl (by decide) rfl (fun ls hl => ?_)
    exact hY 33 [x2, 0] [] s0 hv _ _ rfl H locs ls hP hS (lv_sub hl [1, 2, 0] rfl)
set_option maxHeartbeats 4000000 in
set_option maxRecDepth 100000 in
theorem w_X0_findHeap_33 {p : Program} {l : Launch} {e : Env} {s : State} {m : MethodId} {args : Array Value} {below : List Frame} {meth : Method} {c : Code} {dC : Nat → ClassId} {dI : Nat → Nat → Nat} {ad : Nat → Nat} {cA cZ : ClassId} (hi : Inj 81 ad) (h1 : Nat) (hh1 : isSt h1) (C0 : Cx cX0_findHeap RX0 wsX0_findHeap 4 none p s m args meth c) (hK : KK dC dI cA cZ s) (Q : St → Prop) (Y : Nat → List Int32 → List Int64 → St → Prop) (hY : ∀ P xs ys σ, Y P xs ys σ → XX p l e ({ frames := 3, cells := 0, slots := 0, locals := 69 } : Room) s m args below meth c (dC, dI) 81 ad (celC ad cA) 4 (ZV below args s (dC, dI) 81 ad (celC ad cA) Q) (lay_X0_findHeap ad h1) P xs ys σ) (x2 : Int32) (x3 : Int32) (s0 : St) (hv : B_X0_findHeap_33 h1 Q Y x2 x3 s0) {H : Heap} {locs : List Loc} {ls : Array Slot} (hP : va_P (dC, dI) vwCl (wd 81 ad (celC ad cA) s0) H) (hS : va_S (AA 81 ad s.heap.size) s.heap H locs) (hl : lv_has ls 4 [(0, .ref (ad 55)), (2, .int x2), (3, .int x3)]) : W p l e ({ frames := 3, cells := 0, slots := 0, locals := 69 } : Room) s m args below meth c H locs 0 0 (ZV below args s (dC, dI) 81 ad (celC ad cA) Q) (F0 m 33 ls []) := by
  obtain ⟨hx, hb, hml, hown, hts, hr, hlocks⟩ := C0
  have hD := wd_D (s := s) (cel := celC ad cA) (σ := s0) hi
  unfold B_X0_findHeap_33 at hv
  refine lv_iload_n hx hb dX0_findHeap_33 rfl (lv_at hl 2 rfl) ?_
  refine lv_aload_n hx hb dX0_findHeap_34 rfl (lv_at hl 0 rfl) ?_
  refine r_get hx hb hts (iwX0_findHeap_X0) hown hK.1 hP 55 (by decide) (ceFo_0 (s0 55)) rfl 0 (by decide) (hts _ kX0_findHeap_4) (v := .ref (ad 56)) rfl dX0_findHeap_35 ?_
  refine r_get hx hb hts (iwX0_findHeap_X8) hown hK.1 hP 56 (ltSt_0 vSt_56) (ceSt_0 vSt_56 (s0 56)) rfl 9 (by decide) (hts _ kX0_findHeap_5) (v := .int (s0 56 9)) rfl dX0_findHeap_38 ?_
  refine lv_icmp_ge (tgt := 72) hx hb dX0_findHeap_41 (by decide) (fun c41 => ?_) (fun c41 => ?_)
  · have hv := hv.1 c41
    refine lv_aload_n hx hb dX0_findHeap_72 rfl (lv_at hl 0 rfl) ?_
    refine r_get hx hb hts (iwX0_findHeap_X0) hown hK.1 hP 55 (by decide) (ceFo_0 (s0 55)) rfl 0 (by decide) (hts _ kX0_findHeap_4) (v := .ref (ad 56)) rfl dX0_findHeap_73 ?_
    refine r_cv (va_runV (As := []) (rest := []) ⟨hx, hb, hml, hown, hts⟩ (c_X8_passHour hi 56 vSt_56 s0 _ hv H.size) (cwV 0 hts gX0_findHeap_X8_passHour rfl rfl rfl (by decide +kernel) ⟨Nat.le_of_ble_eq_true rfl, Nat.le_of_ble_eq_true rfl⟩) ⟨pre_blind, r_recv hK.1 hP 56 (ltSt_0 vSt_56) (ceSt_0 vSt_56 (s0 56)) rfl, pre_of hP hK⟩ rfl rfl hl.1 rfl (lv_room (Nat.le_of_ble_eq_true rfl)) dX0_findHeap_76 ⟨Nat.zero_le _, Nat.zero_le _⟩) hS (fun s1 H locs hv hP hS => ?_)
    have hD := wd_D (s := s) (cel := celC ad cA) (σ := s1) hi
    refine lv_iinc (v := x2 + 1) (lv' := [(2, .int (x2 + 1)), (0, .ref (ad 55)), (3, .int x3)]) hx hb dX0_findHeap_79 hl (k := 1) rfl rfl (by decide) rfl (fun ls hl => ?_)
    refine lv_goto (tgt := 25) hx hb dX0_findHeap_82 (by decide) ?_
    exact hY 25 [x2 + 1] [] s1 hv _ _ rfl H locs ls hP hS (lv_sub hl [1, 0] rfl)
  · have hv := hv.2 c41
    refine lv_aload_n hx hb dX0_findHeap_44 rfl (lv_at hl 0 rfl) ?_
    refine lv_aload_n hx hb dX0_findHeap_45 rfl (lv_at hl 0 rfl) ?_
    refine r_get hx hb hts (iwX0_findHeap_X0) hown hK.1 hP 55 (by decide) (ceFo_0 (s0 55)) rfl 0 (by decide) (hts _ kX0_findHeap_4) (v := .ref (ad 56)) rfl dX0_findHeap_46 ?_
    refine lv_iload_n hx hb dX0_findHeap_49 rfl (lv_at hl 2 rfl) ?_
    refine r_ci (va_runV (As := [.int x3]) (rest := [.ref (ad 55)]) ⟨hx, hb, hml, hown, hts⟩ (c_X8_waitingBehind hi 56 x3 vSt_56 s0 _ hv H.size) (cwV 1 hts gX0_findHeap_X8_waitingBehind rfl rfl rfl (by decide +kernel) ⟨Nat.le_of_ble_eq_true rfl, Nat.le_of_ble_eq_true rfl⟩) ⟨pre_blind, r_recv hK.1 hP 56 (ltSt_0 vSt_56) (ceSt_0 vSt_56 (s0 56)) rfl, pre_of hP hK⟩ rfl rfl hl.1 rfl (lv_room (Nat.le_of_ble_eq_true rfl)) dX0_findHeap_50 ⟨Nat.zero_le _, Nat.zero_le _⟩) hS (fun r2 s2 H locs hv hP hS => ?_)
    have hD := wd_D (s := s) (cel := celC ad cA) (σ := s2) hi
    refine lv_iload_n hx hb dX0_findHeap_53 rfl (lv_at hl 1 rfl) ?_
    refine lv_aload_n hx hb dX0_findHeap_54 rfl (lv_at hl 0 rfl) ?_
    refine r_get hx hb hts (iwX0_findHeap_X0) hown hK.1 hP 55 (by decide) (ceFo_0 (s2 55)) rfl 0 (by decide) (hts _ kX0_findHeap_4) (v := .ref (ad 56)) rfl dX0_findHeap_55 ?_
    refine r_get hx hb hts (iwX0_findHeap_X8) hown hK.1 hP 56 (ltSt_0 vSt_56) (ceSt_0 vSt_56 (s2 56)) rfl 5 (by decide) (hts _ kX0_findHeap_6) (v := .ref (ad 62)) rfl dX0_findHeap_58 ?_
    refine lv_iload_n hx hb dX0_findHeap_61 rfl (lv_at hl 2 rfl) ?_
    obtain ⟨hin, hv⟩ := hv
    refine r_iald hx hb hK.1 hP 62 (ltSt_6 vSt_56) (ceSt_6 vSt_56 (s2 62)) hin dX0_findHeap_62 ?_
    refine r_cv (va_runV (As := [.int r2, .int x2, .int (s2 62 x3.toNatClampNeg)]) (rest := []) ⟨hx, hb, hml, hown, hts⟩ (c_X0_takeGreaterHeap hi r2 x2 (s2 62 x3.toNatClampNeg) s2 _ hv H.size) (cwV 3 hts gX0_findHeap_X0_takeGreaterHeap rfl rfl rfl (by decide +kernel) ⟨Nat.le_of_ble_eq_true rfl, Nat.le_of_ble_eq_true rfl⟩) ⟨pre_blind, r_recv hK.1 hP 55 (by decide) (ceFo_0 (s2 55)) rfl, pre_of hP hK⟩ rfl rfl hl.1 rfl (lv_room (Nat.le_of_ble_eq_true rfl)) dX0_findHeap_63 ⟨Nat.zero_le _, Nat.zero_le _⟩) hS (fun s3 H locs hv hP hS => ?_)
    have hD := wd_D (s := s) (cel := celC ad cA) (σ := s3) hi
    refine lv_iinc (v := x3 + 1) (lv' := [(3, .int (x3 + 1)), (0, .ref (ad 55)), (2, .int x2)]) hx hb dX0_findHeap_66 hl (k := 2) rfl rfl (by decide) rfl (fun ls hl => ?_)
    refine lv_goto (tgt := 33) hx hb dX0_findHeap_69 (by decide) ?_
    exact hY 33 [x2, x3 + 1] [] s3 hv _ _ rfl H locs ls hP hS (lv_sub hl [1, 2, 0] rfl)
set_option maxHeartbeats 4000000 in
theorem y_X0_findHeap {p : Program} {l : Launch} {e : Env} {s : State} {m : MethodId} {args : Array Value} {below : List Frame} {meth : Method} {c : Code} {dC : Nat → ClassId} {dI : Nat → Nat → Nat} {ad : Nat → Nat} {cA cZ : ClassId} (hi : Inj 81 ad) (h1 : Nat) (hh1 : isSt h1) (C0 : Cx cX0_findHeap RX0 wsX0_findHeap 4 none p s m args meth c) (hK : KK dC dI cA cZ s) (Q : St → Prop) : ∀ P xs ys σ, R_X0_findHeap h1 Q P xs ys σ → XX p l e ({ frames := 3, cells := 0, slots := 0, locals := 69 } : Room) s m args below meth c (dC, dI) 81 ad (celC ad cA) 4 (ZV below args s (dC, dI) 81 ad (celC ad cA) Q) (lay_X0_findHeap ad h1) P xs ys σ := by
  refine Fx.elim _ (fun P xs ys σ Y hY hB => ?_)
  rcases hB with ⟨rfl, x2, rfl, rfl, hB⟩ | ⟨rfl, x2, x3, rfl, rfl, hB⟩
  · intro lv st he H locs ls hP hS hl
    cases he
    exact w_X0_findHeap_25 hi h1 hh1 C0 hK Q Y hY x2 σ hB hP hS hl
  · intro lv st he H locs ls hP hS hl
    cases he
    exact w_X0_findHeap_33 hi h1 hh1 C0 hK Q Y hY x2 x3 σ hB hP hS hl
set_option maxHeartbeats 4000000 in
theorem c_X0_findHeap {l : Launch} {dC : Nat → ClassId} {dI : Nat → Nat → Nat} {ad : Nat → Nat} {cA cZ : ClassId} (hi : Inj 81 ad) (h1 : Nat) (hh1 : isSt h1) (s0 : St) (Q : St → Prop) (hv : V_X0_findHeap h1 s0 Q) (sz : Nat) : Met l yX0_findHeap wsX0_findHeap ({ frames := 3, cells := 0, slots := 0, locals := 69 } : Room) (va_Pc [.ref (ad 55), .ref (ad h1)] (PW dC dI ad cA cZ 81 (celC ad cA) sz s0)) (va_Qv Q (fun u t => va_P (dC, dI) vwCl (wd 81 ad (celC ad cA) u) t.heap) (AA 81 ad sz)) 0 0 (AA 81 ad sz) := by
  refine Met.ofW (cc := cX0_findHeap) (maxL := 4) (ret := none) (by decide) rfl ?_
  intro p e s m args below meth c s₁ B hml hv0
  obtain ⟨rfl, hsz, hP, hK⟩ := hv0
  subst hsz
  have C0 : Cx cX0_findHeap RX0 wsX0_findHeap 4 none p s m ([.ref (ad 55), .ref (ad h1)] : List Value).toArray meth c := ⟨B.exec, B.bytes, hml, findClass_of_methodNamed B.named, atoms_spec (ws := wsX0_findHeap) B.pre, B.returns, B.notSynchronized⟩
  have hl := lv_entry ([.ref (ad 55), .ref (ad h1)]) (n := 4) (Nat.le_of_ble_eq_true rfl)
  rw [lg_entry_eq]
  generalize (lg_sl ([.ref (ad 55), .ref (ad h1)]) ++ List.replicate (4 - (lg_sl ([.ref (ad 55), .ref (ad h1)])).length) Slot.unset).toArray = ls at hl ⊢
  have hl : lv_has ls 4 [(0, .ref (ad 55)), (1, .ref (ad h1))] := hl
  exact w_X0_findHeap_e hi h1 hh1 C0 hK Q (R_X0_findHeap h1 Q) (y_X0_findHeap hi h1 hh1 C0 hK Q)  s0 hv hP va_S.rf hl
def lay_X10_heap (ad : Nat → Nat) (a1 : Int32) : Nat → List Int32 → List Int64 → Option (List (Nat × Value) × List Value) := fun P xs ys => match P, xs, ys with
  | _, _, _ => none
set_option maxHeartbeats 4000000 in
set_option maxRecDepth 100000 in
theorem w_X10_heap_e {p : Program} {l : Launch} {e : Env} {s : State} {m : MethodId} {args : Array Value} {below : List Frame} {meth : Method} {c : Code} {dC : Nat → ClassId} {dI : Nat → Nat → Nat} {ad : Nat → Nat} {cA cZ : ClassId} (hi : Inj 81 ad) (a1 : Int32)  (C0 : Cx cX10_heap RX10 wsX10_heap 2 (some .int) p s m args meth c) (hK : KK dC dI cA cZ s) (Q : Int32 → St → Prop) (Y : Nat → List Int32 → List Int64 → St → Prop) (hY : ∀ P xs ys σ, Y P xs ys σ → XX p l e ({ frames := 4, cells := 0, slots := 0, locals := 92 } : Room) s m args below meth c (dC, dI) 81 ad (celC ad cA) 2 (ZI below args s (dC, dI) 81 ad (celC ad cA) Q) (lay_X10_heap ad a1) P xs ys σ)  (s0 : St) (hv : B_X10_heap_e a1 Q Y  s0) {H : Heap} {locs : List Loc} {ls : Array Slot} (hP : va_P (dC, dI) vwCl (wd 81 ad (celC ad cA) s0) H) (hS : va_S (AA 81 ad s.heap.size) s.heap H locs) (hl : lv_has ls 2 [(0, .ref (ad 0)), (1, .int a1)]) : W p l e ({ frames := 4, cells := 0, slots := 0, locals := 92 } : Room) s m args below meth c H locs 0 0 (ZI below args s (dC, dI) 81 ad (celC ad cA) Q) (F0 m 0 ls []) := by
  obtain ⟨hx, hb, hml, hown, hts, hr, hlocks⟩ := C0
  have hD := wd_D (s := s) (cel := celC ad cA) (σ := s0) hi
  unfold B_X10_heap_e at hv
  refine lv_iload_n hx hb dX10_heap_0 rfl (lv_at hl 1 rfl) ?_
  refine lv_iconst (v := 0) hx hb dX10_heap_1 (by decide) ?_
  refine lv_iconst (v := 2) hx hb dX10_heap_2 (by decide) ?_
  refine r_ci (va_runS (As := [.int a1, .int 0, .int 2]) (rest := []) ⟨hx, hb, hml, hown, hts⟩ (c_X10_within hi a1 0 2 s0 _ hv H.size) (va_cwS 3 hts gX10_heap_X10_within rfl rfl rfl (by decide +kernel) ⟨Nat.le_of_ble_eq_true rfl, Nat.le_of_ble_eq_true rfl⟩) ⟨pre_blind, pre_of hP hK⟩ rfl rfl hl.1 rfl (lv_room (Nat.le_of_ble_eq_true rfl)) dX10_heap_3 ⟨Nat.zero_le _, Nat.zero_le _⟩) hS (fun r1 s1 H locs hv hP hS => ?_)
  obtain ⟨hz_r1, hv⟩ := hv
  have hD := wd_D (s := s) (cel := celC ad cA) (σ := s1) hi
  refine lv_if_ne (tgt := 14) hx hb dX10_heap_6 (by decide) (fun c6 => ?_) (fun c6 => ?_)
  · have hv := hv.1 c6
    refine lv_aload_n hx hb dX10_heap_14 rfl (lv_at hl 0 rfl) ?_
    refine r_get hx hb hts (iwX10_heap_X10) hown hK.1 hP 0 (by decide) (ceGR_0 (s1 0)) rfl 3 (by decide) (hts _ kX10_heap_1) (v := .ref (ad 55)) rfl dX10_heap_15 ?_
    refine lv_aload_n hx hb dX10_heap_18 rfl (lv_at hl 0 rfl) ?_
    refine r_get hx hb hts (iwX10_heap_X10) hown hK.1 hP 0 (by decide) (ceGR_0 (s1 0)) rfl 0 (by decide) (hts _ kX10_heap_2) (v := .ref (ad 1)) rfl dX10_heap_19 ?_
    refine r_get hx hb hts (iwX10_heap_X7) hown hK.1 hP 1 (ltSc_0 vSc_1) (ceSc_0 vSc_1 (s1 1)) rfl 0 (by decide) (hts _ kX10_heap_3) (v := .ref (ad 2)) rfl dX10_heap_22 ?_
    refine r_cv (va_runV (As := [.ref (ad 2)]) (rest := []) ⟨hx, hb, hml, hown, hts⟩ (c_X0_findHeap hi 2 (vSc1 vSc_1) s1 _ hv H.size) (cwV 1 hts gX10_heap_X0_findHeap rfl rfl rfl (by decide +kernel) ⟨Nat.le_of_ble_eq_true rfl, Nat.le_of_ble_eq_true rfl⟩) ⟨pre_blind, r_recv hK.1 hP 55 (by decide) (ceFo_0 (s1 55)) rfl, pre_of hP hK⟩ rfl rfl hl.1 rfl (lv_room (Nat.le_of_ble_eq_true rfl)) dX10_heap_25 ⟨Nat.zero_le _, Nat.zero_le _⟩) hS (fun s2 H locs hv hP hS => ?_)
    have hD := wd_D (s := s) (cel := celC ad cA) (σ := s2) hi
    refine lv_iload_n hx hb dX10_heap_28 rfl (lv_at hl 1 rfl) ?_
    by_cases c29_0 : a1 = 0
    · have hv := hv.1 c29_0
      refine lv_lookup (off := 27) (tgt := 56) hx hb dX10_heap_29 (by decide) (by rw [c29_0]; rfl) (by decide) ?_
      refine lv_aload_n hx hb dX10_heap_56 rfl (lv_at hl 0 rfl) ?_
      refine r_get hx hb hts (iwX10_heap_X10) hown hK.1 hP 0 (by decide) (ceGR_0 (s2 0)) rfl 3 (by decide) (hts _ kX10_heap_1) (v := .ref (ad 55)) rfl dX10_heap_57 ?_
      refine r_get hx hb hts (iwX10_heap_X0) hown hK.1 hP 55 (by decide) (ceFo_0 (s2 55)) rfl 1 (by decide) (hts _ kX10_heap_4) (v := .int (s2 55 1)) rfl dX10_heap_60 ?_
      exact r_iret hx hb hr hlocks hv hP hS dX10_heap_63
    have hv := hv.2 c29_0
    by_cases c29_1 : a1 = 1
    · have hv := hv.1 c29_1
      refine lv_lookup (off := 35) (tgt := 64) hx hb dX10_heap_29 (by decide) (by rw [c29_1]; rfl) (by decide) ?_
      refine lv_aload_n hx hb dX10_heap_64 rfl (lv_at hl 0 rfl) ?_
      refine r_get hx hb hts (iwX10_heap_X10) hown hK.1 hP 0 (by decide) (ceGR_0 (s2 0)) rfl 3 (by decide) (hts _ kX10_heap_1) (v := .ref (ad 55)) rfl dX10_heap_65 ?_
      refine r_get hx hb hts (iwX10_heap_X0) hown hK.1 hP 55 (by decide) (ceFo_0 (s2 55)) rfl 2 (by decide) (hts _ kX10_heap_5) (v := .int (s2 55 2)) rfl dX10_heap_68 ?_
      exact r_iret hx hb hr hlocks hv hP hS dX10_heap_71
    have hv := hv.2 c29_1
    refine lv_lookup (off := 43) (tgt := 72) hx hb dX10_heap_29 (by decide) (by show Op.lookupswitch.offset [(0, 27), (1, 35)] 43 _ = 43; rw [lv_osw c29_0 (by decide), lv_osw c29_1 (by decide)]; rfl) (by decide) ?_
    refine lv_aload_n hx hb dX10_heap_72 rfl (lv_at hl 0 rfl) ?_
    refine r_get hx hb hts (iwX10_heap_X10) hown hK.1 hP 0 (by decide) (ceGR_0 (s2 0)) rfl 3 (by decide) (hts _ kX10_heap_1) (v := .ref (ad 55)) rfl dX10_heap_73 ?_
    refine r_get hx hb hts (iwX10_heap_X0) hown hK.1 hP 55 (by decide) (ceFo_0 (s2 55)) rfl 3 (by decide) (hts _ kX10_heap_6) (v := .int (s2 55 3)) rfl dX10_heap_76 ?_
    exact r_iret hx hb hr hlocks hv hP hS dX10_heap_79
  · have hv := hv.2 c6
    refine lv_aload_n hx hb dX10_heap_9 rfl (lv_at hl 0 rfl) ?_
    refine r_ci (va_runV (As := []) (rest := []) ⟨hx, hb, hml, hown, hts⟩ (c_X10_bad hi  s1 _ hv H.size) (cwV 0 hts gX10_heap_X10_bad rfl rfl rfl (by decide +kernel) ⟨Nat.le_of_ble_eq_true rfl, Nat.le_of_ble_eq_true rfl⟩) ⟨pre_blind, r_recv hK.1 hP 0 (by decide) (ceGR_0 (s1 0)) rfl, pre_of hP hK⟩ rfl rfl hl.1 rfl (lv_room (Nat.le_of_ble_eq_true rfl)) dX10_heap_10 ⟨Nat.zero_le _, Nat.zero_le _⟩) hS (fun r3 s3 H locs hv hP hS => ?_)
    have hD := wd_D (s := s) (cel := celC ad cA) (σ := s3) hi
    exact r_iret hx hb hr hlocks hv hP hS dX10_heap_13
set_option maxHeartbeats 4000000 in
theorem y_X10_heap {p : Program} {l : Launch} {e : Env} {s : State} {m : MethodId} {args : Array Value} {below : List Frame} {meth : Method} {c : Code} {dC : Nat → ClassId} {dI : Nat → Nat → Nat} {ad : Nat → Nat} {cA cZ : ClassId} (hi : Inj 81 ad) (a1 : Int32)  (C0 : Cx cX10_heap RX10 wsX10_heap 2 (some .int) p s m args meth c) (hK : KK dC dI cA cZ s) (Q : Int32 → St → Prop) : ∀ P xs ys σ, R_X10_heap a1 Q P xs ys σ → XX p l e ({ frames := 4, cells := 0, slots := 0, locals := 92 } : Room) s m args below meth c (dC, dI) 81 ad (celC ad cA) 2 (ZI below args s (dC, dI) 81 ad (celC ad cA) Q) (lay_X10_heap ad a1) P xs ys σ := by
  refine Fx.elim _ (fun P xs ys σ Y hY hB => ?_)
  exact hB.elim
set_option maxHeartbeats 4000000 in
theorem c_X10_heap {l : Launch} {dC : Nat → ClassId} {dI : Nat → Nat → Nat} {ad : Nat → Nat} {cA cZ : ClassId} (hi : Inj 81 ad) (a1 : Int32)  (s0 : St) (Q : Int32 → St → Prop) (hv : V_X10_heap a1 s0 Q) (sz : Nat) : Met l yX10_heap wsX10_heap ({ frames := 4, cells := 0, slots := 0, locals := 92 } : Room) (va_Pc [.ref (ad 0), .int a1] (PW dC dI ad cA cZ 81 (celC ad cA) sz s0)) (va_Qi Q (fun u t => va_P (dC, dI) vwCl (wd 81 ad (celC ad cA) u) t.heap) (AA 81 ad sz)) 0 0 (AA 81 ad sz) := by
  refine Met.ofW (cc := cX10_heap) (maxL := 2) (ret := (some .int)) (by decide) rfl ?_
  intro p e s m args below meth c s₁ B hml hv0
  obtain ⟨rfl, hsz, hP, hK⟩ := hv0
  subst hsz
  have C0 : Cx cX10_heap RX10 wsX10_heap 2 (some .int) p s m ([.ref (ad 0), .int a1] : List Value).toArray meth c := ⟨B.exec, B.bytes, hml, findClass_of_methodNamed B.named, atoms_spec (ws := wsX10_heap) B.pre, B.returns, B.notSynchronized⟩
  have hl := lv_entry ([.ref (ad 0), .int a1]) (n := 2) (Nat.le_of_ble_eq_true rfl)
  rw [lg_entry_eq]
  generalize (lg_sl ([.ref (ad 0), .int a1]) ++ List.replicate (2 - (lg_sl ([.ref (ad 0), .int a1])).length) Slot.unset).toArray = ls at hl ⊢
  have hl : lv_has ls 2 [(0, .ref (ad 0)), (1, .int a1)] := hl
  exact w_X10_heap_e hi a1  C0 hK Q (R_X10_heap a1 Q) (y_X10_heap hi a1  C0 hK Q)  s0 hv hP va_S.rf hl
def lay_J6_bitCount_0f7a4 (ad : Nat → Nat)  : Nat → List Int32 → List Int64 → Option (List (Nat × Value) × List Value) := fun P xs ys => match P, xs, ys with
  | _, _, _ => none
set_option maxHeartbeats 4000000 in
set_option maxRecDepth 100000 in
theorem w_J6_bitCount_0f7a4_e {p : Program} {l : Launch} {e : Env} {s : State} {m : MethodId} {args : Array Value} {below : List Frame} {meth : Method} {c : Code} {dC : Nat → ClassId} {dI : Nat → Nat → Nat} {ad : Nat → Nat} {cA cZ : ClassId} (hi : Inj 81 ad)   (C0 : Cx cJ6_bitCount_0f7a4 RJ6 wsJ6_bitCount_0f7a4 1 (some .int) p s m args meth c) (hK : KK dC dI cA cZ s) (Q : Int32 → St → Prop) (Y : Nat → List Int32 → List Int64 → St → Prop) (hY : ∀ P xs ys σ, Y P xs ys σ → XX p l e ({ frames := 0, cells := 0, slots := 0, locals := 0 } : Room) s m args below meth c (dC, dI) 81 ad (celC ad cA) 1 (ZI below args s (dC, dI) 81 ad (celC ad cA) Q) (lay_J6_bitCount_0f7a4 ad ) P xs ys σ) (a0 : Int32) (s0 : St) (hv : B_J6_bitCount_0f7a4_e  Q Y a0 s0) {H : Heap} {locs : List Loc} {ls : Array Slot} (hP : va_P (dC, dI) vwCl (wd 81 ad (celC ad cA) s0) H) (hS : va_S (AA 81 ad s.heap.size) s.heap H locs) (hl : lv_has ls 1 [(0, .int a0)]) : W p l e ({ frames := 0, cells := 0, slots := 0, locals := 0 } : Room) s m args below meth c H locs 0 0 (ZI below args s (dC, dI) 81 ad (celC ad cA) Q) (F0 m 0 ls []) := by
  obtain ⟨hx, hb, hml, hown, hts, hr, hlocks⟩ := C0
  have hD := wd_D (s := s) (cel := celC ad cA) (σ := s0) hi
  unfold B_J6_bitCount_0f7a4_e at hv
  refine lv_iload_n hx hb dJ6_bitCount_0f7a4_0 rfl (lv_at hl 0 rfl) ?_
  refine lv_iload_n hx hb dJ6_bitCount_0f7a4_1 rfl (lv_at hl 0 rfl) ?_
  refine lv_iconst (v := 1) hx hb dJ6_bitCount_0f7a4_2 (by decide) ?_
  refine lv_iushr (v := (a0.toUInt32 >>> ((1 : Int32).toUInt32 &&& Int32.toUInt32 31)).toInt32) hx hb dJ6_bitCount_0f7a4_3 rfl ?_
  refine lv_ldcw (v := 1431655765) hx hb hown (hts _ kJ6_bitCount_0f7a4_1) dJ6_bitCount_0f7a4_4 ?_
  refine lv_iand hx hb dJ6_bitCount_0f7a4_7 ?_
  refine lv_isub hx hb dJ6_bitCount_0f7a4_8 ?_
  refine lv_topi (fun v1 ev1 => ?_)
  have hv := hv v1 ev1
  refine lv_istore_n (lv' := [(0, .int v1)]) hx hb dJ6_bitCount_0f7a4_9 rfl hl (by decide) rfl (fun ls hl => ?_)
  refine lv_iload_n hx hb dJ6_bitCount_0f7a4_10 rfl (lv_at hl 0 rfl) ?_
  refine lv_ldcw (v := 858993459) hx hb hown (hts _ kJ6_bitCount_0f7a4_2) dJ6_bitCount_0f7a4_11 ?_
  refine lv_iand hx hb dJ6_bitCount_0f7a4_14 ?_
  refine lv_iload_n hx hb dJ6_bitCount_0f7a4_15 rfl (lv_at hl 0 rfl) ?_
  refine lv_iconst (v := 2) hx hb dJ6_bitCount_0f7a4_16 (by decide) ?_
  refine lv_iushr (v := (v1.toUInt32 >>> ((2 : Int32).toUInt32 &&& Int32.toUInt32 31)).toInt32) hx hb dJ6_bitCount_0f7a4_17 rfl ?_
  refine lv_ldcw (v := 858993459) hx hb hown (hts _ kJ6_bitCount_0f7a4_2) dJ6_bitCount_0f7a4_18 ?_
  refine lv_iand hx hb dJ6_bitCount_0f7a4_21 ?_
  refine lv_iadd hx hb dJ6_bitCount_0f7a4_22 ?_
  refine lv_topi (fun v2 ev2 => ?_)
  have hv := hv v2 ev2
  refine lv_istore_n (lv' := [(0, .int v2)]) hx hb dJ6_bitCount_0f7a4_23 rfl hl (by decide) rfl (fun ls hl => ?_)
  refine lv_iload_n hx hb dJ6_bitCount_0f7a4_24 rfl (lv_at hl 0 rfl) ?_
  refine lv_iload_n hx hb dJ6_bitCount_0f7a4_25 rfl (lv_at hl 0 rfl) ?_
  refine lv_iconst (v := 4) hx hb dJ6_bitCount_0f7a4_26 (by decide) ?_
  refine lv_iushr (v := (v2.toUInt32 >>> ((4 : Int32).toUInt32 &&& Int32.toUInt32 31)).toInt32) hx hb dJ6_bitCount_0f7a4_27 rfl ?_
  refine lv_iadd hx hb dJ6_bitCount_0f7a4_28 ?_
  refine lv_ldcw (v := 252645135) hx hb hown (hts _ kJ6_bitCount_0f7a4_3) dJ6_bitCount_0f7a4_29 ?_
  refine lv_iand hx hb dJ6_bitCount_0f7a4_32 ?_
  refine lv_topi (fun v3 ev3 => ?_)
  have hv := hv v3 ev3
  refine lv_istore_n (lv' := [(0, .int v3)]) hx hb dJ6_bitCount_0f7a4_33 rfl hl (by decide) rfl (fun ls hl => ?_)
  refine lv_iload_n hx hb dJ6_bitCount_0f7a4_34 rfl (lv_at hl 0 rfl) ?_
  refine lv_iload_n hx hb dJ6_bitCount_0f7a4_35 rfl (lv_at hl 0 rfl) ?_
  refine lv_bipush (v := 8) hx hb dJ6_bitCount_0f7a4_36 (by decide) ?_
  refine lv_iushr (v := (v3.toUInt32 >>> ((8 : Int32).toUInt32 &&& Int32.toUInt32 31)).toInt32) hx hb dJ6_bitCount_0f7a4_38 rfl ?_
  refine lv_iadd hx hb dJ6_bitCount_0f7a4_39 ?_
  refine lv_topi (fun v4 ev4 => ?_)
  have hv := hv v4 ev4
  refine lv_istore_n (lv' := [(0, .int v4)]) hx hb dJ6_bitCount_0f7a4_40 rfl hl (by decide) rfl (fun ls hl => ?_)
  refine lv_iload_n hx hb dJ6_bitCount_0f7a4_41 rfl (lv_at hl 0 rfl) ?_
  refine lv_iload_n hx hb dJ6_bitCount_0f7a4_42 rfl (lv_at hl 0 rfl) ?_
  refine lv_bipush (v := 16) hx hb dJ6_bitCount_0f7a4_43 (by decide) ?_
  refine lv_iushr (v := (v4.toUInt32 >>> ((16 : Int32).toUInt32 &&& Int32.toUInt32 31)).toInt32) hx hb dJ6_bitCount_0f7a4_45 rfl ?_
  refine lv_iadd hx hb dJ6_bitCount_0f7a4_46 ?_
  refine lv_topi (fun v5 ev5 => ?_)
  have hv := hv v5 ev5
  refine lv_istore_n (lv' := [(0, .int v5)]) hx hb dJ6_bitCount_0f7a4_47 rfl hl (by decide) rfl (fun ls hl => ?_)
  refine lv_iload_n hx hb dJ6_bitCount_0f7a4_48 rfl (lv_at hl 0 rfl) ?_
  refine lv_bipush (v := 63) hx hb dJ6_bitCount_0f7a4_49 (by decide) ?_
  refine lv_iand hx hb dJ6_bitCount_0f7a4_51 ?_
  exact r_iret hx hb hr hlocks hv hP hS dJ6_bitCount_0f7a4_52
set_option maxHeartbeats 4000000 in
theorem y_J6_bitCount_0f7a4 {p : Program} {l : Launch} {e : Env} {s : State} {m : MethodId} {args : Array Value} {below : List Frame} {meth : Method} {c : Code} {dC : Nat → ClassId} {dI : Nat → Nat → Nat} {ad : Nat → Nat} {cA cZ : ClassId} (hi : Inj 81 ad)   (C0 : Cx cJ6_bitCount_0f7a4 RJ6 wsJ6_bitCount_0f7a4 1 (some .int) p s m args meth c) (hK : KK dC dI cA cZ s) (Q : Int32 → St → Prop) : ∀ P xs ys σ, R_J6_bitCount_0f7a4  Q P xs ys σ → XX p l e ({ frames := 0, cells := 0, slots := 0, locals := 0 } : Room) s m args below meth c (dC, dI) 81 ad (celC ad cA) 1 (ZI below args s (dC, dI) 81 ad (celC ad cA) Q) (lay_J6_bitCount_0f7a4 ad ) P xs ys σ := by
  refine Fx.elim _ (fun P xs ys σ Y hY hB => ?_)
  exact hB.elim
set_option maxHeartbeats 4000000 in
theorem c_J6_bitCount_0f7a4 {l : Launch} {dC : Nat → ClassId} {dI : Nat → Nat → Nat} {ad : Nat → Nat} {cA cZ : ClassId} (hi : Inj 81 ad) (a0 : Int32)  (s0 : St) (Q : Int32 → St → Prop) (hv : V_J6_bitCount_0f7a4 a0 s0 Q) (sz : Nat) : Met l yJ6_bitCount_0f7a4 wsJ6_bitCount_0f7a4 ({ frames := 0, cells := 0, slots := 0, locals := 0 } : Room) (va_Pc [.int a0] (PW dC dI ad cA cZ 81 (celC ad cA) sz s0)) (va_Qi Q (fun u t => va_P (dC, dI) vwCl (wd 81 ad (celC ad cA) u) t.heap) (AA 81 ad sz)) 0 0 (AA 81 ad sz) := by
  refine Met.ofW (cc := cJ6_bitCount_0f7a4) (maxL := 1) (ret := (some .int)) (by decide) rfl ?_
  intro p e s m args below meth c s₁ B hml hv0
  obtain ⟨rfl, hsz, hP, hK⟩ := hv0
  subst hsz
  have C0 : Cx cJ6_bitCount_0f7a4 RJ6 wsJ6_bitCount_0f7a4 1 (some .int) p s m ([.int a0] : List Value).toArray meth c := ⟨B.exec, B.bytes, hml, findClass_of_methodNamed B.named, atoms_spec (ws := wsJ6_bitCount_0f7a4) B.pre, B.returns, B.notSynchronized⟩
  have hl := lv_entry ([.int a0]) (n := 1) (Nat.le_of_ble_eq_true rfl)
  rw [lg_entry_eq]
  generalize (lg_sl ([.int a0]) ++ List.replicate (1 - (lg_sl ([.int a0])).length) Slot.unset).toArray = ls at hl ⊢
  have hl : lv_has ls 1 [(0, .int a0)] := hl
  exact w_J6_bitCount_0f7a4_e hi   C0 hK Q (R_J6_bitCount_0f7a4  Q) (y_J6_bitCount_0f7a4 hi   C0 hK Q) a0 s0 hv hP va_S.rf hl
def lay_X0_holds (ad : Nat → Nat) (h1 : Nat) (a2 : Int32) (a3 : Int32) : Nat → List Int32 → List Int64 → Option (List (Nat × Value) × List Value) := fun P xs ys => match P, xs, ys with
  | _, _, _ => none
set_option maxHeartbeats 4000000 in
set_option maxRecDepth 100000 in
theorem w_X0_holds_e {p : Program} {l : Launch} {e : Env} {s : State} {m : MethodId} {args : Array Value} {below : List Frame} {meth : Method} {c : Code} {dC : Nat → ClassId} {dI : Nat → Nat → Nat} {ad : Nat → Nat} {cA cZ : ClassId} (hi : Inj 81 ad) (h1 : Nat) (a2 : Int32) (a3 : Int32) (hh1 : isSt h1) (C0 : Cx cX0_holds RX0 wsX0_holds 4 (some .boolean) p s m args meth c) (hK : KK dC dI cA cZ s) (Q : Int32 → St → Prop) (Y : Nat → List Int32 → List Int64 → St → Prop) (hY : ∀ P xs ys σ, Y P xs ys σ → XX p l e ({ frames := 4, cells := 0, slots := 0, locals := 91 } : Room) s m args below meth c (dC, dI) 81 ad (celC ad cA) 4 (ZZ below args s (dC, dI) 81 ad (celC ad cA) Q) (lay_X0_holds ad h1 a2 a3) P xs ys σ)  (s0 : St) (hv : B_X0_holds_e h1 a2 a3 Q Y  s0) {H : Heap} {locs : List Loc} {ls : Array Slot} (hP : va_P (dC, dI) vwCl (wd 81 ad (celC ad cA) s0) H) (hS : va_S (AA 81 ad s.heap.size) s.heap H locs) (hl : lv_has ls 4 [(0, .ref (ad 55)), (1, .ref (ad h1)), (2, .int a2), (3, .int a3)]) : W p l e ({ frames := 4, cells := 0, slots := 0, locals := 91 } : Room) s m args below meth c H locs 0 0 (ZZ below args s (dC, dI) 81 ad (celC ad cA) Q) (F0 m 0 ls []) := by
  obtain ⟨hx, hb, hml, hown, hts, hr, hlocks⟩ := C0
  have hD := wd_D (s := s) (cel := celC ad cA) (σ := s0) hi
  unfold B_X0_holds_e at hv
  refine lv_aload_n hx hb dX0_holds_0 rfl (lv_at hl 0 rfl) ?_
  refine r_get hx hb hts (iwX0_holds_X0) hown hK.1 hP 55 (by decide) (ceFo_0 (s0 55)) rfl 0 (by decide) (hts _ kX0_holds_1) (v := .ref (ad 56)) rfl dX0_holds_1 ?_
  refine lv_aload_n hx hb dX0_holds_4 rfl (lv_at hl 1 rfl) ?_
  refine r_cv (va_runV (As := [.ref (ad h1)]) (rest := []) ⟨hx, hb, hml, hown, hts⟩ (c_X8_copy hi 56 h1 vSt_56 hh1 s0 _ hv H.size) (cwV 1 hts gX0_holds_X8_copy rfl rfl rfl (by decide +kernel) ⟨Nat.le_of_ble_eq_true rfl, Nat.le_of_ble_eq_true rfl⟩) ⟨pre_blind, r_recv hK.1 hP 56 (ltSt_0 vSt_56) (ceSt_0 vSt_56 (s0 56)) rfl, pre_of hP hK⟩ rfl rfl hl.1 rfl (lv_room (Nat.le_of_ble_eq_true rfl)) dX0_holds_5 ⟨Nat.zero_le _, Nat.zero_le _⟩) hS (fun s1 H locs hv hP hS => ?_)
  have hD := wd_D (s := s) (cel := celC ad cA) (σ := s1) hi
  refine lv_aload_n hx hb dX0_holds_8 rfl (lv_at hl 0 rfl) ?_
  refine r_get hx hb hts (iwX0_holds_X0) hown hK.1 hP 55 (by decide) (ceFo_0 (s1 55)) rfl 0 (by decide) (hts _ kX0_holds_1) (v := .ref (ad 56)) rfl dX0_holds_9 ?_
  refine lv_iload_n hx hb dX0_holds_12 rfl (lv_at hl 2 rfl) ?_
  refine r_put hx hb hts (iwX0_holds_X8) tyX8 tyX8_ok nmX8 hown hK.1 hP hD hS 56 (ltSt_0 vSt_56) (ceSt_0 vSt_56 (s1 56)) rfl 10 (by decide) (hts _ kX0_holds_2) rfl (ty := .int) (v := .int a2) (by decide +kernel) rfl rfl (Nat.le_of_ble_eq_true rfl) (row := (upd (s1 56) 10 a2)) (by rw [(ceSt_0 vSt_56 (upd (s1 56) 10 a2))]; rfl) dX0_holds_13 (fun H locs s2 es2 hP hD hS => ?_)
  have hv := hv s2 es2
  refine lv_aload_n hx hb dX0_holds_16 rfl (lv_at hl 0 rfl) ?_
  refine r_get hx hb hts (iwX0_holds_X0) hown hK.1 hP 55 (by decide) (ceFo_0 (s2 55)) rfl 0 (by decide) (hts _ kX0_holds_1) (v := .ref (ad 56)) rfl dX0_holds_17 ?_
  refine lv_iload_n hx hb dX0_holds_20 rfl (lv_at hl 3 rfl) ?_
  refine r_cv (va_runV (As := [.int a3]) (rest := []) ⟨hx, hb, hml, hown, hts⟩ (c_X8_pass hi 56 a3 vSt_56 s2 _ hv H.size) (cwV 1 hts gX0_holds_X8_pass rfl rfl rfl (by decide +kernel) ⟨Nat.le_of_ble_eq_true rfl, Nat.le_of_ble_eq_true rfl⟩) ⟨pre_blind, r_recv hK.1 hP 56 (ltSt_0 vSt_56) (ceSt_0 vSt_56 (s2 56)) rfl, pre_of hP hK⟩ rfl rfl hl.1 rfl (lv_room (Nat.le_of_ble_eq_true rfl)) dX0_holds_21 ⟨Nat.zero_le _, Nat.zero_le _⟩) hS (fun s3 H locs hv hP hS => ?_)
  have hD := wd_D (s := s) (cel := celC ad cA) (σ := s3) hi
  refine lv_aload_n hx hb dX0_holds_24 rfl (lv_at hl 0 rfl) ?_
  refine r_get hx hb hts (iwX0_holds_X0) hown hK.1 hP 55 (by decide) (ceFo_0 (s3 55)) rfl 0 (by decide) (hts _ kX0_holds_1) (v := .ref (ad 56)) rfl dX0_holds_25 ?_
  refine r_ci (va_runV (As := []) (rest := []) ⟨hx, hb, hml, hown, hts⟩ (c_X8_over hi 56 vSt_56 s3 _ hv H.size) (cwV 0 hts gX0_holds_X8_over rfl rfl rfl (by decide +kernel) ⟨Nat.le_of_ble_eq_true rfl, Nat.le_of_ble_eq_true rfl⟩) ⟨pre_blind, r_recv hK.1 hP 56 (ltSt_0 vSt_56) (ceSt_0 vSt_56 (s3 56)) rfl, pre_of hP hK⟩ rfl rfl hl.1 rfl (lv_room (Nat.le_of_ble_eq_true rfl)) dX0_holds_28 ⟨Nat.zero_le _, Nat.zero_le _⟩) hS (fun r4 s4 H locs hv hP hS => ?_)
  have hD := wd_D (s := s) (cel := celC ad cA) (σ := s4) hi
  refine lv_aload_n hx hb dX0_holds_31 rfl (lv_at hl 1 rfl) ?_
  refine r_ci (va_runV (As := []) (rest := [.int r4]) ⟨hx, hb, hml, hown, hts⟩ (c_X8_over hi h1 hh1 s4 _ hv H.size) (cwV 0 hts gX0_holds_X8_over rfl rfl rfl (by decide +kernel) ⟨Nat.le_of_ble_eq_true rfl, Nat.le_of_ble_eq_true rfl⟩) ⟨pre_blind, r_recv hK.1 hP h1 (ltSt_0 hh1) (ceSt_0 hh1 (s4 h1)) rfl, pre_of hP hK⟩ rfl rfl hl.1 rfl (lv_room (Nat.le_of_ble_eq_true rfl)) dX0_holds_32 ⟨Nat.zero_le _, Nat.zero_le _⟩) hS (fun r5 s5 H locs hv hP hS => ?_)
  have hD := wd_D (s := s) (cel := celC ad cA) (σ := s5) hi
  refine lv_icmp_ne (tgt := 42) hx hb dX0_holds_35 (by decide) (fun c35 => ?_) (fun c35 => ?_)
  · have hv := hv.1 c35
    refine lv_iconst (v := 0) hx hb dX0_holds_42 (by decide) ?_
    exact r_zret hx hb hr hlocks (Or.inl rfl) hv hP hS dX0_holds_43
  · have hv := hv.2 c35
    refine lv_iconst (v := 1) hx hb dX0_holds_38 (by decide) ?_
    refine lv_goto (tgt := 43) hx hb dX0_holds_39 (by decide) ?_
    exact r_zret hx hb hr hlocks (Or.inr rfl) hv hP hS dX0_holds_43
set_option maxHeartbeats 4000000 in
theorem y_X0_holds {p : Program} {l : Launch} {e : Env} {s : State} {m : MethodId} {args : Array Value} {below : List Frame} {meth : Method} {c : Code} {dC : Nat → ClassId} {dI : Nat → Nat → Nat} {ad : Nat → Nat} {cA cZ : ClassId} (hi : Inj 81 ad) (h1 : Nat) (a2 : Int32) (a3 : Int32) (hh1 : isSt h1) (C0 : Cx cX0_holds RX0 wsX0_holds 4 (some .boolean) p s m args meth c) (hK : KK dC dI cA cZ s) (Q : Int32 → St → Prop) : ∀ P xs ys σ, R_X0_holds h1 a2 a3 Q P xs ys σ → XX p l e ({ frames := 4, cells := 0, slots := 0, locals := 91 } : Room) s m args below meth c (dC, dI) 81 ad (celC ad cA) 4 (ZZ below args s (dC, dI) 81 ad (celC ad cA) Q) (lay_X0_holds ad h1 a2 a3) P xs ys σ := by
  refine Fx.elim _ (fun P xs ys σ Y hY hB => ?_)
  exact hB.elim
set_option maxHeartbeats 4000000 in
theorem c_X0_holds {l : Launch} {dC : Nat → ClassId} {dI : Nat → Nat → Nat} {ad : Nat → Nat} {cA cZ : ClassId} (hi : Inj 81 ad) (h1 : Nat) (a2 : Int32) (a3 : Int32) (hh1 : isSt h1) (s0 : St) (Q : Int32 → St → Prop) (hv : V_X0_holds h1 a2 a3 s0 Q) (sz : Nat) : Met l yX0_holds wsX0_holds ({ frames := 4, cells := 0, slots := 0, locals := 91 } : Room) (va_Pc [.ref (ad 55), .ref (ad h1), .int a2, .int a3] (PW dC dI ad cA cZ 81 (celC ad cA) sz s0)) (va_Qi (fun r u => (r = 0 ∨ r = 1) ∧ Q r u) (fun u t => va_P (dC, dI) vwCl (wd 81 ad (celC ad cA) u) t.heap) (AA 81 ad sz)) 0 0 (AA 81 ad sz) := by
  refine Met.ofW (cc := cX0_holds) (maxL := 4) (ret := (some .boolean)) (by decide) rfl ?_
  intro p e s m args below meth c s₁ B hml hv0
  obtain ⟨rfl, hsz, hP, hK⟩ := hv0
  subst hsz
  have C0 : Cx cX0_holds RX0 wsX0_holds 4 (some .boolean) p s m ([.ref (ad 55), .ref (ad h1), .int a2, .int a3] : List Value).toArray meth c := ⟨B.exec, B.bytes, hml, findClass_of_methodNamed B.named, atoms_spec (ws := wsX0_holds) B.pre, B.returns, B.notSynchronized⟩
  have hl := lv_entry ([.ref (ad 55), .ref (ad h1), .int a2, .int a3]) (n := 4) (Nat.le_of_ble_eq_true rfl)
  rw [lg_entry_eq]
  generalize (lg_sl ([.ref (ad 55), .ref (ad h1), .int a2, .int a3]) ++ List.replicate (4 - (lg_sl ([.ref (ad 55), .ref (ad h1), .int a2, .int a3])).length) Slot.unset).toArray = ls at hl ⊢
  have hl : lv_has ls 4 [(0, .ref (ad 55)), (1, .ref (ad h1)), (2, .int a2), (3, .int a3)] := hl
  exact w_X0_holds_e hi h1 a2 a3 hh1 C0 hK Q (R_X0_holds h1 a2 a3 Q) (y_X0_holds hi h1 a2 a3 hh1 C0 hK Q)  s0 hv hP va_S.rf hl
def lay_X0_fewestThatHold (ad : Nat → Nat) (h1 : Nat) (a2 : Int32) : Nat → List Int32 → List Int64 → Option (List (Nat × Value) × List Value) := fun P xs ys => match P, xs, ys with
  | 8, [x3, x4, x5], [] => some ([(0, .ref (ad 55)), (1, .ref (ad h1)), (2, .int a2), (3, .int x3), (4, .int x4), (5, .int x5)], [])
  | _, _, _ => none
set_option maxHeartbeats 4000000 in
set_option maxRecDepth 100000 in
theorem w_X0_fewestThatHold_e {p : Program} {l : Launch} {e : Env} {s : State} {m : MethodId} {args : Array Value} {below : List Frame} {meth : Method} {c : Code} {dC : Nat → ClassId} {dI : Nat → Nat → Nat} {ad : Nat → Nat} {cA cZ : ClassId} (hi : Inj 81 ad) (h1 : Nat) (a2 : Int32) (hh1 : isSt h1) (C0 : Cx cX0_fewestThatHold RX0 wsX0_fewestThatHold 7 (some .int) p s m args meth c) (hK : KK dC dI cA cZ s) (Q : Int32 → St → Prop) (Y : Nat → List Int32 → List Int64 → St → Prop) (hY : ∀ P xs ys σ, Y P xs ys σ → XX p l e ({ frames := 5, cells := 0, slots := 0, locals := 114 } : Room) s m args below meth c (dC, dI) 81 ad (celC ad cA) 7 (ZI below args s (dC, dI) 81 ad (celC ad cA) Q) (lay_X0_fewestThatHold ad h1 a2) P xs ys σ)  (s0 : St) (hv : B_X0_fewestThatHold_e h1 a2 Q Y  s0) {H : Heap} {locs : List Loc} {ls : Array Slot} (hP : va_P (dC, dI) vwCl (wd 81 ad (celC ad cA) s0) H) (hS : va_S (AA 81 ad s.heap.size) s.heap H locs) (hl : lv_has ls 7 [(0, .ref (ad 55)), (1, .ref (ad h1)), (2, .int a2)]) : W p l e ({ frames := 5, cells := 0, slots := 0, locals := 114 } : Room) s m args below meth c H locs 0 0 (ZI below args s (dC, dI) 81 ad (celC ad cA) Q) (F0 m 0 ls []) := by
  obtain ⟨hx, hb, hml, hown, hts, hr, hlocks⟩ := C0
  have hD := wd_D (s := s) (cel := celC ad cA) (σ := s0) hi
  unfold B_X0_fewestThatHold_e at hv
  refine lv_iconst (v := (-1)) hx hb dX0_fewestThatHold_0 (by decide) ?_
  refine lv_istore_n (lv' := [(3, .int ((-1))), (0, .ref (ad 55)), (1, .ref (ad h1)), (2, .int a2)]) hx hb dX0_fewestThatHold_1 rfl hl (by decide) rfl (fun ls hl => ?_)
  refine lv_iconst (v := 4) hx hb dX0_fewestThatHold_2 (by decide) ?_
  refine lv_istore (lv' := [(4, .int 4), (3, .int ((-1))), (0, .ref (ad 55)), (1, .ref (ad h1)), (2, .int a2)]) hx hb dX0_fewestThatHold_3 hl (by decide) rfl (fun ls hl => ?_)
  refine lv_iconst (v := 0) hx hb dX0_fewestThatHold_5 (by decide) ?_
  refine lv_istore (lv' := [(5, .int 0), (4, .int 4), (3, .int ((-1))), (0, .ref (ad 55)), (1, .ref (ad h1)), (2, .int a2)]) hx hb dX0_fewestThatHold_6 hl (by decide) rfl (fun ls hl => ?_)
  exact hY 8 [(-1), 4, 0] [] s0 hv _ _ rfl H locs ls hP hS (lv_sub hl [3, 4, 5, 2, 1, 0] rfl)
set_option maxHeartbeats 4000000 in
set_option maxRecDepth 100000 in
theorem w_X0_fewestThatHold_8 {p : Program} {l : Launch} {e : Env} {s : State} {m : MethodId} {args : Array Value} {below : List Frame} {meth : Method} {c : Code} {dC : Nat → ClassId} {dI : Nat → Nat → Nat} {ad : Nat → Nat} {cA cZ : ClassId} (hi : Inj 81 ad) (h1 : Nat) (a2 : Int32) (hh1 : isSt h1) (C0 : Cx cX0_fewestThatHold RX0 wsX0_fewestThatHold 7 (some .int) p s m args meth c) (hK : KK dC dI cA cZ s) (Q : Int32 → St → Prop) (Y : Nat → List Int32 → List Int64 → St → Prop) (hY : ∀ P xs ys σ, Y P xs ys σ → XX p l e ({ frames := 5, cells := 0, slots := 0, locals := 114 } : Room) s m args below meth c (dC, dI) 81 ad (celC ad cA) 7 (ZI below args s (dC, dI) 81 ad (celC ad cA) Q) (lay_X0_fewestThatHold ad h1 a2) P xs ys σ) (x3 : Int32) (x4 : Int32) (x5 : Int32) (s0 : St) (hv : B_X0_fewestThatHold_8 h1 a2 Q Y x3 x4 x5 s0) {H : Heap} {locs : List Loc} {ls : Array Slot} (hP : va_P (dC, dI) vwCl (wd 81 ad (celC ad cA) s0) H) (hS : va_S (AA 81 ad s.heap.size) s.heap H locs) (hl : lv_has ls 7 [(0, .ref (ad 55)), (1, .ref (ad h1)), (2, .int a2), (3, .int x3), (4, .int x4), (5, .int x5)]) : W p l e ({ frames := 5, cells := 0, slots := 0, locals := 114 } : Room) s m args below meth c H locs 0 0 (ZI below args s (dC, dI) 81 ad (celC ad cA) Q) (F0 m 8 ls []) := by
  obtain ⟨hx, hb, hml, hown, hts, hr, hlocks⟩ := C0
  have hD := wd_D (s := s) (cel := celC ad cA) (σ := s0) hi
  unfold B_X0_fewestThatHold_8 at hv
  refine lv_iload hx hb dX0_fewestThatHold_8 (lv_at hl 5 rfl) ?_
  refine lv_iconst (v := 1) hx hb dX0_fewestThatHold_10 (by decide) ?_
  refine lv_aload_n hx hb dX0_fewestThatHold_11 rfl (lv_at hl 1 rfl) ?_
  refine r_get hx hb hts (iwX0_fewestThatHold_X8) hown hK.1 hP h1 (ltSt_0 hh1) (ceSt_0 hh1 (s0 h1)) rfl 9 (by decide) (hts _ kX0_fewestThatHold_1) (v := .int (s0 h1 9)) rfl dX0_fewestThatHold_12 ?_
  refine lv_ishl hx hb dX0_fewestThatHold_15 ?_
  refine lv_icmp_ge (tgt := 57) hx hb dX0_fewestThatHold_16 (by decide) (fun c16 => ?_) (fun c16 => ?_)
  · have hv := hv.1 c16
    refine lv_iload_n hx hb dX0_fewestThatHold_57 rfl (lv_at hl 3 rfl) ?_
    exact r_iret hx hb hr hlocks hv hP hS dX0_fewestThatHold_58
  · have hv := hv.2 c16
    refine lv_iload hx hb dX0_fewestThatHold_19 (lv_at hl 5 rfl) ?_
    refine r_ci (va_runS (As := [.int x5]) (rest := []) ⟨hx, hb, hml, hown, hts⟩ (c_J6_bitCount_0f7a4 hi x5 s0 _ hv H.size) (va_cwS 1 hts gX0_fewestThatHold_J6_bitCount_0f7a4 rfl rfl rfl (by decide +kernel) ⟨Nat.le_of_ble_eq_true rfl, Nat.le_of_ble_eq_true rfl⟩) ⟨pre_blind, pre_of hP hK⟩ rfl rfl hl.1 rfl (lv_room (Nat.le_of_ble_eq_true rfl)) dX0_fewestThatHold_21 ⟨Nat.zero_le _, Nat.zero_le _⟩) hS (fun r1 s1 H locs hv hP hS => ?_)
    have hD := wd_D (s := s) (cel := celC ad cA) (σ := s1) hi
    refine lv_istore (lv' := [(6, .int r1), (0, .ref (ad 55)), (1, .ref (ad h1)), (2, .int a2), (3, .int x3), (4, .int x4), (5, .int x5)]) hx hb dX0_fewestThatHold_24 hl (by decide) rfl (fun ls hl => ?_)
    refine lv_iload hx hb dX0_fewestThatHold_26 (lv_at hl 0 rfl) ?_
    refine lv_iload hx hb dX0_fewestThatHold_28 (lv_at hl 5 rfl) ?_
    refine lv_icmp_ge (tgt := 51) hx hb dX0_fewestThatHold_30 (by decide) (fun c30 => ?_) (fun c30 => ?_)
    · have hv := hv.1 c30
      refine lv_iinc (v := x5 + 1) (lv' := [(5, .int (x5 + 1)), (6, .int r1), (0, .ref (ad 55)), (1, .ref (ad h1)), (2, .int a2), (3, .int x3), (4, .int x4)]) hx hb dX0_fewestThatHold_51 hl (k := 6) rfl rfl (by decide) rfl (fun ls hl => ?_)
      refine lv_goto (tgt := 8) hx hb dX0_fewestThatHold_54 (by decide) ?_
      exact hY 8 [x3, x4, x5 + 1] [] s1 hv _ _ rfl H locs ls hP hS (lv_sub hl [2, 3, 4, 5, 6, 0] rfl)
    · have hv := hv.2 c30
      refine lv_aload_n hx hb dX0_fewestThatHold_33 rfl (lv_at hl 1 rfl) ?_
      refine lv_aload_n hx hb dX0_fewestThatHold_34 rfl (lv_at hl 2 rfl) ?_
      refine lv_iload hx hb dX0_fewestThatHold_35 (lv_at hl 6 rfl) ?_
      refine lv_iload_n hx hb dX0_fewestThatHold_37 rfl (lv_at hl 3 rfl) ?_
      refine r_ci (va_runV (As := [.ref (ad h1), .int x5, .int a2]) (rest := []) ⟨hx, hb, hml, hown, hts⟩ (c_X0_holds hi h1 x5 a2 hh1 s1 _ hv H.size) (cwV 3 hts gX0_fewestThatHold_X0_holds rfl rfl rfl (by decide +kernel) ⟨Nat.le_of_ble_eq_true rfl, Nat.le_of_ble_eq_true rfl⟩) ⟨pre_blind, r_recv hK.1 hP 55 (by decide) (ceFo_0 (s1 55)) rfl, pre_of hP hK⟩ rfl rfl hl.1 rfl (lv_room (Nat.le_of_ble_eq_true rfl)) dX0_fewestThatHold_38 ⟨Nat.zero_le _, Nat.zero_le _⟩) hS (fun r2 s2 H locs hv hP hS => ?_)
      obtain ⟨hz_r2, hv⟩ := hv
      have hD := wd_D (s := s) (cel := celC ad cA) (σ := s2) hi
      refine lv_if_eq (tgt := 51) hx hb dX0_fewestThatHold_41 (by decide) (fun c41 => ?_) (fun c41 => ?_)
      · have hv := hv.1 c41
        refine lv_iinc (v := x5 + 1) (lv' := [(5, .int (x5 + 1)), (6, .int r1), (0, .ref (ad 55)), (1, .ref (ad h1)), (2, .int a2), (3, .int x3), (4, .int x4)]) hx hb dX0_fewestThatHold_51 hl (k := 6) rfl rfl (by decide) rfl (fun ls hl => ?_)
        refine lv_goto (tgt := 8) hx hb dX0_fewestThatHold_54 (by decide) ?_
        exact hY 8 [x3, x4, x5 + 1] [] s2 hv _ _ rfl H locs ls hP hS (lv_sub hl [2, 3, 4, 5, 6, 0] rfl)
      · have hv := hv.2 c41
        refine lv_iload hx hb dX0_fewestThatHold_44 (lv_at hl 0 rfl) ?_
        refine lv_istore (lv' := [(4, .int r1), (6, .int r1), (0, .ref (ad 55)), (1, .ref (ad h1)), (2, .int a2), (3, .int x3), (5, .int x5)]) hx hb dX0_fewestThatHold_46 hl (by decide) rfl (fun ls hl => ?_)
        refine lv_iload hx hb dX0_fewestThatHold_48 (lv_at hl 6 rfl) ?_
        refine lv_istore_n (lv' := [(3, .int x5), (4, .int r1), (6, .int r1), (0, .ref (ad 55)), (1, .ref (ad h1)), (2, .int a2), (5, .int x5)]) hx hb dX0_fewestThatHold_50 rfl hl (by decide) rfl (fun ls hl => ?_)
        refine lv_iinc (v := x5 + 1) (lv' := [(5, .int (x5 + 1)), (3, .int x5), (4, .int r1), (6, .int r1), (0, .ref (ad 55)), (1, .ref (ad h1)), (2, .int a2)]) hx hb dX0_fewestThatHold_51 hl (k := 6) rfl rfl (by decide) rfl (fun ls hl => ?_)
        refine lv_goto (tgt := 8) hx hb dX0_fewestThatHold_54 (by decide) ?_
        exact hY 8 [x5, r1, x5 + 1] [] s2 hv _ _ rfl H locs ls hP hS (lv_sub hl [4, 5, 6, 1, 2, 0] rfl)
set_option maxHeartbeats 4000000 in
theorem y_X0_fewestThatHold {p : Program} {l : Launch} {e : Env} {s : State} {m : MethodId} {args : Array Value} {below : List Frame} {meth : Method} {c : Code} {dC : Nat → ClassId} {dI : Nat → Nat → Nat} {ad : Nat → Nat} {cA cZ : ClassId} (hi : Inj 81 ad) (h1 : Nat) (a2 : Int32) (hh1 : isSt h1) (C0 : Cx cX0_fewestThatHold RX0 wsX0_fewestThatHold 7 (some .int) p s m args meth c) (hK : KK dC dI cA cZ s) (Q : Int32 → St → Prop) : ∀ P xs ys σ, R_X0_fewestThatHold h1 a2 Q P xs ys σ → XX p l e ({ frames := 5, cells := 0, slots := 0, locals := 114 } : Room) s m args below meth c (dC, dI) 81 ad (celC ad cA) 7 (ZI below args s (dC, dI) 81 ad (celC ad cA) Q) (lay_X0_fewestThatHold ad h1 a2) P xs ys σ := by
  refine Fx.elim _ (fun P xs ys σ Y hY hB => ?_)
  rcases hB with ⟨rfl, x3, x4, x5, rfl, rfl, hB⟩
  · intro lv st he H locs ls hP hS hl
    cases he
    exact w_X0_fewestThatHold_8 hi h1 a2 hh1 C0 hK Q Y hY x3 x4 x5 σ hB hP hS hl
set_option maxHeartbeats 4000000 in
theorem c_X0_fewestThatHold {l : Launch} {dC : Nat → ClassId} {dI : Nat → Nat → Nat} {ad : Nat → Nat} {cA cZ : ClassId} (hi : Inj 81 ad) (h1 : Nat) (a2 : Int32) (hh1 : isSt h1) (s0 : St) (Q : Int32 → St → Prop) (hv : V_X0_fewestThatHold h1 a2 s0 Q) (sz : Nat) : Met l yX0_fewestThatHold wsX0_fewestThatHold ({ frames := 5, cells := 0, slots := 0, locals := 114 } : Room) (va_Pc [.ref (ad 55), .ref (ad h1), .int a2] (PW dC dI ad cA cZ 81 (celC ad cA) sz s0)) (va_Qi Q (fun u t => va_P (dC, dI) vwCl (wd 81 ad (celC ad cA) u) t.heap) (AA 81 ad sz)) 0 0 (AA 81 ad sz) := by
  refine Met.ofW (cc := cX0_fewestThatHold) (maxL := 7) (ret := (some .int)) (by decide) rfl ?_
  intro p e s m args below meth c s₁ B hml hv0
  obtain ⟨rfl, hsz, hP, hK⟩ := hv0
  subst hsz
  have C0 : Cx cX0_fewestThatHold RX0 wsX0_fewestThatHold 7 (some .int) p s m ([.ref (ad 55), .ref (ad h1), .int a2] : List Value).toArray meth c := ⟨B.exec, B.bytes, hml, findClass_of_methodNamed B.named, atoms_spec (ws := wsX0_fewestThatHold) B.pre, B.returns, B.notSynchronized⟩
  have hl := lv_entry ([.ref (ad 55), .ref (ad h1), .int a2]) (n := 7) (Nat.le_of_ble_eq_true rfl)
  rw [lg_entry_eq]
  generalize (lg_sl ([.ref (ad 55), .ref (ad h1), .int a2]) ++ List.replicate (7 - (lg_sl ([.ref (ad 55), .ref (ad h1), .int a2])).length) Slot.unset).toArray = ls at hl ⊢
  have hl : lv_has ls 7 [(0, .ref (ad 55)), (1, .ref (ad h1)), (2, .int a2)] := hl
  exact w_X0_fewestThatHold_e hi h1 a2 hh1 C0 hK Q (R_X0_fewestThatHold h1 a2 Q) (y_X0_fewestThatHold hi h1 a2 hh1 C0 hK Q)  s0 hv hP va_S.rf hl
def lay_X10_hold (ad : Nat → Nat) (a1 : Int32) : Nat → List Int32 → List Int64 → Option (List (Nat × Value) × List Value) := fun P xs ys => match P, xs, ys with
  | _, _, _ => none
set_option maxHeartbeats 4000000 in
set_option maxRecDepth 100000 in
theorem w_X10_hold_e {p : Program} {l : Launch} {e : Env} {s : State} {m : MethodId} {args : Array Value} {below : List Frame} {meth : Method} {c : Code} {dC : Nat → ClassId} {dI : Nat → Nat → Nat} {ad : Nat → Nat} {cA cZ : ClassId} (hi : Inj 81 ad) (a1 : Int32)  (C0 : Cx cX10_hold RX10 wsX10_hold 2 (some .int) p s m args meth c) (hK : KK dC dI cA cZ s) (Q : Int32 → St → Prop) (Y : Nat → List Int32 → List Int64 → St → Prop) (hY : ∀ P xs ys σ, Y P xs ys σ → XX p l e ({ frames := 6, cells := 0, slots := 0, locals := 140 } : Room) s m args below meth c (dC, dI) 81 ad (celC ad cA) 2 (ZI below args s (dC, dI) 81 ad (celC ad cA) Q) (lay_X10_hold ad a1) P xs ys σ)  (s0 : St) (hv : B_X10_hold_e a1 Q Y  s0) {H : Heap} {locs : List Loc} {ls : Array Slot} (hP : va_P (dC, dI) vwCl (wd 81 ad (celC ad cA) s0) H) (hS : va_S (AA 81 ad s.heap.size) s.heap H locs) (hl : lv_has ls 2 [(0, .ref (ad 0)), (1, .int a1)]) : W p l e ({ frames := 6, cells := 0, slots := 0, locals := 140 } : Room) s m args below meth c H locs 0 0 (ZI below args s (dC, dI) 81 ad (celC ad cA) Q) (F0 m 0 ls []) := by
  obtain ⟨hx, hb, hml, hown, hts, hr, hlocks⟩ := C0
  have hD := wd_D (s := s) (cel := celC ad cA) (σ := s0) hi
  unfold B_X10_hold_e at hv
  refine lv_iload_n hx hb dX10_hold_0 rfl (lv_at hl 1 rfl) ?_
  refine lv_iconst (v := 1) hx hb dX10_hold_1 (by decide) ?_
  refine lv_bipush (v := 60) hx hb dX10_hold_2 (by decide) ?_
  refine r_ci (va_runS (As := [.int a1, .int 1, .int 60]) (rest := []) ⟨hx, hb, hml, hown, hts⟩ (c_X10_within hi a1 1 60 s0 _ hv H.size) (va_cwS 3 hts gX10_hold_X10_within rfl rfl rfl (by decide +kernel) ⟨Nat.le_of_ble_eq_true rfl, Nat.le_of_ble_eq_true rfl⟩) ⟨pre_blind, pre_of hP hK⟩ rfl rfl hl.1 rfl (lv_room (Nat.le_of_ble_eq_true rfl)) dX10_hold_4 ⟨Nat.zero_le _, Nat.zero_le _⟩) hS (fun r1 s1 H locs hv hP hS => ?_)
  obtain ⟨hz_r1, hv⟩ := hv
  have hD := wd_D (s := s) (cel := celC ad cA) (σ := s1) hi
  refine lv_if_eq (tgt := 28) hx hb dX10_hold_7 (by decide) (fun c7 => ?_) (fun c7 => ?_)
  · have hv := hv.1 c7
    refine lv_aload_n hx hb dX10_hold_28 rfl (lv_at hl 0 rfl) ?_
    refine r_ci (va_runV (As := []) (rest := []) ⟨hx, hb, hml, hown, hts⟩ (c_X10_bad hi  s1 _ hv H.size) (cwV 0 hts gX10_hold_X10_bad rfl rfl rfl (by decide +kernel) ⟨Nat.le_of_ble_eq_true rfl, Nat.le_of_ble_eq_true rfl⟩) ⟨pre_blind, r_recv hK.1 hP 0 (by decide) (ceGR_0 (s1 0)) rfl, pre_of hP hK⟩ rfl rfl hl.1 rfl (lv_room (Nat.le_of_ble_eq_true rfl)) dX10_hold_29 ⟨Nat.zero_le _, Nat.zero_le _⟩) hS (fun r2 s2 H locs hv hP hS => ?_)
    have hD := wd_D (s := s) (cel := celC ad cA) (σ := s2) hi
    exact r_iret hx hb hr hlocks hv hP hS dX10_hold_32
  · have hv := hv.2 c7
    refine lv_aload_n hx hb dX10_hold_10 rfl (lv_at hl 0 rfl) ?_
    refine r_get hx hb hts (iwX10_hold_X10) hown hK.1 hP 0 (by decide) (ceGR_0 (s1 0)) rfl 3 (by decide) (hts _ kX10_hold_1) (v := .ref (ad 55)) rfl dX10_hold_11 ?_
    refine lv_aload_n hx hb dX10_hold_14 rfl (lv_at hl 0 rfl) ?_
    refine r_get hx hb hts (iwX10_hold_X10) hown hK.1 hP 0 (by decide) (ceGR_0 (s1 0)) rfl 0 (by decide) (hts _ kX10_hold_2) (v := .ref (ad 1)) rfl dX10_hold_15 ?_
    refine r_get hx hb hts (iwX10_hold_X7) hown hK.1 hP 1 (ltSc_0 vSc_1) (ceSc_0 vSc_1 (s1 1)) rfl 0 (by decide) (hts _ kX10_hold_3) (v := .ref (ad 2)) rfl dX10_hold_18 ?_
    refine lv_iload_n hx hb dX10_hold_21 rfl (lv_at hl 1 rfl) ?_
    refine r_ci (va_runV (As := [.ref (ad 2), .int a1]) (rest := []) ⟨hx, hb, hml, hown, hts⟩ (c_X0_fewestThatHold hi 2 a1 (vSc1 vSc_1) s1 _ hv H.size) (cwV 2 hts gX10_hold_X0_fewestThatHold rfl rfl rfl (by decide +kernel) ⟨Nat.le_of_ble_eq_true rfl, Nat.le_of_ble_eq_true rfl⟩) ⟨pre_blind, r_recv hK.1 hP 55 (by decide) (ceFo_0 (s1 55)) rfl, pre_of hP hK⟩ rfl rfl hl.1 rfl (lv_room (Nat.le_of_ble_eq_true rfl)) dX10_hold_22 ⟨Nat.zero_le _, Nat.zero_le _⟩) hS (fun r3 s3 H locs hv hP hS => ?_)
    have hD := wd_D (s := s) (cel := celC ad cA) (σ := s3) hi
    refine lv_goto (tgt := 32) hx hb dX10_hold_25 (by decide) ?_
    exact r_iret hx hb hr hlocks hv hP hS dX10_hold_32
set_option maxHeartbeats 4000000 in
theorem y_X10_hold {p : Program} {l : Launch} {e : Env} {s : State} {m : MethodId} {args : Array Value} {below : List Frame} {meth : Method} {c : Code} {dC : Nat → ClassId} {dI : Nat → Nat → Nat} {ad : Nat → Nat} {cA cZ : ClassId} (hi : Inj 81 ad) (a1 : Int32)  (C0 : Cx cX10_hold RX10 wsX10_hold 2 (some .int) p s m args meth c) (hK : KK dC dI cA cZ s) (Q : Int32 → St → Prop) : ∀ P xs ys σ, R_X10_hold a1 Q P xs ys σ → XX p l e ({ frames := 6, cells := 0, slots := 0, locals := 140 } : Room) s m args below meth c (dC, dI) 81 ad (celC ad cA) 2 (ZI below args s (dC, dI) 81 ad (celC ad cA) Q) (lay_X10_hold ad a1) P xs ys σ := by
  refine Fx.elim _ (fun P xs ys σ Y hY hB => ?_)
  exact hB.elim
set_option maxHeartbeats 4000000 in
theorem c_X10_hold {l : Launch} {dC : Nat → ClassId} {dI : Nat → Nat → Nat} {ad : Nat → Nat} {cA cZ : ClassId} (hi : Inj 81 ad) (a1 : Int32)  (s0 : St) (Q : Int32 → St → Prop) (hv : V_X10_hold a1 s0 Q) (sz : Nat) : Met l yX10_hold wsX10_hold ({ frames := 6, cells := 0, slots := 0, locals := 140 } : Room) (va_Pc [.ref (ad 0), .int a1] (PW dC dI ad cA cZ 81 (celC ad cA) sz s0)) (va_Qi Q (fun u t => va_P (dC, dI) vwCl (wd 81 ad (celC ad cA) u) t.heap) (AA 81 ad sz)) 0 0 (AA 81 ad sz) := by
  refine Met.ofW (cc := cX10_hold) (maxL := 2) (ret := (some .int)) (by decide) rfl ?_
  intro p e s m args below meth c s₁ B hml hv0
  obtain ⟨rfl, hsz, hP, hK⟩ := hv0
  subst hsz
  have C0 : Cx cX10_hold RX10 wsX10_hold 2 (some .int) p s m ([.ref (ad 0), .int a1] : List Value).toArray meth c := ⟨B.exec, B.bytes, hml, findClass_of_methodNamed B.named, atoms_spec (ws := wsX10_hold) B.pre, B.returns, B.notSynchronized⟩
  have hl := lv_entry ([.ref (ad 0), .int a1]) (n := 2) (Nat.le_of_ble_eq_true rfl)
  rw [lg_entry_eq]
  generalize (lg_sl ([.ref (ad 0), .int a1]) ++ List.replicate (2 - (lg_sl ([.ref (ad 0), .int a1])).length) Slot.unset).toArray = ls at hl ⊢
  have hl : lv_has ls 2 [(0, .ref (ad 0)), (1, .int a1)] := hl
  exact w_X10_hold_e hi a1  C0 hK Q (R_X10_hold a1 Q) (y_X10_hold hi a1  C0 hK Q)  s0 hv hP va_S.rf hl
def lay_X0_meetings (ad : Nat → Nat) (h1 : Nat) (a2 : Int32) (a3 : Int32) (a4 : Int32) : Nat → List Int32 → List Int64 → Option (List (Nat × Value) × List Value) := fun P xs ys => match P, xs, ys with
  | 6, [x5, x6], [] => some ([(0, .ref (ad 55)), (1, .ref (ad h1)), (2, .int a2), (3, .int a3), (4, .int a4), (5, .int x5), (6, .int x6)], [])
  | _, _, _ => none
set_option maxHeartbeats 4000000 in
set_option maxRecDepth 100000 in
theorem w_X0_meetings_e {p : Program} {l : Launch} {e : Env} {s : State} {m : MethodId} {args : Array Value} {below : List Frame} {meth : Method} {c : Code} {dC : Nat → ClassId} {dI : Nat → Nat → Nat} {ad : Nat → Nat} {cA cZ : ClassId} (hi : Inj 81 ad) (h1 : Nat) (a2 : Int32) (a3 : Int32) (a4 : Int32) (hh1 : isSt h1) (C0 : Cx cX0_meetings RX0 wsX0_meetings 7 (some .int) p s m args meth c) (hK : KK dC dI cA cZ s) (Q : Int32 → St → Prop) (Y : Nat → List Int32 → List Int64 → St → Prop) (hY : ∀ P xs ys σ, Y P xs ys σ → XX p l e ({ frames := 4, cells := 0, slots := 0, locals := 91 } : Room) s m args below meth c (dC, dI) 81 ad (celC ad cA) 7 (ZI below args s (dC, dI) 81 ad (celC ad cA) Q) (lay_X0_meetings ad h1 a2 a3 a4) P xs ys σ)  (s0 : St) (hv : B_X0_meetings_e h1 a2 a3 a4 Q Y  s0) {H : Heap} {locs : List Loc} {ls : Array Slot} (hP : va_P (dC, dI) vwCl (wd 81 ad (celC ad cA) s0) H) (hS : va_S (AA 81 ad s.heap.size) s.heap H locs) (hl : lv_has ls 7 [(0, .ref (ad 55)), (1, .ref (ad h1)), (2, .int a2), (3, .int a3), (4, .int a4)]) : W p l e ({ frames := 4, cells := 0, slots := 0, locals := 91 } : Room) s m args below meth c H locs 0 0 (ZI below args s (dC, dI) 81 ad (celC ad cA) Q) (F0 m 0 ls []) := by
  obtain ⟨hx, hb, hml, hown, hts, hr, hlocks⟩ := C0
  have hD := wd_D (s := s) (cel := celC ad cA) (σ := s0) hi
  unfold B_X0_meetings_e at hv
  refine lv_iconst (v := 0) hx hb dX0_meetings_0 (by decide) ?_
  refine lv_istore (lv' := [(5, .int 0), (0, .ref (ad 55)), (1, .ref (ad h1)), (2, .int a2), (3, .int a3), (4, .int a4)]) hx hb dX0_meetings_1 hl (by decide) rfl (fun ls hl => ?_)
  refine lv_iconst (v := 0) hx hb dX0_meetings_3 (by decide) ?_
  refine lv_istore (lv' := [(6, .int 0), (5, .int 0), (0, .ref (ad 55)), (1, .ref (ad h1)), (2, .int a2), (3, .int a3), (4, .int a4)]) hx hb dX0_meetings_4 hl (by decide) rfl (fun ls hl => ?_)
  exact hY 6 [0, 0] [] s0 hv _ _ rfl H locs ls hP hS (lv_sub hl [2, 3, 4, 5, 6, 1, 0] rfl)
set_option maxHeartbeats 4000000 in
set_option maxRecDepth 100000 in
theorem w_X0_meetings_6 {p : Program} {l : Launch} {e : Env} {s : State} {m : MethodId} {args : Array Value} {below : List Frame} {meth : Method} {c : Code} {dC : Nat → ClassId} {dI : Nat → Nat → Nat} {ad : Nat → Nat} {cA cZ : ClassId} (hi : Inj 81 ad) (h1 : Nat) (a2 : Int32) (a3 : Int32) (a4 : Int32) (hh1 : isSt h1) (C0 : Cx cX0_meetings RX0 wsX0_meetings 7 (some .int) p s m args meth c) (hK : KK dC dI cA cZ s) (Q : Int32 → St → Prop) (Y : Nat → List Int32 → List Int64 → St → Prop) (hY : ∀ P xs ys σ, Y P xs ys σ → XX p l e ({ frames := 4, cells := 0, slots := 0, locals := 91 } : Room) s m args below meth c (dC, dI) 81 ad (celC ad cA) 7 (ZI below args s (dC, dI) 81 ad (celC ad cA) Q) (lay_X0_meetings ad h1 a2 a3 a4) P xs ys σ) (x5 : Int32) (x6 : Int32) (s0 : St) (hv : B_X0_meetings_6 h1 a2 a3 a4 Q Y x5 x6 s0) {H : Heap} {locs : List Loc} {ls : Array Slot} (hP : va_P (dC, dI) vwCl (wd 81 ad (celC ad cA) s0) H) (hS : va_S (AA 81 ad s.heap.size) s.heap H locs) (hl : lv_has ls 7 [(0, .ref (ad 55)), (1, .ref (ad h1)), (2, .int a2), (3, .int a3), (4, .int a4), (5, .int x5), (6, .int x6)]) : W p l e ({ frames := 4, cells := 0, slots := 0, locals := 91 } : Room) s m args below meth c H locs 0 0 (ZI below args s (dC, dI) 81 ad (celC ad cA) Q) (F0 m 6 ls []) := by
  obtain ⟨hx, hb, hml, hown, hts, hr, hlocks⟩ := C0
  have hD := wd_D (s := s) (cel := celC ad cA) (σ := s0) hi
  unfold B_X0_meetings_6 at hv
  refine lv_iload hx hb dX0_meetings_6 (lv_at hl 6 rfl) ?_
  refine lv_bipush (v := 23) hx hb dX0_meetings_8 (by decide) ?_
  refine lv_icmp_ge (tgt := 86) hx hb dX0_meetings_10 (by decide) (fun c10 => ?_) (fun c10 => ?_)
  · have hv := hv.1 c10
    refine lv_iload hx hb dX0_meetings_86 (lv_at hl 5 rfl) ?_
    exact r_iret hx hb hr hlocks hv hP hS dX0_meetings_88
  · have hv := hv.2 c10
    refine lv_aload_n hx hb dX0_meetings_13 rfl (lv_at hl 0 rfl) ?_
    refine r_get hx hb hts (iwX0_meetings_X0) hown hK.1 hP 55 (by decide) (ceFo_0 (s0 55)) rfl 0 (by decide) (hts _ kX0_meetings_1) (v := .ref (ad 56)) rfl dX0_meetings_14 ?_
    refine lv_aload_n hx hb dX0_meetings_17 rfl (lv_at hl 1 rfl) ?_
    refine r_cv (va_runV (As := [.ref (ad h1)]) (rest := []) ⟨hx, hb, hml, hown, hts⟩ (c_X8_copy hi 56 h1 vSt_56 hh1 s0 _ hv H.size) (cwV 1 hts gX0_meetings_X8_copy rfl rfl rfl (by decide +kernel) ⟨Nat.le_of_ble_eq_true rfl, Nat.le_of_ble_eq_true rfl⟩) ⟨pre_blind, r_recv hK.1 hP 56 (ltSt_0 vSt_56) (ceSt_0 vSt_56 (s0 56)) rfl, pre_of hP hK⟩ rfl rfl hl.1 rfl (lv_room (Nat.le_of_ble_eq_true rfl)) dX0_meetings_18 ⟨Nat.zero_le _, Nat.zero_le _⟩) hS (fun s1 H locs hv hP hS => ?_)
    have hD := wd_D (s := s) (cel := celC ad cA) (σ := s1) hi
    refine lv_aload_n hx hb dX0_meetings_21 rfl (lv_at hl 0 rfl) ?_
    refine r_get hx hb hts (iwX0_meetings_X0) hown hK.1 hP 55 (by decide) (ceFo_0 (s1 55)) rfl 0 (by decide) (hts _ kX0_meetings_1) (v := .ref (ad 56)) rfl dX0_meetings_22 ?_
    refine lv_iload_n hx hb dX0_meetings_25 rfl (lv_at hl 2 rfl) ?_
    refine lv_iconst (v := 1) hx hb dX0_meetings_26 (by decide) ?_
    refine lv_iload hx hb dX0_meetings_27 (lv_at hl 6 rfl) ?_
    refine r_ci (va_runV (As := [.int a2, .int 1, .int x6]) (rest := []) ⟨hx, hb, hml, hown, hts⟩ (c_X8_addGlove hi 56 a2 1 x6 vSt_56 s1 _ hv H.size) (cwV 3 hts gX0_meetings_X8_addGlove rfl rfl rfl (by decide +kernel) ⟨Nat.le_of_ble_eq_true rfl, Nat.le_of_ble_eq_true rfl⟩) ⟨pre_blind, r_recv hK.1 hP 56 (ltSt_0 vSt_56) (ceSt_0 vSt_56 (s1 56)) rfl, pre_of hP hK⟩ rfl rfl hl.1 rfl (lv_room (Nat.le_of_ble_eq_true rfl)) dX0_meetings_29 ⟨Nat.zero_le _, Nat.zero_le _⟩) hS (fun r2 s2 H locs hv hP hS => ?_)
    have hD := wd_D (s := s) (cel := celC ad cA) (σ := s2) hi
    refine lv_pop hx hb dX0_meetings_32 rfl ?_
    refine lv_aload_n hx hb dX0_meetings_33 rfl (lv_at hl 0 rfl) ?_
    refine r_get hx hb hts (iwX0_meetings_X0) hown hK.1 hP 55 (by decide) (ceFo_0 (s2 55)) rfl 0 (by decide) (hts _ kX0_meetings_1) (v := .ref (ad 56)) rfl dX0_meetings_34 ?_
    refine lv_iload hx hb dX0_meetings_37 (lv_at hl 4 rfl) ?_
    refine r_cv (va_runV (As := [.int a4]) (rest := []) ⟨hx, hb, hml, hown, hts⟩ (c_X8_pass hi 56 a4 vSt_56 s2 _ hv H.size) (cwV 1 hts gX0_meetings_X8_pass rfl rfl rfl (by decide +kernel) ⟨Nat.le_of_ble_eq_true rfl, Nat.le_of_ble_eq_true rfl⟩) ⟨pre_blind, r_recv hK.1 hP 56 (ltSt_0 vSt_56) (ceSt_0 vSt_56 (s2 56)) rfl, pre_of hP hK⟩ rfl rfl hl.1 rfl (lv_room (Nat.le_of_ble_eq_true rfl)) dX0_meetings_39 ⟨Nat.zero_le _, Nat.zero_le _⟩) hS (fun s3 H locs hv hP hS => ?_)
    have hD := wd_D (s := s) (cel := celC ad cA) (σ := s3) hi
    refine lv_aload_n hx hb dX0_meetings_42 rfl (lv_at hl 0 rfl) ?_
    refine r_get hx hb hts (iwX0_meetings_X0) hown hK.1 hP 55 (by decide) (ceFo_0 (s3 55)) rfl 0 (by decide) (hts _ kX0_meetings_1) (v := .ref (ad 56)) rfl dX0_meetings_43 ?_
    refine r_get hx hb hts (iwX0_meetings_X8) hown hK.1 hP 56 (ltSt_0 vSt_56) (ceSt_0 vSt_56 (s3 56)) rfl 3 (by decide) (hts _ kX0_meetings_2) (v := .ref (ad 60)) rfl dX0_meetings_46 ?_
    refine lv_aload_n hx hb dX0_meetings_49 rfl (lv_at hl 0 rfl) ?_
    refine r_get hx hb hts (iwX0_meetings_X0) hown hK.1 hP 55 (by decide) (ceFo_0 (s3 55)) rfl 0 (by decide) (hts _ kX0_meetings_1) (v := .ref (ad 56)) rfl dX0_meetings_50 ?_
    refine r_get hx hb hts (iwX0_meetings_X8) hown hK.1 hP 56 (ltSt_0 vSt_56) (ceSt_0 vSt_56 (s3 56)) rfl 8 (by decide) (hts _ kX0_meetings_3) (v := .int (s3 56 8)) rfl dX0_meetings_53 ?_
    refine lv_iconst (v := 1) hx hb dX0_meetings_56 (by decide) ?_
    refine lv_isub hx hb dX0_meetings_57 ?_
    obtain ⟨hin, hv⟩ := hv
    refine r_iald hx hb hK.1 hP 60 (ltSt_4 vSt_56) (ceSt_4 vSt_56 (s3 60)) hin dX0_meetings_58 ?_
    refine lv_aload_n hx hb dX0_meetings_59 rfl (lv_at hl 0 rfl) ?_
    refine r_get hx hb hts (iwX0_meetings_X0) hown hK.1 hP 55 (by decide) (ceFo_0 (s3 55)) rfl 0 (by decide) (hts _ kX0_meetings_1) (v := .ref (ad 56)) rfl dX0_meetings_60 ?_
    refine r_get hx hb hts (iwX0_meetings_X8) hown hK.1 hP 56 (ltSt_0 vSt_56) (ceSt_0 vSt_56 (s3 56)) rfl 3 (by decide) (hts _ kX0_meetings_2) (v := .ref (ad 60)) rfl dX0_meetings_63 ?_
    refine lv_iload_n hx hb dX0_meetings_66 rfl (lv_at hl 3 rfl) ?_
    obtain ⟨hin, hv⟩ := hv
    refine r_iald hx hb hK.1 hP 60 (ltSt_4 vSt_56) (ceSt_4 vSt_56 (s3 60)) hin dX0_meetings_67 ?_
    refine lv_icmp_ne (tgt := 80) hx hb dX0_meetings_68 (by decide) (fun c68 => ?_) (fun c68 => ?_)
    · have hv := hv.1 c68
      refine lv_iinc (v := x6 + 1) (lv' := [(6, .int (x6 + 1)), (0, .ref (ad 55)), (1, .ref (ad h1)), (2, .int a2), (3, .int a3), (4, .int a4), (5, .int x5)]) hx hb dX0_meetings_80 hl (k := 6) rfl rfl (by decide) rfl (fun ls hl => ?_)
      refine lv_goto (tgt := 6) hx hb dX0_meetings_83 (by decide) ?_
      exact hY 6 [x5, x6 + 1] [] s3 hv _ _ rfl H locs ls hP hS (lv_sub hl [1, 2, 3, 4, 5, 6, 0] rfl)
    · have hv := hv.2 c68
      refine lv_iload hx hb dX0_meetings_71 (lv_at hl 5 rfl) ?_
      refine lv_iconst (v := 1) hx hb dX0_meetings_73 (by decide) ?_
      refine lv_iload hx hb dX0_meetings_74 (lv_at hl 6 rfl) ?_
      refine lv_ishl hx hb dX0_meetings_76 ?_
      refine lv_ior hx hb dX0_meetings_77 ?_
      refine lv_topi (fun v4 ev4 => ?_)
      have hv := hv v4 ev4
      refine lv_istore (lv' := [(5, .int v4), (0, .ref (ad 55)), (1, .ref (ad h1)), (2, .int a2), (3, .int a3), (4, .int a4), (6, .int x6)]) hx hb dX0_meetings_78 hl (by decide) rfl (fun ls hl => ?_)
      refine lv_iinc (v := x6 + 1) (lv' := [(6, .int (x6 + 1)), (5, .int v4), (0, .ref (ad 55)), (1, .ref (ad h1)), (2, .int a2), (3, .int a3), (4, .int a4)]) hx hb dX0_meetings_80 hl (k := 6) rfl rfl (by decide) rfl (fun ls hl => ?_)
      refine lv_goto (tgt := 6) hx hb dX0_meetings_83 (by decide) ?_
      exact hY 6 [v4, x6 + 1] [] s3 hv _ _ rfl H locs ls hP hS (lv_sub hl [2, 3, 4, 5, 6, 1, 0] rfl)
set_option maxHeartbeats 4000000 in
theorem y_X0_meetings {p : Program} {l : Launch} {e : Env} {s : State} {m : MethodId} {args : Array Value} {below : List Frame} {meth : Method} {c : Code} {dC : Nat → ClassId} {dI : Nat → Nat → Nat} {ad : Nat → Nat} {cA cZ : ClassId} (hi : Inj 81 ad) (h1 : Nat) (a2 : Int32) (a3 : Int32) (a4 : Int32) (hh1 : isSt h1) (C0 : Cx cX0_meetings RX0 wsX0_meetings 7 (some .int) p s m args meth c) (hK : KK dC dI cA cZ s) (Q : Int32 → St → Prop) : ∀ P xs ys σ, R_X0_meetings h1 a2 a3 a4 Q P xs ys σ → XX p l e ({ frames := 4, cells := 0, slots := 0, locals := 91 } : Room) s m args below meth c (dC, dI) 81 ad (celC ad cA) 7 (ZI below args s (dC, dI) 81 ad (celC ad cA) Q) (lay_X0_meetings ad h1 a2 a3 a4) P xs ys σ := by
  refine Fx.elim _ (fun P xs ys σ Y hY hB => ?_)
  rcases hB with ⟨rfl, x5, x6, rfl, rfl, hB⟩
  · intro lv st he H locs ls hP hS hl
    cases he
    exact w_X0_meetings_6 hi h1 a2 a3 a4 hh1 C0 hK Q Y hY x5 x6 σ hB hP hS hl
set_option maxHeartbeats 4000000 in
theorem c_X0_meetings {l : Launch} {dC : Nat → ClassId} {dI : Nat → Nat → Nat} {ad : Nat → Nat} {cA cZ : ClassId} (hi : Inj 81 ad) (h1 : Nat) (a2 : Int32) (a3 : Int32) (a4 : Int32) (hh1 : isSt h1) (s0 : St) (Q : Int32 → St → Prop) (hv : V_X0_meetings h1 a2 a3 a4 s0 Q) (sz : Nat) : Met l yX0_meetings wsX0_meetings ({ frames := 4, cells := 0, slots := 0, locals := 91 } : Room) (va_Pc [.ref (ad 55), .ref (ad h1), .int a2, .int a3, .int a4] (PW dC dI ad cA cZ 81 (celC ad cA) sz s0)) (va_Qi Q (fun u t => va_P (dC, dI) vwCl (wd 81 ad (celC ad cA) u) t.heap) (AA 81 ad sz)) 0 0 (AA 81 ad sz) := by
  refine Met.ofW (cc := cX0_meetings) (maxL := 7) (ret := (some .int)) (by decide) rfl ?_
  intro p e s m args below meth c s₁ B hml hv0
  obtain ⟨rfl, hsz, hP, hK⟩ := hv0
  subst hsz
  have C0 : Cx cX0_meetings RX0 wsX0_meetings 7 (some .int) p s m ([.ref (ad 55), .ref (ad h1), .int a2, .int a3, .int a4] : List Value).toArray meth c := ⟨B.exec, B.bytes, hml, findClass_of_methodNamed B.named, atoms_spec (ws := wsX0_meetings) B.pre, B.returns, B.notSynchronized⟩
  have hl := lv_entry ([.ref (ad 55), .ref (ad h1), .int a2, .int a3, .int a4]) (n := 7) (Nat.le_of_ble_eq_true rfl)
  rw [lg_entry_eq]
  generalize (lg_sl ([.ref (ad 55), .ref (ad h1), .int a2, .int a3, .int a4]) ++ List.replicate (7 - (lg_sl ([.ref (ad 55), .ref (ad h1), .int a2, .int a3, .int a4])).length) Slot.unset).toArray = ls at hl ⊢
  have hl : lv_has ls 7 [(0, .ref (ad 55)), (1, .ref (ad h1)), (2, .int a2), (3, .int a3), (4, .int a4)] := hl
  exact w_X0_meetings_e hi h1 a2 a3 a4 hh1 C0 hK Q (R_X0_meetings h1 a2 a3 a4 Q) (y_X0_meetings hi h1 a2 a3 a4 hh1 C0 hK Q)  s0 hv hP va_S.rf hl
def lay_X10_drop (ad : Nat → Nat) (a1 : Int32) (a2 : Int32) (a3 : Int32) : Nat → List Int32 → List Int64 → Option (List (Nat × Value) × List Value) := fun P xs ys => match P, xs, ys with
  | _, _, _ => none
set_option maxHeartbeats 4000000 in
set_option maxRecDepth 100000 in
theorem w_X10_drop_e {p : Program} {l : Launch} {e : Env} {s : State} {m : MethodId} {args : Array Value} {below : List Frame} {meth : Method} {c : Code} {dC : Nat → ClassId} {dI : Nat → Nat → Nat} {ad : Nat → Nat} {cA cZ : ClassId} (hi : Inj 81 ad) (a1 : Int32) (a2 : Int32) (a3 : Int32)  (C0 : Cx cX10_drop RX10 wsX10_drop 4 (some .int) p s m args meth c) (hK : KK dC dI cA cZ s) (Q : Int32 → St → Prop) (Y : Nat → List Int32 → List Int64 → St → Prop) (hY : ∀ P xs ys σ, Y P xs ys σ → XX p l e ({ frames := 5, cells := 0, slots := 0, locals := 117 } : Room) s m args below meth c (dC, dI) 81 ad (celC ad cA) 4 (ZI below args s (dC, dI) 81 ad (celC ad cA) Q) (lay_X10_drop ad a1 a2 a3) P xs ys σ)  (s0 : St) (hv : B_X10_drop_e a1 a2 a3 Q Y  s0) {H : Heap} {locs : List Loc} {ls : Array Slot} (hP : va_P (dC, dI) vwCl (wd 81 ad (celC ad cA) s0) H) (hS : va_S (AA 81 ad s.heap.size) s.heap H locs) (hl : lv_has ls 4 [(0, .ref (ad 0)), (1, .int a1), (2, .int a2), (3, .int a3)]) : W p l e ({ frames := 5, cells := 0, slots := 0, locals := 117 } : Room) s m args below meth c H locs 0 0 (ZI below args s (dC, dI) 81 ad (celC ad cA) Q) (F0 m 0 ls []) := by
  obtain ⟨hx, hb, hml, hown, hts, hr, hlocks⟩ := C0
  have hD := wd_D (s := s) (cel := celC ad cA) (σ := s0) hi
  unfold B_X10_drop_e at hv
  refine lv_iload_n hx hb dX10_drop_0 rfl (lv_at hl 1 rfl) ?_
  refine r_ci (va_runS (As := [.int a1]) (rest := []) ⟨hx, hb, hml, hown, hts⟩ (c_X10_isKind hi a1 s0 _ hv H.size) (va_cwS 1 hts gX10_drop_X10_isKind rfl rfl rfl (by decide +kernel) ⟨Nat.le_of_ble_eq_true rfl, Nat.le_of_ble_eq_true rfl⟩) ⟨pre_blind, pre_of hP hK⟩ rfl rfl hl.1 rfl (lv_room (Nat.le_of_ble_eq_true rfl)) dX10_drop_1 ⟨Nat.zero_le _, Nat.zero_le _⟩) hS (fun r1 s1 H locs hv hP hS => ?_)
  obtain ⟨hz_r1, hv⟩ := hv
  have hD := wd_D (s := s) (cel := celC ad cA) (σ := s1) hi
  refine lv_if_eq (tgt := 25) hx hb dX10_drop_4 (by decide) (fun c4 => ?_) (fun c4 => ?_)
  · have hv := hv.1 c4
    refine lv_aload_n hx hb dX10_drop_25 rfl (lv_at hl 0 rfl) ?_
    refine r_ci (va_runV (As := []) (rest := []) ⟨hx, hb, hml, hown, hts⟩ (c_X10_bad hi  s1 _ hv H.size) (cwV 0 hts gX10_drop_X10_bad rfl rfl rfl (by decide +kernel) ⟨Nat.le_of_ble_eq_true rfl, Nat.le_of_ble_eq_true rfl⟩) ⟨pre_blind, r_recv hK.1 hP 0 (by decide) (ceGR_0 (s1 0)) rfl, pre_of hP hK⟩ rfl rfl hl.1 rfl (lv_room (Nat.le_of_ble_eq_true rfl)) dX10_drop_26 ⟨Nat.zero_le _, Nat.zero_le _⟩) hS (fun r2 s2 H locs hv hP hS => ?_)
    have hD := wd_D (s := s) (cel := celC ad cA) (σ := s2) hi
    exact r_iret hx hb hr hlocks hv hP hS dX10_drop_29
  · have hv := hv.2 c4
    refine lv_aload_n hx hb dX10_drop_7 rfl (lv_at hl 0 rfl) ?_
    refine lv_iload_n hx hb dX10_drop_8 rfl (lv_at hl 2 rfl) ?_
    refine r_ci (va_runV (As := [.int a2]) (rest := []) ⟨hx, hb, hml, hown, hts⟩ (c_X10_isGlove hi a2 s1 _ hv H.size) (cwV 1 hts gX10_drop_X10_isGlove rfl rfl rfl (by decide +kernel) ⟨Nat.le_of_ble_eq_true rfl, Nat.le_of_ble_eq_true rfl⟩) ⟨pre_blind, r_recv hK.1 hP 0 (by decide) (ceGR_0 (s1 0)) rfl, pre_of hP hK⟩ rfl rfl hl.1 rfl (lv_room (Nat.le_of_ble_eq_true rfl)) dX10_drop_9 ⟨Nat.zero_le _, Nat.zero_le _⟩) hS (fun r3 s3 H locs hv hP hS => ?_)
    obtain ⟨hz_r3, hv⟩ := hv
    have hD := wd_D (s := s) (cel := celC ad cA) (σ := s3) hi
    refine lv_if_eq (tgt := 25) hx hb dX10_drop_12 (by decide) (fun c12 => ?_) (fun c12 => ?_)
    · have hv := hv.1 c12
      refine lv_aload_n hx hb dX10_drop_25 rfl (lv_at hl 0 rfl) ?_
      refine r_ci (va_runV (As := []) (rest := []) ⟨hx, hb, hml, hown, hts⟩ (c_X10_bad hi  s3 _ hv H.size) (cwV 0 hts gX10_drop_X10_bad rfl rfl rfl (by decide +kernel) ⟨Nat.le_of_ble_eq_true rfl, Nat.le_of_ble_eq_true rfl⟩) ⟨pre_blind, r_recv hK.1 hP 0 (by decide) (ceGR_0 (s3 0)) rfl, pre_of hP hK⟩ rfl rfl hl.1 rfl (lv_room (Nat.le_of_ble_eq_true rfl)) dX10_drop_26 ⟨Nat.zero_le _, Nat.zero_le _⟩) hS (fun r4 s4 H locs hv hP hS => ?_)
      have hD := wd_D (s := s) (cel := celC ad cA) (σ := s4) hi
      exact r_iret hx hb hr hlocks hv hP hS dX10_drop_29
    · have hv := hv.2 c12
      refine lv_iload_n hx hb dX10_drop_15 rfl (lv_at hl 3 rfl) ?_
      refine lv_iconst (v := 1) hx hb dX10_drop_16 (by decide) ?_
      refine lv_bipush (v := 30) hx hb dX10_drop_17 (by decide) ?_
      refine r_ci (va_runS (As := [.int a3, .int 1, .int 30]) (rest := []) ⟨hx, hb, hml, hown, hts⟩ (c_X10_within hi a3 1 30 s3 _ hv H.size) (va_cwS 3 hts gX10_drop_X10_within rfl rfl rfl (by decide +kernel) ⟨Nat.le_of_ble_eq_true rfl, Nat.le_of_ble_eq_true rfl⟩) ⟨pre_blind, pre_of hP hK⟩ rfl rfl hl.1 rfl (lv_room (Nat.le_of_ble_eq_true rfl)) dX10_drop_19 ⟨Nat.zero_le _, Nat.zero_le _⟩) hS (fun r5 s5 H locs hv hP hS => ?_)
      obtain ⟨hz_r5, hv⟩ := hv
      have hD := wd_D (s := s) (cel := celC ad cA) (σ := s5) hi
      refine lv_if_ne (tgt := 30) hx hb dX10_drop_22 (by decide) (fun c22 => ?_) (fun c22 => ?_)
      · have hv := hv.1 c22
        refine lv_aload_n hx hb dX10_drop_30 rfl (lv_at hl 0 rfl) ?_
        refine r_get hx hb hts (iwX10_drop_X10) hown hK.1 hP 0 (by decide) (ceGR_0 (s5 0)) rfl 3 (by decide) (hts _ kX10_drop_1) (v := .ref (ad 55)) rfl dX10_drop_31 ?_
        refine lv_aload_n hx hb dX10_drop_34 rfl (lv_at hl 0 rfl) ?_
        refine r_get hx hb hts (iwX10_drop_X10) hown hK.1 hP 0 (by decide) (ceGR_0 (s5 0)) rfl 0 (by decide) (hts _ kX10_drop_2) (v := .ref (ad 1)) rfl dX10_drop_35 ?_
        refine r_get hx hb hts (iwX10_drop_X7) hown hK.1 hP 1 (ltSc_0 vSc_1) (ceSc_0 vSc_1 (s5 1)) rfl 0 (by decide) (hts _ kX10_drop_3) (v := .ref (ad 2)) rfl dX10_drop_38 ?_
        refine lv_iload_n hx hb dX10_drop_41 rfl (lv_at hl 1 rfl) ?_
        refine lv_iload_n hx hb dX10_drop_42 rfl (lv_at hl 2 rfl) ?_
        refine lv_iload_n hx hb dX10_drop_43 rfl (lv_at hl 3 rfl) ?_
        refine r_ci (va_runV (As := [.ref (ad 2), .int a1, .int a2, .int a3]) (rest := []) ⟨hx, hb, hml, hown, hts⟩ (c_X0_meetings hi 2 a1 a2 a3 (vSc1 vSc_1) s5 _ hv H.size) (cwV 4 hts gX10_drop_X0_meetings rfl rfl rfl (by decide +kernel) ⟨Nat.le_of_ble_eq_true rfl, Nat.le_of_ble_eq_true rfl⟩) ⟨pre_blind, r_recv hK.1 hP 55 (by decide) (ceFo_0 (s5 55)) rfl, pre_of hP hK⟩ rfl rfl hl.1 rfl (lv_room (Nat.le_of_ble_eq_true rfl)) dX10_drop_44 ⟨Nat.zero_le _, Nat.zero_le _⟩) hS (fun r6 s6 H locs hv hP hS => ?_)
        have hD := wd_D (s := s) (cel := celC ad cA) (σ := s6) hi
        exact r_iret hx hb hr hlocks hv hP hS dX10_drop_47
      · have hv := hv.2 c22
        refine lv_aload_n hx hb dX10_drop_25 rfl (lv_at hl 0 rfl) ?_
        refine r_ci (va_runV (As := []) (rest := []) ⟨hx, hb, hml, hown, hts⟩ (c_X10_bad hi  s5 _ hv H.size) (cwV 0 hts gX10_drop_X10_bad rfl rfl rfl (by decide +kernel) ⟨Nat.le_of_ble_eq_true rfl, Nat.le_of_ble_eq_true rfl⟩) ⟨pre_blind, r_recv hK.1 hP 0 (by decide) (ceGR_0 (s5 0)) rfl, pre_of hP hK⟩ rfl rfl hl.1 rfl (lv_room (Nat.le_of_ble_eq_true rfl)) dX10_drop_26 ⟨Nat.zero_le _, Nat.zero_le _⟩) hS (fun r7 s7 H locs hv hP hS => ?_)
        have hD := wd_D (s := s) (cel := celC ad cA) (σ := s7) hi
        exact r_iret hx hb hr hlocks hv hP hS dX10_drop_29
set_option maxHeartbeats 4000000 in
theorem y_X10_drop {p : Program} {l : Launch} {e : Env} {s : State} {m : MethodId} {args : Array Value} {below : List Frame} {meth : Method} {c : Code} {dC : Nat → ClassId} {dI : Nat → Nat → Nat} {ad : Nat → Nat} {cA cZ : ClassId} (hi : Inj 81 ad) (a1 : Int32) (a2 : Int32) (a3 : Int32)  (C0 : Cx cX10_drop RX10 wsX10_drop 4 (some .int) p s m args meth c) (hK : KK dC dI cA cZ s) (Q : Int32 → St → Prop) : ∀ P xs ys σ, R_X10_drop a1 a2 a3 Q P xs ys σ → XX p l e ({ frames := 5, cells := 0, slots := 0, locals := 117 } : Room) s m args below meth c (dC, dI) 81 ad (celC ad cA) 4 (ZI below args s (dC, dI) 81 ad (celC ad cA) Q) (lay_X10_drop ad a1 a2 a3) P xs ys σ := by
  refine Fx.elim _ (fun P xs ys σ Y hY hB => ?_)
  exact hB.elim
set_option maxHeartbeats 4000000 in
theorem c_X10_drop {l : Launch} {dC : Nat → ClassId} {dI : Nat → Nat → Nat} {ad : Nat → Nat} {cA cZ : ClassId} (hi : Inj 81 ad) (a1 : Int32) (a2 : Int32) (a3 : Int32)  (s0 : St) (Q : Int32 → St → Prop) (hv : V_X10_drop a1 a2 a3 s0 Q) (sz : Nat) : Met l yX10_drop wsX10_drop ({ frames := 5, cells := 0, slots := 0, locals := 117 } : Room) (va_Pc [.ref (ad 0), .int a1, .int a2, .int a3] (PW dC dI ad cA cZ 81 (celC ad cA) sz s0)) (va_Qi Q (fun u t => va_P (dC, dI) vwCl (wd 81 ad (celC ad cA) u) t.heap) (AA 81 ad sz)) 0 0 (AA 81 ad sz) := by
  refine Met.ofW (cc := cX10_drop) (maxL := 4) (ret := (some .int)) (by decide) rfl ?_
  intro p e s m args below meth c s₁ B hml hv0
  obtain ⟨rfl, hsz, hP, hK⟩ := hv0
  subst hsz
  have C0 : Cx cX10_drop RX10 wsX10_drop 4 (some .int) p s m ([.ref (ad 0), .int a1, .int a2, .int a3] : List Value).toArray meth c := ⟨B.exec, B.bytes, hml, findClass_of_methodNamed B.named, atoms_spec (ws := wsX10_drop) B.pre, B.returns, B.notSynchronized⟩
  have hl := lv_entry ([.ref (ad 0), .int a1, .int a2, .int a3]) (n := 4) (Nat.le_of_ble_eq_true rfl)
  rw [lg_entry_eq]
  generalize (lg_sl ([.ref (ad 0), .int a1, .int a2, .int a3]) ++ List.replicate (4 - (lg_sl ([.ref (ad 0), .int a1, .int a2, .int a3])).length) Slot.unset).toArray = ls at hl ⊢
  have hl : lv_has ls 4 [(0, .ref (ad 0)), (1, .int a1), (2, .int a2), (3, .int a3)] := hl
  exact w_X10_drop_e hi a1 a2 a3  C0 hK Q (R_X10_drop a1 a2 a3 Q) (y_X10_drop hi a1 a2 a3  C0 hK Q)  s0 hv hP va_S.rf hl
def lay_X6_add (ad : Nat → Nat) (h0 : Nat) (a1 : Int32) (a2 : Int32) (a3 : Int32) (a4 : Int32) : Nat → List Int32 → List Int64 → Option (List (Nat × Value) × List Value) := fun P xs ys => match P, xs, ys with
  | _, _, _ => none
set_option maxHeartbeats 4000000 in
set_option maxRecDepth 100000 in
theorem w_X6_add_e {p : Program} {l : Launch} {e : Env} {s : State} {m : MethodId} {args : Array Value} {below : List Frame} {meth : Method} {c : Code} {dC : Nat → ClassId} {dI : Nat → Nat → Nat} {ad : Nat → Nat} {cA cZ : ClassId} (hi : Inj 81 ad) (h0 : Nat) (a1 : Int32) (a2 : Int32) (a3 : Int32) (a4 : Int32) (hh0 : isRo h0) (C0 : Cx cX6_add RX6 wsX6_add 6 (some .boolean) p s m args meth c) (hK : KK dC dI cA cZ s) (Q : Int32 → St → Prop) (Y : Nat → List Int32 → List Int64 → St → Prop) (hY : ∀ P xs ys σ, Y P xs ys σ → XX p l e ({ frames := 0, cells := 0, slots := 0, locals := 0 } : Room) s m args below meth c (dC, dI) 81 ad (celC ad cA) 6 (ZZ below args s (dC, dI) 81 ad (celC ad cA) Q) (lay_X6_add ad h0 a1 a2 a3 a4) P xs ys σ)  (s0 : St) (hv : B_X6_add_e h0 a1 a2 a3 a4 Q Y  s0) {H : Heap} {locs : List Loc} {ls : Array Slot} (hP : va_P (dC, dI) vwCl (wd 81 ad (celC ad cA) s0) H) (hS : va_S (AA 81 ad s.heap.size) s.heap H locs) (hl : lv_has ls 6 [(0, .ref (ad h0)), (1, .int a1), (2, .int a2), (3, .int a3), (4, .int a4)]) : W p l e ({ frames := 0, cells := 0, slots := 0, locals := 0 } : Room) s m args below meth c H locs 0 0 (ZZ below args s (dC, dI) 81 ad (celC ad cA) Q) (F0 m 0 ls []) := by
  obtain ⟨hx, hb, hml, hown, hts, hr, hlocks⟩ := C0
  have hD := wd_D (s := s) (cel := celC ad cA) (σ := s0) hi
  unfold B_X6_add_e at hv
  refine lv_aload_n hx hb dX6_add_0 rfl (lv_at hl 0 rfl) ?_
  refine r_get hx hb hts (iwX6_add_X6) hown hK.1 hP h0 (ltRo_0 hh0) (ceRo_0 hh0 (s0 h0)) rfl 3 (by decide) (hts _ kX6_add_1) (v := .int (s0 h0 3)) rfl dX6_add_1 ?_
  refine lv_aload_n hx hb dX6_add_4 rfl (lv_at hl 0 rfl) ?_
  refine r_get hx hb hts (iwX6_add_X6) hown hK.1 hP h0 (ltRo_0 hh0) (ceRo_0 hh0 (s0 h0)) rfl 1 (by decide) (hts _ kX6_add_2) (v := .int (s0 h0 1)) rfl dX6_add_5 ?_
  refine lv_icmp_lt (tgt := 13) hx hb dX6_add_8 (by decide) (fun c8 => ?_) (fun c8 => ?_)
  · have hv := hv.1 c8
    refine lv_aload_n hx hb dX6_add_13 rfl (lv_at hl 0 rfl) ?_
    refine r_get hx hb hts (iwX6_add_X6) hown hK.1 hP h0 (ltRo_0 hh0) (ceRo_0 hh0 (s0 h0)) rfl 3 (by decide) (hts _ kX6_add_1) (v := .int (s0 h0 3)) rfl dX6_add_14 ?_
    refine lv_iconst (v := 4) hx hb dX6_add_17 (by decide) ?_
    refine lv_imul hx hb dX6_add_18 ?_
    refine lv_istore (lv' := [(5, .int ((s0 h0 3) * 4)), (0, .ref (ad h0)), (1, .int a1), (2, .int a2), (3, .int a3), (4, .int a4)]) hx hb dX6_add_19 hl (by decide) rfl (fun ls hl => ?_)
    refine lv_aload_n hx hb dX6_add_21 rfl (lv_at hl 1 rfl) ?_
    refine r_get hx hb hts (iwX6_add_X6) hown hK.1 hP h0 (ltRo_0 hh0) (ceRo_0 hh0 (s0 h0)) rfl 0 (by decide) (hts _ kX6_add_3) (v := .ref (ad (h0 + 1))) rfl dX6_add_22 ?_
    refine lv_iload hx hb dX6_add_25 (lv_at hl 0 rfl) ?_
    refine lv_iload_n hx hb dX6_add_27 rfl (lv_at hl 2 rfl) ?_
    obtain ⟨hin, hv⟩ := hv
    refine r_iast hx hb hK.1 hP hD hS (h0 + 1) (ltRo_1 hh0) (ceRo_1 hh0 (s0 (h0 + 1))) (ceRo_1 hh0 _) hin dX6_add_28 (fun H locs s1 es1 hP hD hS => ?_)
    have hv := hv s1 es1
    refine lv_aload_n hx hb dX6_add_29 rfl (lv_at hl 1 rfl) ?_
    refine r_get hx hb hts (iwX6_add_X6) hown hK.1 hP h0 (ltRo_0 hh0) (ceRo_0 hh0 (s1 h0)) rfl 0 (by decide) (hts _ kX6_add_3) (v := .ref (ad (h0 + 1))) rfl dX6_add_30 ?_
    refine lv_iload hx hb dX6_add_33 (lv_at hl 0 rfl) ?_
    refine lv_iconst (v := 1) hx hb dX6_add_35 (by decide) ?_
    refine lv_iadd hx hb dX6_add_36 ?_
    refine lv_iload_n hx hb dX6_add_37 rfl (lv_at hl 3 rfl) ?_
    obtain ⟨hin, hv⟩ := hv
    refine r_iast hx hb hK.1 hP hD hS (h0 + 1) (ltRo_1 hh0) (ceRo_1 hh0 (s1 (h0 + 1))) (ceRo_1 hh0 _) hin dX6_add_38 (fun H locs s2 es2 hP hD hS => ?_)
    have hv := hv s2 es2
    refine lv_aload_n hx hb dX6_add_39 rfl (lv_at hl 1 rfl) ?_
    refine r_get hx hb hts (iwX6_add_X6) hown hK.1 hP h0 (ltRo_0 hh0) (ceRo_0 hh0 (s2 h0)) rfl 0 (by decide) (hts _ kX6_add_3) (v := .ref (ad (h0 + 1))) rfl dX6_add_40 ?_
    refine lv_iload hx hb dX6_add_43 (lv_at hl 0 rfl) ?_
    refine lv_iconst (v := 2) hx hb dX6_add_45 (by decide) ?_
    refine lv_iadd hx hb dX6_add_46 ?_
    refine lv_iload_n hx hb dX6_add_47 rfl (lv_at hl 4 rfl) ?_
    obtain ⟨hin, hv⟩ := hv
    refine r_iast hx hb hK.1 hP hD hS (h0 + 1) (ltRo_1 hh0) (ceRo_1 hh0 (s2 (h0 + 1))) (ceRo_1 hh0 _) hin dX6_add_48 (fun H locs s3 es3 hP hD hS => ?_)
    have hv := hv s3 es3
    refine lv_aload_n hx hb dX6_add_49 rfl (lv_at hl 1 rfl) ?_
    refine r_get hx hb hts (iwX6_add_X6) hown hK.1 hP h0 (ltRo_0 hh0) (ceRo_0 hh0 (s3 h0)) rfl 0 (by decide) (hts _ kX6_add_3) (v := .ref (ad (h0 + 1))) rfl dX6_add_50 ?_
    refine lv_iload hx hb dX6_add_53 (lv_at hl 0 rfl) ?_
    refine lv_iconst (v := 3) hx hb dX6_add_55 (by decide) ?_
    refine lv_iadd hx hb dX6_add_56 ?_
    refine lv_iload hx hb dX6_add_57 (lv_at hl 5 rfl) ?_
    obtain ⟨hin, hv⟩ := hv
    refine r_iast hx hb hK.1 hP hD hS (h0 + 1) (ltRo_1 hh0) (ceRo_1 hh0 (s3 (h0 + 1))) (ceRo_1 hh0 _) hin dX6_add_59 (fun H locs s4 es4 hP hD hS => ?_)
    have hv := hv s4 es4
    refine lv_aload_n hx hb dX6_add_60 rfl (lv_at hl 1 rfl) ?_
    refine lv_dup hx hb dX6_add_61 rfl ?_
    refine r_get hx hb hts (iwX6_add_X6) hown hK.1 hP h0 (ltRo_0 hh0) (ceRo_0 hh0 (s4 h0)) rfl 3 (by decide) (hts _ kX6_add_1) (v := .int (s4 h0 3)) rfl dX6_add_62 ?_
    refine lv_iconst (v := 1) hx hb dX6_add_65 (by decide) ?_
    refine lv_iadd hx hb dX6_add_66 ?_
    refine r_put hx hb hts (iwX6_add_X6) tyX6 tyX6_ok nmX6 hown hK.1 hP hD hS h0 (ltRo_0 hh0) (ceRo_0 hh0 (s4 h0)) rfl 3 (by decide) (hts _ kX6_add_1) rfl (ty := .int) (v := .int ((s4 h0 3) + 1)) (by decide +kernel) rfl rfl (Nat.le_of_ble_eq_true rfl) (row := (upd (s4 h0) 3 ((s4 h0 3) + 1))) (by rw [(ceRo_0 hh0 (upd (s4 h0) 3 ((s4 h0 3) + 1)))]; rfl) dX6_add_67 (fun H locs s5 es5 hP hD hS => ?_)
    have hv := hv s5 es5
    refine lv_iconst (v := 1) hx hb dX6_add_70 (by decide) ?_
    exact r_zret hx hb hr hlocks (Or.inr rfl) hv hP hS dX6_add_71
  · have hv := hv.2 c8
    refine lv_iconst (v := 0) hx hb dX6_add_11 (by decide) ?_
    exact r_zret hx hb hr hlocks (Or.inl rfl) hv hP hS dX6_add_12
set_option maxHeartbeats 4000000 in
theorem y_X6_add {p : Program} {l : Launch} {e : Env} {s : State} {m : MethodId} {args : Array Value} {below : List Frame} {meth : Method} {c : Code} {dC : Nat → ClassId} {dI : Nat → Nat → Nat} {ad : Nat → Nat} {cA cZ : ClassId} (hi : Inj 81 ad) (h0 : Nat) (a1 : Int32) (a2 : Int32) (a3 : Int32) (a4 : Int32) (hh0 : isRo h0) (C0 : Cx cX6_add RX6 wsX6_add 6 (some .boolean) p s m args meth c) (hK : KK dC dI cA cZ s) (Q : Int32 → St → Prop) : ∀ P xs ys σ, R_X6_add h0 a1 a2 a3 a4 Q P xs ys σ → XX p l e ({ frames := 0, cells := 0, slots := 0, locals := 0 } : Room) s m args below meth c (dC, dI) 81 ad (celC ad cA) 6 (ZZ below args s (dC, dI) 81 ad (celC ad cA) Q) (lay_X6_add ad h0 a1 a2 a3 a4) P xs ys σ := by
  refine Fx.elim _ (fun P xs ys σ Y hY hB => ?_)
  exact hB.elim
set_option maxHeartbeats 4000000 in
theorem c_X6_add {l : Launch} {dC : Nat → ClassId} {dI : Nat → Nat → Nat} {ad : Nat → Nat} {cA cZ : ClassId} (hi : Inj 81 ad) (h0 : Nat) (a1 : Int32) (a2 : Int32) (a3 : Int32) (a4 : Int32) (hh0 : isRo h0) (s0 : St) (Q : Int32 → St → Prop) (hv : V_X6_add h0 a1 a2 a3 a4 s0 Q) (sz : Nat) : Met l yX6_add wsX6_add ({ frames := 0, cells := 0, slots := 0, locals := 0 } : Room) (va_Pc [.ref (ad h0), .int a1, .int a2, .int a3, .int a4] (PW dC dI ad cA cZ 81 (celC ad cA) sz s0)) (va_Qi (fun r u => (r = 0 ∨ r = 1) ∧ Q r u) (fun u t => va_P (dC, dI) vwCl (wd 81 ad (celC ad cA) u) t.heap) (AA 81 ad sz)) 0 0 (AA 81 ad sz) := by
  refine Met.ofW (cc := cX6_add) (maxL := 6) (ret := (some .boolean)) (by decide) rfl ?_
  intro p e s m args below meth c s₁ B hml hv0
  obtain ⟨rfl, hsz, hP, hK⟩ := hv0
  subst hsz
  have C0 : Cx cX6_add RX6 wsX6_add 6 (some .boolean) p s m ([.ref (ad h0), .int a1, .int a2, .int a3, .int a4] : List Value).toArray meth c := ⟨B.exec, B.bytes, hml, findClass_of_methodNamed B.named, atoms_spec (ws := wsX6_add) B.pre, B.returns, B.notSynchronized⟩
  have hl := lv_entry ([.ref (ad h0), .int a1, .int a2, .int a3, .int a4]) (n := 6) (Nat.le_of_ble_eq_true rfl)
  rw [lg_entry_eq]
  generalize (lg_sl ([.ref (ad h0), .int a1, .int a2, .int a3, .int a4]) ++ List.replicate (6 - (lg_sl ([.ref (ad h0), .int a1, .int a2, .int a3, .int a4])).length) Slot.unset).toArray = ls at hl ⊢
  have hl : lv_has ls 6 [(0, .ref (ad h0)), (1, .int a1), (2, .int a2), (3, .int a3), (4, .int a4)] := hl
  exact w_X6_add_e hi h0 a1 a2 a3 a4 hh0 C0 hK Q (R_X6_add h0 a1 a2 a3 a4 Q) (y_X6_add hi h0 a1 a2 a3 a4 hh0 C0 hK Q)  s0 hv hP va_S.rf hl
def lay_X10_told (ad : Nat → Nat) (h1 : Nat) (a2 : Int32) : Nat → List Int32 → List Int64 → Option (List (Nat × Value) × List Value) := fun P xs ys => match P, xs, ys with
  | _, _, _ => none
set_option maxHeartbeats 4000000 in
set_option maxRecDepth 100000 in
theorem w_X10_told_e {p : Program} {l : Launch} {e : Env} {s : State} {m : MethodId} {args : Array Value} {below : List Frame} {meth : Method} {c : Code} {dC : Nat → ClassId} {dI : Nat → Nat → Nat} {ad : Nat → Nat} {cA cZ : ClassId} (hi : Inj 81 ad) (h1 : Nat) (a2 : Int32) (hh1 : isRo h1) (C0 : Cx cX10_told RX10 wsX10_told 3 (some .int) p s m args meth c) (hK : KK dC dI cA cZ s) (Q : Int32 → St → Prop) (Y : Nat → List Int32 → List Int64 → St → Prop) (hY : ∀ P xs ys σ, Y P xs ys σ → XX p l e ({ frames := 1, cells := 0, slots := 0, locals := 20 } : Room) s m args below meth c (dC, dI) 81 ad (celC ad cA) 3 (ZI below args s (dC, dI) 81 ad (celC ad cA) Q) (lay_X10_told ad h1 a2) P xs ys σ)  (s0 : St) (hv : B_X10_told_e h1 a2 Q Y  s0) {H : Heap} {locs : List Loc} {ls : Array Slot} (hP : va_P (dC, dI) vwCl (wd 81 ad (celC ad cA) s0) H) (hS : va_S (AA 81 ad s.heap.size) s.heap H locs) (hl : lv_has ls 3 [(0, .ref (ad 0)), (1, .ref (ad h1)), (2, .int a2)]) : W p l e ({ frames := 1, cells := 0, slots := 0, locals := 20 } : Room) s m args below meth c H locs 0 0 (ZI below args s (dC, dI) 81 ad (celC ad cA) Q) (F0 m 0 ls []) := by
  obtain ⟨hx, hb, hml, hown, hts, hr, hlocks⟩ := C0
  have hD := wd_D (s := s) (cel := celC ad cA) (σ := s0) hi
  unfold B_X10_told_e at hv
  refine lv_iload_n hx hb dX10_told_0 rfl (lv_at hl 2 rfl) ?_
  refine lv_if_eq (tgt := 11) hx hb dX10_told_1 (by decide) (fun c1 => ?_) (fun c1 => ?_)
  · have hv := hv.1 c1
    refine lv_aload_n hx hb dX10_told_11 rfl (lv_at hl 0 rfl) ?_
    refine r_ci (va_runV (As := []) (rest := []) ⟨hx, hb, hml, hown, hts⟩ (c_X10_full hi  s0 _ hv H.size) (cwV 0 hts gX10_told_X10_full rfl rfl rfl (by decide +kernel) ⟨Nat.le_of_ble_eq_true rfl, Nat.le_of_ble_eq_true rfl⟩) ⟨pre_blind, r_recv hK.1 hP 0 (by decide) (ceGR_0 (s0 0)) rfl, pre_of hP hK⟩ rfl rfl hl.1 rfl (lv_room (Nat.le_of_ble_eq_true rfl)) dX10_told_12 ⟨Nat.zero_le _, Nat.zero_le _⟩) hS (fun r1 s1 H locs hv hP hS => ?_)
    have hD := wd_D (s := s) (cel := celC ad cA) (σ := s1) hi
    exact r_iret hx hb hr hlocks hv hP hS dX10_told_15
  · have hv := hv.2 c1
    refine lv_aload_n hx hb dX10_told_4 rfl (lv_at hl 1 rfl) ?_
    refine r_get hx hb hts (iwX10_told_X6) hown hK.1 hP h1 (ltRo_0 hh1) (ceRo_0 hh1 (s0 h1)) rfl 3 (by decide) (hts _ kX10_told_1) (v := .int (s0 h1 3)) rfl dX10_told_5 ?_
    refine lv_goto (tgt := 15) hx hb dX10_told_8 (by decide) ?_
    exact r_iret hx hb hr hlocks hv hP hS dX10_told_15
set_option maxHeartbeats 4000000 in
theorem y_X10_told {p : Program} {l : Launch} {e : Env} {s : State} {m : MethodId} {args : Array Value} {below : List Frame} {meth : Method} {c : Code} {dC : Nat → ClassId} {dI : Nat → Nat → Nat} {ad : Nat → Nat} {cA cZ : ClassId} (hi : Inj 81 ad) (h1 : Nat) (a2 : Int32) (hh1 : isRo h1) (C0 : Cx cX10_told RX10 wsX10_told 3 (some .int) p s m args meth c) (hK : KK dC dI cA cZ s) (Q : Int32 → St → Prop) : ∀ P xs ys σ, R_X10_told h1 a2 Q P xs ys σ → XX p l e ({ frames := 1, cells := 0, slots := 0, locals := 20 } : Room) s m args below meth c (dC, dI) 81 ad (celC ad cA) 3 (ZI below args s (dC, dI) 81 ad (celC ad cA) Q) (lay_X10_told ad h1 a2) P xs ys σ := by
  refine Fx.elim _ (fun P xs ys σ Y hY hB => ?_)
  exact hB.elim
set_option maxHeartbeats 4000000 in
theorem c_X10_told {l : Launch} {dC : Nat → ClassId} {dI : Nat → Nat → Nat} {ad : Nat → Nat} {cA cZ : ClassId} (hi : Inj 81 ad) (h1 : Nat) (a2 : Int32) (hh1 : isRo h1) (s0 : St) (Q : Int32 → St → Prop) (hv : V_X10_told h1 a2 s0 Q) (sz : Nat) : Met l yX10_told wsX10_told ({ frames := 1, cells := 0, slots := 0, locals := 20 } : Room) (va_Pc [.ref (ad 0), .ref (ad h1), .int a2] (PW dC dI ad cA cZ 81 (celC ad cA) sz s0)) (va_Qi Q (fun u t => va_P (dC, dI) vwCl (wd 81 ad (celC ad cA) u) t.heap) (AA 81 ad sz)) 0 0 (AA 81 ad sz) := by
  refine Met.ofW (cc := cX10_told) (maxL := 3) (ret := (some .int)) (by decide) rfl ?_
  intro p e s m args below meth c s₁ B hml hv0
  obtain ⟨rfl, hsz, hP, hK⟩ := hv0
  subst hsz
  have C0 : Cx cX10_told RX10 wsX10_told 3 (some .int) p s m ([.ref (ad 0), .ref (ad h1), .int a2] : List Value).toArray meth c := ⟨B.exec, B.bytes, hml, findClass_of_methodNamed B.named, atoms_spec (ws := wsX10_told) B.pre, B.returns, B.notSynchronized⟩
  have hl := lv_entry ([.ref (ad 0), .ref (ad h1), .int a2]) (n := 3) (Nat.le_of_ble_eq_true rfl)
  rw [lg_entry_eq]
  generalize (lg_sl ([.ref (ad 0), .ref (ad h1), .int a2]) ++ List.replicate (3 - (lg_sl ([.ref (ad 0), .ref (ad h1), .int a2])).length) Slot.unset).toArray = ls at hl ⊢
  have hl : lv_has ls 3 [(0, .ref (ad 0)), (1, .ref (ad h1)), (2, .int a2)] := hl
  exact w_X10_told_e hi h1 a2 hh1 C0 hK Q (R_X10_told h1 a2 Q) (y_X10_told hi h1 a2 hh1 C0 hK Q)  s0 hv hP va_S.rf hl
def lay_X10_seen (ad : Nat → Nat) (a1 : Int32) (a2 : Int32) : Nat → List Int32 → List Int64 → Option (List (Nat × Value) × List Value) := fun P xs ys => match P, xs, ys with
  | _, _, _ => none
set_option maxHeartbeats 4000000 in
set_option maxRecDepth 100000 in
theorem w_X10_seen_e {p : Program} {l : Launch} {e : Env} {s : State} {m : MethodId} {args : Array Value} {below : List Frame} {meth : Method} {c : Code} {dC : Nat → ClassId} {dI : Nat → Nat → Nat} {ad : Nat → Nat} {cA cZ : ClassId} (hi : Inj 81 ad) (a1 : Int32) (a2 : Int32)  (C0 : Cx cX10_seen RX10 wsX10_seen 3 (some .int) p s m args meth c) (hK : KK dC dI cA cZ s) (Q : Int32 → St → Prop) (Y : Nat → List Int32 → List Int64 → St → Prop) (hY : ∀ P xs ys σ, Y P xs ys σ → XX p l e ({ frames := 2, cells := 0, slots := 0, locals := 42 } : Room) s m args below meth c (dC, dI) 81 ad (celC ad cA) 3 (ZI below args s (dC, dI) 81 ad (celC ad cA) Q) (lay_X10_seen ad a1 a2) P xs ys σ)  (s0 : St) (hv : B_X10_seen_e a1 a2 Q Y  s0) {H : Heap} {locs : List Loc} {ls : Array Slot} (hP : va_P (dC, dI) vwCl (wd 81 ad (celC ad cA) s0) H) (hS : va_S (AA 81 ad s.heap.size) s.heap H locs) (hl : lv_has ls 3 [(0, .ref (ad 0)), (1, .int a1), (2, .int a2)]) : W p l e ({ frames := 2, cells := 0, slots := 0, locals := 42 } : Room) s m args below meth c H locs 0 0 (ZI below args s (dC, dI) 81 ad (celC ad cA) Q) (F0 m 0 ls []) := by
  obtain ⟨hx, hb, hml, hown, hts, hr, hlocks⟩ := C0
  have hD := wd_D (s := s) (cel := celC ad cA) (σ := s0) hi
  unfold B_X10_seen_e at hv
  refine lv_iload_n hx hb dX10_seen_0 rfl (lv_at hl 1 rfl) ?_
  refine lv_iconst (v := 0) hx hb dX10_seen_1 (by decide) ?_
  refine lv_bipush (v := 60) hx hb dX10_seen_2 (by decide) ?_
  refine r_ci (va_runS (As := [.int a1, .int 0, .int 60]) (rest := []) ⟨hx, hb, hml, hown, hts⟩ (c_X10_within hi a1 0 60 s0 _ hv H.size) (va_cwS 3 hts gX10_seen_X10_within rfl rfl rfl (by decide +kernel) ⟨Nat.le_of_ble_eq_true rfl, Nat.le_of_ble_eq_true rfl⟩) ⟨pre_blind, pre_of hP hK⟩ rfl rfl hl.1 rfl (lv_room (Nat.le_of_ble_eq_true rfl)) dX10_seen_4 ⟨Nat.zero_le _, Nat.zero_le _⟩) hS (fun r1 s1 H locs hv hP hS => ?_)
  obtain ⟨hz_r1, hv⟩ := hv
  have hD := wd_D (s := s) (cel := celC ad cA) (σ := s1) hi
  refine lv_if_eq (tgt := 20) hx hb dX10_seen_7 (by decide) (fun c7 => ?_) (fun c7 => ?_)
  · have hv := hv.1 c7
    refine lv_aload_n hx hb dX10_seen_20 rfl (lv_at hl 0 rfl) ?_
    refine r_ci (va_runV (As := []) (rest := []) ⟨hx, hb, hml, hown, hts⟩ (c_X10_bad hi  s1 _ hv H.size) (cwV 0 hts gX10_seen_X10_bad rfl rfl rfl (by decide +kernel) ⟨Nat.le_of_ble_eq_true rfl, Nat.le_of_ble_eq_true rfl⟩) ⟨pre_blind, r_recv hK.1 hP 0 (by decide) (ceGR_0 (s1 0)) rfl, pre_of hP hK⟩ rfl rfl hl.1 rfl (lv_room (Nat.le_of_ble_eq_true rfl)) dX10_seen_21 ⟨Nat.zero_le _, Nat.zero_le _⟩) hS (fun r2 s2 H locs hv hP hS => ?_)
    have hD := wd_D (s := s) (cel := celC ad cA) (σ := s2) hi
    exact r_iret hx hb hr hlocks hv hP hS dX10_seen_24
  · have hv := hv.2 c7
    refine lv_iload_n hx hb dX10_seen_10 rfl (lv_at hl 2 rfl) ?_
    refine lv_iconst (v := 0) hx hb dX10_seen_11 (by decide) ?_
    refine lv_bipush (v := 23) hx hb dX10_seen_12 (by decide) ?_
    refine r_ci (va_runS (As := [.int a2, .int 0, .int 23]) (rest := []) ⟨hx, hb, hml, hown, hts⟩ (c_X10_within hi a2 0 23 s1 _ hv H.size) (va_cwS 3 hts gX10_seen_X10_within rfl rfl rfl (by decide +kernel) ⟨Nat.le_of_ble_eq_true rfl, Nat.le_of_ble_eq_true rfl⟩) ⟨pre_blind, pre_of hP hK⟩ rfl rfl hl.1 rfl (lv_room (Nat.le_of_ble_eq_true rfl)) dX10_seen_14 ⟨Nat.zero_le _, Nat.zero_le _⟩) hS (fun r3 s3 H locs hv hP hS => ?_)
    obtain ⟨hz_r3, hv⟩ := hv
    have hD := wd_D (s := s) (cel := celC ad cA) (σ := s3) hi
    refine lv_if_ne (tgt := 25) hx hb dX10_seen_17 (by decide) (fun c17 => ?_) (fun c17 => ?_)
    · have hv := hv.1 c17
      refine lv_aload_n hx hb dX10_seen_25 rfl (lv_at hl 0 rfl) ?_
      refine lv_aload_n hx hb dX10_seen_26 rfl (lv_at hl 0 rfl) ?_
      refine r_get hx hb hts (iwX10_seen_X10) hown hK.1 hP 0 (by decide) (ceGR_0 (s3 0)) rfl 0 (by decide) (hts _ kX10_seen_1) (v := .ref (ad 1)) rfl dX10_seen_27 ?_
      refine r_get hx hb hts (iwX10_seen_X7) hown hK.1 hP 1 (ltSc_0 vSc_1) (ceSc_0 vSc_1 (s3 1)) rfl 2 (by decide) (hts _ kX10_seen_2) (v := .ref (ad 13)) rfl dX10_seen_30 ?_
      refine lv_aload_n hx hb dX10_seen_33 rfl (lv_at hl 0 rfl) ?_
      refine r_get hx hb hts (iwX10_seen_X10) hown hK.1 hP 0 (by decide) (ceGR_0 (s3 0)) rfl 0 (by decide) (hts _ kX10_seen_1) (v := .ref (ad 1)) rfl dX10_seen_34 ?_
      refine r_get hx hb hts (iwX10_seen_X7) hown hK.1 hP 1 (ltSc_0 vSc_1) (ceSc_0 vSc_1 (s3 1)) rfl 2 (by decide) (hts _ kX10_seen_2) (v := .ref (ad 13)) rfl dX10_seen_37 ?_
      refine lv_iload_n hx hb dX10_seen_40 rfl (lv_at hl 1 rfl) ?_
      refine lv_iload_n hx hb dX10_seen_41 rfl (lv_at hl 2 rfl) ?_
      refine lv_iconst (v := 0) hx hb dX10_seen_42 (by decide) ?_
      refine lv_iconst (v := 0) hx hb dX10_seen_43 (by decide) ?_
      refine r_ci (va_runV (As := [.int a1, .int a2, .int 0, .int 0]) (rest := [.ref (ad 13), .ref (ad 0)]) ⟨hx, hb, hml, hown, hts⟩ (c_X6_add hi 13 a1 a2 0 0 (vSc12 vSc_1) s3 _ hv H.size) (cwV 4 hts gX10_seen_X6_add rfl rfl rfl (by decide +kernel) ⟨Nat.le_of_ble_eq_true rfl, Nat.le_of_ble_eq_true rfl⟩) ⟨pre_blind, r_recv hK.1 hP 13 (ltRo_0 (vSc12 vSc_1)) (ceRo_0 (vSc12 vSc_1) (s3 13)) rfl, pre_of hP hK⟩ rfl rfl hl.1 rfl (lv_room (Nat.le_of_ble_eq_true rfl)) dX10_seen_44 ⟨Nat.zero_le _, Nat.zero_le _⟩) hS (fun r4 s4 H locs hv hP hS => ?_)
      obtain ⟨hz_r4, hv⟩ := hv
      have hD := wd_D (s := s) (cel := celC ad cA) (σ := s4) hi
      refine r_ci (va_runV (As := [.ref (ad 13), .int r4]) (rest := []) ⟨hx, hb, hml, hown, hts⟩ (c_X10_told hi 13 r4 (vSc12 vSc_1) s4 _ hv H.size) (cwV 2 hts gX10_seen_X10_told rfl rfl rfl (by decide +kernel) ⟨Nat.le_of_ble_eq_true rfl, Nat.le_of_ble_eq_true rfl⟩) ⟨pre_blind, r_recv hK.1 hP 0 (by decide) (ceGR_0 (s4 0)) rfl, pre_of hP hK⟩ rfl rfl hl.1 rfl (lv_room (Nat.le_of_ble_eq_true rfl)) dX10_seen_47 ⟨Nat.zero_le _, Nat.zero_le _⟩) hS (fun r5 s5 H locs hv hP hS => ?_)
      have hD := wd_D (s := s) (cel := celC ad cA) (σ := s5) hi
      exact r_iret hx hb hr hlocks hv hP hS dX10_seen_50
    · have hv := hv.2 c17
      refine lv_aload_n hx hb dX10_seen_20 rfl (lv_at hl 0 rfl) ?_
      refine r_ci (va_runV (As := []) (rest := []) ⟨hx, hb, hml, hown, hts⟩ (c_X10_bad hi  s3 _ hv H.size) (cwV 0 hts gX10_seen_X10_bad rfl rfl rfl (by decide +kernel) ⟨Nat.le_of_ble_eq_true rfl, Nat.le_of_ble_eq_true rfl⟩) ⟨pre_blind, r_recv hK.1 hP 0 (by decide) (ceGR_0 (s3 0)) rfl, pre_of hP hK⟩ rfl rfl hl.1 rfl (lv_room (Nat.le_of_ble_eq_true rfl)) dX10_seen_21 ⟨Nat.zero_le _, Nat.zero_le _⟩) hS (fun r6 s6 H locs hv hP hS => ?_)
      have hD := wd_D (s := s) (cel := celC ad cA) (σ := s6) hi
      exact r_iret hx hb hr hlocks hv hP hS dX10_seen_24
set_option maxHeartbeats 4000000 in
theorem y_X10_seen {p : Program} {l : Launch} {e : Env} {s : State} {m : MethodId} {args : Array Value} {below : List Frame} {meth : Method} {c : Code} {dC : Nat → ClassId} {dI : Nat → Nat → Nat} {ad : Nat → Nat} {cA cZ : ClassId} (hi : Inj 81 ad) (a1 : Int32) (a2 : Int32)  (C0 : Cx cX10_seen RX10 wsX10_seen 3 (some .int) p s m args meth c) (hK : KK dC dI cA cZ s) (Q : Int32 → St → Prop) : ∀ P xs ys σ, R_X10_seen a1 a2 Q P xs ys σ → XX p l e ({ frames := 2, cells := 0, slots := 0, locals := 42 } : Room) s m args below meth c (dC, dI) 81 ad (celC ad cA) 3 (ZI below args s (dC, dI) 81 ad (celC ad cA) Q) (lay_X10_seen ad a1 a2) P xs ys σ := by
  refine Fx.elim _ (fun P xs ys σ Y hY hB => ?_)
  exact hB.elim
set_option maxHeartbeats 4000000 in
theorem c_X10_seen {l : Launch} {dC : Nat → ClassId} {dI : Nat → Nat → Nat} {ad : Nat → Nat} {cA cZ : ClassId} (hi : Inj 81 ad) (a1 : Int32) (a2 : Int32)  (s0 : St) (Q : Int32 → St → Prop) (hv : V_X10_seen a1 a2 s0 Q) (sz : Nat) : Met l yX10_seen wsX10_seen ({ frames := 2, cells := 0, slots := 0, locals := 42 } : Room) (va_Pc [.ref (ad 0), .int a1, .int a2] (PW dC dI ad cA cZ 81 (celC ad cA) sz s0)) (va_Qi Q (fun u t => va_P (dC, dI) vwCl (wd 81 ad (celC ad cA) u) t.heap) (AA 81 ad sz)) 0 0 (AA 81 ad sz) := by
  refine Met.ofW (cc := cX10_seen) (maxL := 3) (ret := (some .int)) (by decide) rfl ?_
  intro p e s m args below meth c s₁ B hml hv0
  obtain ⟨rfl, hsz, hP, hK⟩ := hv0
  subst hsz
  have C0 : Cx cX10_seen RX10 wsX10_seen 3 (some .int) p s m ([.ref (ad 0), .int a1, .int a2] : List Value).toArray meth c := ⟨B.exec, B.bytes, hml, findClass_of_methodNamed B.named, atoms_spec (ws := wsX10_seen) B.pre, B.returns, B.notSynchronized⟩
  have hl := lv_entry ([.ref (ad 0), .int a1, .int a2]) (n := 3) (Nat.le_of_ble_eq_true rfl)
  rw [lg_entry_eq]
  generalize (lg_sl ([.ref (ad 0), .int a1, .int a2]) ++ List.replicate (3 - (lg_sl ([.ref (ad 0), .int a1, .int a2])).length) Slot.unset).toArray = ls at hl ⊢
  have hl : lv_has ls 3 [(0, .ref (ad 0)), (1, .int a1), (2, .int a2)] := hl
  exact w_X10_seen_e hi a1 a2  C0 hK Q (R_X10_seen a1 a2 Q) (y_X10_seen hi a1 a2  C0 hK Q)  s0 hv hP va_S.rf hl
def lay_X6_cell (ad : Nat → Nat) (h0 : Nat) (a1 : Int32) (a2 : Int32) : Nat → List Int32 → List Int64 → Option (List (Nat × Value) × List Value) := fun P xs ys => match P, xs, ys with
  | _, _, _ => none
set_option maxHeartbeats 4000000 in
set_option maxRecDepth 100000 in
theorem w_X6_cell_e {p : Program} {l : Launch} {e : Env} {s : State} {m : MethodId} {args : Array Value} {below : List Frame} {meth : Method} {c : Code} {dC : Nat → ClassId} {dI : Nat → Nat → Nat} {ad : Nat → Nat} {cA cZ : ClassId} (hi : Inj 81 ad) (h0 : Nat) (a1 : Int32) (a2 : Int32) (hh0 : isRo h0) (C0 : Cx cX6_cell RX6 wsX6_cell 3 (some .int) p s m args meth c) (hK : KK dC dI cA cZ s) (Q : Int32 → St → Prop) (Y : Nat → List Int32 → List Int64 → St → Prop) (hY : ∀ P xs ys σ, Y P xs ys σ → XX p l e ({ frames := 0, cells := 0, slots := 0, locals := 0 } : Room) s m args below meth c (dC, dI) 81 ad (celC ad cA) 3 (ZI below args s (dC, dI) 81 ad (celC ad cA) Q) (lay_X6_cell ad h0 a1 a2) P xs ys σ)  (s0 : St) (hv : B_X6_cell_e h0 a1 a2 Q Y  s0) {H : Heap} {locs : List Loc} {ls : Array Slot} (hP : va_P (dC, dI) vwCl (wd 81 ad (celC ad cA) s0) H) (hS : va_S (AA 81 ad s.heap.size) s.heap H locs) (hl : lv_has ls 3 [(0, .ref (ad h0)), (1, .int a1), (2, .int a2)]) : W p l e ({ frames := 0, cells := 0, slots := 0, locals := 0 } : Room) s m args below meth c H locs 0 0 (ZI below args s (dC, dI) 81 ad (celC ad cA) Q) (F0 m 0 ls []) := by
  obtain ⟨hx, hb, hml, hown, hts, hr, hlocks⟩ := C0
  have hD := wd_D (s := s) (cel := celC ad cA) (σ := s0) hi
  unfold B_X6_cell_e at hv
  refine lv_aload_n hx hb dX6_cell_0 rfl (lv_at hl 0 rfl) ?_
  refine r_get hx hb hts (iwX6_cell_X6) hown hK.1 hP h0 (ltRo_0 hh0) (ceRo_0 hh0 (s0 h0)) rfl 0 (by decide) (hts _ kX6_cell_1) (v := .ref (ad (h0 + 1))) rfl dX6_cell_1 ?_
  refine lv_iload_n hx hb dX6_cell_4 rfl (lv_at hl 1 rfl) ?_
  refine lv_iconst (v := 4) hx hb dX6_cell_5 (by decide) ?_
  refine lv_imul hx hb dX6_cell_6 ?_
  refine lv_iload_n hx hb dX6_cell_7 rfl (lv_at hl 2 rfl) ?_
  refine lv_iadd hx hb dX6_cell_8 ?_
  obtain ⟨hin, hv⟩ := hv
  refine r_iald hx hb hK.1 hP (h0 + 1) (ltRo_1 hh0) (ceRo_1 hh0 (s0 (h0 + 1))) hin dX6_cell_9 ?_
  exact r_iret hx hb hr hlocks hv hP hS dX6_cell_10
set_option maxHeartbeats 4000000 in
theorem y_X6_cell {p : Program} {l : Launch} {e : Env} {s : State} {m : MethodId} {args : Array Value} {below : List Frame} {meth : Method} {c : Code} {dC : Nat → ClassId} {dI : Nat → Nat → Nat} {ad : Nat → Nat} {cA cZ : ClassId} (hi : Inj 81 ad) (h0 : Nat) (a1 : Int32) (a2 : Int32) (hh0 : isRo h0) (C0 : Cx cX6_cell RX6 wsX6_cell 3 (some .int) p s m args meth c) (hK : KK dC dI cA cZ s) (Q : Int32 → St → Prop) : ∀ P xs ys σ, R_X6_cell h0 a1 a2 Q P xs ys σ → XX p l e ({ frames := 0, cells := 0, slots := 0, locals := 0 } : Room) s m args below meth c (dC, dI) 81 ad (celC ad cA) 3 (ZI below args s (dC, dI) 81 ad (celC ad cA) Q) (lay_X6_cell ad h0 a1 a2) P xs ys σ := by
  refine Fx.elim _ (fun P xs ys σ Y hY hB => ?_)
  exact hB.elim
set_option maxHeartbeats 4000000 in
theorem c_X6_cell {l : Launch} {dC : Nat → ClassId} {dI : Nat → Nat → Nat} {ad : Nat → Nat} {cA cZ : ClassId} (hi : Inj 81 ad) (h0 : Nat) (a1 : Int32) (a2 : Int32) (hh0 : isRo h0) (s0 : St) (Q : Int32 → St → Prop) (hv : V_X6_cell h0 a1 a2 s0 Q) (sz : Nat) : Met l yX6_cell wsX6_cell ({ frames := 0, cells := 0, slots := 0, locals := 0 } : Room) (va_Pc [.ref (ad h0), .int a1, .int a2] (PW dC dI ad cA cZ 81 (celC ad cA) sz s0)) (va_Qi Q (fun u t => va_P (dC, dI) vwCl (wd 81 ad (celC ad cA) u) t.heap) (AA 81 ad sz)) 0 0 (AA 81 ad sz) := by
  refine Met.ofW (cc := cX6_cell) (maxL := 3) (ret := (some .int)) (by decide) rfl ?_
  intro p e s m args below meth c s₁ B hml hv0
  obtain ⟨rfl, hsz, hP, hK⟩ := hv0
  subst hsz
  have C0 : Cx cX6_cell RX6 wsX6_cell 3 (some .int) p s m ([.ref (ad h0), .int a1, .int a2] : List Value).toArray meth c := ⟨B.exec, B.bytes, hml, findClass_of_methodNamed B.named, atoms_spec (ws := wsX6_cell) B.pre, B.returns, B.notSynchronized⟩
  have hl := lv_entry ([.ref (ad h0), .int a1, .int a2]) (n := 3) (Nat.le_of_ble_eq_true rfl)
  rw [lg_entry_eq]
  generalize (lg_sl ([.ref (ad h0), .int a1, .int a2]) ++ List.replicate (3 - (lg_sl ([.ref (ad h0), .int a1, .int a2])).length) Slot.unset).toArray = ls at hl ⊢
  have hl : lv_has ls 3 [(0, .ref (ad h0)), (1, .int a1), (2, .int a2)] := hl
  exact w_X6_cell_e hi h0 a1 a2 hh0 C0 hK Q (R_X6_cell h0 a1 a2 Q) (y_X6_cell hi h0 a1 a2 hh0 C0 hK Q)  s0 hv hP va_S.rf hl
def lay_X0_thoseAt (ad : Nat → Nat) (a1 : Int32) : Nat → List Int32 → List Int64 → Option (List (Nat × Value) × List Value) := fun P xs ys => match P, xs, ys with
  | 4, [x2, x3], [] => some ([(0, .ref (ad 55)), (1, .int a1), (2, .int x2), (3, .int x3)], [])
  | _, _, _ => none
set_option maxHeartbeats 4000000 in
set_option maxRecDepth 100000 in
theorem w_X0_thoseAt_e {p : Program} {l : Launch} {e : Env} {s : State} {m : MethodId} {args : Array Value} {below : List Frame} {meth : Method} {c : Code} {dC : Nat → ClassId} {dI : Nat → Nat → Nat} {ad : Nat → Nat} {cA cZ : ClassId} (hi : Inj 81 ad) (a1 : Int32)  (C0 : Cx cX0_thoseAt RX0 wsX0_thoseAt 4 (some .int) p s m args meth c) (hK : KK dC dI cA cZ s) (Q : Int32 → St → Prop) (Y : Nat → List Int32 → List Int64 → St → Prop) (hY : ∀ P xs ys σ, Y P xs ys σ → XX p l e ({ frames := 0, cells := 0, slots := 0, locals := 0 } : Room) s m args below meth c (dC, dI) 81 ad (celC ad cA) 4 (ZI below args s (dC, dI) 81 ad (celC ad cA) Q) (lay_X0_thoseAt ad a1) P xs ys σ)  (s0 : St) (hv : B_X0_thoseAt_e a1 Q Y  s0) {H : Heap} {locs : List Loc} {ls : Array Slot} (hP : va_P (dC, dI) vwCl (wd 81 ad (celC ad cA) s0) H) (hS : va_S (AA 81 ad s.heap.size) s.heap H locs) (hl : lv_has ls 4 [(0, .ref (ad 55)), (1, .int a1)]) : W p l e ({ frames := 0, cells := 0, slots := 0, locals := 0 } : Room) s m args below meth c H locs 0 0 (ZI below args s (dC, dI) 81 ad (celC ad cA) Q) (F0 m 0 ls []) := by
  obtain ⟨hx, hb, hml, hown, hts, hr, hlocks⟩ := C0
  have hD := wd_D (s := s) (cel := celC ad cA) (σ := s0) hi
  unfold B_X0_thoseAt_e at hv
  refine lv_iconst (v := 0) hx hb dX0_thoseAt_0 (by decide) ?_
  refine lv_istore_n (lv' := [(2, .int 0), (0, .ref (ad 55)), (1, .int a1)]) hx hb dX0_thoseAt_1 rfl hl (by decide) rfl (fun ls hl => ?_)
  refine lv_iconst (v := 0) hx hb dX0_thoseAt_2 (by decide) ?_
  refine lv_istore_n (lv' := [(3, .int 0), (2, .int 0), (0, .ref (ad 55)), (1, .int a1)]) hx hb dX0_thoseAt_3 rfl hl (by decide) rfl (fun ls hl => ?_)
  exact hY 4 [0, 0] [] s0 hv _ _ rfl H locs ls hP hS (lv_sub hl [2, 3, 1, 0] rfl)
set_option maxHeartbeats 4000000 in
set_option maxRecDepth 100000 in
theorem w_X0_thoseAt_4 {p : Program} {l : Launch} {e : Env} {s : State} {m : MethodId} {args : Array Value} {below : List Frame} {meth : Method} {c : Code} {dC : Nat → ClassId} {dI : Nat → Nat → Nat} {ad : Nat → Nat} {cA cZ : ClassId} (hi : Inj 81 ad) (a1 : Int32)  (C0 : Cx cX0_thoseAt RX0 wsX0_thoseAt 4 (some .int) p s m args meth c) (hK : KK dC dI cA cZ s) (Q : Int32 → St → Prop) (Y : Nat → List Int32 → List Int64 → St → Prop) (hY : ∀ P xs ys σ, Y P xs ys σ → XX p l e ({ frames := 0, cells := 0, slots := 0, locals := 0 } : Room) s m args below meth c (dC, dI) 81 ad (celC ad cA) 4 (ZI below args s (dC, dI) 81 ad (celC ad cA) Q) (lay_X0_thoseAt ad a1) P xs ys σ) (x2 : Int32) (x3 : Int32) (s0 : St) (hv : B_X0_thoseAt_4 a1 Q Y x2 x3 s0) {H : Heap} {locs : List Loc} {ls : Array Slot} (hP : va_P (dC, dI) vwCl (wd 81 ad (celC ad cA) s0) H) (hS : va_S (AA 81 ad s.heap.size) s.heap H locs) (hl : lv_has ls 4 [(0, .ref (ad 55)), (1, .int a1), (2, .int x2), (3, .int x3)]) : W p l e ({ frames := 0, cells := 0, slots := 0, locals := 0 } : Room) s m args below meth c H locs 0 0 (ZI below args s (dC, dI) 81 ad (celC ad cA) Q) (F0 m 4 ls []) := by
  obtain ⟨hx, hb, hml, hown, hts, hr, hlocks⟩ := C0
  have hD := wd_D (s := s) (cel := celC ad cA) (σ := s0) hi
  unfold B_X0_thoseAt_4 at hv
  refine lv_iload_n hx hb dX0_thoseAt_4 rfl (lv_at hl 3 rfl) ?_
  refine lv_aload_n hx hb dX0_thoseAt_5 rfl (lv_at hl 0 rfl) ?_
  refine r_get hx hb hts (iwX0_thoseAt_X0) hown hK.1 hP 55 (by decide) (ceFo_0 (s0 55)) rfl 0 (by decide) (hts _ kX0_thoseAt_1) (v := .ref (ad 56)) rfl dX0_thoseAt_6 ?_
  refine r_get hx hb hts (iwX0_thoseAt_X8) hown hK.1 hP 56 (ltSt_0 vSt_56) (ceSt_0 vSt_56 (s0 56)) rfl 8 (by decide) (hts _ kX0_thoseAt_2) (v := .int (s0 56 8)) rfl dX0_thoseAt_9 ?_
  refine lv_icmp_ge (tgt := 40) hx hb dX0_thoseAt_12 (by decide) (fun c12 => ?_) (fun c12 => ?_)
  · have hv := hv.1 c12
    refine lv_iload_n hx hb dX0_thoseAt_40 rfl (lv_at hl 2 rfl) ?_
    exact r_iret hx hb hr hlocks hv hP hS dX0_thoseAt_41
  · have hv := hv.2 c12
    refine lv_aload_n hx hb dX0_thoseAt_15 rfl (lv_at hl 0 rfl) ?_
    refine r_get hx hb hts (iwX0_thoseAt_X0) hown hK.1 hP 55 (by decide) (ceFo_0 (s0 55)) rfl 0 (by decide) (hts _ kX0_thoseAt_1) (v := .ref (ad 56)) rfl dX0_thoseAt_16 ?_
    refine r_get hx hb hts (iwX0_thoseAt_X8) hown hK.1 hP 56 (ltSt_0 vSt_56) (ceSt_0 vSt_56 (s0 56)) rfl 3 (by decide) (hts _ kX0_thoseAt_3) (v := .ref (ad 60)) rfl dX0_thoseAt_19 ?_
    refine lv_iload_n hx hb dX0_thoseAt_22 rfl (lv_at hl 3 rfl) ?_
    obtain ⟨hin, hv⟩ := hv
    refine r_iald hx hb hK.1 hP 60 (ltSt_4 vSt_56) (ceSt_4 vSt_56 (s0 60)) hin dX0_thoseAt_23 ?_
    refine lv_iload_n hx hb dX0_thoseAt_24 rfl (lv_at hl 1 rfl) ?_
    refine lv_icmp_ne (tgt := 34) hx hb dX0_thoseAt_25 (by decide) (fun c25 => ?_) (fun c25 => ?_)
    · have hv := hv.1 c25
      refine lv_iinc (v := x3 + 1) (lv' := [(3, .int (x3 + 1)), (0, .ref (ad 55)), (1, .int a1), (2, .int x2)]) hx hb dX0_thoseAt_34 hl (k := 3) rfl rfl (by decide) rfl (fun ls hl => ?_)
      refine lv_goto (tgt := 4) hx hb dX0_thoseAt_37 (by decide) ?_
      exact hY 4 [x2, x3 + 1] [] s0 hv _ _ rfl H locs ls hP hS (lv_sub hl [1, 2, 3, 0] rfl)
    · have hv := hv.2 c25
      refine lv_iload_n hx hb dX0_thoseAt_28 rfl (lv_at hl 2 rfl) ?_
      refine lv_iconst (v := 1) hx hb dX0_thoseAt_29 (by decide) ?_
      refine lv_iload_n hx hb dX0_thoseAt_30 rfl (lv_at hl 3 rfl) ?_
      refine lv_ishl hx hb dX0_thoseAt_31 ?_
      refine lv_ior hx hb dX0_thoseAt_32 ?_
      refine lv_topi (fun v1 ev1 => ?_)
      have hv := hv v1 ev1
      refine lv_istore_n (lv' := [(2, .int v1), (0, .ref (ad 55)), (1, .int a1), (3, .int x3)]) hx hb dX0_thoseAt_33 rfl hl (by decide) rfl (fun ls hl => ?_)
      refine lv_iinc (v := x3 + 1) (lv' := [(3, .int (x3 + 1)), (2, .int v1), (0, .ref (ad 55)), (1, .int a1)]) hx hb dX0_thoseAt_34 hl (k := 3) rfl rfl (by decide) rfl (fun ls hl => ?_)
      refine lv_goto (tgt := 4) hx hb dX0_thoseAt_37 (by decide) ?_
      exact hY 4 [v1, x3 + 1] [] s0 hv _ _ rfl H locs ls hP hS (lv_sub hl [2, 3, 1, 0] rfl)
set_option maxHeartbeats 4000000 in
theorem y_X0_thoseAt {p : Program} {l : Launch} {e : Env} {s : State} {m : MethodId} {args : Array Value} {below : List Frame} {meth : Method} {c : Code} {dC : Nat → ClassId} {dI : Nat → Nat → Nat} {ad : Nat → Nat} {cA cZ : ClassId} (hi : Inj 81 ad) (a1 : Int32)  (C0 : Cx cX0_thoseAt RX0 wsX0_thoseAt 4 (some .int) p s m args meth c) (hK : KK dC dI cA cZ s) (Q : Int32 → St → Prop) : ∀ P xs ys σ, R_X0_thoseAt a1 Q P xs ys σ → XX p l e ({ frames := 0, cells := 0, slots := 0, locals := 0 } : Room) s m args below meth c (dC, dI) 81 ad (celC ad cA) 4 (ZI below args s (dC, dI) 81 ad (celC ad cA) Q) (lay_X0_thoseAt ad a1) P xs ys σ := by
  refine Fx.elim _ (fun P xs ys σ Y hY hB => ?_)
  rcases hB with ⟨rfl, x2, x3, rfl, rfl, hB⟩
  · intro lv st he H locs ls hP hS hl
    cases he
    exact w_X0_thoseAt_4 hi a1  C0 hK Q Y hY x2 x3 σ hB hP hS hl
set_option maxHeartbeats 4000000 in
theorem c_X0_thoseAt {l : Launch} {dC : Nat → ClassId} {dI : Nat → Nat → Nat} {ad : Nat → Nat} {cA cZ : ClassId} (hi : Inj 81 ad) (a1 : Int32)  (s0 : St) (Q : Int32 → St → Prop) (hv : V_X0_thoseAt a1 s0 Q) (sz : Nat) : Met l yX0_thoseAt wsX0_thoseAt ({ frames := 0, cells := 0, slots := 0, locals := 0 } : Room) (va_Pc [.ref (ad 55), .int a1] (PW dC dI ad cA cZ 81 (celC ad cA) sz s0)) (va_Qi Q (fun u t => va_P (dC, dI) vwCl (wd 81 ad (celC ad cA) u) t.heap) (AA 81 ad sz)) 0 0 (AA 81 ad sz) := by
  refine Met.ofW (cc := cX0_thoseAt) (maxL := 4) (ret := (some .int)) (by decide) rfl ?_
  intro p e s m args below meth c s₁ B hml hv0
  obtain ⟨rfl, hsz, hP, hK⟩ := hv0
  subst hsz
  have C0 : Cx cX0_thoseAt RX0 wsX0_thoseAt 4 (some .int) p s m ([.ref (ad 55), .int a1] : List Value).toArray meth c := ⟨B.exec, B.bytes, hml, findClass_of_methodNamed B.named, atoms_spec (ws := wsX0_thoseAt) B.pre, B.returns, B.notSynchronized⟩
  have hl := lv_entry ([.ref (ad 55), .int a1]) (n := 4) (Nat.le_of_ble_eq_true rfl)
  rw [lg_entry_eq]
  generalize (lg_sl ([.ref (ad 55), .int a1]) ++ List.replicate (4 - (lg_sl ([.ref (ad 55), .int a1])).length) Slot.unset).toArray = ls at hl ⊢
  have hl : lv_has ls 4 [(0, .ref (ad 55)), (1, .int a1)] := hl
  exact w_X0_thoseAt_e hi a1  C0 hK Q (R_X0_thoseAt a1 Q) (y_X0_thoseAt hi a1  C0 hK Q)  s0 hv hP va_S.rf hl
def lay_X0_seenThere (ad : Nat → Nat) (h1 : Nat) (h2 : Nat) : Nat → List Int32 → List Int64 → Option (List (Nat × Value) × List Value) := fun P xs ys => match P, xs, ys with
  | 20, [x3, x4], [] => some ([(0, .ref (ad 55)), (2, .ref (ad h2)), (3, .int x3), (4, .int x4)], [])
  | 30, [x3, x4, x5], [] => some ([(0, .ref (ad 55)), (2, .ref (ad h2)), (3, .int x3), (4, .int x4), (5, .int x5)], [])
  | _, _, _ => none
set_option maxHeartbeats 4000000 in
set_option maxRecDepth 100000 in
theorem w_X0_seenThere_e {p : Program} {l : Launch} {e : Env} {s : State} {m : MethodId} {args : Array Value} {below : List Frame} {meth : Method} {c : Code} {dC : Nat → ClassId} {dI : Nat → Nat → Nat} {ad : Nat → Nat} {cA cZ : ClassId} (hi : Inj 81 ad) (h1 : Nat) (h2 : Nat) (hh1 : isSt h1) (hh2 : isRo h2) (C0 : Cx cX0_seenThere RX0 wsX0_seenThere 6 (some .int) p s m args meth c) (hK : KK dC dI cA cZ s) (Q : Int32 → St → Prop) (Y : Nat → List Int32 → List Int64 → St → Prop) (hY : ∀ P xs ys σ, Y P xs ys σ → XX p l e ({ frames := 3, cells := 0, slots := 0, locals := 69 } : Room) s m args below meth c (dC, dI) 81 ad (celC ad cA) 6 (ZI below args s (dC, dI) 81 ad (celC ad cA) Q) (lay_X0_seenThere ad h1 h2) P xs ys σ)  (s0 : St) (hv : B_X0_seenThere_e h1 h2 Q Y  s0) {H : Heap} {locs : List Loc} {ls : Array Slot} (hP : va_P (dC, dI) vwCl (wd 81 ad (celC ad cA) s0) H) (hS : va_S (AA 81 ad s.heap.size) s.heap H locs) (hl : lv_has ls 6 [(0, .ref (ad 55)), (1, .ref (ad h1)), (2, .ref (ad h2))]) : W p l e ({ frames := 3, cells := 0, slots := 0, locals := 69 } : Room) s m args below meth c H locs 0 0 (ZI below args s (dC, dI) 81 ad (celC ad cA) Q) (F0 m 0 ls []) := by
  obtain ⟨hx, hb, hml, hown, hts, hr, hlocks⟩ := C0
  have hD := wd_D (s := s) (cel := celC ad cA) (σ := s0) hi
  unfold B_X0_seenThere_e at hv
  refine lv_iconst (v := 1) hx hb dX0_seenThere_0 (by decide) ?_
  refine lv_aload_n hx hb dX0_seenThere_1 rfl (lv_at hl 1 rfl) ?_
  refine r_get hx hb hts (iwX0_seenThere_X8) hown hK.1 hP h1 (ltSt_0 hh1) (ceSt_0 hh1 (s0 h1)) rfl 8 (by decide) (hts _ kX0_seenThere_1) (v := .int (s0 h1 8)) rfl dX0_seenThere_2 ?_
  refine lv_ishl hx hb dX0_seenThere_5 ?_
  refine lv_iconst (v := 1) hx hb dX0_seenThere_6 (by decide) ?_
  refine lv_isub hx hb dX0_seenThere_7 ?_
  refine lv_topi (fun v1 ev1 => ?_)
  have hv := hv v1 ev1
  refine lv_istore_n (lv' := [(3, .int v1), (0, .ref (ad 55)), (1, .ref (ad h1)), (2, .ref (ad h2))]) hx hb dX0_seenThere_8 rfl hl (by decide) rfl (fun ls hl => ?_)
  refine lv_aload_n hx hb dX0_seenThere_9 rfl (lv_at hl 1 rfl) ?_
  refine r_get hx hb hts (iwX0_seenThere_X0) hown hK.1 hP 55 (by decide) (ceFo_0 (s0 55)) rfl 0 (by decide) (hts _ kX0_seenThere_2) (v := .ref (ad 56)) rfl dX0_seenThere_10 ?_
  refine lv_aload_n hx hb dX0_seenThere_13 rfl (lv_at hl 2 rfl) ?_
  refine r_cv (va_runV (As := [.ref (ad h1)]) (rest := []) ⟨hx, hb, hml, hown, hts⟩ (c_X8_copy hi 56 h1 vSt_56 hh1 s0 _ hv H.size) (cwV 1 hts gX0_seenThere_X8_copy rfl rfl rfl (by decide +kernel) ⟨Nat.le_of_ble_eq_true rfl, Nat.le_of_ble_eq_true rfl⟩) ⟨pre_blind, r_recv hK.1 hP 56 (ltSt_0 vSt_56) (ceSt_0 vSt_56 (s0 56)) rfl, pre_of hP hK⟩ rfl rfl hl.1 rfl (lv_room (Nat.le_of_ble_eq_true rfl)) dX0_seenThere_14 ⟨Nat.zero_le _, Nat.zero_le _⟩) hS (fun s2 H locs hv hP hS => ?_)
  have hD := wd_D (s := s) (cel := celC ad cA) (σ := s2) hi
  refine lv_iconst (v := 0) hx hb dX0_seenThere_17 (by decide) ?_
  refine lv_istore (lv' := [(4, .int 0), (3, .int v1), (0, .ref (ad 55)), (1, .ref (ad h1)), (2, .ref (ad h2))]) hx hb dX0_seenThere_18 hl (by decide) rfl (fun ls hl => ?_)
  exact hY 20 [v1, 0] [] s2 hv _ _ rfl H locs ls hP hS (lv_sub hl [2, 4, 1, 0] rfl)
set_option maxHeartbeats 4000000 in
set_option maxRecDepth 100000 in
theorem w_X0_seenThere_20 {p : Program} {l : Launch} {e : Env} {s : State} {m : MethodId} {args : Array Value} {below : List Frame} {meth : Method} {c : Code} {dC : Nat → ClassId} {dI : Nat → Nat → Nat} {ad : Nat → Nat} {cA cZ : ClassId} (hi : Inj 81 ad) (h1 : Nat) (h2 : Nat) (hh1 : isSt h1) (hh2 : isRo h2) (C0 : Cx cX0_seenThere RX0 wsX0_seenThere 6 (some .int) p s m args meth c) (hK : KK dC dI cA cZ s) (Q : Int32 → St → Prop) (Y : Nat → List Int32 → List Int64 → St → Prop) (hY : ∀ P xs ys σ, Y P xs ys σ → XX p l e ({ frames := 3, cells := 0, slots := 0, locals := 69 } : Room) s m args below meth c (dC, dI) 81 ad (celC ad cA) 6 (ZI below args s (dC, dI) 81 ad (celC ad cA) Q) (lay_X0_seenThere ad h1 h2) P xs ys σ) (x3 : Int32) (x4 : Int32) (s0 : St) (hv : B_X0_seenThere_20 h1 h2 Q Y x3 x4 s0) {H : Heap} {locs : List Loc} {ls : Array Slot} (hP : va_P (dC, dI) vwCl (wd 81 ad (celC ad cA) s0) H) (hS : va_S (AA 81 ad s.heap.size) s.heap H locs) (hl : lv_has ls 6 [(0, .ref (ad 55)), (2, .ref (ad h2)), (3, .int x3), (4, .int x4)]) : W p l e ({ frames := 3, cells := 0, slots := 0, locals := 69 } : Room) s m args below meth c H locs 0 0 (ZI below args s (dC, dI) 81 ad (celC ad cA) Q) (F0 m 20 ls []) := by
  obtain ⟨hx, hb, hml, hown, hts, hr, hlocks⟩ := C0
  have hD := wd_D (s := s) (cel := celC ad cA) (σ := s0) hi
  unfold B_X0_seenThere_20 at hv
  refine lv_iload hx hb dX0_seenThere_20 (lv_at hl 3 rfl) ?_
  refine lv_bipush (v := 60) hx hb dX0_seenThere_22 (by decide) ?_
  refine lv_icmp_gt (tgt := 84) hx hb dX0_seenThere_24 (by decide) (fun c24 => ?_) (fun c24 => ?_)
  · have hv := hv.1 c24
    refine lv_iload_n hx hb dX0_seenThere_84 rfl (lv_at hl 2 rfl) ?_
    exact r_iret hx hb hr hlocks hv hP hS dX0_seenThere_85
  · have hv := hv.2 c24
    refine lv_iconst (v := 0) hx hb dX0_seenThere_27 (by decide) ?_
    refine lv_istore (lv' := [(5, .int 0), (0, .ref (ad 55)), (2, .ref (ad h2)), (3, .int x3), (4, .int x4)]) hx hb dX0_seenThere_28 hl (by decide) rfl (fun ls hl => ?_)
    exact hY 30 [x3, x4, 0] [] s0 hv _ _ rfl H locs ls hP hS (lv_sub hl [1, 2, 3, 4, 0] rfl)
set_option maxHeartbeats 4000000 in
set_option maxRecDepth 100000 in
theorem w_X0_seenThere_30 {p : Program} {l : Launch} {e : Env} {s : State} {m : MethodId} {args : Array Value} {below : List Frame} {meth : Method} {c : Code} {dC : Nat → ClassId} {dI : Nat → Nat → Nat} {ad : Nat → Nat} {cA cZ : ClassId} (hi : Inj 81 ad) (h1 : Nat) (h2 : Nat) (hh1 : isSt h1) (hh2 : isRo h2) (C0 : Cx cX0_seenThere RX0 wsX0_seenThere 6 (some .int) p s m args meth c) (hK : KK dC dI cA cZ s) (Q : Int32 → St → Prop) (Y : Nat → List Int32 → List Int64 → St → Prop) (hY : ∀ P xs ys σ, Y P xs ys σ → XX p l e ({ frames := 3, cells := 0, slots := 0, locals := 69 } : Room) s m args below meth c (dC, dI) 81 ad (celC ad cA) 6 (ZI below args s (dC, dI) 81 ad (celC ad cA) Q) (lay_X0_seenThere ad h1 h2) P xs ys σ) (x3 : Int32) (x4 : Int32) (x5 : Int32) (s0 : St) (hv : B_X0_seenThere_30 h1 h2 Q Y x3 x4 x5 s0) {H : Heap} {locs : List Loc} {ls : Array Slot} (hP : va_P (dC, dI) vwCl (wd 81 ad (celC ad cA) s0) H) (hS : va_S (AA 81 ad s.heap.size) s.heap H locs) (hl : lv_has ls 6 [(0, .ref (ad 55)), (2, .ref (ad h2)), (3, .int x3), (4, .int x4), (5, .int x5)]) : W p l e ({ frames := 3, cells := 0, slots := 0, locals := 69 } : Room) s m args below meth c H locs 0 0 (ZI below args s (dC, dI) 81 ad (celC ad cA) Q) (F0 m 30 ls []) := by
  obtain ⟨hx, hb, hml, hown, hts, hr, hlocks⟩ := C0
  have hD := wd_D (s := s) (cel := celC ad cA) (σ := s0) hi
  unfold B_X0_seenThere_30 at hv
  refine lv_iload hx hb dX0_seenThere_30 (lv_at hl 4 rfl) ?_
  refine lv_aload_n hx hb dX0_seenThere_32 rfl (lv_at hl 1 rfl) ?_
  refine r_get hx hb hts (iwX0_seenThere_X6) hown hK.1 hP h2 (ltRo_0 hh2) (ceRo_0 hh2 (s0 h2)) rfl 3 (by decide) (hts _ kX0_seenThere_3) (v := .int (s0 h2 3)) rfl dX0_seenThere_33 ?_
  refine lv_icmp_ge (tgt := 71) hx hb dX0_seenThere_36 (by decide) (fun c36 => ?_) (fun c36 => ?_)
  · have hv := hv.1 c36
    refine lv_aload_n hx hb dX0_seenThere_71 rfl (lv_at hl 0 rfl) ?_
    refine r_get hx hb hts (iwX0_seenThere_X0) hown hK.1 hP 55 (by decide) (ceFo_0 (s0 55)) rfl 0 (by decide) (hts _ kX0_seenThere_2) (v := .ref (ad 56)) rfl dX0_seenThere_72 ?_
    refine r_cv (va_runV (As := []) (rest := []) ⟨hx, hb, hml, hown, hts⟩ (c_X8_passHour hi 56 vSt_56 s0 _ hv H.size) (cwV 0 hts gX0_seenThere_X8_passHour rfl rfl rfl (by decide +kernel) ⟨Nat.le_of_ble_eq_true rfl, Nat.le_of_ble_eq_true rfl⟩) ⟨pre_blind, r_recv hK.1 hP 56 (ltSt_0 vSt_56) (ceSt_0 vSt_56 (s0 56)) rfl, pre_of hP hK⟩ rfl rfl hl.1 rfl (lv_room (Nat.le_of_ble_eq_true rfl)) dX0_seenThere_75 ⟨Nat.zero_le _, Nat.zero_le _⟩) hS (fun s1 H locs hv hP hS => ?_)
    have hD := wd_D (s := s) (cel := celC ad cA) (σ := s1) hi
    refine lv_iinc (v := x4 + 1) (lv' := [(4, .int (x4 + 1)), (0, .ref (ad 55)), (2, .ref (ad h2)), (3, .int x3), (5, .int x5)]) hx hb dX0_seenThere_78 hl (k := 3) rfl rfl (by decide) rfl (fun ls hl => ?_)
    refine lv_goto (tgt := 20) hx hb dX0_seenThere_81 (by decide) ?_
    exact hY 20 [x3, x4 + 1] [] s1 hv _ _ rfl H locs ls hP hS (lv_sub hl [1, 2, 3, 0] rfl)
  · have hv := hv.2 c36
    refine lv_aload_n hx hb dX0_seenThere_39 rfl (lv_at hl 1 rfl) ?_
    refine lv_iload hx hb dX0_seenThere_40 (lv_at hl 4 rfl) ?_
    refine lv_iconst (v := 0) hx hb dX0_seenThere_42 (by decide) ?_
    refine r_ci (va_runV (As := [.int x5, .int 0]) (rest := []) ⟨hx, hb, hml, hown, hts⟩ (c_X6_cell hi h2 x5 0 hh2 s0 _ hv H.size) (cwV 2 hts gX0_seenThere_X6_cell rfl rfl rfl (by decide +kernel) ⟨Nat.le_of_ble_eq_true rfl, Nat.le_of_ble_eq_true rfl⟩) ⟨pre_blind, r_recv hK.1 hP h2 (ltRo_0 hh2) (ceRo_0 hh2 (s0 h2)) rfl, pre_of hP hK⟩ rfl rfl hl.1 rfl (lv_room (Nat.le_of_ble_eq_true rfl)) dX0_seenThere_43 ⟨Nat.zero_le _, Nat.zero_le _⟩) hS (fun r2 s2 H locs hv hP hS => ?_)
    have hD := wd_D (s := s) (cel := celC ad cA) (σ := s2) hi
    refine lv_iload hx hb dX0_seenThere_46 (lv_at hl 3 rfl) ?_
    refine lv_icmp_ne (tgt := 65) hx hb dX0_seenThere_48 (by decide) (fun c48 => ?_) (fun c48 => ?_)
    · have hv := hv.1 c48
      refine lv_iinc (v := x5 + 1) (lv' := [(5, .int (x5 + 1)), (0, .ref (ad 55)), (2, .ref (ad h2)), (3, .int x3), (4, .int x4)]) hx hb dX0_seenThere_65 hl (k := 4) rfl rfl (by decide) rfl (fun ls hl => ?_)
      refine lv_goto (tgt := 30) hx hb dX0_seenThere_68 (by decide) ?_
      exact hY 30 [x3, x4, x5 + 1] [] s2 hv _ _ rfl H locs ls hP hS (lv_sub hl [1, 2, 3, 4, 0] rfl)
    · have hv := hv.2 c48
      refine lv_iload_n hx hb dX0_seenThere_51 rfl (lv_at hl 2 rfl) ?_
      refine lv_aload_n hx hb dX0_seenThere_52 rfl (lv_at hl 0 rfl) ?_
      refine lv_aload_n hx hb dX0_seenThere_53 rfl (lv_at hl 1 rfl) ?_
      refine lv_iload hx hb dX0_seenThere_54 (lv_at hl 4 rfl) ?_
      refine lv_iconst (v := 1) hx hb dX0_seenThere_56 (by decide) ?_
      refine r_ci (va_runV (As := [.int x5, .int 1]) (rest := [.ref (ad 55), .int x3]) ⟨hx, hb, hml, hown, hts⟩ (c_X6_cell hi h2 x5 1 hh2 s2 _ hv H.size) (cwV 2 hts gX0_seenThere_X6_cell rfl rfl rfl (by decide +kernel) ⟨Nat.le_of_ble_eq_true rfl, Nat.le_of_ble_eq_true rfl⟩) ⟨pre_blind, r_recv hK.1 hP h2 (ltRo_0 hh2) (ceRo_0 hh2 (s2 h2)) rfl, pre_of hP hK⟩ rfl rfl hl.1 rfl (lv_room (Nat.le_of_ble_eq_true rfl)) dX0_seenThere_57 ⟨Nat.zero_le _, Nat.zero_le _⟩) hS (fun r3 s3 H locs hv hP hS => ?_)
      have hD := wd_D (s := s) (cel := celC ad cA) (σ := s3) hi
      refine r_ci (va_runV (As := [.int r3]) (rest := [.int x3]) ⟨hx, hb, hml, hown, hts⟩ (c_X0_thoseAt hi r3 s3 _ hv H.size) (cwV 1 hts gX0_seenThere_X0_thoseAt rfl rfl rfl (by decide +kernel) ⟨Nat.le_of_ble_eq_true rfl, Nat.le_of_ble_eq_true rfl⟩) ⟨pre_blind, r_recv hK.1 hP 55 (by decide) (ceFo_0 (s3 55)) rfl, pre_of hP hK⟩ rfl rfl hl.1 rfl (lv_room (Nat.le_of_ble_eq_true rfl)) dX0_seenThere_60 ⟨Nat.zero_le _, Nat.zero_le _⟩) hS (fun r4 s4 H locs hv hP hS => ?_)
      have hD := wd_D (s := s) (cel := celC ad cA) (σ := s4) hi
      refine lv_iand hx hb dX0_seenThere_63 ?_
      refine lv_istore_n (lv' := [(3, .int (x3 &&& r4)), (0, .ref (ad 55)), (2, .ref (ad h2)), (4, .int x4), (5, .int x5)]) hx hb dX0_seenThere_64 rfl hl (by decide) rfl (fun ls hl => ?_)
      refine lv_iinc (v := x5 + 1) (lv' := [(5, .int (x5 + 1)), (3, .int (x3 &&& r4)), (0, .ref (ad 55)), (2, .ref (ad h2)), (4, .int x4)]) hx hb dX0_seenThere_65 hl (k := 4) rfl rfl (by decide) rfl (fun ls hl => ?_)
      refine lv_goto (tgt := 30) hx hb dX0_seenThere_68 (by decide) ?_
      exact hY 30 [x3 &&& r4, x4, x5 + 1] [] s4 hv _ _ rfl H locs ls hP hS (lv_sub hl [2, 3, 1, 4, 0] rfl)
set_option maxHeartbeats 4000000 in
theorem y_X0_seenThere {p : Program} {l : Launch} {e : Env} {s : State} {m : MethodId} {args : Array Value} {below : List Frame} {meth : Method} {c : Code} {dC : Nat → ClassId} {dI : Nat → Nat → Nat} {ad : Nat → Nat} {cA cZ : ClassId} (hi : Inj 81 ad) (h1 : Nat) (h2 : Nat) (hh1 : isSt h1) (hh2 : isRo h2) (C0 : Cx cX0_seenThere RX0 wsX0_seenThere 6 (some .int) p s m args meth c) (hK : KK dC dI cA cZ s) (Q : Int32 → St → Prop) : ∀ P xs ys σ, R_X0_seenThere h1 h2 Q P xs ys σ → XX p l e ({ frames := 3, cells := 0, slots := 0, locals := 69 } : Room) s m args below meth c (dC, dI) 81 ad (celC ad cA) 6 (ZI below args s (dC, dI) 81 ad (celC ad cA) Q) (lay_X0_seenThere ad h1 h2) P xs ys σ := by
  refine Fx.elim _ (fun P xs ys σ Y hY hB => ?_)
  rcases hB with ⟨rfl, x3, x4, rfl, rfl, hB⟩ | ⟨rfl, x3, x4, x5, rfl, rfl, hB⟩
  · intro lv st he H locs ls hP hS hl
    cases he
    exact w_X0_seenThere_20 hi h1 h2 hh1 hh2 C0 hK Q Y hY x3 x4 σ hB hP hS hl
  · intro lv st he H locs ls hP hS hl
    cases he
    exact w_X0_seenThere_30 hi h1 h2 hh1 hh2 C0 hK Q Y hY x3 x4 x5 σ hB hP hS hl
set_option maxHeartbeats 4000000 in
theorem c_X0_seenThere {l : Launch} {dC : Nat → ClassId} {dI : Nat → Nat → Nat} {ad : Nat → Nat} {cA cZ : ClassId} (hi : Inj 81 ad) (h1 : Nat) (h2 : Nat) (hh1 : isSt h1) (hh2 : isRo h2) (s0 : St) (Q : Int32 → St → Prop) (hv : V_X0_seenThere h1 h2 s0 Q) (sz : Nat) : Met l yX0_seenThere wsX0_seenThere ({ frames := 3, cells := 0, slots := 0, locals := 69 } : Room) (va_Pc [.ref (ad 55), .ref (ad h1), .ref (ad h2)] (PW dC dI ad cA cZ 81 (celC ad cA) sz s0)) (va_Qi Q (fun u t => va_P (dC, dI) vwCl (wd 81 ad (celC ad cA) u) t.heap) (AA 81 ad sz)) 0 0 (AA 81 ad sz) := by
  refine Met.ofW (cc := cX0_seenThere) (maxL := 6) (ret := (some .int)) (by decide) rfl ?_
  intro p e s m args below meth c s₁ B hml hv0
  obtain ⟨rfl, hsz, hP, hK⟩ := hv0
  subst hsz
  have C0 : Cx cX0_seenThere RX0 wsX0_seenThere 6 (some .int) p s m ([.ref (ad 55), .ref (ad h1), .ref (ad h2)] : List Value).toArray meth c := ⟨B.exec, B.bytes, hml, findClass_of_methodNamed B.named, atoms_spec (ws := wsX0_seenThere) B.pre, B.returns, B.notSynchronized⟩
  have hl := lv_entry ([.ref (ad 55), .ref (ad h1), .ref (ad h2)]) (n := 6) (Nat.le_of_ble_eq_true rfl)
  rw [lg_entry_eq]
  generalize (lg_sl ([.ref (ad 55), .ref (ad h1), .ref (ad h2)]) ++ List.replicate (6 - (lg_sl ([.ref (ad 55), .ref (ad h1), .ref (ad h2)])).length) Slot.unset).toArray = ls at hl ⊢
  have hl : lv_has ls 6 [(0, .ref (ad 55)), (1, .ref (ad h1)), (2, .ref (ad h2))] := hl
  exact w_X0_seenThere_e hi h1 h2 hh1 hh2 C0 hK Q (R_X0_seenThere h1 h2 Q) (y_X0_seenThere hi h1 h2 hh1 hh2 C0 hK Q)  s0 hv hP va_S.rf hl
def lay_X10_which (ad : Nat → Nat)  : Nat → List Int32 → List Int64 → Option (List (Nat × Value) × List Value) := fun P xs ys => match P, xs, ys with
  | _, _, _ => none
set_option maxHeartbeats 4000000 in
set_option maxRecDepth 100000 in
theorem w_X10_which_e {p : Program} {l : Launch} {e : Env} {s : State} {m : MethodId} {args : Array Value} {below : List Frame} {meth : Method} {c : Code} {dC : Nat → ClassId} {dI : Nat → Nat → Nat} {ad : Nat → Nat} {cA cZ : ClassId} (hi : Inj 81 ad)   (C0 : Cx cX10_which RX10 wsX10_which 1 (some .int) p s m args meth c) (hK : KK dC dI cA cZ s) (Q : Int32 → St → Prop) (Y : Nat → List Int32 → List Int64 → St → Prop) (hY : ∀ P xs ys σ, Y P xs ys σ → XX p l e ({ frames := 4, cells := 0, slots := 0, locals := 94 } : Room) s m args below meth c (dC, dI) 81 ad (celC ad cA) 1 (ZI below args s (dC, dI) 81 ad (celC ad cA) Q) (lay_X10_which ad ) P xs ys σ)  (s0 : St) (hv : B_X10_which_e  Q Y  s0) {H : Heap} {locs : List Loc} {ls : Array Slot} (hP : va_P (dC, dI) vwCl (wd 81 ad (celC ad cA) s0) H) (hS : va_S (AA 81 ad s.heap.size) s.heap H locs) (hl : lv_has ls 1 [(0, .ref (ad 0))]) : W p l e ({ frames := 4, cells := 0, slots := 0, locals := 94 } : Room) s m args below meth c H locs 0 0 (ZI below args s (dC, dI) 81 ad (celC ad cA) Q) (F0 m 0 ls []) := by
  obtain ⟨hx, hb, hml, hown, hts, hr, hlocks⟩ := C0
  have hD := wd_D (s := s) (cel := celC ad cA) (σ := s0) hi
  unfold B_X10_which_e at hv
  refine lv_aload_n hx hb dX10_which_0 rfl (lv_at hl 0 rfl) ?_
  refine r_get hx hb hts (iwX10_which_X10) hown hK.1 hP 0 (by decide) (ceGR_0 (s0 0)) rfl 3 (by decide) (hts _ kX10_which_1) (v := .ref (ad 55)) rfl dX10_which_1 ?_
  refine lv_aload_n hx hb dX10_which_4 rfl (lv_at hl 0 rfl) ?_
  refine r_get hx hb hts (iwX10_which_X10) hown hK.1 hP 0 (by decide) (ceGR_0 (s0 0)) rfl 0 (by decide) (hts _ kX10_which_2) (v := .ref (ad 1)) rfl dX10_which_5 ?_
  refine r_get hx hb hts (iwX10_which_X7) hown hK.1 hP 1 (ltSc_0 vSc_1) (ceSc_0 vSc_1 (s0 1)) rfl 0 (by decide) (hts _ kX10_which_3) (v := .ref (ad 2)) rfl dX10_which_8 ?_
  refine lv_aload_n hx hb dX10_which_11 rfl (lv_at hl 0 rfl) ?_
  refine r_get hx hb hts (iwX10_which_X10) hown hK.1 hP 0 (by decide) (ceGR_0 (s0 0)) rfl 0 (by decide) (hts _ kX10_which_2) (v := .ref (ad 1)) rfl dX10_which_12 ?_
  refine r_get hx hb hts (iwX10_which_X7) hown hK.1 hP 1 (ltSc_0 vSc_1) (ceSc_0 vSc_1 (s0 1)) rfl 2 (by decide) (hts _ kX10_which_4) (v := .ref (ad 13)) rfl dX10_which_15 ?_
  refine r_ci (va_runV (As := [.ref (ad 2), .ref (ad 13)]) (rest := []) ⟨hx, hb, hml, hown, hts⟩ (c_X0_seenThere hi 2 13 (vSc1 vSc_1) (vSc12 vSc_1) s0 _ hv H.size) (cwV 2 hts gX10_which_X0_seenThere rfl rfl rfl (by decide +kernel) ⟨Nat.le_of_ble_eq_true rfl, Nat.le_of_ble_eq_true rfl⟩) ⟨pre_blind, r_recv hK.1 hP 55 (by decide) (ceFo_0 (s0 55)) rfl, pre_of hP hK⟩ rfl rfl hl.1 rfl (lv_room (Nat.le_of_ble_eq_true rfl)) dX10_which_18 ⟨Nat.zero_le _, Nat.zero_le _⟩) hS (fun r1 s1 H locs hv hP hS => ?_)
  have hD := wd_D (s := s) (cel := celC ad cA) (σ := s1) hi
  exact r_iret hx hb hr hlocks hv hP hS dX10_which_21
set_option maxHeartbeats 4000000 in
theorem y_X10_which {p : Program} {l : Launch} {e : Env} {s : State} {m : MethodId} {args : Array Value} {below : List Frame} {meth : Method} {c : Code} {dC : Nat → ClassId} {dI : Nat → Nat → Nat} {ad : Nat → Nat} {cA cZ : ClassId} (hi : Inj 81 ad)   (C0 : Cx cX10_which RX10 wsX10_which 1 (some .int) p s m args meth c) (hK : KK dC dI cA cZ s) (Q : Int32 → St → Prop) : ∀ P xs ys σ, R_X10_which  Q P xs ys σ → XX p l e ({ frames := 4, cells := 0, slots := 0, locals := 94 } : Room) s m args below meth c (dC, dI) 81 ad (celC ad cA) 1 (ZI below args s (dC, dI) 81 ad (celC ad cA) Q) (lay_X10_which ad ) P xs ys σ := by
  refine Fx.elim _ (fun P xs ys σ Y hY hB => ?_)
  exact hB.elim
set_option maxHeartbeats 4000000 in
theorem c_X10_which {l : Launch} {dC : Nat → ClassId} {dI : Nat → Nat → Nat} {ad : Nat → Nat} {cA cZ : ClassId} (hi : Inj 81 ad)   (s0 : St) (Q : Int32 → St → Prop) (hv : V_X10_which  s0 Q) (sz : Nat) : Met l yX10_which wsX10_which ({ frames := 4, cells := 0, slots := 0, locals := 94 } : Room) (va_Pc [.ref (ad 0)] (PW dC dI ad cA cZ 81 (celC ad cA) sz s0)) (va_Qi Q (fun u t => va_P (dC, dI) vwCl (wd 81 ad (celC ad cA) u) t.heap) (AA 81 ad sz)) 0 0 (AA 81 ad sz) := by
  refine Met.ofW (cc := cX10_which) (maxL := 1) (ret := (some .int)) (by decide) rfl ?_
  intro p e s m args below meth c s₁ B hml hv0
  obtain ⟨rfl, hsz, hP, hK⟩ := hv0
  subst hsz
  have C0 : Cx cX10_which RX10 wsX10_which 1 (some .int) p s m ([.ref (ad 0)] : List Value).toArray meth c := ⟨B.exec, B.bytes, hml, findClass_of_methodNamed B.named, atoms_spec (ws := wsX10_which) B.pre, B.returns, B.notSynchronized⟩
  have hl := lv_entry ([.ref (ad 0)]) (n := 1) (Nat.le_of_ble_eq_true rfl)
  rw [lg_entry_eq]
  generalize (lg_sl ([.ref (ad 0)]) ++ List.replicate (1 - (lg_sl ([.ref (ad 0)])).length) Slot.unset).toArray = ls at hl ⊢
  have hl : lv_has ls 1 [(0, .ref (ad 0))] := hl
  exact w_X10_which_e hi   C0 hK Q (R_X10_which  Q) (y_X10_which hi   C0 hK Q)  s0 hv hP va_S.rf hl
