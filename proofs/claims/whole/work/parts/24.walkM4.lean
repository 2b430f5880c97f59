def lay_X11_seen (ad : Nat → Nat) (a1 : Int32) (a2 : Int32) : Nat → List Int32 → List Int64 → Option (List (Nat × Value) × List Value) := fun P xs ys => match P, xs, ys with
  | 24, [], [] => some ([(0, .ref (ad 0))], [])
  | _, _, _ => none
set_option maxHeartbeats 4000000 in
set_option maxRecDepth 100000 in
theorem w_X11_seen_e {p : Program} {l : Launch} {e : Env} {s : State} {m : MethodId} {args : Array Value} {below : List Frame} {meth : Method} {c : Code} {dC : Nat → ClassId} {dI : Nat → Nat → Nat} {ad : Nat → Nat} {cA cZ : ClassId} (hi : Inj 12 ad) (a1 : Int32) (a2 : Int32)  (C0 : Cx cX11_seen RX11 wsX11_seen 3 (some .int) p s m args meth c) (hK : KK dC dI cA cZ s) (Q : Int32 → St → Prop) (Y : Nat → List Int32 → List Int64 → St → Prop) (hY : ∀ P xs ys σ, Y P xs ys σ → XX p l e ({ frames := 1, cells := 0, slots := 0, locals := 25 } : Room) s m args below meth c (dC, dI) 12 ad (celM ad cA cZ) 3 (ZI below args s (dC, dI) 12 ad (celM ad cA cZ) Q) (lay_X11_seen ad a1 a2) P xs ys σ)  (s0 : St) (hv : B_X11_seen_e a1 a2 Q Y  s0) {H : Heap} {locs : List Loc} {ls : Array Slot} (hP : va_P (dC, dI) vwCl (wd 12 ad (celM ad cA cZ) s0) H) (hS : va_S (AA 12 ad s.heap.size) s.heap H locs) (hl : lv_has ls 3 [(0, .ref (ad 0)), (1, .int a1), (2, .int a2)]) : W p l e ({ frames := 1, cells := 0, slots := 0, locals := 25 } : Room) s m args below meth c H locs 0 0 (ZI below args s (dC, dI) 12 ad (celM ad cA cZ) Q) (F0 m 0 ls []) := by
  obtain ⟨hx, hb, hml, hown, hts, hr, hlocks⟩ := C0
  have hD := wd_D (s := s) (cel := celM ad cA cZ) (σ := s0) hi
  unfold B_X11_seen_e at hv
  refine lv_iload_n hx hb dX11_seen_0 rfl (lv_at hl 1 rfl) ?_
  refine lv_i2l (v := a1.toInt64) hx hb dX11_seen_1 rfl ?_
  refine lv_lconst (v := 0) hx hb dX11_seen_2 (by decide) ?_
  refine lv_ldc2 (v := 60) hx hb hown (hts _ kX11_seen_1) dX11_seen_3 ?_
  refine r_ci (va_runS (As := [.long a1.toInt64, .long 0, .long 60]) (rest := []) ⟨hx, hb, hml, hown, hts⟩ (c_X11_in hi a1.toInt64 0 60 s0 _ hv H.size) (va_cwS 3 hts gX11_seen_X11_in rfl rfl rfl (by decide +kernel) ⟨Nat.le_of_ble_eq_true rfl, Nat.le_of_ble_eq_true rfl⟩) ⟨pre_blind, pre_of hP hK⟩ rfl rfl hl.1 rfl (lv_room (Nat.le_of_ble_eq_true rfl)) dX11_seen_6 ⟨Nat.zero_le _, Nat.zero_le _⟩) hS (fun r1 s1 H locs hv hP hS => ?_)
  obtain ⟨hz_r1, hv⟩ := hv
  have hD := wd_D (s := s) (cel := celM ad cA cZ) (σ := s1) hi
  refine lv_if_eq (tgt := 24) hx hb dX11_seen_9 (by decide) (fun c9 => ?_) (fun c9 => ?_)
  · have hv := hv.1 c9
    exact hY 24 [] [] s1 hv _ _ rfl H locs ls hP hS (lv_sub hl [0] rfl)
  · have hv := hv.2 c9
    refine lv_iload_n hx hb dX11_seen_12 rfl (lv_at hl 2 rfl) ?_
    refine lv_i2l (v := a2.toInt64) hx hb dX11_seen_13 rfl ?_
    refine lv_lconst (v := 0) hx hb dX11_seen_14 (by decide) ?_
    refine lv_ldc2 (v := 23) hx hb hown (hts _ kX11_seen_2) dX11_seen_15 ?_
    refine r_ci (va_runS (As := [.long a2.toInt64, .long 0, .long 23]) (rest := []) ⟨hx, hb, hml, hown, hts⟩ (c_X11_in hi a2.toInt64 0 23 s1 _ hv H.size) (va_cwS 3 hts gX11_seen_X11_in rfl rfl rfl (by decide +kernel) ⟨Nat.le_of_ble_eq_true rfl, Nat.le_of_ble_eq_true rfl⟩) ⟨pre_blind, pre_of hP hK⟩ rfl rfl hl.1 rfl (lv_room (Nat.le_of_ble_eq_true rfl)) dX11_seen_18 ⟨Nat.zero_le _, Nat.zero_le _⟩) hS (fun r2 s2 H locs hv hP hS => ?_)
    obtain ⟨hz_r2, hv⟩ := hv
    have hD := wd_D (s := s) (cel := celM ad cA cZ) (σ := s2) hi
    refine lv_if_ne (tgt := 31) hx hb dX11_seen_21 (by decide) (fun c21 => ?_) (fun c21 => ?_)
    · have hv := hv.1 c21
      refine lv_aload_n hx hb dX11_seen_31 rfl (lv_at hl 0 rfl) ?_
      refine r_get hx hb hts (iwX11_seen_X11) hown hK.1 hP 0 (by decide) (ceMo_0 (s2 0)) rfl 0 (by decide) (hts _ kX11_seen_3) (v := .ref (ad 1)) rfl dX11_seen_32 ?_
      refine lv_iconst (v := 2) hx hb dX11_seen_35 (by decide) ?_
      refine r_iald hx hb hK.1 hP 1 (by decide) (ceMo_1 (s2 1)) (vp_in_of_dec (by decide)) dX11_seen_36 ?_
      refine lv_iconst (v := 5) hx hb dX11_seen_37 (by decide) ?_
      refine lv_icmp_ne (tgt := 46) hx hb dX11_seen_38 (by decide) (fun c38 => ?_) (fun c38 => ?_)
      · have hv := hv.1 c38
        refine lv_aload_n hx hb dX11_seen_46 rfl (lv_at hl 0 rfl) ?_
        refine r_get hx hb hts (iwX11_seen_X11) hown hK.1 hP 0 (by decide) (ceMo_0 (s2 0)) rfl 0 (by decide) (hts _ kX11_seen_3) (v := .ref (ad 1)) rfl dX11_seen_47 ?_
        refine lv_bipush (v := 43) hx hb dX11_seen_50 (by decide) ?_
        refine lv_iconst (v := 2) hx hb dX11_seen_52 (by decide) ?_
        refine lv_aload_n hx hb dX11_seen_53 rfl (lv_at hl 0 rfl) ?_
        refine r_get hx hb hts (iwX11_seen_X11) hown hK.1 hP 0 (by decide) (ceMo_0 (s2 0)) rfl 0 (by decide) (hts _ kX11_seen_3) (v := .ref (ad 1)) rfl dX11_seen_54 ?_
        refine lv_iconst (v := 2) hx hb dX11_seen_57 (by decide) ?_
        refine r_iald hx hb hK.1 hP 1 (by decide) (ceMo_1 (s2 1)) (vp_in_of_dec (by decide)) dX11_seen_58 ?_
        refine lv_imul hx hb dX11_seen_59 ?_
        refine lv_iadd hx hb dX11_seen_60 ?_
        refine lv_iload_n hx hb dX11_seen_61 rfl (lv_at hl 1 rfl) ?_
        obtain ⟨hin, hv⟩ := hv
        refine r_iast hx hb hK.1 hP hD hS 1 (by decide) (ceMo_1 (s2 1)) (ceMo_1 _) hin dX11_seen_62 (fun H locs s3 es3 hP hD hS => ?_)
        have hv := hv s3 es3
        refine lv_aload_n hx hb dX11_seen_63 rfl (lv_at hl 0 rfl) ?_
        refine r_get hx hb hts (iwX11_seen_X11) hown hK.1 hP 0 (by decide) (ceMo_0 (s3 0)) rfl 0 (by decide) (hts _ kX11_seen_3) (v := .ref (ad 1)) rfl dX11_seen_64 ?_
        refine lv_bipush (v := 43) hx hb dX11_seen_67 (by decide) ?_
        refine lv_iconst (v := 2) hx hb dX11_seen_69 (by decide) ?_
        refine lv_aload_n hx hb dX11_seen_70 rfl (lv_at hl 0 rfl) ?_
        refine r_get hx hb hts (iwX11_seen_X11) hown hK.1 hP 0 (by decide) (ceMo_0 (s3 0)) rfl 0 (by decide) (hts _ kX11_seen_3) (v := .ref (ad 1)) rfl dX11_seen_71 ?_
        refine lv_iconst (v := 2) hx hb dX11_seen_74 (by decide) ?_
        refine r_iald hx hb hK.1 hP 1 (by decide) (ceMo_1 (s3 1)) (vp_in_of_dec (by decide)) dX11_seen_75 ?_
        refine lv_imul hx hb dX11_seen_76 ?_
        refine lv_iadd hx hb dX11_seen_77 ?_
        refine lv_iconst (v := 1) hx hb dX11_seen_78 (by decide) ?_
        refine lv_iadd hx hb dX11_seen_79 ?_
        refine lv_iload_n hx hb dX11_seen_80 rfl (lv_at hl 2 rfl) ?_
        obtain ⟨hin, hv⟩ := hv
        refine r_iast hx hb hK.1 hP hD hS 1 (by decide) (ceMo_1 (s3 1)) (ceMo_1 _) hin dX11_seen_81 (fun H locs s4 es4 hP hD hS => ?_)
        have hv := hv s4 es4
        refine lv_aload_n hx hb dX11_seen_82 rfl (lv_at hl 0 rfl) ?_
        refine r_get hx hb hts (iwX11_seen_X11) hown hK.1 hP 0 (by decide) (ceMo_0 (s4 0)) rfl 0 (by decide) (hts _ kX11_seen_3) (v := .ref (ad 1)) rfl dX11_seen_83 ?_
        refine lv_iconst (v := 2) hx hb dX11_seen_86 (by decide) ?_
        refine lv_dup2_11 hx hb dX11_seen_87 rfl rfl ?_
        refine r_iald hx hb hK.1 hP 1 (by decide) (ceMo_1 (s4 1)) (vp_in_of_dec (by decide)) dX11_seen_88 ?_
        refine lv_iconst (v := 1) hx hb dX11_seen_89 (by decide) ?_
        refine lv_iadd hx hb dX11_seen_90 ?_
        refine r_iast hx hb hK.1 hP hD hS 1 (by decide) (ceMo_1 (s4 1)) (ceMo_1 _) (vp_in_of_dec (by decide)) dX11_seen_91 (fun H locs s5 es5 hP hD hS => ?_)
        have hv := hv s5 es5
        refine lv_aload_n hx hb dX11_seen_92 rfl (lv_at hl 0 rfl) ?_
        refine r_get hx hb hts (iwX11_seen_X11) hown hK.1 hP 0 (by decide) (ceMo_0 (s5 0)) rfl 0 (by decide) (hts _ kX11_seen_3) (v := .ref (ad 1)) rfl dX11_seen_93 ?_
        refine lv_iconst (v := 2) hx hb dX11_seen_96 (by decide) ?_
        refine r_iald hx hb hK.1 hP 1 (by decide) (ceMo_1 (s5 1)) (vp_in_of_dec (by decide)) dX11_seen_97 ?_
        exact r_iret hx hb hr hlocks hv hP hS dX11_seen_98
      · have hv := hv.2 c38
        refine lv_aload_n hx hb dX11_seen_41 rfl (lv_at hl 0 rfl) ?_
        refine r_ci (va_runV (As := []) (rest := []) ⟨hx, hb, hml, hown, hts⟩ (c_X11_full hi  s2 _ hv H.size) (cwV 0 hts gX11_seen_X11_full rfl rfl rfl (by decide +kernel) ⟨Nat.le_of_ble_eq_true rfl, Nat.le_of_ble_eq_true rfl⟩) ⟨pre_blind, r_recv hK.1 hP 0 (by decide) (ceMo_0 (s2 0)) rfl, pre_of hP hK⟩ rfl rfl hl.1 rfl (lv_room (Nat.le_of_ble_eq_true rfl)) dX11_seen_42 ⟨Nat.zero_le _, Nat.zero_le _⟩) hS (fun r6 s6 H locs hv hP hS => ?_)
        have hD := wd_D (s := s) (cel := celM ad cA cZ) (σ := s6) hi
        exact r_iret hx hb hr hlocks hv hP hS dX11_seen_45
    · have hv := hv.2 c21
      exact hY 24 [] [] s2 hv _ _ rfl H locs ls hP hS (lv_sub hl [0] rfl)
set_option maxHeartbeats 4000000 in
set_option maxRecDepth 100000 in
theorem w_X11_seen_24 {p : Program} {l : Launch} {e : Env} {s : State} {m : MethodId} {args : Array Value} {below : List Frame} {meth : Method} {c : Code} {dC : Nat → ClassId} {dI : Nat → Nat → Nat} {ad : Nat → Nat} {cA cZ : ClassId} (hi : Inj 12 ad) (a1 : Int32) (a2 : Int32)  (C0 : Cx cX11_seen RX11 wsX11_seen 3 (some .int) p s m args meth c) (hK : KK dC dI cA cZ s) (Q : Int32 → St → Prop) (Y : Nat → List Int32 → List Int64 → St → Prop) (hY : ∀ P xs ys σ, Y P xs ys σ → XX p l e ({ frames := 1, cells := 0, slots := 0, locals := 25 } : Room) s m args below meth c (dC, dI) 12 ad (celM ad cA cZ) 3 (ZI below args s (dC, dI) 12 ad (celM ad cA cZ) Q) (lay_X11_seen ad a1 a2) P xs ys σ)  (s0 : St) (hv : B_X11_seen_24 a1 a2 Q Y  s0) {H : Heap} {locs : List Loc} {ls : Array Slot} (hP : va_P (dC, dI) vwCl (wd 12 ad (celM ad cA cZ) s0) H) (hS : va_S (AA 12 ad s.heap.size) s.heap H locs) (hl : lv_has ls 3 [(0, .ref (ad 0))]) : W p l e ({ frames := 1, cells := 0, slots := 0, locals := 25 } : Room) s m args below meth c H locs 0 0 (ZI below args s (dC, dI) 12 ad (celM ad cA cZ) Q) (F0 m 24 ls []) := by
  obtain ⟨hx, hb, hml, hown, hts, hr, hlocks⟩ := C0
  have hD := wd_D (s := s) (cel := celM ad cA cZ) (σ := s0) hi
  unfold B_X11_seen_24 at hv
  refine lv_aload_n hx hb dX11_seen_24 rfl (lv_at hl 0 rfl) ?_
  refine lv_bipush (v := (-2)) hx hb dX11_seen_25 (by decide) ?_
  refine r_ci (va_runV (As := [.int ((-2))]) (rest := []) ⟨hx, hb, hml, hown, hts⟩ (c_X11_bad hi ((-2)) s0 _ hv H.size) (cwV 1 hts gX11_seen_X11_bad rfl rfl rfl (by decide +kernel) ⟨Nat.le_of_ble_eq_true rfl, Nat.le_of_ble_eq_true rfl⟩) ⟨pre_blind, r_recv hK.1 hP 0 (by decide) (ceMo_0 (s0 0)) rfl, pre_of hP hK⟩ rfl rfl hl.1 rfl (lv_room (Nat.le_of_ble_eq_true rfl)) dX11_seen_27 ⟨Nat.zero_le _, Nat.zero_le _⟩) hS (fun r1 s1 H locs hv hP hS => ?_)
  have hD := wd_D (s := s) (cel := celM ad cA cZ) (σ := s1) hi
  exact r_iret hx hb hr hlocks hv hP hS dX11_seen_30
set_option maxHeartbeats 4000000 in
theorem y_X11_seen {p : Program} {l : Launch} {e : Env} {s : State} {m : MethodId} {args : Array Value} {below : List Frame} {meth : Method} {c : Code} {dC : Nat → ClassId} {dI : Nat → Nat → Nat} {ad : Nat → Nat} {cA cZ : ClassId} (hi : Inj 12 ad) (a1 : Int32) (a2 : Int32)  (C0 : Cx cX11_seen RX11 wsX11_seen 3 (some .int) p s m args meth c) (hK : KK dC dI cA cZ s) (Q : Int32 → St → Prop) : ∀ P xs ys σ, R_X11_seen a1 a2 Q P xs ys σ → XX p l e ({ frames := 1, cells := 0, slots := 0, locals := 25 } : Room) s m args below meth c (dC, dI) 12 ad (celM ad cA cZ) 3 (ZI below args s (dC, dI) 12 ad (celM ad cA cZ) Q) (lay_X11_seen ad a1 a2) P xs ys σ := by
  refine Fx.elim _ (fun P xs ys σ Y hY hB => ?_)
  rcases hB with ⟨rfl, rfl, rfl, hB⟩
  · intro lv st he H locs ls hP hS hl
    cases he
    exact w_X11_seen_24 hi a1 a2  C0 hK Q Y hY  σ hB hP hS hl
set_option maxHeartbeats 4000000 in
theorem c_X11_seen {l : Launch} {dC : Nat → ClassId} {dI : Nat → Nat → Nat} {ad : Nat → Nat} {cA cZ : ClassId} (hi : Inj 12 ad) (a1 : Int32) (a2 : Int32)  (s0 : St) (Q : Int32 → St → Prop) (hv : V_X11_seen a1 a2 s0 Q) (sz : Nat) : Met l yX11_seen wsX11_seen ({ frames := 1, cells := 0, slots := 0, locals := 25 } : Room) (va_Pc [.ref (ad 0), .int a1, .int a2] (PW dC dI ad cA cZ 12 (celM ad cA cZ) sz s0)) (va_Qi Q (fun u t => va_P (dC, dI) vwCl (wd 12 ad (celM ad cA cZ) u) t.heap) (AA 12 ad sz)) 0 0 (AA 12 ad sz) := by
  refine Met.ofW (cc := cX11_seen) (maxL := 3) (ret := (some .int)) (by decide) rfl ?_
  intro p e s m args below meth c s₁ B hml hv0
  obtain ⟨rfl, hsz, hP, hK⟩ := hv0
  subst hsz
  have C0 : Cx cX11_seen RX11 wsX11_seen 3 (some .int) p s m ([.ref (ad 0), .int a1, .int a2] : List Value).toArray meth c := ⟨B.exec, B.bytes, hml, findClass_of_methodNamed B.named, atoms_spec (ws := wsX11_seen) B.pre, B.returns, B.notSynchronized⟩
  have hl := lv_entry ([.ref (ad 0), .int a1, .int a2]) (n := 3) (Nat.le_of_ble_eq_true rfl)
  rw [lg_entry_eq]
  generalize (lg_sl ([.ref (ad 0), .int a1, .int a2]) ++ List.replicate (3 - (lg_sl ([.ref (ad 0), .int a1, .int a2])).length) Slot.unset).toArray = ls at hl ⊢
  have hl : lv_has ls 3 [(0, .ref (ad 0)), (1, .int a1), (2, .int a2)] := hl
  exact w_X11_seen_e hi a1 a2  C0 hK Q (R_X11_seen a1 a2 Q) (y_X11_seen hi a1 a2  C0 hK Q)  s0 hv hP va_S.rf hl
def lay_X11_seenOnes (ad : Nat → Nat)  : Nat → List Int32 → List Int64 → Option (List (Nat × Value) × List Value) := fun P xs ys => match P, xs, ys with
  | 11, [x1, x2], [] => some ([(0, .ref (ad 0)), (1, .int x1), (2, .int x2)], [])
  | 42, [x1, x2, x3], [] => some ([(0, .ref (ad 0)), (1, .int x1), (2, .int x2), (3, .int x3)], [])
  | _, _, _ => none
set_option maxHeartbeats 4000000 in
set_option maxRecDepth 100000 in
theorem w_X11_seenOnes_e {p : Program} {l : Launch} {e : Env} {s : State} {m : MethodId} {args : Array Value} {below : List Frame} {meth : Method} {c : Code} {dC : Nat → ClassId} {dI : Nat → Nat → Nat} {ad : Nat → Nat} {cA cZ : ClassId} (hi : Inj 12 ad)   (C0 : Cx cX11_seenOnes RX11 wsX11_seenOnes 4 (some .int) p s m args meth c) (hK : KK dC dI cA cZ s) (Q : Int32 → St → Prop) (Y : Nat → List Int32 → List Int64 → St → Prop) (hY : ∀ P xs ys σ, Y P xs ys σ → XX p l e ({ frames := 5, cells := 0, slots := 0, locals := 116 } : Room) s m args below meth c (dC, dI) 12 ad (celM ad cA cZ) 4 (ZI below args s (dC, dI) 12 ad (celM ad cA cZ) Q) (lay_X11_seenOnes ad ) P xs ys σ)  (s0 : St) (hv : B_X11_seenOnes_e  Q Y  s0) {H : Heap} {locs : List Loc} {ls : Array Slot} (hP : va_P (dC, dI) vwCl (wd 12 ad (celM ad cA cZ) s0) H) (hS : va_S (AA 12 ad s.heap.size) s.heap H locs) (hl : lv_has ls 4 [(0, .ref (ad 0))]) : W p l e ({ frames := 5, cells := 0, slots := 0, locals := 116 } : Room) s m args below meth c H locs 0 0 (ZI below args s (dC, dI) 12 ad (celM ad cA cZ) Q) (F0 m 0 ls []) := by
  obtain ⟨hx, hb, hml, hown, hts, hr, hlocks⟩ := C0
  have hD := wd_D (s := s) (cel := celM ad cA cZ) (σ := s0) hi
  unfold B_X11_seenOnes_e at hv
  refine lv_iconst (v := 1) hx hb dX11_seenOnes_0 (by decide) ?_
  refine lv_aload_n hx hb dX11_seenOnes_1 rfl (lv_at hl 0 rfl) ?_
  refine r_ci (va_runV (As := []) (rest := [.int 1]) ⟨hx, hb, hml, hown, hts⟩ (c_X11_many hi  s0 _ hv H.size) (cwV 0 hts gX11_seenOnes_X11_many rfl rfl rfl (by decide +kernel) ⟨Nat.le_of_ble_eq_true rfl, Nat.le_of_ble_eq_true rfl⟩) ⟨pre_blind, r_recv hK.1 hP 0 (by decide) (ceMo_0 (s0 0)) rfl, pre_of hP hK⟩ rfl rfl hl.1 rfl (lv_room (Nat.le_of_ble_eq_true rfl)) dX11_seenOnes_2 ⟨Nat.zero_le _, Nat.zero_le _⟩) hS (fun r1 s1 H locs hv hP hS => ?_)
  have hD := wd_D (s := s) (cel := celM ad cA cZ) (σ := s1) hi
  refine lv_ishl hx hb dX11_seenOnes_5 ?_
  refine lv_iconst (v := 1) hx hb dX11_seenOnes_6 (by decide) ?_
  refine lv_isub hx hb dX11_seenOnes_7 ?_
  refine lv_topi (fun v2 ev2 => ?_)
  have hv := hv v2 ev2
  refine lv_istore_n (lv' := [(1, .int v2), (0, .ref (ad 0))]) hx hb dX11_seenOnes_8 rfl hl (by decide) rfl (fun ls hl => ?_)
  refine lv_iconst (v := 0) hx hb dX11_seenOnes_9 (by decide) ?_
  refine lv_istore_n (lv' := [(2, .int 0), (1, .int v2), (0, .ref (ad 0))]) hx hb dX11_seenOnes_10 rfl hl (by decide) rfl (fun ls hl => ?_)
  exact hY 11 [v2, 0] [] s1 hv _ _ rfl H locs ls hP hS (lv_sub hl [2, 1, 0] rfl)
set_option maxHeartbeats 4000000 in
set_option maxRecDepth 100000 in
theorem w_X11_seenOnes_11 {p : Program} {l : Launch} {e : Env} {s : State} {m : MethodId} {args : Array Value} {below : List Frame} {meth : Method} {c : Code} {dC : Nat → ClassId} {dI : Nat → Nat → Nat} {ad : Nat → Nat} {cA cZ : ClassId} (hi : Inj 12 ad)   (C0 : Cx cX11_seenOnes RX11 wsX11_seenOnes 4 (some .int) p s m args meth c) (hK : KK dC dI cA cZ s) (Q : Int32 → St → Prop) (Y : Nat → List Int32 → List Int64 → St → Prop) (hY : ∀ P xs ys σ, Y P xs ys σ → XX p l e ({ frames := 5, cells := 0, slots := 0, locals := 116 } : Room) s m args below meth c (dC, dI) 12 ad (celM ad cA cZ) 4 (ZI below args s (dC, dI) 12 ad (celM ad cA cZ) Q) (lay_X11_seenOnes ad ) P xs ys σ) (x1 : Int32) (x2 : Int32) (s0 : St) (hv : B_X11_seenOnes_11  Q Y x1 x2 s0) {H : Heap} {locs : List Loc} {ls : Array Slot} (hP : va_P (dC, dI) vwCl (wd 12 ad (celM ad cA cZ) s0) H) (hS : va_S (AA 12 ad s.heap.size) s.heap H locs) (hl : lv_has ls 4 [(0, .ref (ad 0)), (1, .int x1), (2, .int x2)]) : W p l e ({ frames := 5, cells := 0, slots := 0, locals := 116 } : Room) s m args below meth c H locs 0 0 (ZI below args s (dC, dI) 12 ad (celM ad cA cZ) Q) (F0 m 11 ls []) := by
  obtain ⟨hx, hb, hml, hown, hts, hr, hlocks⟩ := C0
  have hD := wd_D (s := s) (cel := celM ad cA cZ) (σ := s0) hi
  unfold B_X11_seenOnes_11 at hv
  refine lv_iload_n hx hb dX11_seenOnes_11 rfl (lv_at hl 2 rfl) ?_
  refine lv_aload_n hx hb dX11_seenOnes_12 rfl (lv_at hl 0 rfl) ?_
  refine r_get hx hb hts (iwX11_seenOnes_X11) hown hK.1 hP 0 (by decide) (ceMo_0 (s0 0)) rfl 0 (by decide) (hts _ kX11_seenOnes_1) (v := .ref (ad 1)) rfl dX11_seenOnes_13 ?_
  refine lv_iconst (v := 2) hx hb dX11_seenOnes_16 (by decide) ?_
  refine r_iald hx hb hK.1 hP 1 (by decide) (ceMo_1 (s0 1)) (vp_in_of_dec (by decide)) dX11_seenOnes_17 ?_
  refine lv_icmp_ge (tgt := 99) hx hb dX11_seenOnes_18 (by decide) (fun c18 => ?_) (fun c18 => ?_)
  · have hv := hv.1 c18
    refine lv_iload_n hx hb dX11_seenOnes_99 rfl (lv_at hl 1 rfl) ?_
    exact r_iret hx hb hr hlocks hv hP hS dX11_seenOnes_100
  · have hv := hv.2 c18
    refine lv_aload_n hx hb dX11_seenOnes_21 rfl (lv_at hl 0 rfl) ?_
    refine r_cv (va_runV (As := []) (rest := []) ⟨hx, hb, hml, hown, hts⟩ (c_X11_layHand hi  s0 _ hv H.size) (cwV 0 hts gX11_seenOnes_X11_layHand rfl rfl rfl (by decide +kernel) ⟨Nat.le_of_ble_eq_true rfl, Nat.le_of_ble_eq_true rfl⟩) ⟨pre_blind, r_recv hK.1 hP 0 (by decide) (ceMo_0 (s0 0)) rfl, pre_of hP hK⟩ rfl rfl hl.1 rfl (lv_room (Nat.le_of_ble_eq_true rfl)) dX11_seenOnes_22 ⟨Nat.zero_le _, Nat.zero_le _⟩) hS (fun s1 H locs hv hP hS => ?_)
    have hD := wd_D (s := s) (cel := celM ad cA cZ) (σ := s1) hi
    refine lv_aload_n hx hb dX11_seenOnes_25 rfl (lv_at hl 0 rfl) ?_
    refine lv_aload_n hx hb dX11_seenOnes_26 rfl (lv_at hl 0 rfl) ?_
    refine r_get hx hb hts (iwX11_seenOnes_X11) hown hK.1 hP 0 (by decide) (ceMo_0 (s1 0)) rfl 0 (by decide) (hts _ kX11_seenOnes_1) (v := .ref (ad 1)) rfl dX11_seenOnes_27 ?_
    refine lv_bipush (v := 43) hx hb dX11_seenOnes_30 (by decide) ?_
    refine lv_iconst (v := 2) hx hb dX11_seenOnes_32 (by decide) ?_
    refine lv_iload_n hx hb dX11_seenOnes_33 rfl (lv_at hl 2 rfl) ?_
    refine lv_imul hx hb dX11_seenOnes_34 ?_
    refine lv_iadd hx hb dX11_seenOnes_35 ?_
    obtain ⟨hin, hv⟩ := hv
    refine r_iald hx hb hK.1 hP 1 (by decide) (ceMo_1 (s1 1)) hin dX11_seenOnes_36 ?_
    refine r_cv (va_runV (As := [.int (s1 1 (43 + (2 * x2)).toNatClampNeg)]) (rest := []) ⟨hx, hb, hml, hown, hts⟩ (c_X11_goAhead hi (s1 1 (43 + (2 * x2)).toNatClampNeg) s1 _ hv H.size) (cwV 1 hts gX11_seenOnes_X11_goAhead rfl rfl rfl (by decide +kernel) ⟨Nat.le_of_ble_eq_true rfl, Nat.le_of_ble_eq_true rfl⟩) ⟨pre_blind, r_recv hK.1 hP 0 (by decide) (ceMo_0 (s1 0)) rfl, pre_of hP hK⟩ rfl rfl hl.1 rfl (lv_room (Nat.le_of_ble_eq_true rfl)) dX11_seenOnes_37 ⟨Nat.zero_le _, Nat.zero_le _⟩) hS (fun s2 H locs hv hP hS => ?_)
    have hD := wd_D (s := s) (cel := celM ad cA cZ) (σ := s2) hi
    refine lv_iconst (v := 0) hx hb dX11_seenOnes_40 (by decide) ?_
    refine lv_istore_n (lv' := [(3, .int 0), (0, .ref (ad 0)), (1, .int x1), (2, .int x2)]) hx hb dX11_seenOnes_41 rfl hl (by decide) rfl (fun ls hl => ?_)
    exact hY 42 [x1, x2, 0] [] s2 hv _ _ rfl H locs ls hP hS (lv_sub hl [1, 2, 3, 0] rfl)
set_option maxHeartbeats 4000000 in
set_option maxRecDepth 100000 in
theorem w_X11_seenOnes_42 {p : Program} {l : Launch} {e : Env} {s : State} {m : MethodId} {args : Array Value} {below : List Frame} {meth : Method} {c : Code} {dC : Nat → ClassId} {dI : Nat → Nat → Nat} {ad : Nat → Nat} {cA cZ : ClassId} (hi : Inj 12 ad)   (C0 : Cx cX11_seenOnes RX11 wsX11_seenOnes 4 (some .int) p s m args meth c) (hK : KK dC dI cA cZ s) (Q : Int32 → St → Prop) (Y : Nat → List Int32 → List Int64 → St → Prop) (hY : ∀ P xs ys σ, Y P xs ys σ → XX p l e ({ frames := 5, cells := 0, slots := 0, locals := 116 } : Room) s m args below meth c (dC, dI) 12 ad (celM ad cA cZ) 4 (ZI below args s (dC, dI) 12 ad (celM ad cA cZ) Q) (lay_X11_seenOnes ad ) P xs ys σ) (x1 : Int32) (x2 : Int32) (x3 : Int32) (s0 : St) (hv : B_X11_seenOnes_42  Q Y x1 x2 x3 s0) {H : Heap} {locs : List Loc} {ls : Array Slot} (hP : va_P (dC, dI) vwCl (wd 12 ad (celM ad cA cZ) s0) H) (hS : va_S (AA 12 ad s.heap.size) s.heap H locs) (hl : lv_has ls 4 [(0, .ref (ad 0)), (1, .int x1), (2, .int x2), (3, .int x3)]) : W p l e ({ frames := 5, cells := 0, slots := 0, locals := 116 } : Room) s m args below meth c H locs 0 0 (ZI below args s (dC, dI) 12 ad (celM ad cA cZ) Q) (F0 m 42 ls []) := by
  obtain ⟨hx, hb, hml, hown, hts, hr, hlocks⟩ := C0
  have hD := wd_D (s := s) (cel := celM ad cA cZ) (σ := s0) hi
  unfold B_X11_seenOnes_42 at hv
  refine lv_iload_n hx hb dX11_seenOnes_42 rfl (lv_at hl 3 rfl) ?_
  refine lv_aload_n hx hb dX11_seenOnes_43 rfl (lv_at hl 0 rfl) ?_
  refine r_ci (va_runV (As := []) (rest := [.int x3]) ⟨hx, hb, hml, hown, hts⟩ (c_X11_many hi  s0 _ hv H.size) (cwV 0 hts gX11_seenOnes_X11_many rfl rfl rfl (by decide +kernel) ⟨Nat.le_of_ble_eq_true rfl, Nat.le_of_ble_eq_true rfl⟩) ⟨pre_blind, r_recv hK.1 hP 0 (by decide) (ceMo_0 (s0 0)) rfl, pre_of hP hK⟩ rfl rfl hl.1 rfl (lv_room (Nat.le_of_ble_eq_true rfl)) dX11_seenOnes_44 ⟨Nat.zero_le _, Nat.zero_le _⟩) hS (fun r1 s1 H locs hv hP hS => ?_)
  have hD := wd_D (s := s) (cel := celM ad cA cZ) (σ := s1) hi
  refine lv_icmp_ge (tgt := 93) hx hb dX11_seenOnes_47 (by decide) (fun c47 => ?_) (fun c47 => ?_)
  · have hv := hv.1 c47
    refine lv_iinc (v := x2 + 1) (lv' := [(2, .int (x2 + 1)), (0, .ref (ad 0)), (1, .int x1), (3, .int x3)]) hx hb dX11_seenOnes_93 hl (k := 2) rfl rfl (by decide) rfl (fun ls hl => ?_)
    refine lv_goto (tgt := 11) hx hb dX11_seenOnes_96 (by decide) ?_
    exact hY 11 [x1, x2 + 1] [] s1 hv _ _ rfl H locs ls hP hS (lv_sub hl [1, 2, 0] rfl)
  · have hv := hv.2 c47
    refine lv_iload_n hx hb dX11_seenOnes_50 rfl (lv_at hl 1 rfl) ?_
    refine lv_aload_n hx hb dX11_seenOnes_51 rfl (lv_at hl 0 rfl) ?_
    refine r_get hx hb hts (iwX11_seenOnes_X11) hown hK.1 hP 0 (by decide) (ceMo_0 (s1 0)) rfl 6 (by decide) (hts _ kX11_seenOnes_2) (v := .ref (ad 5)) rfl dX11_seenOnes_52 ?_
    refine lv_bipush (v := 6) hx hb dX11_seenOnes_55 (by decide) ?_
    refine lv_iload_n hx hb dX11_seenOnes_57 rfl (lv_at hl 3 rfl) ?_
    refine lv_iadd hx hb dX11_seenOnes_58 ?_
    obtain ⟨hin, hv⟩ := hv
    refine r_iald hx hb hK.1 hP 5 (by decide) (ceMo_5 (s1 5)) hin dX11_seenOnes_59 ?_
    refine lv_aload_n hx hb dX11_seenOnes_60 rfl (lv_at hl 0 rfl) ?_
    refine r_get hx hb hts (iwX11_seenOnes_X11) hown hK.1 hP 0 (by decide) (ceMo_0 (s1 0)) rfl 0 (by decide) (hts _ kX11_seenOnes_1) (v := .ref (ad 1)) rfl dX11_seenOnes_61 ?_
    refine lv_bipush (v := 43) hx hb dX11_seenOnes_64 (by decide) ?_
    refine lv_iconst (v := 2) hx hb dX11_seenOnes_66 (by decide) ?_
    refine lv_iload_n hx hb dX11_seenOnes_67 rfl (lv_at hl 2 rfl) ?_
    refine lv_imul hx hb dX11_seenOnes_68 ?_
    refine lv_iadd hx hb dX11_seenOnes_69 ?_
    refine lv_iconst (v := 1) hx hb dX11_seenOnes_70 (by decide) ?_
    refine lv_iadd hx hb dX11_seenOnes_71 ?_
    obtain ⟨hin, hv⟩ := hv
    refine r_iald hx hb hK.1 hP 1 (by decide) (ceMo_1 (s1 1)) hin dX11_seenOnes_72 ?_
    refine lv_icmp_ne (tgt := 80) hx hb dX11_seenOnes_73 (by decide) (fun c73 => ?_) (fun c73 => ?_)
    · have hv := hv.1 c73
      refine lv_iconst (v := 1) hx hb dX11_seenOnes_80 (by decide) ?_
      refine lv_iload_n hx hb dX11_seenOnes_81 rfl (lv_at hl 3 rfl) ?_
      refine lv_ishl hx hb dX11_seenOnes_82 ?_
      refine lv_iconst (v := (-1)) hx hb dX11_seenOnes_83 (by decide) ?_
      refine lv_ixor hx hb dX11_seenOnes_84 ?_
      refine lv_iand hx hb dX11_seenOnes_85 ?_
      refine lv_topi (fun v2 ev2 => ?_)
      have hv := hv v2 ev2
      refine lv_istore_n (lv' := [(1, .int v2), (0, .ref (ad 0)), (2, .int x2), (3, .int x3)]) hx hb dX11_seenOnes_86 rfl hl (by decide) rfl (fun ls hl => ?_)
      refine lv_iinc (v := x3 + 1) (lv' := [(3, .int (x3 + 1)), (1, .int v2), (0, .ref (ad 0)), (2, .int x2)]) hx hb dX11_seenOnes_87 hl (k := 3) rfl rfl (by decide) rfl (fun ls hl => ?_)
      refine lv_goto (tgt := 42) hx hb dX11_seenOnes_90 (by decide) ?_
      exact hY 42 [v2, x2, x3 + 1] [] s1 hv _ _ rfl H locs ls hP hS (lv_sub hl [2, 1, 3, 0] rfl)
    · have hv := hv.2 c73
      refine lv_iload_n hx hb dX11_seenOnes_76 rfl (lv_at hl 1 rfl) ?_
      refine lv_goto (tgt := 85) hx hb dX11_seenOnes_77 (by decide) ?_
      refine lv_iand hx hb dX11_seenOnes_85 ?_
      refine lv_istore_n (lv' := [(1, .int (x1 &&& x1)), (0, .ref (ad 0)), (2, .int x2), (3, .int x3)]) hx hb dX11_seenOnes_86 rfl hl (by decide) rfl (fun ls hl => ?_)
      refine lv_iinc (v := x3 + 1) (lv' := [(3, .int (x3 + 1)), (1, .int (x1 &&& x1)), (0, .ref (ad 0)), (2, .int x2)]) hx hb dX11_seenOnes_87 hl (k := 3) rfl rfl (by decide) rfl (fun ls hl => ?_)
      refine lv_goto (tgt := 42) hx hb dX11_seenOnes_90 (by decide) ?_
      exact hY 42 [x1 &&& x1, x2, x3 + 1] [] s1 hv _ _ rfl H locs ls hP hS (lv_sub hl [2, 1, 3, 0] rfl)
set_option maxHeartbeats 4000000 in
theorem y_X11_seenOnes {p : Program} {l : Launch} {e : Env} {s : State} {m : MethodId} {args : Array Value} {below : List Frame} {meth : Method} {c : Code} {dC : Nat → ClassId} {dI : Nat → Nat → Nat} {ad : Nat → Nat} {cA cZ : ClassId} (hi : Inj 12 ad)   (C0 : Cx cX11_seenOnes RX11 wsX11_seenOnes 4 (some .int) p s m args meth c) (hK : KK dC dI cA cZ s) (Q : Int32 → St → Prop) : ∀ P xs ys σ, R_X11_seenOnes  Q P xs ys σ → XX p l e ({ frames := 5, cells := 0, slots := 0, locals := 116 } : Room) s m args below meth c (dC, dI) 12 ad (celM ad cA cZ) 4 (ZI below args s (dC, dI) 12 ad (celM ad cA cZ) Q) (lay_X11_seenOnes ad ) P xs ys σ := by
  refine Fx.elim _ (fun P xs ys σ Y hY hB => ?_)
  rcases hB with ⟨rfl, x1, x2, rfl, rfl, hB⟩ | ⟨rfl, x1, x2, x3, rfl, rfl, hB⟩
  · intro lv st he H locs ls hP hS hl
    cases he
    exact w_X11_seenOnes_11 hi   C0 hK Q Y hY x1 x2 σ hB hP hS hl
  · intro lv st he H locs ls hP hS hl
    cases he
    exact w_X11_seenOnes_42 hi   C0 hK Q Y hY x1 x2 x3 σ hB hP hS hl
set_option maxHeartbeats 4000000 in
theorem c_X11_seenOnes {l : Launch} {dC : Nat → ClassId} {dI : Nat → Nat → Nat} {ad : Nat → Nat} {cA cZ : ClassId} (hi : Inj 12 ad)   (s0 : St) (Q : Int32 → St → Prop) (hv : V_X11_seenOnes  s0 Q) (sz : Nat) : Met l yX11_seenOnes wsX11_seenOnes ({ frames := 5, cells := 0, slots := 0, locals := 116 } : Room) (va_Pc [.ref (ad 0)] (PW dC dI ad cA cZ 12 (celM ad cA cZ) sz s0)) (va_Qi Q (fun u t => va_P (dC, dI) vwCl (wd 12 ad (celM ad cA cZ) u) t.heap) (AA 12 ad sz)) 0 0 (AA 12 ad sz) := by
  refine Met.ofW (cc := cX11_seenOnes) (maxL := 4) (ret := (some .int)) (by decide) rfl ?_
  intro p e s m args below meth c s₁ B hml hv0
  obtain ⟨rfl, hsz, hP, hK⟩ := hv0
  subst hsz
  have C0 : Cx cX11_seenOnes RX11 wsX11_seenOnes 4 (some .int) p s m ([.ref (ad 0)] : List Value).toArray meth c := ⟨B.exec, B.bytes, hml, findClass_of_methodNamed B.named, atoms_spec (ws := wsX11_seenOnes) B.pre, B.returns, B.notSynchronized⟩
  have hl := lv_entry ([.ref (ad 0)]) (n := 4) (Nat.le_of_ble_eq_true rfl)
  rw [lg_entry_eq]
  generalize (lg_sl ([.ref (ad 0)]) ++ List.replicate (4 - (lg_sl ([.ref (ad 0)])).length) Slot.unset).toArray = ls at hl ⊢
  have hl : lv_has ls 4 [(0, .ref (ad 0))] := hl
  exact w_X11_seenOnes_e hi   C0 hK Q (R_X11_seenOnes  Q) (y_X11_seenOnes hi   C0 hK Q)  s0 hv hP va_S.rf hl
def lay_X11_which (ad : Nat → Nat)  : Nat → List Int32 → List Int64 → Option (List (Nat × Value) × List Value) := fun P xs ys => match P, xs, ys with
  | _, _, _ => none
set_option maxHeartbeats 4000000 in
set_option maxRecDepth 100000 in
theorem w_X11_which_e {p : Program} {l : Launch} {e : Env} {s : State} {m : MethodId} {args : Array Value} {below : List Frame} {meth : Method} {c : Code} {dC : Nat → ClassId} {dI : Nat → Nat → Nat} {ad : Nat → Nat} {cA cZ : ClassId} (hi : Inj 12 ad)   (C0 : Cx cX11_which RX11 wsX11_which 1 (some .int) p s m args meth c) (hK : KK dC dI cA cZ s) (Q : Int32 → St → Prop) (Y : Nat → List Int32 → List Int64 → St → Prop) (hY : ∀ P xs ys σ, Y P xs ys σ → XX p l e ({ frames := 6, cells := 0, slots := 0, locals := 139 } : Room) s m args below meth c (dC, dI) 12 ad (celM ad cA cZ) 1 (ZI below args s (dC, dI) 12 ad (celM ad cA cZ) Q) (lay_X11_which ad ) P xs ys σ)  (s0 : St) (hv : B_X11_which_e  Q Y  s0) {H : Heap} {locs : List Loc} {ls : Array Slot} (hP : va_P (dC, dI) vwCl (wd 12 ad (celM ad cA cZ) s0) H) (hS : va_S (AA 12 ad s.heap.size) s.heap H locs) (hl : lv_has ls 1 [(0, .ref (ad 0))]) : W p l e ({ frames := 6, cells := 0, slots := 0, locals := 139 } : Room) s m args below meth c H locs 0 0 (ZI below args s (dC, dI) 12 ad (celM ad cA cZ) Q) (F0 m 0 ls []) := by
  obtain ⟨hx, hb, hml, hown, hts, hr, hlocks⟩ := C0
  have hD := wd_D (s := s) (cel := celM ad cA cZ) (σ := s0) hi
  unfold B_X11_which_e at hv
  refine lv_aload_n hx hb dX11_which_0 rfl (lv_at hl 0 rfl) ?_
  refine r_ci (va_runV (As := []) (rest := []) ⟨hx, hb, hml, hown, hts⟩ (c_X11_seenOnes hi  s0 _ hv H.size) (cwV 0 hts gX11_which_X11_seenOnes rfl rfl rfl (by decide +kernel) ⟨Nat.le_of_ble_eq_true rfl, Nat.le_of_ble_eq_true rfl⟩) ⟨pre_blind, r_recv hK.1 hP 0 (by decide) (ceMo_0 (s0 0)) rfl, pre_of hP hK⟩ rfl rfl hl.1 rfl (lv_room (Nat.le_of_ble_eq_true rfl)) dX11_which_1 ⟨Nat.zero_le _, Nat.zero_le _⟩) hS (fun r1 s1 H locs hv hP hS => ?_)
  have hD := wd_D (s := s) (cel := celM ad cA cZ) (σ := s1) hi
  exact r_iret hx hb hr hlocks hv hP hS dX11_which_4
set_option maxHeartbeats 4000000 in
theorem y_X11_which {p : Program} {l : Launch} {e : Env} {s : State} {m : MethodId} {args : Array Value} {below : List Frame} {meth : Method} {c : Code} {dC : Nat → ClassId} {dI : Nat → Nat → Nat} {ad : Nat → Nat} {cA cZ : ClassId} (hi : Inj 12 ad)   (C0 : Cx cX11_which RX11 wsX11_which 1 (some .int) p s m args meth c) (hK : KK dC dI cA cZ s) (Q : Int32 → St → Prop) : ∀ P xs ys σ, R_X11_which  Q P xs ys σ → XX p l e ({ frames := 6, cells := 0, slots := 0, locals := 139 } : Room) s m args below meth c (dC, dI) 12 ad (celM ad cA cZ) 1 (ZI below args s (dC, dI) 12 ad (celM ad cA cZ) Q) (lay_X11_which ad ) P xs ys σ := by
  refine Fx.elim _ (fun P xs ys σ Y hY hB => ?_)
  exact hB.elim
set_option maxHeartbeats 4000000 in
theorem c_X11_which {l : Launch} {dC : Nat → ClassId} {dI : Nat → Nat → Nat} {ad : Nat → Nat} {cA cZ : ClassId} (hi : Inj 12 ad)   (s0 : St) (Q : Int32 → St → Prop) (hv : V_X11_which  s0 Q) (sz : Nat) : Met l yX11_which wsX11_which ({ frames := 6, cells := 0, slots := 0, locals := 139 } : Room) (va_Pc [.ref (ad 0)] (PW dC dI ad cA cZ 12 (celM ad cA cZ) sz s0)) (va_Qi Q (fun u t => va_P (dC, dI) vwCl (wd 12 ad (celM ad cA cZ) u) t.heap) (AA 12 ad sz)) 0 0 (AA 12 ad sz) := by
  refine Met.ofW (cc := cX11_which) (maxL := 1) (ret := (some .int)) (by decide) rfl ?_
  intro p e s m args below meth c s₁ B hml hv0
  obtain ⟨rfl, hsz, hP, hK⟩ := hv0
  subst hsz
  have C0 : Cx cX11_which RX11 wsX11_which 1 (some .int) p s m ([.ref (ad 0)] : List Value).toArray meth c := ⟨B.exec, B.bytes, hml, findClass_of_methodNamed B.named, atoms_spec (ws := wsX11_which) B.pre, B.returns, B.notSynchronized⟩
  have hl := lv_entry ([.ref (ad 0)]) (n := 1) (Nat.le_of_ble_eq_true rfl)
  rw [lg_entry_eq]
  generalize (lg_sl ([.ref (ad 0)]) ++ List.replicate (1 - (lg_sl ([.ref (ad 0)])).length) Slot.unset).toArray = ls at hl ⊢
  have hl : lv_has ls 1 [(0, .ref (ad 0))] := hl
  exact w_X11_which_e hi   C0 hK Q (R_X11_which  Q) (y_X11_which hi   C0 hK Q)  s0 hv hP va_S.rf hl
def lay_X11_tell (ad : Nat → Nat)  : Nat → List Int32 → List Int64 → Option (List (Nat × Value) × List Value) := fun P xs ys => match P, xs, ys with
  | 17, [x1, x2, x3, x4], [] => some ([(0, .ref (ad 0)), (1, .int x1), (2, .int x2), (3, .int x3), (4, .int x4)], [])
  | 34, [x1, x2, x3, x4, x5, x6], [] => some ([(0, .ref (ad 0)), (1, .int x1), (2, .int x2), (3, .int x3), (4, .int x4), (5, .int x5), (6, .int x6)], [])
  | 49, [x1, x2, x3, x4, x5, x6, x7, x8], [] => some ([(0, .ref (ad 0)), (1, .int x1), (2, .int x2), (3, .int x3), (4, .int x4), (5, .int x5), (6, .int x6), (7, .int x7), (8, .int x8)], [])
  | 115, [x1, x2, x3, x4, x5, x6, x7], [] => some ([(0, .ref (ad 0)), (1, .int x1), (2, .int x2), (3, .int x3), (4, .int x4), (5, .int x5), (6, .int x6), (7, .int x7)], [])
  | 149, [x1, x3, x4, x5, t0], [] => some ([(0, .ref (ad 0)), (1, .int x1), (3, .int x3), (4, .int x4), (5, .int x5)], [.int t0])
  | 162, [x1, x2, x4, t0], [] => some ([(0, .ref (ad 0)), (1, .int x1), (2, .int x2), (4, .int x4)], [.int t0])
  | _, _, _ => none
set_option maxHeartbeats 4000000 in
set_option maxRecDepth 100000 in
theorem w_X11_tell_e {p : Program} {l : Launch} {e : Env} {s : State} {m : MethodId} {args : Array Value} {below : List Frame} {meth : Method} {c : Code} {dC : Nat → ClassId} {dI : Nat → Nat → Nat} {ad : Nat → Nat} {cA cZ : ClassId} (hi : Inj 12 ad)   (C0 : Cx cX11_tell RX11 wsX11_tell 9 (some .int) p s m args meth c) (hK : KK dC dI cA cZ s) (Q : Int32 → St → Prop) (Y : Nat → List Int32 → List Int64 → St → Prop) (hY : ∀ P xs ys σ, Y P xs ys σ → XX p l e ({ frames := 6, cells := 0, slots := 0, locals := 139 } : Room) s m args below meth c (dC, dI) 12 ad (celM ad cA cZ) 9 (ZI below args s (dC, dI) 12 ad (celM ad cA cZ) Q) (lay_X11_tell ad ) P xs ys σ)  (s0 : St) (hv : B_X11_tell_e  Q Y  s0) {H : Heap} {locs : List Loc} {ls : Array Slot} (hP : va_P (dC, dI) vwCl (wd 12 ad (celM ad cA cZ) s0) H) (hS : va_S (AA 12 ad s.heap.size) s.heap H locs) (hl : lv_has ls 9 [(0, .ref (ad 0))]) : W p l e ({ frames := 6, cells := 0, slots := 0, locals := 139 } : Room) s m args below meth c H locs 0 0 (ZI below args s (dC, dI) 12 ad (celM ad cA cZ) Q) (F0 m 0 ls []) := by
  obtain ⟨hx, hb, hml, hown, hts, hr, hlocks⟩ := C0
  have hD := wd_D (s := s) (cel := celM ad cA cZ) (σ := s0) hi
  unfold B_X11_tell_e at hv
  refine lv_aload_n hx hb dX11_tell_0 rfl (lv_at hl 0 rfl) ?_
  refine r_ci (va_runV (As := []) (rest := []) ⟨hx, hb, hml, hown, hts⟩ (c_X11_seenOnes hi  s0 _ hv H.size) (cwV 0 hts gX11_tell_X11_seenOnes rfl rfl rfl (by decide +kernel) ⟨Nat.le_of_ble_eq_true rfl, Nat.le_of_ble_eq_true rfl⟩) ⟨pre_blind, r_recv hK.1 hP 0 (by decide) (ceMo_0 (s0 0)) rfl, pre_of hP hK⟩ rfl rfl hl.1 rfl (lv_room (Nat.le_of_ble_eq_true rfl)) dX11_tell_1 ⟨Nat.zero_le _, Nat.zero_le _⟩) hS (fun r1 s1 H locs hv hP hS => ?_)
  have hD := wd_D (s := s) (cel := celM ad cA cZ) (σ := s1) hi
  refine lv_istore_n (lv' := [(1, .int r1), (0, .ref (ad 0))]) hx hb dX11_tell_4 rfl hl (by decide) rfl (fun ls hl => ?_)
  refine lv_iconst (v := (-1)) hx hb dX11_tell_5 (by decide) ?_
  refine lv_istore_n (lv' := [(2, .int ((-1))), (1, .int r1), (0, .ref (ad 0))]) hx hb dX11_tell_6 rfl hl (by decide) rfl (fun ls hl => ?_)
  refine lv_ldc (v := 1000000) hx hb hown (hts _ kX11_tell_1) dX11_tell_7 ?_
  refine lv_istore_n (lv' := [(3, .int 1000000), (2, .int ((-1))), (1, .int r1), (0, .ref (ad 0))]) hx hb dX11_tell_9 rfl hl (by decide) rfl (fun ls hl => ?_)
  refine lv_aload_n hx hb dX11_tell_10 rfl (lv_at hl 3 rfl) ?_
  refine r_cv (va_runV (As := []) (rest := []) ⟨hx, hb, hml, hown, hts⟩ (c_X11_layHand hi  s1 _ hv H.size) (cwV 0 hts gX11_tell_X11_layHand rfl rfl rfl (by decide +kernel) ⟨Nat.le_of_ble_eq_true rfl, Nat.le_of_ble_eq_true rfl⟩) ⟨pre_blind, r_recv hK.1 hP 0 (by decide) (ceMo_0 (s1 0)) rfl, pre_of hP hK⟩ rfl rfl hl.1 rfl (lv_room (Nat.le_of_ble_eq_true rfl)) dX11_tell_11 ⟨Nat.zero_le _, Nat.zero_le _⟩) hS (fun s2 H locs hv hP hS => ?_)
  have hD := wd_D (s := s) (cel := celM ad cA cZ) (σ := s2) hi
  refine lv_iconst (v := 0) hx hb dX11_tell_14 (by decide) ?_
  refine lv_istore (lv' := [(4, .int 0), (3, .int 1000000), (2, .int ((-1))), (1, .int r1), (0, .ref (ad 0))]) hx hb dX11_tell_15 hl (by decide) rfl (fun ls hl => ?_)
  exact hY 17 [r1, (-1), 1000000, 0] [] s2 hv _ _ rfl H locs ls hP hS (lv_sub hl [4, 3, 2, 1, 0] rfl)
set_option maxHeartbeats 4000000 in
set_option maxRecDepth 100000 in
theorem w_X11_tell_17 {p : Program} {l : Launch} {e : Env} {s : State} {m : MethodId} {args : Array Value} {below : List Frame} {meth : Method} {c : Code} {dC : Nat → ClassId} {dI : Nat → Nat → Nat} {ad : Nat → Nat} {cA cZ : ClassId} (hi : Inj 12 ad)   (C0 : Cx cX11_tell RX11 wsX11_tell 9 (some .int) p s m args meth c) (hK : KK dC dI cA cZ s) (Q : Int32 → St → Prop) (Y : Nat → List Int32 → List Int64 → St → Prop) (hY : ∀ P xs ys σ, Y P xs ys σ → XX p l e ({ frames := 6, cells := 0, slots := 0, locals := 139 } : Room) s m args below meth c (dC, dI) 12 ad (celM ad cA cZ) 9 (ZI below args s (dC, dI) 12 ad (celM ad cA cZ) Q) (lay_X11_tell ad ) P xs ys σ) (x1 : Int32) (x2 : Int32) (x3 : Int32) (x4 : Int32) (s0 : St) (hv : B_X11_tell_17  Q Y x1 x2 x3 x4 s0) {H : Heap} {locs : List Loc} {ls : Array Slot} (hP : va_P (dC, dI) vwCl (wd 12 ad (celM ad cA cZ) s0) H) (hS : va_S (AA 12 ad s.heap.size) s.heap H locs) (hl : lv_has ls 9 [(0, .ref (ad 0)), (1, .int x1), (2, .int x2), (3, .int x3), (4, .int x4)]) : W p l e ({ frames := 6, cells := 0, slots := 0, locals := 139 } : Room) s m args below meth c H locs 0 0 (ZI below args s (dC, dI) 12 ad (celM ad cA cZ) Q) (F0 m 17 ls []) := by
  obtain ⟨hx, hb, hml, hown, hts, hr, hlocks⟩ := C0
  have hD := wd_D (s := s) (cel := celM ad cA cZ) (σ := s0) hi
  unfold B_X11_tell_17 at hv
  refine lv_iload hx hb dX11_tell_17 (lv_at hl 4 rfl) ?_
  refine lv_bipush (v := 20) hx hb dX11_tell_19 (by decide) ?_
  refine lv_icmp_gt (tgt := 176) hx hb dX11_tell_21 (by decide) (fun c21 => ?_) (fun c21 => ?_)
  · have hv := hv.1 c21
    refine lv_iload_n hx hb dX11_tell_176 rfl (lv_at hl 2 rfl) ?_
    exact r_iret hx hb hr hlocks hv hP hS dX11_tell_177
  · have hv := hv.2 c21
    refine lv_iload_n hx hb dX11_tell_24 rfl (lv_at hl 1 rfl) ?_
    refine lv_if_eq (tgt := 176) hx hb dX11_tell_25 (by decide) (fun c25 => ?_) (fun c25 => ?_)
    · have hv := hv.1 c25
      refine lv_iload_n hx hb dX11_tell_176 rfl (lv_at hl 2 rfl) ?_
      exact r_iret hx hb hr hlocks hv hP hS dX11_tell_177
    · have hv := hv.2 c25
      refine lv_iconst (v := 0) hx hb dX11_tell_28 (by decide) ?_
      refine lv_istore (lv' := [(5, .int 0), (0, .ref (ad 0)), (1, .int x1), (2, .int x2), (3, .int x3), (4, .int x4)]) hx hb dX11_tell_29 hl (by decide) rfl (fun ls hl => ?_)
      refine lv_iconst (v := 0) hx hb dX11_tell_31 (by decide) ?_
      refine lv_istore (lv' := [(6, .int 0), (5, .int 0), (0, .ref (ad 0)), (1, .int x1), (2, .int x2), (3, .int x3), (4, .int x4)]) hx hb dX11_tell_32 hl (by decide) rfl (fun ls hl => ?_)
      exact hY 34 [x1, x2, x3, x4, 0, 0] [] s0 hv _ _ rfl H locs ls hP hS (lv_sub hl [2, 3, 4, 5, 6, 1, 0] rfl)
set_option maxHeartbeats 4000000 in
set_option maxRecDepth 100000 in
theorem w_X11_tell_34 {p : Program} {l : Launch} {e : Env} {s : State} {m : MethodId} {args : Array Value} {below : List Frame} {meth : Method} {c : Code} {dC : Nat → ClassId} {dI : Nat → Nat → Nat} {ad : Nat → Nat} {cA cZ : ClassId} (hi : Inj 12 ad)   (C0 : Cx cX11_tell RX11 wsX11_tell 9 (some .int) p s m args meth c) (hK : KK dC dI cA cZ s) (Q : Int32 → St → Prop) (Y : Nat → List Int32 → List Int64 → St → Prop) (hY : ∀ P xs ys σ, Y P xs ys σ → XX p l e ({ frames := 6, cells := 0, slots := 0, locals := 139 } : Room) s m args below meth c (dC, dI) 12 ad (celM ad cA cZ) 9 (ZI below args s (dC, dI) 12 ad (celM ad cA cZ) Q) (lay_X11_tell ad ) P xs ys σ) (x1 : Int32) (x2 : Int32) (x3 : Int32) (x4 : Int32) (x5 : Int32) (x6 : Int32) (s0 : St) (hv : B_X11_tell_34  Q Y x1 x2 x3 x4 x5 x6 s0) {H : Heap} {locs : List Loc} {ls : Array Slot} (hP : va_P (dC, dI) vwCl (wd 12 ad (celM ad cA cZ) s0) H) (hS : va_S (AA 12 ad s.heap.size) s.heap H locs) (hl : lv_has ls 9 [(0, .ref (ad 0)), (1, .int x1), (2, .int x2), (3, .int x3), (4, .int x4), (5, .int x5), (6, .int x6)]) : W p l e ({ frames := 6, cells := 0, slots := 0, locals := 139 } : Room) s m args below meth c H locs 0 0 (ZI below args s (dC, dI) 12 ad (celM ad cA cZ) Q) (F0 m 34 ls []) := by
  obtain ⟨hx, hb, hml, hown, hts, hr, hlocks⟩ := C0
  have hD := wd_D (s := s) (cel := celM ad cA cZ) (σ := s0) hi
  unfold B_X11_tell_34 at hv
  refine lv_iload hx hb dX11_tell_34 (lv_at hl 6 rfl) ?_
  refine lv_aload_n hx hb dX11_tell_36 rfl (lv_at hl 0 rfl) ?_
  refine r_ci (va_runV (As := []) (rest := [.int x6]) ⟨hx, hb, hml, hown, hts⟩ (c_X11_many hi  s0 _ hv H.size) (cwV 0 hts gX11_tell_X11_many rfl rfl rfl (by decide +kernel) ⟨Nat.le_of_ble_eq_true rfl, Nat.le_of_ble_eq_true rfl⟩) ⟨pre_blind, r_recv hK.1 hP 0 (by decide) (ceMo_0 (s0 0)) rfl, pre_of hP hK⟩ rfl rfl hl.1 rfl (lv_room (Nat.le_of_ble_eq_true rfl)) dX11_tell_37 ⟨Nat.zero_le _, Nat.zero_le _⟩) hS (fun r1 s1 H locs hv hP hS => ?_)
  have hD := wd_D (s := s) (cel := celM ad cA cZ) (σ := s1) hi
  refine lv_icmp_ge (tgt := 137) hx hb dX11_tell_40 (by decide) (fun c40 => ?_) (fun c40 => ?_)
  · have hv := hv.1 c40
    refine lv_iload hx hb dX11_tell_137 (lv_at hl 5 rfl) ?_
    refine lv_iload_n hx hb dX11_tell_139 rfl (lv_at hl 3 rfl) ?_
    refine lv_icmp_ge (tgt := 148) hx hb dX11_tell_140 (by decide) (fun c140 => ?_) (fun c140 => ?_)
    · have hv := hv.1 c140
      refine lv_iload_n hx hb dX11_tell_148 rfl (lv_at hl 2 rfl) ?_
      exact hY 149 [x1, x3, x4, x5, x2] [] s1 hv _ _ rfl H locs ls hP hS (lv_sub hl [0, 1, 3, 4, 5] rfl)
    · have hv := hv.2 c140
      refine lv_iload hx hb dX11_tell_143 (lv_at hl 4 rfl) ?_
      refine lv_goto (tgt := 149) hx hb dX11_tell_145 (by decide) ?_
      exact hY 149 [x1, x3, x4, x5, x4] [] s1 hv _ _ rfl H locs ls hP hS (lv_sub hl [0, 1, 3, 4, 5] rfl)
  · have hv := hv.2 c40
    refine lv_iconst (v := 0) hx hb dX11_tell_43 (by decide) ?_
    refine lv_istore (lv' := [(7, .int 0), (0, .ref (ad 0)), (1, .int x1), (2, .int x2), (3, .int x3), (4, .int x4), (5, .int x5), (6, .int x6)]) hx hb dX11_tell_44 hl (by decide) rfl (fun ls hl => ?_)
    refine lv_iconst (v := 0) hx hb dX11_tell_46 (by decide) ?_
    refine lv_istore (lv' := [(8, .int 0), (7, .int 0), (0, .ref (ad 0)), (1, .int x1), (2, .int x2), (3, .int x3), (4, .int x4), (5, .int x5), (6, .int x6)]) hx hb dX11_tell_47 hl (by decide) rfl (fun ls hl => ?_)
    exact hY 49 [x1, x2, x3, x4, x5, x6, 0, 0] [] s1 hv _ _ rfl H locs ls hP hS (lv_sub hl [2, 3, 4, 5, 6, 7, 8, 1, 0] rfl)
set_option maxHeartbeats 4000000 in
set_option maxRecDepth 100000 in
theorem w_X11_tell_49 {p : Program} {l : Launch} {e : Env} {s : State} {m : MethodId} {args : Array Value} {below : List Frame} {meth : Method} {c : Code} {dC : Nat → ClassId} {dI : Nat → Nat → Nat} {ad : Nat → Nat} {cA cZ : ClassId} (hi : Inj 12 ad)   (C0 : Cx cX11_tell RX11 wsX11_tell 9 (some .int) p s m args meth c) (hK : KK dC dI cA cZ s) (Q : Int32 → St → Prop) (Y : Nat → List Int32 → List Int64 → St → Prop) (hY : ∀ P xs ys σ, Y P xs ys σ → XX p l e ({ frames := 6, cells := 0, slots := 0, locals := 139 } : Room) s m args below meth c (dC, dI) 12 ad (celM ad cA cZ) 9 (ZI below args s (dC, dI) 12 ad (celM ad cA cZ) Q) (lay_X11_tell ad ) P xs ys σ) (x1 : Int32) (x2 : Int32) (x3 : Int32) (x4 : Int32) (x5 : Int32) (x6 : Int32) (x7 : Int32) (x8 : Int32) (s0 : St) (hv : B_X11_tell_49  Q Y x1 x2 x3 x4 x5 x6 x7 x8 s0) {H : Heap} {locs : List Loc} {ls : Array Slot} (hP : va_P (dC, dI) vwCl (wd 12 ad (celM ad cA cZ) s0) H) (hS : va_S (AA 12 ad s.heap.size) s.heap H locs) (hl : lv_has ls 9 [(0, .ref (ad 0)), (1, .int x1), (2, .int x2), (3, .int x3), (4, .int x4), (5, .int x5), (6, .int x6), (7, .int x7), (8, .int x8)]) : W p l e ({ frames := 6, cells := 0, slots := 0, locals := 139 } : Room) s m args below meth c H locs 0 0 (ZI below args s (dC, dI) 12 ad (celM ad cA cZ) Q) (F0 m 49 ls []) := by
  obtain ⟨hx, hb, hml, hown, hts, hr, hlocks⟩ := C0
  have hD := wd_D (s := s) (cel := celM ad cA cZ) (σ := s0) hi
  unfold B_X11_tell_49 at hv
  refine lv_iload hx hb dX11_tell_49 (lv_at hl 8 rfl) ?_
  refine lv_aload_n hx hb dX11_tell_51 rfl (lv_at hl 0 rfl) ?_
  refine r_ci (va_runV (As := []) (rest := [.int x8]) ⟨hx, hb, hml, hown, hts⟩ (c_X11_many hi  s0 _ hv H.size) (cwV 0 hts gX11_tell_X11_many rfl rfl rfl (by decide +kernel) ⟨Nat.le_of_ble_eq_true rfl, Nat.le_of_ble_eq_true rfl⟩) ⟨pre_blind, r_recv hK.1 hP 0 (by decide) (ceMo_0 (s0 0)) rfl, pre_of hP hK⟩ rfl rfl hl.1 rfl (lv_room (Nat.le_of_ble_eq_true rfl)) dX11_tell_52 ⟨Nat.zero_le _, Nat.zero_le _⟩) hS (fun r1 s1 H locs hv hP hS => ?_)
  have hD := wd_D (s := s) (cel := celM ad cA cZ) (σ := s1) hi
  refine lv_icmp_ge (tgt := 115) hx hb dX11_tell_55 (by decide) (fun c55 => ?_) (fun c55 => ?_)
  · have hv := hv.1 c55
    exact hY 115 [x1, x2, x3, x4, x5, x6, x7] [] s1 hv _ _ rfl H locs ls hP hS (lv_sub hl [0, 1, 2, 3, 4, 5, 6, 7] rfl)
  · have hv := hv.2 c55
    refine lv_iload_n hx hb dX11_tell_58 rfl (lv_at hl 1 rfl) ?_
    refine lv_iload hx hb dX11_tell_59 (lv_at hl 6 rfl) ?_
    refine r_ci (va_runS (As := [.int x1, .int x6]) (rest := []) ⟨hx, hb, hml, hown, hts⟩ (c_X11_has hi x1 x6 s1 _ hv H.size) (va_cwS 2 hts gX11_tell_X11_has rfl rfl rfl (by decide +kernel) ⟨Nat.le_of_ble_eq_true rfl, Nat.le_of_ble_eq_true rfl⟩) ⟨pre_blind, pre_of hP hK⟩ rfl rfl hl.1 rfl (lv_room (Nat.le_of_ble_eq_true rfl)) dX11_tell_61 ⟨Nat.zero_le _, Nat.zero_le _⟩) hS (fun r2 s2 H locs hv hP hS => ?_)
    obtain ⟨hz_r2, hv⟩ := hv
    have hD := wd_D (s := s) (cel := celM ad cA cZ) (σ := s2) hi
    refine lv_if_eq (tgt := 115) hx hb dX11_tell_64 (by decide) (fun c64 => ?_) (fun c64 => ?_)
    · have hv := hv.1 c64
      exact hY 115 [x1, x2, x3, x4, x5, x6, x7] [] s2 hv _ _ rfl H locs ls hP hS (lv_sub hl [0, 1, 2, 3, 4, 5, 6, 7] rfl)
    · have hv := hv.2 c64
      refine lv_iload hx hb dX11_tell_67 (lv_at hl 7 rfl) ?_
      refine lv_iload_n hx hb dX11_tell_69 rfl (lv_at hl 1 rfl) ?_
      refine lv_iload hx hb dX11_tell_70 (lv_at hl 8 rfl) ?_
      refine r_ci (va_runS (As := [.int x1, .int x8]) (rest := [.int x7]) ⟨hx, hb, hml, hown, hts⟩ (c_X11_has hi x1 x8 s2 _ hv H.size) (va_cwS 2 hts gX11_tell_X11_has rfl rfl rfl (by decide +kernel) ⟨Nat.le_of_ble_eq_true rfl, Nat.le_of_ble_eq_true rfl⟩) ⟨pre_blind, pre_of hP hK⟩ rfl rfl hl.1 rfl (lv_room (Nat.le_of_ble_eq_true rfl)) dX11_tell_72 ⟨Nat.zero_le _, Nat.zero_le _⟩) hS (fun r3 s3 H locs hv hP hS => ?_)
      obtain ⟨hz_r3, hv⟩ := hv
      have hD := wd_D (s := s) (cel := celM ad cA cZ) (σ := s3) hi
      refine lv_if_eq (tgt := 105) hx hb dX11_tell_75 (by decide) (fun c75 => ?_) (fun c75 => ?_)
      · have hv := hv.1 c75
        refine lv_iconst (v := 0) hx hb dX11_tell_105 (by decide) ?_
        refine lv_iadd hx hb dX11_tell_106 ?_
        refine lv_istore (lv' := [(7, .int (x7 + 0)), (0, .ref (ad 0)), (1, .int x1), (2, .int x2), (3, .int x3), (4, .int x4), (5, .int x5), (6, .int x6), (8, .int x8)]) hx hb dX11_tell_107 hl (by decide) rfl (fun ls hl => ?_)
        refine lv_iinc (v := x8 + 1) (lv' := [(8, .int (x8 + 1)), (7, .int (x7 + 0)), (0, .ref (ad 0)), (1, .int x1), (2, .int x2), (3, .int x3), (4, .int x4), (5, .int x5), (6, .int x6)]) hx hb dX11_tell_109 hl (k := 8) rfl rfl (by decide) rfl (fun ls hl => ?_)
        refine lv_goto (tgt := 49) hx hb dX11_tell_112 (by decide) ?_
        exact hY 49 [x1, x2, x3, x4, x5, x6, x7 + 0, x8 + 1] [] s3 hv _ _ rfl H locs ls hP hS (lv_sub hl [2, 3, 4, 5, 6, 7, 8, 1, 0] rfl)
      · have hv := hv.2 c75
        refine lv_aload_n hx hb dX11_tell_78 rfl (lv_at hl 0 rfl) ?_
        refine r_get hx hb hts (iwX11_tell_X11) hown hK.1 hP 0 (by decide) (ceMo_0 (s3 0)) rfl 6 (by decide) (hts _ kX11_tell_2) (v := .ref (ad 5)) rfl dX11_tell_79 ?_
        refine lv_bipush (v := 6) hx hb dX11_tell_82 (by decide) ?_
        refine lv_iload hx hb dX11_tell_84 (lv_at hl 8 rfl) ?_
        refine lv_iadd hx hb dX11_tell_86 ?_
        obtain ⟨hin, hv⟩ := hv
        refine r_iald hx hb hK.1 hP 5 (by decide) (ceMo_5 (s3 5)) hin dX11_tell_87 ?_
        refine lv_aload_n hx hb dX11_tell_88 rfl (lv_at hl 0 rfl) ?_
        refine r_get hx hb hts (iwX11_tell_X11) hown hK.1 hP 0 (by decide) (ceMo_0 (s3 0)) rfl 6 (by decide) (hts _ kX11_tell_2) (v := .ref (ad 5)) rfl dX11_tell_89 ?_
        refine lv_bipush (v := 6) hx hb dX11_tell_92 (by decide) ?_
        refine lv_iload hx hb dX11_tell_94 (lv_at hl 6 rfl) ?_
        refine lv_iadd hx hb dX11_tell_96 ?_
        obtain ⟨hin, hv⟩ := hv
        refine r_iald hx hb hK.1 hP 5 (by decide) (ceMo_5 (s3 5)) hin dX11_tell_97 ?_
        refine lv_icmp_ne (tgt := 105) hx hb dX11_tell_98 (by decide) (fun c98 => ?_) (fun c98 => ?_)
        · have hv := hv.1 c98
          refine lv_iconst (v := 0) hx hb dX11_tell_105 (by decide) ?_
          refine lv_iadd hx hb dX11_tell_106 ?_
          refine lv_istore (lv' := [(7, .int (x7 + 0)), (0, .ref (ad 0)), (1, .int x1), (2, .int x2), (3, .int x3), (4, .int x4), (5, .int x5), (6, .int x6), (8, .int x8)]) hx hb dX11_tell_107 hl (by decide) rfl (fun ls hl => ?_)
          refine lv_iinc (v := x8 + 1) (lv' := [(8, .int (x8 + 1)), (7, .int (x7 + 0)), (0, .ref (ad 0)), (1, .int x1), (2, .int x2), (3, .int x3), (4, .int x4), (5, .int x5), (6, .int x6)]) hx hb dX11_tell_109 hl (k := 8) rfl rfl (by decide) rfl (fun ls hl => ?_)
          refine lv_goto (tgt := 49) hx hb dX11_tell_112 (by decide) ?_
          exact hY 49 [x1, x2, x3, x4, x5, x6, x7 + 0, x8 + 1] [] s3 hv _ _ rfl H locs ls hP hS (lv_sub hl [2, 3, 4, 5, 6, 7, 8, 1, 0] rfl)
        · have hv := hv.2 c98
          refine lv_iconst (v := 1) hx hb dX11_tell_101 (by decide) ?_
          refine lv_goto (tgt := 106) hx hb dX11_tell_102 (by decide) ?_
          refine lv_iadd hx hb dX11_tell_106 ?_
          refine lv_istore (lv' := [(7, .int (x7 + 1)), (0, .ref (ad 0)), (1, .int x1), (2, .int x2), (3, .int x3), (4, .int x4), (5, .int x5), (6, .int x6), (8, .int x8)]) hx hb dX11_tell_107 hl (by decide) rfl (fun ls hl => ?_)
          refine lv_iinc (v := x8 + 1) (lv' := [(8, .int (x8 + 1)), (7, .int (x7 + 1)), (0, .ref (ad 0)), (1, .int x1), (2, .int x2), (3, .int x3), (4, .int x4), (5, .int x5), (6, .int x6)]) hx hb dX11_tell_109 hl (k := 8) rfl rfl (by decide) rfl (fun ls hl => ?_)
          refine lv_goto (tgt := 49) hx hb dX11_tell_112 (by decide) ?_
          exact hY 49 [x1, x2, x3, x4, x5, x6, x7 + 1, x8 + 1] [] s3 hv _ _ rfl H locs ls hP hS (lv_sub hl [2, 3, 4, 5, 6, 7, 8, 1, 0] rfl)
set_option maxHeartbeats 4000000 in
set_option maxRecDepth 100000 in
theorem w_X11_tell_115 {p : Program} {l : Launch} {e : Env} {s : State} {m : MethodId} {args : Array Value} {below : List Frame} {meth : Method} {c : Code} {dC : Nat → ClassId} {dI : Nat → Nat → Nat} {ad : Nat → Nat} {cA cZ : ClassId} (hi : Inj 12 ad)   (C0 : Cx cX11_tell RX11 wsX11_tell 9 (some .int) p s m args meth c) (hK : KK dC dI cA cZ s) (Q : Int32 → St → Prop) (Y : Nat → List Int32 → List Int64 → St → Prop) (hY : ∀ P xs ys σ, Y P xs ys σ → XX p l e ({ frames := 6, cells := 0, slots := 0, locals := 139 } : Room) s m args below meth c (dC, dI) 12 ad (celM ad cA cZ) 9 (ZI below args s (dC, dI) 12 ad (celM ad cA cZ) Q) (lay_X11_tell ad ) P xs ys σ) (x1 : Int32) (x2 : Int32) (x3 : Int32) (x4 : Int32) (x5 : Int32) (x6 : Int32) (x7 : Int32) (s0 : St) (hv : B_X11_tell_115  Q Y x1 x2 x3 x4 x5 x6 x7 s0) {H : Heap} {locs : List Loc} {ls : Array Slot} (hP : va_P (dC, dI) vwCl (wd 12 ad (celM ad cA cZ) s0) H) (hS : va_S (AA 12 ad s.heap.size) s.heap H locs) (hl : lv_has ls 9 [(0, .ref (ad 0)), (1, .int x1), (2, .int x2), (3, .int x3), (4, .int x4), (5, .int x5), (6, .int x6), (7, .int x7)]) : W p l e ({ frames := 6, cells := 0, slots := 0, locals := 139 } : Room) s m args below meth c H locs 0 0 (ZI below args s (dC, dI) 12 ad (celM ad cA cZ) Q) (F0 m 115 ls []) := by
  obtain ⟨hx, hb, hml, hown, hts, hr, hlocks⟩ := C0
  have hD := wd_D (s := s) (cel := celM ad cA cZ) (σ := s0) hi
  unfold B_X11_tell_115 at hv
  refine lv_iload hx hb dX11_tell_115 (lv_at hl 7 rfl) ?_
  refine lv_iload hx hb dX11_tell_117 (lv_at hl 5 rfl) ?_
  refine lv_icmp_le (tgt := 127) hx hb dX11_tell_119 (by decide) (fun c119 => ?_) (fun c119 => ?_)
  · have hv := hv.1 c119
    refine lv_iload hx hb dX11_tell_127 (lv_at hl 5 rfl) ?_
    refine lv_istore (lv' := [(5, .int x5), (0, .ref (ad 0)), (1, .int x1), (2, .int x2), (3, .int x3), (4, .int x4), (6, .int x6), (7, .int x7)]) hx hb dX11_tell_129 hl (by decide) rfl (fun ls hl => ?_)
    refine lv_iinc (v := x6 + 1) (lv' := [(6, .int (x6 + 1)), (5, .int x5), (0, .ref (ad 0)), (1, .int x1), (2, .int x2), (3, .int x3), (4, .int x4), (7, .int x7)]) hx hb dX11_tell_131 hl (k := 6) rfl rfl (by decide) rfl (fun ls hl => ?_)
    refine lv_goto (tgt := 34) hx hb dX11_tell_134 (by decide) ?_
    exact hY 34 [x1, x2, x3, x4, x5, x6 + 1] [] s0 hv _ _ rfl H locs ls hP hS (lv_sub hl [2, 3, 4, 5, 6, 1, 0] rfl)
  · have hv := hv.2 c119
    refine lv_iload hx hb dX11_tell_122 (lv_at hl 7 rfl) ?_
    refine lv_goto (tgt := 129) hx hb dX11_tell_124 (by decide) ?_
    refine lv_istore (lv' := [(5, .int x7), (0, .ref (ad 0)), (1, .int x1), (2, .int x2), (3, .int x3), (4, .int x4), (6, .int x6), (7, .int x7)]) hx hb dX11_tell_129 hl (by decide) rfl (fun ls hl => ?_)
    refine lv_iinc (v := x6 + 1) (lv' := [(6, .int (x6 + 1)), (5, .int x7), (0, .ref (ad 0)), (1, .int x1), (2, .int x2), (3, .int x3), (4, .int x4), (7, .int x7)]) hx hb dX11_tell_131 hl (k := 6) rfl rfl (by decide) rfl (fun ls hl => ?_)
    refine lv_goto (tgt := 34) hx hb dX11_tell_134 (by decide) ?_
    exact hY 34 [x1, x2, x3, x4, x7, x6 + 1] [] s0 hv _ _ rfl H locs ls hP hS (lv_sub hl [2, 3, 4, 5, 6, 1, 0] rfl)
set_option maxHeartbeats 4000000 in
set_option maxRecDepth 100000 in
theorem w_X11_tell_149 {p : Program} {l : Launch} {e : Env} {s : State} {m : MethodId} {args : Array Value} {below : List Frame} {meth : Method} {c : Code} {dC : Nat → ClassId} {dI : Nat → Nat → Nat} {ad : Nat → Nat} {cA cZ : ClassId} (hi : Inj 12 ad)   (C0 : Cx cX11_tell RX11 wsX11_tell 9 (some .int) p s m args meth c) (hK : KK dC dI cA cZ s) (Q : Int32 → St → Prop) (Y : Nat → List Int32 → List Int64 → St → Prop) (hY : ∀ P xs ys σ, Y P xs ys σ → XX p l e ({ frames := 6, cells := 0, slots := 0, locals := 139 } : Room) s m args below meth c (dC, dI) 12 ad (celM ad cA cZ) 9 (ZI below args s (dC, dI) 12 ad (celM ad cA cZ) Q) (lay_X11_tell ad ) P xs ys σ) (x1 : Int32) (x3 : Int32) (x4 : Int32) (x5 : Int32) (t0 : Int32) (s0 : St) (hv : B_X11_tell_149  Q Y x1 x3 x4 x5 t0 s0) {H : Heap} {locs : List Loc} {ls : Array Slot} (hP : va_P (dC, dI) vwCl (wd 12 ad (celM ad cA cZ) s0) H) (hS : va_S (AA 12 ad s.heap.size) s.heap H locs) (hl : lv_has ls 9 [(0, .ref (ad 0)), (1, .int x1), (3, .int x3), (4, .int x4), (5, .int x5)]) : W p l e ({ frames := 6, cells := 0, slots := 0, locals := 139 } : Room) s m args below meth c H locs 0 0 (ZI below args s (dC, dI) 12 ad (celM ad cA cZ) Q) (F0 m 149 ls [.int t0]) := by
  obtain ⟨hx, hb, hml, hown, hts, hr, hlocks⟩ := C0
  have hD := wd_D (s := s) (cel := celM ad cA cZ) (σ := s0) hi
  unfold B_X11_tell_149 at hv
  refine lv_istore_n (lv' := [(2, .int t0), (0, .ref (ad 0)), (1, .int x1), (3, .int x3), (4, .int x4), (5, .int x5)]) hx hb dX11_tell_149 rfl hl (by decide) rfl (fun ls hl => ?_)
  refine lv_iload hx hb dX11_tell_150 (lv_at hl 5 rfl) ?_
  refine lv_iload_n hx hb dX11_tell_152 rfl (lv_at hl 3 rfl) ?_
  refine lv_icmp_ge (tgt := 161) hx hb dX11_tell_153 (by decide) (fun c153 => ?_) (fun c153 => ?_)
  · have hv := hv.1 c153
    refine lv_iload_n hx hb dX11_tell_161 rfl (lv_at hl 3 rfl) ?_
    exact hY 162 [x1, t0, x4, x3] [] s0 hv _ _ rfl H locs ls hP hS (lv_sub hl [1, 2, 0, 4] rfl)
  · have hv := hv.2 c153
    refine lv_iload hx hb dX11_tell_156 (lv_at hl 5 rfl) ?_
    refine lv_goto (tgt := 162) hx hb dX11_tell_158 (by decide) ?_
    exact hY 162 [x1, t0, x4, x5] [] s0 hv _ _ rfl H locs ls hP hS (lv_sub hl [1, 2, 0, 4] rfl)
set_option maxHeartbeats 4000000 in
set_option maxRecDepth 100000 in
theorem w_X11_tell_162 {p : Program} {l : Launch} {e : Env} {s : State} {m : MethodId} {args : Array Value} {below : List Frame} {meth : Method} {c : Code} {dC : Nat → ClassId} {dI : Nat → Nat → Nat} {ad : Nat → Nat} {cA cZ : ClassId} (hi : Inj 12 ad)   (C0 : Cx cX11_tell RX11 wsX11_tell 9 (some .int) p s m args meth c) (hK : KK dC dI cA cZ s) (Q : Int32 → St → Prop) (Y : Nat → List Int32 → List Int64 → St → Prop) (hY : ∀ P xs ys σ, Y P xs ys σ → XX p l e ({ frames := 6, cells := 0, slots := 0, locals := 139 } : Room) s m args below meth c (dC, dI) 12 ad (celM ad cA cZ) 9 (ZI below args s (dC, dI) 12 ad (celM ad cA cZ) Q) (lay_X11_tell ad ) P xs ys σ) (x1 : Int32) (x2 : Int32) (x4 : Int32) (t0 : Int32) (s0 : St) (hv : B_X11_tell_162  Q Y x1 x2 x4 t0 s0) {H : Heap} {locs : List Loc} {ls : Array Slot} (hP : va_P (dC, dI) vwCl (wd 12 ad (celM ad cA cZ) s0) H) (hS : va_S (AA 12 ad s.heap.size) s.heap H locs) (hl : lv_has ls 9 [(0, .ref (ad 0)), (1, .int x1), (2, .int x2), (4, .int x4)]) : W p l e ({ frames := 6, cells := 0, slots := 0, locals := 139 } : Room) s m args below meth c H locs 0 0 (ZI below args s (dC, dI) 12 ad (celM ad cA cZ) Q) (F0 m 162 ls [.int t0]) := by
  obtain ⟨hx, hb, hml, hown, hts, hr, hlocks⟩ := C0
  have hD := wd_D (s := s) (cel := celM ad cA cZ) (σ := s0) hi
  unfold B_X11_tell_162 at hv
  refine lv_istore_n (lv' := [(3, .int t0), (0, .ref (ad 0)), (1, .int x1), (2, .int x2), (4, .int x4)]) hx hb dX11_tell_162 rfl hl (by decide) rfl (fun ls hl => ?_)
  refine lv_aload_n hx hb dX11_tell_163 rfl (lv_at hl 1 rfl) ?_
  refine r_get hx hb hts (iwX11_tell_X11) hown hK.1 hP 0 (by decide) (ceMo_0 (s0 0)) rfl 6 (by decide) (hts _ kX11_tell_2) (v := .ref (ad 5)) rfl dX11_tell_164 ?_
  refine r_cv (va_runS (As := [.ref (ad 5)]) (rest := []) ⟨hx, hb, hml, hown, hts⟩ (c_X11_goHour hi 5 43 arM_5 s0 _ hv H.size) (va_cwS 1 hts gX11_tell_X11_goHour rfl rfl rfl (by decide +kernel) ⟨Nat.le_of_ble_eq_true rfl, Nat.le_of_ble_eq_true rfl⟩) ⟨pre_blind, pre_of hP hK⟩ rfl rfl hl.1 rfl (lv_room (Nat.le_of_ble_eq_true rfl)) dX11_tell_167 ⟨Nat.zero_le _, Nat.zero_le _⟩) hS (fun s1 H locs hv hP hS => ?_)
  have hD := wd_D (s := s) (cel := celM ad cA cZ) (σ := s1) hi
  refine lv_iinc (v := x4 + 1) (lv' := [(4, .int (x4 + 1)), (3, .int t0), (0, .ref (ad 0)), (1, .int x1), (2, .int x2)]) hx hb dX11_tell_170 hl (k := 4) rfl rfl (by decide) rfl (fun ls hl => ?_)
  refine lv_goto (tgt := 17) hx hb dX11_tell_173 (by decide) ?_
  exact hY 17 [x1, x2, t0, x4 + 1] [] s1 hv _ _ rfl H locs ls hP hS (lv_sub hl [2, 3, 4, 1, 0] rfl)
set_option maxHeartbeats 4000000 in
theorem y_X11_tell {p : Program} {l : Launch} {e : Env} {s : State} {m : MethodId} {args : Array Value} {below : List Frame} {meth : Method} {c : Code} {dC : Nat → ClassId} {dI : Nat → Nat → Nat} {ad : Nat → Nat} {cA cZ : ClassId} (hi : Inj 12 ad)   (C0 : Cx cX11_tell RX11 wsX11_tell 9 (some .int) p s m args meth c) (hK : KK dC dI cA cZ s) (Q : Int32 → St → Prop) : ∀ P xs ys σ, R_X11_tell  Q P xs ys σ → XX p l e ({ frames := 6, cells := 0, slots := 0, locals := 139 } : Room) s m args below meth c (dC, dI) 12 ad (celM ad cA cZ) 9 (ZI below args s (dC, dI) 12 ad (celM ad cA cZ) Q) (lay_X11_tell ad ) P xs ys σ := by
  refine Fx.elim _ (fun P xs ys σ Y hY hB => ?_)
  rcases hB with ⟨rfl, x1, x2, x3, x4, rfl, rfl, hB⟩ | ⟨rfl, x1, x2, x3, x4, x5, x6, rfl, rfl, hB⟩ | ⟨rfl, x1, x2, x3, x4, x5, x6, x7, x8, rfl, rfl, hB⟩ | ⟨rfl, x1, x2, x3, x4, x5, x6, x7, rfl, rfl, hB⟩ | ⟨rfl, x1, x3, x4, x5, t0, rfl, rfl, hB⟩ | ⟨rfl, x1, x2, x4, t0, rfl, rfl, hB⟩
  · intro lv st he H locs ls hP hS hl
    cases he
    exact w_X11_tell_17 hi   C0 hK Q Y hY x1 x2 x3 x4 σ hB hP hS hl
  · intro lv st he H locs ls hP hS hl
    cases he
    exact w_X11_tell_34 hi   C0 hK Q Y hY x1 x2 x3 x4 x5 x6 σ hB hP hS hl
  · intro lv st he H locs ls hP hS hl
    cases he
    exact w_X11_tell_49 hi   C0 hK Q Y hY x1 x2 x3 x4 x5 x6 x7 x8 σ hB hP hS hl
  · intro lv st he H locs ls hP hS hl
    cases he
    exact w_X11_tell_115 hi   C0 hK Q Y hY x1 x2 x3 x4 x5 x6 x7 σ hB hP hS hl
  · intro lv st he H locs ls hP hS hl
    cases he
    exact w_X11_tell_149 hi   C0 hK Q Y hY x1 x3 x4 x5 t0 σ hB hP hS hl
  · intro lv st he H locs ls hP hS hl
    cases he
    exact w_X11_tell_162 hi   C0 hK Q Y hY x1 x2 x4 t0 σ hB hP hS hl
set_option maxHeartbeats 4000000 in
theorem c_X11_tell {l : Launch} {dC : Nat → ClassId} {dI : Nat → Nat → Nat} {ad : Nat → Nat} {cA cZ : ClassId} (hi : Inj 12 ad)   (s0 : St) (Q : Int32 → St → Prop) (hv : V_X11_tell  s0 Q) (sz : Nat) : Met l yX11_tell wsX11_tell ({ frames := 6, cells := 0, slots := 0, locals := 139 } : Room) (va_Pc [.ref (ad 0)] (PW dC dI ad cA cZ 12 (celM ad cA cZ) sz s0)) (va_Qi Q (fun u t => va_P (dC, dI) vwCl (wd 12 ad (celM ad cA cZ) u) t.heap) (AA 12 ad sz)) 0 0 (AA 12 ad sz) := by
  refine Met.ofW (cc := cX11_tell) (maxL := 9) (ret := (some .int)) (by decide) rfl ?_
  intro p e s m args below meth c s₁ B hml hv0
  obtain ⟨rfl, hsz, hP, hK⟩ := hv0
  subst hsz
  have C0 : Cx cX11_tell RX11 wsX11_tell 9 (some .int) p s m ([.ref (ad 0)] : List Value).toArray meth c := ⟨B.exec, B.bytes, hml, findClass_of_methodNamed B.named, atoms_spec (ws := wsX11_tell) B.pre, B.returns, B.notSynchronized⟩
  have hl := lv_entry ([.ref (ad 0)]) (n := 9) (Nat.le_of_ble_eq_true rfl)
  rw [lg_entry_eq]
  generalize (lg_sl ([.ref (ad 0)]) ++ List.replicate (9 - (lg_sl ([.ref (ad 0)])).length) Slot.unset).toArray = ls at hl ⊢
  have hl : lv_has ls 9 [(0, .ref (ad 0))] := hl
  exact w_X11_tell_e hi   C0 hK Q (R_X11_tell  Q) (y_X11_tell hi   C0 hK Q)  s0 hv hP va_S.rf hl
def lay_X11_layFour (ad : Nat → Nat) (a1 : Int32) (a2 : Int32) (a3 : Int32) (a4 : Int32) (a5 : Int32) : Nat → List Int32 → List Int64 → Option (List (Nat × Value) × List Value) := fun P xs ys => match P, xs, ys with
  | _, _, _ => none
set_option maxHeartbeats 4000000 in
set_option maxRecDepth 100000 in
theorem w_X11_layFour_e {p : Program} {l : Launch} {e : Env} {s : State} {m : MethodId} {args : Array Value} {below : List Frame} {meth : Method} {c : Code} {dC : Nat → ClassId} {dI : Nat → Nat → Nat} {ad : Nat → Nat} {cA cZ : ClassId} (hi : Inj 12 ad) (a1 : Int32) (a2 : Int32) (a3 : Int32) (a4 : Int32) (a5 : Int32)  (C0 : Cx cX11_layFour RX11 wsX11_layFour 6 none p s m args meth c) (hK : KK dC dI cA cZ s) (Q : St → Prop) (Y : Nat → List Int32 → List Int64 → St → Prop) (hY : ∀ P xs ys σ, Y P xs ys σ → XX p l e ({ frames := 0, cells := 0, slots := 0, locals := 0 } : Room) s m args below meth c (dC, dI) 12 ad (celM ad cA cZ) 6 (ZV below args s (dC, dI) 12 ad (celM ad cA cZ) Q) (lay_X11_layFour ad a1 a2 a3 a4 a5) P xs ys σ)  (s0 : St) (hv : B_X11_layFour_e a1 a2 a3 a4 a5 Q Y  s0) {H : Heap} {locs : List Loc} {ls : Array Slot} (hP : va_P (dC, dI) vwCl (wd 12 ad (celM ad cA cZ) s0) H) (hS : va_S (AA 12 ad s.heap.size) s.heap H locs) (hl : lv_has ls 6 [(0, .ref (ad 0)), (1, .int a1), (2, .int a2), (3, .int a3), (4, .int a4), (5, .int a5)]) : W p l e ({ frames := 0, cells := 0, slots := 0, locals := 0 } : Room) s m args below meth c H locs 0 0 (ZV below args s (dC, dI) 12 ad (celM ad cA cZ) Q) (F0 m 0 ls []) := by
  obtain ⟨hx, hb, hml, hown, hts, hr, hlocks⟩ := C0
  have hD := wd_D (s := s) (cel := celM ad cA cZ) (σ := s0) hi
  unfold B_X11_layFour_e at hv
  refine lv_aload_n hx hb dX11_layFour_0 rfl (lv_at hl 0 rfl) ?_
  refine r_get hx hb hts (iwX11_layFour_X11) hown hK.1 hP 0 (by decide) (ceMo_0 (s0 0)) rfl 0 (by decide) (hts _ kX11_layFour_1) (v := .ref (ad 1)) rfl dX11_layFour_1 ?_
  refine lv_iload_n hx hb dX11_layFour_4 rfl (lv_at hl 1 rfl) ?_
  refine lv_iload_n hx hb dX11_layFour_5 rfl (lv_at hl 2 rfl) ?_
  obtain ⟨hin, hv⟩ := hv
  refine r_iast hx hb hK.1 hP hD hS 1 (by decide) (ceMo_1 (s0 1)) (ceMo_1 _) hin dX11_layFour_6 (fun H locs s1 es1 hP hD hS => ?_)
  have hv := hv s1 es1
  refine lv_aload_n hx hb dX11_layFour_7 rfl (lv_at hl 0 rfl) ?_
  refine r_get hx hb hts (iwX11_layFour_X11) hown hK.1 hP 0 (by decide) (ceMo_0 (s1 0)) rfl 0 (by decide) (hts _ kX11_layFour_1) (v := .ref (ad 1)) rfl dX11_layFour_8 ?_
  refine lv_iload_n hx hb dX11_layFour_11 rfl (lv_at hl 1 rfl) ?_
  refine lv_iconst (v := 1) hx hb dX11_layFour_12 (by decide) ?_
  refine lv_iadd hx hb dX11_layFour_13 ?_
  refine lv_iload_n hx hb dX11_layFour_14 rfl (lv_at hl 3 rfl) ?_
  obtain ⟨hin, hv⟩ := hv
  refine r_iast hx hb hK.1 hP hD hS 1 (by decide) (ceMo_1 (s1 1)) (ceMo_1 _) hin dX11_layFour_15 (fun H locs s2 es2 hP hD hS => ?_)
  have hv := hv s2 es2
  refine lv_aload_n hx hb dX11_layFour_16 rfl (lv_at hl 0 rfl) ?_
  refine r_get hx hb hts (iwX11_layFour_X11) hown hK.1 hP 0 (by decide) (ceMo_0 (s2 0)) rfl 0 (by decide) (hts _ kX11_layFour_1) (v := .ref (ad 1)) rfl dX11_layFour_17 ?_
  refine lv_iload_n hx hb dX11_layFour_20 rfl (lv_at hl 1 rfl) ?_
  refine lv_iconst (v := 2) hx hb dX11_layFour_21 (by decide) ?_
  refine lv_iadd hx hb dX11_layFour_22 ?_
  refine lv_iload hx hb dX11_layFour_23 (lv_at hl 4 rfl) ?_
  obtain ⟨hin, hv⟩ := hv
  refine r_iast hx hb hK.1 hP hD hS 1 (by decide) (ceMo_1 (s2 1)) (ceMo_1 _) hin dX11_layFour_25 (fun H locs s3 es3 hP hD hS => ?_)
  have hv := hv s3 es3
  refine lv_aload_n hx hb dX11_layFour_26 rfl (lv_at hl 0 rfl) ?_
  refine r_get hx hb hts (iwX11_layFour_X11) hown hK.1 hP 0 (by decide) (ceMo_0 (s3 0)) rfl 0 (by decide) (hts _ kX11_layFour_1) (v := .ref (ad 1)) rfl dX11_layFour_27 ?_
  refine lv_iload_n hx hb dX11_layFour_30 rfl (lv_at hl 1 rfl) ?_
  refine lv_iconst (v := 3) hx hb dX11_layFour_31 (by decide) ?_
  refine lv_iadd hx hb dX11_layFour_32 ?_
  refine lv_iload hx hb dX11_layFour_33 (lv_at hl 5 rfl) ?_
  obtain ⟨hin, hv⟩ := hv
  refine r_iast hx hb hK.1 hP hD hS 1 (by decide) (ceMo_1 (s3 1)) (ceMo_1 _) hin dX11_layFour_35 (fun H locs s4 es4 hP hD hS => ?_)
  have hv := hv s4 es4
  exact r_vret hx hb hr hlocks hv hP hS dX11_layFour_36
set_option maxHeartbeats 4000000 in
theorem y_X11_layFour {p : Program} {l : Launch} {e : Env} {s : State} {m : MethodId} {args : Array Value} {below : List Frame} {meth : Method} {c : Code} {dC : Nat → ClassId} {dI : Nat → Nat → Nat} {ad : Nat → Nat} {cA cZ : ClassId} (hi : Inj 12 ad) (a1 : Int32) (a2 : Int32) (a3 : Int32) (a4 : Int32) (a5 : Int32)  (C0 : Cx cX11_layFour RX11 wsX11_layFour 6 none p s m args meth c) (hK : KK dC dI cA cZ s) (Q : St → Prop) : ∀ P xs ys σ, R_X11_layFour a1 a2 a3 a4 a5 Q P xs ys σ → XX p l e ({ frames := 0, cells := 0, slots := 0, locals := 0 } : Room) s m args below meth c (dC, dI) 12 ad (celM ad cA cZ) 6 (ZV below args s (dC, dI) 12 ad (celM ad cA cZ) Q) (lay_X11_layFour ad a1 a2 a3 a4 a5) P xs ys σ := by
  refine Fx.elim _ (fun P xs ys σ Y hY hB => ?_)
  exact hB.elim
set_option maxHeartbeats 4000000 in
theorem c_X11_layFour {l : Launch} {dC : Nat → ClassId} {dI : Nat → Nat → Nat} {ad : Nat → Nat} {cA cZ : ClassId} (hi : Inj 12 ad) (a1 : Int32) (a2 : Int32) (a3 : Int32) (a4 : Int32) (a5 : Int32)  (s0 : St) (Q : St → Prop) (hv : V_X11_layFour a1 a2 a3 a4 a5 s0 Q) (sz : Nat) : Met l yX11_layFour wsX11_layFour ({ frames := 0, cells := 0, slots := 0, locals := 0 } : Room) (va_Pc [.ref (ad 0), .int a1, .int a2, .int a3, .int a4, .int a5] (PW dC dI ad cA cZ 12 (celM ad cA cZ) sz s0)) (va_Qv Q (fun u t => va_P (dC, dI) vwCl (wd 12 ad (celM ad cA cZ) u) t.heap) (AA 12 ad sz)) 0 0 (AA 12 ad sz) := by
  refine Met.ofW (cc := cX11_layFour) (maxL := 6) (ret := none) (by decide) rfl ?_
  intro p e s m args below meth c s₁ B hml hv0
  obtain ⟨rfl, hsz, hP, hK⟩ := hv0
  subst hsz
  have C0 : Cx cX11_layFour RX11 wsX11_layFour 6 none p s m ([.ref (ad 0), .int a1, .int a2, .int a3, .int a4, .int a5] : List Value).toArray meth c := ⟨B.exec, B.bytes, hml, findClass_of_methodNamed B.named, atoms_spec (ws := wsX11_layFour) B.pre, B.returns, B.notSynchronized⟩
  have hl := lv_entry ([.ref (ad 0), .int a1, .int a2, .int a3, .int a4, .int a5]) (n := 6) (Nat.le_of_ble_eq_true rfl)
  rw [lg_entry_eq]
  generalize (lg_sl ([.ref (ad 0), .int a1, .int a2, .int a3, .int a4, .int a5]) ++ List.replicate (6 - (lg_sl ([.ref (ad 0), .int a1, .int a2, .int a3, .int a4, .int a5])).length) Slot.unset).toArray = ls at hl ⊢
  have hl : lv_has ls 6 [(0, .ref (ad 0)), (1, .int a1), (2, .int a2), (3, .int a3), (4, .int a4), (5, .int a5)] := hl
  exact w_X11_layFour_e hi a1 a2 a3 a4 a5  C0 hK Q (R_X11_layFour a1 a2 a3 a4 a5 Q) (y_X11_layFour hi a1 a2 a3 a4 a5  C0 hK Q)  s0 hv hP va_S.rf hl
def lay_X11_note (ad : Nat → Nat) (a1 : Int32) (a2 : Int32) (a3 : Int32) (a4 : Int32) : Nat → List Int32 → List Int64 → Option (List (Nat × Value) × List Value) := fun P xs ys => match P, xs, ys with
  | 40, [], [] => some ([(0, .ref (ad 0))], [])
  | _, _, _ => none
set_option maxHeartbeats 4000000 in
set_option maxRecDepth 100000 in
theorem w_X11_note_e {p : Program} {l : Launch} {e : Env} {s : State} {m : MethodId} {args : Array Value} {below : List Frame} {meth : Method} {c : Code} {dC : Nat → ClassId} {dI : Nat → Nat → Nat} {ad : Nat → Nat} {cA cZ : ClassId} (hi : Inj 12 ad) (a1 : Int32) (a2 : Int32) (a3 : Int32) (a4 : Int32)  (C0 : Cx cX11_note RX11 wsX11_note 5 (some .int) p s m args meth c) (hK : KK dC dI cA cZ s) (Q : Int32 → St → Prop) (Y : Nat → List Int32 → List Int64 → St → Prop) (hY : ∀ P xs ys σ, Y P xs ys σ → XX p l e ({ frames := 2, cells := 0, slots := 0, locals := 46 } : Room) s m args below meth c (dC, dI) 12 ad (celM ad cA cZ) 5 (ZI below args s (dC, dI) 12 ad (celM ad cA cZ) Q) (lay_X11_note ad a1 a2 a3 a4) P xs ys σ)  (s0 : St) (hv : B_X11_note_e a1 a2 a3 a4 Q Y  s0) {H : Heap} {locs : List Loc} {ls : Array Slot} (hP : va_P (dC, dI) vwCl (wd 12 ad (celM ad cA cZ) s0) H) (hS : va_S (AA 12 ad s.heap.size) s.heap H locs) (hl : lv_has ls 5 [(0, .ref (ad 0)), (1, .int a1), (2, .int a2), (3, .int a3), (4, .int a4)]) : W p l e ({ frames := 2, cells := 0, slots := 0, locals := 46 } : Room) s m args below meth c H locs 0 0 (ZI below args s (dC, dI) 12 ad (celM ad cA cZ) Q) (F0 m 0 ls []) := by
  obtain ⟨hx, hb, hml, hown, hts, hr, hlocks⟩ := C0
  have hD := wd_D (s := s) (cel := celM ad cA cZ) (σ := s0) hi
  unfold B_X11_note_e at hv
  refine lv_aload_n hx hb dX11_note_0 rfl (lv_at hl 0 rfl) ?_
  refine lv_iload_n hx hb dX11_note_1 rfl (lv_at hl 1 rfl) ?_
  refine r_ci (va_runV (As := [.int a1]) (rest := []) ⟨hx, hb, hml, hown, hts⟩ (c_X11_isGlove hi a1 s0 _ hv H.size) (cwV 1 hts gX11_note_X11_isGlove rfl rfl rfl (by decide +kernel) ⟨Nat.le_of_ble_eq_true rfl, Nat.le_of_ble_eq_true rfl⟩) ⟨pre_blind, r_recv hK.1 hP 0 (by decide) (ceMo_0 (s0 0)) rfl, pre_of hP hK⟩ rfl rfl hl.1 rfl (lv_room (Nat.le_of_ble_eq_true rfl)) dX11_note_2 ⟨Nat.zero_le _, Nat.zero_le _⟩) hS (fun r1 s1 H locs hv hP hS => ?_)
  obtain ⟨hz_r1, hv⟩ := hv
  have hD := wd_D (s := s) (cel := celM ad cA cZ) (σ := s1) hi
  refine lv_if_eq (tgt := 40) hx hb dX11_note_5 (by decide) (fun c5 => ?_) (fun c5 => ?_)
  · have hv := hv.1 c5
    exact hY 40 [] [] s1 hv _ _ rfl H locs ls hP hS (lv_sub hl [0] rfl)
  · have hv := hv.2 c5
    refine lv_iload_n hx hb dX11_note_8 rfl (lv_at hl 2 rfl) ?_
    refine lv_i2l (v := a2.toInt64) hx hb dX11_note_9 rfl ?_
    refine lv_lconst (v := 0) hx hb dX11_note_10 (by decide) ?_
    refine lv_ldc2 (v := 99) hx hb hown (hts _ kX11_note_1) dX11_note_11 ?_
    refine r_ci (va_runS (As := [.long a2.toInt64, .long 0, .long 99]) (rest := []) ⟨hx, hb, hml, hown, hts⟩ (c_X11_in hi a2.toInt64 0 99 s1 _ hv H.size) (va_cwS 3 hts gX11_note_X11_in rfl rfl rfl (by decide +kernel) ⟨Nat.le_of_ble_eq_true rfl, Nat.le_of_ble_eq_true rfl⟩) ⟨pre_blind, pre_of hP hK⟩ rfl rfl hl.1 rfl (lv_room (Nat.le_of_ble_eq_true rfl)) dX11_note_14 ⟨Nat.zero_le _, Nat.zero_le _⟩) hS (fun r2 s2 H locs hv hP hS => ?_)
    obtain ⟨hz_r2, hv⟩ := hv
    have hD := wd_D (s := s) (cel := celM ad cA cZ) (σ := s2) hi
    refine lv_if_eq (tgt := 40) hx hb dX11_note_17 (by decide) (fun c17 => ?_) (fun c17 => ?_)
    · have hv := hv.1 c17
      exact hY 40 [] [] s2 hv _ _ rfl H locs ls hP hS (lv_sub hl [0] rfl)
    · have hv := hv.2 c17
      refine lv_iload_n hx hb dX11_note_20 rfl (lv_at hl 3 rfl) ?_
      refine r_ci (va_runS (As := [.int a3]) (rest := []) ⟨hx, hb, hml, hown, hts⟩ (c_X11_isWet hi a3 s2 _ hv H.size) (va_cwS 1 hts gX11_note_X11_isWet rfl rfl rfl (by decide +kernel) ⟨Nat.le_of_ble_eq_true rfl, Nat.le_of_ble_eq_true rfl⟩) ⟨pre_blind, pre_of hP hK⟩ rfl rfl hl.1 rfl (lv_room (Nat.le_of_ble_eq_true rfl)) dX11_note_21 ⟨Nat.zero_le _, Nat.zero_le _⟩) hS (fun r3 s3 H locs hv hP hS => ?_)
      obtain ⟨hz_r3, hv⟩ := hv
      have hD := wd_D (s := s) (cel := celM ad cA cZ) (σ := s3) hi
      refine lv_if_eq (tgt := 40) hx hb dX11_note_24 (by decide) (fun c24 => ?_) (fun c24 => ?_)
      · have hv := hv.1 c24
        exact hY 40 [] [] s3 hv _ _ rfl H locs ls hP hS (lv_sub hl [0] rfl)
      · have hv := hv.2 c24
        refine lv_iload hx hb dX11_note_27 (lv_at hl 4 rfl) ?_
        refine lv_i2l (v := a4.toInt64) hx hb dX11_note_29 rfl ?_
        refine lv_lconst (v := 0) hx hb dX11_note_30 (by decide) ?_
        refine lv_ldc2 (v := 20) hx hb hown (hts _ kX11_note_2) dX11_note_31 ?_
        refine r_ci (va_runS (As := [.long a4.toInt64, .long 0, .long 20]) (rest := []) ⟨hx, hb, hml, hown, hts⟩ (c_X11_in hi a4.toInt64 0 20 s3 _ hv H.size) (va_cwS 3 hts gX11_note_X11_in rfl rfl rfl (by decide +kernel) ⟨Nat.le_of_ble_eq_true rfl, Nat.le_of_ble_eq_true rfl⟩) ⟨pre_blind, pre_of hP hK⟩ rfl rfl hl.1 rfl (lv_room (Nat.le_of_ble_eq_true rfl)) dX11_note_34 ⟨Nat.zero_le _, Nat.zero_le _⟩) hS (fun r4 s4 H locs hv hP hS => ?_)
        obtain ⟨hz_r4, hv⟩ := hv
        have hD := wd_D (s := s) (cel := celM ad cA cZ) (σ := s4) hi
        refine lv_if_ne (tgt := 47) hx hb dX11_note_37 (by decide) (fun c37 => ?_) (fun c37 => ?_)
        · have hv := hv.1 c37
          refine lv_aload_n hx hb dX11_note_47 rfl (lv_at hl 0 rfl) ?_
          refine r_get hx hb hts (iwX11_note_X11) hown hK.1 hP 0 (by decide) (ceMo_0 (s4 0)) rfl 0 (by decide) (hts _ kX11_note_3) (v := .ref (ad 1)) rfl dX11_note_48 ?_
          refine lv_iconst (v := 3) hx hb dX11_note_51 (by decide) ?_
          refine r_iald hx hb hK.1 hP 1 (by decide) (ceMo_1 (s4 1)) (vp_in_of_dec (by decide)) dX11_note_52 ?_
          refine lv_bipush (v := 6) hx hb dX11_note_53 (by decide) ?_
          refine lv_icmp_ne (tgt := 63) hx hb dX11_note_55 (by decide) (fun c55 => ?_) (fun c55 => ?_)
          · have hv := hv.1 c55
            refine lv_aload_n hx hb dX11_note_63 rfl (lv_at hl 0 rfl) ?_
            refine lv_bipush (v := 53) hx hb dX11_note_64 (by decide) ?_
            refine lv_iconst (v := 4) hx hb dX11_note_66 (by decide) ?_
            refine lv_aload_n hx hb dX11_note_67 rfl (lv_at hl 0 rfl) ?_
            refine r_get hx hb hts (iwX11_note_X11) hown hK.1 hP 0 (by decide) (ceMo_0 (s4 0)) rfl 0 (by decide) (hts _ kX11_note_3) (v := .ref (ad 1)) rfl dX11_note_68 ?_
            refine lv_iconst (v := 3) hx hb dX11_note_71 (by decide) ?_
            refine r_iald hx hb hK.1 hP 1 (by decide) (ceMo_1 (s4 1)) (vp_in_of_dec (by decide)) dX11_note_72 ?_
            refine lv_imul hx hb dX11_note_73 ?_
            refine lv_iadd hx hb dX11_note_74 ?_
            refine lv_iload_n hx hb dX11_note_75 rfl (lv_at hl 1 rfl) ?_
            refine lv_iload_n hx hb dX11_note_76 rfl (lv_at hl 2 rfl) ?_
            refine lv_iload_n hx hb dX11_note_77 rfl (lv_at hl 3 rfl) ?_
            refine lv_iload hx hb dX11_note_78 (lv_at hl 4 rfl) ?_
            refine r_cv (va_runV (As := [.int (53 + (4 * (s4 1 3))), .int a1, .int a2, .int a3, .int a4]) (rest := []) ⟨hx, hb, hml, hown, hts⟩ (c_X11_layFour hi (53 + (4 * (s4 1 3))) a1 a2 a3 a4 s4 _ hv H.size) (cwV 5 hts gX11_note_X11_layFour rfl rfl rfl (by decide +kernel) ⟨Nat.le_of_ble_eq_true rfl, Nat.le_of_ble_eq_true rfl⟩) ⟨pre_blind, r_recv hK.1 hP 0 (by decide) (ceMo_0 (s4 0)) rfl, pre_of hP hK⟩ rfl rfl hl.1 rfl (lv_room (Nat.le_of_ble_eq_true rfl)) dX11_note_80 ⟨Nat.zero_le _, Nat.zero_le _⟩) hS (fun s5 H locs hv hP hS => ?_)
            have hD := wd_D (s := s) (cel := celM ad cA cZ) (σ := s5) hi
            refine lv_aload_n hx hb dX11_note_83 rfl (lv_at hl 0 rfl) ?_
            refine r_get hx hb hts (iwX11_note_X11) hown hK.1 hP 0 (by decide) (ceMo_0 (s5 0)) rfl 0 (by decide) (hts _ kX11_note_3) (v := .ref (ad 1)) rfl dX11_note_84 ?_
            refine lv_iconst (v := 3) hx hb dX11_note_87 (by decide) ?_
            refine lv_dup2_11 hx hb dX11_note_88 rfl rfl ?_
            refine r_iald hx hb hK.1 hP 1 (by decide) (ceMo_1 (s5 1)) (vp_in_of_dec (by decide)) dX11_note_89 ?_
            refine lv_iconst (v := 1) hx hb dX11_note_90 (by decide) ?_
            refine lv_iadd hx hb dX11_note_91 ?_
            refine r_iast hx hb hK.1 hP hD hS 1 (by decide) (ceMo_1 (s5 1)) (ceMo_1 _) (vp_in_of_dec (by decide)) dX11_note_92 (fun H locs s6 es6 hP hD hS => ?_)
            have hv := hv s6 es6
            refine lv_aload_n hx hb dX11_note_93 rfl (lv_at hl 0 rfl) ?_
            refine r_get hx hb hts (iwX11_note_X11) hown hK.1 hP 0 (by decide) (ceMo_0 (s6 0)) rfl 0 (by decide) (hts _ kX11_note_3) (v := .ref (ad 1)) rfl dX11_note_94 ?_
            refine lv_iconst (v := 3) hx hb dX11_note_97 (by decide) ?_
            refine r_iald hx hb hK.1 hP 1 (by decide) (ceMo_1 (s6 1)) (vp_in_of_dec (by decide)) dX11_note_98 ?_
            exact r_iret hx hb hr hlocks hv hP hS dX11_note_99
          · have hv := hv.2 c55
            refine lv_aload_n hx hb dX11_note_58 rfl (lv_at hl 0 rfl) ?_
            refine r_ci (va_runV (As := []) (rest := []) ⟨hx, hb, hml, hown, hts⟩ (c_X11_full hi  s4 _ hv H.size) (cwV 0 hts gX11_note_X11_full rfl rfl rfl (by decide +kernel) ⟨Nat.le_of_ble_eq_true rfl, Nat.le_of_ble_eq_true rfl⟩) ⟨pre_blind, r_recv hK.1 hP 0 (by decide) (ceMo_0 (s4 0)) rfl, pre_of hP hK⟩ rfl rfl hl.1 rfl (lv_room (Nat.le_of_ble_eq_true rfl)) dX11_note_59 ⟨Nat.zero_le _, Nat.zero_le _⟩) hS (fun r7 s7 H locs hv hP hS => ?_)
            have hD := wd_D (s := s) (cel := celM ad cA cZ) (σ := s7) hi
            exact r_iret hx hb hr hlocks hv hP hS dX11_note_62
        · have hv := hv.2 c37
          exact hY 40 [] [] s4 hv _ _ rfl H locs ls hP hS (lv_sub hl [0] rfl)
set_option maxHeartbeats 4000000 in
set_option maxRecDepth 100000 in
theorem w_X11_note_40 {p : Program} {l : Launch} {e : Env} {s : State} {m : MethodId} {args : Array Value} {below : List Frame} {meth : Method} {c : Code} {dC : Nat → ClassId} {dI : Nat → Nat → Nat} {ad : Nat → Nat} {cA cZ : ClassId} (hi : Inj 12 ad) (a1 : Int32) (a2 : Int32) (a3 : Int32) (a4 : Int32)  (C0 : Cx cX11_note RX11 wsX11_note 5 (some .int) p s m args meth c) (hK : KK dC dI cA cZ s) (Q : Int32 → St → Prop) (Y : Nat → List Int32 → List Int64 → St → Prop) (hY : ∀ P xs ys σ, Y P xs ys σ → XX p l e ({ frames := 2, cells := 0, slots := 0, locals := 46 } : Room) s m args below meth c (dC, dI) 12 ad (celM ad cA cZ) 5 (ZI below args s (dC, dI) 12 ad (celM ad cA cZ) Q) (lay_X11_note ad a1 a2 a3 a4) P xs ys σ)  (s0 : St) (hv : B_X11_note_40 a1 a2 a3 a4 Q Y  s0) {H : Heap} {locs : List Loc} {ls : Array Slot} (hP : va_P (dC, dI) vwCl (wd 12 ad (celM ad cA cZ) s0) H) (hS : va_S (AA 12 ad s.heap.size) s.heap H locs) (hl : lv_has ls 5 [(0, .ref (ad 0))]) : W p l e ({ frames := 2, cells := 0, slots := 0, locals := 46 } : Room) s m args below meth c H locs 0 0 (ZI below args s (dC, dI) 12 ad (celM ad cA cZ) Q) (F0 m 40 ls []) := by
  obtain ⟨hx, hb, hml, hown, hts, hr, hlocks⟩ := C0
  have hD := wd_D (s := s) (cel := celM ad cA cZ) (σ := s0) hi
  unfold B_X11_note_40 at hv
  refine lv_aload_n hx hb dX11_note_40 rfl (lv_at hl 0 rfl) ?_
  refine lv_bipush (v := (-2)) hx hb dX11_note_41 (by decide) ?_
  refine r_ci (va_runV (As := [.int ((-2))]) (rest := []) ⟨hx, hb, hml, hown, hts⟩ (c_X11_bad hi ((-2)) s0 _ hv H.size) (cwV 1 hts gX11_note_X11_bad rfl rfl rfl (by decide +kernel) ⟨Nat.le_of_ble_eq_true rfl, Nat.le_of_ble_eq_true rfl⟩) ⟨pre_blind, r_recv hK.1 hP 0 (by decide) (ceMo_0 (s0 0)) rfl, pre_of hP hK⟩ rfl rfl hl.1 rfl (lv_room (Nat.le_of_ble_eq_true rfl)) dX11_note_43 ⟨Nat.zero_le _, Nat.zero_le _⟩) hS (fun r1 s1 H locs hv hP hS => ?_)
  have hD := wd_D (s := s) (cel := celM ad cA cZ) (σ := s1) hi
  exact r_iret hx hb hr hlocks hv hP hS dX11_note_46
set_option maxHeartbeats 4000000 in
theorem y_X11_note {p : Program} {l : Launch} {e : Env} {s : State} {m : MethodId} {args : Array Value} {below : List Frame} {meth : Method} {c : Code} {dC : Nat → ClassId} {dI : Nat → Nat → Nat} {ad : Nat → Nat} {cA cZ : ClassId} (hi : Inj 12 ad) (a1 : Int32) (a2 : Int32) (a3 : Int32) (a4 : Int32)  (C0 : Cx cX11_note RX11 wsX11_note 5 (some .int) p s m args meth c) (hK : KK dC dI cA cZ s) (Q : Int32 → St → Prop) : ∀ P xs ys σ, R_X11_note a1 a2 a3 a4 Q P xs ys σ → XX p l e ({ frames := 2, cells := 0, slots := 0, locals := 46 } : Room) s m args below meth c (dC, dI) 12 ad (celM ad cA cZ) 5 (ZI below args s (dC, dI) 12 ad (celM ad cA cZ) Q) (lay_X11_note ad a1 a2 a3 a4) P xs ys σ := by
  refine Fx.elim _ (fun P xs ys σ Y hY hB => ?_)
  rcases hB with ⟨rfl, rfl, rfl, hB⟩
  · intro lv st he H locs ls hP hS hl
    cases he
    exact w_X11_note_40 hi a1 a2 a3 a4  C0 hK Q Y hY  σ hB hP hS hl
set_option maxHeartbeats 4000000 in
theorem c_X11_note {l : Launch} {dC : Nat → ClassId} {dI : Nat → Nat → Nat} {ad : Nat → Nat} {cA cZ : ClassId} (hi : Inj 12 ad) (a1 : Int32) (a2 : Int32) (a3 : Int32) (a4 : Int32)  (s0 : St) (Q : Int32 → St → Prop) (hv : V_X11_note a1 a2 a3 a4 s0 Q) (sz : Nat) : Met l yX11_note wsX11_note ({ frames := 2, cells := 0, slots := 0, locals := 46 } : Room) (va_Pc [.ref (ad 0), .int a1, .int a2, .int a3, .int a4] (PW dC dI ad cA cZ 12 (celM ad cA cZ) sz s0)) (va_Qi Q (fun u t => va_P (dC, dI) vwCl (wd 12 ad (celM ad cA cZ) u) t.heap) (AA 12 ad sz)) 0 0 (AA 12 ad sz) := by
  refine Met.ofW (cc := cX11_note) (maxL := 5) (ret := (some .int)) (by decide) rfl ?_
  intro p e s m args below meth c s₁ B hml hv0
  obtain ⟨rfl, hsz, hP, hK⟩ := hv0
  subst hsz
  have C0 : Cx cX11_note RX11 wsX11_note 5 (some .int) p s m ([.ref (ad 0), .int a1, .int a2, .int a3, .int a4] : List Value).toArray meth c := ⟨B.exec, B.bytes, hml, findClass_of_methodNamed B.named, atoms_spec (ws := wsX11_note) B.pre, B.returns, B.notSynchronized⟩
  have hl := lv_entry ([.ref (ad 0), .int a1, .int a2, .int a3, .int a4]) (n := 5) (Nat.le_of_ble_eq_true rfl)
  rw [lg_entry_eq]
  generalize (lg_sl ([.ref (ad 0), .int a1, .int a2, .int a3, .int a4]) ++ List.replicate (5 - (lg_sl ([.ref (ad 0), .int a1, .int a2, .int a3, .int a4])).length) Slot.unset).toArray = ls at hl ⊢
  have hl : lv_has ls 5 [(0, .ref (ad 0)), (1, .int a1), (2, .int a2), (3, .int a3), (4, .int a4)] := hl
  exact w_X11_note_e hi a1 a2 a3 a4  C0 hK Q (R_X11_note a1 a2 a3 a4 Q) (y_X11_note hi a1 a2 a3 a4  C0 hK Q)  s0 hv hP va_S.rf hl
def lay_X11_mark (ad : Nat → Nat) (a1 : Int32) (a2 : Int32) (a3 : Int32) (a4 : Int32) : Nat → List Int32 → List Int64 → Option (List (Nat × Value) × List Value) := fun P xs ys => match P, xs, ys with
  | 45, [], [] => some ([(0, .ref (ad 0))], [])
  | _, _, _ => none
set_option maxHeartbeats 4000000 in
set_option maxRecDepth 100000 in
theorem w_X11_mark_e {p : Program} {l : Launch} {e : Env} {s : State} {m : MethodId} {args : Array Value} {below : List Frame} {meth : Method} {c : Code} {dC : Nat → ClassId} {dI : Nat → Nat → Nat} {ad : Nat → Nat} {cA cZ : ClassId} (hi : Inj 12 ad) (a1 : Int32) (a2 : Int32) (a3 : Int32) (a4 : Int32)  (C0 : Cx cX11_mark RX11 wsX11_mark 5 (some .int) p s m args meth c) (hK : KK dC dI cA cZ s) (Q : Int32 → St → Prop) (Y : Nat → List Int32 → List Int64 → St → Prop) (hY : ∀ P xs ys σ, Y P xs ys σ → XX p l e ({ frames := 2, cells := 0, slots := 0, locals := 46 } : Room) s m args below meth c (dC, dI) 12 ad (celM ad cA cZ) 5 (ZI below args s (dC, dI) 12 ad (celM ad cA cZ) Q) (lay_X11_mark ad a1 a2 a3 a4) P xs ys σ)  (s0 : St) (hv : B_X11_mark_e a1 a2 a3 a4 Q Y  s0) {H : Heap} {locs : List Loc} {ls : Array Slot} (hP : va_P (dC, dI) vwCl (wd 12 ad (celM ad cA cZ) s0) H) (hS : va_S (AA 12 ad s.heap.size) s.heap H locs) (hl : lv_has ls 5 [(0, .ref (ad 0)), (1, .int a1), (2, .int a2), (3, .int a3), (4, .int a4)]) : W p l e ({ frames := 2, cells := 0, slots := 0, locals := 46 } : Room) s m args below meth c H locs 0 0 (ZI below args s (dC, dI) 12 ad (celM ad cA cZ) Q) (F0 m 0 ls []) := by
  obtain ⟨hx, hb, hml, hown, hts, hr, hlocks⟩ := C0
  have hD := wd_D (s := s) (cel := celM ad cA cZ) (σ := s0) hi
  unfold B_X11_mark_e at hv
  refine lv_aload_n hx hb dX11_mark_0 rfl (lv_at hl 0 rfl) ?_
  refine lv_iload_n hx hb dX11_mark_1 rfl (lv_at hl 1 rfl) ?_
  refine r_ci (va_runV (As := [.int a1]) (rest := []) ⟨hx, hb, hml, hown, hts⟩ (c_X11_isCrossing hi a1 s0 _ hv H.size) (cwV 1 hts gX11_mark_X11_isCrossing rfl rfl rfl (by decide +kernel) ⟨Nat.le_of_ble_eq_true rfl, Nat.le_of_ble_eq_true rfl⟩) ⟨pre_blind, r_recv hK.1 hP 0 (by decide) (ceMo_0 (s0 0)) rfl, pre_of hP hK⟩ rfl rfl hl.1 rfl (lv_room (Nat.le_of_ble_eq_true rfl)) dX11_mark_2 ⟨Nat.zero_le _, Nat.zero_le _⟩) hS (fun r1 s1 H locs hv hP hS => ?_)
  obtain ⟨hz_r1, hv⟩ := hv
  have hD := wd_D (s := s) (cel := celM ad cA cZ) (σ := s1) hi
  refine lv_if_eq (tgt := 45) hx hb dX11_mark_5 (by decide) (fun c5 => ?_) (fun c5 => ?_)
  · have hv := hv.1 c5
    exact hY 45 [] [] s1 hv _ _ rfl H locs ls hP hS (lv_sub hl [0] rfl)
  · have hv := hv.2 c5
    refine lv_iload_n hx hb dX11_mark_8 rfl (lv_at hl 2 rfl) ?_
    refine lv_i2l (v := a2.toInt64) hx hb dX11_mark_9 rfl ?_
    refine lv_lconst (v := 0) hx hb dX11_mark_10 (by decide) ?_
    refine lv_ldc2 (v := 99) hx hb hown (hts _ kX11_mark_1) dX11_mark_11 ?_
    refine r_ci (va_runS (As := [.long a2.toInt64, .long 0, .long 99]) (rest := []) ⟨hx, hb, hml, hown, hts⟩ (c_X11_in hi a2.toInt64 0 99 s1 _ hv H.size) (va_cwS 3 hts gX11_mark_X11_in rfl rfl rfl (by decide +kernel) ⟨Nat.le_of_ble_eq_true rfl, Nat.le_of_ble_eq_true rfl⟩) ⟨pre_blind, pre_of hP hK⟩ rfl rfl hl.1 rfl (lv_room (Nat.le_of_ble_eq_true rfl)) dX11_mark_14 ⟨Nat.zero_le _, Nat.zero_le _⟩) hS (fun r2 s2 H locs hv hP hS => ?_)
    obtain ⟨hz_r2, hv⟩ := hv
    have hD := wd_D (s := s) (cel := celM ad cA cZ) (σ := s2) hi
    refine lv_if_eq (tgt := 45) hx hb dX11_mark_17 (by decide) (fun c17 => ?_) (fun c17 => ?_)
    · have hv := hv.1 c17
      exact hY 45 [] [] s2 hv _ _ rfl H locs ls hP hS (lv_sub hl [0] rfl)
    · have hv := hv.2 c17
      refine lv_iload_n hx hb dX11_mark_20 rfl (lv_at hl 3 rfl) ?_
      refine lv_i2l (v := a3.toInt64) hx hb dX11_mark_21 rfl ?_
      refine lv_lconst (v := 1) hx hb dX11_mark_22 (by decide) ?_
      refine lv_ldc2 (v := 7) hx hb hown (hts _ kX11_mark_2) dX11_mark_23 ?_
      refine r_ci (va_runS (As := [.long a3.toInt64, .long 1, .long 7]) (rest := []) ⟨hx, hb, hml, hown, hts⟩ (c_X11_in hi a3.toInt64 1 7 s2 _ hv H.size) (va_cwS 3 hts gX11_mark_X11_in rfl rfl rfl (by decide +kernel) ⟨Nat.le_of_ble_eq_true rfl, Nat.le_of_ble_eq_true rfl⟩) ⟨pre_blind, pre_of hP hK⟩ rfl rfl hl.1 rfl (lv_room (Nat.le_of_ble_eq_true rfl)) dX11_mark_26 ⟨Nat.zero_le _, Nat.zero_le _⟩) hS (fun r3 s3 H locs hv hP hS => ?_)
      obtain ⟨hz_r3, hv⟩ := hv
      have hD := wd_D (s := s) (cel := celM ad cA cZ) (σ := s3) hi
      refine lv_if_eq (tgt := 45) hx hb dX11_mark_29 (by decide) (fun c29 => ?_) (fun c29 => ?_)
      · have hv := hv.1 c29
        exact hY 45 [] [] s3 hv _ _ rfl H locs ls hP hS (lv_sub hl [0] rfl)
      · have hv := hv.2 c29
        refine lv_iload hx hb dX11_mark_32 (lv_at hl 4 rfl) ?_
        refine lv_i2l (v := a4.toInt64) hx hb dX11_mark_34 rfl ?_
        refine lv_lconst (v := 0) hx hb dX11_mark_35 (by decide) ?_
        refine lv_ldc2 (v := 20) hx hb hown (hts _ kX11_mark_3) dX11_mark_36 ?_
        refine r_ci (va_runS (As := [.long a4.toInt64, .long 0, .long 20]) (rest := []) ⟨hx, hb, hml, hown, hts⟩ (c_X11_in hi a4.toInt64 0 20 s3 _ hv H.size) (va_cwS 3 hts gX11_mark_X11_in rfl rfl rfl (by decide +kernel) ⟨Nat.le_of_ble_eq_true rfl, Nat.le_of_ble_eq_true rfl⟩) ⟨pre_blind, pre_of hP hK⟩ rfl rfl hl.1 rfl (lv_room (Nat.le_of_ble_eq_true rfl)) dX11_mark_39 ⟨Nat.zero_le _, Nat.zero_le _⟩) hS (fun r4 s4 H locs hv hP hS => ?_)
        obtain ⟨hz_r4, hv⟩ := hv
        have hD := wd_D (s := s) (cel := celM ad cA cZ) (σ := s4) hi
        refine lv_if_ne (tgt := 52) hx hb dX11_mark_42 (by decide) (fun c42 => ?_) (fun c42 => ?_)
        · have hv := hv.1 c42
          refine lv_aload_n hx hb dX11_mark_52 rfl (lv_at hl 0 rfl) ?_
          refine r_get hx hb hts (iwX11_mark_X11) hown hK.1 hP 0 (by decide) (ceMo_0 (s4 0)) rfl 0 (by decide) (hts _ kX11_mark_4) (v := .ref (ad 1)) rfl dX11_mark_53 ?_
          refine lv_iconst (v := 4) hx hb dX11_mark_56 (by decide) ?_
          refine r_iald hx hb hK.1 hP 1 (by decide) (ceMo_1 (s4 1)) (vp_in_of_dec (by decide)) dX11_mark_57 ?_
          refine lv_bipush (v := 6) hx hb dX11_mark_58 (by decide) ?_
          refine lv_icmp_ne (tgt := 68) hx hb dX11_mark_60 (by decide) (fun c60 => ?_) (fun c60 => ?_)
          · have hv := hv.1 c60
            refine lv_aload_n hx hb dX11_mark_68 rfl (lv_at hl 0 rfl) ?_
            refine lv_bipush (v := 77) hx hb dX11_mark_69 (by decide) ?_
            refine lv_iconst (v := 4) hx hb dX11_mark_71 (by decide) ?_
            refine lv_aload_n hx hb dX11_mark_72 rfl (lv_at hl 0 rfl) ?_
            refine r_get hx hb hts (iwX11_mark_X11) hown hK.1 hP 0 (by decide) (ceMo_0 (s4 0)) rfl 0 (by decide) (hts _ kX11_mark_4) (v := .ref (ad 1)) rfl dX11_mark_73 ?_
            refine lv_iconst (v := 4) hx hb dX11_mark_76 (by decide) ?_
            refine r_iald hx hb hK.1 hP 1 (by decide) (ceMo_1 (s4 1)) (vp_in_of_dec (by decide)) dX11_mark_77 ?_
            refine lv_imul hx hb dX11_mark_78 ?_
            refine lv_iadd hx hb dX11_mark_79 ?_
            refine lv_iload_n hx hb dX11_mark_80 rfl (lv_at hl 1 rfl) ?_
            refine lv_iload_n hx hb dX11_mark_81 rfl (lv_at hl 2 rfl) ?_
            refine lv_iload_n hx hb dX11_mark_82 rfl (lv_at hl 3 rfl) ?_
            refine lv_iload hx hb dX11_mark_83 (lv_at hl 4 rfl) ?_
            refine r_cv (va_runV (As := [.int (77 + (4 * (s4 1 4))), .int a1, .int a2, .int a3, .int a4]) (rest := []) ⟨hx, hb, hml, hown, hts⟩ (c_X11_layFour hi (77 + (4 * (s4 1 4))) a1 a2 a3 a4 s4 _ hv H.size) (cwV 5 hts gX11_mark_X11_layFour rfl rfl rfl (by decide +kernel) ⟨Nat.le_of_ble_eq_true rfl, Nat.le_of_ble_eq_true rfl⟩) ⟨pre_blind, r_recv hK.1 hP 0 (by decide) (ceMo_0 (s4 0)) rfl, pre_of hP hK⟩ rfl rfl hl.1 rfl (lv_room (Nat.le_of_ble_eq_true rfl)) dX11_mark_85 ⟨Nat.zero_le _, Nat.zero_le _⟩) hS (fun s5 H locs hv hP hS => ?_)
            have hD := wd_D (s := s) (cel := celM ad cA cZ) (σ := s5) hi
            refine lv_aload_n hx hb dX11_mark_88 rfl (lv_at hl 0 rfl) ?_
            refine r_get hx hb hts (iwX11_mark_X11) hown hK.1 hP 0 (by decide) (ceMo_0 (s5 0)) rfl 0 (by decide) (hts _ kX11_mark_4) (v := .ref (ad 1)) rfl dX11_mark_89 ?_
            refine lv_iconst (v := 4) hx hb dX11_mark_92 (by decide) ?_
            refine lv_dup2_11 hx hb dX11_mark_93 rfl rfl ?_
            refine r_iald hx hb hK.1 hP 1 (by decide) (ceMo_1 (s5 1)) (vp_in_of_dec (by decide)) dX11_mark_94 ?_
            refine lv_iconst (v := 1) hx hb dX11_mark_95 (by decide) ?_
            refine lv_iadd hx hb dX11_mark_96 ?_
            refine r_iast hx hb hK.1 hP hD hS 1 (by decide) (ceMo_1 (s5 1)) (ceMo_1 _) (vp_in_of_dec (by decide)) dX11_mark_97 (fun H locs s6 es6 hP hD hS => ?_)
            have hv := hv s6 es6
            refine lv_aload_n hx hb dX11_mark_98 rfl (lv_at hl 0 rfl) ?_
            refine r_get hx hb hts (iwX11_mark_X11) hown hK.1 hP 0 (by decide) (ceMo_0 (s6 0)) rfl 0 (by decide) (hts _ kX11_mark_4) (v := .ref (ad 1)) rfl dX11_mark_99 ?_
            refine lv_iconst (v := 4) hx hb dX11_mark_102 (by decide) ?_
            refine r_iald hx hb hK.1 hP 1 (by decide) (ceMo_1 (s6 1)) (vp_in_of_dec (by decide)) dX11_mark_103 ?_
            exact r_iret hx hb hr hlocks hv hP hS dX11_mark_104
          · have hv := hv.2 c60
            refine lv_aload_n hx hb dX11_mark_63 rfl (lv_at hl 0 rfl) ?_
            refine r_ci (va_runV (As := []) (rest := []) ⟨hx, hb, hml, hown, hts⟩ (c_X11_full hi  s4 _ hv H.size) (cwV 0 hts gX11_mark_X11_full rfl rfl rfl (by decide +kernel) ⟨Nat.le_of_ble_eq_true rfl, Nat.le_of_ble_eq_true rfl⟩) ⟨pre_blind, r_recv hK.1 hP 0 (by decide) (ceMo_0 (s4 0)) rfl, pre_of hP hK⟩ rfl rfl hl.1 rfl (lv_room (Nat.le_of_ble_eq_true rfl)) dX11_mark_64 ⟨Nat.zero_le _, Nat.zero_le _⟩) hS (fun r7 s7 H locs hv hP hS => ?_)
            have hD := wd_D (s := s) (cel := celM ad cA cZ) (σ := s7) hi
            exact r_iret hx hb hr hlocks hv hP hS dX11_mark_67
        · have hv := hv.2 c42
          exact hY 45 [] [] s4 hv _ _ rfl H locs ls hP hS (lv_sub hl [0] rfl)
set_option maxHeartbeats 4000000 in
set_option maxRecDepth 100000 in
theorem w_X11_mark_45 {p : Program} {l : Launch} {e : Env} {s : State} {m : MethodId} {args : Array Value} {below : List Frame} {meth : Method} {c : Code} {dC : Nat → ClassId} {dI : Nat → Nat → Nat} {ad : Nat → Nat} {cA cZ : ClassId} (hi : Inj 12 ad) (a1 : Int32) (a2 : Int32) (a3 : Int32) (a4 : Int32)  (C0 : Cx cX11_mark RX11 wsX11_mark 5 (some .int) p s m args meth c) (hK : KK dC dI cA cZ s) (Q : Int32 → St → Prop) (Y : Nat → List Int32 → List Int64 → St → Prop) (hY : ∀ P xs ys σ, Y P xs ys σ → XX p l e ({ frames := 2, cells := 0, slots := 0, locals := 46 } : Room) s m args below meth c (dC, dI) 12 ad (celM ad cA cZ) 5 (ZI below args s (dC, dI) 12 ad (celM ad cA cZ) Q) (lay_X11_mark ad a1 a2 a3 a4) P xs ys σ)  (s0 : St) (hv : B_X11_mark_45 a1 a2 a3 a4 Q Y  s0) {H : Heap} {locs : List Loc} {ls : Array Slot} (hP : va_P (dC, dI) vwCl (wd 12 ad (celM ad cA cZ) s0) H) (hS : va_S (AA 12 ad s.heap.size) s.heap H locs) (hl : lv_has ls 5 [(0, .ref (ad 0))]) : W p l e ({ frames := 2, cells := 0, slots := 0, locals := 46 } : Room) s m args below meth c H locs 0 0 (ZI below args s (dC, dI) 12 ad (celM ad cA cZ) Q) (F0 m 45 ls []) := by
  obtain ⟨hx, hb, hml, hown, hts, hr, hlocks⟩ := C0
  have hD := wd_D (s := s) (cel := celM ad cA cZ) (σ := s0) hi
  unfold B_X11_mark_45 at hv
  refine lv_aload_n hx hb dX11_mark_45 rfl (lv_at hl 0 rfl) ?_
  refine lv_bipush (v := (-2)) hx hb dX11_mark_46 (by decide) ?_
  refine r_ci (va_runV (As := [.int ((-2))]) (rest := []) ⟨hx, hb, hml, hown, hts⟩ (c_X11_bad hi ((-2)) s0 _ hv H.size) (cwV 1 hts gX11_mark_X11_bad rfl rfl rfl (by decide +kernel) ⟨Nat.le_of_ble_eq_true rfl, Nat.le_of_ble_eq_true rfl⟩) ⟨pre_blind, r_recv hK.1 hP 0 (by decide) (ceMo_0 (s0 0)) rfl, pre_of hP hK⟩ rfl rfl hl.1 rfl (lv_room (Nat.le_of_ble_eq_true rfl)) dX11_mark_48 ⟨Nat.zero_le _, Nat.zero_le _⟩) hS (fun r1 s1 H locs hv hP hS => ?_)
  have hD := wd_D (s := s) (cel := celM ad cA cZ) (σ := s1) hi
  exact r_iret hx hb hr hlocks hv hP hS dX11_mark_51
set_option maxHeartbeats 4000000 in
theorem y_X11_mark {p : Program} {l : Launch} {e : Env} {s : State} {m : MethodId} {args : Array Value} {below : List Frame} {meth : Method} {c : Code} {dC : Nat → ClassId} {dI : Nat → Nat → Nat} {ad : Nat → Nat} {cA cZ : ClassId} (hi : Inj 12 ad) (a1 : Int32) (a2 : Int32) (a3 : Int32) (a4 : Int32)  (C0 : Cx cX11_mark RX11 wsX11_mark 5 (some .int) p s m args meth c) (hK : KK dC dI cA cZ s) (Q : Int32 → St → Prop) : ∀ P xs ys σ, R_X11_mark a1 a2 a3 a4 Q P xs ys σ → XX p l e ({ frames := 2, cells := 0, slots := 0, locals := 46 } : Room) s m args below meth c (dC, dI) 12 ad (celM ad cA cZ) 5 (ZI below args s (dC, dI) 12 ad (celM ad cA cZ) Q) (lay_X11_mark ad a1 a2 a3 a4) P xs ys σ := by
  refine Fx.elim _ (fun P xs ys σ Y hY hB => ?_)
  rcases hB with ⟨rfl, rfl, rfl, hB⟩
  · intro lv st he H locs ls hP hS hl
    cases he
    exact w_X11_mark_45 hi a1 a2 a3 a4  C0 hK Q Y hY  σ hB hP hS hl
set_option maxHeartbeats 4000000 in
theorem c_X11_mark {l : Launch} {dC : Nat → ClassId} {dI : Nat → Nat → Nat} {ad : Nat → Nat} {cA cZ : ClassId} (hi : Inj 12 ad) (a1 : Int32) (a2 : Int32) (a3 : Int32) (a4 : Int32)  (s0 : St) (Q : Int32 → St → Prop) (hv : V_X11_mark a1 a2 a3 a4 s0 Q) (sz : Nat) : Met l yX11_mark wsX11_mark ({ frames := 2, cells := 0, slots := 0, locals := 46 } : Room) (va_Pc [.ref (ad 0), .int a1, .int a2, .int a3, .int a4] (PW dC dI ad cA cZ 12 (celM ad cA cZ) sz s0)) (va_Qi Q (fun u t => va_P (dC, dI) vwCl (wd 12 ad (celM ad cA cZ) u) t.heap) (AA 12 ad sz)) 0 0 (AA 12 ad sz) := by
  refine Met.ofW (cc := cX11_mark) (maxL := 5) (ret := (some .int)) (by decide) rfl ?_
  intro p e s m args below meth c s₁ B hml hv0
  obtain ⟨rfl, hsz, hP, hK⟩ := hv0
  subst hsz
  have C0 : Cx cX11_mark RX11 wsX11_mark 5 (some .int) p s m ([.ref (ad 0), .int a1, .int a2, .int a3, .int a4] : List Value).toArray meth c := ⟨B.exec, B.bytes, hml, findClass_of_methodNamed B.named, atoms_spec (ws := wsX11_mark) B.pre, B.returns, B.notSynchronized⟩
  have hl := lv_entry ([.ref (ad 0), .int a1, .int a2, .int a3, .int a4]) (n := 5) (Nat.le_of_ble_eq_true rfl)
  rw [lg_entry_eq]
  generalize (lg_sl ([.ref (ad 0), .int a1, .int a2, .int a3, .int a4]) ++ List.replicate (5 - (lg_sl ([.ref (ad 0), .int a1, .int a2, .int a3, .int a4])).length) Slot.unset).toArray = ls at hl ⊢
  have hl : lv_has ls 5 [(0, .ref (ad 0)), (1, .int a1), (2, .int a2), (3, .int a3), (4, .int a4)] := hl
  exact w_X11_mark_e hi a1 a2 a3 a4  C0 hK Q (R_X11_mark a1 a2 a3 a4 Q) (y_X11_mark hi a1 a2 a3 a4  C0 hK Q)  s0 hv hP va_S.rf hl
def lay_X11_forget (ad : Nat → Nat) (a1 : Int32) : Nat → List Int32 → List Int64 → Option (List (Nat × Value) × List Value) := fun P xs ys => match P, xs, ys with
  | _, _, _ => none
set_option maxHeartbeats 4000000 in
set_option maxRecDepth 100000 in
theorem w_X11_forget_e {p : Program} {l : Launch} {e : Env} {s : State} {m : MethodId} {args : Array Value} {below : List Frame} {meth : Method} {c : Code} {dC : Nat → ClassId} {dI : Nat → Nat → Nat} {ad : Nat → Nat} {cA cZ : ClassId} (hi : Inj 12 ad) (a1 : Int32)  (C0 : Cx cX11_forget RX11 wsX11_forget 3 (some .int) p s m args meth c) (hK : KK dC dI cA cZ s) (Q : Int32 → St → Prop) (Y : Nat → List Int32 → List Int64 → St → Prop) (hY : ∀ P xs ys σ, Y P xs ys σ → XX p l e ({ frames := 1, cells := 0, slots := 0, locals := 25 } : Room) s m args below meth c (dC, dI) 12 ad (celM ad cA cZ) 3 (ZI below args s (dC, dI) 12 ad (celM ad cA cZ) Q) (lay_X11_forget ad a1) P xs ys σ)  (s0 : St) (hv : B_X11_forget_e a1 Q Y  s0) {H : Heap} {locs : List Loc} {ls : Array Slot} (hP : va_P (dC, dI) vwCl (wd 12 ad (celM ad cA cZ) s0) H) (hS : va_S (AA 12 ad s.heap.size) s.heap H locs) (hl : lv_has ls 3 [(0, .ref (ad 0)), (1, .int a1)]) : W p l e ({ frames := 1, cells := 0, slots := 0, locals := 25 } : Room) s m args below meth c H locs 0 0 (ZI below args s (dC, dI) 12 ad (celM ad cA cZ) Q) (F0 m 0 ls []) := by
  obtain ⟨hx, hb, hml, hown, hts, hr, hlocks⟩ := C0
  have hD := wd_D (s := s) (cel := celM ad cA cZ) (σ := s0) hi
  unfold B_X11_forget_e at hv
  refine lv_iload_n hx hb dX11_forget_0 rfl (lv_at hl 1 rfl) ?_
  refine lv_i2l (v := a1.toInt64) hx hb dX11_forget_1 rfl ?_
  refine lv_lconst (v := 0) hx hb dX11_forget_2 (by decide) ?_
  refine lv_ldc2 (v := 2) hx hb hown (hts _ kX11_forget_1) dX11_forget_3 ?_
  refine r_ci (va_runS (As := [.long a1.toInt64, .long 0, .long 2]) (rest := []) ⟨hx, hb, hml, hown, hts⟩ (c_X11_in hi a1.toInt64 0 2 s0 _ hv H.size) (va_cwS 3 hts gX11_forget_X11_in rfl rfl rfl (by decide +kernel) ⟨Nat.le_of_ble_eq_true rfl, Nat.le_of_ble_eq_true rfl⟩) ⟨pre_blind, pre_of hP hK⟩ rfl rfl hl.1 rfl (lv_room (Nat.le_of_ble_eq_true rfl)) dX11_forget_6 ⟨Nat.zero_le _, Nat.zero_le _⟩) hS (fun r1 s1 H locs hv hP hS => ?_)
  obtain ⟨hz_r1, hv⟩ := hv
  have hD := wd_D (s := s) (cel := celM ad cA cZ) (σ := s1) hi
  refine lv_if_ne (tgt := 19) hx hb dX11_forget_9 (by decide) (fun c9 => ?_) (fun c9 => ?_)
  · have hv := hv.1 c9
    refine lv_aload_n hx hb dX11_forget_19 rfl (lv_at hl 0 rfl) ?_
    refine r_get hx hb hts (iwX11_forget_X11) hown hK.1 hP 0 (by decide) (ceMo_0 (s1 0)) rfl 0 (by decide) (hts _ kX11_forget_2) (v := .ref (ad 1)) rfl dX11_forget_20 ?_
    refine lv_iconst (v := 2) hx hb dX11_forget_23 (by decide) ?_
    refine lv_iload_n hx hb dX11_forget_24 rfl (lv_at hl 1 rfl) ?_
    refine lv_iadd hx hb dX11_forget_25 ?_
    obtain ⟨hin, hv⟩ := hv
    refine r_iald hx hb hK.1 hP 1 (by decide) (ceMo_1 (s1 1)) hin dX11_forget_26 ?_
    refine lv_topi (fun v2 ev2 => ?_)
    have hv := hv v2 ev2
    refine lv_istore_n (lv' := [(2, .int v2), (0, .ref (ad 0)), (1, .int a1)]) hx hb dX11_forget_27 rfl hl (by decide) rfl (fun ls hl => ?_)
    refine lv_aload_n hx hb dX11_forget_28 rfl (lv_at hl 1 rfl) ?_
    refine r_get hx hb hts (iwX11_forget_X11) hown hK.1 hP 0 (by decide) (ceMo_0 (s1 0)) rfl 0 (by decide) (hts _ kX11_forget_2) (v := .ref (ad 1)) rfl dX11_forget_29 ?_
    refine lv_iconst (v := 2) hx hb dX11_forget_32 (by decide) ?_
    refine lv_iload_n hx hb dX11_forget_33 rfl (lv_at hl 2 rfl) ?_
    refine lv_iadd hx hb dX11_forget_34 ?_
    refine lv_iconst (v := 0) hx hb dX11_forget_35 (by decide) ?_
    obtain ⟨hin, hv⟩ := hv
    refine r_iast hx hb hK.1 hP hD hS 1 (by decide) (ceMo_1 (s1 1)) (ceMo_1 _) hin dX11_forget_36 (fun H locs s3 es3 hP hD hS => ?_)
    have hv := hv s3 es3
    refine lv_iload_n hx hb dX11_forget_37 rfl (lv_at hl 0 rfl) ?_
    exact r_iret hx hb hr hlocks hv hP hS dX11_forget_38
  · have hv := hv.2 c9
    refine lv_aload_n hx hb dX11_forget_12 rfl (lv_at hl 0 rfl) ?_
    refine lv_bipush (v := (-2)) hx hb dX11_forget_13 (by decide) ?_
    refine r_ci (va_runV (As := [.int ((-2))]) (rest := []) ⟨hx, hb, hml, hown, hts⟩ (c_X11_bad hi ((-2)) s1 _ hv H.size) (cwV 1 hts gX11_forget_X11_bad rfl rfl rfl (by decide +kernel) ⟨Nat.le_of_ble_eq_true rfl, Nat.le_of_ble_eq_true rfl⟩) ⟨pre_blind, r_recv hK.1 hP 0 (by decide) (ceMo_0 (s1 0)) rfl, pre_of hP hK⟩ rfl rfl hl.1 rfl (lv_room (Nat.le_of_ble_eq_true rfl)) dX11_forget_15 ⟨Nat.zero_le _, Nat.zero_le _⟩) hS (fun r4 s4 H locs hv hP hS => ?_)
    have hD := wd_D (s := s) (cel := celM ad cA cZ) (σ := s4) hi
    exact r_iret hx hb hr hlocks hv hP hS dX11_forget_18
set_option maxHeartbeats 4000000 in
theorem y_X11_forget {p : Program} {l : Launch} {e : Env} {s : State} {m : MethodId} {args : Array Value} {below : List Frame} {meth : Method} {c : Code} {dC : Nat → ClassId} {dI : Nat → Nat → Nat} {ad : Nat → Nat} {cA cZ : ClassId} (hi : Inj 12 ad) (a1 : Int32)  (C0 : Cx cX11_forget RX11 wsX11_forget 3 (some .int) p s m args meth c) (hK : KK dC dI cA cZ s) (Q : Int32 → St → Prop) : ∀ P xs ys σ, R_X11_forget a1 Q P xs ys σ → XX p l e ({ frames := 1, cells := 0, slots := 0, locals := 25 } : Room) s m args below meth c (dC, dI) 12 ad (celM ad cA cZ) 3 (ZI below args s (dC, dI) 12 ad (celM ad cA cZ) Q) (lay_X11_forget ad a1) P xs ys σ := by
  refine Fx.elim _ (fun P xs ys σ Y hY hB => ?_)
  exact hB.elim
set_option maxHeartbeats 4000000 in
theorem c_X11_forget {l : Launch} {dC : Nat → ClassId} {dI : Nat → Nat → Nat} {ad : Nat → Nat} {cA cZ : ClassId} (hi : Inj 12 ad) (a1 : Int32)  (s0 : St) (Q : Int32 → St → Prop) (hv : V_X11_forget a1 s0 Q) (sz : Nat) : Met l yX11_forget wsX11_forget ({ frames := 1, cells := 0, slots := 0, locals := 25 } : Room) (va_Pc [.ref (ad 0), .int a1] (PW dC dI ad cA cZ 12 (celM ad cA cZ) sz s0)) (va_Qi Q (fun u t => va_P (dC, dI) vwCl (wd 12 ad (celM ad cA cZ) u) t.heap) (AA 12 ad sz)) 0 0 (AA 12 ad sz) := by
  refine Met.ofW (cc := cX11_forget) (maxL := 3) (ret := (some .int)) (by decide) rfl ?_
  intro p e s m args below meth c s₁ B hml hv0
  obtain ⟨rfl, hsz, hP, hK⟩ := hv0
  subst hsz
  have C0 : Cx cX11_forget RX11 wsX11_forget 3 (some .int) p s m ([.ref (ad 0), .int a1] : List Value).toArray meth c := ⟨B.exec, B.bytes, hml, findClass_of_methodNamed B.named, atoms_spec (ws := wsX11_forget) B.pre, B.returns, B.notSynchronized⟩
  have hl := lv_entry ([.ref (ad 0), .int a1]) (n := 3) (Nat.le_of_ble_eq_true rfl)
  rw [lg_entry_eq]
  generalize (lg_sl ([.ref (ad 0), .int a1]) ++ List.replicate (3 - (lg_sl ([.ref (ad 0), .int a1])).length) Slot.unset).toArray = ls at hl ⊢
  have hl : lv_has ls 3 [(0, .ref (ad 0)), (1, .int a1)] := hl
  exact w_X11_forget_e hi a1  C0 hK Q (R_X11_forget a1 Q) (y_X11_forget hi a1  C0 hK Q)  s0 hv hP va_S.rf hl
def lay_X11_kindsBy (ad : Nat → Nat) (a1 : Int32) (a2 : Int32) (a3 : Int32) (a4 : Int32) : Nat → List Int32 → List Int64 → Option (List (Nat × Value) × List Value) := fun P xs ys => match P, xs, ys with
  | 6, [x5, x6], [] => some ([(0, .ref (ad 0)), (1, .int a1), (2, .int a2), (3, .int a3), (4, .int a4), (5, .int x5), (6, .int x6)], [])
  | 19, [x5, x6, x7, x8], [] => some ([(0, .ref (ad 0)), (1, .int a1), (2, .int a2), (3, .int a3), (4, .int a4), (5, .int x5), (6, .int x6), (7, .int x7), (8, .int x8)], [])
  | 87, [x5, x6, x7, x8, x9, t0], [] => some ([(0, .ref (ad 0)), (1, .int a1), (2, .int a2), (3, .int a3), (4, .int a4), (5, .int x5), (6, .int x6), (7, .int x7), (8, .int x8), (9, .int x9)], [.int t0])
  | _, _, _ => none
set_option maxHeartbeats 4000000 in
set_option maxRecDepth 100000 in
theorem w_X11_kindsBy_e {p : Program} {l : Launch} {e : Env} {s : State} {m : MethodId} {args : Array Value} {below : List Frame} {meth : Method} {c : Code} {dC : Nat → ClassId} {dI : Nat → Nat → Nat} {ad : Nat → Nat} {cA cZ : ClassId} (hi : Inj 12 ad) (a1 : Int32) (a2 : Int32) (a3 : Int32) (a4 : Int32)  (C0 : Cx cX11_kindsBy RX11 wsX11_kindsBy 11 (some .int) p s m args meth c) (hK : KK dC dI cA cZ s) (Q : Int32 → St → Prop) (Y : Nat → List Int32 → List Int64 → St → Prop) (hY : ∀ P xs ys σ, Y P xs ys σ → XX p l e ({ frames := 1, cells := 0, slots := 0, locals := 25 } : Room) s m args below meth c (dC, dI) 12 ad (celM ad cA cZ) 11 (ZI below args s (dC, dI) 12 ad (celM ad cA cZ) Q) (lay_X11_kindsBy ad a1 a2 a3 a4) P xs ys σ)  (s0 : St) (hv : B_X11_kindsBy_e a1 a2 a3 a4 Q Y  s0) {H : Heap} {locs : List Loc} {ls : Array Slot} (hP : va_P (dC, dI) vwCl (wd 12 ad (celM ad cA cZ) s0) H) (hS : va_S (AA 12 ad s.heap.size) s.heap H locs) (hl : lv_has ls 11 [(0, .ref (ad 0)), (1, .int a1), (2, .int a2), (3, .int a3), (4, .int a4)]) : W p l e ({ frames := 1, cells := 0, slots := 0, locals := 25 } : Room) s m args below meth c H locs 0 0 (ZI below args s (dC, dI) 12 ad (celM ad cA cZ) Q) (F0 m 0 ls []) := by
  obtain ⟨hx, hb, hml, hown, hts, hr, hlocks⟩ := C0
  have hD := wd_D (s := s) (cel := celM ad cA cZ) (σ := s0) hi
  unfold B_X11_kindsBy_e at hv
  refine lv_iconst (v := 0) hx hb dX11_kindsBy_0 (by decide) ?_
  refine lv_istore (lv' := [(5, .int 0), (0, .ref (ad 0)), (1, .int a1), (2, .int a2), (3, .int a3), (4, .int a4)]) hx hb dX11_kindsBy_1 hl (by decide) rfl (fun ls hl => ?_)
  refine lv_iconst (v := 0) hx hb dX11_kindsBy_3 (by decide) ?_
  refine lv_istore (lv' := [(6, .int 0), (5, .int 0), (0, .ref (ad 0)), (1, .int a1), (2, .int a2), (3, .int a3), (4, .int a4)]) hx hb dX11_kindsBy_4 hl (by decide) rfl (fun ls hl => ?_)
  exact hY 6 [0, 0] [] s0 hv _ _ rfl H locs ls hP hS (lv_sub hl [2, 3, 4, 5, 6, 1, 0] rfl)
set_option maxHeartbeats 4000000 in
set_option maxRecDepth 100000 in
theorem w_X11_kindsBy_6 {p : Program} {l : Launch} {e : Env} {s : State} {m : MethodId} {args : Array Value} {below : List Frame} {meth : Method} {c : Code} {dC : Nat → ClassId} {dI : Nat → Nat → Nat} {ad : Nat → Nat} {cA cZ : ClassId} (hi : Inj 12 ad) (a1 : Int32) (a2 : Int32) (a3 : Int32) (a4 : Int32)  (C0 : Cx cX11_kindsBy RX11 wsX11_kindsBy 11 (some .int) p s m args meth c) (hK : KK dC dI cA cZ s) (Q : Int32 → St → Prop) (Y : Nat → List Int32 → List Int64 → St → Prop) (hY : ∀ P xs ys σ, Y P xs ys σ → XX p l e ({ frames := 1, cells := 0, slots := 0, locals := 25 } : Room) s m args below meth c (dC, dI) 12 ad (celM ad cA cZ) 11 (ZI below args s (dC, dI) 12 ad (celM ad cA cZ) Q) (lay_X11_kindsBy ad a1 a2 a3 a4) P xs ys σ) (x5 : Int32) (x6 : Int32) (s0 : St) (hv : B_X11_kindsBy_6 a1 a2 a3 a4 Q Y x5 x6 s0) {H : Heap} {locs : List Loc} {ls : Array Slot} (hP : va_P (dC, dI) vwCl (wd 12 ad (celM ad cA cZ) s0) H) (hS : va_S (AA 12 ad s.heap.size) s.heap H locs) (hl : lv_has ls 11 [(0, .ref (ad 0)), (1, .int a1), (2, .int a2), (3, .int a3), (4, .int a4), (5, .int x5), (6, .int x6)]) : W p l e ({ frames := 1, cells := 0, slots := 0, locals := 25 } : Room) s m args below meth c H locs 0 0 (ZI below args s (dC, dI) 12 ad (celM ad cA cZ) Q) (F0 m 6 ls []) := by
  obtain ⟨hx, hb, hml, hown, hts, hr, hlocks⟩ := C0
  have hD := wd_D (s := s) (cel := celM ad cA cZ) (σ := s0) hi
  unfold B_X11_kindsBy_6 at hv
  refine lv_iload hx hb dX11_kindsBy_6 (lv_at hl 6 rfl) ?_
  refine lv_bipush (v := 6) hx hb dX11_kindsBy_8 (by decide) ?_
  refine lv_icmp_ge (tgt := 156) hx hb dX11_kindsBy_10 (by decide) (fun c10 => ?_) (fun c10 => ?_)
  · have hv := hv.1 c10
    refine lv_iload hx hb dX11_kindsBy_156 (lv_at hl 5 rfl) ?_
    exact r_iret hx hb hr hlocks hv hP hS dX11_kindsBy_158
  · have hv := hv.2 c10
    refine lv_iconst (v := 1) hx hb dX11_kindsBy_13 (by decide) ?_
    refine lv_istore (lv' := [(7, .int 1), (0, .ref (ad 0)), (1, .int a1), (2, .int a2), (3, .int a3), (4, .int a4), (5, .int x5), (6, .int x6)]) hx hb dX11_kindsBy_14 hl (by decide) rfl (fun ls hl => ?_)
    refine lv_iconst (v := 0) hx hb dX11_kindsBy_16 (by decide) ?_
    refine lv_istore (lv' := [(8, .int 0), (7, .int 1), (0, .ref (ad 0)), (1, .int a1), (2, .int a2), (3, .int a3), (4, .int a4), (5, .int x5), (6, .int x6)]) hx hb dX11_kindsBy_17 hl (by decide) rfl (fun ls hl => ?_)
    exact hY 19 [x5, x6, 1, 0] [] s0 hv _ _ rfl H locs ls hP hS (lv_sub hl [2, 3, 4, 5, 6, 7, 8, 1, 0] rfl)
set_option maxHeartbeats 4000000 in
set_option maxRecDepth 100000 in
theorem w_X11_kindsBy_19 {p : Program} {l : Launch} {e : Env} {s : State} {m : MethodId} {args : Array Value} {below : List Frame} {meth : Method} {c : Code} {dC : Nat → ClassId} {dI : Nat → Nat → Nat} {ad : Nat → Nat} {cA cZ : ClassId} (hi : Inj 12 ad) (a1 : Int32) (a2 : Int32) (a3 : Int32) (a4 : Int32)  (C0 : Cx cX11_kindsBy RX11 wsX11_kindsBy 11 (some .int) p s m args meth c) (hK : KK dC dI cA cZ s) (Q : Int32 → St → Prop) (Y : Nat → List Int32 → List Int64 → St → Prop) (hY : ∀ P xs ys σ, Y P xs ys σ → XX p l e ({ frames := 1, cells := 0, slots := 0, locals := 25 } : Room) s m args below meth c (dC, dI) 12 ad (celM ad cA cZ) 11 (ZI below args s (dC, dI) 12 ad (celM ad cA cZ) Q) (lay_X11_kindsBy ad a1 a2 a3 a4) P xs ys σ) (x5 : Int32) (x6 : Int32) (x7 : Int32) (x8 : Int32) (s0 : St) (hv : B_X11_kindsBy_19 a1 a2 a3 a4 Q Y x5 x6 x7 x8 s0) {H : Heap} {locs : List Loc} {ls : Array Slot} (hP : va_P (dC, dI) vwCl (wd 12 ad (celM ad cA cZ) s0) H) (hS : va_S (AA 12 ad s.heap.size) s.heap H locs) (hl : lv_has ls 11 [(0, .ref (ad 0)), (1, .int a1), (2, .int a2), (3, .int a3), (4, .int a4), (5, .int x5), (6, .int x6), (7, .int x7), (8, .int x8)]) : W p l e ({ frames := 1, cells := 0, slots := 0, locals := 25 } : Room) s m args below meth c H locs 0 0 (ZI below args s (dC, dI) 12 ad (celM ad cA cZ) Q) (F0 m 19 ls []) := by
  obtain ⟨hx, hb, hml, hown, hts, hr, hlocks⟩ := C0
  have hD := wd_D (s := s) (cel := celM ad cA cZ) (σ := s0) hi
  unfold B_X11_kindsBy_19 at hv
  refine lv_iload hx hb dX11_kindsBy_19 (lv_at hl 8 rfl) ?_
  refine lv_iload_n hx hb dX11_kindsBy_21 rfl (lv_at hl 3 rfl) ?_
  refine lv_icmp_ge (tgt := 132) hx hb dX11_kindsBy_22 (by decide) (fun c22 => ?_) (fun c22 => ?_)
  · have hv := hv.1 c22
    refine lv_iload hx hb dX11_kindsBy_132 (lv_at hl 5 rfl) ?_
    refine lv_iload hx hb dX11_kindsBy_134 (lv_at hl 7 rfl) ?_
    refine lv_if_eq (tgt := 146) hx hb dX11_kindsBy_136 (by decide) (fun c136 => ?_) (fun c136 => ?_)
    · have hv := hv.1 c136
      refine lv_iconst (v := 0) hx hb dX11_kindsBy_146 (by decide) ?_
      refine lv_ior hx hb dX11_kindsBy_147 ?_
      refine lv_istore (lv' := [(5, .int (x5 ||| 0)), (0, .ref (ad 0)), (1, .int a1), (2, .int a2), (3, .int a3), (4, .int a4), (6, .int x6), (7, .int x7), (8, .int x8)]) hx hb dX11_kindsBy_148 hl (by decide) rfl (fun ls hl => ?_)
      refine lv_iinc (v := x6 + 1) (lv' := [(6, .int (x6 + 1)), (5, .int (x5 ||| 0)), (0, .ref (ad 0)), (1, .int a1), (2, .int a2), (3, .int a3), (4, .int a4), (7, .int x7), (8, .int x8)]) hx hb dX11_kindsBy_150 hl (k := 6) rfl rfl (by decide) rfl (fun ls hl => ?_)
      refine lv_goto (tgt := 6) hx hb dX11_kindsBy_153 (by decide) ?_
      exact hY 6 [x5 ||| 0, x6 + 1] [] s0 hv _ _ rfl H locs ls hP hS (lv_sub hl [2, 3, 4, 5, 6, 1, 0] rfl)
    · have hv := hv.2 c136
      refine lv_iconst (v := 1) hx hb dX11_kindsBy_139 (by decide) ?_
      refine lv_iload hx hb dX11_kindsBy_140 (lv_at hl 6 rfl) ?_
      refine lv_ishl hx hb dX11_kindsBy_142 ?_
      refine lv_goto (tgt := 147) hx hb dX11_kindsBy_143 (by decide) ?_
      refine lv_ior hx hb dX11_kindsBy_147 ?_
      refine lv_topi (fun v1 ev1 => ?_)
      have hv := hv v1 ev1
      refine lv_istore (lv' := [(5, .int v1), (0, .ref (ad 0)), (1, .int a1), (2, .int a2), (3, .int a3), (4, .int a4), (6, .int x6), (7, .int x7), (8, .int x8)]) hx hb dX11_kindsBy_148 hl (by decide) rfl (fun ls hl => ?_)
      refine lv_iinc (v := x6 + 1) (lv' := [(6, .int (x6 + 1)), (5, .int v1), (0, .ref (ad 0)), (1, .int a1), (2, .int a2), (3, .int a3), (4, .int a4), (7, .int x7), (8, .int x8)]) hx hb dX11_kindsBy_150 hl (k := 6) rfl rfl (by decide) rfl (fun ls hl => ?_)
      refine lv_goto (tgt := 6) hx hb dX11_kindsBy_153 (by decide) ?_
      exact hY 6 [v1, x6 + 1] [] s0 hv _ _ rfl H locs ls hP hS (lv_sub hl [2, 3, 4, 5, 6, 1, 0] rfl)
  · have hv := hv.2 c22
    refine lv_iload_n hx hb dX11_kindsBy_25 rfl (lv_at hl 2 rfl) ?_
    refine lv_iconst (v := 4) hx hb dX11_kindsBy_26 (by decide) ?_
    refine lv_iload hx hb dX11_kindsBy_27 (lv_at hl 8 rfl) ?_
    refine lv_imul hx hb dX11_kindsBy_29 ?_
    refine lv_iadd hx hb dX11_kindsBy_30 ?_
    refine lv_istore (lv' := [(9, .int (a2 + (4 * x8))), (0, .ref (ad 0)), (1, .int a1), (2, .int a2), (3, .int a3), (4, .int a4), (5, .int x5), (6, .int x6), (7, .int x7), (8, .int x8)]) hx hb dX11_kindsBy_31 hl (by decide) rfl (fun ls hl => ?_)
    refine lv_iload hx hb dX11_kindsBy_33 (lv_at hl 5 rfl) ?_
    refine lv_if_eq (tgt := 64) hx hb dX11_kindsBy_35 (by decide) (fun c35 => ?_) (fun c35 => ?_)
    · have hv := hv.1 c35
      refine lv_iload hx hb dX11_kindsBy_64 (lv_at hl 7 rfl) ?_
      refine lv_aload_n hx hb dX11_kindsBy_66 rfl (lv_at hl 1 rfl) ?_
      refine r_get hx hb hts (iwX11_kindsBy_X11) hown hK.1 hP 0 (by decide) (ceMo_0 (s0 0)) rfl 0 (by decide) (hts _ kX11_kindsBy_1) (v := .ref (ad 1)) rfl dX11_kindsBy_67 ?_
      refine lv_iload hx hb dX11_kindsBy_70 (lv_at hl 0 rfl) ?_
      refine lv_iconst (v := 1) hx hb dX11_kindsBy_72 (by decide) ?_
      refine lv_iadd hx hb dX11_kindsBy_73 ?_
      obtain ⟨hin, hv⟩ := hv
      refine r_iald hx hb hK.1 hP 1 (by decide) (ceMo_1 (s0 1)) hin dX11_kindsBy_74 ?_
      refine lv_aload_n hx hb dX11_kindsBy_75 rfl (lv_at hl 1 rfl) ?_
      refine r_get hx hb hts (iwX11_kindsBy_X11) hown hK.1 hP 0 (by decide) (ceMo_0 (s0 0)) rfl 0 (by decide) (hts _ kX11_kindsBy_1) (v := .ref (ad 1)) rfl dX11_kindsBy_76 ?_
      refine lv_iload hx hb dX11_kindsBy_79 (lv_at hl 0 rfl) ?_
      refine lv_iconst (v := 2) hx hb dX11_kindsBy_81 (by decide) ?_
      refine lv_iadd hx hb dX11_kindsBy_82 ?_
      obtain ⟨hin, hv⟩ := hv
      refine r_iald hx hb hK.1 hP 1 (by decide) (ceMo_1 (s0 1)) hin dX11_kindsBy_83 ?_
      refine r_ci (va_runS (As := [.int x6, .int (s0 1 ((a2 + (4 * x8)) + 1).toNatClampNeg), .int (s0 1 ((a2 + (4 * x8)) + 2).toNatClampNeg)]) (rest := []) ⟨hx, hb, hml, hown, hts⟩ (c_X11_letsAs hi x6 (s0 1 ((a2 + (4 * x8)) + 1).toNatClampNeg) (s0 1 ((a2 + (4 * x8)) + 2).toNatClampNeg) s0 _ hv H.size) (va_cwS 3 hts gX11_kindsBy_X11_letsAs rfl rfl rfl (by decide +kernel) ⟨Nat.le_of_ble_eq_true rfl, Nat.le_of_ble_eq_true rfl⟩) ⟨pre_blind, pre_of hP hK⟩ rfl rfl hl.1 rfl (lv_room (Nat.le_of_ble_eq_true rfl)) dX11_kindsBy_84 ⟨Nat.zero_le _, Nat.zero_le _⟩) hS (fun r2 s2 H locs hv hP hS => ?_)
      have hD := wd_D (s := s) (cel := celM ad cA cZ) (σ := s2) hi
      exact hY 87 [x5, x6, x7, x8, a2 + (4 * x8), r2] [] s2 hv _ _ rfl H locs ls hP hS (lv_sub hl [1, 2, 3, 4, 5, 6, 7, 8, 9, 0] rfl)
    · have hv := hv.2 c35
      refine lv_iload hx hb dX11_kindsBy_38 (lv_at hl 7 rfl) ?_
      refine lv_aload_n hx hb dX11_kindsBy_40 rfl (lv_at hl 1 rfl) ?_
      refine r_get hx hb hts (iwX11_kindsBy_X11) hown hK.1 hP 0 (by decide) (ceMo_0 (s0 0)) rfl 0 (by decide) (hts _ kX11_kindsBy_1) (v := .ref (ad 1)) rfl dX11_kindsBy_41 ?_
      refine lv_iload hx hb dX11_kindsBy_44 (lv_at hl 0 rfl) ?_
      refine lv_iconst (v := 1) hx hb dX11_kindsBy_46 (by decide) ?_
      refine lv_iadd hx hb dX11_kindsBy_47 ?_
      obtain ⟨hin, hv⟩ := hv
      refine r_iald hx hb hK.1 hP 1 (by decide) (ceMo_1 (s0 1)) hin dX11_kindsBy_48 ?_
      refine lv_aload_n hx hb dX11_kindsBy_49 rfl (lv_at hl 1 rfl) ?_
      refine r_get hx hb hts (iwX11_kindsBy_X11) hown hK.1 hP 0 (by decide) (ceMo_0 (s0 0)) rfl 0 (by decide) (hts _ kX11_kindsBy_1) (v := .ref (ad 1)) rfl dX11_kindsBy_50 ?_
      refine lv_iload hx hb dX11_kindsBy_53 (lv_at hl 0 rfl) ?_
      refine lv_iconst (v := 2) hx hb dX11_kindsBy_55 (by decide) ?_
      refine lv_iadd hx hb dX11_kindsBy_56 ?_
      obtain ⟨hin, hv⟩ := hv
      refine r_iald hx hb hK.1 hP 1 (by decide) (ceMo_1 (s0 1)) hin dX11_kindsBy_57 ?_
      refine r_ci (va_runS (As := [.int x6, .int (s0 1 ((a2 + (4 * x8)) + 1).toNatClampNeg), .int (s0 1 ((a2 + (4 * x8)) + 2).toNatClampNeg)]) (rest := []) ⟨hx, hb, hml, hown, hts⟩ (c_X11_goesAs hi x6 (s0 1 ((a2 + (4 * x8)) + 1).toNatClampNeg) (s0 1 ((a2 + (4 * x8)) + 2).toNatClampNeg) s0 _ hv H.size) (va_cwS 3 hts gX11_kindsBy_X11_goesAs rfl rfl rfl (by decide +kernel) ⟨Nat.le_of_ble_eq_true rfl, Nat.le_of_ble_eq_true rfl⟩) ⟨pre_blind, pre_of hP hK⟩ rfl rfl hl.1 rfl (lv_room (Nat.le_of_ble_eq_true rfl)) dX11_kindsBy_58 ⟨Nat.zero_le _, Nat.zero_le _⟩) hS (fun r3 s3 H locs hv hP hS => ?_)
      have hD := wd_D (s := s) (cel := celM ad cA cZ) (σ := s3) hi
      refine lv_goto (tgt := 87) hx hb dX11_kindsBy_61 (by decide) ?_
      exact hY 87 [x5, x6, x7, x8, a2 + (4 * x8), r3] [] s3 hv _ _ rfl H locs ls hP hS (lv_sub hl [1, 2, 3, 4, 5, 6, 7, 8, 9, 0] rfl)
set_option maxHeartbeats 4000000 in
set_option maxRecDepth 100000 in
theorem w_X11_kindsBy_87 {p : Program} {l : Launch} {e : Env} {s : State} {m : MethodId} {args : Array Value} {below : List Frame} {meth : Method} {c : Code} {dC : Nat → ClassId} {dI : Nat → Nat → Nat} {ad : Nat → Nat} {cA cZ : ClassId} (hi : Inj 12 ad) (a1 : Int32) (a2 : Int32) (a3 : Int32) (a4 : Int32)  (C0 : Cx cX11_kindsBy RX11 wsX11_kindsBy 11 (some .int) p s m args meth c) (hK : KK dC dI cA cZ s) (Q : Int32 → St → Prop) (Y : Nat → List Int32 → List Int64 → St → Prop) (hY : ∀ P xs ys σ, Y P xs ys σ → XX p l e ({ frames := 1, cells := 0, slots := 0, locals := 25 } : Room) s m args below meth c (dC, dI) 12 ad (celM ad cA cZ) 11 (ZI below args s (dC, dI) 12 ad (celM ad cA cZ) Q) (lay_X11_kindsBy ad a1 a2 a3 a4) P xs ys σ) (x5 : Int32) (x6 : Int32) (x7 : Int32) (x8 : Int32) (x9 : Int32) (t0 : Int32) (s0 : St) (hv : B_X11_kindsBy_87 a1 a2 a3 a4 Q Y x5 x6 x7 x8 x9 t0 s0) {H : Heap} {locs : List Loc} {ls : Array Slot} (hP : va_P (dC, dI) vwCl (wd 12 ad (celM ad cA cZ) s0) H) (hS : va_S (AA 12 ad s.heap.size) s.heap H locs) (hl : lv_has ls 11 [(0, .ref (ad 0)), (1, .int a1), (2, .int a2), (3, .int a3), (4, .int a4), (5, .int x5), (6, .int x6), (7, .int x7), (8, .int x8), (9, .int x9)]) : W p l e ({ frames := 1, cells := 0, slots := 0, locals := 25 } : Room) s m args below meth c H locs 0 0 (ZI below args s (dC, dI) 12 ad (celM ad cA cZ) Q) (F0 m 87 ls [.int t0]) := by
  obtain ⟨hx, hb, hml, hown, hts, hr, hlocks⟩ := C0
  have hD := wd_D (s := s) (cel := celM ad cA cZ) (σ := s0) hi
  unfold B_X11_kindsBy_87 at hv
  refine lv_istore (lv' := [(10, .int t0), (0, .ref (ad 0)), (1, .int a1), (2, .int a2), (3, .int a3), (4, .int a4), (5, .int x5), (6, .int x6), (7, .int x7), (8, .int x8), (9, .int x9)]) hx hb dX11_kindsBy_87 hl (by decide) rfl (fun ls hl => ?_)
  refine lv_iload hx hb dX11_kindsBy_89 (lv_at hl 8 rfl) ?_
  refine lv_if_eq (tgt := 123) hx hb dX11_kindsBy_91 (by decide) (fun c91 => ?_) (fun c91 => ?_)
  · have hv := hv.1 c91
    refine lv_iconst (v := 0) hx hb dX11_kindsBy_123 (by decide) ?_
    refine lv_istore (lv' := [(7, .int 0), (10, .int t0), (0, .ref (ad 0)), (1, .int a1), (2, .int a2), (3, .int a3), (4, .int a4), (5, .int x5), (6, .int x6), (8, .int x8), (9, .int x9)]) hx hb dX11_kindsBy_124 hl (by decide) rfl (fun ls hl => ?_)
    refine lv_iinc (v := x8 + 1) (lv' := [(8, .int (x8 + 1)), (7, .int 0), (10, .int t0), (0, .ref (ad 0)), (1, .int a1), (2, .int a2), (3, .int a3), (4, .int a4), (5, .int x5), (6, .int x6), (9, .int x9)]) hx hb dX11_kindsBy_126 hl (k := 9) rfl rfl (by decide) rfl (fun ls hl => ?_)
    refine lv_goto (tgt := 19) hx hb dX11_kindsBy_129 (by decide) ?_
    exact hY 19 [x5, x6, 0, x8 + 1] [] s0 hv _ _ rfl H locs ls hP hS (lv_sub hl [3, 4, 5, 6, 7, 8, 9, 1, 0] rfl)
  · have hv := hv.2 c91
    refine lv_aload_n hx hb dX11_kindsBy_94 rfl (lv_at hl 1 rfl) ?_
    refine r_get hx hb hts (iwX11_kindsBy_X11) hown hK.1 hP 0 (by decide) (ceMo_0 (s0 0)) rfl 0 (by decide) (hts _ kX11_kindsBy_1) (v := .ref (ad 1)) rfl dX11_kindsBy_95 ?_
    refine lv_iload hx hb dX11_kindsBy_98 (lv_at hl 10 rfl) ?_
    obtain ⟨hin, hv⟩ := hv
    refine r_iald hx hb hK.1 hP 1 (by decide) (ceMo_1 (s0 1)) hin dX11_kindsBy_100 ?_
    refine lv_iload_n hx hb dX11_kindsBy_101 rfl (lv_at hl 2 rfl) ?_
    refine lv_icmp_ne (tgt := 119) hx hb dX11_kindsBy_102 (by decide) (fun c102 => ?_) (fun c102 => ?_)
    · have hv := hv.1 c102
      refine lv_iconst (v := 1) hx hb dX11_kindsBy_119 (by decide) ?_
      refine lv_goto (tgt := 124) hx hb dX11_kindsBy_120 (by decide) ?_
      refine lv_istore (lv' := [(7, .int 1), (10, .int t0), (0, .ref (ad 0)), (1, .int a1), (2, .int a2), (3, .int a3), (4, .int a4), (5, .int x5), (6, .int x6), (8, .int x8), (9, .int x9)]) hx hb dX11_kindsBy_124 hl (by decide) rfl (fun ls hl => ?_)
      refine lv_iinc (v := x8 + 1) (lv' := [(8, .int (x8 + 1)), (7, .int 1), (10, .int t0), (0, .ref (ad 0)), (1, .int a1), (2, .int a2), (3, .int a3), (4, .int a4), (5, .int x5), (6, .int x6), (9, .int x9)]) hx hb dX11_kindsBy_126 hl (k := 9) rfl rfl (by decide) rfl (fun ls hl => ?_)
      refine lv_goto (tgt := 19) hx hb dX11_kindsBy_129 (by decide) ?_
      exact hY 19 [x5, x6, 1, x8 + 1] [] s0 hv _ _ rfl H locs ls hP hS (lv_sub hl [3, 4, 5, 6, 7, 8, 9, 1, 0] rfl)
    · have hv := hv.2 c102
      refine lv_iload hx hb dX11_kindsBy_105 (lv_at hl 0 rfl) ?_
      refine lv_aload_n hx hb dX11_kindsBy_107 rfl (lv_at hl 1 rfl) ?_
      refine r_get hx hb hts (iwX11_kindsBy_X11) hown hK.1 hP 0 (by decide) (ceMo_0 (s0 0)) rfl 0 (by decide) (hts _ kX11_kindsBy_1) (v := .ref (ad 1)) rfl dX11_kindsBy_108 ?_
      refine lv_iload hx hb dX11_kindsBy_111 (lv_at hl 10 rfl) ?_
      refine lv_iconst (v := 3) hx hb dX11_kindsBy_113 (by decide) ?_
      refine lv_iadd hx hb dX11_kindsBy_114 ?_
      obtain ⟨hin, hv⟩ := hv
      refine r_iald hx hb hK.1 hP 1 (by decide) (ceMo_1 (s0 1)) hin dX11_kindsBy_115 ?_
      refine lv_icmp_ne (tgt := 123) hx hb dX11_kindsBy_116 (by decide) (fun c116 => ?_) (fun c116 => ?_)
      · have hv := hv.1 c116
        refine lv_iconst (v := 0) hx hb dX11_kindsBy_123 (by decide) ?_
        refine lv_istore (lv' := [(7, .int 0), (10, .int t0), (0, .ref (ad 0)), (1, .int a1), (2, .int a2), (3, .int a3), (4, .int a4), (5, .int x5), (6, .int x6), (8, .int x8), (9, .int x9)]) hx hb dX11_kindsBy_124 hl (by decide) rfl (fun ls hl => ?_)
        refine lv_iinc (v := x8 + 1) (lv' := [(8, .int (x8 + 1)), (7, .int 0), (10, .int t0), (0, .ref (ad 0)), (1, .int a1), (2, .int a2), (3, .int a3), (4, .int a4), (5, .int x5), (6, .int x6), (9, .int x9)]) hx hb dX11_kindsBy_126 hl (k := 9) rfl rfl (by decide) rfl (fun ls hl => ?_)
        refine lv_goto (tgt := 19) hx hb dX11_kindsBy_129 (by decide) ?_
        exact hY 19 [x5, x6, 0, x8 + 1] [] s0 hv _ _ rfl H locs ls hP hS (lv_sub hl [3, 4, 5, 6, 7, 8, 9, 1, 0] rfl)
      · have hv := hv.2 c116
        refine lv_iconst (v := 1) hx hb dX11_kindsBy_119 (by decide) ?_
        refine lv_goto (tgt := 124) hx hb dX11_kindsBy_120 (by decide) ?_
        refine lv_istore (lv' := [(7, .int 1), (10, .int t0), (0, .ref (ad 0)), (1, .int a1), (2, .int a2), (3, .int a3), (4, .int a4), (5, .int x5), (6, .int x6), (8, .int x8), (9, .int x9)]) hx hb dX11_kindsBy_124 hl (by decide) rfl (fun ls hl => ?_)
        refine lv_iinc (v := x8 + 1) (lv' := [(8, .int (x8 + 1)), (7, .int 1), (10, .int t0), (0, .ref (ad 0)), (1, .int a1), (2, .int a2), (3, .int a3), (4, .int a4), (5, .int x5), (6, .int x6), (9, .int x9)]) hx hb dX11_kindsBy_126 hl (k := 9) rfl rfl (by decide) rfl (fun ls hl => ?_)
        refine lv_goto (tgt := 19) hx hb dX11_kindsBy_129 (by decide) ?_
        exact hY 19 [x5, x6, 1, x8 + 1] [] s0 hv _ _ rfl H locs ls hP hS (lv_sub hl [3, 4, 5, 6, 7, 8, 9, 1, 0] rfl)
set_option maxHeartbeats 4000000 in
theorem y_X11_kindsBy {p : Program} {l : Launch} {e : Env} {s : State} {m : MethodId} {args : Array Value} {below : List Frame} {meth : Method} {c : Code} {dC : Nat → ClassId} {dI : Nat → Nat → Nat} {ad : Nat → Nat} {cA cZ : ClassId} (hi : Inj 12 ad) (a1 : Int32) (a2 : Int32) (a3 : Int32) (a4 : Int32)  (C0 : Cx cX11_kindsBy RX11 wsX11_kindsBy 11 (some .int) p s m args meth c) (hK : KK dC dI cA cZ s) (Q : Int32 → St → Prop) : ∀ P xs ys σ, R_X11_kindsBy a1 a2 a3 a4 Q P xs ys σ → XX p l e ({ frames := 1, cells := 0, slots := 0, locals := 25 } : Room) s m args below meth c (dC, dI) 12 ad (celM ad cA cZ) 11 (ZI below args s (dC, dI) 12 ad (celM ad cA cZ) Q) (lay_X11_kindsBy ad a1 a2 a3 a4) P xs ys σ := by
  refine Fx.elim _ (fun P xs ys σ Y hY hB => ?_)
  rcases hB with ⟨rfl, x5, x6, rfl, rfl, hB⟩ | ⟨rfl, x5, x6, x7, x8, rfl, rfl, hB⟩ | ⟨rfl, x5, x6, x7, x8, x9, t0, rfl, rfl, hB⟩
  · intro lv st he H locs ls hP hS hl
    cases he
    exact w_X11_kindsBy_6 hi a1 a2 a3 a4  C0 hK Q Y hY x5 x6 σ hB hP hS hl
  · intro lv st he H locs ls hP hS hl
    cases he
    exact w_X11_kindsBy_19 hi a1 a2 a3 a4  C0 hK Q Y hY x5 x6 x7 x8 σ hB hP hS hl
  · intro lv st he H locs ls hP hS hl
    cases he
    exact w_X11_kindsBy_87 hi a1 a2 a3 a4  C0 hK Q Y hY x5 x6 x7 x8 x9 t0 σ hB hP hS hl
set_option maxHeartbeats 4000000 in
theorem c_X11_kindsBy {l : Launch} {dC : Nat → ClassId} {dI : Nat → Nat → Nat} {ad : Nat → Nat} {cA cZ : ClassId} (hi : Inj 12 ad) (a1 : Int32) (a2 : Int32) (a3 : Int32) (a4 : Int32)  (s0 : St) (Q : Int32 → St → Prop) (hv : V_X11_kindsBy a1 a2 a3 a4 s0 Q) (sz : Nat) : Met l yX11_kindsBy wsX11_kindsBy ({ frames := 1, cells := 0, slots := 0, locals := 25 } : Room) (va_Pc [.ref (ad 0), .int a1, .int a2, .int a3, .int a4] (PW dC dI ad cA cZ 12 (celM ad cA cZ) sz s0)) (va_Qi Q (fun u t => va_P (dC, dI) vwCl (wd 12 ad (celM ad cA cZ) u) t.heap) (AA 12 ad sz)) 0 0 (AA 12 ad sz) := by
  refine Met.ofW (cc := cX11_kindsBy) (maxL := 11) (ret := (some .int)) (by decide) rfl ?_
  intro p e s m args below meth c s₁ B hml hv0
  obtain ⟨rfl, hsz, hP, hK⟩ := hv0
  subst hsz
  have C0 : Cx cX11_kindsBy RX11 wsX11_kindsBy 11 (some .int) p s m ([.ref (ad 0), .int a1, .int a2, .int a3, .int a4] : List Value).toArray meth c := ⟨B.exec, B.bytes, hml, findClass_of_methodNamed B.named, atoms_spec (ws := wsX11_kindsBy) B.pre, B.returns, B.notSynchronized⟩
  have hl := lv_entry ([.ref (ad 0), .int a1, .int a2, .int a3, .int a4]) (n := 11) (Nat.le_of_ble_eq_true rfl)
  rw [lg_entry_eq]
  generalize (lg_sl ([.ref (ad 0), .int a1, .int a2, .int a3, .int a4]) ++ List.replicate (11 - (lg_sl ([.ref (ad 0), .int a1, .int a2, .int a3, .int a4])).length) Slot.unset).toArray = ls at hl ⊢
  have hl : lv_has ls 11 [(0, .ref (ad 0)), (1, .int a1), (2, .int a2), (3, .int a3), (4, .int a4)] := hl
  exact w_X11_kindsBy_e hi a1 a2 a3 a4  C0 hK Q (R_X11_kindsBy a1 a2 a3 a4 Q) (y_X11_kindsBy hi a1 a2 a3 a4  C0 hK Q)  s0 hv hP va_S.rf hl
def lay_X11_kindsOfGlove (ad : Nat → Nat) (a1 : Int32) : Nat → List Int32 → List Int64 → Option (List (Nat × Value) × List Value) := fun P xs ys => match P, xs, ys with
  | _, _, _ => none
set_option maxHeartbeats 4000000 in
set_option maxRecDepth 100000 in
theorem w_X11_kindsOfGlove_e {p : Program} {l : Launch} {e : Env} {s : State} {m : MethodId} {args : Array Value} {below : List Frame} {meth : Method} {c : Code} {dC : Nat → ClassId} {dI : Nat → Nat → Nat} {ad : Nat → Nat} {cA cZ : ClassId} (hi : Inj 12 ad) (a1 : Int32)  (C0 : Cx cX11_kindsOfGlove RX11 wsX11_kindsOfGlove 2 (some .int) p s m args meth c) (hK : KK dC dI cA cZ s) (Q : Int32 → St → Prop) (Y : Nat → List Int32 → List Int64 → St → Prop) (hY : ∀ P xs ys σ, Y P xs ys σ → XX p l e ({ frames := 2, cells := 0, slots := 0, locals := 55 } : Room) s m args below meth c (dC, dI) 12 ad (celM ad cA cZ) 2 (ZI below args s (dC, dI) 12 ad (celM ad cA cZ) Q) (lay_X11_kindsOfGlove ad a1) P xs ys σ)  (s0 : St) (hv : B_X11_kindsOfGlove_e a1 Q Y  s0) {H : Heap} {locs : List Loc} {ls : Array Slot} (hP : va_P (dC, dI) vwCl (wd 12 ad (celM ad cA cZ) s0) H) (hS : va_S (AA 12 ad s.heap.size) s.heap H locs) (hl : lv_has ls 2 [(0, .ref (ad 0)), (1, .int a1)]) : W p l e ({ frames := 2, cells := 0, slots := 0, locals := 55 } : Room) s m args below meth c H locs 0 0 (ZI below args s (dC, dI) 12 ad (celM ad cA cZ) Q) (F0 m 0 ls []) := by
  obtain ⟨hx, hb, hml, hown, hts, hr, hlocks⟩ := C0
  have hD := wd_D (s := s) (cel := celM ad cA cZ) (σ := s0) hi
  unfold B_X11_kindsOfGlove_e at hv
  refine lv_aload_n hx hb dX11_kindsOfGlove_0 rfl (lv_at hl 0 rfl) ?_
  refine lv_iload_n hx hb dX11_kindsOfGlove_1 rfl (lv_at hl 1 rfl) ?_
  refine lv_bipush (v := 53) hx hb dX11_kindsOfGlove_2 (by decide) ?_
  refine lv_aload_n hx hb dX11_kindsOfGlove_4 rfl (lv_at hl 0 rfl) ?_
  refine r_get hx hb hts (iwX11_kindsOfGlove_X11) hown hK.1 hP 0 (by decide) (ceMo_0 (s0 0)) rfl 0 (by decide) (hts _ kX11_kindsOfGlove_1) (v := .ref (ad 1)) rfl dX11_kindsOfGlove_5 ?_
  refine lv_iconst (v := 3) hx hb dX11_kindsOfGlove_8 (by decide) ?_
  refine r_iald hx hb hK.1 hP 1 (by decide) (ceMo_1 (s0 1)) (vp_in_of_dec (by decide)) dX11_kindsOfGlove_9 ?_
  refine lv_iconst (v := 1) hx hb dX11_kindsOfGlove_10 (by decide) ?_
  refine r_ci (va_runV (As := [.int a1, .int 53, .int (s0 1 3), .int 1]) (rest := []) ⟨hx, hb, hml, hown, hts⟩ (c_X11_kindsBy hi a1 53 (s0 1 3) 1 s0 _ hv H.size) (cwV 4 hts gX11_kindsOfGlove_X11_kindsBy rfl rfl rfl (by decide +kernel) ⟨Nat.le_of_ble_eq_true rfl, Nat.le_of_ble_eq_true rfl⟩) ⟨pre_blind, r_recv hK.1 hP 0 (by decide) (ceMo_0 (s0 0)) rfl, pre_of hP hK⟩ rfl rfl hl.1 rfl (lv_room (Nat.le_of_ble_eq_true rfl)) dX11_kindsOfGlove_11 ⟨Nat.zero_le _, Nat.zero_le _⟩) hS (fun r1 s1 H locs hv hP hS => ?_)
  have hD := wd_D (s := s) (cel := celM ad cA cZ) (σ := s1) hi
  exact r_iret hx hb hr hlocks hv hP hS dX11_kindsOfGlove_14
set_option maxHeartbeats 4000000 in
theorem y_X11_kindsOfGlove {p : Program} {l : Launch} {e : Env} {s : State} {m : MethodId} {args : Array Value} {below : List Frame} {meth : Method} {c : Code} {dC : Nat → ClassId} {dI : Nat → Nat → Nat} {ad : Nat → Nat} {cA cZ : ClassId} (hi : Inj 12 ad) (a1 : Int32)  (C0 : Cx cX11_kindsOfGlove RX11 wsX11_kindsOfGlove 2 (some .int) p s m args meth c) (hK : KK dC dI cA cZ s) (Q : Int32 → St → Prop) : ∀ P xs ys σ, R_X11_kindsOfGlove a1 Q P xs ys σ → XX p l e ({ frames := 2, cells := 0, slots := 0, locals := 55 } : Room) s m args below meth c (dC, dI) 12 ad (celM ad cA cZ) 2 (ZI below args s (dC, dI) 12 ad (celM ad cA cZ) Q) (lay_X11_kindsOfGlove ad a1) P xs ys σ := by
  refine Fx.elim _ (fun P xs ys σ Y hY hB => ?_)
  exact hB.elim
set_option maxHeartbeats 4000000 in
theorem c_X11_kindsOfGlove {l : Launch} {dC : Nat → ClassId} {dI : Nat → Nat → Nat} {ad : Nat → Nat} {cA cZ : ClassId} (hi : Inj 12 ad) (a1 : Int32)  (s0 : St) (Q : Int32 → St → Prop) (hv : V_X11_kindsOfGlove a1 s0 Q) (sz : Nat) : Met l yX11_kindsOfGlove wsX11_kindsOfGlove ({ frames := 2, cells := 0, slots := 0, locals := 55 } : Room) (va_Pc [.ref (ad 0), .int a1] (PW dC dI ad cA cZ 12 (celM ad cA cZ) sz s0)) (va_Qi Q (fun u t => va_P (dC, dI) vwCl (wd 12 ad (celM ad cA cZ) u) t.heap) (AA 12 ad sz)) 0 0 (AA 12 ad sz) := by
  refine Met.ofW (cc := cX11_kindsOfGlove) (maxL := 2) (ret := (some .int)) (by decide) rfl ?_
  intro p e s m args below meth c s₁ B hml hv0
  obtain ⟨rfl, hsz, hP, hK⟩ := hv0
  subst hsz
  have C0 : Cx cX11_kindsOfGlove RX11 wsX11_kindsOfGlove 2 (some .int) p s m ([.ref (ad 0), .int a1] : List Value).toArray meth c := ⟨B.exec, B.bytes, hml, findClass_of_methodNamed B.named, atoms_spec (ws := wsX11_kindsOfGlove) B.pre, B.returns, B.notSynchronized⟩
  have hl := lv_entry ([.ref (ad 0), .int a1]) (n := 2) (Nat.le_of_ble_eq_true rfl)
  rw [lg_entry_eq]
  generalize (lg_sl ([.ref (ad 0), .int a1]) ++ List.replicate (2 - (lg_sl ([.ref (ad 0), .int a1])).length) Slot.unset).toArray = ls at hl ⊢
  have hl : lv_has ls 2 [(0, .ref (ad 0)), (1, .int a1)] := hl
  exact w_X11_kindsOfGlove_e hi a1  C0 hK Q (R_X11_kindsOfGlove a1 Q) (y_X11_kindsOfGlove hi a1  C0 hK Q)  s0 hv hP va_S.rf hl
def lay_X11_kindsOfCrossing (ad : Nat → Nat) (a1 : Int32) : Nat → List Int32 → List Int64 → Option (List (Nat × Value) × List Value) := fun P xs ys => match P, xs, ys with
  | _, _, _ => none
set_option maxHeartbeats 4000000 in
set_option maxRecDepth 100000 in
theorem w_X11_kindsOfCrossing_e {p : Program} {l : Launch} {e : Env} {s : State} {m : MethodId} {args : Array Value} {below : List Frame} {meth : Method} {c : Code} {dC : Nat → ClassId} {dI : Nat → Nat → Nat} {ad : Nat → Nat} {cA cZ : ClassId} (hi : Inj 12 ad) (a1 : Int32)  (C0 : Cx cX11_kindsOfCrossing RX11 wsX11_kindsOfCrossing 2 (some .int) p s m args meth c) (hK : KK dC dI cA cZ s) (Q : Int32 → St → Prop) (Y : Nat → List Int32 → List Int64 → St → Prop) (hY : ∀ P xs ys σ, Y P xs ys σ → XX p l e ({ frames := 2, cells := 0, slots := 0, locals := 55 } : Room) s m args below meth c (dC, dI) 12 ad (celM ad cA cZ) 2 (ZI below args s (dC, dI) 12 ad (celM ad cA cZ) Q) (lay_X11_kindsOfCrossing ad a1) P xs ys σ)  (s0 : St) (hv : B_X11_kindsOfCrossing_e a1 Q Y  s0) {H : Heap} {locs : List Loc} {ls : Array Slot} (hP : va_P (dC, dI) vwCl (wd 12 ad (celM ad cA cZ) s0) H) (hS : va_S (AA 12 ad s.heap.size) s.heap H locs) (hl : lv_has ls 2 [(0, .ref (ad 0)), (1, .int a1)]) : W p l e ({ frames := 2, cells := 0, slots := 0, locals := 55 } : Room) s m args below meth c H locs 0 0 (ZI below args s (dC, dI) 12 ad (celM ad cA cZ) Q) (F0 m 0 ls []) := by
  obtain ⟨hx, hb, hml, hown, hts, hr, hlocks⟩ := C0
  have hD := wd_D (s := s) (cel := celM ad cA cZ) (σ := s0) hi
  unfold B_X11_kindsOfCrossing_e at hv
  refine lv_aload_n hx hb dX11_kindsOfCrossing_0 rfl (lv_at hl 0 rfl) ?_
  refine lv_iload_n hx hb dX11_kindsOfCrossing_1 rfl (lv_at hl 1 rfl) ?_
  refine lv_bipush (v := 77) hx hb dX11_kindsOfCrossing_2 (by decide) ?_
  refine lv_aload_n hx hb dX11_kindsOfCrossing_4 rfl (lv_at hl 0 rfl) ?_
  refine r_get hx hb hts (iwX11_kindsOfCrossing_X11) hown hK.1 hP 0 (by decide) (ceMo_0 (s0 0)) rfl 0 (by decide) (hts _ kX11_kindsOfCrossing_1) (v := .ref (ad 1)) rfl dX11_kindsOfCrossing_5 ?_
  refine lv_iconst (v := 4) hx hb dX11_kindsOfCrossing_8 (by decide) ?_
  refine r_iald hx hb hK.1 hP 1 (by decide) (ceMo_1 (s0 1)) (vp_in_of_dec (by decide)) dX11_kindsOfCrossing_9 ?_
  refine lv_iconst (v := 0) hx hb dX11_kindsOfCrossing_10 (by decide) ?_
  refine r_ci (va_runV (As := [.int a1, .int 77, .int (s0 1 4), .int 0]) (rest := []) ⟨hx, hb, hml, hown, hts⟩ (c_X11_kindsBy hi a1 77 (s0 1 4) 0 s0 _ hv H.size) (cwV 4 hts gX11_kindsOfCrossing_X11_kindsBy rfl rfl rfl (by decide +kernel) ⟨Nat.le_of_ble_eq_true rfl, Nat.le_of_ble_eq_true rfl⟩) ⟨pre_blind, r_recv hK.1 hP 0 (by decide) (ceMo_0 (s0 0)) rfl, pre_of hP hK⟩ rfl rfl hl.1 rfl (lv_room (Nat.le_of_ble_eq_true rfl)) dX11_kindsOfCrossing_11 ⟨Nat.zero_le _, Nat.zero_le _⟩) hS (fun r1 s1 H locs hv hP hS => ?_)
  have hD := wd_D (s := s) (cel := celM ad cA cZ) (σ := s1) hi
  exact r_iret hx hb hr hlocks hv hP hS dX11_kindsOfCrossing_14
set_option maxHeartbeats 4000000 in
theorem y_X11_kindsOfCrossing {p : Program} {l : Launch} {e : Env} {s : State} {m : MethodId} {args : Array Value} {below : List Frame} {meth : Method} {c : Code} {dC : Nat → ClassId} {dI : Nat → Nat → Nat} {ad : Nat → Nat} {cA cZ : ClassId} (hi : Inj 12 ad) (a1 : Int32)  (C0 : Cx cX11_kindsOfCrossing RX11 wsX11_kindsOfCrossing 2 (some .int) p s m args meth c) (hK : KK dC dI cA cZ s) (Q : Int32 → St → Prop) : ∀ P xs ys σ, R_X11_kindsOfCrossing a1 Q P xs ys σ → XX p l e ({ frames := 2, cells := 0, slots := 0, locals := 55 } : Room) s m args below meth c (dC, dI) 12 ad (celM ad cA cZ) 2 (ZI below args s (dC, dI) 12 ad (celM ad cA cZ) Q) (lay_X11_kindsOfCrossing ad a1) P xs ys σ := by
  refine Fx.elim _ (fun P xs ys σ Y hY hB => ?_)
  exact hB.elim
set_option maxHeartbeats 4000000 in
theorem c_X11_kindsOfCrossing {l : Launch} {dC : Nat → ClassId} {dI : Nat → Nat → Nat} {ad : Nat → Nat} {cA cZ : ClassId} (hi : Inj 12 ad) (a1 : Int32)  (s0 : St) (Q : Int32 → St → Prop) (hv : V_X11_kindsOfCrossing a1 s0 Q) (sz : Nat) : Met l yX11_kindsOfCrossing wsX11_kindsOfCrossing ({ frames := 2, cells := 0, slots := 0, locals := 55 } : Room) (va_Pc [.ref (ad 0), .int a1] (PW dC dI ad cA cZ 12 (celM ad cA cZ) sz s0)) (va_Qi Q (fun u t => va_P (dC, dI) vwCl (wd 12 ad (celM ad cA cZ) u) t.heap) (AA 12 ad sz)) 0 0 (AA 12 ad sz) := by
  refine Met.ofW (cc := cX11_kindsOfCrossing) (maxL := 2) (ret := (some .int)) (by decide) rfl ?_
  intro p e s m args below meth c s₁ B hml hv0
  obtain ⟨rfl, hsz, hP, hK⟩ := hv0
  subst hsz
  have C0 : Cx cX11_kindsOfCrossing RX11 wsX11_kindsOfCrossing 2 (some .int) p s m ([.ref (ad 0), .int a1] : List Value).toArray meth c := ⟨B.exec, B.bytes, hml, findClass_of_methodNamed B.named, atoms_spec (ws := wsX11_kindsOfCrossing) B.pre, B.returns, B.notSynchronized⟩
  have hl := lv_entry ([.ref (ad 0), .int a1]) (n := 2) (Nat.le_of_ble_eq_true rfl)
  rw [lg_entry_eq]
  generalize (lg_sl ([.ref (ad 0), .int a1]) ++ List.replicate (2 - (lg_sl ([.ref (ad 0), .int a1])).length) Slot.unset).toArray = ls at hl ⊢
  have hl : lv_has ls 2 [(0, .ref (ad 0)), (1, .int a1)] := hl
  exact w_X11_kindsOfCrossing_e hi a1  C0 hK Q (R_X11_kindsOfCrossing a1 Q) (y_X11_kindsOfCrossing hi a1  C0 hK Q)  s0 hv hP va_S.rf hl
