def lay_X11_takesHours (ad : Nat → Nat)  : Nat → List Int32 → List Int64 → Option (List (Nat × Value) × List Value) := fun P xs ys => match P, xs, ys with
  | _, _, _ => none
set_option maxHeartbeats 4000000 in
set_option maxRecDepth 100000 in
theorem w_X11_takesHours_e {p : Program} {l : Launch} {e : Env} {s : State} {m : MethodId} {args : Array Value} {below : List Frame} {meth : Method} {c : Code} {dC : Nat → ClassId} {dI : Nat → Nat → Nat} {ad : Nat → Nat} {cA cZ : ClassId} (hi : Inj 12 ad)   (C0 : Cx cX11_takesHours RX11 wsX11_takesHours 1 (some .boolean) p s m args meth c) (hK : KK dC dI cA cZ s) (Q : Int32 → St → Prop) (Y : Nat → List Int32 → List Int64 → St → Prop) (hY : ∀ P xs ys σ, Y P xs ys σ → XX p l e ({ frames := 5, cells := 0, slots := 0, locals := 116 } : Room) s m args below meth c (dC, dI) 12 ad (celM ad cA cZ) 1 (ZZ below args s (dC, dI) 12 ad (celM ad cA cZ) Q) (lay_X11_takesHours ad ) P xs ys σ)  (s0 : St) (hv : B_X11_takesHours_e  Q Y  s0) {H : Heap} {locs : List Loc} {ls : Array Slot} (hP : va_P (dC, dI) vwCl (wd 12 ad (celM ad cA cZ) s0) H) (hS : va_S (AA 12 ad s.heap.size) s.heap H locs) (hl : lv_has ls 1 [(0, .ref (ad 0))]) : W p l e ({ frames := 5, cells := 0, slots := 0, locals := 116 } : Room) s m args below meth c H locs 0 0 (ZZ below args s (dC, dI) 12 ad (celM ad cA cZ) Q) (F0 m 0 ls []) := by
  obtain ⟨hx, hb, hml, hown, hts, hr, hlocks⟩ := C0
  have hD := wd_D (s := s) (cel := celM ad cA cZ) (σ := s0) hi
  unfold B_X11_takesHours_e at hv
  refine lv_aload_n hx hb dX11_takesHours_0 rfl (lv_at hl 0 rfl) ?_
  refine r_cv (va_runV (As := []) (rest := []) ⟨hx, hb, hml, hown, hts⟩ (c_X11_goBehind hi  s0 _ hv H.size) (cwV 0 hts gX11_takesHours_X11_goBehind rfl rfl rfl (by decide +kernel) ⟨Nat.le_of_ble_eq_true rfl, Nat.le_of_ble_eq_true rfl⟩) ⟨pre_blind, r_recv hK.1 hP 0 (by decide) (ceMo_0 (s0 0)) rfl, pre_of hP hK⟩ rfl rfl hl.1 rfl (lv_room (Nat.le_of_ble_eq_true rfl)) dX11_takesHours_1 ⟨Nat.zero_le _, Nat.zero_le _⟩) hS (fun s1 H locs hv hP hS => ?_)
  have hD := wd_D (s := s) (cel := celM ad cA cZ) (σ := s1) hi
  refine lv_aload_n hx hb dX11_takesHours_4 rfl (lv_at hl 0 rfl) ?_
  refine lv_iconst (v := 0) hx hb dX11_takesHours_5 (by decide) ?_
  refine lv_iconst (v := 1) hx hb dX11_takesHours_6 (by decide) ?_
  refine lv_bipush (v := 99) hx hb dX11_takesHours_7 (by decide) ?_
  refine r_ci (va_runV (As := [.int 0, .int 1, .int 99]) (rest := []) ⟨hx, hb, hml, hown, hts⟩ (c_X11_takes hi 0 1 99 s1 _ hv H.size) (cwV 3 hts gX11_takesHours_X11_takes rfl rfl rfl (by decide +kernel) ⟨Nat.le_of_ble_eq_true rfl, Nat.le_of_ble_eq_true rfl⟩) ⟨pre_blind, r_recv hK.1 hP 0 (by decide) (ceMo_0 (s1 0)) rfl, pre_of hP hK⟩ rfl rfl hl.1 rfl (lv_room (Nat.le_of_ble_eq_true rfl)) dX11_takesHours_9 ⟨Nat.zero_le _, Nat.zero_le _⟩) hS (fun r2 s2 H locs hv hP hS => ?_)
  obtain ⟨hz_r2, hv⟩ := hv
  have hD := wd_D (s := s) (cel := celM ad cA cZ) (σ := s2) hi
  refine lv_if_ne (tgt := 17) hx hb dX11_takesHours_12 (by decide) (fun c12 => ?_) (fun c12 => ?_)
  · have hv := hv.1 c12
    refine lv_aload_n hx hb dX11_takesHours_17 rfl (lv_at hl 0 rfl) ?_
    refine r_get hx hb hts (iwX11_takesHours_X11) hown hK.1 hP 0 (by decide) (ceMo_0 (s2 0)) rfl 16 (by decide) (hts _ kX11_takesHours_1) (v := .ref (ad 10)) rfl dX11_takesHours_18 ?_
    refine lv_aload_n hx hb dX11_takesHours_21 rfl (lv_at hl 0 rfl) ?_
    refine r_get hx hb hts (iwX11_takesHours_X11) hown hK.1 hP 0 (by decide) (ceMo_0 (s2 0)) rfl 17 (by decide) (hts _ kX11_takesHours_2) (v := .ref (ad 11)) rfl dX11_takesHours_22 ?_
    refine lv_iconst (v := 0) hx hb dX11_takesHours_25 (by decide) ?_
    refine r_iald hx hb hK.1 hP 11 (by decide) (ceMo_11 (s2 11)) (vp_in_of_dec (by decide)) dX11_takesHours_26 ?_
    refine r_cv (va_runS (As := [.ref (ad 10), .int (s2 11 0)]) (rest := []) ⟨hx, hb, hml, hown, hts⟩ (c_X11_goHours hi 10 101 (s2 11 0) arM_10 s2 _ hv H.size) (va_cwS 2 hts gX11_takesHours_X11_goHours rfl rfl rfl (by decide +kernel) ⟨Nat.le_of_ble_eq_true rfl, Nat.le_of_ble_eq_true rfl⟩) ⟨pre_blind, pre_of hP hK⟩ rfl rfl hl.1 rfl (lv_room (Nat.le_of_ble_eq_true rfl)) dX11_takesHours_27 ⟨Nat.zero_le _, Nat.zero_le _⟩) hS (fun s3 H locs hv hP hS => ?_)
    have hD := wd_D (s := s) (cel := celM ad cA cZ) (σ := s3) hi
    refine lv_iconst (v := 1) hx hb dX11_takesHours_30 (by decide) ?_
    exact r_zret hx hb hr hlocks (Or.inr rfl) hv hP hS dX11_takesHours_31
  · have hv := hv.2 c12
    refine lv_iconst (v := 0) hx hb dX11_takesHours_15 (by decide) ?_
    exact r_zret hx hb hr hlocks (Or.inl rfl) hv hP hS dX11_takesHours_16
set_option maxHeartbeats 4000000 in
theorem y_X11_takesHours {p : Program} {l : Launch} {e : Env} {s : State} {m : MethodId} {args : Array Value} {below : List Frame} {meth : Method} {c : Code} {dC : Nat → ClassId} {dI : Nat → Nat → Nat} {ad : Nat → Nat} {cA cZ : ClassId} (hi : Inj 12 ad)   (C0 : Cx cX11_takesHours RX11 wsX11_takesHours 1 (some .boolean) p s m args meth c) (hK : KK dC dI cA cZ s) (Q : Int32 → St → Prop) : ∀ P xs ys σ, R_X11_takesHours  Q P xs ys σ → XX p l e ({ frames := 5, cells := 0, slots := 0, locals := 116 } : Room) s m args below meth c (dC, dI) 12 ad (celM ad cA cZ) 1 (ZZ below args s (dC, dI) 12 ad (celM ad cA cZ) Q) (lay_X11_takesHours ad ) P xs ys σ := by
  refine Fx.elim _ (fun P xs ys σ Y hY hB => ?_)
  exact hB.elim
set_option maxHeartbeats 4000000 in
theorem c_X11_takesHours {l : Launch} {dC : Nat → ClassId} {dI : Nat → Nat → Nat} {ad : Nat → Nat} {cA cZ : ClassId} (hi : Inj 12 ad)   (s0 : St) (Q : Int32 → St → Prop) (hv : V_X11_takesHours  s0 Q) (sz : Nat) : Met l yX11_takesHours wsX11_takesHours ({ frames := 5, cells := 0, slots := 0, locals := 116 } : Room) (va_Pc [.ref (ad 0)] (PW dC dI ad cA cZ 12 (celM ad cA cZ) sz s0)) (va_Qi (fun r u => (r = 0 ∨ r = 1) ∧ Q r u) (fun u t => va_P (dC, dI) vwCl (wd 12 ad (celM ad cA cZ) u) t.heap) (AA 12 ad sz)) 0 0 (AA 12 ad sz) := by
  refine Met.ofW (cc := cX11_takesHours) (maxL := 1) (ret := (some .boolean)) (by decide) rfl ?_
  intro p e s m args below meth c s₁ B hml hv0
  obtain ⟨rfl, hsz, hP, hK⟩ := hv0
  subst hsz
  have C0 : Cx cX11_takesHours RX11 wsX11_takesHours 1 (some .boolean) p s m ([.ref (ad 0)] : List Value).toArray meth c := ⟨B.exec, B.bytes, hml, findClass_of_methodNamed B.named, atoms_spec (ws := wsX11_takesHours) B.pre, B.returns, B.notSynchronized⟩
  have hl := lv_entry ([.ref (ad 0)]) (n := 1) (Nat.le_of_ble_eq_true rfl)
  rw [lg_entry_eq]
  generalize (lg_sl ([.ref (ad 0)]) ++ List.replicate (1 - (lg_sl ([.ref (ad 0)])).length) Slot.unset).toArray = ls at hl ⊢
  have hl : lv_has ls 1 [(0, .ref (ad 0))] := hl
  exact w_X11_takesHours_e hi   C0 hK Q (R_X11_takesHours  Q) (y_X11_takesHours hi   C0 hK Q)  s0 hv hP va_S.rf hl
def lay_X11_spellsCrossing (ad : Nat → Nat)  : Nat → List Int32 → List Int64 → Option (List (Nat × Value) × List Value) := fun P xs ys => match P, xs, ys with
  | 22, [t0], [] => some ([(0, .ref (ad 0))], [.int t0])
  | _, _, _ => none
set_option maxHeartbeats 4000000 in
set_option maxRecDepth 100000 in
theorem w_X11_spellsCrossing_e {p : Program} {l : Launch} {e : Env} {s : State} {m : MethodId} {args : Array Value} {below : List Frame} {meth : Method} {c : Code} {dC : Nat → ClassId} {dI : Nat → Nat → Nat} {ad : Nat → Nat} {cA cZ : ClassId} (hi : Inj 12 ad)   (C0 : Cx cX11_spellsCrossing RX11 wsX11_spellsCrossing 2 (some .boolean) p s m args meth c) (hK : KK dC dI cA cZ s) (Q : Int32 → St → Prop) (Y : Nat → List Int32 → List Int64 → St → Prop) (hY : ∀ P xs ys σ, Y P xs ys σ → XX p l e ({ frames := 0, cells := 0, slots := 0, locals := 0 } : Room) s m args below meth c (dC, dI) 12 ad (celM ad cA cZ) 2 (ZZ below args s (dC, dI) 12 ad (celM ad cA cZ) Q) (lay_X11_spellsCrossing ad ) P xs ys σ)  (s0 : St) (hv : B_X11_spellsCrossing_e  Q Y  s0) {H : Heap} {locs : List Loc} {ls : Array Slot} (hP : va_P (dC, dI) vwCl (wd 12 ad (celM ad cA cZ) s0) H) (hS : va_S (AA 12 ad s.heap.size) s.heap H locs) (hl : lv_has ls 2 [(0, .ref (ad 0))]) : W p l e ({ frames := 0, cells := 0, slots := 0, locals := 0 } : Room) s m args below meth c H locs 0 0 (ZZ below args s (dC, dI) 12 ad (celM ad cA cZ) Q) (F0 m 0 ls []) := by
  obtain ⟨hx, hb, hml, hown, hts, hr, hlocks⟩ := C0
  have hD := wd_D (s := s) (cel := celM ad cA cZ) (σ := s0) hi
  unfold B_X11_spellsCrossing_e at hv
  refine lv_aload_n hx hb dX11_spellsCrossing_0 rfl (lv_at hl 0 rfl) ?_
  refine r_get hx hb hts (iwX11_spellsCrossing_X11) hown hK.1 hP 0 (by decide) (ceMo_0 (s0 0)) rfl 14 (by decide) (hts _ kX11_spellsCrossing_1) (v := .int (s0 0 14)) rfl dX11_spellsCrossing_1 ?_
  refine lv_iconst (v := 1) hx hb dX11_spellsCrossing_4 (by decide) ?_
  refine lv_icmp_ne (tgt := 21) hx hb dX11_spellsCrossing_5 (by decide) (fun c5 => ?_) (fun c5 => ?_)
  · have hv := hv.1 c5
    refine lv_iconst (v := 0) hx hb dX11_spellsCrossing_21 (by decide) ?_
    exact hY 22 [0] [] s0 hv _ _ rfl H locs ls hP hS (lv_sub hl [0] rfl)
  · have hv := hv.2 c5
    refine lv_aload_n hx hb dX11_spellsCrossing_8 rfl (lv_at hl 0 rfl) ?_
    refine r_get hx hb hts (iwX11_spellsCrossing_X11) hown hK.1 hP 0 (by decide) (ceMo_0 (s0 0)) rfl 13 (by decide) (hts _ kX11_spellsCrossing_2) (v := .int (s0 0 13)) rfl dX11_spellsCrossing_9 ?_
    refine lv_bipush (v := 8) hx hb dX11_spellsCrossing_12 (by decide) ?_
    refine lv_icmp_ne (tgt := 21) hx hb dX11_spellsCrossing_14 (by decide) (fun c14 => ?_) (fun c14 => ?_)
    · have hv := hv.1 c14
      refine lv_iconst (v := 0) hx hb dX11_spellsCrossing_21 (by decide) ?_
      exact hY 22 [0] [] s0 hv _ _ rfl H locs ls hP hS (lv_sub hl [0] rfl)
    · have hv := hv.2 c14
      refine lv_iconst (v := 1) hx hb dX11_spellsCrossing_17 (by decide) ?_
      refine lv_goto (tgt := 22) hx hb dX11_spellsCrossing_18 (by decide) ?_
      exact hY 22 [1] [] s0 hv _ _ rfl H locs ls hP hS (lv_sub hl [0] rfl)
set_option maxHeartbeats 4000000 in
set_option maxRecDepth 100000 in
theorem w_X11_spellsCrossing_22 {p : Program} {l : Launch} {e : Env} {s : State} {m : MethodId} {args : Array Value} {below : List Frame} {meth : Method} {c : Code} {dC : Nat → ClassId} {dI : Nat → Nat → Nat} {ad : Nat → Nat} {cA cZ : ClassId} (hi : Inj 12 ad)   (C0 : Cx cX11_spellsCrossing RX11 wsX11_spellsCrossing 2 (some .boolean) p s m args meth c) (hK : KK dC dI cA cZ s) (Q : Int32 → St → Prop) (Y : Nat → List Int32 → List Int64 → St → Prop) (hY : ∀ P xs ys σ, Y P xs ys σ → XX p l e ({ frames := 0, cells := 0, slots := 0, locals := 0 } : Room) s m args below meth c (dC, dI) 12 ad (celM ad cA cZ) 2 (ZZ below args s (dC, dI) 12 ad (celM ad cA cZ) Q) (lay_X11_spellsCrossing ad ) P xs ys σ) (t0 : Int32) (s0 : St) (hv : B_X11_spellsCrossing_22  Q Y t0 s0) {H : Heap} {locs : List Loc} {ls : Array Slot} (hP : va_P (dC, dI) vwCl (wd 12 ad (celM ad cA cZ) s0) H) (hS : va_S (AA 12 ad s.heap.size) s.heap H locs) (hl : lv_has ls 2 [(0, .ref (ad 0))]) : W p l e ({ frames := 0, cells := 0, slots := 0, locals := 0 } : Room) s m args below meth c H locs 0 0 (ZZ below args s (dC, dI) 12 ad (celM ad cA cZ) Q) (F0 m 22 ls [.int t0]) := by
  obtain ⟨hx, hb, hml, hown, hts, hr, hlocks⟩ := C0
  have hD := wd_D (s := s) (cel := celM ad cA cZ) (σ := s0) hi
  unfold B_X11_spellsCrossing_22 at hv
  refine lv_istore_n (lv' := [(1, .int t0), (0, .ref (ad 0))]) hx hb dX11_spellsCrossing_22 rfl hl (by decide) rfl (fun ls hl => ?_)
  refine lv_iload_n hx hb dX11_spellsCrossing_23 rfl (lv_at hl 0 rfl) ?_
  refine lv_if_eq (tgt := 159) hx hb dX11_spellsCrossing_24 (by decide) (fun c24 => ?_) (fun c24 => ?_)
  · have hv := hv.1 c24
    refine lv_iconst (v := 0) hx hb dX11_spellsCrossing_159 (by decide) ?_
    exact r_zret hx hb hr hlocks (Or.inl rfl) hv hP hS dX11_spellsCrossing_160
  · have hv := hv.2 c24
    refine lv_aload_n hx hb dX11_spellsCrossing_27 rfl (lv_at hl 1 rfl) ?_
    refine r_get hx hb hts (iwX11_spellsCrossing_X11) hown hK.1 hP 0 (by decide) (ceMo_0 (s0 0)) rfl 10 (by decide) (hts _ kX11_spellsCrossing_3) (v := .ref (ad 9)) rfl dX11_spellsCrossing_28 ?_
    refine lv_aload_n hx hb dX11_spellsCrossing_31 rfl (lv_at hl 1 rfl) ?_
    refine r_get hx hb hts (iwX11_spellsCrossing_X11) hown hK.1 hP 0 (by decide) (ceMo_0 (s0 0)) rfl 12 (by decide) (hts _ kX11_spellsCrossing_4) (v := .int (s0 0 12)) rfl dX11_spellsCrossing_32 ?_
    obtain ⟨hin, hv⟩ := hv
    refine r_iald hx hb hK.1 hP 9 (by decide) (ceMo_9 (s0 9)) hin dX11_spellsCrossing_35 ?_
    refine lv_bipush (v := 99) hx hb dX11_spellsCrossing_36 (by decide) ?_
    refine lv_icmp_ne (tgt := 159) hx hb dX11_spellsCrossing_38 (by decide) (fun c38 => ?_) (fun c38 => ?_)
    · have hv := hv.1 c38
      refine lv_iconst (v := 0) hx hb dX11_spellsCrossing_159 (by decide) ?_
      exact r_zret hx hb hr hlocks (Or.inl rfl) hv hP hS dX11_spellsCrossing_160
    · have hv := hv.2 c38
      refine lv_aload_n hx hb dX11_spellsCrossing_41 rfl (lv_at hl 1 rfl) ?_
      refine r_get hx hb hts (iwX11_spellsCrossing_X11) hown hK.1 hP 0 (by decide) (ceMo_0 (s0 0)) rfl 10 (by decide) (hts _ kX11_spellsCrossing_3) (v := .ref (ad 9)) rfl dX11_spellsCrossing_42 ?_
      refine lv_aload_n hx hb dX11_spellsCrossing_45 rfl (lv_at hl 1 rfl) ?_
      refine r_get hx hb hts (iwX11_spellsCrossing_X11) hown hK.1 hP 0 (by decide) (ceMo_0 (s0 0)) rfl 12 (by decide) (hts _ kX11_spellsCrossing_4) (v := .int (s0 0 12)) rfl dX11_spellsCrossing_46 ?_
      refine lv_iconst (v := 1) hx hb dX11_spellsCrossing_49 (by decide) ?_
      refine lv_iadd hx hb dX11_spellsCrossing_50 ?_
      obtain ⟨hin, hv⟩ := hv
      refine r_iald hx hb hK.1 hP 9 (by decide) (ceMo_9 (s0 9)) hin dX11_spellsCrossing_51 ?_
      refine lv_bipush (v := 114) hx hb dX11_spellsCrossing_52 (by decide) ?_
      refine lv_icmp_ne (tgt := 159) hx hb dX11_spellsCrossing_54 (by decide) (fun c54 => ?_) (fun c54 => ?_)
      · have hv := hv.1 c54
        refine lv_iconst (v := 0) hx hb dX11_spellsCrossing_159 (by decide) ?_
        exact r_zret hx hb hr hlocks (Or.inl rfl) hv hP hS dX11_spellsCrossing_160
      · have hv := hv.2 c54
        refine lv_aload_n hx hb dX11_spellsCrossing_57 rfl (lv_at hl 1 rfl) ?_
        refine r_get hx hb hts (iwX11_spellsCrossing_X11) hown hK.1 hP 0 (by decide) (ceMo_0 (s0 0)) rfl 10 (by decide) (hts _ kX11_spellsCrossing_3) (v := .ref (ad 9)) rfl dX11_spellsCrossing_58 ?_
        refine lv_aload_n hx hb dX11_spellsCrossing_61 rfl (lv_at hl 1 rfl) ?_
        refine r_get hx hb hts (iwX11_spellsCrossing_X11) hown hK.1 hP 0 (by decide) (ceMo_0 (s0 0)) rfl 12 (by decide) (hts _ kX11_spellsCrossing_4) (v := .int (s0 0 12)) rfl dX11_spellsCrossing_62 ?_
        refine lv_iconst (v := 2) hx hb dX11_spellsCrossing_65 (by decide) ?_
        refine lv_iadd hx hb dX11_spellsCrossing_66 ?_
        obtain ⟨hin, hv⟩ := hv
        refine r_iald hx hb hK.1 hP 9 (by decide) (ceMo_9 (s0 9)) hin dX11_spellsCrossing_67 ?_
        refine lv_bipush (v := 111) hx hb dX11_spellsCrossing_68 (by decide) ?_
        refine lv_icmp_ne (tgt := 159) hx hb dX11_spellsCrossing_70 (by decide) (fun c70 => ?_) (fun c70 => ?_)
        · have hv := hv.1 c70
          refine lv_iconst (v := 0) hx hb dX11_spellsCrossing_159 (by decide) ?_
          exact r_zret hx hb hr hlocks (Or.inl rfl) hv hP hS dX11_spellsCrossing_160
        · have hv := hv.2 c70
          refine lv_aload_n hx hb dX11_spellsCrossing_73 rfl (lv_at hl 1 rfl) ?_
          refine r_get hx hb hts (iwX11_spellsCrossing_X11) hown hK.1 hP 0 (by decide) (ceMo_0 (s0 0)) rfl 10 (by decide) (hts _ kX11_spellsCrossing_3) (v := .ref (ad 9)) rfl dX11_spellsCrossing_74 ?_
          refine lv_aload_n hx hb dX11_spellsCrossing_77 rfl (lv_at hl 1 rfl) ?_
          refine r_get hx hb hts (iwX11_spellsCrossing_X11) hown hK.1 hP 0 (by decide) (ceMo_0 (s0 0)) rfl 12 (by decide) (hts _ kX11_spellsCrossing_4) (v := .int (s0 0 12)) rfl dX11_spellsCrossing_78 ?_
          refine lv_iconst (v := 3) hx hb dX11_spellsCrossing_81 (by decide) ?_
          refine lv_iadd hx hb dX11_spellsCrossing_82 ?_
          obtain ⟨hin, hv⟩ := hv
          refine r_iald hx hb hK.1 hP 9 (by decide) (ceMo_9 (s0 9)) hin dX11_spellsCrossing_83 ?_
          refine lv_bipush (v := 115) hx hb dX11_spellsCrossing_84 (by decide) ?_
          refine lv_icmp_ne (tgt := 159) hx hb dX11_spellsCrossing_86 (by decide) (fun c86 => ?_) (fun c86 => ?_)
          · have hv := hv.1 c86
            refine lv_iconst (v := 0) hx hb dX11_spellsCrossing_159 (by decide) ?_
            exact r_zret hx hb hr hlocks (Or.inl rfl) hv hP hS dX11_spellsCrossing_160
          · have hv := hv.2 c86
            refine lv_aload_n hx hb dX11_spellsCrossing_89 rfl (lv_at hl 1 rfl) ?_
            refine r_get hx hb hts (iwX11_spellsCrossing_X11) hown hK.1 hP 0 (by decide) (ceMo_0 (s0 0)) rfl 10 (by decide) (hts _ kX11_spellsCrossing_3) (v := .ref (ad 9)) rfl dX11_spellsCrossing_90 ?_
            refine lv_aload_n hx hb dX11_spellsCrossing_93 rfl (lv_at hl 1 rfl) ?_
            refine r_get hx hb hts (iwX11_spellsCrossing_X11) hown hK.1 hP 0 (by decide) (ceMo_0 (s0 0)) rfl 12 (by decide) (hts _ kX11_spellsCrossing_4) (v := .int (s0 0 12)) rfl dX11_spellsCrossing_94 ?_
            refine lv_iconst (v := 4) hx hb dX11_spellsCrossing_97 (by decide) ?_
            refine lv_iadd hx hb dX11_spellsCrossing_98 ?_
            obtain ⟨hin, hv⟩ := hv
            refine r_iald hx hb hK.1 hP 9 (by decide) (ceMo_9 (s0 9)) hin dX11_spellsCrossing_99 ?_
            refine lv_bipush (v := 115) hx hb dX11_spellsCrossing_100 (by decide) ?_
            refine lv_icmp_ne (tgt := 159) hx hb dX11_spellsCrossing_102 (by decide) (fun c102 => ?_) (fun c102 => ?_)
            · have hv := hv.1 c102
              refine lv_iconst (v := 0) hx hb dX11_spellsCrossing_159 (by decide) ?_
              exact r_zret hx hb hr hlocks (Or.inl rfl) hv hP hS dX11_spellsCrossing_160
            · have hv := hv.2 c102
              refine lv_aload_n hx hb dX11_spellsCrossing_105 rfl (lv_at hl 1 rfl) ?_
              refine r_get hx hb hts (iwX11_spellsCrossing_X11) hown hK.1 hP 0 (by decide) (ceMo_0 (s0 0)) rfl 10 (by decide) (hts _ kX11_spellsCrossing_3) (v := .ref (ad 9)) rfl dX11_spellsCrossing_106 ?_
              refine lv_aload_n hx hb dX11_spellsCrossing_109 rfl (lv_at hl 1 rfl) ?_
              refine r_get hx hb hts (iwX11_spellsCrossing_X11) hown hK.1 hP 0 (by decide) (ceMo_0 (s0 0)) rfl 12 (by decide) (hts _ kX11_spellsCrossing_4) (v := .int (s0 0 12)) rfl dX11_spellsCrossing_110 ?_
              refine lv_iconst (v := 5) hx hb dX11_spellsCrossing_113 (by decide) ?_
              refine lv_iadd hx hb dX11_spellsCrossing_114 ?_
              obtain ⟨hin, hv⟩ := hv
              refine r_iald hx hb hK.1 hP 9 (by decide) (ceMo_9 (s0 9)) hin dX11_spellsCrossing_115 ?_
              refine lv_bipush (v := 105) hx hb dX11_spellsCrossing_116 (by decide) ?_
              refine lv_icmp_ne (tgt := 159) hx hb dX11_spellsCrossing_118 (by decide) (fun c118 => ?_) (fun c118 => ?_)
              · have hv := hv.1 c118
                refine lv_iconst (v := 0) hx hb dX11_spellsCrossing_159 (by decide) ?_
                exact r_zret hx hb hr hlocks (Or.inl rfl) hv hP hS dX11_spellsCrossing_160
              · have hv := hv.2 c118
                refine lv_aload_n hx hb dX11_spellsCrossing_121 rfl (lv_at hl 1 rfl) ?_
                refine r_get hx hb hts (iwX11_spellsCrossing_X11) hown hK.1 hP 0 (by decide) (ceMo_0 (s0 0)) rfl 10 (by decide) (hts _ kX11_spellsCrossing_3) (v := .ref (ad 9)) rfl dX11_spellsCrossing_122 ?_
                refine lv_aload_n hx hb dX11_spellsCrossing_125 rfl (lv_at hl 1 rfl) ?_
                refine r_get hx hb hts (iwX11_spellsCrossing_X11) hown hK.1 hP 0 (by decide) (ceMo_0 (s0 0)) rfl 12 (by decide) (hts _ kX11_spellsCrossing_4) (v := .int (s0 0 12)) rfl dX11_spellsCrossing_126 ?_
                refine lv_bipush (v := 6) hx hb dX11_spellsCrossing_129 (by decide) ?_
                refine lv_iadd hx hb dX11_spellsCrossing_131 ?_
                obtain ⟨hin, hv⟩ := hv
                refine r_iald hx hb hK.1 hP 9 (by decide) (ceMo_9 (s0 9)) hin dX11_spellsCrossing_132 ?_
                refine lv_bipush (v := 110) hx hb dX11_spellsCrossing_133 (by decide) ?_
                refine lv_icmp_ne (tgt := 159) hx hb dX11_spellsCrossing_135 (by decide) (fun c135 => ?_) (fun c135 => ?_)
                · have hv := hv.1 c135
                  refine lv_iconst (v := 0) hx hb dX11_spellsCrossing_159 (by decide) ?_
                  exact r_zret hx hb hr hlocks (Or.inl rfl) hv hP hS dX11_spellsCrossing_160
                · have hv := hv.2 c135
                  refine lv_aload_n hx hb dX11_spellsCrossing_138 rfl (lv_at hl 1 rfl) ?_
                  refine r_get hx hb hts (iwX11_spellsCrossing_X11) hown hK.1 hP 0 (by decide) (ceMo_0 (s0 0)) rfl 10 (by decide) (hts _ kX11_spellsCrossing_3) (v := .ref (ad 9)) rfl dX11_spellsCrossing_139 ?_
                  refine lv_aload_n hx hb dX11_spellsCrossing_142 rfl (lv_at hl 1 rfl) ?_
                  refine r_get hx hb hts (iwX11_spellsCrossing_X11) hown hK.1 hP 0 (by decide) (ceMo_0 (s0 0)) rfl 12 (by decide) (hts _ kX11_spellsCrossing_4) (v := .int (s0 0 12)) rfl dX11_spellsCrossing_143 ?_
                  refine lv_bipush (v := 7) hx hb dX11_spellsCrossing_146 (by decide) ?_
                  refine lv_iadd hx hb dX11_spellsCrossing_148 ?_
                  obtain ⟨hin, hv⟩ := hv
                  refine r_iald hx hb hK.1 hP 9 (by decide) (ceMo_9 (s0 9)) hin dX11_spellsCrossing_149 ?_
                  refine lv_bipush (v := 103) hx hb dX11_spellsCrossing_150 (by decide) ?_
                  refine lv_icmp_ne (tgt := 159) hx hb dX11_spellsCrossing_152 (by decide) (fun c152 => ?_) (fun c152 => ?_)
                  · have hv := hv.1 c152
                    refine lv_iconst (v := 0) hx hb dX11_spellsCrossing_159 (by decide) ?_
                    exact r_zret hx hb hr hlocks (Or.inl rfl) hv hP hS dX11_spellsCrossing_160
                  · have hv := hv.2 c152
                    refine lv_iconst (v := 1) hx hb dX11_spellsCrossing_155 (by decide) ?_
                    refine lv_goto (tgt := 160) hx hb dX11_spellsCrossing_156 (by decide) ?_
                    exact r_zret hx hb hr hlocks (Or.inr rfl) hv hP hS dX11_spellsCrossing_160
set_option maxHeartbeats 4000000 in
theorem y_X11_spellsCrossing {p : Program} {l : Launch} {e : Env} {s : State} {m : MethodId} {args : Array Value} {below : List Frame} {meth : Method} {c : Code} {dC : Nat → ClassId} {dI : Nat → Nat → Nat} {ad : Nat → Nat} {cA cZ : ClassId} (hi : Inj 12 ad)   (C0 : Cx cX11_spellsCrossing RX11 wsX11_spellsCrossing 2 (some .boolean) p s m args meth c) (hK : KK dC dI cA cZ s) (Q : Int32 → St → Prop) : ∀ P xs ys σ, R_X11_spellsCrossing  Q P xs ys σ → XX p l e ({ frames := 0, cells := 0, slots := 0, locals := 0 } : Room) s m args below meth c (dC, dI) 12 ad (celM ad cA cZ) 2 (ZZ below args s (dC, dI) 12 ad (celM ad cA cZ) Q) (lay_X11_spellsCrossing ad ) P xs ys σ := by
  refine Fx.elim _ (fun P xs ys σ Y hY hB => ?_)
  rcases hB with ⟨rfl, t0, rfl, rfl, hB⟩
  · intro lv st he H locs ls hP hS hl
    cases he
    exact w_X11_spellsCrossing_22 hi   C0 hK Q Y hY t0 σ hB hP hS hl
set_option maxHeartbeats 4000000 in
theorem c_X11_spellsCrossing {l : Launch} {dC : Nat → ClassId} {dI : Nat → Nat → Nat} {ad : Nat → Nat} {cA cZ : ClassId} (hi : Inj 12 ad)   (s0 : St) (Q : Int32 → St → Prop) (hv : V_X11_spellsCrossing  s0 Q) (sz : Nat) : Met l yX11_spellsCrossing wsX11_spellsCrossing ({ frames := 0, cells := 0, slots := 0, locals := 0 } : Room) (va_Pc [.ref (ad 0)] (PW dC dI ad cA cZ 12 (celM ad cA cZ) sz s0)) (va_Qi (fun r u => (r = 0 ∨ r = 1) ∧ Q r u) (fun u t => va_P (dC, dI) vwCl (wd 12 ad (celM ad cA cZ) u) t.heap) (AA 12 ad sz)) 0 0 (AA 12 ad sz) := by
  refine Met.ofW (cc := cX11_spellsCrossing) (maxL := 2) (ret := (some .boolean)) (by decide) rfl ?_
  intro p e s m args below meth c s₁ B hml hv0
  obtain ⟨rfl, hsz, hP, hK⟩ := hv0
  subst hsz
  have C0 : Cx cX11_spellsCrossing RX11 wsX11_spellsCrossing 2 (some .boolean) p s m ([.ref (ad 0)] : List Value).toArray meth c := ⟨B.exec, B.bytes, hml, findClass_of_methodNamed B.named, atoms_spec (ws := wsX11_spellsCrossing) B.pre, B.returns, B.notSynchronized⟩
  have hl := lv_entry ([.ref (ad 0)]) (n := 2) (Nat.le_of_ble_eq_true rfl)
  rw [lg_entry_eq]
  generalize (lg_sl ([.ref (ad 0)]) ++ List.replicate (2 - (lg_sl ([.ref (ad 0)])).length) Slot.unset).toArray = ls at hl ⊢
  have hl : lv_has ls 2 [(0, .ref (ad 0))] := hl
  exact w_X11_spellsCrossing_e hi   C0 hK Q (R_X11_spellsCrossing  Q) (y_X11_spellsCrossing hi   C0 hK Q)  s0 hv hP va_S.rf hl
def lay_X11_takesItem (ad : Nat → Nat)  : Nat → List Int32 → List Int64 → Option (List (Nat × Value) × List Value) := fun P xs ys => match P, xs, ys with
  | _, _, _ => none
set_option maxHeartbeats 4000000 in
set_option maxRecDepth 100000 in
theorem w_X11_takesItem_e {p : Program} {l : Launch} {e : Env} {s : State} {m : MethodId} {args : Array Value} {below : List Frame} {meth : Method} {c : Code} {dC : Nat → ClassId} {dI : Nat → Nat → Nat} {ad : Nat → Nat} {cA cZ : ClassId} (hi : Inj 12 ad)   (C0 : Cx cX11_takesItem RX11 wsX11_takesItem 1 (some .boolean) p s m args meth c) (hK : KK dC dI cA cZ s) (Q : Int32 → St → Prop) (Y : Nat → List Int32 → List Int64 → St → Prop) (hY : ∀ P xs ys σ, Y P xs ys σ → XX p l e ({ frames := 6, cells := 0, slots := 0, locals := 136 } : Room) s m args below meth c (dC, dI) 12 ad (celM ad cA cZ) 1 (ZZ below args s (dC, dI) 12 ad (celM ad cA cZ) Q) (lay_X11_takesItem ad ) P xs ys σ)  (s0 : St) (hv : B_X11_takesItem_e  Q Y  s0) {H : Heap} {locs : List Loc} {ls : Array Slot} (hP : va_P (dC, dI) vwCl (wd 12 ad (celM ad cA cZ) s0) H) (hS : va_S (AA 12 ad s.heap.size) s.heap H locs) (hl : lv_has ls 1 [(0, .ref (ad 0))]) : W p l e ({ frames := 6, cells := 0, slots := 0, locals := 136 } : Room) s m args below meth c H locs 0 0 (ZZ below args s (dC, dI) 12 ad (celM ad cA cZ) Q) (F0 m 0 ls []) := by
  obtain ⟨hx, hb, hml, hown, hts, hr, hlocks⟩ := C0
  have hD := wd_D (s := s) (cel := celM ad cA cZ) (σ := s0) hi
  unfold B_X11_takesItem_e at hv
  refine lv_aload_n hx hb dX11_takesItem_0 rfl (lv_at hl 0 rfl) ?_
  refine lv_iconst (v := 3) hx hb dX11_takesItem_1 (by decide) ?_
  refine lv_bipush (v := 119) hx hb dX11_takesItem_2 (by decide) ?_
  refine lv_bipush (v := 101) hx hb dX11_takesItem_4 (by decide) ?_
  refine lv_bipush (v := 116) hx hb dX11_takesItem_6 (by decide) ?_
  refine lv_iconst (v := 0) hx hb dX11_takesItem_8 (by decide) ?_
  refine lv_iconst (v := 0) hx hb dX11_takesItem_9 (by decide) ?_
  refine lv_iconst (v := 0) hx hb dX11_takesItem_10 (by decide) ?_
  refine r_ci (va_runV (As := [.int 3, .int 119, .int 101, .int 116, .int 0, .int 0, .int 0]) (rest := []) ⟨hx, hb, hml, hown, hts⟩ (c_X11_spells hi 3 119 101 116 0 0 0 s0 _ hv H.size) (cwV 7 hts gX11_takesItem_X11_spells rfl rfl rfl (by decide +kernel) ⟨Nat.le_of_ble_eq_true rfl, Nat.le_of_ble_eq_true rfl⟩) ⟨pre_blind, r_recv hK.1 hP 0 (by decide) (ceMo_0 (s0 0)) rfl, pre_of hP hK⟩ rfl rfl hl.1 rfl (lv_room (Nat.le_of_ble_eq_true rfl)) dX11_takesItem_11 ⟨Nat.zero_le _, Nat.zero_le _⟩) hS (fun r1 s1 H locs hv hP hS => ?_)
  obtain ⟨hz_r1, hv⟩ := hv
  have hD := wd_D (s := s) (cel := celM ad cA cZ) (σ := s1) hi
  refine lv_if_eq (tgt := 22) hx hb dX11_takesItem_14 (by decide) (fun c14 => ?_) (fun c14 => ?_)
  · have hv := hv.1 c14
    refine lv_aload_n hx hb dX11_takesItem_22 rfl (lv_at hl 0 rfl) ?_
    refine lv_iconst (v := 5) hx hb dX11_takesItem_23 (by decide) ?_
    refine lv_bipush (v := 103) hx hb dX11_takesItem_24 (by decide) ?_
    refine lv_bipush (v := 108) hx hb dX11_takesItem_26 (by decide) ?_
    refine lv_bipush (v := 111) hx hb dX11_takesItem_28 (by decide) ?_
    refine lv_bipush (v := 118) hx hb dX11_takesItem_30 (by decide) ?_
    refine lv_bipush (v := 101) hx hb dX11_takesItem_32 (by decide) ?_
    refine lv_iconst (v := 0) hx hb dX11_takesItem_34 (by decide) ?_
    refine r_ci (va_runV (As := [.int 5, .int 103, .int 108, .int 111, .int 118, .int 101, .int 0]) (rest := []) ⟨hx, hb, hml, hown, hts⟩ (c_X11_spells hi 5 103 108 111 118 101 0 s1 _ hv H.size) (cwV 7 hts gX11_takesItem_X11_spells rfl rfl rfl (by decide +kernel) ⟨Nat.le_of_ble_eq_true rfl, Nat.le_of_ble_eq_true rfl⟩) ⟨pre_blind, r_recv hK.1 hP 0 (by decide) (ceMo_0 (s1 0)) rfl, pre_of hP hK⟩ rfl rfl hl.1 rfl (lv_room (Nat.le_of_ble_eq_true rfl)) dX11_takesItem_35 ⟨Nat.zero_le _, Nat.zero_le _⟩) hS (fun r2 s2 H locs hv hP hS => ?_)
    obtain ⟨hz_r2, hv⟩ := hv
    have hD := wd_D (s := s) (cel := celM ad cA cZ) (σ := s2) hi
    refine lv_if_eq (tgt := 46) hx hb dX11_takesItem_38 (by decide) (fun c38 => ?_) (fun c38 => ?_)
    · have hv := hv.1 c38
      refine lv_aload_n hx hb dX11_takesItem_46 rfl (lv_at hl 0 rfl) ?_
      refine r_ci (va_runV (As := []) (rest := []) ⟨hx, hb, hml, hown, hts⟩ (c_X11_spellsCrossing hi  s2 _ hv H.size) (cwV 0 hts gX11_takesItem_X11_spellsCrossing rfl rfl rfl (by decide +kernel) ⟨Nat.le_of_ble_eq_true rfl, Nat.le_of_ble_eq_true rfl⟩) ⟨pre_blind, r_recv hK.1 hP 0 (by decide) (ceMo_0 (s2 0)) rfl, pre_of hP hK⟩ rfl rfl hl.1 rfl (lv_room (Nat.le_of_ble_eq_true rfl)) dX11_takesItem_47 ⟨Nat.zero_le _, Nat.zero_le _⟩) hS (fun r3 s3 H locs hv hP hS => ?_)
      obtain ⟨hz_r3, hv⟩ := hv
      have hD := wd_D (s := s) (cel := celM ad cA cZ) (σ := s3) hi
      refine lv_if_eq (tgt := 58) hx hb dX11_takesItem_50 (by decide) (fun c50 => ?_) (fun c50 => ?_)
      · have hv := hv.1 c50
        refine lv_aload_n hx hb dX11_takesItem_58 rfl (lv_at hl 0 rfl) ?_
        refine lv_iconst (v := 4) hx hb dX11_takesItem_59 (by decide) ?_
        refine lv_bipush (v := 115) hx hb dX11_takesItem_60 (by decide) ?_
        refine lv_bipush (v := 104) hx hb dX11_takesItem_62 (by decide) ?_
        refine lv_bipush (v := 117) hx hb dX11_takesItem_64 (by decide) ?_
        refine lv_bipush (v := 116) hx hb dX11_takesItem_66 (by decide) ?_
        refine lv_iconst (v := 0) hx hb dX11_takesItem_68 (by decide) ?_
        refine lv_iconst (v := 0) hx hb dX11_takesItem_69 (by decide) ?_
        refine r_ci (va_runV (As := [.int 4, .int 115, .int 104, .int 117, .int 116, .int 0, .int 0]) (rest := []) ⟨hx, hb, hml, hown, hts⟩ (c_X11_spells hi 4 115 104 117 116 0 0 s3 _ hv H.size) (cwV 7 hts gX11_takesItem_X11_spells rfl rfl rfl (by decide +kernel) ⟨Nat.le_of_ble_eq_true rfl, Nat.le_of_ble_eq_true rfl⟩) ⟨pre_blind, r_recv hK.1 hP 0 (by decide) (ceMo_0 (s3 0)) rfl, pre_of hP hK⟩ rfl rfl hl.1 rfl (lv_room (Nat.le_of_ble_eq_true rfl)) dX11_takesItem_70 ⟨Nat.zero_le _, Nat.zero_le _⟩) hS (fun r4 s4 H locs hv hP hS => ?_)
        obtain ⟨hz_r4, hv⟩ := hv
        have hD := wd_D (s := s) (cel := celM ad cA cZ) (σ := s4) hi
        refine lv_if_eq (tgt := 81) hx hb dX11_takesItem_73 (by decide) (fun c73 => ?_) (fun c73 => ?_)
        · have hv := hv.1 c73
          refine lv_aload_n hx hb dX11_takesItem_81 rfl (lv_at hl 0 rfl) ?_
          refine lv_iconst (v := 5) hx hb dX11_takesItem_82 (by decide) ?_
          refine lv_bipush (v := 104) hx hb dX11_takesItem_83 (by decide) ?_
          refine lv_bipush (v := 111) hx hb dX11_takesItem_85 (by decide) ?_
          refine lv_bipush (v := 117) hx hb dX11_takesItem_87 (by decide) ?_
          refine lv_bipush (v := 114) hx hb dX11_takesItem_89 (by decide) ?_
          refine lv_bipush (v := 115) hx hb dX11_takesItem_91 (by decide) ?_
          refine lv_iconst (v := 0) hx hb dX11_takesItem_93 (by decide) ?_
          refine r_ci (va_runV (As := [.int 5, .int 104, .int 111, .int 117, .int 114, .int 115, .int 0]) (rest := []) ⟨hx, hb, hml, hown, hts⟩ (c_X11_spells hi 5 104 111 117 114 115 0 s4 _ hv H.size) (cwV 7 hts gX11_takesItem_X11_spells rfl rfl rfl (by decide +kernel) ⟨Nat.le_of_ble_eq_true rfl, Nat.le_of_ble_eq_true rfl⟩) ⟨pre_blind, r_recv hK.1 hP 0 (by decide) (ceMo_0 (s4 0)) rfl, pre_of hP hK⟩ rfl rfl hl.1 rfl (lv_room (Nat.le_of_ble_eq_true rfl)) dX11_takesItem_94 ⟨Nat.zero_le _, Nat.zero_le _⟩) hS (fun r5 s5 H locs hv hP hS => ?_)
          obtain ⟨hz_r5, hv⟩ := hv
          have hD := wd_D (s := s) (cel := celM ad cA cZ) (σ := s5) hi
          refine lv_if_eq (tgt := 111) hx hb dX11_takesItem_97 (by decide) (fun c97 => ?_) (fun c97 => ?_)
          · have hv := hv.1 c97
            refine lv_iconst (v := 0) hx hb dX11_takesItem_111 (by decide) ?_
            exact r_zret hx hb hr hlocks (Or.inl rfl) hv hP hS dX11_takesItem_112
          · have hv := hv.2 c97
            refine lv_aload_n hx hb dX11_takesItem_100 rfl (lv_at hl 0 rfl) ?_
            refine r_ci (va_runV (As := []) (rest := []) ⟨hx, hb, hml, hown, hts⟩ (c_X11_takesHours hi  s5 _ hv H.size) (cwV 0 hts gX11_takesItem_X11_takesHours rfl rfl rfl (by decide +kernel) ⟨Nat.le_of_ble_eq_true rfl, Nat.le_of_ble_eq_true rfl⟩) ⟨pre_blind, r_recv hK.1 hP 0 (by decide) (ceMo_0 (s5 0)) rfl, pre_of hP hK⟩ rfl rfl hl.1 rfl (lv_room (Nat.le_of_ble_eq_true rfl)) dX11_takesItem_101 ⟨Nat.zero_le _, Nat.zero_le _⟩) hS (fun r6 s6 H locs hv hP hS => ?_)
            obtain ⟨hz_r6, hv⟩ := hv
            have hD := wd_D (s := s) (cel := celM ad cA cZ) (σ := s6) hi
            refine lv_if_eq (tgt := 111) hx hb dX11_takesItem_104 (by decide) (fun c104 => ?_) (fun c104 => ?_)
            · have hv := hv.1 c104
              refine lv_iconst (v := 0) hx hb dX11_takesItem_111 (by decide) ?_
              exact r_zret hx hb hr hlocks (Or.inl rfl) hv hP hS dX11_takesItem_112
            · have hv := hv.2 c104
              refine lv_iconst (v := 1) hx hb dX11_takesItem_107 (by decide) ?_
              refine lv_goto (tgt := 112) hx hb dX11_takesItem_108 (by decide) ?_
              exact r_zret hx hb hr hlocks (Or.inr rfl) hv hP hS dX11_takesItem_112
        · have hv := hv.2 c73
          refine lv_aload_n hx hb dX11_takesItem_76 rfl (lv_at hl 0 rfl) ?_
          refine r_ci (va_runV (As := []) (rest := []) ⟨hx, hb, hml, hown, hts⟩ (c_X11_takesShut hi  s4 _ hv H.size) (cwV 0 hts gX11_takesItem_X11_takesShut rfl rfl rfl (by decide +kernel) ⟨Nat.le_of_ble_eq_true rfl, Nat.le_of_ble_eq_true rfl⟩) ⟨pre_blind, r_recv hK.1 hP 0 (by decide) (ceMo_0 (s4 0)) rfl, pre_of hP hK⟩ rfl rfl hl.1 rfl (lv_room (Nat.le_of_ble_eq_true rfl)) dX11_takesItem_77 ⟨Nat.zero_le _, Nat.zero_le _⟩) hS (fun r7 s7 H locs hv hP hS => ?_)
          obtain ⟨hz_r7, hv⟩ := hv
          have hD := wd_D (s := s) (cel := celM ad cA cZ) (σ := s7) hi
          exact r_zret hx hb hr hlocks hz_r7 hv hP hS dX11_takesItem_80
      · have hv := hv.2 c50
        refine lv_aload_n hx hb dX11_takesItem_53 rfl (lv_at hl 0 rfl) ?_
        refine r_ci (va_runV (As := []) (rest := []) ⟨hx, hb, hml, hown, hts⟩ (c_X11_takesCrossing hi  s3 _ hv H.size) (cwV 0 hts gX11_takesItem_X11_takesCrossing rfl rfl rfl (by decide +kernel) ⟨Nat.le_of_ble_eq_true rfl, Nat.le_of_ble_eq_true rfl⟩) ⟨pre_blind, r_recv hK.1 hP 0 (by decide) (ceMo_0 (s3 0)) rfl, pre_of hP hK⟩ rfl rfl hl.1 rfl (lv_room (Nat.le_of_ble_eq_true rfl)) dX11_takesItem_54 ⟨Nat.zero_le _, Nat.zero_le _⟩) hS (fun r8 s8 H locs hv hP hS => ?_)
        obtain ⟨hz_r8, hv⟩ := hv
        have hD := wd_D (s := s) (cel := celM ad cA cZ) (σ := s8) hi
        exact r_zret hx hb hr hlocks hz_r8 hv hP hS dX11_takesItem_57
    · have hv := hv.2 c38
      refine lv_aload_n hx hb dX11_takesItem_41 rfl (lv_at hl 0 rfl) ?_
      refine r_ci (va_runV (As := []) (rest := []) ⟨hx, hb, hml, hown, hts⟩ (c_X11_takesGlove hi  s2 _ hv H.size) (cwV 0 hts gX11_takesItem_X11_takesGlove rfl rfl rfl (by decide +kernel) ⟨Nat.le_of_ble_eq_true rfl, Nat.le_of_ble_eq_true rfl⟩) ⟨pre_blind, r_recv hK.1 hP 0 (by decide) (ceMo_0 (s2 0)) rfl, pre_of hP hK⟩ rfl rfl hl.1 rfl (lv_room (Nat.le_of_ble_eq_true rfl)) dX11_takesItem_42 ⟨Nat.zero_le _, Nat.zero_le _⟩) hS (fun r9 s9 H locs hv hP hS => ?_)
      obtain ⟨hz_r9, hv⟩ := hv
      have hD := wd_D (s := s) (cel := celM ad cA cZ) (σ := s9) hi
      exact r_zret hx hb hr hlocks hz_r9 hv hP hS dX11_takesItem_45
  · have hv := hv.2 c14
    refine lv_aload_n hx hb dX11_takesItem_17 rfl (lv_at hl 0 rfl) ?_
    refine r_ci (va_runV (As := []) (rest := []) ⟨hx, hb, hml, hown, hts⟩ (c_X11_takesWet hi  s1 _ hv H.size) (cwV 0 hts gX11_takesItem_X11_takesWet rfl rfl rfl (by decide +kernel) ⟨Nat.le_of_ble_eq_true rfl, Nat.le_of_ble_eq_true rfl⟩) ⟨pre_blind, r_recv hK.1 hP 0 (by decide) (ceMo_0 (s1 0)) rfl, pre_of hP hK⟩ rfl rfl hl.1 rfl (lv_room (Nat.le_of_ble_eq_true rfl)) dX11_takesItem_18 ⟨Nat.zero_le _, Nat.zero_le _⟩) hS (fun r10 s10 H locs hv hP hS => ?_)
    obtain ⟨hz_r10, hv⟩ := hv
    have hD := wd_D (s := s) (cel := celM ad cA cZ) (σ := s10) hi
    exact r_zret hx hb hr hlocks hz_r10 hv hP hS dX11_takesItem_21
set_option maxHeartbeats 4000000 in
theorem y_X11_takesItem {p : Program} {l : Launch} {e : Env} {s : State} {m : MethodId} {args : Array Value} {below : List Frame} {meth : Method} {c : Code} {dC : Nat → ClassId} {dI : Nat → Nat → Nat} {ad : Nat → Nat} {cA cZ : ClassId} (hi : Inj 12 ad)   (C0 : Cx cX11_takesItem RX11 wsX11_takesItem 1 (some .boolean) p s m args meth c) (hK : KK dC dI cA cZ s) (Q : Int32 → St → Prop) : ∀ P xs ys σ, R_X11_takesItem  Q P xs ys σ → XX p l e ({ frames := 6, cells := 0, slots := 0, locals := 136 } : Room) s m args below meth c (dC, dI) 12 ad (celM ad cA cZ) 1 (ZZ below args s (dC, dI) 12 ad (celM ad cA cZ) Q) (lay_X11_takesItem ad ) P xs ys σ := by
  refine Fx.elim _ (fun P xs ys σ Y hY hB => ?_)
  exact hB.elim
set_option maxHeartbeats 4000000 in
theorem c_X11_takesItem {l : Launch} {dC : Nat → ClassId} {dI : Nat → Nat → Nat} {ad : Nat → Nat} {cA cZ : ClassId} (hi : Inj 12 ad)   (s0 : St) (Q : Int32 → St → Prop) (hv : V_X11_takesItem  s0 Q) (sz : Nat) : Met l yX11_takesItem wsX11_takesItem ({ frames := 6, cells := 0, slots := 0, locals := 136 } : Room) (va_Pc [.ref (ad 0)] (PW dC dI ad cA cZ 12 (celM ad cA cZ) sz s0)) (va_Qi (fun r u => (r = 0 ∨ r = 1) ∧ Q r u) (fun u t => va_P (dC, dI) vwCl (wd 12 ad (celM ad cA cZ) u) t.heap) (AA 12 ad sz)) 0 0 (AA 12 ad sz) := by
  refine Met.ofW (cc := cX11_takesItem) (maxL := 1) (ret := (some .boolean)) (by decide) rfl ?_
  intro p e s m args below meth c s₁ B hml hv0
  obtain ⟨rfl, hsz, hP, hK⟩ := hv0
  subst hsz
  have C0 : Cx cX11_takesItem RX11 wsX11_takesItem 1 (some .boolean) p s m ([.ref (ad 0)] : List Value).toArray meth c := ⟨B.exec, B.bytes, hml, findClass_of_methodNamed B.named, atoms_spec (ws := wsX11_takesItem) B.pre, B.returns, B.notSynchronized⟩
  have hl := lv_entry ([.ref (ad 0)]) (n := 1) (Nat.le_of_ble_eq_true rfl)
  rw [lg_entry_eq]
  generalize (lg_sl ([.ref (ad 0)]) ++ List.replicate (1 - (lg_sl ([.ref (ad 0)])).length) Slot.unset).toArray = ls at hl ⊢
  have hl : lv_has ls 1 [(0, .ref (ad 0))] := hl
  exact w_X11_takesItem_e hi   C0 hK Q (R_X11_takesItem  Q) (y_X11_takesItem hi   C0 hK Q)  s0 hv hP va_S.rf hl
def lay_X11_read (ad : Nat → Nat)  : Nat → List Int32 → List Int64 → Option (List (Nat × Value) × List Value) := fun P xs ys => match P, xs, ys with
  | 67, [x1], [] => some ([(0, .ref (ad 0)), (1, .int x1)], [])
  | 109, [x1, x2], [] => some ([(0, .ref (ad 0)), (1, .int x1), (2, .int x2)], [])
  | _, _, _ => none
set_option maxHeartbeats 4000000 in
set_option maxRecDepth 100000 in
theorem w_X11_read_e {p : Program} {l : Launch} {e : Env} {s : State} {m : MethodId} {args : Array Value} {below : List Frame} {meth : Method} {c : Code} {dC : Nat → ClassId} {dI : Nat → Nat → Nat} {ad : Nat → Nat} {cA cZ : ClassId} (hi : Inj 12 ad)   (C0 : Cx cX11_read RX11 wsX11_read 3 (some .int) p s m args meth c) (hK : KK dC dI cA cZ s) (Q : Int32 → St → Prop) (Y : Nat → List Int32 → List Int64 → St → Prop) (hY : ∀ P xs ys σ, Y P xs ys σ → XX p l e ({ frames := 7, cells := 0, slots := 0, locals := 156 } : Room) s m args below meth c (dC, dI) 12 ad (celM ad cA cZ) 3 (ZI below args s (dC, dI) 12 ad (celM ad cA cZ) Q) (lay_X11_read ad ) P xs ys σ)  (s0 : St) (hv : B_X11_read_e  Q Y  s0) {H : Heap} {locs : List Loc} {ls : Array Slot} (hP : va_P (dC, dI) vwCl (wd 12 ad (celM ad cA cZ) s0) H) (hS : va_S (AA 12 ad s.heap.size) s.heap H locs) (hl : lv_has ls 3 [(0, .ref (ad 0))]) : W p l e ({ frames := 7, cells := 0, slots := 0, locals := 156 } : Room) s m args below meth c H locs 0 0 (ZI below args s (dC, dI) 12 ad (celM ad cA cZ) Q) (F0 m 0 ls []) := by
  obtain ⟨hx, hb, hml, hown, hts, hr, hlocks⟩ := C0
  have hD := wd_D (s := s) (cel := celM ad cA cZ) (σ := s0) hi
  unfold B_X11_read_e at hv
  refine lv_aload_n hx hb dX11_read_0 rfl (lv_at hl 0 rfl) ?_
  refine lv_iconst (v := 0) hx hb dX11_read_1 (by decide) ?_
  refine r_cv (va_runV (As := [.int 0]) (rest := []) ⟨hx, hb, hml, hown, hts⟩ (c_X11_lookAt hi 0 s0 _ hv H.size) (cwV 1 hts gX11_read_X11_lookAt rfl rfl rfl (by decide +kernel) ⟨Nat.le_of_ble_eq_true rfl, Nat.le_of_ble_eq_true rfl⟩) ⟨pre_blind, r_recv hK.1 hP 0 (by decide) (ceMo_0 (s0 0)) rfl, pre_of hP hK⟩ rfl rfl hl.1 rfl (lv_room (Nat.le_of_ble_eq_true rfl)) dX11_read_2 ⟨Nat.zero_le _, Nat.zero_le _⟩) hS (fun s1 H locs hv hP hS => ?_)
  have hD := wd_D (s := s) (cel := celM ad cA cZ) (σ := s1) hi
  refine lv_aload_n hx hb dX11_read_5 rfl (lv_at hl 0 rfl) ?_
  refine lv_bipush (v := 6) hx hb dX11_read_6 (by decide) ?_
  refine lv_bipush (v := 115) hx hb dX11_read_8 (by decide) ?_
  refine lv_bipush (v := 116) hx hb dX11_read_10 (by decide) ?_
  refine lv_bipush (v := 114) hx hb dX11_read_12 (by decide) ?_
  refine lv_bipush (v := 101) hx hb dX11_read_14 (by decide) ?_
  refine lv_bipush (v := 101) hx hb dX11_read_16 (by decide) ?_
  refine lv_bipush (v := 116) hx hb dX11_read_18 (by decide) ?_
  refine r_ci (va_runV (As := [.int 6, .int 115, .int 116, .int 114, .int 101, .int 101, .int 116]) (rest := []) ⟨hx, hb, hml, hown, hts⟩ (c_X11_spells hi 6 115 116 114 101 101 116 s1 _ hv H.size) (cwV 7 hts gX11_read_X11_spells rfl rfl rfl (by decide +kernel) ⟨Nat.le_of_ble_eq_true rfl, Nat.le_of_ble_eq_true rfl⟩) ⟨pre_blind, r_recv hK.1 hP 0 (by decide) (ceMo_0 (s1 0)) rfl, pre_of hP hK⟩ rfl rfl hl.1 rfl (lv_room (Nat.le_of_ble_eq_true rfl)) dX11_read_20 ⟨Nat.zero_le _, Nat.zero_le _⟩) hS (fun r2 s2 H locs hv hP hS => ?_)
  obtain ⟨hz_r2, hv⟩ := hv
  have hD := wd_D (s := s) (cel := celM ad cA cZ) (σ := s2) hi
  refine lv_if_ne (tgt := 34) hx hb dX11_read_23 (by decide) (fun c23 => ?_) (fun c23 => ?_)
  · have hv := hv.1 c23
    refine lv_aload_n hx hb dX11_read_34 rfl (lv_at hl 0 rfl) ?_
    refine r_cv (va_runV (As := []) (rest := []) ⟨hx, hb, hml, hown, hts⟩ (c_X11_goBehind hi  s2 _ hv H.size) (cwV 0 hts gX11_read_X11_goBehind rfl rfl rfl (by decide +kernel) ⟨Nat.le_of_ble_eq_true rfl, Nat.le_of_ble_eq_true rfl⟩) ⟨pre_blind, r_recv hK.1 hP 0 (by decide) (ceMo_0 (s2 0)) rfl, pre_of hP hK⟩ rfl rfl hl.1 rfl (lv_room (Nat.le_of_ble_eq_true rfl)) dX11_read_35 ⟨Nat.zero_le _, Nat.zero_le _⟩) hS (fun s3 H locs hv hP hS => ?_)
    have hD := wd_D (s := s) (cel := celM ad cA cZ) (σ := s3) hi
    refine lv_aload_n hx hb dX11_read_38 rfl (lv_at hl 0 rfl) ?_
    refine r_get hx hb hts (iwX11_read_X11) hown hK.1 hP 0 (by decide) (ceMo_0 (s3 0)) rfl 14 (by decide) (hts _ kX11_read_2) (v := .int (s3 0 14)) rfl dX11_read_39 ?_
    refine lv_iconst (v := 3) hx hb dX11_read_42 (by decide) ?_
    refine lv_icmp_eq (tgt := 54) hx hb dX11_read_43 (by decide) (fun c43 => ?_) (fun c43 => ?_)
    · have hv := hv.1 c43
      refine lv_aload_n hx hb dX11_read_54 rfl (lv_at hl 0 rfl) ?_
      refine r_cv (va_runV (As := []) (rest := []) ⟨hx, hb, hml, hown, hts⟩ (c_X11_goBehind hi  s3 _ hv H.size) (cwV 0 hts gX11_read_X11_goBehind rfl rfl rfl (by decide +kernel) ⟨Nat.le_of_ble_eq_true rfl, Nat.le_of_ble_eq_true rfl⟩) ⟨pre_blind, r_recv hK.1 hP 0 (by decide) (ceMo_0 (s3 0)) rfl, pre_of hP hK⟩ rfl rfl hl.1 rfl (lv_room (Nat.le_of_ble_eq_true rfl)) dX11_read_55 ⟨Nat.zero_le _, Nat.zero_le _⟩) hS (fun s4 H locs hv hP hS => ?_)
      have hD := wd_D (s := s) (cel := celM ad cA cZ) (σ := s4) hi
      refine lv_aload_n hx hb dX11_read_58 rfl (lv_at hl 0 rfl) ?_
      refine r_get hx hb hts (iwX11_read_X11) hown hK.1 hP 0 (by decide) (ceMo_0 (s4 0)) rfl 16 (by decide) (hts _ kX11_read_3) (v := .ref (ad 10)) rfl dX11_read_59 ?_
      refine r_cv (va_runS (As := [.ref (ad 10)]) (rest := []) ⟨hx, hb, hml, hown, hts⟩ (c_X11_begin hi 10 101 arM_10 s4 _ hv H.size) (va_cwS 1 hts gX11_read_X11_begin rfl rfl rfl (by decide +kernel) ⟨Nat.le_of_ble_eq_true rfl, Nat.le_of_ble_eq_true rfl⟩) ⟨pre_blind, pre_of hP hK⟩ rfl rfl hl.1 rfl (lv_room (Nat.le_of_ble_eq_true rfl)) dX11_read_62 ⟨Nat.zero_le _, Nat.zero_le _⟩) hS (fun s5 H locs hv hP hS => ?_)
      have hD := wd_D (s := s) (cel := celM ad cA cZ) (σ := s5) hi
      refine lv_iconst (v := 1) hx hb dX11_read_65 (by decide) ?_
      refine lv_istore_n (lv' := [(1, .int 1), (0, .ref (ad 0))]) hx hb dX11_read_66 rfl hl (by decide) rfl (fun ls hl => ?_)
      exact hY 67 [1] [] s5 hv _ _ rfl H locs ls hP hS (lv_sub hl [1, 0] rfl)
    · have hv := hv.2 c43
      refine lv_bipush (v := (-10)) hx hb dX11_read_46 (by decide) ?_
      refine lv_aload_n hx hb dX11_read_48 rfl (lv_at hl 0 rfl) ?_
      refine r_get hx hb hts (iwX11_read_X11) hown hK.1 hP 0 (by decide) (ceMo_0 (s3 0)) rfl 12 (by decide) (hts _ kX11_read_1) (v := .int (s3 0 12)) rfl dX11_read_49 ?_
      refine lv_isub hx hb dX11_read_52 ?_
      exact r_iret hx hb hr hlocks hv hP hS dX11_read_53
  · have hv := hv.2 c23
    refine lv_bipush (v := (-10)) hx hb dX11_read_26 (by decide) ?_
    refine lv_aload_n hx hb dX11_read_28 rfl (lv_at hl 0 rfl) ?_
    refine r_get hx hb hts (iwX11_read_X11) hown hK.1 hP 0 (by decide) (ceMo_0 (s2 0)) rfl 12 (by decide) (hts _ kX11_read_1) (v := .int (s2 0 12)) rfl dX11_read_29 ?_
    refine lv_isub hx hb dX11_read_32 ?_
    exact r_iret hx hb hr hlocks hv hP hS dX11_read_33
set_option maxHeartbeats 4000000 in
set_option maxRecDepth 100000 in
theorem w_X11_read_67 {p : Program} {l : Launch} {e : Env} {s : State} {m : MethodId} {args : Array Value} {below : List Frame} {meth : Method} {c : Code} {dC : Nat → ClassId} {dI : Nat → Nat → Nat} {ad : Nat → Nat} {cA cZ : ClassId} (hi : Inj 12 ad)   (C0 : Cx cX11_read RX11 wsX11_read 3 (some .int) p s m args meth c) (hK : KK dC dI cA cZ s) (Q : Int32 → St → Prop) (Y : Nat → List Int32 → List Int64 → St → Prop) (hY : ∀ P xs ys σ, Y P xs ys σ → XX p l e ({ frames := 7, cells := 0, slots := 0, locals := 156 } : Room) s m args below meth c (dC, dI) 12 ad (celM ad cA cZ) 3 (ZI below args s (dC, dI) 12 ad (celM ad cA cZ) Q) (lay_X11_read ad ) P xs ys σ) (x1 : Int32) (s0 : St) (hv : B_X11_read_67  Q Y x1 s0) {H : Heap} {locs : List Loc} {ls : Array Slot} (hP : va_P (dC, dI) vwCl (wd 12 ad (celM ad cA cZ) s0) H) (hS : va_S (AA 12 ad s.heap.size) s.heap H locs) (hl : lv_has ls 3 [(0, .ref (ad 0)), (1, .int x1)]) : W p l e ({ frames := 7, cells := 0, slots := 0, locals := 156 } : Room) s m args below meth c H locs 0 0 (ZI below args s (dC, dI) 12 ad (celM ad cA cZ) Q) (F0 m 67 ls []) := by
  obtain ⟨hx, hb, hml, hown, hts, hr, hlocks⟩ := C0
  have hD := wd_D (s := s) (cel := celM ad cA cZ) (σ := s0) hi
  unfold B_X11_read_67 at hv
  refine lv_aload_n hx hb dX11_read_67 rfl (lv_at hl 0 rfl) ?_
  refine r_get hx hb hts (iwX11_read_X11) hown hK.1 hP 0 (by decide) (ceMo_0 (s0 0)) rfl 14 (by decide) (hts _ kX11_read_2) (v := .int (s0 0 14)) rfl dX11_read_68 ?_
  refine lv_if_eq (tgt := 107) hx hb dX11_read_71 (by decide) (fun c71 => ?_) (fun c71 => ?_)
  · have hv := hv.1 c71
    refine lv_iconst (v := 0) hx hb dX11_read_107 (by decide) ?_
    refine lv_istore_n (lv' := [(2, .int 0), (0, .ref (ad 0)), (1, .int x1)]) hx hb dX11_read_108 rfl hl (by decide) rfl (fun ls hl => ?_)
    exact hY 109 [x1, 0] [] s0 hv _ _ rfl H locs ls hP hS (lv_sub hl [1, 2, 0] rfl)
  · have hv := hv.2 c71
    refine lv_aload_n hx hb dX11_read_74 rfl (lv_at hl 0 rfl) ?_
    refine r_ci (va_runV (As := []) (rest := []) ⟨hx, hb, hml, hown, hts⟩ (c_X11_takesItem hi  s0 _ hv H.size) (cwV 0 hts gX11_read_X11_takesItem rfl rfl rfl (by decide +kernel) ⟨Nat.le_of_ble_eq_true rfl, Nat.le_of_ble_eq_true rfl⟩) ⟨pre_blind, r_recv hK.1 hP 0 (by decide) (ceMo_0 (s0 0)) rfl, pre_of hP hK⟩ rfl rfl hl.1 rfl (lv_room (Nat.le_of_ble_eq_true rfl)) dX11_read_75 ⟨Nat.zero_le _, Nat.zero_le _⟩) hS (fun r1 s1 H locs hv hP hS => ?_)
    obtain ⟨hz_r1, hv⟩ := hv
    have hD := wd_D (s := s) (cel := celM ad cA cZ) (σ := s1) hi
    refine lv_if_eq (tgt := 89) hx hb dX11_read_78 (by decide) (fun c78 => ?_) (fun c78 => ?_)
    · have hv := hv.1 c78
      refine lv_bipush (v := (-10)) hx hb dX11_read_89 (by decide) ?_
      refine lv_aload_n hx hb dX11_read_91 rfl (lv_at hl 0 rfl) ?_
      refine r_get hx hb hts (iwX11_read_X11) hown hK.1 hP 0 (by decide) (ceMo_0 (s1 0)) rfl 12 (by decide) (hts _ kX11_read_1) (v := .int (s1 0 12)) rfl dX11_read_92 ?_
      refine lv_isub hx hb dX11_read_95 ?_
      exact r_iret hx hb hr hlocks hv hP hS dX11_read_96
    · have hv := hv.2 c78
      refine lv_aload_n hx hb dX11_read_81 rfl (lv_at hl 0 rfl) ?_
      refine r_get hx hb hts (iwX11_read_X11) hown hK.1 hP 0 (by decide) (ceMo_0 (s1 0)) rfl 14 (by decide) (hts _ kX11_read_2) (v := .int (s1 0 14)) rfl dX11_read_82 ?_
      refine lv_iconst (v := 3) hx hb dX11_read_85 (by decide) ?_
      refine lv_icmp_eq (tgt := 97) hx hb dX11_read_86 (by decide) (fun c86 => ?_) (fun c86 => ?_)
      · have hv := hv.1 c86
        refine lv_aload_n hx hb dX11_read_97 rfl (lv_at hl 0 rfl) ?_
        refine r_cv (va_runV (As := []) (rest := []) ⟨hx, hb, hml, hown, hts⟩ (c_X11_goBehind hi  s1 _ hv H.size) (cwV 0 hts gX11_read_X11_goBehind rfl rfl rfl (by decide +kernel) ⟨Nat.le_of_ble_eq_true rfl, Nat.le_of_ble_eq_true rfl⟩) ⟨pre_blind, r_recv hK.1 hP 0 (by decide) (ceMo_0 (s1 0)) rfl, pre_of hP hK⟩ rfl rfl hl.1 rfl (lv_room (Nat.le_of_ble_eq_true rfl)) dX11_read_98 ⟨Nat.zero_le _, Nat.zero_le _⟩) hS (fun s2 H locs hv hP hS => ?_)
        have hD := wd_D (s := s) (cel := celM ad cA cZ) (σ := s2) hi
        refine lv_iinc (v := x1 + 1) (lv' := [(1, .int (x1 + 1)), (0, .ref (ad 0))]) hx hb dX11_read_101 hl (k := 1) rfl rfl (by decide) rfl (fun ls hl => ?_)
        refine lv_goto (tgt := 67) hx hb dX11_read_104 (by decide) ?_
        exact hY 67 [x1 + 1] [] s2 hv _ _ rfl H locs ls hP hS (lv_sub hl [1, 0] rfl)
      · have hv := hv.2 c86
        refine lv_bipush (v := (-10)) hx hb dX11_read_89 (by decide) ?_
        refine lv_aload_n hx hb dX11_read_91 rfl (lv_at hl 0 rfl) ?_
        refine r_get hx hb hts (iwX11_read_X11) hown hK.1 hP 0 (by decide) (ceMo_0 (s1 0)) rfl 12 (by decide) (hts _ kX11_read_1) (v := .int (s1 0 12)) rfl dX11_read_92 ?_
        refine lv_isub hx hb dX11_read_95 ?_
        exact r_iret hx hb hr hlocks hv hP hS dX11_read_96
set_option maxHeartbeats 4000000 in
set_option maxRecDepth 100000 in
theorem w_X11_read_109 {p : Program} {l : Launch} {e : Env} {s : State} {m : MethodId} {args : Array Value} {below : List Frame} {meth : Method} {c : Code} {dC : Nat → ClassId} {dI : Nat → Nat → Nat} {ad : Nat → Nat} {cA cZ : ClassId} (hi : Inj 12 ad)   (C0 : Cx cX11_read RX11 wsX11_read 3 (some .int) p s m args meth c) (hK : KK dC dI cA cZ s) (Q : Int32 → St → Prop) (Y : Nat → List Int32 → List Int64 → St → Prop) (hY : ∀ P xs ys σ, Y P xs ys σ → XX p l e ({ frames := 7, cells := 0, slots := 0, locals := 156 } : Room) s m args below meth c (dC, dI) 12 ad (celM ad cA cZ) 3 (ZI below args s (dC, dI) 12 ad (celM ad cA cZ) Q) (lay_X11_read ad ) P xs ys σ) (x1 : Int32) (x2 : Int32) (s0 : St) (hv : B_X11_read_109  Q Y x1 x2 s0) {H : Heap} {locs : List Loc} {ls : Array Slot} (hP : va_P (dC, dI) vwCl (wd 12 ad (celM ad cA cZ) s0) H) (hS : va_S (AA 12 ad s.heap.size) s.heap H locs) (hl : lv_has ls 3 [(0, .ref (ad 0)), (1, .int x1), (2, .int x2)]) : W p l e ({ frames := 7, cells := 0, slots := 0, locals := 156 } : Room) s m args below meth c H locs 0 0 (ZI below args s (dC, dI) 12 ad (celM ad cA cZ) Q) (F0 m 109 ls []) := by
  obtain ⟨hx, hb, hml, hown, hts, hr, hlocks⟩ := C0
  have hD := wd_D (s := s) (cel := celM ad cA cZ) (σ := s0) hi
  unfold B_X11_read_109 at hv
  refine lv_iload_n hx hb dX11_read_109 rfl (lv_at hl 2 rfl) ?_
  refine lv_bipush (v := 101) hx hb dX11_read_110 (by decide) ?_
  refine lv_icmp_ge (tgt := 133) hx hb dX11_read_112 (by decide) (fun c112 => ?_) (fun c112 => ?_)
  · have hv := hv.1 c112
    refine lv_iload_n hx hb dX11_read_133 rfl (lv_at hl 1 rfl) ?_
    exact r_iret hx hb hr hlocks hv hP hS dX11_read_134
  · have hv := hv.2 c112
    refine lv_aload_n hx hb dX11_read_115 rfl (lv_at hl 0 rfl) ?_
    refine r_get hx hb hts (iwX11_read_X11) hown hK.1 hP 0 (by decide) (ceMo_0 (s0 0)) rfl 0 (by decide) (hts _ kX11_read_4) (v := .ref (ad 1)) rfl dX11_read_116 ?_
    refine lv_iload_n hx hb dX11_read_119 rfl (lv_at hl 2 rfl) ?_
    refine lv_aload_n hx hb dX11_read_120 rfl (lv_at hl 0 rfl) ?_
    refine r_get hx hb hts (iwX11_read_X11) hown hK.1 hP 0 (by decide) (ceMo_0 (s0 0)) rfl 16 (by decide) (hts _ kX11_read_3) (v := .ref (ad 10)) rfl dX11_read_121 ?_
    refine lv_iload_n hx hb dX11_read_124 rfl (lv_at hl 2 rfl) ?_
    obtain ⟨hin, hv⟩ := hv
    refine r_iald hx hb hK.1 hP 10 (by decide) (ceMo_10 (s0 10)) hin dX11_read_125 ?_
    obtain ⟨hin, hv⟩ := hv
    refine r_iast hx hb hK.1 hP hD hS 1 (by decide) (ceMo_1 (s0 1)) (ceMo_1 _) hin dX11_read_126 (fun H locs s1 es1 hP hD hS => ?_)
    have hv := hv s1 es1
    refine lv_iinc (v := x2 + 1) (lv' := [(2, .int (x2 + 1)), (0, .ref (ad 0)), (1, .int x1)]) hx hb dX11_read_127 hl (k := 2) rfl rfl (by decide) rfl (fun ls hl => ?_)
    refine lv_goto (tgt := 109) hx hb dX11_read_130 (by decide) ?_
    exact hY 109 [x1, x2 + 1] [] s1 hv _ _ rfl H locs ls hP hS (lv_sub hl [1, 2, 0] rfl)
set_option maxHeartbeats 4000000 in
theorem y_X11_read {p : Program} {l : Launch} {e : Env} {s : State} {m : MethodId} {args : Array Value} {below : List Frame} {meth : Method} {c : Code} {dC : Nat → ClassId} {dI : Nat → Nat → Nat} {ad : Nat → Nat} {cA cZ : ClassId} (hi : Inj 12 ad)   (C0 : Cx cX11_read RX11 wsX11_read 3 (some .int) p s m args meth c) (hK : KK dC dI cA cZ s) (Q : Int32 → St → Prop) : ∀ P xs ys σ, R_X11_read  Q P xs ys σ → XX p l e ({ frames := 7, cells := 0, slots := 0, locals := 156 } : Room) s m args below meth c (dC, dI) 12 ad (celM ad cA cZ) 3 (ZI below args s (dC, dI) 12 ad (celM ad cA cZ) Q) (lay_X11_read ad ) P xs ys σ := by
  refine Fx.elim _ (fun P xs ys σ Y hY hB => ?_)
  rcases hB with ⟨rfl, x1, rfl, rfl, hB⟩ | ⟨rfl, x1, x2, rfl, rfl, hB⟩
  · intro lv st he H locs ls hP hS hl
    cases he
    exact w_X11_read_67 hi   C0 hK Q Y hY x1 σ hB hP hS hl
  · intro lv st he H locs ls hP hS hl
    cases he
    exact w_X11_read_109 hi   C0 hK Q Y hY x1 x2 σ hB hP hS hl
set_option maxHeartbeats 4000000 in
theorem c_X11_read {l : Launch} {dC : Nat → ClassId} {dI : Nat → Nat → Nat} {ad : Nat → Nat} {cA cZ : ClassId} (hi : Inj 12 ad)   (s0 : St) (Q : Int32 → St → Prop) (hv : V_X11_read  s0 Q) (sz : Nat) : Met l yX11_read wsX11_read ({ frames := 7, cells := 0, slots := 0, locals := 156 } : Room) (va_Pc [.ref (ad 0)] (PW dC dI ad cA cZ 12 (celM ad cA cZ) sz s0)) (va_Qi Q (fun u t => va_P (dC, dI) vwCl (wd 12 ad (celM ad cA cZ) u) t.heap) (AA 12 ad sz)) 0 0 (AA 12 ad sz) := by
  refine Met.ofW (cc := cX11_read) (maxL := 3) (ret := (some .int)) (by decide) rfl ?_
  intro p e s m args below meth c s₁ B hml hv0
  obtain ⟨rfl, hsz, hP, hK⟩ := hv0
  subst hsz
  have C0 : Cx cX11_read RX11 wsX11_read 3 (some .int) p s m ([.ref (ad 0)] : List Value).toArray meth c := ⟨B.exec, B.bytes, hml, findClass_of_methodNamed B.named, atoms_spec (ws := wsX11_read) B.pre, B.returns, B.notSynchronized⟩
  have hl := lv_entry ([.ref (ad 0)]) (n := 3) (Nat.le_of_ble_eq_true rfl)
  rw [lg_entry_eq]
  generalize (lg_sl ([.ref (ad 0)]) ++ List.replicate (3 - (lg_sl ([.ref (ad 0)])).length) Slot.unset).toArray = ls at hl ⊢
  have hl : lv_has ls 3 [(0, .ref (ad 0))] := hl
  exact w_X11_read_e hi   C0 hK Q (R_X11_read  Q) (y_X11_read hi   C0 hK Q)  s0 hv hP va_S.rf hl
def lay_X11_part (ad : Nat → Nat) (a1 : Int32) : Nat → List Int32 → List Int64 → Option (List (Nat × Value) × List Value) := fun P xs ys => match P, xs, ys with
  | _, _, _ => none
set_option maxHeartbeats 4000000 in
set_option maxRecDepth 100000 in
theorem w_X11_part_e {p : Program} {l : Launch} {e : Env} {s : State} {m : MethodId} {args : Array Value} {below : List Frame} {meth : Method} {c : Code} {dC : Nat → ClassId} {dI : Nat → Nat → Nat} {ad : Nat → Nat} {cA cZ : ClassId} (hi : Inj 12 ad) (a1 : Int32)  (C0 : Cx cX11_part RX11 wsX11_part 2 (some .long) p s m args meth c) (hK : KK dC dI cA cZ s) (Q : Int64 → St → Prop) (Y : Nat → List Int32 → List Int64 → St → Prop) (hY : ∀ P xs ys σ, Y P xs ys σ → XX p l e ({ frames := 1, cells := 0, slots := 0, locals := 21 } : Room) s m args below meth c (dC, dI) 12 ad (celM ad cA cZ) 2 (ZL below args s (dC, dI) 12 ad (celM ad cA cZ) Q) (lay_X11_part ad a1) P xs ys σ)  (s0 : St) (hv : B_X11_part_e a1 Q Y  s0) {H : Heap} {locs : List Loc} {ls : Array Slot} (hP : va_P (dC, dI) vwCl (wd 12 ad (celM ad cA cZ) s0) H) (hS : va_S (AA 12 ad s.heap.size) s.heap H locs) (hl : lv_has ls 2 [(0, .ref (ad 0)), (1, .int a1)]) : W p l e ({ frames := 1, cells := 0, slots := 0, locals := 21 } : Room) s m args below meth c H locs 0 0 (ZL below args s (dC, dI) 12 ad (celM ad cA cZ) Q) (F0 m 0 ls []) := by
  obtain ⟨hx, hb, hml, hown, hts, hr, hlocks⟩ := C0
  have hD := wd_D (s := s) (cel := celM ad cA cZ) (σ := s0) hi
  unfold B_X11_part_e at hv
  refine lv_iload_n hx hb dX11_part_0 rfl (lv_at hl 1 rfl) ?_
  refine lv_if_ne (tgt := 11) hx hb dX11_part_1 (by decide) (fun c1 => ?_) (fun c1 => ?_)
  · have hv := hv.1 c1
    refine lv_iload_n hx hb dX11_part_11 rfl (lv_at hl 1 rfl) ?_
    refine lv_iconst (v := 1) hx hb dX11_part_12 (by decide) ?_
    refine lv_icmp_ne (tgt := 23) hx hb dX11_part_13 (by decide) (fun c13 => ?_) (fun c13 => ?_)
    · have hv := hv.1 c13
      refine lv_aload_n hx hb dX11_part_23 rfl (lv_at hl 0 rfl) ?_
      refine lv_bipush (v := (-2)) hx hb dX11_part_24 (by decide) ?_
      refine r_ci (va_runV (As := [.int ((-2))]) (rest := []) ⟨hx, hb, hml, hown, hts⟩ (c_X11_bad hi ((-2)) s0 _ hv H.size) (cwV 1 hts gX11_part_X11_bad rfl rfl rfl (by decide +kernel) ⟨Nat.le_of_ble_eq_true rfl, Nat.le_of_ble_eq_true rfl⟩) ⟨pre_blind, r_recv hK.1 hP 0 (by decide) (ceMo_0 (s0 0)) rfl, pre_of hP hK⟩ rfl rfl hl.1 rfl (lv_room (Nat.le_of_ble_eq_true rfl)) dX11_part_26 ⟨Nat.zero_le _, Nat.zero_le _⟩) hS (fun r1 s1 H locs hv hP hS => ?_)
      have hD := wd_D (s := s) (cel := celM ad cA cZ) (σ := s1) hi
      refine lv_i2l (v := r1.toInt64) hx hb dX11_part_29 rfl ?_
      exact r_lret hx hb hr hlocks hv hP hS dX11_part_30
    · have hv := hv.2 c13
      refine lv_aload_n hx hb dX11_part_16 rfl (lv_at hl 0 rfl) ?_
      refine r_get hx hb hts (iwX11_part_X11) hown hK.1 hP 0 (by decide) (ceMo_0 (s0 0)) rfl 5 (by decide) (hts _ kX11_part_2) (v := .long (lg2 (s0 0 30) (s0 0 31))) rfl dX11_part_17 ?_
      refine lv_goto (tgt := 30) hx hb dX11_part_20 (by decide) ?_
      exact r_lret hx hb hr hlocks hv hP hS dX11_part_30
  · have hv := hv.2 c1
    refine lv_aload_n hx hb dX11_part_4 rfl (lv_at hl 0 rfl) ?_
    refine r_get hx hb hts (iwX11_part_X11) hown hK.1 hP 0 (by decide) (ceMo_0 (s0 0)) rfl 4 (by decide) (hts _ kX11_part_1) (v := .long (lg2 (s0 0 28) (s0 0 29))) rfl dX11_part_5 ?_
    refine lv_goto (tgt := 30) hx hb dX11_part_8 (by decide) ?_
    exact r_lret hx hb hr hlocks hv hP hS dX11_part_30
set_option maxHeartbeats 4000000 in
theorem y_X11_part {p : Program} {l : Launch} {e : Env} {s : State} {m : MethodId} {args : Array Value} {below : List Frame} {meth : Method} {c : Code} {dC : Nat → ClassId} {dI : Nat → Nat → Nat} {ad : Nat → Nat} {cA cZ : ClassId} (hi : Inj 12 ad) (a1 : Int32)  (C0 : Cx cX11_part RX11 wsX11_part 2 (some .long) p s m args meth c) (hK : KK dC dI cA cZ s) (Q : Int64 → St → Prop) : ∀ P xs ys σ, R_X11_part a1 Q P xs ys σ → XX p l e ({ frames := 1, cells := 0, slots := 0, locals := 21 } : Room) s m args below meth c (dC, dI) 12 ad (celM ad cA cZ) 2 (ZL below args s (dC, dI) 12 ad (celM ad cA cZ) Q) (lay_X11_part ad a1) P xs ys σ := by
  refine Fx.elim _ (fun P xs ys σ Y hY hB => ?_)
  exact hB.elim
set_option maxHeartbeats 4000000 in
theorem c_X11_part {l : Launch} {dC : Nat → ClassId} {dI : Nat → Nat → Nat} {ad : Nat → Nat} {cA cZ : ClassId} (hi : Inj 12 ad) (a1 : Int32)  (s0 : St) (Q : Int64 → St → Prop) (hv : V_X11_part a1 s0 Q) (sz : Nat) : Met l yX11_part wsX11_part ({ frames := 1, cells := 0, slots := 0, locals := 21 } : Room) (va_Pc [.ref (ad 0), .int a1] (PW dC dI ad cA cZ 12 (celM ad cA cZ) sz s0)) (va_Ql Q (fun u t => va_P (dC, dI) vwCl (wd 12 ad (celM ad cA cZ) u) t.heap) (AA 12 ad sz)) 0 0 (AA 12 ad sz) := by
  refine Met.ofW (cc := cX11_part) (maxL := 2) (ret := (some .long)) (by decide) rfl ?_
  intro p e s m args below meth c s₁ B hml hv0
  obtain ⟨rfl, hsz, hP, hK⟩ := hv0
  subst hsz
  have C0 : Cx cX11_part RX11 wsX11_part 2 (some .long) p s m ([.ref (ad 0), .int a1] : List Value).toArray meth c := ⟨B.exec, B.bytes, hml, findClass_of_methodNamed B.named, atoms_spec (ws := wsX11_part) B.pre, B.returns, B.notSynchronized⟩
  have hl := lv_entry ([.ref (ad 0), .int a1]) (n := 2) (Nat.le_of_ble_eq_true rfl)
  rw [lg_entry_eq]
  generalize (lg_sl ([.ref (ad 0), .int a1]) ++ List.replicate (2 - (lg_sl ([.ref (ad 0), .int a1])).length) Slot.unset).toArray = ls at hl ⊢
  have hl : lv_has ls 2 [(0, .ref (ad 0)), (1, .int a1)] := hl
  exact w_X11_part_e hi a1  C0 hK Q (R_X11_part a1 Q) (y_X11_part hi a1  C0 hK Q)  s0 hv hP va_S.rf hl
def lay_X11_image (ad : Nat → Nat) (a1 : Int32) : Nat → List Int32 → List Int64 → Option (List (Nat × Value) × List Value) := fun P xs ys => match P, xs, ys with
  | 19, [x2], [] => some ([(0, .ref (ad 0)), (1, .int a1), (2, .int x2)], [])
  | _, _, _ => none
set_option maxHeartbeats 4000000 in
set_option maxRecDepth 100000 in
theorem w_X11_image_e {p : Program} {l : Launch} {e : Env} {s : State} {m : MethodId} {args : Array Value} {below : List Frame} {meth : Method} {c : Code} {dC : Nat → ClassId} {dI : Nat → Nat → Nat} {ad : Nat → Nat} {cA cZ : ClassId} (hi : Inj 12 ad) (a1 : Int32)  (C0 : Cx cX11_image RX11 wsX11_image 3 (some .int) p s m args meth c) (hK : KK dC dI cA cZ s) (Q : Int32 → St → Prop) (Y : Nat → List Int32 → List Int64 → St → Prop) (hY : ∀ P xs ys σ, Y P xs ys σ → XX p l e ({ frames := 1, cells := 0, slots := 0, locals := 25 } : Room) s m args below meth c (dC, dI) 12 ad (celM ad cA cZ) 3 (ZI below args s (dC, dI) 12 ad (celM ad cA cZ) Q) (lay_X11_image ad a1) P xs ys σ)  (s0 : St) (hv : B_X11_image_e a1 Q Y  s0) {H : Heap} {locs : List Loc} {ls : Array Slot} (hP : va_P (dC, dI) vwCl (wd 12 ad (celM ad cA cZ) s0) H) (hS : va_S (AA 12 ad s.heap.size) s.heap H locs) (hl : lv_has ls 3 [(0, .ref (ad 0)), (1, .int a1)]) : W p l e ({ frames := 1, cells := 0, slots := 0, locals := 25 } : Room) s m args below meth c H locs 0 0 (ZI below args s (dC, dI) 12 ad (celM ad cA cZ) Q) (F0 m 0 ls []) := by
  obtain ⟨hx, hb, hml, hown, hts, hr, hlocks⟩ := C0
  have hD := wd_D (s := s) (cel := celM ad cA cZ) (σ := s0) hi
  unfold B_X11_image_e at hv
  refine lv_iload_n hx hb dX11_image_0 rfl (lv_at hl 1 rfl) ?_
  refine lv_i2l (v := a1.toInt64) hx hb dX11_image_1 rfl ?_
  refine lv_lconst (v := 0) hx hb dX11_image_2 (by decide) ?_
  refine lv_lconst (v := 1) hx hb dX11_image_3 (by decide) ?_
  refine r_ci (va_runS (As := [.long a1.toInt64, .long 0, .long 1]) (rest := []) ⟨hx, hb, hml, hown, hts⟩ (c_X11_in hi a1.toInt64 0 1 s0 _ hv H.size) (va_cwS 3 hts gX11_image_X11_in rfl rfl rfl (by decide +kernel) ⟨Nat.le_of_ble_eq_true rfl, Nat.le_of_ble_eq_true rfl⟩) ⟨pre_blind, pre_of hP hK⟩ rfl rfl hl.1 rfl (lv_room (Nat.le_of_ble_eq_true rfl)) dX11_image_4 ⟨Nat.zero_le _, Nat.zero_le _⟩) hS (fun r1 s1 H locs hv hP hS => ?_)
  obtain ⟨hz_r1, hv⟩ := hv
  have hD := wd_D (s := s) (cel := celM ad cA cZ) (σ := s1) hi
  refine lv_if_ne (tgt := 17) hx hb dX11_image_7 (by decide) (fun c7 => ?_) (fun c7 => ?_)
  · have hv := hv.1 c7
    refine lv_iconst (v := 0) hx hb dX11_image_17 (by decide) ?_
    refine lv_istore_n (lv' := [(2, .int 0), (0, .ref (ad 0)), (1, .int a1)]) hx hb dX11_image_18 rfl hl (by decide) rfl (fun ls hl => ?_)
    exact hY 19 [0] [] s1 hv _ _ rfl H locs ls hP hS (lv_sub hl [1, 2, 0] rfl)
  · have hv := hv.2 c7
    refine lv_aload_n hx hb dX11_image_10 rfl (lv_at hl 0 rfl) ?_
    refine lv_bipush (v := (-2)) hx hb dX11_image_11 (by decide) ?_
    refine r_ci (va_runV (As := [.int ((-2))]) (rest := []) ⟨hx, hb, hml, hown, hts⟩ (c_X11_bad hi ((-2)) s1 _ hv H.size) (cwV 1 hts gX11_image_X11_bad rfl rfl rfl (by decide +kernel) ⟨Nat.le_of_ble_eq_true rfl, Nat.le_of_ble_eq_true rfl⟩) ⟨pre_blind, r_recv hK.1 hP 0 (by decide) (ceMo_0 (s1 0)) rfl, pre_of hP hK⟩ rfl rfl hl.1 rfl (lv_room (Nat.le_of_ble_eq_true rfl)) dX11_image_13 ⟨Nat.zero_le _, Nat.zero_le _⟩) hS (fun r2 s2 H locs hv hP hS => ?_)
    have hD := wd_D (s := s) (cel := celM ad cA cZ) (σ := s2) hi
    exact r_iret hx hb hr hlocks hv hP hS dX11_image_16
set_option maxHeartbeats 4000000 in
set_option maxRecDepth 100000 in
theorem w_X11_image_19 {p : Program} {l : Launch} {e : Env} {s : State} {m : MethodId} {args : Array Value} {below : List Frame} {meth : Method} {c : Code} {dC : Nat → ClassId} {dI : Nat → Nat → Nat} {ad : Nat → Nat} {cA cZ : ClassId} (hi : Inj 12 ad) (a1 : Int32)  (C0 : Cx cX11_image RX11 wsX11_image 3 (some .int) p s m args meth c) (hK : KK dC dI cA cZ s) (Q : Int32 → St → Prop) (Y : Nat → List Int32 → List Int64 → St → Prop) (hY : ∀ P xs ys σ, Y P xs ys σ → XX p l e ({ frames := 1, cells := 0, slots := 0, locals := 25 } : Room) s m args below meth c (dC, dI) 12 ad (celM ad cA cZ) 3 (ZI below args s (dC, dI) 12 ad (celM ad cA cZ) Q) (lay_X11_image ad a1) P xs ys σ) (x2 : Int32) (s0 : St) (hv : B_X11_image_19 a1 Q Y x2 s0) {H : Heap} {locs : List Loc} {ls : Array Slot} (hP : va_P (dC, dI) vwCl (wd 12 ad (celM ad cA cZ) s0) H) (hS : va_S (AA 12 ad s.heap.size) s.heap H locs) (hl : lv_has ls 3 [(0, .ref (ad 0)), (1, .int a1), (2, .int x2)]) : W p l e ({ frames := 1, cells := 0, slots := 0, locals := 25 } : Room) s m args below meth c H locs 0 0 (ZI below args s (dC, dI) 12 ad (celM ad cA cZ) Q) (F0 m 19 ls []) := by
  obtain ⟨hx, hb, hml, hown, hts, hr, hlocks⟩ := C0
  have hD := wd_D (s := s) (cel := celM ad cA cZ) (σ := s0) hi
  unfold B_X11_image_19 at hv
  refine lv_iload_n hx hb dX11_image_19 rfl (lv_at hl 2 rfl) ?_
  refine lv_sipush (v := 181) hx hb dX11_image_20 (by decide) ?_
  refine lv_icmp_ge (tgt := 50) hx hb dX11_image_23 (by decide) (fun c23 => ?_) (fun c23 => ?_)
  · have hv := hv.1 c23
    refine lv_aload_n hx hb dX11_image_50 rfl (lv_at hl 0 rfl) ?_
    refine r_get hx hb hts (iwX11_image_X11) hown hK.1 hP 0 (by decide) (ceMo_0 (s0 0)) rfl 2 (by decide) (hts _ kX11_image_3) (v := .ref (ad 3)) rfl dX11_image_51 ?_
    refine lv_iload_n hx hb dX11_image_54 rfl (lv_at hl 1 rfl) ?_
    refine lv_iconst (v := 1) hx hb dX11_image_55 (by decide) ?_
    obtain ⟨hin, hv⟩ := hv
    refine r_zast hx hb hK.1 hP hD hS 3 (by decide) (ceMo_3 (s0 3)) (ceMo_3 _) hin dX11_image_56 (fun H locs s1 es1 hP hD hS => ?_)
    have hv := hv s1 es1
    refine lv_iconst (v := 1) hx hb dX11_image_57 (by decide) ?_
    exact r_iret hx hb hr hlocks hv hP hS dX11_image_58
  · have hv := hv.2 c23
    refine lv_aload_n hx hb dX11_image_26 rfl (lv_at hl 0 rfl) ?_
    refine r_get hx hb hts (iwX11_image_X11) hown hK.1 hP 0 (by decide) (ceMo_0 (s0 0)) rfl 1 (by decide) (hts _ kX11_image_1) (v := .ref (ad 2)) rfl dX11_image_27 ?_
    refine lv_sipush (v := 181) hx hb dX11_image_30 (by decide) ?_
    refine lv_iload_n hx hb dX11_image_33 rfl (lv_at hl 1 rfl) ?_
    refine lv_imul hx hb dX11_image_34 ?_
    refine lv_iload_n hx hb dX11_image_35 rfl (lv_at hl 2 rfl) ?_
    refine lv_iadd hx hb dX11_image_36 ?_
    refine lv_aload_n hx hb dX11_image_37 rfl (lv_at hl 0 rfl) ?_
    refine r_get hx hb hts (iwX11_image_X11) hown hK.1 hP 0 (by decide) (ceMo_0 (s0 0)) rfl 0 (by decide) (hts _ kX11_image_2) (v := .ref (ad 1)) rfl dX11_image_38 ?_
    refine lv_iload_n hx hb dX11_image_41 rfl (lv_at hl 2 rfl) ?_
    obtain ⟨hin, hv⟩ := hv
    refine r_iald hx hb hK.1 hP 1 (by decide) (ceMo_1 (s0 1)) hin dX11_image_42 ?_
    obtain ⟨hin, hv⟩ := hv
    refine r_iast hx hb hK.1 hP hD hS 2 (by decide) (ceMo_2 (s0 2)) (ceMo_2 _) hin dX11_image_43 (fun H locs s2 es2 hP hD hS => ?_)
    have hv := hv s2 es2
    refine lv_iinc (v := x2 + 1) (lv' := [(2, .int (x2 + 1)), (0, .ref (ad 0)), (1, .int a1)]) hx hb dX11_image_44 hl (k := 2) rfl rfl (by decide) rfl (fun ls hl => ?_)
    refine lv_goto (tgt := 19) hx hb dX11_image_47 (by decide) ?_
    exact hY 19 [x2 + 1] [] s2 hv _ _ rfl H locs ls hP hS (lv_sub hl [1, 2, 0] rfl)
set_option maxHeartbeats 4000000 in
theorem y_X11_image {p : Program} {l : Launch} {e : Env} {s : State} {m : MethodId} {args : Array Value} {below : List Frame} {meth : Method} {c : Code} {dC : Nat → ClassId} {dI : Nat → Nat → Nat} {ad : Nat → Nat} {cA cZ : ClassId} (hi : Inj 12 ad) (a1 : Int32)  (C0 : Cx cX11_image RX11 wsX11_image 3 (some .int) p s m args meth c) (hK : KK dC dI cA cZ s) (Q : Int32 → St → Prop) : ∀ P xs ys σ, R_X11_image a1 Q P xs ys σ → XX p l e ({ frames := 1, cells := 0, slots := 0, locals := 25 } : Room) s m args below meth c (dC, dI) 12 ad (celM ad cA cZ) 3 (ZI below args s (dC, dI) 12 ad (celM ad cA cZ) Q) (lay_X11_image ad a1) P xs ys σ := by
  refine Fx.elim _ (fun P xs ys σ Y hY hB => ?_)
  rcases hB with ⟨rfl, x2, rfl, rfl, hB⟩
  · intro lv st he H locs ls hP hS hl
    cases he
    exact w_X11_image_19 hi a1  C0 hK Q Y hY x2 σ hB hP hS hl
set_option maxHeartbeats 4000000 in
theorem c_X11_image {l : Launch} {dC : Nat → ClassId} {dI : Nat → Nat → Nat} {ad : Nat → Nat} {cA cZ : ClassId} (hi : Inj 12 ad) (a1 : Int32)  (s0 : St) (Q : Int32 → St → Prop) (hv : V_X11_image a1 s0 Q) (sz : Nat) : Met l yX11_image wsX11_image ({ frames := 1, cells := 0, slots := 0, locals := 25 } : Room) (va_Pc [.ref (ad 0), .int a1] (PW dC dI ad cA cZ 12 (celM ad cA cZ) sz s0)) (va_Qi Q (fun u t => va_P (dC, dI) vwCl (wd 12 ad (celM ad cA cZ) u) t.heap) (AA 12 ad sz)) 0 0 (AA 12 ad sz) := by
  refine Met.ofW (cc := cX11_image) (maxL := 3) (ret := (some .int)) (by decide) rfl ?_
  intro p e s m args below meth c s₁ B hml hv0
  obtain ⟨rfl, hsz, hP, hK⟩ := hv0
  subst hsz
  have C0 : Cx cX11_image RX11 wsX11_image 3 (some .int) p s m ([.ref (ad 0), .int a1] : List Value).toArray meth c := ⟨B.exec, B.bytes, hml, findClass_of_methodNamed B.named, atoms_spec (ws := wsX11_image) B.pre, B.returns, B.notSynchronized⟩
  have hl := lv_entry ([.ref (ad 0), .int a1]) (n := 3) (Nat.le_of_ble_eq_true rfl)
  rw [lg_entry_eq]
  generalize (lg_sl ([.ref (ad 0), .int a1]) ++ List.replicate (3 - (lg_sl ([.ref (ad 0), .int a1])).length) Slot.unset).toArray = ls at hl ⊢
  have hl : lv_has ls 3 [(0, .ref (ad 0)), (1, .int a1)] := hl
  exact w_X11_image_e hi a1  C0 hK Q (R_X11_image a1 Q) (y_X11_image hi a1  C0 hK Q)  s0 hv hP va_S.rf hl
def lay_X11_from (ad : Nat → Nat) (a1 : Int32) : Nat → List Int32 → List Int64 → Option (List (Nat × Value) × List Value) := fun P xs ys => match P, xs, ys with
  | 33, [x2], [] => some ([(0, .ref (ad 0)), (1, .int a1), (2, .int x2)], [])
  | _, _, _ => none
set_option maxHeartbeats 4000000 in
set_option maxRecDepth 100000 in
theorem w_X11_from_e {p : Program} {l : Launch} {e : Env} {s : State} {m : MethodId} {args : Array Value} {below : List Frame} {meth : Method} {c : Code} {dC : Nat → ClassId} {dI : Nat → Nat → Nat} {ad : Nat → Nat} {cA cZ : ClassId} (hi : Inj 12 ad) (a1 : Int32)  (C0 : Cx cX11_from RX11 wsX11_from 3 (some .int) p s m args meth c) (hK : KK dC dI cA cZ s) (Q : Int32 → St → Prop) (Y : Nat → List Int32 → List Int64 → St → Prop) (hY : ∀ P xs ys σ, Y P xs ys σ → XX p l e ({ frames := 1, cells := 0, slots := 0, locals := 25 } : Room) s m args below meth c (dC, dI) 12 ad (celM ad cA cZ) 3 (ZI below args s (dC, dI) 12 ad (celM ad cA cZ) Q) (lay_X11_from ad a1) P xs ys σ)  (s0 : St) (hv : B_X11_from_e a1 Q Y  s0) {H : Heap} {locs : List Loc} {ls : Array Slot} (hP : va_P (dC, dI) vwCl (wd 12 ad (celM ad cA cZ) s0) H) (hS : va_S (AA 12 ad s.heap.size) s.heap H locs) (hl : lv_has ls 3 [(0, .ref (ad 0)), (1, .int a1)]) : W p l e ({ frames := 1, cells := 0, slots := 0, locals := 25 } : Room) s m args below meth c H locs 0 0 (ZI below args s (dC, dI) 12 ad (celM ad cA cZ) Q) (F0 m 0 ls []) := by
  obtain ⟨hx, hb, hml, hown, hts, hr, hlocks⟩ := C0
  have hD := wd_D (s := s) (cel := celM ad cA cZ) (σ := s0) hi
  unfold B_X11_from_e at hv
  refine lv_iload_n hx hb dX11_from_0 rfl (lv_at hl 1 rfl) ?_
  refine lv_i2l (v := a1.toInt64) hx hb dX11_from_1 rfl ?_
  refine lv_lconst (v := 0) hx hb dX11_from_2 (by decide) ?_
  refine lv_lconst (v := 1) hx hb dX11_from_3 (by decide) ?_
  refine r_ci (va_runS (As := [.long a1.toInt64, .long 0, .long 1]) (rest := []) ⟨hx, hb, hml, hown, hts⟩ (c_X11_in hi a1.toInt64 0 1 s0 _ hv H.size) (va_cwS 3 hts gX11_from_X11_in rfl rfl rfl (by decide +kernel) ⟨Nat.le_of_ble_eq_true rfl, Nat.le_of_ble_eq_true rfl⟩) ⟨pre_blind, pre_of hP hK⟩ rfl rfl hl.1 rfl (lv_room (Nat.le_of_ble_eq_true rfl)) dX11_from_4 ⟨Nat.zero_le _, Nat.zero_le _⟩) hS (fun r1 s1 H locs hv hP hS => ?_)
  obtain ⟨hz_r1, hv⟩ := hv
  have hD := wd_D (s := s) (cel := celM ad cA cZ) (σ := s1) hi
  refine lv_if_ne (tgt := 17) hx hb dX11_from_7 (by decide) (fun c7 => ?_) (fun c7 => ?_)
  · have hv := hv.1 c7
    refine lv_aload_n hx hb dX11_from_17 rfl (lv_at hl 0 rfl) ?_
    refine r_get hx hb hts (iwX11_from_X11) hown hK.1 hP 0 (by decide) (ceMo_0 (s1 0)) rfl 2 (by decide) (hts _ kX11_from_1) (v := .ref (ad 3)) rfl dX11_from_18 ?_
    refine lv_iload_n hx hb dX11_from_21 rfl (lv_at hl 1 rfl) ?_
    obtain ⟨hin, hv⟩ := hv
    refine r_zald hx hb hK.1 hP 3 (by decide) (ceMo_3 (s1 3)) hin dX11_from_22 ?_
    refine lv_if_ne (tgt := 31) hx hb dX11_from_23 (by decide) (fun c23 => ?_) (fun c23 => ?_)
    · have hv := hv.1 c23
      refine lv_iconst (v := 0) hx hb dX11_from_31 (by decide) ?_
      refine lv_istore_n (lv' := [(2, .int 0), (0, .ref (ad 0)), (1, .int a1)]) hx hb dX11_from_32 rfl hl (by decide) rfl (fun ls hl => ?_)
      exact hY 33 [0] [] s1 hv _ _ rfl H locs ls hP hS (lv_sub hl [1, 2, 0] rfl)
    · have hv := hv.2 c23
      refine lv_aload_n hx hb dX11_from_26 rfl (lv_at hl 0 rfl) ?_
      refine r_ci (va_runV (As := []) (rest := []) ⟨hx, hb, hml, hown, hts⟩ (c_X11_no hi  s1 _ hv H.size) (cwV 0 hts gX11_from_X11_no rfl rfl rfl (by decide +kernel) ⟨Nat.le_of_ble_eq_true rfl, Nat.le_of_ble_eq_true rfl⟩) ⟨pre_blind, r_recv hK.1 hP 0 (by decide) (ceMo_0 (s1 0)) rfl, pre_of hP hK⟩ rfl rfl hl.1 rfl (lv_room (Nat.le_of_ble_eq_true rfl)) dX11_from_27 ⟨Nat.zero_le _, Nat.zero_le _⟩) hS (fun r2 s2 H locs hv hP hS => ?_)
      have hD := wd_D (s := s) (cel := celM ad cA cZ) (σ := s2) hi
      exact r_iret hx hb hr hlocks hv hP hS dX11_from_30
  · have hv := hv.2 c7
    refine lv_aload_n hx hb dX11_from_10 rfl (lv_at hl 0 rfl) ?_
    refine lv_bipush (v := (-2)) hx hb dX11_from_11 (by decide) ?_
    refine r_ci (va_runV (As := [.int ((-2))]) (rest := []) ⟨hx, hb, hml, hown, hts⟩ (c_X11_bad hi ((-2)) s1 _ hv H.size) (cwV 1 hts gX11_from_X11_bad rfl rfl rfl (by decide +kernel) ⟨Nat.le_of_ble_eq_true rfl, Nat.le_of_ble_eq_true rfl⟩) ⟨pre_blind, r_recv hK.1 hP 0 (by decide) (ceMo_0 (s1 0)) rfl, pre_of hP hK⟩ rfl rfl hl.1 rfl (lv_room (Nat.le_of_ble_eq_true rfl)) dX11_from_13 ⟨Nat.zero_le _, Nat.zero_le _⟩) hS (fun r3 s3 H locs hv hP hS => ?_)
    have hD := wd_D (s := s) (cel := celM ad cA cZ) (σ := s3) hi
    exact r_iret hx hb hr hlocks hv hP hS dX11_from_16
set_option maxHeartbeats 4000000 in
set_option maxRecDepth 100000 in
theorem w_X11_from_33 {p : Program} {l : Launch} {e : Env} {s : State} {m : MethodId} {args : Array Value} {below : List Frame} {meth : Method} {c : Code} {dC : Nat → ClassId} {dI : Nat → Nat → Nat} {ad : Nat → Nat} {cA cZ : ClassId} (hi : Inj 12 ad) (a1 : Int32)  (C0 : Cx cX11_from RX11 wsX11_from 3 (some .int) p s m args meth c) (hK : KK dC dI cA cZ s) (Q : Int32 → St → Prop) (Y : Nat → List Int32 → List Int64 → St → Prop) (hY : ∀ P xs ys σ, Y P xs ys σ → XX p l e ({ frames := 1, cells := 0, slots := 0, locals := 25 } : Room) s m args below meth c (dC, dI) 12 ad (celM ad cA cZ) 3 (ZI below args s (dC, dI) 12 ad (celM ad cA cZ) Q) (lay_X11_from ad a1) P xs ys σ) (x2 : Int32) (s0 : St) (hv : B_X11_from_33 a1 Q Y x2 s0) {H : Heap} {locs : List Loc} {ls : Array Slot} (hP : va_P (dC, dI) vwCl (wd 12 ad (celM ad cA cZ) s0) H) (hS : va_S (AA 12 ad s.heap.size) s.heap H locs) (hl : lv_has ls 3 [(0, .ref (ad 0)), (1, .int a1), (2, .int x2)]) : W p l e ({ frames := 1, cells := 0, slots := 0, locals := 25 } : Room) s m args below meth c H locs 0 0 (ZI below args s (dC, dI) 12 ad (celM ad cA cZ) Q) (F0 m 33 ls []) := by
  obtain ⟨hx, hb, hml, hown, hts, hr, hlocks⟩ := C0
  have hD := wd_D (s := s) (cel := celM ad cA cZ) (σ := s0) hi
  unfold B_X11_from_33 at hv
  refine lv_iload_n hx hb dX11_from_33 rfl (lv_at hl 2 rfl) ?_
  refine lv_sipush (v := 181) hx hb dX11_from_34 (by decide) ?_
  refine lv_icmp_ge (tgt := 64) hx hb dX11_from_37 (by decide) (fun c37 => ?_) (fun c37 => ?_)
  · have hv := hv.1 c37
    refine lv_iconst (v := 1) hx hb dX11_from_64 (by decide) ?_
    exact r_iret hx hb hr hlocks hv hP hS dX11_from_65
  · have hv := hv.2 c37
    refine lv_aload_n hx hb dX11_from_40 rfl (lv_at hl 0 rfl) ?_
    refine r_get hx hb hts (iwX11_from_X11) hown hK.1 hP 0 (by decide) (ceMo_0 (s0 0)) rfl 0 (by decide) (hts _ kX11_from_2) (v := .ref (ad 1)) rfl dX11_from_41 ?_
    refine lv_iload_n hx hb dX11_from_44 rfl (lv_at hl 2 rfl) ?_
    refine lv_aload_n hx hb dX11_from_45 rfl (lv_at hl 0 rfl) ?_
    refine r_get hx hb hts (iwX11_from_X11) hown hK.1 hP 0 (by decide) (ceMo_0 (s0 0)) rfl 1 (by decide) (hts _ kX11_from_3) (v := .ref (ad 2)) rfl dX11_from_46 ?_
    refine lv_sipush (v := 181) hx hb dX11_from_49 (by decide) ?_
    refine lv_iload_n hx hb dX11_from_52 rfl (lv_at hl 1 rfl) ?_
    refine lv_imul hx hb dX11_from_53 ?_
    refine lv_iload_n hx hb dX11_from_54 rfl (lv_at hl 2 rfl) ?_
    refine lv_iadd hx hb dX11_from_55 ?_
    obtain ⟨hin, hv⟩ := hv
    refine r_iald hx hb hK.1 hP 2 (by decide) (ceMo_2 (s0 2)) hin dX11_from_56 ?_
    obtain ⟨hin, hv⟩ := hv
    refine r_iast hx hb hK.1 hP hD hS 1 (by decide) (ceMo_1 (s0 1)) (ceMo_1 _) hin dX11_from_57 (fun H locs s1 es1 hP hD hS => ?_)
    have hv := hv s1 es1
    refine lv_iinc (v := x2 + 1) (lv' := [(2, .int (x2 + 1)), (0, .ref (ad 0)), (1, .int a1)]) hx hb dX11_from_58 hl (k := 2) rfl rfl (by decide) rfl (fun ls hl => ?_)
    refine lv_goto (tgt := 33) hx hb dX11_from_61 (by decide) ?_
    exact hY 33 [x2 + 1] [] s1 hv _ _ rfl H locs ls hP hS (lv_sub hl [1, 2, 0] rfl)
set_option maxHeartbeats 4000000 in
theorem y_X11_from {p : Program} {l : Launch} {e : Env} {s : State} {m : MethodId} {args : Array Value} {below : List Frame} {meth : Method} {c : Code} {dC : Nat → ClassId} {dI : Nat → Nat → Nat} {ad : Nat → Nat} {cA cZ : ClassId} (hi : Inj 12 ad) (a1 : Int32)  (C0 : Cx cX11_from RX11 wsX11_from 3 (some .int) p s m args meth c) (hK : KK dC dI cA cZ s) (Q : Int32 → St → Prop) : ∀ P xs ys σ, R_X11_from a1 Q P xs ys σ → XX p l e ({ frames := 1, cells := 0, slots := 0, locals := 25 } : Room) s m args below meth c (dC, dI) 12 ad (celM ad cA cZ) 3 (ZI below args s (dC, dI) 12 ad (celM ad cA cZ) Q) (lay_X11_from ad a1) P xs ys σ := by
  refine Fx.elim _ (fun P xs ys σ Y hY hB => ?_)
  rcases hB with ⟨rfl, x2, rfl, rfl, hB⟩
  · intro lv st he H locs ls hP hS hl
    cases he
    exact w_X11_from_33 hi a1  C0 hK Q Y hY x2 σ hB hP hS hl
set_option maxHeartbeats 4000000 in
theorem c_X11_from {l : Launch} {dC : Nat → ClassId} {dI : Nat → Nat → Nat} {ad : Nat → Nat} {cA cZ : ClassId} (hi : Inj 12 ad) (a1 : Int32)  (s0 : St) (Q : Int32 → St → Prop) (hv : V_X11_from a1 s0 Q) (sz : Nat) : Met l yX11_from wsX11_from ({ frames := 1, cells := 0, slots := 0, locals := 25 } : Room) (va_Pc [.ref (ad 0), .int a1] (PW dC dI ad cA cZ 12 (celM ad cA cZ) sz s0)) (va_Qi Q (fun u t => va_P (dC, dI) vwCl (wd 12 ad (celM ad cA cZ) u) t.heap) (AA 12 ad sz)) 0 0 (AA 12 ad sz) := by
  refine Met.ofW (cc := cX11_from) (maxL := 3) (ret := (some .int)) (by decide) rfl ?_
  intro p e s m args below meth c s₁ B hml hv0
  obtain ⟨rfl, hsz, hP, hK⟩ := hv0
  subst hsz
  have C0 : Cx cX11_from RX11 wsX11_from 3 (some .int) p s m ([.ref (ad 0), .int a1] : List Value).toArray meth c := ⟨B.exec, B.bytes, hml, findClass_of_methodNamed B.named, atoms_spec (ws := wsX11_from) B.pre, B.returns, B.notSynchronized⟩
  have hl := lv_entry ([.ref (ad 0), .int a1]) (n := 3) (Nat.le_of_ble_eq_true rfl)
  rw [lg_entry_eq]
  generalize (lg_sl ([.ref (ad 0), .int a1]) ++ List.replicate (3 - (lg_sl ([.ref (ad 0), .int a1])).length) Slot.unset).toArray = ls at hl ⊢
  have hl : lv_has ls 3 [(0, .ref (ad 0)), (1, .int a1)] := hl
  exact w_X11_from_e hi a1  C0 hK Q (R_X11_from a1 Q) (y_X11_from hi a1  C0 hK Q)  s0 hv hP va_S.rf hl
def lay_X11_status (ad : Nat → Nat) (a1 : Int32) : Nat → List Int32 → List Int64 → Option (List (Nat × Value) × List Value) := fun P xs ys => match P, xs, ys with
  | _, _, _ => none
set_option maxHeartbeats 4000000 in
set_option maxRecDepth 100000 in
theorem w_X11_status_e {p : Program} {l : Launch} {e : Env} {s : State} {m : MethodId} {args : Array Value} {below : List Frame} {meth : Method} {c : Code} {dC : Nat → ClassId} {dI : Nat → Nat → Nat} {ad : Nat → Nat} {cA cZ : ClassId} (hi : Inj 12 ad) (a1 : Int32)  (C0 : Cx cX11_status RX11 wsX11_status 2 (some .int) p s m args meth c) (hK : KK dC dI cA cZ s) (Q : Int32 → St → Prop) (Y : Nat → List Int32 → List Int64 → St → Prop) (hY : ∀ P xs ys σ, Y P xs ys σ → XX p l e ({ frames := 1, cells := 0, slots := 0, locals := 25 } : Room) s m args below meth c (dC, dI) 12 ad (celM ad cA cZ) 2 (ZI below args s (dC, dI) 12 ad (celM ad cA cZ) Q) (lay_X11_status ad a1) P xs ys σ)  (s0 : St) (hv : B_X11_status_e a1 Q Y  s0) {H : Heap} {locs : List Loc} {ls : Array Slot} (hP : va_P (dC, dI) vwCl (wd 12 ad (celM ad cA cZ) s0) H) (hS : va_S (AA 12 ad s.heap.size) s.heap H locs) (hl : lv_has ls 2 [(0, .ref (ad 0)), (1, .int a1)]) : W p l e ({ frames := 1, cells := 0, slots := 0, locals := 25 } : Room) s m args below meth c H locs 0 0 (ZI below args s (dC, dI) 12 ad (celM ad cA cZ) Q) (F0 m 0 ls []) := by
  obtain ⟨hx, hb, hml, hown, hts, hr, hlocks⟩ := C0
  have hD := wd_D (s := s) (cel := celM ad cA cZ) (σ := s0) hi
  unfold B_X11_status_e at hv
  refine lv_iload_n hx hb dX11_status_0 rfl (lv_at hl 1 rfl) ?_
  refine lv_i2l (v := a1.toInt64) hx hb dX11_status_1 rfl ?_
  refine lv_lconst (v := 0) hx hb dX11_status_2 (by decide) ?_
  refine lv_ldc2 (v := 2) hx hb hown (hts _ kX11_status_1) dX11_status_3 ?_
  refine r_ci (va_runS (As := [.long a1.toInt64, .long 0, .long 2]) (rest := []) ⟨hx, hb, hml, hown, hts⟩ (c_X11_in hi a1.toInt64 0 2 s0 _ hv H.size) (va_cwS 3 hts gX11_status_X11_in rfl rfl rfl (by decide +kernel) ⟨Nat.le_of_ble_eq_true rfl, Nat.le_of_ble_eq_true rfl⟩) ⟨pre_blind, pre_of hP hK⟩ rfl rfl hl.1 rfl (lv_room (Nat.le_of_ble_eq_true rfl)) dX11_status_6 ⟨Nat.zero_le _, Nat.zero_le _⟩) hS (fun r1 s1 H locs hv hP hS => ?_)
  obtain ⟨hz_r1, hv⟩ := hv
  have hD := wd_D (s := s) (cel := celM ad cA cZ) (σ := s1) hi
  refine lv_if_eq (tgt := 21) hx hb dX11_status_9 (by decide) (fun c9 => ?_) (fun c9 => ?_)
  · have hv := hv.1 c9
    refine lv_aload_n hx hb dX11_status_21 rfl (lv_at hl 0 rfl) ?_
    refine lv_iconst (v := (-1)) hx hb dX11_status_22 (by decide) ?_
    refine r_ci (va_runV (As := [.int ((-1))]) (rest := []) ⟨hx, hb, hml, hown, hts⟩ (c_X11_bad hi ((-1)) s1 _ hv H.size) (cwV 1 hts gX11_status_X11_bad rfl rfl rfl (by decide +kernel) ⟨Nat.le_of_ble_eq_true rfl, Nat.le_of_ble_eq_true rfl⟩) ⟨pre_blind, r_recv hK.1 hP 0 (by decide) (ceMo_0 (s1 0)) rfl, pre_of hP hK⟩ rfl rfl hl.1 rfl (lv_room (Nat.le_of_ble_eq_true rfl)) dX11_status_23 ⟨Nat.zero_le _, Nat.zero_le _⟩) hS (fun r2 s2 H locs hv hP hS => ?_)
    have hD := wd_D (s := s) (cel := celM ad cA cZ) (σ := s2) hi
    exact r_iret hx hb hr hlocks hv hP hS dX11_status_26
  · have hv := hv.2 c9
    refine lv_aload_n hx hb dX11_status_12 rfl (lv_at hl 0 rfl) ?_
    refine r_get hx hb hts (iwX11_status_X11) hown hK.1 hP 0 (by decide) (ceMo_0 (s1 0)) rfl 3 (by decide) (hts _ kX11_status_2) (v := .ref (ad 4)) rfl dX11_status_13 ?_
    refine lv_iload_n hx hb dX11_status_16 rfl (lv_at hl 1 rfl) ?_
    obtain ⟨hin, hv⟩ := hv
    refine r_iald hx hb hK.1 hP 4 (by decide) (ceMo_4 (s1 4)) hin dX11_status_17 ?_
    refine lv_goto (tgt := 26) hx hb dX11_status_18 (by decide) ?_
    exact r_iret hx hb hr hlocks hv hP hS dX11_status_26
set_option maxHeartbeats 4000000 in
theorem y_X11_status {p : Program} {l : Launch} {e : Env} {s : State} {m : MethodId} {args : Array Value} {below : List Frame} {meth : Method} {c : Code} {dC : Nat → ClassId} {dI : Nat → Nat → Nat} {ad : Nat → Nat} {cA cZ : ClassId} (hi : Inj 12 ad) (a1 : Int32)  (C0 : Cx cX11_status RX11 wsX11_status 2 (some .int) p s m args meth c) (hK : KK dC dI cA cZ s) (Q : Int32 → St → Prop) : ∀ P xs ys σ, R_X11_status a1 Q P xs ys σ → XX p l e ({ frames := 1, cells := 0, slots := 0, locals := 25 } : Room) s m args below meth c (dC, dI) 12 ad (celM ad cA cZ) 2 (ZI below args s (dC, dI) 12 ad (celM ad cA cZ) Q) (lay_X11_status ad a1) P xs ys σ := by
  refine Fx.elim _ (fun P xs ys σ Y hY hB => ?_)
  exact hB.elim
set_option maxHeartbeats 4000000 in
theorem c_X11_status {l : Launch} {dC : Nat → ClassId} {dI : Nat → Nat → Nat} {ad : Nat → Nat} {cA cZ : ClassId} (hi : Inj 12 ad) (a1 : Int32)  (s0 : St) (Q : Int32 → St → Prop) (hv : V_X11_status a1 s0 Q) (sz : Nat) : Met l yX11_status wsX11_status ({ frames := 1, cells := 0, slots := 0, locals := 25 } : Room) (va_Pc [.ref (ad 0), .int a1] (PW dC dI ad cA cZ 12 (celM ad cA cZ) sz s0)) (va_Qi Q (fun u t => va_P (dC, dI) vwCl (wd 12 ad (celM ad cA cZ) u) t.heap) (AA 12 ad sz)) 0 0 (AA 12 ad sz) := by
  refine Met.ofW (cc := cX11_status) (maxL := 2) (ret := (some .int)) (by decide) rfl ?_
  intro p e s m args below meth c s₁ B hml hv0
  obtain ⟨rfl, hsz, hP, hK⟩ := hv0
  subst hsz
  have C0 : Cx cX11_status RX11 wsX11_status 2 (some .int) p s m ([.ref (ad 0), .int a1] : List Value).toArray meth c := ⟨B.exec, B.bytes, hml, findClass_of_methodNamed B.named, atoms_spec (ws := wsX11_status) B.pre, B.returns, B.notSynchronized⟩
  have hl := lv_entry ([.ref (ad 0), .int a1]) (n := 2) (Nat.le_of_ble_eq_true rfl)
  rw [lg_entry_eq]
  generalize (lg_sl ([.ref (ad 0), .int a1]) ++ List.replicate (2 - (lg_sl ([.ref (ad 0), .int a1])).length) Slot.unset).toArray = ls at hl ⊢
  have hl : lv_has ls 2 [(0, .ref (ad 0)), (1, .int a1)] := hl
  exact w_X11_status_e hi a1  C0 hK Q (R_X11_status a1 Q) (y_X11_status hi a1  C0 hK Q)  s0 hv hP va_S.rf hl
def lay_X11_counted (ad : Nat → Nat) (a1 : Int32) : Nat → List Int32 → List Int64 → Option (List (Nat × Value) × List Value) := fun P xs ys => match P, xs, ys with
  | 4, [x2, x3], [] => some ([(0, .ref (ad 0)), (1, .int a1), (2, .int x2), (3, .int x3)], [])
  | _, _, _ => none
set_option maxHeartbeats 4000000 in
set_option maxRecDepth 100000 in
theorem w_X11_counted_e {p : Program} {l : Launch} {e : Env} {s : State} {m : MethodId} {args : Array Value} {below : List Frame} {meth : Method} {c : Code} {dC : Nat → ClassId} {dI : Nat → Nat → Nat} {ad : Nat → Nat} {cA cZ : ClassId} (hi : Inj 12 ad) (a1 : Int32)  (C0 : Cx cX11_counted RX11 wsX11_counted 4 (some .int) p s m args meth c) (hK : KK dC dI cA cZ s) (Q : Int32 → St → Prop) (Y : Nat → List Int32 → List Int64 → St → Prop) (hY : ∀ P xs ys σ, Y P xs ys σ → XX p l e ({ frames := 2, cells := 0, slots := 0, locals := 43 } : Room) s m args below meth c (dC, dI) 12 ad (celM ad cA cZ) 4 (ZI below args s (dC, dI) 12 ad (celM ad cA cZ) Q) (lay_X11_counted ad a1) P xs ys σ)  (s0 : St) (hv : B_X11_counted_e a1 Q Y  s0) {H : Heap} {locs : List Loc} {ls : Array Slot} (hP : va_P (dC, dI) vwCl (wd 12 ad (celM ad cA cZ) s0) H) (hS : va_S (AA 12 ad s.heap.size) s.heap H locs) (hl : lv_has ls 4 [(0, .ref (ad 0)), (1, .int a1)]) : W p l e ({ frames := 2, cells := 0, slots := 0, locals := 43 } : Room) s m args below meth c H locs 0 0 (ZI below args s (dC, dI) 12 ad (celM ad cA cZ) Q) (F0 m 0 ls []) := by
  obtain ⟨hx, hb, hml, hown, hts, hr, hlocks⟩ := C0
  have hD := wd_D (s := s) (cel := celM ad cA cZ) (σ := s0) hi
  unfold B_X11_counted_e at hv
  refine lv_iconst (v := 0) hx hb dX11_counted_0 (by decide) ?_
  refine lv_istore_n (lv' := [(2, .int 0), (0, .ref (ad 0)), (1, .int a1)]) hx hb dX11_counted_1 rfl hl (by decide) rfl (fun ls hl => ?_)
  refine lv_iconst (v := 0) hx hb dX11_counted_2 (by decide) ?_
  refine lv_istore_n (lv' := [(3, .int 0), (2, .int 0), (0, .ref (ad 0)), (1, .int a1)]) hx hb dX11_counted_3 rfl hl (by decide) rfl (fun ls hl => ?_)
  exact hY 4 [0, 0] [] s0 hv _ _ rfl H locs ls hP hS (lv_sub hl [2, 3, 1, 0] rfl)
set_option maxHeartbeats 4000000 in
set_option maxRecDepth 100000 in
theorem w_X11_counted_4 {p : Program} {l : Launch} {e : Env} {s : State} {m : MethodId} {args : Array Value} {below : List Frame} {meth : Method} {c : Code} {dC : Nat → ClassId} {dI : Nat → Nat → Nat} {ad : Nat → Nat} {cA cZ : ClassId} (hi : Inj 12 ad) (a1 : Int32)  (C0 : Cx cX11_counted RX11 wsX11_counted 4 (some .int) p s m args meth c) (hK : KK dC dI cA cZ s) (Q : Int32 → St → Prop) (Y : Nat → List Int32 → List Int64 → St → Prop) (hY : ∀ P xs ys σ, Y P xs ys σ → XX p l e ({ frames := 2, cells := 0, slots := 0, locals := 43 } : Room) s m args below meth c (dC, dI) 12 ad (celM ad cA cZ) 4 (ZI below args s (dC, dI) 12 ad (celM ad cA cZ) Q) (lay_X11_counted ad a1) P xs ys σ) (x2 : Int32) (x3 : Int32) (s0 : St) (hv : B_X11_counted_4 a1 Q Y x2 x3 s0) {H : Heap} {locs : List Loc} {ls : Array Slot} (hP : va_P (dC, dI) vwCl (wd 12 ad (celM ad cA cZ) s0) H) (hS : va_S (AA 12 ad s.heap.size) s.heap H locs) (hl : lv_has ls 4 [(0, .ref (ad 0)), (1, .int a1), (2, .int x2), (3, .int x3)]) : W p l e ({ frames := 2, cells := 0, slots := 0, locals := 43 } : Room) s m args below meth c H locs 0 0 (ZI below args s (dC, dI) 12 ad (celM ad cA cZ) Q) (F0 m 4 ls []) := by
  obtain ⟨hx, hb, hml, hown, hts, hr, hlocks⟩ := C0
  have hD := wd_D (s := s) (cel := celM ad cA cZ) (σ := s0) hi
  unfold B_X11_counted_4 at hv
  refine lv_iload_n hx hb dX11_counted_4 rfl (lv_at hl 3 rfl) ?_
  refine lv_aload_n hx hb dX11_counted_5 rfl (lv_at hl 0 rfl) ?_
  refine r_ci (va_runV (As := []) (rest := [.int x3]) ⟨hx, hb, hml, hown, hts⟩ (c_X11_many hi  s0 _ hv H.size) (cwV 0 hts gX11_counted_X11_many rfl rfl rfl (by decide +kernel) ⟨Nat.le_of_ble_eq_true rfl, Nat.le_of_ble_eq_true rfl⟩) ⟨pre_blind, r_recv hK.1 hP 0 (by decide) (ceMo_0 (s0 0)) rfl, pre_of hP hK⟩ rfl rfl hl.1 rfl (lv_room (Nat.le_of_ble_eq_true rfl)) dX11_counted_6 ⟨Nat.zero_le _, Nat.zero_le _⟩) hS (fun r1 s1 H locs hv hP hS => ?_)
  have hD := wd_D (s := s) (cel := celM ad cA cZ) (σ := s1) hi
  refine lv_icmp_ge (tgt := 37) hx hb dX11_counted_9 (by decide) (fun c9 => ?_) (fun c9 => ?_)
  · have hv := hv.1 c9
    refine lv_iload_n hx hb dX11_counted_37 rfl (lv_at hl 1 rfl) ?_
    by_cases c38_0 : a1 = 0
    · have hv := hv.1 c38_0
      refine lv_tableIn (off := 58) (tgt := 96) hx hb dX11_counted_38 (by rw [c38_0]; decide) (by rw [c38_0]; decide) (by rw [c38_0]; rfl) (by decide) ?_
      refine lv_aload_n hx hb dX11_counted_96 rfl (lv_at hl 0 rfl) ?_
      refine r_ci (va_runV (As := []) (rest := []) ⟨hx, hb, hml, hown, hts⟩ (c_X11_many hi  s1 _ hv H.size) (cwV 0 hts gX11_counted_X11_many rfl rfl rfl (by decide +kernel) ⟨Nat.le_of_ble_eq_true rfl, Nat.le_of_ble_eq_true rfl⟩) ⟨pre_blind, r_recv hK.1 hP 0 (by decide) (ceMo_0 (s1 0)) rfl, pre_of hP hK⟩ rfl rfl hl.1 rfl (lv_room (Nat.le_of_ble_eq_true rfl)) dX11_counted_97 ⟨Nat.zero_le _, Nat.zero_le _⟩) hS (fun r2 s2 H locs hv hP hS => ?_)
      have hD := wd_D (s := s) (cel := celM ad cA cZ) (σ := s2) hi
      exact r_iret hx hb hr hlocks hv hP hS dX11_counted_100
    have hv := hv.2 c38_0
    by_cases c38_1 : a1 = 1
    · have hv := hv.1 c38_1
      refine lv_tableIn (off := 63) (tgt := 101) hx hb dX11_counted_38 (by rw [c38_1]; decide) (by rw [c38_1]; decide) (by rw [c38_1]; rfl) (by decide) ?_
      refine lv_aload_n hx hb dX11_counted_101 rfl (lv_at hl 0 rfl) ?_
      refine r_get hx hb hts (iwX11_counted_X11) hown hK.1 hP 0 (by decide) (ceMo_0 (s1 0)) rfl 0 (by decide) (hts _ kX11_counted_1) (v := .ref (ad 1)) rfl dX11_counted_102 ?_
      refine lv_iconst (v := 1) hx hb dX11_counted_105 (by decide) ?_
      refine r_iald hx hb hK.1 hP 1 (by decide) (ceMo_1 (s1 1)) (vp_in_of_dec (by decide)) dX11_counted_106 ?_
      exact r_iret hx hb hr hlocks hv hP hS dX11_counted_107
    have hv := hv.2 c38_1
    by_cases c38_2 : a1 = 2
    · have hv := hv.1 c38_2
      refine lv_tableIn (off := 70) (tgt := 108) hx hb dX11_counted_38 (by rw [c38_2]; decide) (by rw [c38_2]; decide) (by rw [c38_2]; rfl) (by decide) ?_
      refine lv_aload_n hx hb dX11_counted_108 rfl (lv_at hl 0 rfl) ?_
      refine r_get hx hb hts (iwX11_counted_X11) hown hK.1 hP 0 (by decide) (ceMo_0 (s1 0)) rfl 0 (by decide) (hts _ kX11_counted_1) (v := .ref (ad 1)) rfl dX11_counted_109 ?_
      refine lv_bipush (v := 15) hx hb dX11_counted_112 (by decide) ?_
      refine r_iald hx hb hK.1 hP 1 (by decide) (ceMo_1 (s1 1)) (vp_in_of_dec (by decide)) dX11_counted_114 ?_
      exact r_iret hx hb hr hlocks hv hP hS dX11_counted_115
    have hv := hv.2 c38_2
    by_cases c38_3 : a1 = 3
    · have hv := hv.1 c38_3
      refine lv_tableIn (off := 78) (tgt := 116) hx hb dX11_counted_38 (by rw [c38_3]; decide) (by rw [c38_3]; decide) (by rw [c38_3]; rfl) (by decide) ?_
      refine lv_aload_n hx hb dX11_counted_116 rfl (lv_at hl 0 rfl) ?_
      refine r_get hx hb hts (iwX11_counted_X11) hown hK.1 hP 0 (by decide) (ceMo_0 (s1 0)) rfl 0 (by decide) (hts _ kX11_counted_1) (v := .ref (ad 1)) rfl dX11_counted_117 ?_
      refine lv_bipush (v := 23) hx hb dX11_counted_120 (by decide) ?_
      refine r_ci (va_runS (As := [.ref (ad 1), .int 23]) (rest := []) ⟨hx, hb, hml, hown, hts⟩ (c_X11_manyAt hi 1 181 23 arM_1 s1 _ hv H.size) (va_cwS 2 hts gX11_counted_X11_manyAt rfl rfl rfl (by decide +kernel) ⟨Nat.le_of_ble_eq_true rfl, Nat.le_of_ble_eq_true rfl⟩) ⟨pre_blind, pre_of hP hK⟩ rfl rfl hl.1 rfl (lv_room (Nat.le_of_ble_eq_true rfl)) dX11_counted_122 ⟨Nat.zero_le _, Nat.zero_le _⟩) hS (fun r3 s3 H locs hv hP hS => ?_)
      have hD := wd_D (s := s) (cel := celM ad cA cZ) (σ := s3) hi
      exact r_iret hx hb hr hlocks hv hP hS dX11_counted_125
    have hv := hv.2 c38_3
    by_cases c38_4 : a1 = 4
    · have hv := hv.1 c38_4
      refine lv_tableIn (off := 88) (tgt := 126) hx hb dX11_counted_38 (by rw [c38_4]; decide) (by rw [c38_4]; decide) (by rw [c38_4]; rfl) (by decide) ?_
      refine lv_iload_n hx hb dX11_counted_126 rfl (lv_at hl 2 rfl) ?_
      exact r_iret hx hb hr hlocks hv hP hS dX11_counted_127
    have hv := hv.2 c38_4
    by_cases c38_5 : a1 = 5
    · have hv := hv.1 c38_5
      refine lv_tableIn (off := 90) (tgt := 128) hx hb dX11_counted_38 (by rw [c38_5]; decide) (by rw [c38_5]; decide) (by rw [c38_5]; rfl) (by decide) ?_
      refine lv_aload_n hx hb dX11_counted_128 rfl (lv_at hl 0 rfl) ?_
      refine r_get hx hb hts (iwX11_counted_X11) hown hK.1 hP 0 (by decide) (ceMo_0 (s1 0)) rfl 0 (by decide) (hts _ kX11_counted_1) (v := .ref (ad 1)) rfl dX11_counted_129 ?_
      refine lv_bipush (v := 14) hx hb dX11_counted_132 (by decide) ?_
      refine r_iald hx hb hK.1 hP 1 (by decide) (ceMo_1 (s1 1)) (vp_in_of_dec (by decide)) dX11_counted_134 ?_
      refine r_ci (va_runS (As := [.int (s1 1 14)]) (rest := []) ⟨hx, hb, hml, hown, hts⟩ (c_X11_bits hi (s1 1 14) s1 _ hv H.size) (va_cwS 1 hts gX11_counted_X11_bits rfl rfl rfl (by decide +kernel) ⟨Nat.le_of_ble_eq_true rfl, Nat.le_of_ble_eq_true rfl⟩) ⟨pre_blind, pre_of hP hK⟩ rfl rfl hl.1 rfl (lv_room (Nat.le_of_ble_eq_true rfl)) dX11_counted_135 ⟨Nat.zero_le _, Nat.zero_le _⟩) hS (fun r4 s4 H locs hv hP hS => ?_)
      have hD := wd_D (s := s) (cel := celM ad cA cZ) (σ := s4) hi
      exact r_iret hx hb hr hlocks hv hP hS dX11_counted_138
    have hv := hv.2 c38_5
    by_cases c38_6 : a1 = 6
    · have hv := hv.1 c38_6
      refine lv_tableIn (off := 106) (tgt := 144) hx hb dX11_counted_38 (by rw [c38_6]; decide) (by rw [c38_6]; decide) (by rw [c38_6]; rfl) (by decide) ?_
      refine lv_aload_n hx hb dX11_counted_144 rfl (lv_at hl 0 rfl) ?_
      refine r_get hx hb hts (iwX11_counted_X11) hown hK.1 hP 0 (by decide) (ceMo_0 (s1 0)) rfl 0 (by decide) (hts _ kX11_counted_1) (v := .ref (ad 1)) rfl dX11_counted_145 ?_
      refine lv_iconst (v := 2) hx hb dX11_counted_148 (by decide) ?_
      refine lv_iload_n hx hb dX11_counted_149 rfl (lv_at hl 1 rfl) ?_
      refine lv_iadd hx hb dX11_counted_150 ?_
      refine lv_bipush (v := 6) hx hb dX11_counted_151 (by decide) ?_
      refine lv_isub hx hb dX11_counted_153 ?_
      obtain ⟨hin, hv⟩ := hv
      refine r_iald hx hb hK.1 hP 1 (by decide) (ceMo_1 (s1 1)) hin dX11_counted_154 ?_
      exact r_iret hx hb hr hlocks hv hP hS dX11_counted_155
    have hv := hv.2 c38_6
    by_cases c38_7 : a1 = 7
    · have hv := hv.1 c38_7
      refine lv_tableIn (off := 106) (tgt := 144) hx hb dX11_counted_38 (by rw [c38_7]; decide) (by rw [c38_7]; decide) (by rw [c38_7]; rfl) (by decide) ?_
      refine lv_aload_n hx hb dX11_counted_144 rfl (lv_at hl 0 rfl) ?_
      refine r_get hx hb hts (iwX11_counted_X11) hown hK.1 hP 0 (by decide) (ceMo_0 (s1 0)) rfl 0 (by decide) (hts _ kX11_counted_1) (v := .ref (ad 1)) rfl dX11_counted_145 ?_
      refine lv_iconst (v := 2) hx hb dX11_counted_148 (by decide) ?_
      refine lv_iload_n hx hb dX11_counted_149 rfl (lv_at hl 1 rfl) ?_
      refine lv_iadd hx hb dX11_counted_150 ?_
      refine lv_bipush (v := 6) hx hb dX11_counted_151 (by decide) ?_
      refine lv_isub hx hb dX11_counted_153 ?_
      obtain ⟨hin, hv⟩ := hv
      refine r_iald hx hb hK.1 hP 1 (by decide) (ceMo_1 (s1 1)) hin dX11_counted_154 ?_
      exact r_iret hx hb hr hlocks hv hP hS dX11_counted_155
    have hv := hv.2 c38_7
    by_cases c38_8 : a1 = 8
    · have hv := hv.1 c38_8
      refine lv_tableIn (off := 106) (tgt := 144) hx hb dX11_counted_38 (by rw [c38_8]; decide) (by rw [c38_8]; decide) (by rw [c38_8]; rfl) (by decide) ?_
      refine lv_aload_n hx hb dX11_counted_144 rfl (lv_at hl 0 rfl) ?_
      refine r_get hx hb hts (iwX11_counted_X11) hown hK.1 hP 0 (by decide) (ceMo_0 (s1 0)) rfl 0 (by decide) (hts _ kX11_counted_1) (v := .ref (ad 1)) rfl dX11_counted_145 ?_
      refine lv_iconst (v := 2) hx hb dX11_counted_148 (by decide) ?_
      refine lv_iload_n hx hb dX11_counted_149 rfl (lv_at hl 1 rfl) ?_
      refine lv_iadd hx hb dX11_counted_150 ?_
      refine lv_bipush (v := 6) hx hb dX11_counted_151 (by decide) ?_
      refine lv_isub hx hb dX11_counted_153 ?_
      obtain ⟨hin, hv⟩ := hv
      refine r_iald hx hb hK.1 hP 1 (by decide) (ceMo_1 (s1 1)) hin dX11_counted_154 ?_
      exact r_iret hx hb hr hlocks hv hP hS dX11_counted_155
    have hv := hv.2 c38_8
    by_cases c38_9 : a1 = 9
    · have hv := hv.1 c38_9
      refine lv_tableIn (off := 106) (tgt := 144) hx hb dX11_counted_38 (by rw [c38_9]; decide) (by rw [c38_9]; decide) (by rw [c38_9]; rfl) (by decide) ?_
      refine lv_aload_n hx hb dX11_counted_144 rfl (lv_at hl 0 rfl) ?_
      refine r_get hx hb hts (iwX11_counted_X11) hown hK.1 hP 0 (by decide) (ceMo_0 (s1 0)) rfl 0 (by decide) (hts _ kX11_counted_1) (v := .ref (ad 1)) rfl dX11_counted_145 ?_
      refine lv_iconst (v := 2) hx hb dX11_counted_148 (by decide) ?_
      refine lv_iload_n hx hb dX11_counted_149 rfl (lv_at hl 1 rfl) ?_
      refine lv_iadd hx hb dX11_counted_150 ?_
      refine lv_bipush (v := 6) hx hb dX11_counted_151 (by decide) ?_
      refine lv_isub hx hb dX11_counted_153 ?_
      obtain ⟨hin, hv⟩ := hv
      refine r_iald hx hb hK.1 hP 1 (by decide) (ceMo_1 (s1 1)) hin dX11_counted_154 ?_
      exact r_iret hx hb hr hlocks hv hP hS dX11_counted_155
    have hv := hv.2 c38_9
    by_cases c38_10 : a1 = 10
    · have hv := hv.1 c38_10
      refine lv_tableIn (off := 101) (tgt := 139) hx hb dX11_counted_38 (by rw [c38_10]; decide) (by rw [c38_10]; decide) (by rw [c38_10]; rfl) (by decide) ?_
      refine lv_aload_n hx hb dX11_counted_139 rfl (lv_at hl 0 rfl) ?_
      refine r_get hx hb hts (iwX11_counted_X11) hown hK.1 hP 0 (by decide) (ceMo_0 (s1 0)) rfl 11 (by decide) (hts _ kX11_counted_2) (v := .int (s1 0 11)) rfl dX11_counted_140 ?_
      exact r_iret hx hb hr hlocks hv hP hS dX11_counted_143
    have hv := hv.2 c38_10
    refine lv_tableOut (tgt := 144) hx hb dX11_counted_38 (by have w0 := lv_neT (a := 0) c38_0 (by decide); have w1 := lv_neT (a := 1) c38_1 (by decide); have w2 := lv_neT (a := 2) c38_2 (by decide); have w3 := lv_neT (a := 3) c38_3 (by decide); have w4 := lv_neT (a := 4) c38_4 (by decide); have w5 := lv_neT (a := 5) c38_5 (by decide); have w6 := lv_neT (a := 6) c38_6 (by decide); have w7 := lv_neT (a := 7) c38_7 (by decide); have w8 := lv_neT (a := 8) c38_8 (by decide); have w9 := lv_neT (a := 9) c38_9 (by decide); have w10 := lv_neT (a := 10) c38_10 (by decide); omega) (by decide) ?_
    refine lv_aload_n hx hb dX11_counted_144 rfl (lv_at hl 0 rfl) ?_
    refine r_get hx hb hts (iwX11_counted_X11) hown hK.1 hP 0 (by decide) (ceMo_0 (s1 0)) rfl 0 (by decide) (hts _ kX11_counted_1) (v := .ref (ad 1)) rfl dX11_counted_145 ?_
    refine lv_iconst (v := 2) hx hb dX11_counted_148 (by decide) ?_
    refine lv_iload_n hx hb dX11_counted_149 rfl (lv_at hl 1 rfl) ?_
    refine lv_iadd hx hb dX11_counted_150 ?_
    refine lv_bipush (v := 6) hx hb dX11_counted_151 (by decide) ?_
    refine lv_isub hx hb dX11_counted_153 ?_
    obtain ⟨hin, hv⟩ := hv
    refine r_iald hx hb hK.1 hP 1 (by decide) (ceMo_1 (s1 1)) hin dX11_counted_154 ?_
    exact r_iret hx hb hr hlocks hv hP hS dX11_counted_155
  · have hv := hv.2 c9
    refine lv_iload_n hx hb dX11_counted_12 rfl (lv_at hl 2 rfl) ?_
    refine lv_aload_n hx hb dX11_counted_13 rfl (lv_at hl 0 rfl) ?_
    refine r_get hx hb hts (iwX11_counted_X11) hown hK.1 hP 0 (by decide) (ceMo_0 (s1 0)) rfl 0 (by decide) (hts _ kX11_counted_1) (v := .ref (ad 1)) rfl dX11_counted_14 ?_
    refine lv_iload_n hx hb dX11_counted_17 rfl (lv_at hl 3 rfl) ?_
    refine r_ci (va_runS (As := [.ref (ad 1), .int x3]) (rest := [.int x2]) ⟨hx, hb, hml, hown, hts⟩ (c_X11_waits hi 1 181 x3 arM_1 s1 _ hv H.size) (va_cwS 2 hts gX11_counted_X11_waits rfl rfl rfl (by decide +kernel) ⟨Nat.le_of_ble_eq_true rfl, Nat.le_of_ble_eq_true rfl⟩) ⟨pre_blind, pre_of hP hK⟩ rfl rfl hl.1 rfl (lv_room (Nat.le_of_ble_eq_true rfl)) dX11_counted_18 ⟨Nat.zero_le _, Nat.zero_le _⟩) hS (fun r5 s5 H locs hv hP hS => ?_)
    obtain ⟨hz_r5, hv⟩ := hv
    have hD := wd_D (s := s) (cel := celM ad cA cZ) (σ := s5) hi
    refine lv_if_eq (tgt := 28) hx hb dX11_counted_21 (by decide) (fun c21 => ?_) (fun c21 => ?_)
    · have hv := hv.1 c21
      refine lv_iconst (v := 0) hx hb dX11_counted_28 (by decide) ?_
      refine lv_iadd hx hb dX11_counted_29 ?_
      refine lv_istore_n (lv' := [(2, .int (x2 + 0)), (0, .ref (ad 0)), (1, .int a1), (3, .int x3)]) hx hb dX11_counted_30 rfl hl (by decide) rfl (fun ls hl => ?_)
      refine lv_iinc (v := x3 + 1) (lv' := [(3, .int (x3 + 1)), (2, .int (x2 + 0)), (0, .ref (ad 0)), (1, .int a1)]) hx hb dX11_counted_31 hl (k := 3) rfl rfl (by decide) rfl (fun ls hl => ?_)
      refine lv_goto (tgt := 4) hx hb dX11_counted_34 (by decide) ?_
      exact hY 4 [x2 + 0, x3 + 1] [] s5 hv _ _ rfl H locs ls hP hS (lv_sub hl [2, 3, 1, 0] rfl)
    · have hv := hv.2 c21
      refine lv_iconst (v := 1) hx hb dX11_counted_24 (by decide) ?_
      refine lv_goto (tgt := 29) hx hb dX11_counted_25 (by decide) ?_
      refine lv_iadd hx hb dX11_counted_29 ?_
      refine lv_istore_n (lv' := [(2, .int (x2 + 1)), (0, .ref (ad 0)), (1, .int a1), (3, .int x3)]) hx hb dX11_counted_30 rfl hl (by decide) rfl (fun ls hl => ?_)
      refine lv_iinc (v := x3 + 1) (lv' := [(3, .int (x3 + 1)), (2, .int (x2 + 1)), (0, .ref (ad 0)), (1, .int a1)]) hx hb dX11_counted_31 hl (k := 3) rfl rfl (by decide) rfl (fun ls hl => ?_)
      refine lv_goto (tgt := 4) hx hb dX11_counted_34 (by decide) ?_
      exact hY 4 [x2 + 1, x3 + 1] [] s5 hv _ _ rfl H locs ls hP hS (lv_sub hl [2, 3, 1, 0] rfl)
set_option maxHeartbeats 4000000 in
theorem y_X11_counted {p : Program} {l : Launch} {e : Env} {s : State} {m : MethodId} {args : Array Value} {below : List Frame} {meth : Method} {c : Code} {dC : Nat → ClassId} {dI : Nat → Nat → Nat} {ad : Nat → Nat} {cA cZ : ClassId} (hi : Inj 12 ad) (a1 : Int32)  (C0 : Cx cX11_counted RX11 wsX11_counted 4 (some .int) p s m args meth c) (hK : KK dC dI cA cZ s) (Q : Int32 → St → Prop) : ∀ P xs ys σ, R_X11_counted a1 Q P xs ys σ → XX p l e ({ frames := 2, cells := 0, slots := 0, locals := 43 } : Room) s m args below meth c (dC, dI) 12 ad (celM ad cA cZ) 4 (ZI below args s (dC, dI) 12 ad (celM ad cA cZ) Q) (lay_X11_counted ad a1) P xs ys σ := by
  refine Fx.elim _ (fun P xs ys σ Y hY hB => ?_)
  rcases hB with ⟨rfl, x2, x3, rfl, rfl, hB⟩
  · intro lv st he H locs ls hP hS hl
    cases he
    exact w_X11_counted_4 hi a1  C0 hK Q Y hY x2 x3 σ hB hP hS hl
set_option maxHeartbeats 4000000 in
theorem c_X11_counted {l : Launch} {dC : Nat → ClassId} {dI : Nat → Nat → Nat} {ad : Nat → Nat} {cA cZ : ClassId} (hi : Inj 12 ad) (a1 : Int32)  (s0 : St) (Q : Int32 → St → Prop) (hv : V_X11_counted a1 s0 Q) (sz : Nat) : Met l yX11_counted wsX11_counted ({ frames := 2, cells := 0, slots := 0, locals := 43 } : Room) (va_Pc [.ref (ad 0), .int a1] (PW dC dI ad cA cZ 12 (celM ad cA cZ) sz s0)) (va_Qi Q (fun u t => va_P (dC, dI) vwCl (wd 12 ad (celM ad cA cZ) u) t.heap) (AA 12 ad sz)) 0 0 (AA 12 ad sz) := by
  refine Met.ofW (cc := cX11_counted) (maxL := 4) (ret := (some .int)) (by decide) rfl ?_
  intro p e s m args below meth c s₁ B hml hv0
  obtain ⟨rfl, hsz, hP, hK⟩ := hv0
  subst hsz
  have C0 : Cx cX11_counted RX11 wsX11_counted 4 (some .int) p s m ([.ref (ad 0), .int a1] : List Value).toArray meth c := ⟨B.exec, B.bytes, hml, findClass_of_methodNamed B.named, atoms_spec (ws := wsX11_counted) B.pre, B.returns, B.notSynchronized⟩
  have hl := lv_entry ([.ref (ad 0), .int a1]) (n := 4) (Nat.le_of_ble_eq_true rfl)
  rw [lg_entry_eq]
  generalize (lg_sl ([.ref (ad 0), .int a1]) ++ List.replicate (4 - (lg_sl ([.ref (ad 0), .int a1])).length) Slot.unset).toArray = ls at hl ⊢
  have hl : lv_has ls 4 [(0, .ref (ad 0)), (1, .int a1)] := hl
  exact w_X11_counted_e hi a1  C0 hK Q (R_X11_counted a1 Q) (y_X11_counted hi a1  C0 hK Q)  s0 hv hP va_S.rf hl
def lay_X11_count (ad : Nat → Nat) (a1 : Int32) : Nat → List Int32 → List Int64 → Option (List (Nat × Value) × List Value) := fun P xs ys => match P, xs, ys with
  | _, _, _ => none
set_option maxHeartbeats 4000000 in
set_option maxRecDepth 100000 in
theorem w_X11_count_e {p : Program} {l : Launch} {e : Env} {s : State} {m : MethodId} {args : Array Value} {below : List Frame} {meth : Method} {c : Code} {dC : Nat → ClassId} {dI : Nat → Nat → Nat} {ad : Nat → Nat} {cA cZ : ClassId} (hi : Inj 12 ad) (a1 : Int32)  (C0 : Cx cX11_count RX11 wsX11_count 2 (some .int) p s m args meth c) (hK : KK dC dI cA cZ s) (Q : Int32 → St → Prop) (Y : Nat → List Int32 → List Int64 → St → Prop) (hY : ∀ P xs ys σ, Y P xs ys σ → XX p l e ({ frames := 3, cells := 0, slots := 0, locals := 66 } : Room) s m args below meth c (dC, dI) 12 ad (celM ad cA cZ) 2 (ZI below args s (dC, dI) 12 ad (celM ad cA cZ) Q) (lay_X11_count ad a1) P xs ys σ)  (s0 : St) (hv : B_X11_count_e a1 Q Y  s0) {H : Heap} {locs : List Loc} {ls : Array Slot} (hP : va_P (dC, dI) vwCl (wd 12 ad (celM ad cA cZ) s0) H) (hS : va_S (AA 12 ad s.heap.size) s.heap H locs) (hl : lv_has ls 2 [(0, .ref (ad 0)), (1, .int a1)]) : W p l e ({ frames := 3, cells := 0, slots := 0, locals := 66 } : Room) s m args below meth c H locs 0 0 (ZI below args s (dC, dI) 12 ad (celM ad cA cZ) Q) (F0 m 0 ls []) := by
  obtain ⟨hx, hb, hml, hown, hts, hr, hlocks⟩ := C0
  have hD := wd_D (s := s) (cel := celM ad cA cZ) (σ := s0) hi
  unfold B_X11_count_e at hv
  refine lv_iload_n hx hb dX11_count_0 rfl (lv_at hl 1 rfl) ?_
  refine lv_i2l (v := a1.toInt64) hx hb dX11_count_1 rfl ?_
  refine lv_lconst (v := 0) hx hb dX11_count_2 (by decide) ?_
  refine lv_ldc2 (v := 10) hx hb hown (hts _ kX11_count_1) dX11_count_3 ?_
  refine r_ci (va_runS (As := [.long a1.toInt64, .long 0, .long 10]) (rest := []) ⟨hx, hb, hml, hown, hts⟩ (c_X11_in hi a1.toInt64 0 10 s0 _ hv H.size) (va_cwS 3 hts gX11_count_X11_in rfl rfl rfl (by decide +kernel) ⟨Nat.le_of_ble_eq_true rfl, Nat.le_of_ble_eq_true rfl⟩) ⟨pre_blind, pre_of hP hK⟩ rfl rfl hl.1 rfl (lv_room (Nat.le_of_ble_eq_true rfl)) dX11_count_6 ⟨Nat.zero_le _, Nat.zero_le _⟩) hS (fun r1 s1 H locs hv hP hS => ?_)
  obtain ⟨hz_r1, hv⟩ := hv
  have hD := wd_D (s := s) (cel := celM ad cA cZ) (σ := s1) hi
  refine lv_if_eq (tgt := 20) hx hb dX11_count_9 (by decide) (fun c9 => ?_) (fun c9 => ?_)
  · have hv := hv.1 c9
    refine lv_aload_n hx hb dX11_count_20 rfl (lv_at hl 0 rfl) ?_
    refine lv_bipush (v := (-2)) hx hb dX11_count_21 (by decide) ?_
    refine r_ci (va_runV (As := [.int ((-2))]) (rest := []) ⟨hx, hb, hml, hown, hts⟩ (c_X11_bad hi ((-2)) s1 _ hv H.size) (cwV 1 hts gX11_count_X11_bad rfl rfl rfl (by decide +kernel) ⟨Nat.le_of_ble_eq_true rfl, Nat.le_of_ble_eq_true rfl⟩) ⟨pre_blind, r_recv hK.1 hP 0 (by decide) (ceMo_0 (s1 0)) rfl, pre_of hP hK⟩ rfl rfl hl.1 rfl (lv_room (Nat.le_of_ble_eq_true rfl)) dX11_count_23 ⟨Nat.zero_le _, Nat.zero_le _⟩) hS (fun r2 s2 H locs hv hP hS => ?_)
    have hD := wd_D (s := s) (cel := celM ad cA cZ) (σ := s2) hi
    exact r_iret hx hb hr hlocks hv hP hS dX11_count_26
  · have hv := hv.2 c9
    refine lv_aload_n hx hb dX11_count_12 rfl (lv_at hl 0 rfl) ?_
    refine lv_iload_n hx hb dX11_count_13 rfl (lv_at hl 1 rfl) ?_
    refine r_ci (va_runV (As := [.int a1]) (rest := []) ⟨hx, hb, hml, hown, hts⟩ (c_X11_counted hi a1 s1 _ hv H.size) (cwV 1 hts gX11_count_X11_counted rfl rfl rfl (by decide +kernel) ⟨Nat.le_of_ble_eq_true rfl, Nat.le_of_ble_eq_true rfl⟩) ⟨pre_blind, r_recv hK.1 hP 0 (by decide) (ceMo_0 (s1 0)) rfl, pre_of hP hK⟩ rfl rfl hl.1 rfl (lv_room (Nat.le_of_ble_eq_true rfl)) dX11_count_14 ⟨Nat.zero_le _, Nat.zero_le _⟩) hS (fun r3 s3 H locs hv hP hS => ?_)
    have hD := wd_D (s := s) (cel := celM ad cA cZ) (σ := s3) hi
    refine lv_goto (tgt := 26) hx hb dX11_count_17 (by decide) ?_
    exact r_iret hx hb hr hlocks hv hP hS dX11_count_26
set_option maxHeartbeats 4000000 in
theorem y_X11_count {p : Program} {l : Launch} {e : Env} {s : State} {m : MethodId} {args : Array Value} {below : List Frame} {meth : Method} {c : Code} {dC : Nat → ClassId} {dI : Nat → Nat → Nat} {ad : Nat → Nat} {cA cZ : ClassId} (hi : Inj 12 ad) (a1 : Int32)  (C0 : Cx cX11_count RX11 wsX11_count 2 (some .int) p s m args meth c) (hK : KK dC dI cA cZ s) (Q : Int32 → St → Prop) : ∀ P xs ys σ, R_X11_count a1 Q P xs ys σ → XX p l e ({ frames := 3, cells := 0, slots := 0, locals := 66 } : Room) s m args below meth c (dC, dI) 12 ad (celM ad cA cZ) 2 (ZI below args s (dC, dI) 12 ad (celM ad cA cZ) Q) (lay_X11_count ad a1) P xs ys σ := by
  refine Fx.elim _ (fun P xs ys σ Y hY hB => ?_)
  exact hB.elim
set_option maxHeartbeats 4000000 in
theorem c_X11_count {l : Launch} {dC : Nat → ClassId} {dI : Nat → Nat → Nat} {ad : Nat → Nat} {cA cZ : ClassId} (hi : Inj 12 ad) (a1 : Int32)  (s0 : St) (Q : Int32 → St → Prop) (hv : V_X11_count a1 s0 Q) (sz : Nat) : Met l yX11_count wsX11_count ({ frames := 3, cells := 0, slots := 0, locals := 66 } : Room) (va_Pc [.ref (ad 0), .int a1] (PW dC dI ad cA cZ 12 (celM ad cA cZ) sz s0)) (va_Qi Q (fun u t => va_P (dC, dI) vwCl (wd 12 ad (celM ad cA cZ) u) t.heap) (AA 12 ad sz)) 0 0 (AA 12 ad sz) := by
  refine Met.ofW (cc := cX11_count) (maxL := 2) (ret := (some .int)) (by decide) rfl ?_
  intro p e s m args below meth c s₁ B hml hv0
  obtain ⟨rfl, hsz, hP, hK⟩ := hv0
  subst hsz
  have C0 : Cx cX11_count RX11 wsX11_count 2 (some .int) p s m ([.ref (ad 0), .int a1] : List Value).toArray meth c := ⟨B.exec, B.bytes, hml, findClass_of_methodNamed B.named, atoms_spec (ws := wsX11_count) B.pre, B.returns, B.notSynchronized⟩
  have hl := lv_entry ([.ref (ad 0), .int a1]) (n := 2) (Nat.le_of_ble_eq_true rfl)
  rw [lg_entry_eq]
  generalize (lg_sl ([.ref (ad 0), .int a1]) ++ List.replicate (2 - (lg_sl ([.ref (ad 0), .int a1])).length) Slot.unset).toArray = ls at hl ⊢
  have hl : lv_has ls 2 [(0, .ref (ad 0)), (1, .int a1)] := hl
  exact w_X11_count_e hi a1  C0 hK Q (R_X11_count a1 Q) (y_X11_count hi a1  C0 hK Q)  s0 hv hP va_S.rf hl
def lay_X11_sums (ad : Nat → Nat) (a1 : Int64) (a3 : Int32) (a4 : Int32) : Nat → List Int32 → List Int64 → Option (List (Nat × Value) × List Value) := fun P xs ys => match P, xs, ys with
  | 6, [x7], [y5] => some ([(0, .ref (ad 0)), (3, .int a3), (4, .int a4), (5, .long y5), (7, .int x7)], [])
  | _, _, _ => none
set_option maxHeartbeats 4000000 in
set_option maxRecDepth 100000 in
theorem w_X11_sums_e {p : Program} {l : Launch} {e : Env} {s : State} {m : MethodId} {args : Array Value} {below : List Frame} {meth : Method} {c : Code} {dC : Nat → ClassId} {dI : Nat → Nat → Nat} {ad : Nat → Nat} {cA cZ : ClassId} (hi : Inj 12 ad) (a1 : Int64) (a3 : Int32) (a4 : Int32)  (C0 : Cx cX11_sums RX11 wsX11_sums 8 (some .long) p s m args meth c) (hK : KK dC dI cA cZ s) (Q : Int64 → St → Prop) (Y : Nat → List Int32 → List Int64 → St → Prop) (hY : ∀ P xs ys σ, Y P xs ys σ → XX p l e ({ frames := 0, cells := 0, slots := 0, locals := 0 } : Room) s m args below meth c (dC, dI) 12 ad (celM ad cA cZ) 8 (ZL below args s (dC, dI) 12 ad (celM ad cA cZ) Q) (lay_X11_sums ad a1 a3 a4) P xs ys σ)  (s0 : St) (hv : B_X11_sums_e a1 a3 a4 Q Y  s0) {H : Heap} {locs : List Loc} {ls : Array Slot} (hP : va_P (dC, dI) vwCl (wd 12 ad (celM ad cA cZ) s0) H) (hS : va_S (AA 12 ad s.heap.size) s.heap H locs) (hl : lv_has ls 8 [(0, .ref (ad 0)), (1, .long a1), (3, .int a3), (4, .int a4)]) : W p l e ({ frames := 0, cells := 0, slots := 0, locals := 0 } : Room) s m args below meth c H locs 0 0 (ZL below args s (dC, dI) 12 ad (celM ad cA cZ) Q) (F0 m 0 ls []) := by
  obtain ⟨hx, hb, hml, hown, hts, hr, hlocks⟩ := C0
  have hD := wd_D (s := s) (cel := celM ad cA cZ) (σ := s0) hi
  unfold B_X11_sums_e at hv
  refine lv_lload_n hx hb dX11_sums_0 rfl (lv_at hl 1 rfl) ?_
  refine lv_lstore (lv' := [(5, .long a1), (0, .ref (ad 0)), (1, .long a1), (3, .int a3), (4, .int a4)]) hx hb dX11_sums_1 hl (by decide) rfl (fun ls hl => ?_)
  refine lv_iconst (v := 0) hx hb dX11_sums_3 (by decide) ?_
  refine lv_istore (lv' := [(7, .int 0), (5, .long a1), (0, .ref (ad 0)), (1, .long a1), (3, .int a3), (4, .int a4)]) hx hb dX11_sums_4 hl (by decide) rfl (fun ls hl => ?_)
  exact hY 6 [0] [a1] s0 hv _ _ rfl H locs ls hP hS (lv_sub hl [2, 4, 5, 1, 0] rfl)
set_option maxHeartbeats 4000000 in
set_option maxRecDepth 100000 in
theorem w_X11_sums_6 {p : Program} {l : Launch} {e : Env} {s : State} {m : MethodId} {args : Array Value} {below : List Frame} {meth : Method} {c : Code} {dC : Nat → ClassId} {dI : Nat → Nat → Nat} {ad : Nat → Nat} {cA cZ : ClassId} (hi : Inj 12 ad) (a1 : Int64) (a3 : Int32) (a4 : Int32)  (C0 : Cx cX11_sums RX11 wsX11_sums 8 (some .long) p s m args meth c) (hK : KK dC dI cA cZ s) (Q : Int64 → St → Prop) (Y : Nat → List Int32 → List Int64 → St → Prop) (hY : ∀ P xs ys σ, Y P xs ys σ → XX p l e ({ frames := 0, cells := 0, slots := 0, locals := 0 } : Room) s m args below meth c (dC, dI) 12 ad (celM ad cA cZ) 8 (ZL below args s (dC, dI) 12 ad (celM ad cA cZ) Q) (lay_X11_sums ad a1 a3 a4) P xs ys σ) (x7 : Int32) (y5 : Int64) (s0 : St) (hv : B_X11_sums_6 a1 a3 a4 Q Y x7 y5 s0) {H : Heap} {locs : List Loc} {ls : Array Slot} (hP : va_P (dC, dI) vwCl (wd 12 ad (celM ad cA cZ) s0) H) (hS : va_S (AA 12 ad s.heap.size) s.heap H locs) (hl : lv_has ls 8 [(0, .ref (ad 0)), (3, .int a3), (4, .int a4), (5, .long y5), (7, .int x7)]) : W p l e ({ frames := 0, cells := 0, slots := 0, locals := 0 } : Room) s m args below meth c H locs 0 0 (ZL below args s (dC, dI) 12 ad (celM ad cA cZ) Q) (F0 m 6 ls []) := by
  obtain ⟨hx, hb, hml, hown, hts, hr, hlocks⟩ := C0
  have hD := wd_D (s := s) (cel := celM ad cA cZ) (σ := s0) hi
  unfold B_X11_sums_6 at hv
  refine lv_iload hx hb dX11_sums_6 (lv_at hl 4 rfl) ?_
  refine lv_iload hx hb dX11_sums_8 (lv_at hl 2 rfl) ?_
  refine lv_icmp_ge (tgt := 38) hx hb dX11_sums_10 (by decide) (fun c10 => ?_) (fun c10 => ?_)
  · have hv := hv.1 c10
    refine lv_lload hx hb dX11_sums_38 (lv_at hl 3 rfl) ?_
    exact r_lret hx hb hr hlocks hv hP hS dX11_sums_40
  · have hv := hv.2 c10
    refine lv_ldc2 (v := 31) hx hb hown (hts _ kX11_sums_1) dX11_sums_13 ?_
    refine lv_lload hx hb dX11_sums_16 (lv_at hl 3 rfl) ?_
    refine lv_lmul hx hb dX11_sums_18 ?_
    refine lv_aload_n hx hb dX11_sums_19 rfl (lv_at hl 0 rfl) ?_
    refine r_get hx hb hts (iwX11_sums_X11) hown hK.1 hP 0 (by decide) (ceMo_0 (s0 0)) rfl 0 (by decide) (hts _ kX11_sums_2) (v := .ref (ad 1)) rfl dX11_sums_20 ?_
    refine lv_iload_n hx hb dX11_sums_23 rfl (lv_at hl 1 rfl) ?_
    refine lv_iload hx hb dX11_sums_24 (lv_at hl 4 rfl) ?_
    refine lv_iadd hx hb dX11_sums_26 ?_
    obtain ⟨hin, hv⟩ := hv
    refine r_iald hx hb hK.1 hP 1 (by decide) (ceMo_1 (s0 1)) hin dX11_sums_27 ?_
    refine lv_i2l (v := (s0 1 (a3 + x7).toNatClampNeg).toInt64) hx hb dX11_sums_28 rfl ?_
    refine lv_ladd hx hb dX11_sums_29 ?_
    refine lv_topl (fun v1 ev1 => ?_)
    have hv := hv v1 ev1
    refine lv_lstore (lv' := [(5, .long v1), (0, .ref (ad 0)), (3, .int a3), (4, .int a4), (7, .int x7)]) hx hb dX11_sums_30 hl (by decide) rfl (fun ls hl => ?_)
    refine lv_iinc (v := x7 + 1) (lv' := [(7, .int (x7 + 1)), (5, .long v1), (0, .ref (ad 0)), (3, .int a3), (4, .int a4)]) hx hb dX11_sums_32 hl (k := 4) rfl rfl (by decide) rfl (fun ls hl => ?_)
    refine lv_goto (tgt := 6) hx hb dX11_sums_35 (by decide) ?_
    exact hY 6 [x7 + 1] [v1] s0 hv _ _ rfl H locs ls hP hS (lv_sub hl [2, 3, 4, 1, 0] rfl)
set_option maxHeartbeats 4000000 in
theorem y_X11_sums {p : Program} {l : Launch} {e : Env} {s : State} {m : MethodId} {args : Array Value} {below : List Frame} {meth : Method} {c : Code} {dC : Nat → ClassId} {dI : Nat → Nat → Nat} {ad : Nat → Nat} {cA cZ : ClassId} (hi : Inj 12 ad) (a1 : Int64) (a3 : Int32) (a4 : Int32)  (C0 : Cx cX11_sums RX11 wsX11_sums 8 (some .long) p s m args meth c) (hK : KK dC dI cA cZ s) (Q : Int64 → St → Prop) : ∀ P xs ys σ, R_X11_sums a1 a3 a4 Q P xs ys σ → XX p l e ({ frames := 0, cells := 0, slots := 0, locals := 0 } : Room) s m args below meth c (dC, dI) 12 ad (celM ad cA cZ) 8 (ZL below args s (dC, dI) 12 ad (celM ad cA cZ) Q) (lay_X11_sums ad a1 a3 a4) P xs ys σ := by
  refine Fx.elim _ (fun P xs ys σ Y hY hB => ?_)
  rcases hB with ⟨rfl, x7, y5, rfl, rfl, hB⟩
  · intro lv st he H locs ls hP hS hl
    cases he
    exact w_X11_sums_6 hi a1 a3 a4  C0 hK Q Y hY x7 y5 σ hB hP hS hl
set_option maxHeartbeats 4000000 in
theorem c_X11_sums {l : Launch} {dC : Nat → ClassId} {dI : Nat → Nat → Nat} {ad : Nat → Nat} {cA cZ : ClassId} (hi : Inj 12 ad) (a1 : Int64) (a3 : Int32) (a4 : Int32)  (s0 : St) (Q : Int64 → St → Prop) (hv : V_X11_sums a1 a3 a4 s0 Q) (sz : Nat) : Met l yX11_sums wsX11_sums ({ frames := 0, cells := 0, slots := 0, locals := 0 } : Room) (va_Pc [.ref (ad 0), .long a1, .int a3, .int a4] (PW dC dI ad cA cZ 12 (celM ad cA cZ) sz s0)) (va_Ql Q (fun u t => va_P (dC, dI) vwCl (wd 12 ad (celM ad cA cZ) u) t.heap) (AA 12 ad sz)) 0 0 (AA 12 ad sz) := by
  refine Met.ofW (cc := cX11_sums) (maxL := 8) (ret := (some .long)) (by decide) rfl ?_
  intro p e s m args below meth c s₁ B hml hv0
  obtain ⟨rfl, hsz, hP, hK⟩ := hv0
  subst hsz
  have C0 : Cx cX11_sums RX11 wsX11_sums 8 (some .long) p s m ([.ref (ad 0), .long a1, .int a3, .int a4] : List Value).toArray meth c := ⟨B.exec, B.bytes, hml, findClass_of_methodNamed B.named, atoms_spec (ws := wsX11_sums) B.pre, B.returns, B.notSynchronized⟩
  have hl := lv_entry ([.ref (ad 0), .long a1, .int a3, .int a4]) (n := 8) (Nat.le_of_ble_eq_true rfl)
  rw [lg_entry_eq]
  generalize (lg_sl ([.ref (ad 0), .long a1, .int a3, .int a4]) ++ List.replicate (8 - (lg_sl ([.ref (ad 0), .long a1, .int a3, .int a4])).length) Slot.unset).toArray = ls at hl ⊢
  have hl : lv_has ls 8 [(0, .ref (ad 0)), (1, .long a1), (3, .int a3), (4, .int a4)] := hl
  exact w_X11_sums_e hi a1 a3 a4  C0 hK Q (R_X11_sums a1 a3 a4 Q) (y_X11_sums hi a1 a3 a4  C0 hK Q)  s0 hv hP va_S.rf hl
def lay_X11_digest (ad : Nat → Nat)  : Nat → List Int32 → List Int64 → Option (List (Nat × Value) × List Value) := fun P xs ys => match P, xs, ys with
  | 6, [x3], [y1] => some ([(0, .ref (ad 0)), (1, .long y1), (3, .int x3)], [])
  | 43, [x3], [y1] => some ([(0, .ref (ad 0)), (1, .long y1), (3, .int x3)], [])
  | 106, [x3], [y1] => some ([(0, .ref (ad 0)), (1, .long y1), (3, .int x3)], [])
  | _, _, _ => none
set_option maxHeartbeats 4000000 in
set_option maxRecDepth 100000 in
theorem w_X11_digest_e {p : Program} {l : Launch} {e : Env} {s : State} {m : MethodId} {args : Array Value} {below : List Frame} {meth : Method} {c : Code} {dC : Nat → ClassId} {dI : Nat → Nat → Nat} {ad : Nat → Nat} {cA cZ : ClassId} (hi : Inj 12 ad)   (C0 : Cx cX11_digest RX11 wsX11_digest 4 (some .long) p s m args meth c) (hK : KK dC dI cA cZ s) (Q : Int64 → St → Prop) (Y : Nat → List Int32 → List Int64 → St → Prop) (hY : ∀ P xs ys σ, Y P xs ys σ → XX p l e ({ frames := 3, cells := 0, slots := 0, locals := 66 } : Room) s m args below meth c (dC, dI) 12 ad (celM ad cA cZ) 4 (ZL below args s (dC, dI) 12 ad (celM ad cA cZ) Q) (lay_X11_digest ad ) P xs ys σ)  (s0 : St) (hv : B_X11_digest_e  Q Y  s0) {H : Heap} {locs : List Loc} {ls : Array Slot} (hP : va_P (dC, dI) vwCl (wd 12 ad (celM ad cA cZ) s0) H) (hS : va_S (AA 12 ad s.heap.size) s.heap H locs) (hl : lv_has ls 4 [(0, .ref (ad 0))]) : W p l e ({ frames := 3, cells := 0, slots := 0, locals := 66 } : Room) s m args below meth c H locs 0 0 (ZL below args s (dC, dI) 12 ad (celM ad cA cZ) Q) (F0 m 0 ls []) := by
  obtain ⟨hx, hb, hml, hown, hts, hr, hlocks⟩ := C0
  have hD := wd_D (s := s) (cel := celM ad cA cZ) (σ := s0) hi
  unfold B_X11_digest_e at hv
  refine lv_ldc2 (v := 1619) hx hb hown (hts _ kX11_digest_1) dX11_digest_0 ?_
  refine lv_lstore_n (lv' := [(1, .long 1619), (0, .ref (ad 0))]) hx hb dX11_digest_3 rfl hl (by decide) rfl (fun ls hl => ?_)
  refine lv_iconst (v := 0) hx hb dX11_digest_4 (by decide) ?_
  refine lv_istore_n (lv' := [(3, .int 0), (1, .long 1619), (0, .ref (ad 0))]) hx hb dX11_digest_5 rfl hl (by decide) rfl (fun ls hl => ?_)
  exact hY 6 [0] [1619] s0 hv _ _ rfl H locs ls hP hS (lv_sub hl [2, 1, 0] rfl)
set_option maxHeartbeats 4000000 in
set_option maxRecDepth 100000 in
theorem w_X11_digest_6 {p : Program} {l : Launch} {e : Env} {s : State} {m : MethodId} {args : Array Value} {below : List Frame} {meth : Method} {c : Code} {dC : Nat → ClassId} {dI : Nat → Nat → Nat} {ad : Nat → Nat} {cA cZ : ClassId} (hi : Inj 12 ad)   (C0 : Cx cX11_digest RX11 wsX11_digest 4 (some .long) p s m args meth c) (hK : KK dC dI cA cZ s) (Q : Int64 → St → Prop) (Y : Nat → List Int32 → List Int64 → St → Prop) (hY : ∀ P xs ys σ, Y P xs ys σ → XX p l e ({ frames := 3, cells := 0, slots := 0, locals := 66 } : Room) s m args below meth c (dC, dI) 12 ad (celM ad cA cZ) 4 (ZL below args s (dC, dI) 12 ad (celM ad cA cZ) Q) (lay_X11_digest ad ) P xs ys σ) (x3 : Int32) (y1 : Int64) (s0 : St) (hv : B_X11_digest_6  Q Y x3 y1 s0) {H : Heap} {locs : List Loc} {ls : Array Slot} (hP : va_P (dC, dI) vwCl (wd 12 ad (celM ad cA cZ) s0) H) (hS : va_S (AA 12 ad s.heap.size) s.heap H locs) (hl : lv_has ls 4 [(0, .ref (ad 0)), (1, .long y1), (3, .int x3)]) : W p l e ({ frames := 3, cells := 0, slots := 0, locals := 66 } : Room) s m args below meth c H locs 0 0 (ZL below args s (dC, dI) 12 ad (celM ad cA cZ) Q) (F0 m 6 ls []) := by
  obtain ⟨hx, hb, hml, hown, hts, hr, hlocks⟩ := C0
  have hD := wd_D (s := s) (cel := celM ad cA cZ) (σ := s0) hi
  unfold B_X11_digest_6 at hv
  refine lv_iload_n hx hb dX11_digest_6 rfl (lv_at hl 2 rfl) ?_
  refine lv_bipush (v := 11) hx hb dX11_digest_7 (by decide) ?_
  refine lv_icmp_ge (tgt := 31) hx hb dX11_digest_9 (by decide) (fun c9 => ?_) (fun c9 => ?_)
  · have hv := hv.1 c9
    refine lv_aload_n hx hb dX11_digest_31 rfl (lv_at hl 0 rfl) ?_
    refine lv_lload_n hx hb dX11_digest_32 rfl (lv_at hl 1 rfl) ?_
    refine lv_bipush (v := 16) hx hb dX11_digest_33 (by decide) ?_
    refine lv_bipush (v := 6) hx hb dX11_digest_35 (by decide) ?_
    refine r_cl (va_runV (As := [.long y1, .int 16, .int 6]) (rest := []) ⟨hx, hb, hml, hown, hts⟩ (c_X11_sums hi y1 16 6 s0 _ hv H.size) (cwV 3 hts gX11_digest_X11_sums rfl rfl rfl (by decide +kernel) ⟨Nat.le_of_ble_eq_true rfl, Nat.le_of_ble_eq_true rfl⟩) ⟨pre_blind, r_recv hK.1 hP 0 (by decide) (ceMo_0 (s0 0)) rfl, pre_of hP hK⟩ rfl rfl hl.1 rfl (lv_room (Nat.le_of_ble_eq_true rfl)) dX11_digest_37 ⟨Nat.zero_le _, Nat.zero_le _⟩) hS (fun r1 s1 H locs hv hP hS => ?_)
    have hD := wd_D (s := s) (cel := celM ad cA cZ) (σ := s1) hi
    refine lv_lstore_n (lv' := [(1, .long r1), (0, .ref (ad 0)), (3, .int x3)]) hx hb dX11_digest_40 rfl hl (by decide) rfl (fun ls hl => ?_)
    refine lv_iconst (v := 0) hx hb dX11_digest_41 (by decide) ?_
    refine lv_istore_n (lv' := [(3, .int 0), (1, .long r1), (0, .ref (ad 0))]) hx hb dX11_digest_42 rfl hl (by decide) rfl (fun ls hl => ?_)
    exact hY 43 [0] [r1] s1 hv _ _ rfl H locs ls hP hS (lv_sub hl [2, 1, 0] rfl)
  · have hv := hv.2 c9
    refine lv_ldc2 (v := 31) hx hb hown (hts _ kX11_digest_2) dX11_digest_12 ?_
    refine lv_lload_n hx hb dX11_digest_15 rfl (lv_at hl 1 rfl) ?_
    refine lv_lmul hx hb dX11_digest_16 ?_
    refine lv_aload_n hx hb dX11_digest_17 rfl (lv_at hl 0 rfl) ?_
    refine lv_iload_n hx hb dX11_digest_18 rfl (lv_at hl 2 rfl) ?_
    refine r_ci (va_runV (As := [.int x3]) (rest := [.long (31 * y1)]) ⟨hx, hb, hml, hown, hts⟩ (c_X11_counted hi x3 s0 _ hv H.size) (cwV 1 hts gX11_digest_X11_counted rfl rfl rfl (by decide +kernel) ⟨Nat.le_of_ble_eq_true rfl, Nat.le_of_ble_eq_true rfl⟩) ⟨pre_blind, r_recv hK.1 hP 0 (by decide) (ceMo_0 (s0 0)) rfl, pre_of hP hK⟩ rfl rfl hl.1 rfl (lv_room (Nat.le_of_ble_eq_true rfl)) dX11_digest_19 ⟨Nat.zero_le _, Nat.zero_le _⟩) hS (fun r2 s2 H locs hv hP hS => ?_)
    have hD := wd_D (s := s) (cel := celM ad cA cZ) (σ := s2) hi
    refine lv_i2l (v := r2.toInt64) hx hb dX11_digest_22 rfl ?_
    refine lv_ladd hx hb dX11_digest_23 ?_
    refine lv_lstore_n (lv' := [(1, .long ((31 * y1) + r2.toInt64)), (0, .ref (ad 0)), (3, .int x3)]) hx hb dX11_digest_24 rfl hl (by decide) rfl (fun ls hl => ?_)
    refine lv_iinc (v := x3 + 1) (lv' := [(3, .int (x3 + 1)), (1, .long ((31 * y1) + r2.toInt64)), (0, .ref (ad 0))]) hx hb dX11_digest_25 hl (k := 2) rfl rfl (by decide) rfl (fun ls hl => ?_)
    refine lv_goto (tgt := 6) hx hb dX11_digest_28 (by decide) ?_
    exact hY 6 [x3 + 1] [(31 * y1) + r2.toInt64] s2 hv _ _ rfl H locs ls hP hS (lv_sub hl [2, 1, 0] rfl)
set_option maxHeartbeats 4000000 in
set_option maxRecDepth 100000 in
theorem w_X11_digest_43 {p : Program} {l : Launch} {e : Env} {s : State} {m : MethodId} {args : Array Value} {below : List Frame} {meth : Method} {c : Code} {dC : Nat → ClassId} {dI : Nat → Nat → Nat} {ad : Nat → Nat} {cA cZ : ClassId} (hi : Inj 12 ad)   (C0 : Cx cX11_digest RX11 wsX11_digest 4 (some .long) p s m args meth c) (hK : KK dC dI cA cZ s) (Q : Int64 → St → Prop) (Y : Nat → List Int32 → List Int64 → St → Prop) (hY : ∀ P xs ys σ, Y P xs ys σ → XX p l e ({ frames := 3, cells := 0, slots := 0, locals := 66 } : Room) s m args below meth c (dC, dI) 12 ad (celM ad cA cZ) 4 (ZL below args s (dC, dI) 12 ad (celM ad cA cZ) Q) (lay_X11_digest ad ) P xs ys σ) (x3 : Int32) (y1 : Int64) (s0 : St) (hv : B_X11_digest_43  Q Y x3 y1 s0) {H : Heap} {locs : List Loc} {ls : Array Slot} (hP : va_P (dC, dI) vwCl (wd 12 ad (celM ad cA cZ) s0) H) (hS : va_S (AA 12 ad s.heap.size) s.heap H locs) (hl : lv_has ls 4 [(0, .ref (ad 0)), (1, .long y1), (3, .int x3)]) : W p l e ({ frames := 3, cells := 0, slots := 0, locals := 66 } : Room) s m args below meth c H locs 0 0 (ZL below args s (dC, dI) 12 ad (celM ad cA cZ) Q) (F0 m 43 ls []) := by
  obtain ⟨hx, hb, hml, hown, hts, hr, hlocks⟩ := C0
  have hD := wd_D (s := s) (cel := celM ad cA cZ) (σ := s0) hi
  unfold B_X11_digest_43 at hv
  refine lv_iload_n hx hb dX11_digest_43 rfl (lv_at hl 2 rfl) ?_
  refine lv_aload_n hx hb dX11_digest_44 rfl (lv_at hl 0 rfl) ?_
  refine r_ci (va_runV (As := []) (rest := [.int x3]) ⟨hx, hb, hml, hown, hts⟩ (c_X11_many hi  s0 _ hv H.size) (cwV 0 hts gX11_digest_X11_many rfl rfl rfl (by decide +kernel) ⟨Nat.le_of_ble_eq_true rfl, Nat.le_of_ble_eq_true rfl⟩) ⟨pre_blind, r_recv hK.1 hP 0 (by decide) (ceMo_0 (s0 0)) rfl, pre_of hP hK⟩ rfl rfl hl.1 rfl (lv_room (Nat.le_of_ble_eq_true rfl)) dX11_digest_45 ⟨Nat.zero_le _, Nat.zero_le _⟩) hS (fun r1 s1 H locs hv hP hS => ?_)
  have hD := wd_D (s := s) (cel := celM ad cA cZ) (σ := s1) hi
  refine lv_icmp_ge (tgt := 104) hx hb dX11_digest_48 (by decide) (fun c48 => ?_) (fun c48 => ?_)
  · have hv := hv.1 c48
    refine lv_iconst (v := 0) hx hb dX11_digest_104 (by decide) ?_
    refine lv_istore_n (lv' := [(3, .int 0), (0, .ref (ad 0)), (1, .long y1)]) hx hb dX11_digest_105 rfl hl (by decide) rfl (fun ls hl => ?_)
    exact hY 106 [0] [y1] s1 hv _ _ rfl H locs ls hP hS (lv_sub hl [1, 2, 0] rfl)
  · have hv := hv.2 c48
    refine lv_ldc2 (v := 31) hx hb hown (hts _ kX11_digest_2) dX11_digest_51 ?_
    refine lv_ldc2 (v := 31) hx hb hown (hts _ kX11_digest_2) dX11_digest_54 ?_
    refine lv_ldc2 (v := 31) hx hb hown (hts _ kX11_digest_2) dX11_digest_57 ?_
    refine lv_lload_n hx hb dX11_digest_60 rfl (lv_at hl 1 rfl) ?_
    refine lv_lmul hx hb dX11_digest_61 ?_
    refine lv_aload_n hx hb dX11_digest_62 rfl (lv_at hl 0 rfl) ?_
    refine r_get hx hb hts (iwX11_digest_X11) hown hK.1 hP 0 (by decide) (ceMo_0 (s1 0)) rfl 0 (by decide) (hts _ kX11_digest_3) (v := .ref (ad 1)) rfl dX11_digest_63 ?_
    refine lv_bipush (v := 22) hx hb dX11_digest_66 (by decide) ?_
    refine lv_iload_n hx hb dX11_digest_68 rfl (lv_at hl 2 rfl) ?_
    refine lv_iadd hx hb dX11_digest_69 ?_
    obtain ⟨hin, hv⟩ := hv
    refine r_iald hx hb hK.1 hP 1 (by decide) (ceMo_1 (s1 1)) hin dX11_digest_70 ?_
    refine lv_i2l (v := (s1 1 (22 + x3).toNatClampNeg).toInt64) hx hb dX11_digest_71 rfl ?_
    refine lv_ladd hx hb dX11_digest_72 ?_
    refine lv_lmul hx hb dX11_digest_73 ?_
    refine lv_aload_n hx hb dX11_digest_74 rfl (lv_at hl 0 rfl) ?_
    refine r_get hx hb hts (iwX11_digest_X11) hown hK.1 hP 0 (by decide) (ceMo_0 (s1 0)) rfl 0 (by decide) (hts _ kX11_digest_3) (v := .ref (ad 1)) rfl dX11_digest_75 ?_
    refine lv_bipush (v := 30) hx hb dX11_digest_78 (by decide) ?_
    refine lv_iload_n hx hb dX11_digest_80 rfl (lv_at hl 2 rfl) ?_
    refine lv_iadd hx hb dX11_digest_81 ?_
    obtain ⟨hin, hv⟩ := hv
    refine r_iald hx hb hK.1 hP 1 (by decide) (ceMo_1 (s1 1)) hin dX11_digest_82 ?_
    refine lv_i2l (v := (s1 1 (30 + x3).toNatClampNeg).toInt64) hx hb dX11_digest_83 rfl ?_
    refine lv_ladd hx hb dX11_digest_84 ?_
    refine lv_lmul hx hb dX11_digest_85 ?_
    refine lv_aload_n hx hb dX11_digest_86 rfl (lv_at hl 0 rfl) ?_
    refine r_get hx hb hts (iwX11_digest_X11) hown hK.1 hP 0 (by decide) (ceMo_0 (s1 0)) rfl 0 (by decide) (hts _ kX11_digest_3) (v := .ref (ad 1)) rfl dX11_digest_87 ?_
    refine lv_bipush (v := 6) hx hb dX11_digest_90 (by decide) ?_
    refine lv_iload_n hx hb dX11_digest_92 rfl (lv_at hl 2 rfl) ?_
    refine lv_iadd hx hb dX11_digest_93 ?_
    obtain ⟨hin, hv⟩ := hv
    refine r_iald hx hb hK.1 hP 1 (by decide) (ceMo_1 (s1 1)) hin dX11_digest_94 ?_
    refine lv_i2l (v := (s1 1 (6 + x3).toNatClampNeg).toInt64) hx hb dX11_digest_95 rfl ?_
    refine lv_ladd hx hb dX11_digest_96 ?_
    refine lv_topl (fun v2 ev2 => ?_)
    have hv := hv v2 ev2
    refine lv_lstore_n (lv' := [(1, .long v2), (0, .ref (ad 0)), (3, .int x3)]) hx hb dX11_digest_97 rfl hl (by decide) rfl (fun ls hl => ?_)
    refine lv_iinc (v := x3 + 1) (lv' := [(3, .int (x3 + 1)), (1, .long v2), (0, .ref (ad 0))]) hx hb dX11_digest_98 hl (k := 2) rfl rfl (by decide) rfl (fun ls hl => ?_)
    refine lv_goto (tgt := 43) hx hb dX11_digest_101 (by decide) ?_
    exact hY 43 [x3 + 1] [v2] s1 hv _ _ rfl H locs ls hP hS (lv_sub hl [2, 1, 0] rfl)
set_option maxHeartbeats 4000000 in
set_option maxRecDepth 100000 in
theorem w_X11_digest_106 {p : Program} {l : Launch} {e : Env} {s : State} {m : MethodId} {args : Array Value} {below : List Frame} {meth : Method} {c : Code} {dC : Nat → ClassId} {dI : Nat → Nat → Nat} {ad : Nat → Nat} {cA cZ : ClassId} (hi : Inj 12 ad)   (C0 : Cx cX11_digest RX11 wsX11_digest 4 (some .long) p s m args meth c) (hK : KK dC dI cA cZ s) (Q : Int64 → St → Prop) (Y : Nat → List Int32 → List Int64 → St → Prop) (hY : ∀ P xs ys σ, Y P xs ys σ → XX p l e ({ frames := 3, cells := 0, slots := 0, locals := 66 } : Room) s m args below meth c (dC, dI) 12 ad (celM ad cA cZ) 4 (ZL below args s (dC, dI) 12 ad (celM ad cA cZ) Q) (lay_X11_digest ad ) P xs ys σ) (x3 : Int32) (y1 : Int64) (s0 : St) (hv : B_X11_digest_106  Q Y x3 y1 s0) {H : Heap} {locs : List Loc} {ls : Array Slot} (hP : va_P (dC, dI) vwCl (wd 12 ad (celM ad cA cZ) s0) H) (hS : va_S (AA 12 ad s.heap.size) s.heap H locs) (hl : lv_has ls 4 [(0, .ref (ad 0)), (1, .long y1), (3, .int x3)]) : W p l e ({ frames := 3, cells := 0, slots := 0, locals := 66 } : Room) s m args below meth c H locs 0 0 (ZL below args s (dC, dI) 12 ad (celM ad cA cZ) Q) (F0 m 106 ls []) := by
  obtain ⟨hx, hb, hml, hown, hts, hr, hlocks⟩ := C0
  have hD := wd_D (s := s) (cel := celM ad cA cZ) (σ := s0) hi
  unfold B_X11_digest_106 at hv
  refine lv_iload_n hx hb dX11_digest_106 rfl (lv_at hl 2 rfl) ?_
  refine lv_aload_n hx hb dX11_digest_107 rfl (lv_at hl 0 rfl) ?_
  refine r_get hx hb hts (iwX11_digest_X11) hown hK.1 hP 0 (by decide) (ceMo_0 (s0 0)) rfl 0 (by decide) (hts _ kX11_digest_3) (v := .ref (ad 1)) rfl dX11_digest_108 ?_
  refine lv_iconst (v := 1) hx hb dX11_digest_111 (by decide) ?_
  refine r_iald hx hb hK.1 hP 1 (by decide) (ceMo_1 (s0 1)) (vp_in_of_dec (by decide)) dX11_digest_112 ?_
  refine lv_icmp_ge (tgt := 171) hx hb dX11_digest_113 (by decide) (fun c113 => ?_) (fun c113 => ?_)
  · have hv := hv.1 c113
    refine lv_aload_n hx hb dX11_digest_171 rfl (lv_at hl 0 rfl) ?_
    refine lv_lload_n hx hb dX11_digest_172 rfl (lv_at hl 1 rfl) ?_
    refine lv_bipush (v := 43) hx hb dX11_digest_173 (by decide) ?_
    refine lv_iconst (v := 2) hx hb dX11_digest_175 (by decide) ?_
    refine lv_aload_n hx hb dX11_digest_176 rfl (lv_at hl 0 rfl) ?_
    refine r_get hx hb hts (iwX11_digest_X11) hown hK.1 hP 0 (by decide) (ceMo_0 (s0 0)) rfl 0 (by decide) (hts _ kX11_digest_3) (v := .ref (ad 1)) rfl dX11_digest_177 ?_
    refine lv_iconst (v := 2) hx hb dX11_digest_180 (by decide) ?_
    refine r_iald hx hb hK.1 hP 1 (by decide) (ceMo_1 (s0 1)) (vp_in_of_dec (by decide)) dX11_digest_181 ?_
    refine lv_imul hx hb dX11_digest_182 ?_
    refine r_cl (va_runV (As := [.long y1, .int 43, .int (2 * (s0 1 2))]) (rest := []) ⟨hx, hb, hml, hown, hts⟩ (c_X11_sums hi y1 43 (2 * (s0 1 2)) s0 _ hv H.size) (cwV 3 hts gX11_digest_X11_sums rfl rfl rfl (by decide +kernel) ⟨Nat.le_of_ble_eq_true rfl, Nat.le_of_ble_eq_true rfl⟩) ⟨pre_blind, r_recv hK.1 hP 0 (by decide) (ceMo_0 (s0 0)) rfl, pre_of hP hK⟩ rfl rfl hl.1 rfl (lv_room (Nat.le_of_ble_eq_true rfl)) dX11_digest_183 ⟨Nat.zero_le _, Nat.zero_le _⟩) hS (fun r1 s1 H locs hv hP hS => ?_)
    have hD := wd_D (s := s) (cel := celM ad cA cZ) (σ := s1) hi
    refine lv_lstore_n (lv' := [(1, .long r1), (0, .ref (ad 0)), (3, .int x3)]) hx hb dX11_digest_186 rfl hl (by decide) rfl (fun ls hl => ?_)
    refine lv_aload_n hx hb dX11_digest_187 rfl (lv_at hl 1 rfl) ?_
    refine lv_lload_n hx hb dX11_digest_188 rfl (lv_at hl 0 rfl) ?_
    refine lv_bipush (v := 53) hx hb dX11_digest_189 (by decide) ?_
    refine lv_iconst (v := 4) hx hb dX11_digest_191 (by decide) ?_
    refine lv_aload_n hx hb dX11_digest_192 rfl (lv_at hl 1 rfl) ?_
    refine r_get hx hb hts (iwX11_digest_X11) hown hK.1 hP 0 (by decide) (ceMo_0 (s1 0)) rfl 0 (by decide) (hts _ kX11_digest_3) (v := .ref (ad 1)) rfl dX11_digest_193 ?_
    refine lv_iconst (v := 3) hx hb dX11_digest_196 (by decide) ?_
    refine r_iald hx hb hK.1 hP 1 (by decide) (ceMo_1 (s1 1)) (vp_in_of_dec (by decide)) dX11_digest_197 ?_
    refine lv_imul hx hb dX11_digest_198 ?_
    refine r_cl (va_runV (As := [.long r1, .int 53, .int (4 * (s1 1 3))]) (rest := []) ⟨hx, hb, hml, hown, hts⟩ (c_X11_sums hi r1 53 (4 * (s1 1 3)) s1 _ hv H.size) (cwV 3 hts gX11_digest_X11_sums rfl rfl rfl (by decide +kernel) ⟨Nat.le_of_ble_eq_true rfl, Nat.le_of_ble_eq_true rfl⟩) ⟨pre_blind, r_recv hK.1 hP 0 (by decide) (ceMo_0 (s1 0)) rfl, pre_of hP hK⟩ rfl rfl hl.1 rfl (lv_room (Nat.le_of_ble_eq_true rfl)) dX11_digest_199 ⟨Nat.zero_le _, Nat.zero_le _⟩) hS (fun r2 s2 H locs hv hP hS => ?_)
    have hD := wd_D (s := s) (cel := celM ad cA cZ) (σ := s2) hi
    refine lv_lstore_n (lv' := [(1, .long r2), (0, .ref (ad 0)), (3, .int x3)]) hx hb dX11_digest_202 rfl hl (by decide) rfl (fun ls hl => ?_)
    refine lv_aload_n hx hb dX11_digest_203 rfl (lv_at hl 1 rfl) ?_
    refine lv_lload_n hx hb dX11_digest_204 rfl (lv_at hl 0 rfl) ?_
    refine lv_bipush (v := 77) hx hb dX11_digest_205 (by decide) ?_
    refine lv_iconst (v := 4) hx hb dX11_digest_207 (by decide) ?_
    refine lv_aload_n hx hb dX11_digest_208 rfl (lv_at hl 1 rfl) ?_
    refine r_get hx hb hts (iwX11_digest_X11) hown hK.1 hP 0 (by decide) (ceMo_0 (s2 0)) rfl 0 (by decide) (hts _ kX11_digest_3) (v := .ref (ad 1)) rfl dX11_digest_209 ?_
    refine lv_iconst (v := 4) hx hb dX11_digest_212 (by decide) ?_
    refine r_iald hx hb hK.1 hP 1 (by decide) (ceMo_1 (s2 1)) (vp_in_of_dec (by decide)) dX11_digest_213 ?_
    refine lv_imul hx hb dX11_digest_214 ?_
    refine r_cl (va_runV (As := [.long r2, .int 77, .int (4 * (s2 1 4))]) (rest := []) ⟨hx, hb, hml, hown, hts⟩ (c_X11_sums hi r2 77 (4 * (s2 1 4)) s2 _ hv H.size) (cwV 3 hts gX11_digest_X11_sums rfl rfl rfl (by decide +kernel) ⟨Nat.le_of_ble_eq_true rfl, Nat.le_of_ble_eq_true rfl⟩) ⟨pre_blind, r_recv hK.1 hP 0 (by decide) (ceMo_0 (s2 0)) rfl, pre_of hP hK⟩ rfl rfl hl.1 rfl (lv_room (Nat.le_of_ble_eq_true rfl)) dX11_digest_215 ⟨Nat.zero_le _, Nat.zero_le _⟩) hS (fun r3 s3 H locs hv hP hS => ?_)
    have hD := wd_D (s := s) (cel := celM ad cA cZ) (σ := s3) hi
    refine lv_lstore_n (lv' := [(1, .long r3), (0, .ref (ad 0)), (3, .int x3)]) hx hb dX11_digest_218 rfl hl (by decide) rfl (fun ls hl => ?_)
    refine lv_ldc2 (v := 31) hx hb hown (hts _ kX11_digest_2) dX11_digest_219 ?_
    refine lv_ldc2 (v := 31) hx hb hown (hts _ kX11_digest_2) dX11_digest_222 ?_
    refine lv_lload_n hx hb dX11_digest_225 rfl (lv_at hl 0 rfl) ?_
    refine lv_lmul hx hb dX11_digest_226 ?_
    refine lv_aload_n hx hb dX11_digest_227 rfl (lv_at hl 1 rfl) ?_
    refine r_get hx hb hts (iwX11_digest_X11) hown hK.1 hP 0 (by decide) (ceMo_0 (s3 0)) rfl 4 (by decide) (hts _ kX11_digest_4) (v := .long (lg2 (s3 0 28) (s3 0 29))) rfl dX11_digest_228 ?_
    refine lv_ladd hx hb dX11_digest_231 ?_
    refine lv_lmul hx hb dX11_digest_232 ?_
    refine lv_aload_n hx hb dX11_digest_233 rfl (lv_at hl 1 rfl) ?_
    refine r_get hx hb hts (iwX11_digest_X11) hown hK.1 hP 0 (by decide) (ceMo_0 (s3 0)) rfl 5 (by decide) (hts _ kX11_digest_5) (v := .long (lg2 (s3 0 30) (s3 0 31))) rfl dX11_digest_234 ?_
    refine lv_ladd hx hb dX11_digest_237 ?_
    exact r_lret hx hb hr hlocks hv hP hS dX11_digest_238
  · have hv := hv.2 c113
    refine lv_ldc2 (v := 31) hx hb hown (hts _ kX11_digest_2) dX11_digest_116 ?_
    refine lv_ldc2 (v := 31) hx hb hown (hts _ kX11_digest_2) dX11_digest_119 ?_
    refine lv_ldc2 (v := 31) hx hb hown (hts _ kX11_digest_2) dX11_digest_122 ?_
    refine lv_lload_n hx hb dX11_digest_125 rfl (lv_at hl 1 rfl) ?_
    refine lv_lmul hx hb dX11_digest_126 ?_
    refine lv_aload_n hx hb dX11_digest_127 rfl (lv_at hl 0 rfl) ?_
    refine r_get hx hb hts (iwX11_digest_X11) hown hK.1 hP 0 (by decide) (ceMo_0 (s0 0)) rfl 0 (by decide) (hts _ kX11_digest_3) (v := .ref (ad 1)) rfl dX11_digest_128 ?_
    refine lv_bipush (v := 37) hx hb dX11_digest_131 (by decide) ?_
    refine lv_iload_n hx hb dX11_digest_133 rfl (lv_at hl 2 rfl) ?_
    refine lv_iadd hx hb dX11_digest_134 ?_
    obtain ⟨hin, hv⟩ := hv
    refine r_iald hx hb hK.1 hP 1 (by decide) (ceMo_1 (s0 1)) hin dX11_digest_135 ?_
    refine lv_i2l (v := (s0 1 (37 + x3).toNatClampNeg).toInt64) hx hb dX11_digest_136 rfl ?_
    refine lv_ladd hx hb dX11_digest_137 ?_
    refine lv_lmul hx hb dX11_digest_138 ?_
    refine lv_aload_n hx hb dX11_digest_139 rfl (lv_at hl 0 rfl) ?_
    refine r_get hx hb hts (iwX11_digest_X11) hown hK.1 hP 0 (by decide) (ceMo_0 (s0 0)) rfl 0 (by decide) (hts _ kX11_digest_3) (v := .ref (ad 1)) rfl dX11_digest_140 ?_
    refine lv_bipush (v := 40) hx hb dX11_digest_143 (by decide) ?_
    refine lv_iload_n hx hb dX11_digest_145 rfl (lv_at hl 2 rfl) ?_
    refine lv_iadd hx hb dX11_digest_146 ?_
    obtain ⟨hin, hv⟩ := hv
    refine r_iald hx hb hK.1 hP 1 (by decide) (ceMo_1 (s0 1)) hin dX11_digest_147 ?_
    refine lv_i2l (v := (s0 1 (40 + x3).toNatClampNeg).toInt64) hx hb dX11_digest_148 rfl ?_
    refine lv_ladd hx hb dX11_digest_149 ?_
    refine lv_lmul hx hb dX11_digest_150 ?_
    refine lv_aload_n hx hb dX11_digest_151 rfl (lv_at hl 0 rfl) ?_
    refine r_get hx hb hts (iwX11_digest_X11) hown hK.1 hP 0 (by decide) (ceMo_0 (s0 0)) rfl 0 (by decide) (hts _ kX11_digest_3) (v := .ref (ad 1)) rfl dX11_digest_152 ?_
    refine lv_bipush (v := 14) hx hb dX11_digest_155 (by decide) ?_
    refine r_iald hx hb hK.1 hP 1 (by decide) (ceMo_1 (s0 1)) (vp_in_of_dec (by decide)) dX11_digest_157 ?_
    refine lv_iload_n hx hb dX11_digest_158 rfl (lv_at hl 2 rfl) ?_
    refine lv_ishr hx hb dX11_digest_159 ?_
    refine lv_iconst (v := 1) hx hb dX11_digest_160 (by decide) ?_
    refine lv_iand hx hb dX11_digest_161 ?_
    refine lv_i2l (v := (((s0 1 14) >>> (x3 &&& 31)) &&& 1).toInt64) hx hb dX11_digest_162 rfl ?_
    refine lv_ladd hx hb dX11_digest_163 ?_
    refine lv_topl (fun v4 ev4 => ?_)
    have hv := hv v4 ev4
    refine lv_lstore_n (lv' := [(1, .long v4), (0, .ref (ad 0)), (3, .int x3)]) hx hb dX11_digest_164 rfl hl (by decide) rfl (fun ls hl => ?_)
    refine lv_iinc (v := x3 + 1) (lv' := [(3, .int (x3 + 1)), (1, .long v4), (0, .ref (ad 0))]) hx hb dX11_digest_165 hl (k := 2) rfl rfl (by decide) rfl (fun ls hl => ?_)
    refine lv_goto (tgt := 106) hx hb dX11_digest_168 (by decide) ?_
    exact hY 106 [x3 + 1] [v4] s0 hv _ _ rfl H locs ls hP hS (lv_sub hl [2, 1, 0] rfl)
set_option maxHeartbeats 4000000 in
theorem y_X11_digest {p : Program} {l : Launch} {e : Env} {s : State} {m : MethodId} {args : Array Value} {below : List Frame} {meth : Method} {c : Code} {dC : Nat → ClassId} {dI : Nat → Nat → Nat} {ad : Nat → Nat} {cA cZ : ClassId} (hi : Inj 12 ad)   (C0 : Cx cX11_digest RX11 wsX11_digest 4 (some .long) p s m args meth c) (hK : KK dC dI cA cZ s) (Q : Int64 → St → Prop) : ∀ P xs ys σ, R_X11_digest  Q P xs ys σ → XX p l e ({ frames := 3, cells := 0, slots := 0, locals := 66 } : Room) s m args below meth c (dC, dI) 12 ad (celM ad cA cZ) 4 (ZL below args s (dC, dI) 12 ad (celM ad cA cZ) Q) (lay_X11_digest ad ) P xs ys σ := by
  refine Fx.elim _ (fun P xs ys σ Y hY hB => ?_)
  rcases hB with ⟨rfl, x3, y1, rfl, rfl, hB⟩ | ⟨rfl, x3, y1, rfl, rfl, hB⟩ | ⟨rfl, x3, y1, rfl, rfl, hB⟩
  · intro lv st he H locs ls hP hS hl
    cases he
    exact w_X11_digest_6 hi   C0 hK Q Y hY x3 y1 σ hB hP hS hl
  · intro lv st he H locs ls hP hS hl
    cases he
    exact w_X11_digest_43 hi   C0 hK Q Y hY x3 y1 σ hB hP hS hl
  · intro lv st he H locs ls hP hS hl
    cases he
    exact w_X11_digest_106 hi   C0 hK Q Y hY x3 y1 σ hB hP hS hl
set_option maxHeartbeats 4000000 in
theorem c_X11_digest {l : Launch} {dC : Nat → ClassId} {dI : Nat → Nat → Nat} {ad : Nat → Nat} {cA cZ : ClassId} (hi : Inj 12 ad)   (s0 : St) (Q : Int64 → St → Prop) (hv : V_X11_digest  s0 Q) (sz : Nat) : Met l yX11_digest wsX11_digest ({ frames := 3, cells := 0, slots := 0, locals := 66 } : Room) (va_Pc [.ref (ad 0)] (PW dC dI ad cA cZ 12 (celM ad cA cZ) sz s0)) (va_Ql Q (fun u t => va_P (dC, dI) vwCl (wd 12 ad (celM ad cA cZ) u) t.heap) (AA 12 ad sz)) 0 0 (AA 12 ad sz) := by
  refine Met.ofW (cc := cX11_digest) (maxL := 4) (ret := (some .long)) (by decide) rfl ?_
  intro p e s m args below meth c s₁ B hml hv0
  obtain ⟨rfl, hsz, hP, hK⟩ := hv0
  subst hsz
  have C0 : Cx cX11_digest RX11 wsX11_digest 4 (some .long) p s m ([.ref (ad 0)] : List Value).toArray meth c := ⟨B.exec, B.bytes, hml, findClass_of_methodNamed B.named, atoms_spec (ws := wsX11_digest) B.pre, B.returns, B.notSynchronized⟩
  have hl := lv_entry ([.ref (ad 0)]) (n := 4) (Nat.le_of_ble_eq_true rfl)
  rw [lg_entry_eq]
  generalize (lg_sl ([.ref (ad 0)]) ++ List.replicate (4 - (lg_sl ([.ref (ad 0)])).length) Slot.unset).toArray = ls at hl ⊢
  have hl : lv_has ls 4 [(0, .ref (ad 0))] := hl
  exact w_X11_digest_e hi   C0 hK Q (R_X11_digest  Q) (y_X11_digest hi   C0 hK Q)  s0 hv hP va_S.rf hl
