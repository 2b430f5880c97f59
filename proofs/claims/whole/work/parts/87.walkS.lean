def lay_X5_readItem (ad : Nat → Nat)  : Nat → List Int32 → List Int64 → Option (List (Nat × Value) × List Value) := fun P xs ys => match P, xs, ys with
  | _, _, _ => none
set_option maxHeartbeats 4000000 in
set_option maxRecDepth 100000 in
theorem w_X5_readItem_e {p : Program} {l : Launch} {e : Env} {s : State} {m : MethodId} {args : Array Value} {below : List Frame} {meth : Method} {c : Code} {dC : Nat → ClassId} {dI : Nat → Nat → Nat} {ad : Nat → Nat} {cA cZ : ClassId} {adK adV : Nat → Nat} (hi : Inj 81 ad)   (C0 : Cx cX5_readItem RX5 wsX5_readItem 1 (some .boolean) p s m args meth c) (hK : KK dC dI cA cZ s) (hZ : SK adK adV (AA 81 ad s.heap.size) s s.heap) (hR : SR adK s) (Q : Int32 → St → Prop) (Y : Nat → List Int32 → List Int64 → St → Prop) (hY : ∀ P xs ys σ, Y P xs ys σ → XX p l e ({ frames := 5, cells := 0, slots := 0, locals := 107 } : Room) s m args below meth c (dC, dI) 81 ad (celC ad cA) 1 (ZZ below args s (dC, dI) 81 ad (celC ad cA) Q) (lay_X5_readItem ad ) P xs ys σ)  (s0 : St) (hv : B_X5_readItem_e  Q Y  s0) {H : Heap} {locs : List Loc} {ls : Array Slot} (hP : va_P (dC, dI) vwCl (wd 81 ad (celC ad cA) s0) H) (hS : va_S (AA 81 ad s.heap.size) s.heap H locs) (hl : lv_has ls 1 [(0, .ref (ad 69))]) : W p l e ({ frames := 5, cells := 0, slots := 0, locals := 107 } : Room) s m args below meth c H locs 0 0 (ZZ below args s (dC, dI) 81 ad (celC ad cA) Q) (F0 m 0 ls []) := by
  obtain ⟨hx, hb, hml, hown, hts, hr, hlocks⟩ := C0
  have hD := wd_D (s := s) (cel := celC ad cA) (σ := s0) hi
  unfold B_X5_readItem_e at hv
  refine lv_aload_n hx hb dX5_readItem_0 rfl (lv_at hl 0 rfl) ?_
  refine r_get hx hb hts (iwX5_readItem_X5) hown hK.1 hP 69 (by decide) (ceRe_0 (s0 69)) rfl 0 (by decide) (hts _ kX5_readItem_1) (v := .ref (ad 70)) rfl dX5_readItem_1 ?_
  refine va_ldcS hx hb hown (hR 1 (by decide)) dX5_readItem_4 ?_
  refine r_ci (va_runV (As := [.ref (adK 1)]) (rest := []) ⟨hx, hb, hml, hown, hts⟩ (c_X9_isWord hi (i := 1) (by decide) s0 _ hv H.size) (cwV 1 hts gX5_readItem_X9_isWord rfl rfl rfl (by decide +kernel) ⟨Nat.le_of_ble_eq_true rfl, Nat.le_of_ble_eq_true rfl⟩) ⟨preS_blind, r_recv hK.1 hP 70 (by decide) (ceTo_0 (s0 70)) rfl, preS_of hP hK hZ hR hS⟩ rfl rfl hl.1 rfl (lv_room (Nat.le_of_ble_eq_true rfl)) dX5_readItem_6 ⟨Nat.zero_le _, Nat.zero_le _⟩) hS (fun r1 s1 H locs hv hP hS => ?_)
  obtain ⟨hz_r1, hv⟩ := hv
  have hD := wd_D (s := s) (cel := celC ad cA) (σ := s1) hi
  refine lv_if_eq (tgt := 17) hx hb dX5_readItem_9 (by decide) (fun c9 => ?_) (fun c9 => ?_)
  · have hv := hv.1 c9
    refine lv_aload_n hx hb dX5_readItem_17 rfl (lv_at hl 0 rfl) ?_
    refine r_get hx hb hts (iwX5_readItem_X5) hown hK.1 hP 69 (by decide) (ceRe_0 (s1 69)) rfl 0 (by decide) (hts _ kX5_readItem_1) (v := .ref (ad 70)) rfl dX5_readItem_18 ?_
    refine va_ldcS hx hb hown (hR 2 (by decide)) dX5_readItem_21 ?_
    refine r_ci (va_runV (As := [.ref (adK 2)]) (rest := []) ⟨hx, hb, hml, hown, hts⟩ (c_X9_isWord hi (i := 2) (by decide) s1 _ hv H.size) (cwV 1 hts gX5_readItem_X9_isWord rfl rfl rfl (by decide +kernel) ⟨Nat.le_of_ble_eq_true rfl, Nat.le_of_ble_eq_true rfl⟩) ⟨preS_blind, r_recv hK.1 hP 70 (by decide) (ceTo_0 (s1 70)) rfl, preS_of hP hK hZ hR hS⟩ rfl rfl hl.1 rfl (lv_room (Nat.le_of_ble_eq_true rfl)) dX5_readItem_23 ⟨Nat.zero_le _, Nat.zero_le _⟩) hS (fun r2 s2 H locs hv hP hS => ?_)
    obtain ⟨hz_r2, hv⟩ := hv
    have hD := wd_D (s := s) (cel := celC ad cA) (σ := s2) hi
    refine lv_if_eq (tgt := 34) hx hb dX5_readItem_26 (by decide) (fun c26 => ?_) (fun c26 => ?_)
    · have hv := hv.1 c26
      refine lv_aload_n hx hb dX5_readItem_34 rfl (lv_at hl 0 rfl) ?_
      refine r_get hx hb hts (iwX5_readItem_X5) hown hK.1 hP 69 (by decide) (ceRe_0 (s2 69)) rfl 0 (by decide) (hts _ kX5_readItem_1) (v := .ref (ad 70)) rfl dX5_readItem_35 ?_
      refine va_ldcS hx hb hown (hR 3 (by decide)) dX5_readItem_38 ?_
      refine r_ci (va_runV (As := [.ref (adK 3)]) (rest := []) ⟨hx, hb, hml, hown, hts⟩ (c_X9_isWord hi (i := 3) (by decide) s2 _ hv H.size) (cwV 1 hts gX5_readItem_X9_isWord rfl rfl rfl (by decide +kernel) ⟨Nat.le_of_ble_eq_true rfl, Nat.le_of_ble_eq_true rfl⟩) ⟨preS_blind, r_recv hK.1 hP 70 (by decide) (ceTo_0 (s2 70)) rfl, preS_of hP hK hZ hR hS⟩ rfl rfl hl.1 rfl (lv_room (Nat.le_of_ble_eq_true rfl)) dX5_readItem_40 ⟨Nat.zero_le _, Nat.zero_le _⟩) hS (fun r3 s3 H locs hv hP hS => ?_)
      obtain ⟨hz_r3, hv⟩ := hv
      have hD := wd_D (s := s) (cel := celC ad cA) (σ := s3) hi
      refine lv_if_eq (tgt := 51) hx hb dX5_readItem_43 (by decide) (fun c43 => ?_) (fun c43 => ?_)
      · have hv := hv.1 c43
        refine lv_aload_n hx hb dX5_readItem_51 rfl (lv_at hl 0 rfl) ?_
        refine r_get hx hb hts (iwX5_readItem_X5) hown hK.1 hP 69 (by decide) (ceRe_0 (s3 69)) rfl 0 (by decide) (hts _ kX5_readItem_1) (v := .ref (ad 70)) rfl dX5_readItem_52 ?_
        refine va_ldcS hx hb hown (hR 4 (by decide)) dX5_readItem_55 ?_
        refine r_ci (va_runV (As := [.ref (adK 4)]) (rest := []) ⟨hx, hb, hml, hown, hts⟩ (c_X9_isWord hi (i := 4) (by decide) s3 _ hv H.size) (cwV 1 hts gX5_readItem_X9_isWord rfl rfl rfl (by decide +kernel) ⟨Nat.le_of_ble_eq_true rfl, Nat.le_of_ble_eq_true rfl⟩) ⟨preS_blind, r_recv hK.1 hP 70 (by decide) (ceTo_0 (s3 70)) rfl, preS_of hP hK hZ hR hS⟩ rfl rfl hl.1 rfl (lv_room (Nat.le_of_ble_eq_true rfl)) dX5_readItem_57 ⟨Nat.zero_le _, Nat.zero_le _⟩) hS (fun r4 s4 H locs hv hP hS => ?_)
        obtain ⟨hz_r4, hv⟩ := hv
        have hD := wd_D (s := s) (cel := celC ad cA) (σ := s4) hi
        refine lv_if_eq (tgt := 68) hx hb dX5_readItem_60 (by decide) (fun c60 => ?_) (fun c60 => ?_)
        · have hv := hv.1 c60
          refine lv_aload_n hx hb dX5_readItem_68 rfl (lv_at hl 0 rfl) ?_
          refine r_get hx hb hts (iwX5_readItem_X5) hown hK.1 hP 69 (by decide) (ceRe_0 (s4 69)) rfl 0 (by decide) (hts _ kX5_readItem_1) (v := .ref (ad 70)) rfl dX5_readItem_69 ?_
          refine va_ldcS hx hb hown (hR 5 (by decide)) dX5_readItem_72 ?_
          refine r_ci (va_runV (As := [.ref (adK 5)]) (rest := []) ⟨hx, hb, hml, hown, hts⟩ (c_X9_isWord hi (i := 5) (by decide) s4 _ hv H.size) (cwV 1 hts gX5_readItem_X9_isWord rfl rfl rfl (by decide +kernel) ⟨Nat.le_of_ble_eq_true rfl, Nat.le_of_ble_eq_true rfl⟩) ⟨preS_blind, r_recv hK.1 hP 70 (by decide) (ceTo_0 (s4 70)) rfl, preS_of hP hK hZ hR hS⟩ rfl rfl hl.1 rfl (lv_room (Nat.le_of_ble_eq_true rfl)) dX5_readItem_74 ⟨Nat.zero_le _, Nat.zero_le _⟩) hS (fun r5 s5 H locs hv hP hS => ?_)
          obtain ⟨hz_r5, hv⟩ := hv
          have hD := wd_D (s := s) (cel := celC ad cA) (σ := s5) hi
          refine lv_if_eq (tgt := 91) hx hb dX5_readItem_77 (by decide) (fun c77 => ?_) (fun c77 => ?_)
          · have hv := hv.1 c77
            refine lv_iconst (v := 0) hx hb dX5_readItem_91 (by decide) ?_
            exact r_zret hx hb hr hlocks (Or.inl rfl) hv hP hS dX5_readItem_92
          · have hv := hv.2 c77
            refine lv_aload_n hx hb dX5_readItem_80 rfl (lv_at hl 0 rfl) ?_
            refine r_ci (va_runV (As := []) (rest := []) ⟨hx, hb, hml, hown, hts⟩ (c_X5_readHours hi  s5 _ hv H.size) (cwV 0 hts gX5_readItem_X5_readHours rfl rfl rfl (by decide +kernel) ⟨Nat.le_of_ble_eq_true rfl, Nat.le_of_ble_eq_true rfl⟩) ⟨pre_blind, r_recv hK.1 hP 69 (by decide) (ceRe_0 (s5 69)) rfl, pre_of hP hK⟩ rfl rfl hl.1 rfl (lv_room (Nat.le_of_ble_eq_true rfl)) dX5_readItem_81 ⟨Nat.zero_le _, Nat.zero_le _⟩) hS (fun r6 s6 H locs hv hP hS => ?_)
            obtain ⟨hz_r6, hv⟩ := hv
            have hD := wd_D (s := s) (cel := celC ad cA) (σ := s6) hi
            refine lv_if_eq (tgt := 91) hx hb dX5_readItem_84 (by decide) (fun c84 => ?_) (fun c84 => ?_)
            · have hv := hv.1 c84
              refine lv_iconst (v := 0) hx hb dX5_readItem_91 (by decide) ?_
              exact r_zret hx hb hr hlocks (Or.inl rfl) hv hP hS dX5_readItem_92
            · have hv := hv.2 c84
              refine lv_iconst (v := 1) hx hb dX5_readItem_87 (by decide) ?_
              refine lv_goto (tgt := 92) hx hb dX5_readItem_88 (by decide) ?_
              exact r_zret hx hb hr hlocks (Or.inr rfl) hv hP hS dX5_readItem_92
        · have hv := hv.2 c60
          refine lv_aload_n hx hb dX5_readItem_63 rfl (lv_at hl 0 rfl) ?_
          refine r_ci (va_runV (As := []) (rest := []) ⟨hx, hb, hml, hown, hts⟩ (c_X5_readShut hi  s4 _ hv H.size) (cwV 0 hts gX5_readItem_X5_readShut rfl rfl rfl (by decide +kernel) ⟨Nat.le_of_ble_eq_true rfl, Nat.le_of_ble_eq_true rfl⟩) ⟨pre_blind, r_recv hK.1 hP 69 (by decide) (ceRe_0 (s4 69)) rfl, pre_of hP hK⟩ rfl rfl hl.1 rfl (lv_room (Nat.le_of_ble_eq_true rfl)) dX5_readItem_64 ⟨Nat.zero_le _, Nat.zero_le _⟩) hS (fun r7 s7 H locs hv hP hS => ?_)
          obtain ⟨hz_r7, hv⟩ := hv
          have hD := wd_D (s := s) (cel := celC ad cA) (σ := s7) hi
          exact r_zret hx hb hr hlocks hz_r7 hv hP hS dX5_readItem_67
      · have hv := hv.2 c43
        refine lv_aload_n hx hb dX5_readItem_46 rfl (lv_at hl 0 rfl) ?_
        refine r_ci (va_runV (As := []) (rest := []) ⟨hx, hb, hml, hown, hts⟩ (c_X5_readCrossing hi  s3 _ hv H.size) (cwV 0 hts gX5_readItem_X5_readCrossing rfl rfl rfl (by decide +kernel) ⟨Nat.le_of_ble_eq_true rfl, Nat.le_of_ble_eq_true rfl⟩) ⟨pre_blind, r_recv hK.1 hP 69 (by decide) (ceRe_0 (s3 69)) rfl, pre_of hP hK⟩ rfl rfl hl.1 rfl (lv_room (Nat.le_of_ble_eq_true rfl)) dX5_readItem_47 ⟨Nat.zero_le _, Nat.zero_le _⟩) hS (fun r8 s8 H locs hv hP hS => ?_)
        obtain ⟨hz_r8, hv⟩ := hv
        have hD := wd_D (s := s) (cel := celC ad cA) (σ := s8) hi
        exact r_zret hx hb hr hlocks hz_r8 hv hP hS dX5_readItem_50
    · have hv := hv.2 c26
      refine lv_aload_n hx hb dX5_readItem_29 rfl (lv_at hl 0 rfl) ?_
      refine r_ci (va_runV (As := []) (rest := []) ⟨hx, hb, hml, hown, hts⟩ (c_X5_readGlove hi  s2 _ hv H.size) (cwV 0 hts gX5_readItem_X5_readGlove rfl rfl rfl (by decide +kernel) ⟨Nat.le_of_ble_eq_true rfl, Nat.le_of_ble_eq_true rfl⟩) ⟨pre_blind, r_recv hK.1 hP 69 (by decide) (ceRe_0 (s2 69)) rfl, pre_of hP hK⟩ rfl rfl hl.1 rfl (lv_room (Nat.le_of_ble_eq_true rfl)) dX5_readItem_30 ⟨Nat.zero_le _, Nat.zero_le _⟩) hS (fun r9 s9 H locs hv hP hS => ?_)
      obtain ⟨hz_r9, hv⟩ := hv
      have hD := wd_D (s := s) (cel := celC ad cA) (σ := s9) hi
      exact r_zret hx hb hr hlocks hz_r9 hv hP hS dX5_readItem_33
  · have hv := hv.2 c9
    refine lv_aload_n hx hb dX5_readItem_12 rfl (lv_at hl 0 rfl) ?_
    refine r_ci (va_runV (As := []) (rest := []) ⟨hx, hb, hml, hown, hts⟩ (c_X5_readWets hi  s1 _ hv H.size) (cwV 0 hts gX5_readItem_X5_readWets rfl rfl rfl (by decide +kernel) ⟨Nat.le_of_ble_eq_true rfl, Nat.le_of_ble_eq_true rfl⟩) ⟨pre_blind, r_recv hK.1 hP 69 (by decide) (ceRe_0 (s1 69)) rfl, pre_of hP hK⟩ rfl rfl hl.1 rfl (lv_room (Nat.le_of_ble_eq_true rfl)) dX5_readItem_13 ⟨Nat.zero_le _, Nat.zero_le _⟩) hS (fun r10 s10 H locs hv hP hS => ?_)
    obtain ⟨hz_r10, hv⟩ := hv
    have hD := wd_D (s := s) (cel := celC ad cA) (σ := s10) hi
    exact r_zret hx hb hr hlocks hz_r10 hv hP hS dX5_readItem_16
set_option maxHeartbeats 4000000 in
theorem y_X5_readItem {p : Program} {l : Launch} {e : Env} {s : State} {m : MethodId} {args : Array Value} {below : List Frame} {meth : Method} {c : Code} {dC : Nat → ClassId} {dI : Nat → Nat → Nat} {ad : Nat → Nat} {cA cZ : ClassId} {adK adV : Nat → Nat} (hi : Inj 81 ad)   (C0 : Cx cX5_readItem RX5 wsX5_readItem 1 (some .boolean) p s m args meth c) (hK : KK dC dI cA cZ s) (hZ : SK adK adV (AA 81 ad s.heap.size) s s.heap) (hR : SR adK s) (Q : Int32 → St → Prop) : ∀ P xs ys σ, R_X5_readItem  Q P xs ys σ → XX p l e ({ frames := 5, cells := 0, slots := 0, locals := 107 } : Room) s m args below meth c (dC, dI) 81 ad (celC ad cA) 1 (ZZ below args s (dC, dI) 81 ad (celC ad cA) Q) (lay_X5_readItem ad ) P xs ys σ := by
  refine Fx.elim _ (fun P xs ys σ Y hY hB => ?_)
  exact hB.elim
set_option maxHeartbeats 4000000 in
theorem c_X5_readItem {l : Launch} {dC : Nat → ClassId} {dI : Nat → Nat → Nat} {ad : Nat → Nat} {cA cZ : ClassId} {adK adV : Nat → Nat} (hi : Inj 81 ad)   (s0 : St) (Q : Int32 → St → Prop) (hv : V_X5_readItem  s0 Q) (sz : Nat) : Met l yX5_readItem wsX5_readItem ({ frames := 5, cells := 0, slots := 0, locals := 107 } : Room) (va_Pc [.ref (ad 69)] (PS dC dI ad cA cZ adK adV sz s0)) (va_Qi (fun r u => (r = 0 ∨ r = 1) ∧ Q r u) (fun u t => va_P (dC, dI) vwCl (wd 81 ad (celC ad cA) u) t.heap) (AA 81 ad sz)) 0 0 (AA 81 ad sz) := by
  refine Met.ofW (cc := cX5_readItem) (maxL := 1) (ret := (some .boolean)) (by decide) rfl ?_
  intro p e s m args below meth c s₁ B hml hv0
  obtain ⟨rfl, ⟨hsz, hP, hK⟩, hZ, hR⟩ := hv0
  subst hsz
  have C0 : Cx cX5_readItem RX5 wsX5_readItem 1 (some .boolean) p s m ([.ref (ad 69)] : List Value).toArray meth c := ⟨B.exec, B.bytes, hml, findClass_of_methodNamed B.named, atoms_spec (ws := wsX5_readItem) B.pre, B.returns, B.notSynchronized⟩
  have hl := lv_entry ([.ref (ad 69)]) (n := 1) (Nat.le_of_ble_eq_true rfl)
  rw [lg_entry_eq]
  generalize (lg_sl ([.ref (ad 69)]) ++ List.replicate (1 - (lg_sl ([.ref (ad 69)])).length) Slot.unset).toArray = ls at hl ⊢
  have hl : lv_has ls 1 [(0, .ref (ad 69))] := hl
  exact w_X5_readItem_e hi   C0 hK hZ hR Q (R_X5_readItem  Q) (y_X5_readItem hi   C0 hK hZ hR Q)  s0 hv hP va_S.rf hl
def lay_X5_readStreet (ad : Nat → Nat)  : Nat → List Int32 → List Int64 → Option (List (Nat × Value) × List Value) := fun P xs ys => match P, xs, ys with
  | 52, [x1], [] => some ([(0, .ref (ad 69)), (1, .int x1)], [])
  | _, _, _ => none
set_option maxHeartbeats 4000000 in
set_option maxRecDepth 100000 in
theorem w_X5_readStreet_e {p : Program} {l : Launch} {e : Env} {s : State} {m : MethodId} {args : Array Value} {below : List Frame} {meth : Method} {c : Code} {dC : Nat → ClassId} {dI : Nat → Nat → Nat} {ad : Nat → Nat} {cA cZ : ClassId} {adK adV : Nat → Nat} (hi : Inj 81 ad)   (C0 : Cx cX5_readStreet RX5 wsX5_readStreet 2 (some .int) p s m args meth c) (hK : KK dC dI cA cZ s) (hZ : SK adK adV (AA 81 ad s.heap.size) s s.heap) (hR : SR adK s) (Q : Int32 → St → Prop) (Y : Nat → List Int32 → List Int64 → St → Prop) (hY : ∀ P xs ys σ, Y P xs ys σ → XX p l e ({ frames := 6, cells := 0, slots := 0, locals := 127 } : Room) s m args below meth c (dC, dI) 81 ad (celC ad cA) 2 (ZI below args s (dC, dI) 81 ad (celC ad cA) Q) (lay_X5_readStreet ad ) P xs ys σ)  (s0 : St) (hv : B_X5_readStreet_e  Q Y  s0) {H : Heap} {locs : List Loc} {ls : Array Slot} (hP : va_P (dC, dI) vwCl (wd 81 ad (celC ad cA) s0) H) (hS : va_S (AA 81 ad s.heap.size) s.heap H locs) (hl : lv_has ls 2 [(0, .ref (ad 69))]) : W p l e ({ frames := 6, cells := 0, slots := 0, locals := 127 } : Room) s m args below meth c H locs 0 0 (ZI below args s (dC, dI) 81 ad (celC ad cA) Q) (F0 m 0 ls []) := by
  obtain ⟨hx, hb, hml, hown, hts, hr, hlocks⟩ := C0
  have hD := wd_D (s := s) (cel := celC ad cA) (σ := s0) hi
  unfold B_X5_readStreet_e at hv
  refine lv_aload_n hx hb dX5_readStreet_0 rfl (lv_at hl 0 rfl) ?_
  refine r_get hx hb hts (iwX5_readStreet_X5) hown hK.1 hP 69 (by decide) (ceRe_0 (s0 69)) rfl 1 (by decide) (hts _ kX5_readStreet_1) (v := .ref (ad 72)) rfl dX5_readStreet_1 ?_
  refine r_cv (va_runV (As := []) (rest := []) ⟨hx, hb, hml, hown, hts⟩ (c_X8_empty hi 72 vSt_72 s0 _ hv H.size) (cwV 0 hts gX5_readStreet_X8_empty rfl rfl rfl (by decide +kernel) ⟨Nat.le_of_ble_eq_true rfl, Nat.le_of_ble_eq_true rfl⟩) ⟨pre_blind, r_recv hK.1 hP 72 (ltSt_0 vSt_72) (ceSt_0 vSt_72 (s0 72)) rfl, pre_of hP hK⟩ rfl rfl hl.1 rfl (lv_room (Nat.le_of_ble_eq_true rfl)) dX5_readStreet_4 ⟨Nat.zero_le _, Nat.zero_le _⟩) hS (fun s1 H locs hv hP hS => ?_)
  have hD := wd_D (s := s) (cel := celC ad cA) (σ := s1) hi
  refine lv_aload_n hx hb dX5_readStreet_7 rfl (lv_at hl 0 rfl) ?_
  refine r_get hx hb hts (iwX5_readStreet_X5) hown hK.1 hP 69 (by decide) (ceRe_0 (s1 69)) rfl 0 (by decide) (hts _ kX5_readStreet_2) (v := .ref (ad 70)) rfl dX5_readStreet_8 ?_
  refine r_cv (va_runV (As := []) (rest := []) ⟨hx, hb, hml, hown, hts⟩ (c_X9_begin hi  s1 _ hv H.size) (cwV 0 hts gX5_readStreet_X9_begin rfl rfl rfl (by decide +kernel) ⟨Nat.le_of_ble_eq_true rfl, Nat.le_of_ble_eq_true rfl⟩) ⟨pre_blind, r_recv hK.1 hP 70 (by decide) (ceTo_0 (s1 70)) rfl, pre_of hP hK⟩ rfl rfl hl.1 rfl (lv_room (Nat.le_of_ble_eq_true rfl)) dX5_readStreet_11 ⟨Nat.zero_le _, Nat.zero_le _⟩) hS (fun s2 H locs hv hP hS => ?_)
  have hD := wd_D (s := s) (cel := celC ad cA) (σ := s2) hi
  refine lv_aload_n hx hb dX5_readStreet_14 rfl (lv_at hl 0 rfl) ?_
  refine r_get hx hb hts (iwX5_readStreet_X5) hown hK.1 hP 69 (by decide) (ceRe_0 (s2 69)) rfl 0 (by decide) (hts _ kX5_readStreet_2) (v := .ref (ad 70)) rfl dX5_readStreet_15 ?_
  refine va_ldcS hx hb hown (hR 0 (by decide)) dX5_readStreet_18 ?_
  refine r_ci (va_runV (As := [.ref (adK 0)]) (rest := []) ⟨hx, hb, hml, hown, hts⟩ (c_X9_isWord hi (i := 0) (by decide) s2 _ hv H.size) (cwV 1 hts gX5_readStreet_X9_isWord rfl rfl rfl (by decide +kernel) ⟨Nat.le_of_ble_eq_true rfl, Nat.le_of_ble_eq_true rfl⟩) ⟨preS_blind, r_recv hK.1 hP 70 (by decide) (ceTo_0 (s2 70)) rfl, preS_of hP hK hZ hR hS⟩ rfl rfl hl.1 rfl (lv_room (Nat.le_of_ble_eq_true rfl)) dX5_readStreet_20 ⟨Nat.zero_le _, Nat.zero_le _⟩) hS (fun r3 s3 H locs hv hP hS => ?_)
  obtain ⟨hz_r3, hv⟩ := hv
  have hD := wd_D (s := s) (cel := celC ad cA) (σ := s3) hi
  refine lv_if_ne (tgt := 31) hx hb dX5_readStreet_23 (by decide) (fun c23 => ?_) (fun c23 => ?_)
  · have hv := hv.1 c23
    refine lv_aload_n hx hb dX5_readStreet_31 rfl (lv_at hl 0 rfl) ?_
    refine r_get hx hb hts (iwX5_readStreet_X5) hown hK.1 hP 69 (by decide) (ceRe_0 (s3 69)) rfl 0 (by decide) (hts _ kX5_readStreet_2) (v := .ref (ad 70)) rfl dX5_readStreet_32 ?_
    refine r_cv (va_runV (As := []) (rest := []) ⟨hx, hb, hml, hown, hts⟩ (c_X9_advance hi  s3 _ hv H.size) (cwV 0 hts gX5_readStreet_X9_advance rfl rfl rfl (by decide +kernel) ⟨Nat.le_of_ble_eq_true rfl, Nat.le_of_ble_eq_true rfl⟩) ⟨pre_blind, r_recv hK.1 hP 70 (by decide) (ceTo_0 (s3 70)) rfl, pre_of hP hK⟩ rfl rfl hl.1 rfl (lv_room (Nat.le_of_ble_eq_true rfl)) dX5_readStreet_35 ⟨Nat.zero_le _, Nat.zero_le _⟩) hS (fun s4 H locs hv hP hS => ?_)
    have hD := wd_D (s := s) (cel := celC ad cA) (σ := s4) hi
    refine lv_aload_n hx hb dX5_readStreet_38 rfl (lv_at hl 0 rfl) ?_
    refine r_ci (va_runV (As := []) (rest := []) ⟨hx, hb, hml, hown, hts⟩ (c_X5_takeStop hi  s4 _ hv H.size) (cwV 0 hts gX5_readStreet_X5_takeStop rfl rfl rfl (by decide +kernel) ⟨Nat.le_of_ble_eq_true rfl, Nat.le_of_ble_eq_true rfl⟩) ⟨pre_blind, r_recv hK.1 hP 69 (by decide) (ceRe_0 (s4 69)) rfl, pre_of hP hK⟩ rfl rfl hl.1 rfl (lv_room (Nat.le_of_ble_eq_true rfl)) dX5_readStreet_39 ⟨Nat.zero_le _, Nat.zero_le _⟩) hS (fun r5 s5 H locs hv hP hS => ?_)
    obtain ⟨hz_r5, hv⟩ := hv
    have hD := wd_D (s := s) (cel := celC ad cA) (σ := s5) hi
    refine lv_if_ne (tgt := 50) hx hb dX5_readStreet_42 (by decide) (fun c42 => ?_) (fun c42 => ?_)
    · have hv := hv.1 c42
      refine lv_iconst (v := 1) hx hb dX5_readStreet_50 (by decide) ?_
      refine lv_istore_n (lv' := [(1, .int 1), (0, .ref (ad 69))]) hx hb dX5_readStreet_51 rfl hl (by decide) rfl (fun ls hl => ?_)
      exact hY 52 [1] [] s5 hv _ _ rfl H locs ls hP hS (lv_sub hl [1, 0] rfl)
    · have hv := hv.2 c42
      refine lv_aload_n hx hb dX5_readStreet_45 rfl (lv_at hl 0 rfl) ?_
      refine r_ci (va_runV (As := []) (rest := []) ⟨hx, hb, hml, hown, hts⟩ (c_X5_fault hi  s5 _ hv H.size) (cwV 0 hts gX5_readStreet_X5_fault rfl rfl rfl (by decide +kernel) ⟨Nat.le_of_ble_eq_true rfl, Nat.le_of_ble_eq_true rfl⟩) ⟨pre_blind, r_recv hK.1 hP 69 (by decide) (ceRe_0 (s5 69)) rfl, pre_of hP hK⟩ rfl rfl hl.1 rfl (lv_room (Nat.le_of_ble_eq_true rfl)) dX5_readStreet_46 ⟨Nat.zero_le _, Nat.zero_le _⟩) hS (fun r6 s6 H locs hv hP hS => ?_)
      have hD := wd_D (s := s) (cel := celC ad cA) (σ := s6) hi
      exact r_iret hx hb hr hlocks hv hP hS dX5_readStreet_49
  · have hv := hv.2 c23
    refine lv_aload_n hx hb dX5_readStreet_26 rfl (lv_at hl 0 rfl) ?_
    refine r_ci (va_runV (As := []) (rest := []) ⟨hx, hb, hml, hown, hts⟩ (c_X5_fault hi  s3 _ hv H.size) (cwV 0 hts gX5_readStreet_X5_fault rfl rfl rfl (by decide +kernel) ⟨Nat.le_of_ble_eq_true rfl, Nat.le_of_ble_eq_true rfl⟩) ⟨pre_blind, r_recv hK.1 hP 69 (by decide) (ceRe_0 (s3 69)) rfl, pre_of hP hK⟩ rfl rfl hl.1 rfl (lv_room (Nat.le_of_ble_eq_true rfl)) dX5_readStreet_27 ⟨Nat.zero_le _, Nat.zero_le _⟩) hS (fun r7 s7 H locs hv hP hS => ?_)
    have hD := wd_D (s := s) (cel := celC ad cA) (σ := s7) hi
    exact r_iret hx hb hr hlocks hv hP hS dX5_readStreet_30
set_option maxHeartbeats 4000000 in
set_option maxRecDepth 100000 in
theorem w_X5_readStreet_52 {p : Program} {l : Launch} {e : Env} {s : State} {m : MethodId} {args : Array Value} {below : List Frame} {meth : Method} {c : Code} {dC : Nat → ClassId} {dI : Nat → Nat → Nat} {ad : Nat → Nat} {cA cZ : ClassId} {adK adV : Nat → Nat} (hi : Inj 81 ad)   (C0 : Cx cX5_readStreet RX5 wsX5_readStreet 2 (some .int) p s m args meth c) (hK : KK dC dI cA cZ s) (hZ : SK adK adV (AA 81 ad s.heap.size) s s.heap) (hR : SR adK s) (Q : Int32 → St → Prop) (Y : Nat → List Int32 → List Int64 → St → Prop) (hY : ∀ P xs ys σ, Y P xs ys σ → XX p l e ({ frames := 6, cells := 0, slots := 0, locals := 127 } : Room) s m args below meth c (dC, dI) 81 ad (celC ad cA) 2 (ZI below args s (dC, dI) 81 ad (celC ad cA) Q) (lay_X5_readStreet ad ) P xs ys σ) (x1 : Int32) (s0 : St) (hv : B_X5_readStreet_52  Q Y x1 s0) {H : Heap} {locs : List Loc} {ls : Array Slot} (hP : va_P (dC, dI) vwCl (wd 81 ad (celC ad cA) s0) H) (hS : va_S (AA 81 ad s.heap.size) s.heap H locs) (hl : lv_has ls 2 [(0, .ref (ad 69)), (1, .int x1)]) : W p l e ({ frames := 6, cells := 0, slots := 0, locals := 127 } : Room) s m args below meth c H locs 0 0 (ZI below args s (dC, dI) 81 ad (celC ad cA) Q) (F0 m 52 ls []) := by
  obtain ⟨hx, hb, hml, hown, hts, hr, hlocks⟩ := C0
  have hD := wd_D (s := s) (cel := celC ad cA) (σ := s0) hi
  unfold B_X5_readStreet_52 at hv
  refine lv_iload_n hx hb dX5_readStreet_52 rfl (lv_at hl 1 rfl) ?_
  refine lv_sipush (v := 150) hx hb dX5_readStreet_53 (by decide) ?_
  refine lv_icmp_gt (tgt := 94) hx hb dX5_readStreet_56 (by decide) (fun c56 => ?_) (fun c56 => ?_)
  · have hv := hv.1 c56
    refine lv_iload_n hx hb dX5_readStreet_94 rfl (lv_at hl 1 rfl) ?_
    exact r_iret hx hb hr hlocks hv hP hS dX5_readStreet_95
  · have hv := hv.2 c56
    refine lv_aload_n hx hb dX5_readStreet_59 rfl (lv_at hl 0 rfl) ?_
    refine r_get hx hb hts (iwX5_readStreet_X5) hown hK.1 hP 69 (by decide) (ceRe_0 (s0 69)) rfl 0 (by decide) (hts _ kX5_readStreet_2) (v := .ref (ad 70)) rfl dX5_readStreet_60 ?_
    refine r_get hx hb hts (iwX5_readStreet_X9) hown hK.1 hP 70 (by decide) (ceTo_0 (s0 70)) rfl 2 (by decide) (hts _ kX5_readStreet_3) (v := .int (s0 70 2)) rfl dX5_readStreet_63 ?_
    refine lv_if_eq (tgt := 94) hx hb dX5_readStreet_66 (by decide) (fun c66 => ?_) (fun c66 => ?_)
    · have hv := hv.1 c66
      refine lv_iload_n hx hb dX5_readStreet_94 rfl (lv_at hl 1 rfl) ?_
      exact r_iret hx hb hr hlocks hv hP hS dX5_readStreet_95
    · have hv := hv.2 c66
      refine lv_aload_n hx hb dX5_readStreet_69 rfl (lv_at hl 0 rfl) ?_
      refine r_ci (va_runV (As := []) (rest := []) ⟨hx, hb, hml, hown, hts⟩ (c_X5_readItem hi  s0 _ hv H.size) (cwV 0 hts gX5_readStreet_X5_readItem rfl rfl rfl (by decide +kernel) ⟨Nat.le_of_ble_eq_true rfl, Nat.le_of_ble_eq_true rfl⟩) ⟨preS_blind, r_recv hK.1 hP 69 (by decide) (ceRe_0 (s0 69)) rfl, preS_of hP hK hZ hR hS⟩ rfl rfl hl.1 rfl (lv_room (Nat.le_of_ble_eq_true rfl)) dX5_readStreet_70 ⟨Nat.zero_le _, Nat.zero_le _⟩) hS (fun r1 s1 H locs hv hP hS => ?_)
      obtain ⟨hz_r1, hv⟩ := hv
      have hD := wd_D (s := s) (cel := celC ad cA) (σ := s1) hi
      refine lv_if_eq (tgt := 83) hx hb dX5_readStreet_73 (by decide) (fun c73 => ?_) (fun c73 => ?_)
      · have hv := hv.1 c73
        refine lv_aload_n hx hb dX5_readStreet_83 rfl (lv_at hl 0 rfl) ?_
        refine r_ci (va_runV (As := []) (rest := []) ⟨hx, hb, hml, hown, hts⟩ (c_X5_fault hi  s1 _ hv H.size) (cwV 0 hts gX5_readStreet_X5_fault rfl rfl rfl (by decide +kernel) ⟨Nat.le_of_ble_eq_true rfl, Nat.le_of_ble_eq_true rfl⟩) ⟨pre_blind, r_recv hK.1 hP 69 (by decide) (ceRe_0 (s1 69)) rfl, pre_of hP hK⟩ rfl rfl hl.1 rfl (lv_room (Nat.le_of_ble_eq_true rfl)) dX5_readStreet_84 ⟨Nat.zero_le _, Nat.zero_le _⟩) hS (fun r2 s2 H locs hv hP hS => ?_)
        have hD := wd_D (s := s) (cel := celC ad cA) (σ := s2) hi
        exact r_iret hx hb hr hlocks hv hP hS dX5_readStreet_87
      · have hv := hv.2 c73
        refine lv_aload_n hx hb dX5_readStreet_76 rfl (lv_at hl 0 rfl) ?_
        refine r_ci (va_runV (As := []) (rest := []) ⟨hx, hb, hml, hown, hts⟩ (c_X5_takeStop hi  s1 _ hv H.size) (cwV 0 hts gX5_readStreet_X5_takeStop rfl rfl rfl (by decide +kernel) ⟨Nat.le_of_ble_eq_true rfl, Nat.le_of_ble_eq_true rfl⟩) ⟨pre_blind, r_recv hK.1 hP 69 (by decide) (ceRe_0 (s1 69)) rfl, pre_of hP hK⟩ rfl rfl hl.1 rfl (lv_room (Nat.le_of_ble_eq_true rfl)) dX5_readStreet_77 ⟨Nat.zero_le _, Nat.zero_le _⟩) hS (fun r3 s3 H locs hv hP hS => ?_)
        obtain ⟨hz_r3, hv⟩ := hv
        have hD := wd_D (s := s) (cel := celC ad cA) (σ := s3) hi
        refine lv_if_ne (tgt := 88) hx hb dX5_readStreet_80 (by decide) (fun c80 => ?_) (fun c80 => ?_)
        · have hv := hv.1 c80
          refine lv_iinc (v := x1 + 1) (lv' := [(1, .int (x1 + 1)), (0, .ref (ad 69))]) hx hb dX5_readStreet_88 hl (k := 1) rfl rfl (by decide) rfl (fun ls hl => ?_)
          refine lv_goto (tgt := 52) hx hb dX5_readStreet_91 (by decide) ?_
          exact hY 52 [x1 + 1] [] s3 hv _ _ rfl H locs ls hP hS (lv_sub hl [1, 0] rfl)
        · have hv := hv.2 c80
          refine lv_aload_n hx hb dX5_readStreet_83 rfl (lv_at hl 0 rfl) ?_
          refine r_ci (va_runV (As := []) (rest := []) ⟨hx, hb, hml, hown, hts⟩ (c_X5_fault hi  s3 _ hv H.size) (cwV 0 hts gX5_readStreet_X5_fault rfl rfl rfl (by decide +kernel) ⟨Nat.le_of_ble_eq_true rfl, Nat.le_of_ble_eq_true rfl⟩) ⟨pre_blind, r_recv hK.1 hP 69 (by decide) (ceRe_0 (s3 69)) rfl, pre_of hP hK⟩ rfl rfl hl.1 rfl (lv_room (Nat.le_of_ble_eq_true rfl)) dX5_readStreet_84 ⟨Nat.zero_le _, Nat.zero_le _⟩) hS (fun r4 s4 H locs hv hP hS => ?_)
          have hD := wd_D (s := s) (cel := celC ad cA) (σ := s4) hi
          exact r_iret hx hb hr hlocks hv hP hS dX5_readStreet_87
set_option maxHeartbeats 4000000 in
theorem y_X5_readStreet {p : Program} {l : Launch} {e : Env} {s : State} {m : MethodId} {args : Array Value} {below : List Frame} {meth : Method} {c : Code} {dC : Nat → ClassId} {dI : Nat → Nat → Nat} {ad : Nat → Nat} {cA cZ : ClassId} {adK adV : Nat → Nat} (hi : Inj 81 ad)   (C0 : Cx cX5_readStreet RX5 wsX5_readStreet 2 (some .int) p s m args meth c) (hK : KK dC dI cA cZ s) (hZ : SK adK adV (AA 81 ad s.heap.size) s s.heap) (hR : SR adK s) (Q : Int32 → St → Prop) : ∀ P xs ys σ, R_X5_readStreet  Q P xs ys σ → XX p l e ({ frames := 6, cells := 0, slots := 0, locals := 127 } : Room) s m args below meth c (dC, dI) 81 ad (celC ad cA) 2 (ZI below args s (dC, dI) 81 ad (celC ad cA) Q) (lay_X5_readStreet ad ) P xs ys σ := by
  refine Fx.elim _ (fun P xs ys σ Y hY hB => ?_)
  rcases hB with ⟨rfl, x1, rfl, rfl, hB⟩
  · intro lv st he H locs ls hP hS hl
    cases he
    exact w_X5_readStreet_52 hi   C0 hK hZ hR Q Y hY x1 σ hB hP hS hl
set_option maxHeartbeats 4000000 in
theorem c_X5_readStreet {l : Launch} {dC : Nat → ClassId} {dI : Nat → Nat → Nat} {ad : Nat → Nat} {cA cZ : ClassId} {adK adV : Nat → Nat} (hi : Inj 81 ad)   (s0 : St) (Q : Int32 → St → Prop) (hv : V_X5_readStreet  s0 Q) (sz : Nat) : Met l yX5_readStreet wsX5_readStreet ({ frames := 6, cells := 0, slots := 0, locals := 127 } : Room) (va_Pc [.ref (ad 69)] (PS dC dI ad cA cZ adK adV sz s0)) (va_Qi Q (fun u t => va_P (dC, dI) vwCl (wd 81 ad (celC ad cA) u) t.heap) (AA 81 ad sz)) 0 0 (AA 81 ad sz) := by
  refine Met.ofW (cc := cX5_readStreet) (maxL := 2) (ret := (some .int)) (by decide) rfl ?_
  intro p e s m args below meth c s₁ B hml hv0
  obtain ⟨rfl, ⟨hsz, hP, hK⟩, hZ, hR⟩ := hv0
  subst hsz
  have C0 : Cx cX5_readStreet RX5 wsX5_readStreet 2 (some .int) p s m ([.ref (ad 69)] : List Value).toArray meth c := ⟨B.exec, B.bytes, hml, findClass_of_methodNamed B.named, atoms_spec (ws := wsX5_readStreet) B.pre, B.returns, B.notSynchronized⟩
  have hl := lv_entry ([.ref (ad 69)]) (n := 2) (Nat.le_of_ble_eq_true rfl)
  rw [lg_entry_eq]
  generalize (lg_sl ([.ref (ad 69)]) ++ List.replicate (2 - (lg_sl ([.ref (ad 69)])).length) Slot.unset).toArray = ls at hl ⊢
  have hl : lv_has ls 2 [(0, .ref (ad 69))] := hl
  exact w_X5_readStreet_e hi   C0 hK hZ hR Q (R_X5_readStreet  Q) (y_X5_readStreet hi   C0 hK hZ hR Q)  s0 hv hP va_S.rf hl
def lay_X10_read (ad : Nat → Nat)  : Nat → List Int32 → List Int64 → Option (List (Nat × Value) × List Value) := fun P xs ys => match P, xs, ys with
  | _, _, _ => none
set_option maxHeartbeats 4000000 in
set_option maxRecDepth 100000 in
theorem w_X10_read_e {p : Program} {l : Launch} {e : Env} {s : State} {m : MethodId} {args : Array Value} {below : List Frame} {meth : Method} {c : Code} {dC : Nat → ClassId} {dI : Nat → Nat → Nat} {ad : Nat → Nat} {cA cZ : ClassId} {adK adV : Nat → Nat} (hi : Inj 81 ad)   (C0 : Cx cX10_read RX10 wsX10_read 2 (some .int) p s m args meth c) (hK : KK dC dI cA cZ s) (hZ : SK adK adV (AA 81 ad s.heap.size) s s.heap) (hR : SR adK s) (Q : Int32 → St → Prop) (Y : Nat → List Int32 → List Int64 → St → Prop) (hY : ∀ P xs ys σ, Y P xs ys σ → XX p l e ({ frames := 7, cells := 0, slots := 0, locals := 148 } : Room) s m args below meth c (dC, dI) 81 ad (celC ad cA) 2 (ZI below args s (dC, dI) 81 ad (celC ad cA) Q) (lay_X10_read ad ) P xs ys σ)  (s0 : St) (hv : B_X10_read_e  Q Y  s0) {H : Heap} {locs : List Loc} {ls : Array Slot} (hP : va_P (dC, dI) vwCl (wd 81 ad (celC ad cA) s0) H) (hS : va_S (AA 81 ad s.heap.size) s.heap H locs) (hl : lv_has ls 2 [(0, .ref (ad 0))]) : W p l e ({ frames := 7, cells := 0, slots := 0, locals := 148 } : Room) s m args below meth c H locs 0 0 (ZI below args s (dC, dI) 81 ad (celC ad cA) Q) (F0 m 0 ls []) := by
  obtain ⟨hx, hb, hml, hown, hts, hr, hlocks⟩ := C0
  have hD := wd_D (s := s) (cel := celC ad cA) (σ := s0) hi
  unfold B_X10_read_e at hv
  refine lv_aload_n hx hb dX10_read_0 rfl (lv_at hl 0 rfl) ?_
  refine r_get hx hb hts (iwX10_read_X10) hown hK.1 hP 0 (by decide) (ceGR_0 (s0 0)) rfl 6 (by decide) (hts _ kX10_read_1) (v := .ref (ad 69)) rfl dX10_read_1 ?_
  refine r_ci (va_runV (As := []) (rest := []) ⟨hx, hb, hml, hown, hts⟩ (c_X5_readStreet hi  s0 _ hv H.size) (cwV 0 hts gX10_read_X5_readStreet rfl rfl rfl (by decide +kernel) ⟨Nat.le_of_ble_eq_true rfl, Nat.le_of_ble_eq_true rfl⟩) ⟨preS_blind, r_recv hK.1 hP 69 (by decide) (ceRe_0 (s0 69)) rfl, preS_of hP hK hZ hR hS⟩ rfl rfl hl.1 rfl (lv_room (Nat.le_of_ble_eq_true rfl)) dX10_read_4 ⟨Nat.zero_le _, Nat.zero_le _⟩) hS (fun r1 s1 H locs hv hP hS => ?_)
  have hD := wd_D (s := s) (cel := celC ad cA) (σ := s1) hi
  refine lv_istore_n (lv' := [(1, .int r1), (0, .ref (ad 0))]) hx hb dX10_read_7 rfl hl (by decide) rfl (fun ls hl => ?_)
  refine lv_iload_n hx hb dX10_read_8 rfl (lv_at hl 0 rfl) ?_
  refine lv_if_ge (tgt := 14) hx hb dX10_read_9 (by decide) (fun c9 => ?_) (fun c9 => ?_)
  · have hv := hv.1 c9
    refine lv_aload_n hx hb dX10_read_14 rfl (lv_at hl 1 rfl) ?_
    refine r_get hx hb hts (iwX10_read_X10) hown hK.1 hP 0 (by decide) (ceGR_0 (s1 0)) rfl 0 (by decide) (hts _ kX10_read_2) (v := .ref (ad 1)) rfl dX10_read_15 ?_
    refine r_cv (va_runV (As := []) (rest := []) ⟨hx, hb, hml, hown, hts⟩ (c_X7_empty hi 1 vSc_1 s1 _ hv H.size) (cwV 0 hts gX10_read_X7_empty rfl rfl rfl (by decide +kernel) ⟨Nat.le_of_ble_eq_true rfl, Nat.le_of_ble_eq_true rfl⟩) ⟨pre_blind, r_recv hK.1 hP 1 (ltSc_0 vSc_1) (ceSc_0 vSc_1 (s1 1)) rfl, pre_of hP hK⟩ rfl rfl hl.1 rfl (lv_room (Nat.le_of_ble_eq_true rfl)) dX10_read_18 ⟨Nat.zero_le _, Nat.zero_le _⟩) hS (fun s2 H locs hv hP hS => ?_)
    have hD := wd_D (s := s) (cel := celC ad cA) (σ := s2) hi
    refine lv_aload_n hx hb dX10_read_21 rfl (lv_at hl 1 rfl) ?_
    refine r_get hx hb hts (iwX10_read_X10) hown hK.1 hP 0 (by decide) (ceGR_0 (s2 0)) rfl 0 (by decide) (hts _ kX10_read_2) (v := .ref (ad 1)) rfl dX10_read_22 ?_
    refine r_get hx hb hts (iwX10_read_X7) hown hK.1 hP 1 (ltSc_0 vSc_1) (ceSc_0 vSc_1 (s2 1)) rfl 0 (by decide) (hts _ kX10_read_3) (v := .ref (ad 2)) rfl dX10_read_25 ?_
    refine lv_aload_n hx hb dX10_read_28 rfl (lv_at hl 1 rfl) ?_
    refine r_get hx hb hts (iwX10_read_X10) hown hK.1 hP 0 (by decide) (ceGR_0 (s2 0)) rfl 6 (by decide) (hts _ kX10_read_1) (v := .ref (ad 69)) rfl dX10_read_29 ?_
    refine r_get hx hb hts (iwX10_read_X5) hown hK.1 hP 69 (by decide) (ceRe_0 (s2 69)) rfl 1 (by decide) (hts _ kX10_read_4) (v := .ref (ad 72)) rfl dX10_read_32 ?_
    refine r_cv (va_runV (As := [.ref (ad 72)]) (rest := []) ⟨hx, hb, hml, hown, hts⟩ (c_X8_copy hi 2 72 (vSc1 vSc_1) vSt_72 s2 _ hv H.size) (cwV 1 hts gX10_read_X8_copy rfl rfl rfl (by decide +kernel) ⟨Nat.le_of_ble_eq_true rfl, Nat.le_of_ble_eq_true rfl⟩) ⟨pre_blind, r_recv hK.1 hP 2 (ltSt_0 (vSc1 vSc_1)) (ceSt_0 (vSc1 vSc_1) (s2 2)) rfl, pre_of hP hK⟩ rfl rfl hl.1 rfl (lv_room (Nat.le_of_ble_eq_true rfl)) dX10_read_35 ⟨Nat.zero_le _, Nat.zero_le _⟩) hS (fun s3 H locs hv hP hS => ?_)
    have hD := wd_D (s := s) (cel := celC ad cA) (σ := s3) hi
    refine lv_iload_n hx hb dX10_read_38 rfl (lv_at hl 0 rfl) ?_
    exact r_iret hx hb hr hlocks hv hP hS dX10_read_39
  · have hv := hv.2 c9
    refine lv_iload_n hx hb dX10_read_12 rfl (lv_at hl 0 rfl) ?_
    exact r_iret hx hb hr hlocks hv hP hS dX10_read_13
set_option maxHeartbeats 4000000 in
theorem y_X10_read {p : Program} {l : Launch} {e : Env} {s : State} {m : MethodId} {args : Array Value} {below : List Frame} {meth : Method} {c : Code} {dC : Nat → ClassId} {dI : Nat → Nat → Nat} {ad : Nat → Nat} {cA cZ : ClassId} {adK adV : Nat → Nat} (hi : Inj 81 ad)   (C0 : Cx cX10_read RX10 wsX10_read 2 (some .int) p s m args meth c) (hK : KK dC dI cA cZ s) (hZ : SK adK adV (AA 81 ad s.heap.size) s s.heap) (hR : SR adK s) (Q : Int32 → St → Prop) : ∀ P xs ys σ, R_X10_read  Q P xs ys σ → XX p l e ({ frames := 7, cells := 0, slots := 0, locals := 148 } : Room) s m args below meth c (dC, dI) 81 ad (celC ad cA) 2 (ZI below args s (dC, dI) 81 ad (celC ad cA) Q) (lay_X10_read ad ) P xs ys σ := by
  refine Fx.elim _ (fun P xs ys σ Y hY hB => ?_)
  exact hB.elim
set_option maxHeartbeats 4000000 in
theorem c_X10_read {l : Launch} {dC : Nat → ClassId} {dI : Nat → Nat → Nat} {ad : Nat → Nat} {cA cZ : ClassId} {adK adV : Nat → Nat} (hi : Inj 81 ad)   (s0 : St) (Q : Int32 → St → Prop) (hv : V_X10_read  s0 Q) (sz : Nat) : Met l yX10_read wsX10_read ({ frames := 7, cells := 0, slots := 0, locals := 148 } : Room) (va_Pc [.ref (ad 0)] (PS dC dI ad cA cZ adK adV sz s0)) (va_Qi Q (fun u t => va_P (dC, dI) vwCl (wd 81 ad (celC ad cA) u) t.heap) (AA 81 ad sz)) 0 0 (AA 81 ad sz) := by
  refine Met.ofW (cc := cX10_read) (maxL := 2) (ret := (some .int)) (by decide) rfl ?_
  intro p e s m args below meth c s₁ B hml hv0
  obtain ⟨rfl, ⟨hsz, hP, hK⟩, hZ, hR⟩ := hv0
  subst hsz
  have C0 : Cx cX10_read RX10 wsX10_read 2 (some .int) p s m ([.ref (ad 0)] : List Value).toArray meth c := ⟨B.exec, B.bytes, hml, findClass_of_methodNamed B.named, atoms_spec (ws := wsX10_read) B.pre, B.returns, B.notSynchronized⟩
  have hl := lv_entry ([.ref (ad 0)]) (n := 2) (Nat.le_of_ble_eq_true rfl)
  rw [lg_entry_eq]
  generalize (lg_sl ([.ref (ad 0)]) ++ List.replicate (2 - (lg_sl ([.ref (ad 0)])).length) Slot.unset).toArray = ls at hl ⊢
  have hl : lv_has ls 2 [(0, .ref (ad 0))] := hl
  exact w_X10_read_e hi   C0 hK hZ hR Q (R_X10_read  Q) (y_X10_read hi   C0 hK hZ hR Q)  s0 hv hP va_S.rf hl
