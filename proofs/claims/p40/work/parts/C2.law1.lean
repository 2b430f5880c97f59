set_option maxHeartbeats 8000000 in
set_option maxRecDepth 100000 in
theorem w_L_law_e {p : Program} {l : Launch} {e : Env} {s : State} {m : MethodId} {below : List Frame} {meth : Method} {c : Code} {dC : Nat → ClassId} {dI : Nat → Nat → Nat} {cA cZ : ClassId} {b L : Nat} {xs : Nat → Int32} (C0 : LC p s m meth c b L xs dC dI cA cZ) (Y : Nat → List Int32 → List Int64 → St → Prop) (hY : ∀ P xs ys σ, Y P xs ys σ → XW p l e s m below meth c b dC dI cA P xs ys σ)  (s0 : St) (hv : B_L_law_e L xs Y  s0) {ad : Nat → Nat} (hi : Inj 82 ad) (hda : ∀ k, k < 82 → La s (ad k)) {H : Heap} {locs : List Loc} {ls : Array Slot} (hP : va_P (dC, dI) vwCl (wd 82 ad (celL ad cA) s0) H) (hS : va_S (La s) s.heap H locs) (hl : lv_has ls 32 [(2, .ref (ad 81)), (1, .ref (ad 0)), (0, .ref b)]) : W p l e room_1 s m #[Value.ref b] below meth c H locs (100) (1500) (lw_Z below #[Value.ref b] s) (F0 m 13 ls []) := by
  obtain ⟨⟨hx, hb, hml, hown, hts, hr, hlocks⟩, hX, hbl, hK⟩ := C0
  have hbA : ¬ La s b := Nat.not_le.mpr hbl
  have hA2 : ∀ q, s.heap.size ≤ q → La s q := fun _ h => h
  have hD := wd_Dg (A := La s) (cel := celL ad cA) (σ := s0) hi hda
  unfold B_L_law_e at hv
  refine lv_aload_n hx hb dL_law_13 rfl (lv_at hl 2 rfl) ?_
  refine lv_aload_n hx hb dL_law_14 rfl (lv_at hl 0 rfl) ?_
  refine r_hcv hS (aa_A (Nat.le_refl _) hda hA2 hS) (va_runS (As := [.ref b, .ref (ad 81)]) (rest := []) ⟨hx, hb, hml, hown, hts⟩ (c_L_lay (b := b) (L := L) (xs := xs) hi (by decide) (fun k hk e => hbA (e ▸ hda k hk))  _ _ hv H.size (Nat.lt_of_lt_of_le hbl hS.1)) (va_cwS 2 (fun w h => hts w (iv_L_lay_36 w h)) gv_L_lay_36 rfl rfl rfl (by decide +kernel) ⟨(Nat.le_of_ble_eq_true rfl), (Nat.le_of_ble_eq_true rfl)⟩) ⟨preL_blind, preL_of hP hK (hX.kept (hS.2.1 b hbl hbA))⟩ rfl rfl hl.1 rfl (lv_room (Nat.le_of_ble_eq_true rfl)) dL_law_15 ⟨Nat.le_trans (by omega : _ ≤ 300) (Nat.le_of_ble_eq_true rfl), Nat.le_trans (by omega : _ ≤ 3000) (Nat.le_of_ble_eq_true rfl)⟩) (fun s1 H locs hv hP hS => ?_)
  have hD := wd_Dg (A := La s) (cel := celL ad cA) (σ := s1) hi hda
  refine lv_aload_n hx hb dL_law_18 rfl (lv_at hl 1 rfl) ?_
  refine lv_aload_n hx hb dL_law_19 rfl (lv_at hl 0 rfl) ?_
  refine r_hci hS (aa_A (Nat.le_refl _) hda hA2 hS) (va_runS (As := [.ref (ad 0), .ref (ad 81)]) (rest := []) ⟨hx, hb, hml, hown, hts⟩ (c_L_made (b := b) (L := L) (xs := xs) hi (by decide) (fun k hk e => hbA (e ▸ hda k hk))  _ _ hv H.size (Nat.lt_of_lt_of_le hbl hS.1)) (va_cwS 2 (fun w h => hts w (iv_L_made_40 w h)) gv_L_made_40 rfl rfl rfl (by decide +kernel) ⟨(Nat.le_of_ble_eq_true rfl), (Nat.le_of_ble_eq_true rfl)⟩) ⟨preL_blind, preL_of hP hK (hX.kept (hS.2.1 b hbl hbA))⟩ rfl rfl hl.1 rfl (lv_room (Nat.le_of_ble_eq_true rfl)) dL_law_20 ⟨Nat.le_trans (by omega : _ ≤ 300) (Nat.le_of_ble_eq_true rfl), Nat.le_trans (by omega : _ ≤ 3000) (Nat.le_of_ble_eq_true rfl)⟩) (fun r2 s2 H locs hv hP hS => ?_)
  obtain ⟨hz_r2, hv⟩ := hv
  have hD := wd_Dg (A := La s) (cel := celL ad cA) (σ := s2) hi hda
  refine lv_if_ne (tgt := 28) hx hb dL_law_23 (by decide) (fun c23 => ?_) (fun c23 => ?_)
  · have hv := hv.1 c23
    refine lv_aload_n hx hb dL_law_28 rfl (lv_at hl 0 rfl) ?_
    refine lv_iconst (v := 1) hx hb dL_law_29 (by decide) ?_
    refine r_iald hx hb hK.1 hP 81 (by decide) (ceL_81 (s2 81)) (vp_in_of_dec (by decide)) dL_law_30 ?_
    refine lv_istore_n (lv' := [(3, .int (s2 81 1)), (2, .ref (ad 81)), (1, .ref (ad 0)), (0, .ref b)]) hx hb dL_law_31 rfl hl (by decide) rfl (fun ls hl => ?_)
    refine lv_aload_n hx hb dL_law_32 rfl (lv_at hl 1 rfl) ?_
    refine lv_iconst (v := 2) hx hb dL_law_33 (by decide) ?_
    refine r_iald hx hb hK.1 hP 81 (by decide) (ceL_81 (s2 81)) (vp_in_of_dec (by decide)) dL_law_34 ?_
    refine lv_istore (lv' := [(4, .int (s2 81 2)), (3, .int (s2 81 1)), (2, .ref (ad 81)), (1, .ref (ad 0)), (0, .ref b)]) hx hb dL_law_35 hl (by decide) rfl (fun ls hl => ?_)
    refine lv_iconst (v := 0) hx hb dL_law_37 (by decide) ?_
    refine lv_istore (lv' := [(5, .int 0), (4, .int (s2 81 2)), (3, .int (s2 81 1)), (2, .ref (ad 81)), (1, .ref (ad 0)), (0, .ref b)]) hx hb dL_law_38 hl (by decide) rfl (fun ls hl => ?_)
    refine W.widen (k := 100 + 3 * (0 : Int32).toNatClampNeg) (n := 1500 + 21 * (0 : Int32).toNatClampNeg) (by have : (0 : Int32).toNatClampNeg = 0 := rfl; omega) (by have : (0 : Int32).toNatClampNeg = 0 := rfl; omega) ?_
    exact hY 40 [s2 81 1, s2 81 2, 0] [] s2 hv _ _ _ _ _ rfl ad H locs ls hi hda hP hS (lv_sub hl [5, 4, 3, 2, 1, 0] rfl)
  · have hv := hv.2 c23
    refine lv_iconst (v := 0) hx hb dL_law_26 (by decide) ?_
    exact hv.elim
set_option maxHeartbeats 8000000 in
set_option maxRecDepth 100000 in
theorem w_L_law_40 {p : Program} {l : Launch} {e : Env} {s : State} {m : MethodId} {below : List Frame} {meth : Method} {c : Code} {dC : Nat → ClassId} {dI : Nat → Nat → Nat} {cA cZ : ClassId} {b L : Nat} {xs : Nat → Int32} (C0 : LC p s m meth c b L xs dC dI cA cZ) (Y : Nat → List Int32 → List Int64 → St → Prop) (hY : ∀ P xs ys σ, Y P xs ys σ → XW p l e s m below meth c b dC dI cA P xs ys σ) (x3 : Int32) (x4 : Int32) (x5 : Int32) (s0 : St) (hv : B_L_law_40 L xs Y x3 x4 x5 s0) {ad : Nat → Nat} (hi : Inj 82 ad) (hda : ∀ k, k < 82 → La s (ad k)) {H : Heap} {locs : List Loc} {ls : Array Slot} (hP : va_P (dC, dI) vwCl (wd 82 ad (celL ad cA) s0) H) (hS : va_S (La s) s.heap H locs) (hl : lv_has ls 32 [(0, .ref b), (1, .ref (ad 0)), (2, .ref (ad 81)), (3, .int x3), (4, .int x4), (5, .int x5)]) : W p l e room_1 s m #[Value.ref b] below meth c H locs (100 + 3 * x5.toNatClampNeg) (1500 + 21 * x5.toNatClampNeg) (lw_Z below #[Value.ref b] s) (F0 m 40 ls []) := by
  obtain ⟨⟨hx, hb, hml, hown, hts, hr, hlocks⟩, hX, hbl, hK⟩ := C0
  have hbA : ¬ La s b := Nat.not_le.mpr hbl
  have hA2 : ∀ q, s.heap.size ≤ q → La s q := fun _ h => h
  have hD := wd_Dg (A := La s) (cel := celL ad cA) (σ := s0) hi hda
  unfold B_L_law_40 at hv
  obtain ⟨hT, hv⟩ := hv
  refine lv_iload hx hb dL_law_40 (lv_at hl 5 rfl) ?_
  refine lv_iconst (v := 4) hx hb dL_law_42 (by decide) ?_
  refine lv_icmp_ge (tgt := 350) hx hb dL_law_43 (by decide) (fun c43 => ?_) (fun c43 => ?_)
  · have hv := hv.1 c43
    refine W.widen (k := 200) (n := 2000) (by omega) (by omega) ?_
    exact hY 350 [x3, x4] [] s0 hv _ _ _ _ _ rfl ad H locs ls hi hda hP hS (lv_sub hl [0, 1, 2, 3, 4] rfl)
  · have hv := hv.2 c43
    refine lv_aload_n hx hb dL_law_46 rfl (lv_at hl 0 rfl) ?_
    refine lv_bipush (v := 12) hx hb dL_law_47 (by decide) ?_
    refine lv_iload hx hb dL_law_49 (lv_at hl 5 rfl) ?_
    refine lv_iadd hx hb dL_law_51 ?_
    refine r_hci hS (aa_A (Nat.le_refl _) hda hA2 hS) (va_runS (As := [.ref b, .int (12 + x5)]) (rest := []) ⟨hx, hb, hml, hown, hts⟩ (c_L_cell (b := b) (L := L) (xs := xs) hi (by decide) (fun k hk e => hbA (e ▸ hda k hk)) (12 + x5) _ _ hv H.size (Nat.lt_of_lt_of_le hbl hS.1)) (va_cwS 2 (fun w h => hts w (iv_L_cell_9 w h)) gv_L_cell_9 rfl rfl rfl (by decide +kernel) ⟨(Nat.le_of_ble_eq_true rfl), (Nat.le_of_ble_eq_true rfl)⟩) ⟨preL_blind, preL_of hP hK (hX.kept (hS.2.1 b hbl hbA))⟩ rfl rfl hl.1 rfl (lv_room (Nat.le_of_ble_eq_true rfl)) dL_law_52 ⟨Nat.le_trans (by omega : _ ≤ 300) (Nat.le_of_ble_eq_true rfl), Nat.le_trans (by omega : _ ≤ 3000) (Nat.le_of_ble_eq_true rfl)⟩) (fun r1 s1 H locs hv hP hS => ?_)
    have hD := wd_Dg (A := La s) (cel := celL ad cA) (σ := s1) hi hda
    refine lv_istore (lv' := [(6, .int r1), (0, .ref b), (1, .ref (ad 0)), (2, .ref (ad 81)), (3, .int x3), (4, .int x4), (5, .int x5)]) hx hb dL_law_55 hl (by decide) rfl (fun ls hl => ?_)
    refine lv_iload hx hb dL_law_57 (lv_at hl 5 rfl) ?_
    refine lv_if_le (tgt := 89) hx hb dL_law_59 (by decide) (fun c59 => ?_) (fun c59 => ?_)
    · have hv := hv.1 c59
      exact hY 89 [x3, x4, x5] [] s1 hv _ _ _ _ _ rfl ad H locs ls hi hda hP hS (lv_sub hl [1, 2, 3, 4, 5, 6] rfl)
    · have hv := hv.2 c59
      refine lv_iload hx hb dL_law_62 (lv_at hl 0 rfl) ?_
      refine lv_iconst (v := 3) hx hb dL_law_64 (by decide) ?_
      refine r_hci hS (aa_A (Nat.le_refl _) hda hA2 hS) (va_runS (As := [.int r1, .int 3]) (rest := []) ⟨hx, hb, hml, hown, hts⟩ (c_L_up (b := b) (L := L) (xs := xs) hi (by decide) (fun k hk e => hbA (e ▸ hda k hk)) r1 3 _ _ hv H.size (Nat.lt_of_lt_of_le hbl hS.1)) (va_cwS 2 (fun w h => hts w (iv_L_up_15 w h)) gv_L_up_15 rfl rfl rfl (by decide +kernel) ⟨(Nat.le_of_ble_eq_true rfl), (Nat.le_of_ble_eq_true rfl)⟩) ⟨preL_blind, preL_of hP hK (hX.kept (hS.2.1 b hbl hbA))⟩ rfl rfl hl.1 rfl (lv_room (Nat.le_of_ble_eq_true rfl)) dL_law_65 ⟨Nat.le_trans (by omega : _ ≤ 300) (Nat.le_of_ble_eq_true rfl), Nat.le_trans (by omega : _ ≤ 3000) (Nat.le_of_ble_eq_true rfl)⟩) (fun r2 s2 H locs hv hP hS => ?_)
      have hD := wd_Dg (A := La s) (cel := celL ad cA) (σ := s2) hi hda
      refine lv_if_ne (tgt := 89) hx hb dL_law_68 (by decide) (fun c68 => ?_) (fun c68 => ?_)
      · have hv := hv.1 c68
        exact hY 89 [x3, x4, x5] [] s2 hv _ _ _ _ _ rfl ad H locs ls hi hda hP hS (lv_sub hl [1, 2, 3, 4, 5, 6] rfl)
      · have hv := hv.2 c68
        refine lv_aload_n hx hb dL_law_71 rfl (lv_at hl 2 rfl) ?_
        refine lv_iload hx hb dL_law_72 (lv_at hl 0 rfl) ?_
        refine lv_iconst (v := 2) hx hb dL_law_74 (by decide) ?_
        refine lv_ishr hx hb dL_law_75 ?_
        refine lv_iload hx hb dL_law_76 (lv_at hl 5 rfl) ?_
        refine r_hci hS (aa_A (Nat.le_refl _) hda hA2 hS) (va_runS (As := [.int (r1 >>> ((2 : Int32) &&& 31)), .int x4]) (rest := [.ref (ad 0)]) ⟨hx, hb, hml, hown, hts⟩ (c_L_up (b := b) (L := L) (xs := xs) hi (by decide) (fun k hk e => hbA (e ▸ hda k hk)) (r1 >>> ((2 : Int32) &&& 31)) x4 _ _ hv H.size (Nat.lt_of_lt_of_le hbl hS.1)) (va_cwS 2 (fun w h => hts w (iv_L_up_15 w h)) gv_L_up_15 rfl rfl rfl (by decide +kernel) ⟨(Nat.le_of_ble_eq_true rfl), (Nat.le_of_ble_eq_true rfl)⟩) ⟨preL_blind, preL_of hP hK (hX.kept (hS.2.1 b hbl hbA))⟩ rfl rfl hl.1 rfl (lv_room (Nat.le_of_ble_eq_true rfl)) dL_law_78 ⟨Nat.le_trans (by omega : _ ≤ 300) (Nat.le_of_ble_eq_true rfl), Nat.le_trans (by omega : _ ≤ 3000) (Nat.le_of_ble_eq_true rfl)⟩) (fun r3 s3 H locs hv hP hS => ?_)
        have hD := wd_Dg (A := La s) (cel := celL ad cA) (σ := s3) hi hda
        refine r_lci hi hP hS (aa_A (by decide) hda hA2 hS) (va_runV (As := [.int r3]) (rest := []) ⟨hx, hb, hml, hown, hts⟩ (c_X10_shuts (inj_le (by decide) hi) r3 _ _ hv H.size) (cwV 1 (fun w h => hts w (iv_X10_shuts_44 w h)) gv_X10_shuts_44 rfl rfl rfl (by decide +kernel) ⟨(Nat.le_of_ble_eq_true rfl), (Nat.le_of_ble_eq_true rfl)⟩) ⟨pre_blind, r_recv hK.1 (wd_cls (by decide) hP) 0 (by decide) (ceGR_0 (s3 0)) rfl, pre_of (wd_cls (by decide) hP) hK⟩ rfl rfl hl.1 rfl (lv_room (Nat.le_of_ble_eq_true rfl)) dL_law_81 ⟨Nat.le_trans (by omega : _ ≤ 300) (Nat.le_of_ble_eq_true rfl), Nat.le_trans (by omega : _ ≤ 3000) (Nat.le_of_ble_eq_true rfl)⟩) (fun r4 s4 H locs hv hP hS => ?_)
        have hD := wd_Dg (A := La s) (cel := celL ad cA) (σ := s4) hi hda
        refine lv_if_ge (tgt := 89) hx hb dL_law_84 (by decide) (fun c84 => ?_) (fun c84 => ?_)
        · have hv := hv.1 c84
          exact hY 89 [x3, x4, x5] [] s4 hv _ _ _ _ _ rfl ad H locs ls hi hda hP hS (lv_sub hl [1, 2, 3, 4, 5, 6] rfl)
        · have hv := hv.2 c84
          refine lv_iconst (v := 0) hx hb dL_law_87 (by decide) ?_
          exact hv.elim
set_option maxHeartbeats 8000000 in
set_option maxRecDepth 100000 in
theorem w_L_law_89 {p : Program} {l : Launch} {e : Env} {s : State} {m : MethodId} {below : List Frame} {meth : Method} {c : Code} {dC : Nat → ClassId} {dI : Nat → Nat → Nat} {cA cZ : ClassId} {b L : Nat} {xs : Nat → Int32} (C0 : LC p s m meth c b L xs dC dI cA cZ) (Y : Nat → List Int32 → List Int64 → St → Prop) (hY : ∀ P xs ys σ, Y P xs ys σ → XW p l e s m below meth c b dC dI cA P xs ys σ) (x3 : Int32) (x4 : Int32) (x5 : Int32) (s0 : St) (hv : B_L_law_89 L xs Y x3 x4 x5 s0) {ad : Nat → Nat} (hi : Inj 82 ad) (hda : ∀ k, k < 82 → La s (ad k)) {H : Heap} {locs : List Loc} {ls : Array Slot} (hP : va_P (dC, dI) vwCl (wd 82 ad (celL ad cA) s0) H) (hS : va_S (La s) s.heap H locs) (hl : lv_has ls 32 [(0, .ref b), (1, .ref (ad 0)), (2, .ref (ad 81)), (3, .int x3), (4, .int x4), (5, .int x5)]) : W p l e room_1 s m #[Value.ref b] below meth c H locs (100 + 3 * x5.toNatClampNeg) (1500 + 21 * x5.toNatClampNeg) (lw_Z below #[Value.ref b] s) (F0 m 89 ls []) := by
  obtain ⟨⟨hx, hb, hml, hown, hts, hr, hlocks⟩, hX, hbl, hK⟩ := C0
  have hbA : ¬ La s b := Nat.not_le.mpr hbl
  have hA2 : ∀ q, s.heap.size ≤ q → La s q := fun _ h => h
  have hD := wd_Dg (A := La s) (cel := celL ad cA) (σ := s0) hi hda
  unfold B_L_law_89 at hv
  obtain ⟨hT, hv⟩ := hv
  refine lv_bipush (v := 7) hx hb dL_law_89 (by decide) ?_
  refine r_newL hx hb (hts _ mw_109) hK.1 hP hD hS hA2 (by decide) (Nat.le_trans (by omega : _ ≤ 300) (Nat.le_of_ble_eq_true rfl)) (Nat.le_trans (by omega : _ ≤ 3000) (Nat.le_of_ble_eq_true rfl)) dL_law_91 (fun q H hP hi hda hS => ?_)
  have hl : lv_has ls 32 [(0, .ref b), (1, .ref (ua ad 82 q 0)), (2, .ref (ua ad 82 q 81)), (3, .int x3), (4, .int x4), (5, .int x5)] := hl
  generalize ua ad 82 q = ad at hP hi hda hl ⊢
  have hv := hv _ rfl
  generalize us s0 82 zq = s1 at hv hP
  have hD := wd_Dg (A := La s) (cel := celL ad cA) (σ := s1) hi hda
  refine lv_astore (lv' := [(7, .ref (ad 82)), (0, .ref b), (1, .ref (ad 0)), (2, .ref (ad 81)), (3, .int x3), (4, .int x4), (5, .int x5)]) hx hb dL_law_93 hl (by decide) rfl (fun ls hl => ?_)
  refine lv_bipush (v := 7) hx hb dL_law_95 (by decide) ?_
  refine r_newL hx hb (hts _ mw_109) hK.1 hP hD hS hA2 (by decide) (Nat.le_trans (by omega : _ ≤ 300) (Nat.le_of_ble_eq_true rfl)) (Nat.le_trans (by omega : _ ≤ 3000) (Nat.le_of_ble_eq_true rfl)) dL_law_97 (fun q H hP hi hda hS => ?_)
  have hl : lv_has ls 32 [(7, .ref (ua ad 83 q 82)), (0, .ref b), (1, .ref (ua ad 83 q 0)), (2, .ref (ua ad 83 q 81)), (3, .int x3), (4, .int x4), (5, .int x5)] := hl
  generalize ua ad 83 q = ad at hP hi hda hl ⊢
  have hv := hv _ rfl
  generalize us s1 83 zq = s2 at hv hP
  have hD := wd_Dg (A := La s) (cel := celL ad cA) (σ := s2) hi hda
  refine lv_astore (lv' := [(8, .ref (ad 83)), (7, .ref (ad 82)), (0, .ref b), (1, .ref (ad 0)), (2, .ref (ad 81)), (3, .int x3), (4, .int x4), (5, .int x5)]) hx hb dL_law_99 hl (by decide) rfl (fun ls hl => ?_)
  refine lv_bipush (v := 7) hx hb dL_law_101 (by decide) ?_
  refine r_newL hx hb (hts _ mw_109) hK.1 hP hD hS hA2 (by decide) (Nat.le_trans (by omega : _ ≤ 300) (Nat.le_of_ble_eq_true rfl)) (Nat.le_trans (by omega : _ ≤ 3000) (Nat.le_of_ble_eq_true rfl)) dL_law_103 (fun q H hP hi hda hS => ?_)
  have hl : lv_has ls 32 [(8, .ref (ua ad 84 q 83)), (7, .ref (ua ad 84 q 82)), (0, .ref b), (1, .ref (ua ad 84 q 0)), (2, .ref (ua ad 84 q 81)), (3, .int x3), (4, .int x4), (5, .int x5)] := hl
  generalize ua ad 84 q = ad at hP hi hda hl ⊢
  have hv := hv _ rfl
  generalize us s2 84 zq = s3 at hv hP
  have hD := wd_Dg (A := La s) (cel := celL ad cA) (σ := s3) hi hda
  refine lv_astore (lv' := [(9, .ref (ad 84)), (8, .ref (ad 83)), (7, .ref (ad 82)), (0, .ref b), (1, .ref (ad 0)), (2, .ref (ad 81)), (3, .int x3), (4, .int x4), (5, .int x5)]) hx hb dL_law_105 hl (by decide) rfl (fun ls hl => ?_)
  refine lv_aload_n hx hb dL_law_107 rfl (lv_at hl 4 rfl) ?_
  refine lv_iconst (v := 3) hx hb dL_law_108 (by decide) ?_
  refine r_lci hi hP hS (aa_A (by decide) hda hA2 hS) (va_runV (As := [.int 3]) (rest := []) ⟨hx, hb, hml, hown, hts⟩ (c_X10_count (inj_le (by decide) hi) 3 _ _ hv H.size) (cwV 1 (fun w h => hts w (iv_X10_count_48 w h)) gv_X10_count_48 rfl rfl rfl (by decide +kernel) ⟨(Nat.le_of_ble_eq_true rfl), (Nat.le_of_ble_eq_true rfl)⟩) ⟨pre_blind, r_recv hK.1 (wd_cls (by decide) hP) 0 (by decide) (ceGR_0 (s3 0)) rfl, pre_of (wd_cls (by decide) hP) hK⟩ rfl rfl hl.1 rfl (lv_room (Nat.le_of_ble_eq_true rfl)) dL_law_109 ⟨Nat.le_trans (by omega : _ ≤ 300) (Nat.le_of_ble_eq_true rfl), Nat.le_trans (by omega : _ ≤ 3000) (Nat.le_of_ble_eq_true rfl)⟩) (fun r4 s4 H locs hv hP hS => ?_)
  have hD := wd_Dg (A := La s) (cel := celL ad cA) (σ := s4) hi hda
  refine lv_istore (lv' := [(10, .int r4), (9, .ref (ad 84)), (8, .ref (ad 83)), (7, .ref (ad 82)), (0, .ref b), (1, .ref (ad 0)), (2, .ref (ad 81)), (3, .int x3), (4, .int x4), (5, .int x5)]) hx hb dL_law_112 hl (by decide) rfl (fun ls hl => ?_)
  refine lv_iconst (v := 0) hx hb dL_law_114 (by decide) ?_
  refine lv_istore (lv' := [(11, .int 0), (10, .int r4), (9, .ref (ad 84)), (8, .ref (ad 83)), (7, .ref (ad 82)), (0, .ref b), (1, .ref (ad 0)), (2, .ref (ad 81)), (3, .int x3), (4, .int x4), (5, .int x5)]) hx hb dL_law_115 hl (by decide) rfl (fun ls hl => ?_)
  refine W.widen (k := 100 + 3 * x5.toNatClampNeg + 3) (n := 1500 + 21 * x5.toNatClampNeg + 21) (by omega) (by omega) ?_
  exact hY 117 [x3, x4, x5, r4, 0] [] s4 hv _ _ _ _ _ rfl ad H locs ls hi hda hP hS (lv_sub hl [5, 6, 7, 8, 9, 10, 4, 3, 2, 1, 0] rfl)
set_option maxHeartbeats 8000000 in
set_option maxRecDepth 100000 in
theorem w_L_law_117 {p : Program} {l : Launch} {e : Env} {s : State} {m : MethodId} {below : List Frame} {meth : Method} {c : Code} {dC : Nat → ClassId} {dI : Nat → Nat → Nat} {cA cZ : ClassId} {b L : Nat} {xs : Nat → Int32} (C0 : LC p s m meth c b L xs dC dI cA cZ) (Y : Nat → List Int32 → List Int64 → St → Prop) (hY : ∀ P xs ys σ, Y P xs ys σ → XW p l e s m below meth c b dC dI cA P xs ys σ) (x3 : Int32) (x4 : Int32) (x5 : Int32) (x10 : Int32) (x11 : Int32) (s0 : St) (hv : B_L_law_117 L xs Y x3 x4 x5 x10 x11 s0) {ad : Nat → Nat} (hi : Inj 85 ad) (hda : ∀ k, k < 85 → La s (ad k)) {H : Heap} {locs : List Loc} {ls : Array Slot} (hP : va_P (dC, dI) vwCl (wd 85 ad (celL ad cA) s0) H) (hS : va_S (La s) s.heap H locs) (hl : lv_has ls 32 [(0, .ref b), (1, .ref (ad 0)), (2, .ref (ad 81)), (3, .int x3), (4, .int x4), (5, .int x5), (7, .ref (ad 82)), (8, .ref (ad 83)), (9, .ref (ad 84)), (10, .int x10), (11, .int x11)]) : W p l e room_1 s m #[Value.ref b] below meth c H locs (100 + 3 * x5.toNatClampNeg + 3) (1500 + 21 * x5.toNatClampNeg + 21) (lw_Z below #[Value.ref b] s) (F0 m 117 ls []) := by
  obtain ⟨⟨hx, hb, hml, hown, hts, hr, hlocks⟩, hX, hbl, hK⟩ := C0
  have hbA : ¬ La s b := Nat.not_le.mpr hbl
  have hA2 : ∀ q, s.heap.size ≤ q → La s q := fun _ h => h
  have hD := wd_Dg (A := La s) (cel := celL ad cA) (σ := s0) hi hda
  unfold B_L_law_117 at hv
  obtain ⟨hT, hv⟩ := hv
  refine lv_iload hx hb dL_law_117 (lv_at hl 10 rfl) ?_
  refine lv_iload_n hx hb dL_law_119 rfl (lv_at hl 3 rfl) ?_
  refine lv_icmp_ge (tgt := 165) hx hb dL_law_120 (by decide) (fun c120 => ?_) (fun c120 => ?_)
  · have hv := hv.1 c120
    refine lv_aload_n hx hb dL_law_165 rfl (lv_at hl 1 rfl) ?_
    refine lv_iconst (v := 1) hx hb dL_law_166 (by decide) ?_
    refine r_lci hi hP hS (aa_A (by decide) hda hA2 hS) (va_runV (As := [.int 1]) (rest := []) ⟨hx, hb, hml, hown, hts⟩ (c_X10_hours (inj_le (by decide) hi) 1 _ _ hv H.size) (cwV 1 (fun w h => hts w (iv_X10_hours_54 w h)) gv_X10_hours_54 rfl rfl rfl (by decide +kernel) ⟨(Nat.le_of_ble_eq_true rfl), (Nat.le_of_ble_eq_true rfl)⟩) ⟨pre_blind, r_recv hK.1 (wd_cls (by decide) hP) 0 (by decide) (ceGR_0 (s0 0)) rfl, pre_of (wd_cls (by decide) hP) hK⟩ rfl rfl hl.1 rfl (lv_room (Nat.le_of_ble_eq_true rfl)) dL_law_167 ⟨Nat.le_trans (by omega : _ ≤ 300) (Nat.le_of_ble_eq_true rfl), Nat.le_trans (by omega : _ ≤ 3000) (Nat.le_of_ble_eq_true rfl)⟩) (fun r1 s1 H locs hv hP hS => ?_)
    have hD := wd_Dg (A := La s) (cel := celL ad cA) (σ := s1) hi hda
    refine lv_iload hx hb dL_law_170 (lv_at hl 9 rfl) ?_
    refine lv_icmp_ge (tgt := 177) hx hb dL_law_172 (by decide) (fun c172 => ?_) (fun c172 => ?_)
    · have hv := hv.1 c172
      refine lv_iconst (v := 0) hx hb dL_law_177 (by decide) ?_
      refine lv_istore (lv' := [(11, .int 0), (0, .ref b), (1, .ref (ad 0)), (2, .ref (ad 81)), (3, .int x3), (4, .int x4), (5, .int x5), (7, .ref (ad 82)), (8, .ref (ad 83)), (9, .ref (ad 84)), (10, .int x10)]) hx hb dL_law_178 hl (by decide) rfl (fun ls hl => ?_)
      exact hY 180 [x3, x4, x5, 0] [] s1 hv _ _ _ _ _ rfl ad H locs ls hi hda hP hS (lv_sub hl [1, 2, 3, 4, 5, 6, 7, 8, 9, 0] rfl)
    · have hv := hv.2 c172
      refine lv_iconst (v := 0) hx hb dL_law_175 (by decide) ?_
      exact hv.elim
  · have hv := hv.2 c120
    refine lv_aload hx hb dL_law_123 (lv_at hl 6 rfl) ?_
    refine lv_iload hx hb dL_law_125 (lv_at hl 10 rfl) ?_
    refine lv_aload_n hx hb dL_law_127 rfl (lv_at hl 1 rfl) ?_
    refine lv_iload hx hb dL_law_128 (lv_at hl 10 rfl) ?_
    refine lv_iconst (v := 2) hx hb dL_law_130 (by decide) ?_
    refine r_lci hi hP hS (aa_A (by decide) hda hA2 hS) (va_runV (As := [.int x11, .int 2]) (rest := [.int x11, .ref (ad 82)]) ⟨hx, hb, hml, hown, hts⟩ (c_X10_of (inj_le (by decide) hi) x11 2 _ _ hv H.size) (cwV 2 (fun w h => hts w (iv_X10_of_51 w h)) gv_X10_of_51 rfl rfl rfl (by decide +kernel) ⟨(Nat.le_of_ble_eq_true rfl), (Nat.le_of_ble_eq_true rfl)⟩) ⟨pre_blind, r_recv hK.1 (wd_cls (by decide) hP) 0 (by decide) (ceGR_0 (s0 0)) rfl, pre_of (wd_cls (by decide) hP) hK⟩ rfl rfl hl.1 rfl (lv_room (Nat.le_of_ble_eq_true rfl)) dL_law_131 ⟨Nat.le_trans (by omega : _ ≤ 300) (Nat.le_of_ble_eq_true rfl), Nat.le_trans (by omega : _ ≤ 3000) (Nat.le_of_ble_eq_true rfl)⟩) (fun r2 s2 H locs hv hP hS => ?_)
    have hD := wd_Dg (A := La s) (cel := celL ad cA) (σ := s2) hi hda
    obtain ⟨hin, hv⟩ := hv
    refine r_iast hx hb hK.1 hP hD hS 82 (by decide) (ceL_82 (s2 82)) (ceL_82 _) hin dL_law_134 (fun H locs s3 es3 hP hD hS => ?_)
    have hv := hv s3 es3
    refine lv_aload hx hb dL_law_135 (lv_at hl 7 rfl) ?_
    refine lv_iload hx hb dL_law_137 (lv_at hl 10 rfl) ?_
    refine lv_aload_n hx hb dL_law_139 rfl (lv_at hl 1 rfl) ?_
    refine lv_iload hx hb dL_law_140 (lv_at hl 10 rfl) ?_
    refine lv_iconst (v := 3) hx hb dL_law_142 (by decide) ?_
    refine r_lci hi hP hS (aa_A (by decide) hda hA2 hS) (va_runV (As := [.int x11, .int 3]) (rest := [.int x11, .ref (ad 83)]) ⟨hx, hb, hml, hown, hts⟩ (c_X10_of (inj_le (by decide) hi) x11 3 _ _ hv H.size) (cwV 2 (fun w h => hts w (iv_X10_of_51 w h)) gv_X10_of_51 rfl rfl rfl (by decide +kernel) ⟨(Nat.le_of_ble_eq_true rfl), (Nat.le_of_ble_eq_true rfl)⟩) ⟨pre_blind, r_recv hK.1 (wd_cls (by decide) hP) 0 (by decide) (ceGR_0 (s3 0)) rfl, pre_of (wd_cls (by decide) hP) hK⟩ rfl rfl hl.1 rfl (lv_room (Nat.le_of_ble_eq_true rfl)) dL_law_143 ⟨Nat.le_trans (by omega : _ ≤ 300) (Nat.le_of_ble_eq_true rfl), Nat.le_trans (by omega : _ ≤ 3000) (Nat.le_of_ble_eq_true rfl)⟩) (fun r4 s4 H locs hv hP hS => ?_)
    have hD := wd_Dg (A := La s) (cel := celL ad cA) (σ := s4) hi hda
    obtain ⟨hin, hv⟩ := hv
    refine r_iast hx hb hK.1 hP hD hS 83 (by decide) (ceL_83 (s4 83)) (ceL_83 _) hin dL_law_146 (fun H locs s5 es5 hP hD hS => ?_)
    have hv := hv s5 es5
    refine lv_aload hx hb dL_law_147 (lv_at hl 8 rfl) ?_
    refine lv_iload hx hb dL_law_149 (lv_at hl 10 rfl) ?_
    refine lv_aload_n hx hb dL_law_151 rfl (lv_at hl 1 rfl) ?_
    refine lv_iload hx hb dL_law_152 (lv_at hl 10 rfl) ?_
    refine lv_iconst (v := 4) hx hb dL_law_154 (by decide) ?_
    refine r_lci hi hP hS (aa_A (by decide) hda hA2 hS) (va_runV (As := [.int x11, .int 4]) (rest := [.int x11, .ref (ad 84)]) ⟨hx, hb, hml, hown, hts⟩ (c_X10_of (inj_le (by decide) hi) x11 4 _ _ hv H.size) (cwV 2 (fun w h => hts w (iv_X10_of_51 w h)) gv_X10_of_51 rfl rfl rfl (by decide +kernel) ⟨(Nat.le_of_ble_eq_true rfl), (Nat.le_of_ble_eq_true rfl)⟩) ⟨pre_blind, r_recv hK.1 (wd_cls (by decide) hP) 0 (by decide) (ceGR_0 (s5 0)) rfl, pre_of (wd_cls (by decide) hP) hK⟩ rfl rfl hl.1 rfl (lv_room (Nat.le_of_ble_eq_true rfl)) dL_law_155 ⟨Nat.le_trans (by omega : _ ≤ 300) (Nat.le_of_ble_eq_true rfl), Nat.le_trans (by omega : _ ≤ 3000) (Nat.le_of_ble_eq_true rfl)⟩) (fun r6 s6 H locs hv hP hS => ?_)
    have hD := wd_Dg (A := La s) (cel := celL ad cA) (σ := s6) hi hda
    obtain ⟨hin, hv⟩ := hv
    refine r_iast hx hb hK.1 hP hD hS 84 (by decide) (ceL_84 (s6 84)) (ceL_84 _) hin dL_law_158 (fun H locs s7 es7 hP hD hS => ?_)
    have hv := hv s7 es7
    refine lv_iinc (v := x11 + 1) (lv' := [(11, .int (x11 + 1)), (0, .ref b), (1, .ref (ad 0)), (2, .ref (ad 81)), (3, .int x3), (4, .int x4), (5, .int x5), (7, .ref (ad 82)), (8, .ref (ad 83)), (9, .ref (ad 84)), (10, .int x10)]) hx hb dL_law_159 hl (k := 10) rfl rfl (by decide) rfl (fun ls hl => ?_)
    refine lv_goto (tgt := 117) hx hb dL_law_162 (by decide) ?_
    exact hY 117 [x3, x4, x5, x10, x11 + 1] [] s7 hv _ _ _ _ _ rfl ad H locs ls hi hda hP hS (lv_sub hl [1, 2, 3, 4, 5, 6, 7, 8, 9, 10, 0] rfl)
set_option maxHeartbeats 8000000 in
set_option maxRecDepth 100000 in
theorem w_L_law_180 {p : Program} {l : Launch} {e : Env} {s : State} {m : MethodId} {below : List Frame} {meth : Method} {c : Code} {dC : Nat → ClassId} {dI : Nat → Nat → Nat} {cA cZ : ClassId} {b L : Nat} {xs : Nat → Int32} (C0 : LC p s m meth c b L xs dC dI cA cZ) (Y : Nat → List Int32 → List Int64 → St → Prop) (hY : ∀ P xs ys σ, Y P xs ys σ → XW p l e s m below meth c b dC dI cA P xs ys σ) (x3 : Int32) (x4 : Int32) (x5 : Int32) (x11 : Int32) (s0 : St) (hv : B_L_law_180 L xs Y x3 x4 x5 x11 s0) {ad : Nat → Nat} (hi : Inj 85 ad) (hda : ∀ k, k < 85 → La s (ad k)) {H : Heap} {locs : List Loc} {ls : Array Slot} (hP : va_P (dC, dI) vwCl (wd 85 ad (celL ad cA) s0) H) (hS : va_S (La s) s.heap H locs) (hl : lv_has ls 32 [(0, .ref b), (1, .ref (ad 0)), (2, .ref (ad 81)), (3, .int x3), (4, .int x4), (5, .int x5), (7, .ref (ad 82)), (8, .ref (ad 83)), (9, .ref (ad 84)), (11, .int x11)]) : W p l e room_1 s m #[Value.ref b] below meth c H locs (100 + 3 * x5.toNatClampNeg + 3) (1500 + 21 * x5.toNatClampNeg + 21) (lw_Z below #[Value.ref b] s) (F0 m 180 ls []) := by
  obtain ⟨⟨hx, hb, hml, hown, hts, hr, hlocks⟩, hX, hbl, hK⟩ := C0
  have hbA : ¬ La s b := Nat.not_le.mpr hbl
  have hA2 : ∀ q, s.heap.size ≤ q → La s q := fun _ h => h
  have hD := wd_Dg (A := La s) (cel := celL ad cA) (σ := s0) hi hda
  unfold B_L_law_180 at hv
  obtain ⟨hT, hv⟩ := hv
  refine lv_iload hx hb dL_law_180 (lv_at hl 9 rfl) ?_
  refine lv_iload_n hx hb dL_law_182 rfl (lv_at hl 3 rfl) ?_
  refine lv_icmp_ge (tgt := 344) hx hb dL_law_183 (by decide) (fun c183 => ?_) (fun c183 => ?_)
  · have hv := hv.1 c183
    refine lv_iinc (v := x5 + 1) (lv' := [(5, .int (x5 + 1)), (0, .ref b), (1, .ref (ad 0)), (2, .ref (ad 81)), (3, .int x3), (4, .int x4), (7, .ref (ad 82)), (8, .ref (ad 83)), (9, .ref (ad 84)), (11, .int x11)]) hx hb dL_law_344 hl (k := 5) rfl rfl (by decide) rfl (fun ls hl => ?_)
    refine lv_goto (tgt := 40) hx hb dL_law_347 (by decide) ?_
    obtain ⟨hU, hv⟩ := hv
    refine W.widen (k := 100 + 3 * (x5 + 1).toNatClampNeg) (n := 1500 + 21 * (x5 + 1).toNatClampNeg) (by omega) (by omega) ?_
    exact hY 40 [x3, x4, x5 + 1] [] s0 hv _ _ _ _ _ rfl ad H locs ls (inj_le (by decide) hi) (fun k hk => hda k (Nat.lt_of_lt_of_le hk (by decide))) (wd_shr (by decide) hP) hS (lv_sub hl [1, 2, 3, 4, 5, 0] rfl)
  · have hv := hv.2 c183
    refine lv_aload_n hx hb dL_law_186 rfl (lv_at hl 1 rfl) ?_
    refine lv_iload hx hb dL_law_187 (lv_at hl 9 rfl) ?_
    refine lv_iconst (v := 2) hx hb dL_law_189 (by decide) ?_
    refine r_lci hi hP hS (aa_A (by decide) hda hA2 hS) (va_runV (As := [.int x11, .int 2]) (rest := []) ⟨hx, hb, hml, hown, hts⟩ (c_X10_of (inj_le (by decide) hi) x11 2 _ _ hv H.size) (cwV 2 (fun w h => hts w (iv_X10_of_51 w h)) gv_X10_of_51 rfl rfl rfl (by decide +kernel) ⟨(Nat.le_of_ble_eq_true rfl), (Nat.le_of_ble_eq_true rfl)⟩) ⟨pre_blind, r_recv hK.1 (wd_cls (by decide) hP) 0 (by decide) (ceGR_0 (s0 0)) rfl, pre_of (wd_cls (by decide) hP) hK⟩ rfl rfl hl.1 rfl (lv_room (Nat.le_of_ble_eq_true rfl)) dL_law_190 ⟨Nat.le_trans (by omega : _ ≤ 300) (Nat.le_of_ble_eq_true rfl), Nat.le_trans (by omega : _ ≤ 3000) (Nat.le_of_ble_eq_true rfl)⟩) (fun r1 s1 H locs hv hP hS => ?_)
    have hD := wd_Dg (A := La s) (cel := celL ad cA) (σ := s1) hi hda
    refine lv_istore (lv' := [(12, .int r1), (0, .ref b), (1, .ref (ad 0)), (2, .ref (ad 81)), (3, .int x3), (4, .int x4), (5, .int x5), (7, .ref (ad 82)), (8, .ref (ad 83)), (9, .ref (ad 84)), (11, .int x11)]) hx hb dL_law_193 hl (by decide) rfl (fun ls hl => ?_)
    refine lv_iload hx hb dL_law_195 (lv_at hl 0 rfl) ?_
    refine lv_aload hx hb dL_law_197 (lv_at hl 7 rfl) ?_
    refine lv_iload hx hb dL_law_199 (lv_at hl 10 rfl) ?_
    obtain ⟨hin, hv⟩ := hv
    refine r_iald hx hb hK.1 hP 82 (by decide) (ceL_82 (s1 82)) hin dL_law_201 ?_
    refine lv_icmp_lt (tgt := 291) hx hb dL_law_202 (by decide) (fun c202 => ?_) (fun c202 => ?_)
    · have hv := hv.1 c202
      refine lv_iconst (v := 0) hx hb dL_law_291 (by decide) ?_
      exact hv.elim
    · have hv := hv.2 c202
      refine lv_iload hx hb dL_law_205 (lv_at hl 0 rfl) ?_
      refine lv_bipush (v := 23) hx hb dL_law_207 (by decide) ?_
      refine lv_icmp_gt (tgt := 291) hx hb dL_law_209 (by decide) (fun c209 => ?_) (fun c209 => ?_)
      · have hv := hv.1 c209
        refine lv_iconst (v := 0) hx hb dL_law_291 (by decide) ?_
        exact hv.elim
      · have hv := hv.2 c209
        refine lv_aload hx hb dL_law_212 (lv_at hl 8 rfl) ?_
        refine lv_iload hx hb dL_law_214 (lv_at hl 10 rfl) ?_
        obtain ⟨hin, hv⟩ := hv
        refine r_iald hx hb hK.1 hP 83 (by decide) (ceL_83 (s1 83)) hin dL_law_216 ?_
        refine lv_iconst (v := 1) hx hb dL_law_217 (by decide) ?_
        refine lv_icmp_ne (tgt := 233) hx hb dL_law_218 (by decide) (fun c218 => ?_) (fun c218 => ?_)
        · have hv := hv.1 c218
          exact hY 233 [x3, x4, x5, x11, r1] [] s1 hv _ _ _ _ _ rfl ad H locs ls hi hda hP hS (lv_sub hl [1, 2, 3, 4, 5, 6, 7, 8, 9, 10, 0] rfl)
        · have hv := hv.2 c218
          refine lv_iload hx hb dL_law_221 (lv_at hl 0 rfl) ?_
          refine lv_aload hx hb dL_law_223 (lv_at hl 7 rfl) ?_
          refine lv_iload hx hb dL_law_225 (lv_at hl 10 rfl) ?_
          obtain ⟨hin, hv⟩ := hv
          refine r_iald hx hb hK.1 hP 82 (by decide) (ceL_82 (s1 82)) hin dL_law_227 ?_
          refine lv_iconst (v := 1) hx hb dL_law_228 (by decide) ?_
          refine lv_iadd hx hb dL_law_229 ?_
          refine lv_icmp_gt (tgt := 291) hx hb dL_law_230 (by decide) (fun c230 => ?_) (fun c230 => ?_)
          · have hv := hv.1 c230
            refine lv_iconst (v := 0) hx hb dL_law_291 (by decide) ?_
            exact hv.elim
          · have hv := hv.2 c230
            exact hY 233 [x3, x4, x5, x11, r1] [] s1 hv _ _ _ _ _ rfl ad H locs ls hi hda hP hS (lv_sub hl [1, 2, 3, 4, 5, 6, 7, 8, 9, 10, 0] rfl)
set_option maxHeartbeats 8000000 in
set_option maxRecDepth 100000 in
theorem w_L_law_233 {p : Program} {l : Launch} {e : Env} {s : State} {m : MethodId} {below : List Frame} {meth : Method} {c : Code} {dC : Nat → ClassId} {dI : Nat → Nat → Nat} {cA cZ : ClassId} {b L : Nat} {xs : Nat → Int32} (C0 : LC p s m meth c b L xs dC dI cA cZ) (Y : Nat → List Int32 → List Int64 → St → Prop) (hY : ∀ P xs ys σ, Y P xs ys σ → XW p l e s m below meth c b dC dI cA P xs ys σ) (x3 : Int32) (x4 : Int32) (x5 : Int32) (x11 : Int32) (x12 : Int32) (s0 : St) (hv : B_L_law_233 L xs Y x3 x4 x5 x11 x12 s0) {ad : Nat → Nat} (hi : Inj 85 ad) (hda : ∀ k, k < 85 → La s (ad k)) {H : Heap} {locs : List Loc} {ls : Array Slot} (hP : va_P (dC, dI) vwCl (wd 85 ad (celL ad cA) s0) H) (hS : va_S (La s) s.heap H locs) (hl : lv_has ls 32 [(0, .ref b), (1, .ref (ad 0)), (2, .ref (ad 81)), (3, .int x3), (4, .int x4), (5, .int x5), (7, .ref (ad 82)), (8, .ref (ad 83)), (9, .ref (ad 84)), (11, .int x11), (12, .int x12)]) : W p l e room_1 s m #[Value.ref b] below meth c H locs (100 + 3 * x5.toNatClampNeg + 3) (1500 + 21 * x5.toNatClampNeg + 21) (lw_Z below #[Value.ref b] s) (F0 m 233 ls []) := by
  obtain ⟨⟨hx, hb, hml, hown, hts, hr, hlocks⟩, hX, hbl, hK⟩ := C0
  have hbA : ¬ La s b := Nat.not_le.mpr hbl
  have hA2 : ∀ q, s.heap.size ≤ q → La s q := fun _ h => h
  have hD := wd_Dg (A := La s) (cel := celL ad cA) (σ := s0) hi hda
  unfold B_L_law_233 at hv
  obtain ⟨hT, hv⟩ := hv
  refine lv_aload hx hb dL_law_233 (lv_at hl 7 rfl) ?_
  refine lv_iload hx hb dL_law_235 (lv_at hl 9 rfl) ?_
  obtain ⟨hin, hv⟩ := hv
  refine r_iald hx hb hK.1 hP 83 (by decide) (ceL_83 (s0 83)) hin dL_law_237 ?_
  refine lv_if_ne (tgt := 293) hx hb dL_law_238 (by decide) (fun c238 => ?_) (fun c238 => ?_)
  · have hv := hv.1 c238
    refine lv_iconst (v := 0) hx hb dL_law_293 (by decide) ?_
    refine lv_istore (lv' := [(13, .int 0), (0, .ref b), (1, .ref (ad 0)), (2, .ref (ad 81)), (3, .int x3), (4, .int x4), (5, .int x5), (7, .ref (ad 82)), (8, .ref (ad 83)), (9, .ref (ad 84)), (11, .int x11), (12, .int x12)]) hx hb dL_law_294 hl (by decide) rfl (fun ls hl => ?_)
    exact hY 296 [x3, x4, x5, x11, x12, 0] [] s0 hv _ _ _ _ _ rfl ad H locs ls hi hda hP hS (lv_sub hl [1, 2, 3, 4, 5, 6, 7, 8, 9, 10, 11, 0] rfl)
  · have hv := hv.2 c238
    refine lv_iload hx hb dL_law_241 (lv_at hl 10 rfl) ?_
    refine lv_aload hx hb dL_law_243 (lv_at hl 6 rfl) ?_
    refine lv_iload hx hb dL_law_245 (lv_at hl 9 rfl) ?_
    obtain ⟨hin, hv⟩ := hv
    refine r_iald hx hb hK.1 hP 82 (by decide) (ceL_82 (s0 82)) hin dL_law_247 ?_
    refine lv_aload hx hb dL_law_248 (lv_at hl 8 rfl) ?_
    refine lv_iload hx hb dL_law_250 (lv_at hl 9 rfl) ?_
    obtain ⟨hin, hv⟩ := hv
    refine r_iald hx hb hK.1 hP 84 (by decide) (ceL_84 (s0 84)) hin dL_law_252 ?_
    refine lv_iadd hx hb dL_law_253 ?_
    refine lv_icmp_gt (tgt := 291) hx hb dL_law_254 (by decide) (fun c254 => ?_) (fun c254 => ?_)
    · have hv := hv.1 c254
      refine lv_iconst (v := 0) hx hb dL_law_291 (by decide) ?_
      exact hv.elim
    · have hv := hv.2 c254
      refine lv_iload hx hb dL_law_257 (lv_at hl 10 rfl) ?_
      refine lv_aload hx hb dL_law_259 (lv_at hl 6 rfl) ?_
      refine lv_iload hx hb dL_law_261 (lv_at hl 9 rfl) ?_
      obtain ⟨hin, hv⟩ := hv
      refine r_iald hx hb hK.1 hP 82 (by decide) (ceL_82 (s0 82)) hin dL_law_263 ?_
      refine lv_aload hx hb dL_law_264 (lv_at hl 8 rfl) ?_
      refine lv_iload hx hb dL_law_266 (lv_at hl 9 rfl) ?_
      obtain ⟨hin, hv⟩ := hv
      refine r_iald hx hb hK.1 hP 84 (by decide) (ceL_84 (s0 84)) hin dL_law_268 ?_
      refine lv_iadd hx hb dL_law_269 ?_
      refine lv_icmp_ge (tgt := 293) hx hb dL_law_270 (by decide) (fun c270 => ?_) (fun c270 => ?_)
      · have hv := hv.1 c270
        refine lv_iconst (v := 0) hx hb dL_law_293 (by decide) ?_
        refine lv_istore (lv' := [(13, .int 0), (0, .ref b), (1, .ref (ad 0)), (2, .ref (ad 81)), (3, .int x3), (4, .int x4), (5, .int x5), (7, .ref (ad 82)), (8, .ref (ad 83)), (9, .ref (ad 84)), (11, .int x11), (12, .int x12)]) hx hb dL_law_294 hl (by decide) rfl (fun ls hl => ?_)
        exact hY 296 [x3, x4, x5, x11, x12, 0] [] s0 hv _ _ _ _ _ rfl ad H locs ls hi hda hP hS (lv_sub hl [1, 2, 3, 4, 5, 6, 7, 8, 9, 10, 11, 0] rfl)
      · have hv := hv.2 c270
        refine lv_iload hx hb dL_law_273 (lv_at hl 10 rfl) ?_
        refine lv_bipush (v := 23) hx hb dL_law_275 (by decide) ?_
        refine lv_icmp_ge (tgt := 293) hx hb dL_law_277 (by decide) (fun c277 => ?_) (fun c277 => ?_)
        · have hv := hv.1 c277
          refine lv_iconst (v := 0) hx hb dL_law_293 (by decide) ?_
          refine lv_istore (lv' := [(13, .int 0), (0, .ref b), (1, .ref (ad 0)), (2, .ref (ad 81)), (3, .int x3), (4, .int x4), (5, .int x5), (7, .ref (ad 82)), (8, .ref (ad 83)), (9, .ref (ad 84)), (11, .int x11), (12, .int x12)]) hx hb dL_law_294 hl (by decide) rfl (fun ls hl => ?_)
          exact hY 296 [x3, x4, x5, x11, x12, 0] [] s0 hv _ _ _ _ _ rfl ad H locs ls hi hda hP hS (lv_sub hl [1, 2, 3, 4, 5, 6, 7, 8, 9, 10, 11, 0] rfl)
        · have hv := hv.2 c277
          refine lv_aload_n hx hb dL_law_280 rfl (lv_at hl 1 rfl) ?_
          refine lv_iload hx hb dL_law_281 (lv_at hl 9 rfl) ?_
          refine lv_iconst (v := 3) hx hb dL_law_283 (by decide) ?_
          refine r_lci hi hP hS (aa_A (by decide) hda hA2 hS) (va_runV (As := [.int x11, .int 3]) (rest := []) ⟨hx, hb, hml, hown, hts⟩ (c_X10_of (inj_le (by decide) hi) x11 3 _ _ hv H.size) (cwV 2 (fun w h => hts w (iv_X10_of_51 w h)) gv_X10_of_51 rfl rfl rfl (by decide +kernel) ⟨(Nat.le_of_ble_eq_true rfl), (Nat.le_of_ble_eq_true rfl)⟩) ⟨pre_blind, r_recv hK.1 (wd_cls (by decide) hP) 0 (by decide) (ceGR_0 (s0 0)) rfl, pre_of (wd_cls (by decide) hP) hK⟩ rfl rfl hl.1 rfl (lv_room (Nat.le_of_ble_eq_true rfl)) dL_law_284 ⟨Nat.le_trans (by omega : _ ≤ 300) (Nat.le_of_ble_eq_true rfl), Nat.le_trans (by omega : _ ≤ 3000) (Nat.le_of_ble_eq_true rfl)⟩) (fun r1 s1 H locs hv hP hS => ?_)
          have hD := wd_Dg (A := La s) (cel := celL ad cA) (σ := s1) hi hda
          refine lv_iconst (v := 1) hx hb dL_law_287 (by decide) ?_
          refine lv_icmp_eq (tgt := 293) hx hb dL_law_288 (by decide) (fun c288 => ?_) (fun c288 => ?_)
          · have hv := hv.1 c288
            refine lv_iconst (v := 0) hx hb dL_law_293 (by decide) ?_
            refine lv_istore (lv' := [(13, .int 0), (0, .ref b), (1, .ref (ad 0)), (2, .ref (ad 81)), (3, .int x3), (4, .int x4), (5, .int x5), (7, .ref (ad 82)), (8, .ref (ad 83)), (9, .ref (ad 84)), (11, .int x11), (12, .int x12)]) hx hb dL_law_294 hl (by decide) rfl (fun ls hl => ?_)
            exact hY 296 [x3, x4, x5, x11, x12, 0] [] s1 hv _ _ _ _ _ rfl ad H locs ls hi hda hP hS (lv_sub hl [1, 2, 3, 4, 5, 6, 7, 8, 9, 10, 11, 0] rfl)
          · have hv := hv.2 c288
            refine lv_iconst (v := 0) hx hb dL_law_291 (by decide) ?_
            exact hv.elim
set_option maxHeartbeats 8000000 in
set_option maxRecDepth 100000 in
theorem w_L_law_296 {p : Program} {l : Launch} {e : Env} {s : State} {m : MethodId} {below : List Frame} {meth : Method} {c : Code} {dC : Nat → ClassId} {dI : Nat → Nat → Nat} {cA cZ : ClassId} {b L : Nat} {xs : Nat → Int32} (C0 : LC p s m meth c b L xs dC dI cA cZ) (Y : Nat → List Int32 → List Int64 → St → Prop) (hY : ∀ P xs ys σ, Y P xs ys σ → XW p l e s m below meth c b dC dI cA P xs ys σ) (x3 : Int32) (x4 : Int32) (x5 : Int32) (x11 : Int32) (x12 : Int32) (x13 : Int32) (s0 : St) (hv : B_L_law_296 L xs Y x3 x4 x5 x11 x12 x13 s0) {ad : Nat → Nat} (hi : Inj 85 ad) (hda : ∀ k, k < 85 → La s (ad k)) {H : Heap} {locs : List Loc} {ls : Array Slot} (hP : va_P (dC, dI) vwCl (wd 85 ad (celL ad cA) s0) H) (hS : va_S (La s) s.heap H locs) (hl : lv_has ls 32 [(0, .ref b), (1, .ref (ad 0)), (2, .ref (ad 81)), (3, .int x3), (4, .int x4), (5, .int x5), (7, .ref (ad 82)), (8, .ref (ad 83)), (9, .ref (ad 84)), (11, .int x11), (12, .int x12), (13, .int x13)]) : W p l e room_1 s m #[Value.ref b] below meth c H locs (100 + 3 * x5.toNatClampNeg + 3) (1500 + 21 * x5.toNatClampNeg + 21) (lw_Z below #[Value.ref b] s) (F0 m 296 ls []) := by
  obtain ⟨⟨hx, hb, hml, hown, hts, hr, hlocks⟩, hX, hbl, hK⟩ := C0
  have hbA : ¬ La s b := Nat.not_le.mpr hbl
  have hA2 : ∀ q, s.heap.size ≤ q → La s q := fun _ h => h
  have hD := wd_Dg (A := La s) (cel := celL ad cA) (σ := s0) hi hda
  unfold B_L_law_296 at hv
  obtain ⟨hT, hv⟩ := hv
  refine lv_iload hx hb dL_law_296 (lv_at hl 11 rfl) ?_
  refine lv_iload hx hb dL_law_298 (lv_at hl 4 rfl) ?_
  refine lv_icmp_ge (tgt := 338) hx hb dL_law_300 (by decide) (fun c300 => ?_) (fun c300 => ?_)
  · have hv := hv.1 c300
    refine lv_iinc (v := x11 + 1) (lv' := [(11, .int (x11 + 1)), (0, .ref b), (1, .ref (ad 0)), (2, .ref (ad 81)), (3, .int x3), (4, .int x4), (5, .int x5), (7, .ref (ad 82)), (8, .ref (ad 83)), (9, .ref (ad 84)), (12, .int x12), (13, .int x13)]) hx hb dL_law_338 hl (k := 9) rfl rfl (by decide) rfl (fun ls hl => ?_)
    refine lv_goto (tgt := 180) hx hb dL_law_341 (by decide) ?_
    exact hY 180 [x3, x4, x5, x11 + 1] [] s0 hv _ _ _ _ _ rfl ad H locs ls hi hda hP hS (lv_sub hl [1, 2, 3, 4, 5, 6, 7, 8, 9, 0] rfl)
  · have hv := hv.2 c300
    refine lv_aload hx hb dL_law_303 (lv_at hl 6 rfl) ?_
    refine lv_iload hx hb dL_law_305 (lv_at hl 9 rfl) ?_
    obtain ⟨hin, hv⟩ := hv
    refine r_iald hx hb hK.1 hP 82 (by decide) (ceL_82 (s0 82)) hin dL_law_307 ?_
    refine lv_aload_n hx hb dL_law_308 rfl (lv_at hl 2 rfl) ?_
    refine lv_bipush (v := 36) hx hb dL_law_309 (by decide) ?_
    refine lv_iload hx hb dL_law_311 (lv_at hl 11 rfl) ?_
    refine lv_iadd hx hb dL_law_313 ?_
    obtain ⟨hin, hv⟩ := hv
    refine r_iald hx hb hK.1 hP 81 (by decide) (ceL_81 (s0 81)) hin dL_law_314 ?_
    refine lv_icmp_ge (tgt := 332) hx hb dL_law_315 (by decide) (fun c315 => ?_) (fun c315 => ?_)
    · have hv := hv.1 c315
      refine lv_iinc (v := x13 + 1) (lv' := [(13, .int (x13 + 1)), (0, .ref b), (1, .ref (ad 0)), (2, .ref (ad 81)), (3, .int x3), (4, .int x4), (5, .int x5), (7, .ref (ad 82)), (8, .ref (ad 83)), (9, .ref (ad 84)), (11, .int x11), (12, .int x12)]) hx hb dL_law_332 hl (k := 11) rfl rfl (by decide) rfl (fun ls hl => ?_)
      refine lv_goto (tgt := 296) hx hb dL_law_335 (by decide) ?_
      exact hY 296 [x3, x4, x5, x11, x12, x13 + 1] [] s0 hv _ _ _ _ _ rfl ad H locs ls hi hda hP hS (lv_sub hl [1, 2, 3, 4, 5, 6, 7, 8, 9, 10, 11, 0] rfl)
    · have hv := hv.2 c315
      refine lv_iload hx hb dL_law_318 (lv_at hl 10 rfl) ?_
      refine lv_aload_n hx hb dL_law_320 rfl (lv_at hl 2 rfl) ?_
      refine lv_bipush (v := 36) hx hb dL_law_321 (by decide) ?_
      refine lv_iload hx hb dL_law_323 (lv_at hl 11 rfl) ?_
      refine lv_iadd hx hb dL_law_325 ?_
      obtain ⟨hin, hv⟩ := hv
      refine r_iald hx hb hK.1 hP 81 (by decide) (ceL_81 (s0 81)) hin dL_law_326 ?_
      refine lv_icmp_le (tgt := 332) hx hb dL_law_327 (by decide) (fun c327 => ?_) (fun c327 => ?_)
      · have hv := hv.1 c327
        refine lv_iinc (v := x13 + 1) (lv' := [(13, .int (x13 + 1)), (0, .ref b), (1, .ref (ad 0)), (2, .ref (ad 81)), (3, .int x3), (4, .int x4), (5, .int x5), (7, .ref (ad 82)), (8, .ref (ad 83)), (9, .ref (ad 84)), (11, .int x11), (12, .int x12)]) hx hb dL_law_332 hl (k := 11) rfl rfl (by decide) rfl (fun ls hl => ?_)
        refine lv_goto (tgt := 296) hx hb dL_law_335 (by decide) ?_
        exact hY 296 [x3, x4, x5, x11, x12, x13 + 1] [] s0 hv _ _ _ _ _ rfl ad H locs ls hi hda hP hS (lv_sub hl [1, 2, 3, 4, 5, 6, 7, 8, 9, 10, 11, 0] rfl)
      · have hv := hv.2 c327
        refine lv_iconst (v := 0) hx hb dL_law_330 (by decide) ?_
        exact hv.elim
set_option maxHeartbeats 8000000 in
set_option maxRecDepth 100000 in
theorem w_L_law_350 {p : Program} {l : Launch} {e : Env} {s : State} {m : MethodId} {below : List Frame} {meth : Method} {c : Code} {dC : Nat → ClassId} {dI : Nat → Nat → Nat} {cA cZ : ClassId} {b L : Nat} {xs : Nat → Int32} (C0 : LC p s m meth c b L xs dC dI cA cZ) (Y : Nat → List Int32 → List Int64 → St → Prop) (hY : ∀ P xs ys σ, Y P xs ys σ → XW p l e s m below meth c b dC dI cA P xs ys σ) (x3 : Int32) (x4 : Int32) (s0 : St) (hv : B_L_law_350 L xs Y x3 x4 s0) {ad : Nat → Nat} (hi : Inj 82 ad) (hda : ∀ k, k < 82 → La s (ad k)) {H : Heap} {locs : List Loc} {ls : Array Slot} (hP : va_P (dC, dI) vwCl (wd 82 ad (celL ad cA) s0) H) (hS : va_S (La s) s.heap H locs) (hl : lv_has ls 32 [(0, .ref b), (1, .ref (ad 0)), (2, .ref (ad 81)), (3, .int x3), (4, .int x4)]) : W p l e room_1 s m #[Value.ref b] below meth c H locs (200) (2000) (lw_Z below #[Value.ref b] s) (F0 m 350 ls []) := by
  obtain ⟨⟨hx, hb, hml, hown, hts, hr, hlocks⟩, hX, hbl, hK⟩ := C0
  have hbA : ¬ La s b := Nat.not_le.mpr hbl
  have hA2 : ∀ q, s.heap.size ≤ q → La s q := fun _ h => h
  have hD := wd_Dg (A := La s) (cel := celL ad cA) (σ := s0) hi hda
  unfold B_L_law_350 at hv
  refine lv_aload_n hx hb dL_law_350 rfl (lv_at hl 1 rfl) ?_
  refine lv_iconst (v := 0) hx hb dL_law_351 (by decide) ?_
  refine r_lci hi hP hS (aa_A (by decide) hda hA2 hS) (va_runV (As := [.int 0]) (rest := []) ⟨hx, hb, hml, hown, hts⟩ (c_X10_image (inj_le (by decide) hi) 0 _ _ hv H.size) (cwV 1 (fun w h => hts w (iv_X10_image_57 w h)) gv_X10_image_57 rfl rfl rfl (by decide +kernel) ⟨(Nat.le_of_ble_eq_true rfl), (Nat.le_of_ble_eq_true rfl)⟩) ⟨pre_blind, r_recv hK.1 (wd_cls (by decide) hP) 0 (by decide) (ceGR_0 (s0 0)) rfl, pre_of (wd_cls (by decide) hP) hK⟩ rfl rfl hl.1 rfl (lv_room (Nat.le_of_ble_eq_true rfl)) dL_law_352 ⟨Nat.le_trans (by omega : _ ≤ 300) (Nat.le_of_ble_eq_true rfl), Nat.le_trans (by omega : _ ≤ 3000) (Nat.le_of_ble_eq_true rfl)⟩) (fun r1 s1 H locs hv hP hS => ?_)
  have hD := wd_Dg (A := La s) (cel := celL ad cA) (σ := s1) hi hda
  refine lv_iconst (v := 1) hx hb dL_law_355 (by decide) ?_
  refine lv_icmp_eq (tgt := 361) hx hb dL_law_356 (by decide) (fun c356 => ?_) (fun c356 => ?_)
  · have hv := hv.1 c356
    refine lv_aload_n hx hb dL_law_361 rfl (lv_at hl 1 rfl) ?_
    refine lv_iconst (v := 2) hx hb dL_law_362 (by decide) ?_
    refine r_lci hi hP hS (aa_A (by decide) hda hA2 hS) (va_runV (As := [.int 2]) (rest := []) ⟨hx, hb, hml, hown, hts⟩ (c_X10_count (inj_le (by decide) hi) 2 _ _ hv H.size) (cwV 1 (fun w h => hts w (iv_X10_count_48 w h)) gv_X10_count_48 rfl rfl rfl (by decide +kernel) ⟨(Nat.le_of_ble_eq_true rfl), (Nat.le_of_ble_eq_true rfl)⟩) ⟨pre_blind, r_recv hK.1 (wd_cls (by decide) hP) 0 (by decide) (ceGR_0 (s1 0)) rfl, pre_of (wd_cls (by decide) hP) hK⟩ rfl rfl hl.1 rfl (lv_room (Nat.le_of_ble_eq_true rfl)) dL_law_363 ⟨Nat.le_trans (by omega : _ ≤ 300) (Nat.le_of_ble_eq_true rfl), Nat.le_trans (by omega : _ ≤ 3000) (Nat.le_of_ble_eq_true rfl)⟩) (fun r2 s2 H locs hv hP hS => ?_)
    have hD := wd_Dg (A := La s) (cel := celL ad cA) (σ := s2) hi hda
    refine lv_istore (lv' := [(5, .int r2), (0, .ref b), (1, .ref (ad 0)), (2, .ref (ad 81)), (3, .int x3), (4, .int x4)]) hx hb dL_law_366 hl (by decide) rfl (fun ls hl => ?_)
    refine lv_aload_n hx hb dL_law_368 rfl (lv_at hl 2 rfl) ?_
    refine lv_iconst (v := 3) hx hb dL_law_369 (by decide) ?_
    refine r_lci hi hP hS (aa_A (by decide) hda hA2 hS) (va_runV (As := [.int 3]) (rest := []) ⟨hx, hb, hml, hown, hts⟩ (c_X10_count (inj_le (by decide) hi) 3 _ _ hv H.size) (cwV 1 (fun w h => hts w (iv_X10_count_48 w h)) gv_X10_count_48 rfl rfl rfl (by decide +kernel) ⟨(Nat.le_of_ble_eq_true rfl), (Nat.le_of_ble_eq_true rfl)⟩) ⟨pre_blind, r_recv hK.1 (wd_cls (by decide) hP) 0 (by decide) (ceGR_0 (s2 0)) rfl, pre_of (wd_cls (by decide) hP) hK⟩ rfl rfl hl.1 rfl (lv_room (Nat.le_of_ble_eq_true rfl)) dL_law_370 ⟨Nat.le_trans (by omega : _ ≤ 300) (Nat.le_of_ble_eq_true rfl), Nat.le_trans (by omega : _ ≤ 3000) (Nat.le_of_ble_eq_true rfl)⟩) (fun r3 s3 H locs hv hP hS => ?_)
    have hD := wd_Dg (A := La s) (cel := celL ad cA) (σ := s3) hi hda
    refine lv_istore (lv' := [(6, .int r3), (5, .int r2), (0, .ref b), (1, .ref (ad 0)), (2, .ref (ad 81)), (3, .int x3), (4, .int x4)]) hx hb dL_law_373 hl (by decide) rfl (fun ls hl => ?_)
    refine lv_aload_n hx hb dL_law_375 rfl (lv_at hl 3 rfl) ?_
    refine lv_iconst (v := 4) hx hb dL_law_376 (by decide) ?_
    refine r_lci hi hP hS (aa_A (by decide) hda hA2 hS) (va_runV (As := [.int 4]) (rest := []) ⟨hx, hb, hml, hown, hts⟩ (c_X10_count (inj_le (by decide) hi) 4 _ _ hv H.size) (cwV 1 (fun w h => hts w (iv_X10_count_48 w h)) gv_X10_count_48 rfl rfl rfl (by decide +kernel) ⟨(Nat.le_of_ble_eq_true rfl), (Nat.le_of_ble_eq_true rfl)⟩) ⟨pre_blind, r_recv hK.1 (wd_cls (by decide) hP) 0 (by decide) (ceGR_0 (s3 0)) rfl, pre_of (wd_cls (by decide) hP) hK⟩ rfl rfl hl.1 rfl (lv_room (Nat.le_of_ble_eq_true rfl)) dL_law_377 ⟨Nat.le_trans (by omega : _ ≤ 300) (Nat.le_of_ble_eq_true rfl), Nat.le_trans (by omega : _ ≤ 3000) (Nat.le_of_ble_eq_true rfl)⟩) (fun r4 s4 H locs hv hP hS => ?_)
    have hD := wd_Dg (A := La s) (cel := celL ad cA) (σ := s4) hi hda
    refine lv_istore (lv' := [(7, .int r4), (6, .int r3), (5, .int r2), (0, .ref b), (1, .ref (ad 0)), (2, .ref (ad 81)), (3, .int x3), (4, .int x4)]) hx hb dL_law_380 hl (by decide) rfl (fun ls hl => ?_)
    refine lv_aload_n hx hb dL_law_382 rfl (lv_at hl 4 rfl) ?_
    refine lv_iconst (v := 5) hx hb dL_law_383 (by decide) ?_
    refine r_lci hi hP hS (aa_A (by decide) hda hA2 hS) (va_runV (As := [.int 5]) (rest := []) ⟨hx, hb, hml, hown, hts⟩ (c_X10_count (inj_le (by decide) hi) 5 _ _ hv H.size) (cwV 1 (fun w h => hts w (iv_X10_count_48 w h)) gv_X10_count_48 rfl rfl rfl (by decide +kernel) ⟨(Nat.le_of_ble_eq_true rfl), (Nat.le_of_ble_eq_true rfl)⟩) ⟨pre_blind, r_recv hK.1 (wd_cls (by decide) hP) 0 (by decide) (ceGR_0 (s4 0)) rfl, pre_of (wd_cls (by decide) hP) hK⟩ rfl rfl hl.1 rfl (lv_room (Nat.le_of_ble_eq_true rfl)) dL_law_384 ⟨Nat.le_trans (by omega : _ ≤ 300) (Nat.le_of_ble_eq_true rfl), Nat.le_trans (by omega : _ ≤ 3000) (Nat.le_of_ble_eq_true rfl)⟩) (fun r5 s5 H locs hv hP hS => ?_)
    have hD := wd_Dg (A := La s) (cel := celL ad cA) (σ := s5) hi hda
    refine lv_istore (lv' := [(8, .int r5), (7, .int r4), (6, .int r3), (5, .int r2), (0, .ref b), (1, .ref (ad 0)), (2, .ref (ad 81)), (3, .int x3), (4, .int x4)]) hx hb dL_law_387 hl (by decide) rfl (fun ls hl => ?_)
    refine lv_iconst (v := 0) hx hb dL_law_389 (by decide) ?_
    refine lv_istore (lv' := [(9, .int 0), (8, .int r5), (7, .int r4), (6, .int r3), (5, .int r2), (0, .ref b), (1, .ref (ad 0)), (2, .ref (ad 81)), (3, .int x3), (4, .int x4)]) hx hb dL_law_390 hl (by decide) rfl (fun ls hl => ?_)
    refine lv_iconst (v := 0) hx hb dL_law_392 (by decide) ?_
    refine lv_istore (lv' := [(10, .int 0), (9, .int 0), (8, .int r5), (7, .int r4), (6, .int r3), (5, .int r2), (0, .ref b), (1, .ref (ad 0)), (2, .ref (ad 81)), (3, .int x3), (4, .int x4)]) hx hb dL_law_393 hl (by decide) rfl (fun ls hl => ?_)
    refine lv_bipush (v := 7) hx hb dL_law_395 (by decide) ?_
    refine r_newL hx hb (hts _ mw_109) hK.1 hP hD hS hA2 (by decide) (Nat.le_trans (by omega : _ ≤ 300) (Nat.le_of_ble_eq_true rfl)) (Nat.le_trans (by omega : _ ≤ 3000) (Nat.le_of_ble_eq_true rfl)) dL_law_397 (fun q H hP hi hda hS => ?_)
    have hl : lv_has ls 32 [(10, .int 0), (9, .int 0), (8, .int r5), (7, .int r4), (6, .int r3), (5, .int r2), (0, .ref b), (1, .ref (ua ad 82 q 0)), (2, .ref (ua ad 82 q 81)), (3, .int x3), (4, .int x4)] := hl
    generalize ua ad 82 q = ad at hP hi hda hl ⊢
    have hv := hv _ rfl
    generalize us s5 82 zq = s6 at hv hP
    have hD := wd_Dg (A := La s) (cel := celL ad cA) (σ := s6) hi hda
    refine lv_astore (lv' := [(11, .ref (ad 82)), (10, .int 0), (9, .int 0), (8, .int r5), (7, .int r4), (6, .int r3), (5, .int r2), (0, .ref b), (1, .ref (ad 0)), (2, .ref (ad 81)), (3, .int x3), (4, .int x4)]) hx hb dL_law_399 hl (by decide) rfl (fun ls hl => ?_)
    refine lv_bipush (v := 7) hx hb dL_law_401 (by decide) ?_
    refine r_newL hx hb (hts _ mw_109) hK.1 hP hD hS hA2 (by decide) (Nat.le_trans (by omega : _ ≤ 300) (Nat.le_of_ble_eq_true rfl)) (Nat.le_trans (by omega : _ ≤ 3000) (Nat.le_of_ble_eq_true rfl)) dL_law_403 (fun q H hP hi hda hS => ?_)
    have hl : lv_has ls 32 [(11, .ref (ua ad 83 q 82)), (10, .int 0), (9, .int 0), (8, .int r5), (7, .int r4), (6, .int r3), (5, .int r2), (0, .ref b), (1, .ref (ua ad 83 q 0)), (2, .ref (ua ad 83 q 81)), (3, .int x3), (4, .int x4)] := hl
    generalize ua ad 83 q = ad at hP hi hda hl ⊢
    have hv := hv _ rfl
    generalize us s6 83 zq = s7 at hv hP
    have hD := wd_Dg (A := La s) (cel := celL ad cA) (σ := s7) hi hda
    refine lv_astore (lv' := [(12, .ref (ad 83)), (11, .ref (ad 82)), (10, .int 0), (9, .int 0), (8, .int r5), (7, .int r4), (6, .int r3), (5, .int r2), (0, .ref b), (1, .ref (ad 0)), (2, .ref (ad 81)), (3, .int x3), (4, .int x4)]) hx hb dL_law_405 hl (by decide) rfl (fun ls hl => ?_)
    refine lv_iconst (v := 0) hx hb dL_law_407 (by decide) ?_
    refine lv_istore (lv' := [(13, .int 0), (12, .ref (ad 83)), (11, .ref (ad 82)), (10, .int 0), (9, .int 0), (8, .int r5), (7, .int r4), (6, .int r3), (5, .int r2), (0, .ref b), (1, .ref (ad 0)), (2, .ref (ad 81)), (3, .int x3), (4, .int x4)]) hx hb dL_law_408 hl (by decide) rfl (fun ls hl => ?_)
    refine W.widen (k := 210) (n := 2100) (by omega) (by omega) ?_
    exact hY 410 [x3, x4, r2, r3, r4, r5, 0, 0, 0] [] s7 hv _ _ _ _ _ rfl ad H locs ls hi hda hP hS (lv_sub hl [9, 10, 11, 12, 13, 8, 7, 6, 5, 4, 3, 2, 1, 0] rfl)
  · have hv := hv.2 c356
    refine lv_iconst (v := 0) hx hb dL_law_359 (by decide) ?_
    exact hv.elim
set_option maxHeartbeats 8000000 in
set_option maxRecDepth 100000 in
theorem w_L_law_410 {p : Program} {l : Launch} {e : Env} {s : State} {m : MethodId} {below : List Frame} {meth : Method} {c : Code} {dC : Nat → ClassId} {dI : Nat → Nat → Nat} {cA cZ : ClassId} {b L : Nat} {xs : Nat → Int32} (C0 : LC p s m meth c b L xs dC dI cA cZ) (Y : Nat → List Int32 → List Int64 → St → Prop) (hY : ∀ P xs ys σ, Y P xs ys σ → XW p l e s m below meth c b dC dI cA P xs ys σ) (x3 : Int32) (x4 : Int32) (x5 : Int32) (x6 : Int32) (x7 : Int32) (x8 : Int32) (x9 : Int32) (x10 : Int32) (x13 : Int32) (s0 : St) (hv : B_L_law_410 L xs Y x3 x4 x5 x6 x7 x8 x9 x10 x13 s0) {ad : Nat → Nat} (hi : Inj 84 ad) (hda : ∀ k, k < 84 → La s (ad k)) {H : Heap} {locs : List Loc} {ls : Array Slot} (hP : va_P (dC, dI) vwCl (wd 84 ad (celL ad cA) s0) H) (hS : va_S (La s) s.heap H locs) (hl : lv_has ls 32 [(0, .ref b), (1, .ref (ad 0)), (2, .ref (ad 81)), (3, .int x3), (4, .int x4), (5, .int x5), (6, .int x6), (7, .int x7), (8, .int x8), (9, .int x9), (10, .int x10), (11, .ref (ad 82)), (12, .ref (ad 83)), (13, .int x13)]) : W p l e room_1 s m #[Value.ref b] below meth c H locs (210) (2100) (lw_Z below #[Value.ref b] s) (F0 m 410 ls []) := by
  obtain ⟨⟨hx, hb, hml, hown, hts, hr, hlocks⟩, hX, hbl, hK⟩ := C0
  have hbA : ¬ La s b := Nat.not_le.mpr hbl
  have hA2 : ∀ q, s.heap.size ≤ q → La s q := fun _ h => h
  have hD := wd_Dg (A := La s) (cel := celL ad cA) (σ := s0) hi hda
  unfold B_L_law_410 at hv
  refine lv_iload hx hb dL_law_410 (lv_at hl 13 rfl) ?_
  refine lv_iload hx hb dL_law_412 (lv_at hl 4 rfl) ?_
  refine lv_icmp_ge (tgt := 435) hx hb dL_law_414 (by decide) (fun c414 => ?_) (fun c414 => ?_)
  · have hv := hv.1 c414
    refine lv_iconst (v := 1) hx hb dL_law_435 (by decide) ?_
    refine lv_aload_n hx hb dL_law_436 rfl (lv_at hl 0 rfl) ?_
    refine lv_bipush (v := 16) hx hb dL_law_437 (by decide) ?_
    refine r_hci hS (aa_A (Nat.le_refl _) hda hA2 hS) (va_runS (As := [.ref b, .int 16]) (rest := [.int 1]) ⟨hx, hb, hml, hown, hts⟩ (c_L_cell (b := b) (L := L) (xs := xs) hi (by decide) (fun k hk e => hbA (e ▸ hda k hk)) 16 _ _ hv H.size (Nat.lt_of_lt_of_le hbl hS.1)) (va_cwS 2 (fun w h => hts w (iv_L_cell_9 w h)) gv_L_cell_9 rfl rfl rfl (by decide +kernel) ⟨(Nat.le_of_ble_eq_true rfl), (Nat.le_of_ble_eq_true rfl)⟩) ⟨preL_blind, preL_of hP hK (hX.kept (hS.2.1 b hbl hbA))⟩ rfl rfl hl.1 rfl (lv_room (Nat.le_of_ble_eq_true rfl)) dL_law_439 ⟨Nat.le_trans (by omega : _ ≤ 300) (Nat.le_of_ble_eq_true rfl), Nat.le_trans (by omega : _ ≤ 3000) (Nat.le_of_ble_eq_true rfl)⟩) (fun r1 s1 H locs hv hP hS => ?_)
    have hD := wd_Dg (A := La s) (cel := celL ad cA) (σ := s1) hi hda
    refine lv_bipush (v := 30) hx hb dL_law_442 (by decide) ?_
    refine r_hci hS (aa_A (Nat.le_refl _) hda hA2 hS) (va_runS (As := [.int r1, .int 30]) (rest := [.int 1]) ⟨hx, hb, hml, hown, hts⟩ (c_L_up (b := b) (L := L) (xs := xs) hi (by decide) (fun k hk e => hbA (e ▸ hda k hk)) r1 30 _ _ hv H.size (Nat.lt_of_lt_of_le hbl hS.1)) (va_cwS 2 (fun w h => hts w (iv_L_up_15 w h)) gv_L_up_15 rfl rfl rfl (by decide +kernel) ⟨(Nat.le_of_ble_eq_true rfl), (Nat.le_of_ble_eq_true rfl)⟩) ⟨preL_blind, preL_of hP hK (hX.kept (hS.2.1 b hbl hbA))⟩ rfl rfl hl.1 rfl (lv_room (Nat.le_of_ble_eq_true rfl)) dL_law_444 ⟨Nat.le_trans (by omega : _ ≤ 300) (Nat.le_of_ble_eq_true rfl), Nat.le_trans (by omega : _ ≤ 3000) (Nat.le_of_ble_eq_true rfl)⟩) (fun r2 s2 H locs hv hP hS => ?_)
    have hD := wd_Dg (A := La s) (cel := celL ad cA) (σ := s2) hi hda
    refine lv_iadd hx hb dL_law_447 ?_
    refine lv_istore (lv' := [(13, .int (1 + r2)), (0, .ref b), (1, .ref (ad 0)), (2, .ref (ad 81)), (3, .int x3), (4, .int x4), (5, .int x5), (6, .int x6), (7, .int x7), (8, .int x8), (9, .int x9), (10, .int x10), (11, .ref (ad 82)), (12, .ref (ad 83))]) hx hb dL_law_448 hl (by decide) rfl (fun ls hl => ?_)
    refine lv_bipush (v := 7) hx hb dL_law_450 (by decide) ?_
    refine r_newL hx hb (hts _ mw_109) hK.1 hP hD hS hA2 (by decide) (Nat.le_trans (by omega : _ ≤ 300) (Nat.le_of_ble_eq_true rfl)) (Nat.le_trans (by omega : _ ≤ 3000) (Nat.le_of_ble_eq_true rfl)) dL_law_452 (fun q H hP hi hda hS => ?_)
    have hl : lv_has ls 32 [(13, .int (1 + r2)), (0, .ref b), (1, .ref (ua ad 84 q 0)), (2, .ref (ua ad 84 q 81)), (3, .int x3), (4, .int x4), (5, .int x5), (6, .int x6), (7, .int x7), (8, .int x8), (9, .int x9), (10, .int x10), (11, .ref (ua ad 84 q 82)), (12, .ref (ua ad 84 q 83))] := hl
    generalize ua ad 84 q = ad at hP hi hda hl ⊢
    have hv := hv _ rfl
    generalize us s2 84 zq = s3 at hv hP
    have hD := wd_Dg (A := La s) (cel := celL ad cA) (σ := s3) hi hda
    refine lv_astore (lv' := [(14, .ref (ad 84)), (13, .int (1 + r2)), (0, .ref b), (1, .ref (ad 0)), (2, .ref (ad 81)), (3, .int x3), (4, .int x4), (5, .int x5), (6, .int x6), (7, .int x7), (8, .int x8), (9, .int x9), (10, .int x10), (11, .ref (ad 82)), (12, .ref (ad 83))]) hx hb dL_law_454 hl (by decide) rfl (fun ls hl => ?_)
    refine lv_iconst (v := 0) hx hb dL_law_456 (by decide) ?_
    refine lv_istore (lv' := [(15, .int 0), (14, .ref (ad 84)), (13, .int (1 + r2)), (0, .ref b), (1, .ref (ad 0)), (2, .ref (ad 81)), (3, .int x3), (4, .int x4), (5, .int x5), (6, .int x6), (7, .int x7), (8, .int x8), (9, .int x9), (10, .int x10), (11, .ref (ad 82)), (12, .ref (ad 83))]) hx hb dL_law_457 hl (by decide) rfl (fun ls hl => ?_)
    refine lv_iconst (v := 0) hx hb dL_law_459 (by decide) ?_
    refine lv_istore (lv' := [(16, .int 0), (15, .int 0), (14, .ref (ad 84)), (13, .int (1 + r2)), (0, .ref b), (1, .ref (ad 0)), (2, .ref (ad 81)), (3, .int x3), (4, .int x4), (5, .int x5), (6, .int x6), (7, .int x7), (8, .int x8), (9, .int x9), (10, .int x10), (11, .ref (ad 82)), (12, .ref (ad 83))]) hx hb dL_law_460 hl (by decide) rfl (fun ls hl => ?_)
    refine W.widen (k := 220) (n := 2200) (by omega) (by omega) ?_
    exact hY 462 [x3, x4, x5, x6, x7, x8, x9, x10, 1 + r2, 0, 0] [] s3 hv _ _ _ _ _ rfl ad H locs ls hi hda hP hS (lv_sub hl [4, 5, 6, 7, 8, 9, 10, 11, 12, 13, 14, 15, 16, 3, 2, 1, 0] rfl)
  · have hv := hv.2 c414
    refine lv_iload hx hb dL_law_417 (lv_at hl 9 rfl) ?_
    refine lv_aload_n hx hb dL_law_419 rfl (lv_at hl 1 rfl) ?_
    refine lv_iload hx hb dL_law_420 (lv_at hl 13 rfl) ?_
    refine lv_iconst (v := 3) hx hb dL_law_422 (by decide) ?_
    refine r_lci hi hP hS (aa_A (by decide) hda hA2 hS) (va_runV (As := [.int x13, .int 3]) (rest := [.int x9]) ⟨hx, hb, hml, hown, hts⟩ (c_X10_about (inj_le (by decide) hi) x13 3 _ _ hv H.size) (cwV 2 (fun w h => hts w (iv_X10_about_60 w h)) gv_X10_about_60 rfl rfl rfl (by decide +kernel) ⟨(Nat.le_of_ble_eq_true rfl), (Nat.le_of_ble_eq_true rfl)⟩) ⟨pre_blind, r_recv hK.1 (wd_cls (by decide) hP) 0 (by decide) (ceGR_0 (s0 0)) rfl, pre_of (wd_cls (by decide) hP) hK⟩ rfl rfl hl.1 rfl (lv_room (Nat.le_of_ble_eq_true rfl)) dL_law_423 ⟨Nat.le_trans (by omega : _ ≤ 300) (Nat.le_of_ble_eq_true rfl), Nat.le_trans (by omega : _ ≤ 3000) (Nat.le_of_ble_eq_true rfl)⟩) (fun r4 s4 H locs hv hP hS => ?_)
    have hD := wd_Dg (A := La s) (cel := celL ad cA) (σ := s4) hi hda
    refine lv_iadd hx hb dL_law_426 ?_
    refine lv_istore (lv' := [(9, .int (x9 + r4)), (0, .ref b), (1, .ref (ad 0)), (2, .ref (ad 81)), (3, .int x3), (4, .int x4), (5, .int x5), (6, .int x6), (7, .int x7), (8, .int x8), (10, .int x10), (11, .ref (ad 82)), (12, .ref (ad 83)), (13, .int x13)]) hx hb dL_law_427 hl (by decide) rfl (fun ls hl => ?_)
    refine lv_iinc (v := x13 + 1) (lv' := [(13, .int (x13 + 1)), (9, .int (x9 + r4)), (0, .ref b), (1, .ref (ad 0)), (2, .ref (ad 81)), (3, .int x3), (4, .int x4), (5, .int x5), (6, .int x6), (7, .int x7), (8, .int x8), (10, .int x10), (11, .ref (ad 82)), (12, .ref (ad 83))]) hx hb dL_law_429 hl (k := 13) rfl rfl (by decide) rfl (fun ls hl => ?_)
    refine lv_goto (tgt := 410) hx hb dL_law_432 (by decide) ?_
    exact hY 410 [x3, x4, x5, x6, x7, x8, x9 + r4, x10, x13 + 1] [] s4 hv _ _ _ _ _ rfl ad H locs ls hi hda hP hS (lv_sub hl [2, 3, 4, 5, 6, 7, 8, 9, 10, 1, 11, 12, 13, 0] rfl)
