set_option maxHeartbeats 8000000 in
set_option maxRecDepth 100000 in
theorem w_L_law_1343 {p : Program} {l : Launch} {e : Env} {s : State} {m : MethodId} {below : List Frame} {meth : Method} {c : Code} {dC : Nat → ClassId} {dI : Nat → Nat → Nat} {cA cZ : ClassId} {b L : Nat} {xs : Nat → Int32} (C0 : LC p s m meth c b L xs dC dI cA cZ) (Y : Nat → List Int32 → List Int64 → St → Prop) (hY : ∀ P xs ys σ, Y P xs ys σ → XW p l e s m below meth c b dC dI cA P xs ys σ) (x3 : Int32) (x4 : Int32) (x5 : Int32) (x6 : Int32) (x7 : Int32) (x8 : Int32) (x24 : Int32) (x25 : Int32) (s0 : St) (hv : B_L_law_1343 L xs Y x3 x4 x5 x6 x7 x8 x24 x25 s0) {ad : Nat → Nat} (hi : Inj 85 ad) (hda : ∀ k, k < 85 → La s (ad k)) {H : Heap} {locs : List Loc} {ls : Array Slot} (hP : va_P (dC, dI) vwCl (wd 85 ad (celL ad cA) s0) H) (hS : va_S (La s) s.heap H locs) (hl : lv_has ls 32 [(0, .ref b), (1, .ref (ad 0)), (2, .ref (ad 81)), (3, .int x3), (4, .int x4), (5, .int x5), (6, .int x6), (7, .int x7), (8, .int x8), (11, .ref (ad 82)), (24, .int x24), (25, .int x25)]) : W p l e room_1 s m #[Value.ref b] below meth c H locs (220) (2200) (lw_Z below #[Value.ref b] s) (F0 m 1343 ls []) := by
  obtain ⟨⟨hx, hb, hml, hown, hts, hr, hlocks⟩, hX, hbl, hK⟩ := C0
  have hbA : ¬ La s b := Nat.not_le.mpr hbl
  have hA2 : ∀ q, s.heap.size ≤ q → La s q := fun _ h => h
  have hD := wd_Dg (A := La s) (cel := celL ad cA) (σ := s0) hi hda
  unfold B_L_law_1343 at hv
  refine lv_iload hx hb dL_law_1343 (lv_at hl 11 rfl) ?_
  refine lv_if_lt (tgt := 1372) hx hb dL_law_1345 (by decide) (fun c1345 => ?_) (fun c1345 => ?_)
  · have hv := hv.1 c1345
    exact hY 1372 [x3, x4, x5, x6, x7, x8] [] s0 hv _ _ _ _ _ rfl ad H locs ls hi hda hP hS (lv_sub hl [0, 1, 2, 3, 4, 5, 6, 7, 8, 9] rfl)
  · have hv := hv.2 c1345
    refine lv_aload_n hx hb dL_law_1348 rfl (lv_at hl 1 rfl) ?_
    refine lv_iconst (v := 5) hx hb dL_law_1349 (by decide) ?_
    refine r_lci hi hP hS (aa_A (by decide) hda hA2 hS) (va_runV (As := [.int 5]) (rest := []) ⟨hx, hb, hml, hown, hts⟩ (c_X10_count (inj_le (by decide) hi) 5 _ _ hv H.size) (cwV 1 (fun w h => hts w (iv_X10_count_48 w h)) gv_X10_count_48 rfl rfl rfl (by decide +kernel) ⟨(Nat.le_of_ble_eq_true rfl), (Nat.le_of_ble_eq_true rfl)⟩) ⟨pre_blind, r_recv hK.1 (wd_cls (by decide) hP) 0 (by decide) (ceGR_0 (s0 0)) rfl, pre_of (wd_cls (by decide) hP) hK⟩ rfl rfl hl.1 rfl (lv_room (Nat.le_of_ble_eq_true rfl)) dL_law_1350 ⟨Nat.le_trans (by omega : _ ≤ 300) (Nat.le_of_ble_eq_true rfl), Nat.le_trans (by omega : _ ≤ 3000) (Nat.le_of_ble_eq_true rfl)⟩) (fun r1 s1 H locs hv hP hS => ?_)
    have hD := wd_Dg (A := La s) (cel := celL ad cA) (σ := s1) hi hda
    refine lv_iload hx hb dL_law_1353 (lv_at hl 11 rfl) ?_
    refine r_hci hS (aa_A (Nat.le_refl _) hda hA2 hS) (va_runS (As := [.int x25]) (rest := [.int r1]) ⟨hx, hb, hml, hown, hts⟩ (c_L_bits (b := b) (L := L) (xs := xs) hi (by decide) (fun k hk e => hbA (e ▸ hda k hk)) x25 _ _ hv H.size (Nat.lt_of_lt_of_le hbl hS.1)) (va_cwS 1 (fun w h => hts w (iv_L_bits_84 w h)) gv_L_bits_84 rfl rfl rfl (by decide +kernel) ⟨(Nat.le_of_ble_eq_true rfl), (Nat.le_of_ble_eq_true rfl)⟩) ⟨preL_blind, preL_of hP hK (hX.kept (hS.2.1 b hbl hbA))⟩ rfl rfl hl.1 rfl (lv_room (Nat.le_of_ble_eq_true rfl)) dL_law_1355 ⟨Nat.le_trans (by omega : _ ≤ 300) (Nat.le_of_ble_eq_true rfl), Nat.le_trans (by omega : _ ≤ 3000) (Nat.le_of_ble_eq_true rfl)⟩) (fun r2 s2 H locs hv hP hS => ?_)
    have hD := wd_Dg (A := La s) (cel := celL ad cA) (σ := s2) hi hda
    refine lv_icmp_ne (tgt := 1381) hx hb dL_law_1358 (by decide) (fun c1358 => ?_) (fun c1358 => ?_)
    · have hv := hv.1 c1358
      refine lv_iconst (v := 0) hx hb dL_law_1381 (by decide) ?_
      exact hv.elim
    · have hv := hv.2 c1358
      refine lv_aload_n hx hb dL_law_1361 rfl (lv_at hl 1 rfl) ?_
      refine lv_iload hx hb dL_law_1362 (lv_at hl 10 rfl) ?_
      refine r_lci hi hP hS (aa_A (by decide) hda hA2 hS) (va_runV (As := [.int x24]) (rest := []) ⟨hx, hb, hml, hown, hts⟩ (c_X10_hours (inj_le (by decide) hi) x24 _ _ hv H.size) (cwV 1 (fun w h => hts w (iv_X10_hours_54 w h)) gv_X10_hours_54 rfl rfl rfl (by decide +kernel) ⟨(Nat.le_of_ble_eq_true rfl), (Nat.le_of_ble_eq_true rfl)⟩) ⟨pre_blind, r_recv hK.1 (wd_cls (by decide) hP) 0 (by decide) (ceGR_0 (s2 0)) rfl, pre_of (wd_cls (by decide) hP) hK⟩ rfl rfl hl.1 rfl (lv_room (Nat.le_of_ble_eq_true rfl)) dL_law_1364 ⟨Nat.le_trans (by omega : _ ≤ 300) (Nat.le_of_ble_eq_true rfl), Nat.le_trans (by omega : _ ≤ 3000) (Nat.le_of_ble_eq_true rfl)⟩) (fun r3 s3 H locs hv hP hS => ?_)
      have hD := wd_Dg (A := La s) (cel := celL ad cA) (σ := s3) hi hda
      refine lv_iload hx hb dL_law_1367 (lv_at hl 6 rfl) ?_
      refine lv_icmp_ne (tgt := 1381) hx hb dL_law_1369 (by decide) (fun c1369 => ?_) (fun c1369 => ?_)
      · have hv := hv.1 c1369
        refine lv_iconst (v := 0) hx hb dL_law_1381 (by decide) ?_
        exact hv.elim
      · have hv := hv.2 c1369
        exact hY 1372 [x3, x4, x5, x6, x7, x8] [] s3 hv _ _ _ _ _ rfl ad H locs ls hi hda hP hS (lv_sub hl [0, 1, 2, 3, 4, 5, 6, 7, 8, 9] rfl)
set_option maxHeartbeats 8000000 in
set_option maxRecDepth 100000 in
theorem w_L_law_1372 {p : Program} {l : Launch} {e : Env} {s : State} {m : MethodId} {below : List Frame} {meth : Method} {c : Code} {dC : Nat → ClassId} {dI : Nat → Nat → Nat} {cA cZ : ClassId} {b L : Nat} {xs : Nat → Int32} (C0 : LC p s m meth c b L xs dC dI cA cZ) (Y : Nat → List Int32 → List Int64 → St → Prop) (hY : ∀ P xs ys σ, Y P xs ys σ → XW p l e s m below meth c b dC dI cA P xs ys σ) (x3 : Int32) (x4 : Int32) (x5 : Int32) (x6 : Int32) (x7 : Int32) (x8 : Int32) (s0 : St) (hv : B_L_law_1372 L xs Y x3 x4 x5 x6 x7 x8 s0) {ad : Nat → Nat} (hi : Inj 85 ad) (hda : ∀ k, k < 85 → La s (ad k)) {H : Heap} {locs : List Loc} {ls : Array Slot} (hP : va_P (dC, dI) vwCl (wd 85 ad (celL ad cA) s0) H) (hS : va_S (La s) s.heap H locs) (hl : lv_has ls 32 [(0, .ref b), (1, .ref (ad 0)), (2, .ref (ad 81)), (3, .int x3), (4, .int x4), (5, .int x5), (6, .int x6), (7, .int x7), (8, .int x8), (11, .ref (ad 82))]) : W p l e room_1 s m #[Value.ref b] below meth c H locs (220) (2200) (lw_Z below #[Value.ref b] s) (F0 m 1372 ls []) := by
  obtain ⟨⟨hx, hb, hml, hown, hts, hr, hlocks⟩, hX, hbl, hK⟩ := C0
  have hbA : ¬ La s b := Nat.not_le.mpr hbl
  have hA2 : ∀ q, s.heap.size ≤ q → La s q := fun _ h => h
  have hD := wd_Dg (A := La s) (cel := celL ad cA) (σ := s0) hi hda
  unfold B_L_law_1372 at hv
  refine lv_aload_n hx hb dL_law_1372 rfl (lv_at hl 1 rfl) ?_
  refine lv_iconst (v := 0) hx hb dL_law_1373 (by decide) ?_
  refine r_lci hi hP hS (aa_A (by decide) hda hA2 hS) (va_runV (As := [.int 0]) (rest := []) ⟨hx, hb, hml, hown, hts⟩ (c_X10_from (inj_le (by decide) hi) 0 _ _ hv H.size) (cwV 1 (fun w h => hts w (iv_X10_from_78 w h)) gv_X10_from_78 rfl rfl rfl (by decide +kernel) ⟨(Nat.le_of_ble_eq_true rfl), (Nat.le_of_ble_eq_true rfl)⟩) ⟨pre_blind, r_recv hK.1 (wd_cls (by decide) hP) 0 (by decide) (ceGR_0 (s0 0)) rfl, pre_of (wd_cls (by decide) hP) hK⟩ rfl rfl hl.1 rfl (lv_room (Nat.le_of_ble_eq_true rfl)) dL_law_1374 ⟨Nat.le_trans (by omega : _ ≤ 300) (Nat.le_of_ble_eq_true rfl), Nat.le_trans (by omega : _ ≤ 3000) (Nat.le_of_ble_eq_true rfl)⟩) (fun r1 s1 H locs hv hP hS => ?_)
  have hD := wd_Dg (A := La s) (cel := celL ad cA) (σ := s1) hi hda
  refine lv_iconst (v := 1) hx hb dL_law_1377 (by decide) ?_
  refine lv_icmp_eq (tgt := 1383) hx hb dL_law_1378 (by decide) (fun c1378 => ?_) (fun c1378 => ?_)
  · have hv := hv.1 c1378
    exact hY 1383 [x3, x4, x5, x6, x7, x8] [] s1 hv _ _ _ _ _ rfl ad H locs ls hi hda hP hS (lv_sub hl [0, 1, 2, 3, 4, 5, 6, 7, 8, 9] rfl)
  · have hv := hv.2 c1378
    refine lv_iconst (v := 0) hx hb dL_law_1381 (by decide) ?_
    exact hv.elim
set_option maxHeartbeats 8000000 in
set_option maxRecDepth 100000 in
theorem w_L_law_1383 {p : Program} {l : Launch} {e : Env} {s : State} {m : MethodId} {below : List Frame} {meth : Method} {c : Code} {dC : Nat → ClassId} {dI : Nat → Nat → Nat} {cA cZ : ClassId} {b L : Nat} {xs : Nat → Int32} (C0 : LC p s m meth c b L xs dC dI cA cZ) (Y : Nat → List Int32 → List Int64 → St → Prop) (hY : ∀ P xs ys σ, Y P xs ys σ → XW p l e s m below meth c b dC dI cA P xs ys σ) (x3 : Int32) (x4 : Int32) (x5 : Int32) (x6 : Int32) (x7 : Int32) (x8 : Int32) (s0 : St) (hv : B_L_law_1383 L xs Y x3 x4 x5 x6 x7 x8 s0) {ad : Nat → Nat} (hi : Inj 85 ad) (hda : ∀ k, k < 85 → La s (ad k)) {H : Heap} {locs : List Loc} {ls : Array Slot} (hP : va_P (dC, dI) vwCl (wd 85 ad (celL ad cA) s0) H) (hS : va_S (La s) s.heap H locs) (hl : lv_has ls 32 [(0, .ref b), (1, .ref (ad 0)), (2, .ref (ad 81)), (3, .int x3), (4, .int x4), (5, .int x5), (6, .int x6), (7, .int x7), (8, .int x8), (11, .ref (ad 82))]) : W p l e room_1 s m #[Value.ref b] below meth c H locs (220) (2200) (lw_Z below #[Value.ref b] s) (F0 m 1383 ls []) := by
  obtain ⟨⟨hx, hb, hml, hown, hts, hr, hlocks⟩, hX, hbl, hK⟩ := C0
  have hbA : ¬ La s b := Nat.not_le.mpr hbl
  have hA2 : ∀ q, s.heap.size ≤ q → La s q := fun _ h => h
  have hD := wd_Dg (A := La s) (cel := celL ad cA) (σ := s0) hi hda
  unfold B_L_law_1383 at hv
  refine lv_iload_n hx hb dL_law_1383 rfl (lv_at hl 3 rfl) ?_
  refine lv_if_le (tgt := 1584) hx hb dL_law_1384 (by decide) (fun c1384 => ?_) (fun c1384 => ?_)
  · have hv := hv.1 c1384
    exact hY 1584 [x3, x4, x5, x6, x7, x8] [] s0 hv _ _ _ _ _ rfl ad H locs ls hi hda hP hS (lv_sub hl [0, 1, 2, 3, 4, 5, 6, 7, 8, 9] rfl)
  · have hv := hv.2 c1384
    refine lv_iload_n hx hb dL_law_1387 rfl (lv_at hl 3 rfl) ?_
    refine lv_bipush (v := 7) hx hb dL_law_1388 (by decide) ?_
    refine lv_icmp_ge (tgt := 1584) hx hb dL_law_1390 (by decide) (fun c1390 => ?_) (fun c1390 => ?_)
    · have hv := hv.1 c1390
      exact hY 1584 [x3, x4, x5, x6, x7, x8] [] s0 hv _ _ _ _ _ rfl ad H locs ls hi hda hP hS (lv_sub hl [0, 1, 2, 3, 4, 5, 6, 7, 8, 9] rfl)
    · have hv := hv.2 c1390
      refine lv_aload_n hx hb dL_law_1393 rfl (lv_at hl 0 rfl) ?_
      refine lv_bipush (v := 18) hx hb dL_law_1394 (by decide) ?_
      refine r_hci hS (aa_A (Nat.le_refl _) hda hA2 hS) (va_runS (As := [.ref b, .int 18]) (rest := []) ⟨hx, hb, hml, hown, hts⟩ (c_L_cell (b := b) (L := L) (xs := xs) hi (by decide) (fun k hk e => hbA (e ▸ hda k hk)) 18 _ _ hv H.size (Nat.lt_of_lt_of_le hbl hS.1)) (va_cwS 2 (fun w h => hts w (iv_L_cell_9 w h)) gv_L_cell_9 rfl rfl rfl (by decide +kernel) ⟨(Nat.le_of_ble_eq_true rfl), (Nat.le_of_ble_eq_true rfl)⟩) ⟨preL_blind, preL_of hP hK (hX.kept (hS.2.1 b hbl hbA))⟩ rfl rfl hl.1 rfl (lv_room (Nat.le_of_ble_eq_true rfl)) dL_law_1396 ⟨Nat.le_trans (by omega : _ ≤ 300) (Nat.le_of_ble_eq_true rfl), Nat.le_trans (by omega : _ ≤ 3000) (Nat.le_of_ble_eq_true rfl)⟩) (fun r1 s1 H locs hv hP hS => ?_)
      have hD := wd_Dg (A := La s) (cel := celL ad cA) (σ := s1) hi hda
      refine lv_bipush (v := 6) hx hb dL_law_1399 (by decide) ?_
      refine r_hci hS (aa_A (Nat.le_refl _) hda hA2 hS) (va_runS (As := [.int r1, .int 6]) (rest := []) ⟨hx, hb, hml, hown, hts⟩ (c_L_up (b := b) (L := L) (xs := xs) hi (by decide) (fun k hk e => hbA (e ▸ hda k hk)) r1 6 _ _ hv H.size (Nat.lt_of_lt_of_le hbl hS.1)) (va_cwS 2 (fun w h => hts w (iv_L_up_15 w h)) gv_L_up_15 rfl rfl rfl (by decide +kernel) ⟨(Nat.le_of_ble_eq_true rfl), (Nat.le_of_ble_eq_true rfl)⟩) ⟨preL_blind, preL_of hP hK (hX.kept (hS.2.1 b hbl hbA))⟩ rfl rfl hl.1 rfl (lv_room (Nat.le_of_ble_eq_true rfl)) dL_law_1401 ⟨Nat.le_trans (by omega : _ ≤ 300) (Nat.le_of_ble_eq_true rfl), Nat.le_trans (by omega : _ ≤ 3000) (Nat.le_of_ble_eq_true rfl)⟩) (fun r2 s2 H locs hv hP hS => ?_)
      have hD := wd_Dg (A := La s) (cel := celL ad cA) (σ := s2) hi hda
      refine lv_istore (lv' := [(26, .int r2), (0, .ref b), (1, .ref (ad 0)), (2, .ref (ad 81)), (3, .int x3), (4, .int x4), (5, .int x5), (6, .int x6), (7, .int x7), (8, .int x8), (11, .ref (ad 82))]) hx hb dL_law_1404 hl (by decide) rfl (fun ls hl => ?_)
      refine lv_aload_n hx hb dL_law_1406 rfl (lv_at hl 1 rfl) ?_
      refine lv_bipush (v := 19) hx hb dL_law_1407 (by decide) ?_
      refine r_hci hS (aa_A (Nat.le_refl _) hda hA2 hS) (va_runS (As := [.ref b, .int 19]) (rest := []) ⟨hx, hb, hml, hown, hts⟩ (c_L_cell (b := b) (L := L) (xs := xs) hi (by decide) (fun k hk e => hbA (e ▸ hda k hk)) 19 _ _ hv H.size (Nat.lt_of_lt_of_le hbl hS.1)) (va_cwS 2 (fun w h => hts w (iv_L_cell_9 w h)) gv_L_cell_9 rfl rfl rfl (by decide +kernel) ⟨(Nat.le_of_ble_eq_true rfl), (Nat.le_of_ble_eq_true rfl)⟩) ⟨preL_blind, preL_of hP hK (hX.kept (hS.2.1 b hbl hbA))⟩ rfl rfl hl.1 rfl (lv_room (Nat.le_of_ble_eq_true rfl)) dL_law_1409 ⟨Nat.le_trans (by omega : _ ≤ 300) (Nat.le_of_ble_eq_true rfl), Nat.le_trans (by omega : _ ≤ 3000) (Nat.le_of_ble_eq_true rfl)⟩) (fun r3 s3 H locs hv hP hS => ?_)
      have hD := wd_Dg (A := La s) (cel := celL ad cA) (σ := s3) hi hda
      refine lv_iload_n hx hb dL_law_1412 rfl (lv_at hl 4 rfl) ?_
      refine r_hci hS (aa_A (Nat.le_refl _) hda hA2 hS) (va_runS (As := [.int r3, .int x3]) (rest := []) ⟨hx, hb, hml, hown, hts⟩ (c_L_up (b := b) (L := L) (xs := xs) hi (by decide) (fun k hk e => hbA (e ▸ hda k hk)) r3 x3 _ _ hv H.size (Nat.lt_of_lt_of_le hbl hS.1)) (va_cwS 2 (fun w h => hts w (iv_L_up_15 w h)) gv_L_up_15 rfl rfl rfl (by decide +kernel) ⟨(Nat.le_of_ble_eq_true rfl), (Nat.le_of_ble_eq_true rfl)⟩) ⟨preL_blind, preL_of hP hK (hX.kept (hS.2.1 b hbl hbA))⟩ rfl rfl hl.1 rfl (lv_room (Nat.le_of_ble_eq_true rfl)) dL_law_1413 ⟨Nat.le_trans (by omega : _ ≤ 300) (Nat.le_of_ble_eq_true rfl), Nat.le_trans (by omega : _ ≤ 3000) (Nat.le_of_ble_eq_true rfl)⟩) (fun r4 s4 H locs hv hP hS => ?_)
      have hD := wd_Dg (A := La s) (cel := celL ad cA) (σ := s4) hi hda
      refine lv_istore (lv' := [(27, .int r4), (26, .int r2), (0, .ref b), (1, .ref (ad 0)), (2, .ref (ad 81)), (3, .int x3), (4, .int x4), (5, .int x5), (6, .int x6), (7, .int x7), (8, .int x8), (11, .ref (ad 82))]) hx hb dL_law_1416 hl (by decide) rfl (fun ls hl => ?_)
      refine lv_iconst (v := 1) hx hb dL_law_1418 (by decide) ?_
      refine lv_aload_n hx hb dL_law_1419 rfl (lv_at hl 2 rfl) ?_
      refine lv_bipush (v := 20) hx hb dL_law_1420 (by decide) ?_
      refine r_hci hS (aa_A (Nat.le_refl _) hda hA2 hS) (va_runS (As := [.ref b, .int 20]) (rest := [.int 1]) ⟨hx, hb, hml, hown, hts⟩ (c_L_cell (b := b) (L := L) (xs := xs) hi (by decide) (fun k hk e => hbA (e ▸ hda k hk)) 20 _ _ hv H.size (Nat.lt_of_lt_of_le hbl hS.1)) (va_cwS 2 (fun w h => hts w (iv_L_cell_9 w h)) gv_L_cell_9 rfl rfl rfl (by decide +kernel) ⟨(Nat.le_of_ble_eq_true rfl), (Nat.le_of_ble_eq_true rfl)⟩) ⟨preL_blind, preL_of hP hK (hX.kept (hS.2.1 b hbl hbA))⟩ rfl rfl hl.1 rfl (lv_room (Nat.le_of_ble_eq_true rfl)) dL_law_1422 ⟨Nat.le_trans (by omega : _ ≤ 300) (Nat.le_of_ble_eq_true rfl), Nat.le_trans (by omega : _ ≤ 3000) (Nat.le_of_ble_eq_true rfl)⟩) (fun r5 s5 H locs hv hP hS => ?_)
      have hD := wd_Dg (A := La s) (cel := celL ad cA) (σ := s5) hi hda
      refine lv_bipush (v := 20) hx hb dL_law_1425 (by decide) ?_
      refine r_hci hS (aa_A (Nat.le_refl _) hda hA2 hS) (va_runS (As := [.int r5, .int 20]) (rest := [.int 1]) ⟨hx, hb, hml, hown, hts⟩ (c_L_up (b := b) (L := L) (xs := xs) hi (by decide) (fun k hk e => hbA (e ▸ hda k hk)) r5 20 _ _ hv H.size (Nat.lt_of_lt_of_le hbl hS.1)) (va_cwS 2 (fun w h => hts w (iv_L_up_15 w h)) gv_L_up_15 rfl rfl rfl (by decide +kernel) ⟨(Nat.le_of_ble_eq_true rfl), (Nat.le_of_ble_eq_true rfl)⟩) ⟨preL_blind, preL_of hP hK (hX.kept (hS.2.1 b hbl hbA))⟩ rfl rfl hl.1 rfl (lv_room (Nat.le_of_ble_eq_true rfl)) dL_law_1427 ⟨Nat.le_trans (by omega : _ ≤ 300) (Nat.le_of_ble_eq_true rfl), Nat.le_trans (by omega : _ ≤ 3000) (Nat.le_of_ble_eq_true rfl)⟩) (fun r6 s6 H locs hv hP hS => ?_)
      have hD := wd_Dg (A := La s) (cel := celL ad cA) (σ := s6) hi hda
      refine lv_iadd hx hb dL_law_1430 ?_
      refine lv_istore (lv' := [(28, .int (1 + r6)), (27, .int r4), (26, .int r2), (0, .ref b), (1, .ref (ad 0)), (2, .ref (ad 81)), (3, .int x3), (4, .int x4), (5, .int x5), (6, .int x6), (7, .int x7), (8, .int x8), (11, .ref (ad 82))]) hx hb dL_law_1431 hl (by decide) rfl (fun ls hl => ?_)
      refine lv_aload_n hx hb dL_law_1433 rfl (lv_at hl 4 rfl) ?_
      refine lv_iload hx hb dL_law_1434 (lv_at hl 2 rfl) ?_
      refine lv_iload hx hb dL_law_1436 (lv_at hl 1 rfl) ?_
      refine lv_iload hx hb dL_law_1438 (lv_at hl 0 rfl) ?_
      refine r_lci hi hP hS (aa_A (by decide) hda hA2 hS) (va_runV (As := [.int r2, .int r4, .int (1 + r6)]) (rest := []) ⟨hx, hb, hml, hown, hts⟩ (c_X10_drop (inj_le (by decide) hi) r2 r4 (1 + r6) _ _ hv H.size) (cwV 3 (fun w h => hts w (iv_X10_drop_87 w h)) gv_X10_drop_87 rfl rfl rfl (by decide +kernel) ⟨(Nat.le_of_ble_eq_true rfl), (Nat.le_of_ble_eq_true rfl)⟩) ⟨pre_blind, r_recv hK.1 (wd_cls (by decide) hP) 0 (by decide) (ceGR_0 (s6 0)) rfl, pre_of (wd_cls (by decide) hP) hK⟩ rfl rfl hl.1 rfl (lv_room (Nat.le_of_ble_eq_true rfl)) dL_law_1440 ⟨Nat.le_trans (by omega : _ ≤ 300) (Nat.le_of_ble_eq_true rfl), Nat.le_trans (by omega : _ ≤ 3000) (Nat.le_of_ble_eq_true rfl)⟩) (fun r7 s7 H locs hv hP hS => ?_)
      have hD := wd_Dg (A := La s) (cel := celL ad cA) (σ := s7) hi hda
      refine lv_istore (lv' := [(29, .int r7), (28, .int (1 + r6)), (27, .int r4), (26, .int r2), (0, .ref b), (1, .ref (ad 0)), (2, .ref (ad 81)), (3, .int x3), (4, .int x4), (5, .int x5), (6, .int x6), (7, .int x7), (8, .int x8), (11, .ref (ad 82))]) hx hb dL_law_1443 hl (by decide) rfl (fun ls hl => ?_)
      refine lv_aload_n hx hb dL_law_1445 rfl (lv_at hl 4 rfl) ?_
      refine lv_bipush (v := 21) hx hb dL_law_1446 (by decide) ?_
      refine r_hci hS (aa_A (Nat.le_refl _) hda hA2 hS) (va_runS (As := [.ref b, .int 21]) (rest := []) ⟨hx, hb, hml, hown, hts⟩ (c_L_cell (b := b) (L := L) (xs := xs) hi (by decide) (fun k hk e => hbA (e ▸ hda k hk)) 21 _ _ hv H.size (Nat.lt_of_lt_of_le hbl hS.1)) (va_cwS 2 (fun w h => hts w (iv_L_cell_9 w h)) gv_L_cell_9 rfl rfl rfl (by decide +kernel) ⟨(Nat.le_of_ble_eq_true rfl), (Nat.le_of_ble_eq_true rfl)⟩) ⟨preL_blind, preL_of hP hK (hX.kept (hS.2.1 b hbl hbA))⟩ rfl rfl hl.1 rfl (lv_room (Nat.le_of_ble_eq_true rfl)) dL_law_1448 ⟨Nat.le_trans (by omega : _ ≤ 300) (Nat.le_of_ble_eq_true rfl), Nat.le_trans (by omega : _ ≤ 3000) (Nat.le_of_ble_eq_true rfl)⟩) (fun r8 s8 H locs hv hP hS => ?_)
      have hD := wd_Dg (A := La s) (cel := celL ad cA) (σ := s8) hi hda
      refine lv_bipush (v := 23) hx hb dL_law_1451 (by decide) ?_
      refine r_hci hS (aa_A (Nat.le_refl _) hda hA2 hS) (va_runS (As := [.int r8, .int 23]) (rest := []) ⟨hx, hb, hml, hown, hts⟩ (c_L_up (b := b) (L := L) (xs := xs) hi (by decide) (fun k hk e => hbA (e ▸ hda k hk)) r8 23 _ _ hv H.size (Nat.lt_of_lt_of_le hbl hS.1)) (va_cwS 2 (fun w h => hts w (iv_L_up_15 w h)) gv_L_up_15 rfl rfl rfl (by decide +kernel) ⟨(Nat.le_of_ble_eq_true rfl), (Nat.le_of_ble_eq_true rfl)⟩) ⟨preL_blind, preL_of hP hK (hX.kept (hS.2.1 b hbl hbA))⟩ rfl rfl hl.1 rfl (lv_room (Nat.le_of_ble_eq_true rfl)) dL_law_1453 ⟨Nat.le_trans (by omega : _ ≤ 300) (Nat.le_of_ble_eq_true rfl), Nat.le_trans (by omega : _ ≤ 3000) (Nat.le_of_ble_eq_true rfl)⟩) (fun r9 s9 H locs hv hP hS => ?_)
      have hD := wd_Dg (A := La s) (cel := celL ad cA) (σ := s9) hi hda
      refine lv_istore (lv' := [(30, .int r9), (29, .int r7), (28, .int (1 + r6)), (27, .int r4), (26, .int r2), (0, .ref b), (1, .ref (ad 0)), (2, .ref (ad 81)), (3, .int x3), (4, .int x4), (5, .int x5), (6, .int x6), (7, .int x7), (8, .int x8), (11, .ref (ad 82))]) hx hb dL_law_1456 hl (by decide) rfl (fun ls hl => ?_)
      refine lv_iconst (v := 0) hx hb dL_law_1458 (by decide) ?_
      refine lv_istore (lv' := [(31, .int 0), (30, .int r9), (29, .int r7), (28, .int (1 + r6)), (27, .int r4), (26, .int r2), (0, .ref b), (1, .ref (ad 0)), (2, .ref (ad 81)), (3, .int x3), (4, .int x4), (5, .int x5), (6, .int x6), (7, .int x7), (8, .int x8), (11, .ref (ad 82))]) hx hb dL_law_1459 hl (by decide) rfl (fun ls hl => ?_)
      exact hY 1461 [x3, x4, x5, x6, x7, x8, r2, r4, 1 + r6, r7, r9, 0] [] s9 hv _ _ _ _ _ rfl ad H locs ls hi hda hP hS (lv_sub hl [6, 7, 8, 9, 10, 11, 12, 13, 14, 15, 5, 4, 3, 2, 1, 0] rfl)
set_option maxHeartbeats 8000000 in
set_option maxRecDepth 100000 in
theorem w_L_law_1461 {p : Program} {l : Launch} {e : Env} {s : State} {m : MethodId} {below : List Frame} {meth : Method} {c : Code} {dC : Nat → ClassId} {dI : Nat → Nat → Nat} {cA cZ : ClassId} {b L : Nat} {xs : Nat → Int32} (C0 : LC p s m meth c b L xs dC dI cA cZ) (Y : Nat → List Int32 → List Int64 → St → Prop) (hY : ∀ P xs ys σ, Y P xs ys σ → XW p l e s m below meth c b dC dI cA P xs ys σ) (x3 : Int32) (x4 : Int32) (x5 : Int32) (x6 : Int32) (x7 : Int32) (x8 : Int32) (x26 : Int32) (x27 : Int32) (x28 : Int32) (x29 : Int32) (x30 : Int32) (x31 : Int32) (s0 : St) (hv : B_L_law_1461 L xs Y x3 x4 x5 x6 x7 x8 x26 x27 x28 x29 x30 x31 s0) {ad : Nat → Nat} (hi : Inj 85 ad) (hda : ∀ k, k < 85 → La s (ad k)) {H : Heap} {locs : List Loc} {ls : Array Slot} (hP : va_P (dC, dI) vwCl (wd 85 ad (celL ad cA) s0) H) (hS : va_S (La s) s.heap H locs) (hl : lv_has ls 32 [(0, .ref b), (1, .ref (ad 0)), (2, .ref (ad 81)), (3, .int x3), (4, .int x4), (5, .int x5), (6, .int x6), (7, .int x7), (8, .int x8), (11, .ref (ad 82)), (26, .int x26), (27, .int x27), (28, .int x28), (29, .int x29), (30, .int x30), (31, .int x31)]) : W p l e room_1 s m #[Value.ref b] below meth c H locs (220) (2200) (lw_Z below #[Value.ref b] s) (F0 m 1461 ls []) := by
  obtain ⟨⟨hx, hb, hml, hown, hts, hr, hlocks⟩, hX, hbl, hK⟩ := C0
  have hbA : ¬ La s b := Nat.not_le.mpr hbl
  have hA2 : ∀ q, s.heap.size ≤ q → La s q := fun _ h => h
  have hD := wd_Dg (A := La s) (cel := celL ad cA) (σ := s0) hi hda
  unfold B_L_law_1461 at hv
  refine lv_iload hx hb dL_law_1461 (lv_at hl 15 rfl) ?_
  refine lv_bipush (v := 23) hx hb dL_law_1463 (by decide) ?_
  refine lv_icmp_ge (tgt := 1506) hx hb dL_law_1465 (by decide) (fun c1465 => ?_) (fun c1465 => ?_)
  · have hv := hv.1 c1465
    exact hY 1506 [x3, x4, x5, x6, x7, x8, x26, x27, x28, x29, x30] [] s0 hv _ _ _ _ _ rfl ad H locs ls hi hda hP hS (lv_sub hl [0, 1, 2, 3, 4, 5, 6, 7, 8, 9, 10, 11, 12, 13, 14] rfl)
  · have hv := hv.2 c1465
    refine lv_aload_n hx hb dL_law_1468 rfl (lv_at hl 0 rfl) ?_
    refine lv_bipush (v := 22) hx hb dL_law_1469 (by decide) ?_
    refine r_hci hS (aa_A (Nat.le_refl _) hda hA2 hS) (va_runS (As := [.ref b, .int 22]) (rest := []) ⟨hx, hb, hml, hown, hts⟩ (c_L_cell (b := b) (L := L) (xs := xs) hi (by decide) (fun k hk e => hbA (e ▸ hda k hk)) 22 _ _ hv H.size (Nat.lt_of_lt_of_le hbl hS.1)) (va_cwS 2 (fun w h => hts w (iv_L_cell_9 w h)) gv_L_cell_9 rfl rfl rfl (by decide +kernel) ⟨(Nat.le_of_ble_eq_true rfl), (Nat.le_of_ble_eq_true rfl)⟩) ⟨preL_blind, preL_of hP hK (hX.kept (hS.2.1 b hbl hbA))⟩ rfl rfl hl.1 rfl (lv_room (Nat.le_of_ble_eq_true rfl)) dL_law_1471 ⟨Nat.le_trans (by omega : _ ≤ 300) (Nat.le_of_ble_eq_true rfl), Nat.le_trans (by omega : _ ≤ 3000) (Nat.le_of_ble_eq_true rfl)⟩) (fun r1 s1 H locs hv hP hS => ?_)
    have hD := wd_Dg (A := La s) (cel := celL ad cA) (σ := s1) hi hda
    refine lv_iconst (v := 3) hx hb dL_law_1474 (by decide) ?_
    refine r_hci hS (aa_A (Nat.le_refl _) hda hA2 hS) (va_runS (As := [.int r1, .int 3]) (rest := []) ⟨hx, hb, hml, hown, hts⟩ (c_L_up (b := b) (L := L) (xs := xs) hi (by decide) (fun k hk e => hbA (e ▸ hda k hk)) r1 3 _ _ hv H.size (Nat.lt_of_lt_of_le hbl hS.1)) (va_cwS 2 (fun w h => hts w (iv_L_up_15 w h)) gv_L_up_15 rfl rfl rfl (by decide +kernel) ⟨(Nat.le_of_ble_eq_true rfl), (Nat.le_of_ble_eq_true rfl)⟩) ⟨preL_blind, preL_of hP hK (hX.kept (hS.2.1 b hbl hbA))⟩ rfl rfl hl.1 rfl (lv_room (Nat.le_of_ble_eq_true rfl)) dL_law_1475 ⟨Nat.le_trans (by omega : _ ≤ 300) (Nat.le_of_ble_eq_true rfl), Nat.le_trans (by omega : _ ≤ 3000) (Nat.le_of_ble_eq_true rfl)⟩) (fun r2 s2 H locs hv hP hS => ?_)
    have hD := wd_Dg (A := La s) (cel := celL ad cA) (σ := s2) hi hda
    refine lv_if_le (tgt := 1506) hx hb dL_law_1478 (by decide) (fun c1478 => ?_) (fun c1478 => ?_)
    · have hv := hv.1 c1478
      exact hY 1506 [x3, x4, x5, x6, x7, x8, x26, x27, x28, x29, x30] [] s2 hv _ _ _ _ _ rfl ad H locs ls hi hda hP hS (lv_sub hl [0, 1, 2, 3, 4, 5, 6, 7, 8, 9, 10, 11, 12, 13, 14] rfl)
    · have hv := hv.2 c1478
      refine lv_iload hx hb dL_law_1481 (lv_at hl 13 rfl) ?_
      refine lv_iload hx hb dL_law_1483 (lv_at hl 14 rfl) ?_
      refine lv_ishr hx hb dL_law_1485 ?_
      refine lv_iconst (v := 1) hx hb dL_law_1486 (by decide) ?_
      refine lv_iand hx hb dL_law_1487 ?_
      refine lv_if_ne (tgt := 1506) hx hb dL_law_1488 (by decide) (fun c1488 => ?_) (fun c1488 => ?_)
      · have hv := hv.1 c1488
        exact hY 1506 [x3, x4, x5, x6, x7, x8, x26, x27, x28, x29, x30] [] s2 hv _ _ _ _ _ rfl ad H locs ls hi hda hP hS (lv_sub hl [0, 1, 2, 3, 4, 5, 6, 7, 8, 9, 10, 11, 12, 13, 14] rfl)
      · have hv := hv.2 c1488
        refine lv_iload hx hb dL_law_1491 (lv_at hl 14 rfl) ?_
        refine lv_iconst (v := 1) hx hb dL_law_1493 (by decide) ?_
        refine lv_iadd hx hb dL_law_1494 ?_
        refine lv_bipush (v := 23) hx hb dL_law_1495 (by decide) ?_
        refine lv_irem hx hb dL_law_1497 (by decide) ?_
        refine lv_topi (fun v3 ev3 => ?_)
        have hv := hv v3 ev3
        refine lv_istore (lv' := [(30, .int v3), (0, .ref b), (1, .ref (ad 0)), (2, .ref (ad 81)), (3, .int x3), (4, .int x4), (5, .int x5), (6, .int x6), (7, .int x7), (8, .int x8), (11, .ref (ad 82)), (26, .int x26), (27, .int x27), (28, .int x28), (29, .int x29), (31, .int x31)]) hx hb dL_law_1498 hl (by decide) rfl (fun ls hl => ?_)
        refine lv_iinc (v := x31 + 1) (lv' := [(31, .int (x31 + 1)), (30, .int v3), (0, .ref b), (1, .ref (ad 0)), (2, .ref (ad 81)), (3, .int x3), (4, .int x4), (5, .int x5), (6, .int x6), (7, .int x7), (8, .int x8), (11, .ref (ad 82)), (26, .int x26), (27, .int x27), (28, .int x28), (29, .int x29)]) hx hb dL_law_1500 hl (k := 15) rfl rfl (by decide) rfl (fun ls hl => ?_)
        refine lv_goto (tgt := 1461) hx hb dL_law_1503 (by decide) ?_
        exact hY 1461 [x3, x4, x5, x6, x7, x8, x26, x27, x28, x29, v3, x31 + 1] [] s2 hv _ _ _ _ _ rfl ad H locs ls hi hda hP hS (lv_sub hl [2, 3, 4, 5, 6, 7, 8, 9, 10, 11, 12, 13, 14, 15, 1, 0] rfl)
set_option maxHeartbeats 8000000 in
set_option maxRecDepth 100000 in
theorem w_L_law_1506 {p : Program} {l : Launch} {e : Env} {s : State} {m : MethodId} {below : List Frame} {meth : Method} {c : Code} {dC : Nat → ClassId} {dI : Nat → Nat → Nat} {cA cZ : ClassId} {b L : Nat} {xs : Nat → Int32} (C0 : LC p s m meth c b L xs dC dI cA cZ) (Y : Nat → List Int32 → List Int64 → St → Prop) (hY : ∀ P xs ys σ, Y P xs ys σ → XW p l e s m below meth c b dC dI cA P xs ys σ) (x3 : Int32) (x4 : Int32) (x5 : Int32) (x6 : Int32) (x7 : Int32) (x8 : Int32) (x26 : Int32) (x27 : Int32) (x28 : Int32) (x29 : Int32) (x30 : Int32) (s0 : St) (hv : B_L_law_1506 L xs Y x3 x4 x5 x6 x7 x8 x26 x27 x28 x29 x30 s0) {ad : Nat → Nat} (hi : Inj 85 ad) (hda : ∀ k, k < 85 → La s (ad k)) {H : Heap} {locs : List Loc} {ls : Array Slot} (hP : va_P (dC, dI) vwCl (wd 85 ad (celL ad cA) s0) H) (hS : va_S (La s) s.heap H locs) (hl : lv_has ls 32 [(0, .ref b), (1, .ref (ad 0)), (2, .ref (ad 81)), (3, .int x3), (4, .int x4), (5, .int x5), (6, .int x6), (7, .int x7), (8, .int x8), (11, .ref (ad 82)), (26, .int x26), (27, .int x27), (28, .int x28), (29, .int x29), (30, .int x30)]) : W p l e room_1 s m #[Value.ref b] below meth c H locs (220) (2200) (lw_Z below #[Value.ref b] s) (F0 m 1506 ls []) := by
  obtain ⟨⟨hx, hb, hml, hown, hts, hr, hlocks⟩, hX, hbl, hK⟩ := C0
  have hbA : ¬ La s b := Nat.not_le.mpr hbl
  have hA2 : ∀ q, s.heap.size ≤ q → La s q := fun _ h => h
  have hD := wd_Dg (A := La s) (cel := celL ad cA) (σ := s0) hi hda
  unfold B_L_law_1506 at hv
  refine lv_iload hx hb dL_law_1506 (lv_at hl 13 rfl) ?_
  refine lv_if_lt (tgt := 1582) hx hb dL_law_1508 (by decide) (fun c1508 => ?_) (fun c1508 => ?_)
  · have hv := hv.1 c1508
    refine lv_iconst (v := 0) hx hb dL_law_1582 (by decide) ?_
    exact hv.elim
  · have hv := hv.2 c1508
    refine lv_iload hx hb dL_law_1511 (lv_at hl 13 rfl) ?_
    refine lv_ldc (v := 8388608) hx hb hown (hts _ mw_770) dL_law_1513 ?_
    refine lv_icmp_ge (tgt := 1582) hx hb dL_law_1515 (by decide) (fun c1515 => ?_) (fun c1515 => ?_)
    · have hv := hv.1 c1515
      refine lv_iconst (v := 0) hx hb dL_law_1582 (by decide) ?_
      exact hv.elim
    · have hv := hv.2 c1515
      refine lv_aload_n hx hb dL_law_1518 rfl (lv_at hl 1 rfl) ?_
      refine lv_iload hx hb dL_law_1519 (lv_at hl 10 rfl) ?_
      refine lv_iconst (v := 1) hx hb dL_law_1521 (by decide) ?_
      refine lv_iload hx hb dL_law_1522 (lv_at hl 14 rfl) ?_
      refine r_lci hi hP hS (aa_A (by decide) hda hA2 hS) (va_runV (As := [.int x26, .int 1, .int x30]) (rest := []) ⟨hx, hb, hml, hown, hts⟩ (c_X10_glove (inj_le (by decide) hi) x26 1 x30 _ _ hv H.size) (cwV 3 (fun w h => hts w (iv_X10_glove_28 w h)) gv_X10_glove_28 rfl rfl rfl (by decide +kernel) ⟨(Nat.le_of_ble_eq_true rfl), (Nat.le_of_ble_eq_true rfl)⟩) ⟨pre_blind, r_recv hK.1 (wd_cls (by decide) hP) 0 (by decide) (ceGR_0 (s0 0)) rfl, pre_of (wd_cls (by decide) hP) hK⟩ rfl rfl hl.1 rfl (lv_room (Nat.le_of_ble_eq_true rfl)) dL_law_1524 ⟨Nat.le_trans (by omega : _ ≤ 300) (Nat.le_of_ble_eq_true rfl), Nat.le_trans (by omega : _ ≤ 3000) (Nat.le_of_ble_eq_true rfl)⟩) (fun r1 s1 H locs hv hP hS => ?_)
      have hD := wd_Dg (A := La s) (cel := celL ad cA) (σ := s1) hi hda
      refine lv_iload_n hx hb dL_law_1527 rfl (lv_at hl 3 rfl) ?_
      refine lv_icmp_ne (tgt := 1582) hx hb dL_law_1528 (by decide) (fun c1528 => ?_) (fun c1528 => ?_)
      · have hv := hv.1 c1528
        refine lv_iconst (v := 0) hx hb dL_law_1582 (by decide) ?_
        exact hv.elim
      · have hv := hv.2 c1528
        refine lv_aload_n hx hb dL_law_1531 rfl (lv_at hl 1 rfl) ?_
        refine lv_iload_n hx hb dL_law_1532 rfl (lv_at hl 3 rfl) ?_
        refine lv_iload hx hb dL_law_1533 (lv_at hl 12 rfl) ?_
        refine r_lci hi hP hS (aa_A (by decide) hda hA2 hS) (va_runV (As := [.int x3, .int x28]) (rest := []) ⟨hx, hb, hml, hown, hts⟩ (c_X10_where (inj_le (by decide) hi) x3 x28 _ _ hv H.size) (cwV 2 (fun w h => hts w (iv_X10_where_66 w h)) gv_X10_where_66 rfl rfl rfl (by decide +kernel) ⟨(Nat.le_of_ble_eq_true rfl), (Nat.le_of_ble_eq_true rfl)⟩) ⟨pre_blind, r_recv hK.1 (wd_cls (by decide) hP) 0 (by decide) (ceGR_0 (s1 0)) rfl, pre_of (wd_cls (by decide) hP) hK⟩ rfl rfl hl.1 rfl (lv_room (Nat.le_of_ble_eq_true rfl)) dL_law_1535 ⟨Nat.le_trans (by omega : _ ≤ 300) (Nat.le_of_ble_eq_true rfl), Nat.le_trans (by omega : _ ≤ 3000) (Nat.le_of_ble_eq_true rfl)⟩) (fun r2 s2 H locs hv hP hS => ?_)
        have hD := wd_Dg (A := La s) (cel := celL ad cA) (σ := s2) hi hda
        refine lv_aload_n hx hb dL_law_1538 rfl (lv_at hl 1 rfl) ?_
        refine lv_iload hx hb dL_law_1539 (lv_at hl 11 rfl) ?_
        refine lv_iload hx hb dL_law_1541 (lv_at hl 12 rfl) ?_
        refine r_lci hi hP hS (aa_A (by decide) hda hA2 hS) (va_runV (As := [.int x27, .int x28]) (rest := [.int r2]) ⟨hx, hb, hml, hown, hts⟩ (c_X10_where (inj_le (by decide) hi) x27 x28 _ _ hv H.size) (cwV 2 (fun w h => hts w (iv_X10_where_66 w h)) gv_X10_where_66 rfl rfl rfl (by decide +kernel) ⟨(Nat.le_of_ble_eq_true rfl), (Nat.le_of_ble_eq_true rfl)⟩) ⟨pre_blind, r_recv hK.1 (wd_cls (by decide) hP) 0 (by decide) (ceGR_0 (s2 0)) rfl, pre_of (wd_cls (by decide) hP) hK⟩ rfl rfl hl.1 rfl (lv_room (Nat.le_of_ble_eq_true rfl)) dL_law_1543 ⟨Nat.le_trans (by omega : _ ≤ 300) (Nat.le_of_ble_eq_true rfl), Nat.le_trans (by omega : _ ≤ 3000) (Nat.le_of_ble_eq_true rfl)⟩) (fun r3 s3 H locs hv hP hS => ?_)
        have hD := wd_Dg (A := La s) (cel := celL ad cA) (σ := s3) hi hda
        refine lv_icmp_ne (tgt := 1553) hx hb dL_law_1546 (by decide) (fun c1546 => ?_) (fun c1546 => ?_)
        · have hv := hv.1 c1546
          refine lv_iconst (v := 0) hx hb dL_law_1553 (by decide) ?_
          exact hY 1554 [x3, x4, x5, x6, x7, x8, x29, x30, 0] [] s3 hv _ _ _ _ _ rfl ad H locs ls hi hda hP hS (lv_sub hl [0, 1, 2, 3, 4, 5, 6, 7, 8, 9, 13, 14] rfl)
        · have hv := hv.2 c1546
          refine lv_iconst (v := 1) hx hb dL_law_1549 (by decide) ?_
          refine lv_goto (tgt := 1554) hx hb dL_law_1550 (by decide) ?_
          exact hY 1554 [x3, x4, x5, x6, x7, x8, x29, x30, 1] [] s3 hv _ _ _ _ _ rfl ad H locs ls hi hda hP hS (lv_sub hl [0, 1, 2, 3, 4, 5, 6, 7, 8, 9, 13, 14] rfl)
set_option maxHeartbeats 8000000 in
set_option maxRecDepth 100000 in
theorem w_L_law_1554 {p : Program} {l : Launch} {e : Env} {s : State} {m : MethodId} {below : List Frame} {meth : Method} {c : Code} {dC : Nat → ClassId} {dI : Nat → Nat → Nat} {cA cZ : ClassId} {b L : Nat} {xs : Nat → Int32} (C0 : LC p s m meth c b L xs dC dI cA cZ) (Y : Nat → List Int32 → List Int64 → St → Prop) (hY : ∀ P xs ys σ, Y P xs ys σ → XW p l e s m below meth c b dC dI cA P xs ys σ) (x3 : Int32) (x4 : Int32) (x5 : Int32) (x6 : Int32) (x7 : Int32) (x8 : Int32) (x29 : Int32) (x30 : Int32) (t0 : Int32) (s0 : St) (hv : B_L_law_1554 L xs Y x3 x4 x5 x6 x7 x8 x29 x30 t0 s0) {ad : Nat → Nat} (hi : Inj 85 ad) (hda : ∀ k, k < 85 → La s (ad k)) {H : Heap} {locs : List Loc} {ls : Array Slot} (hP : va_P (dC, dI) vwCl (wd 85 ad (celL ad cA) s0) H) (hS : va_S (La s) s.heap H locs) (hl : lv_has ls 32 [(0, .ref b), (1, .ref (ad 0)), (2, .ref (ad 81)), (3, .int x3), (4, .int x4), (5, .int x5), (6, .int x6), (7, .int x7), (8, .int x8), (11, .ref (ad 82)), (29, .int x29), (30, .int x30)]) : W p l e room_1 s m #[Value.ref b] below meth c H locs (220) (2200) (lw_Z below #[Value.ref b] s) (F0 m 1554 ls [.int t0]) := by
  obtain ⟨⟨hx, hb, hml, hown, hts, hr, hlocks⟩, hX, hbl, hK⟩ := C0
  have hbA : ¬ La s b := Nat.not_le.mpr hbl
  have hA2 : ∀ q, s.heap.size ≤ q → La s q := fun _ h => h
  have hD := wd_Dg (A := La s) (cel := celL ad cA) (σ := s0) hi hda
  unfold B_L_law_1554 at hv
  refine lv_iload hx hb dL_law_1554 (lv_at hl 10 rfl) ?_
  refine lv_iload hx hb dL_law_1556 (lv_at hl 11 rfl) ?_
  refine lv_ishr hx hb dL_law_1558 ?_
  refine lv_iconst (v := 1) hx hb dL_law_1559 (by decide) ?_
  refine lv_iand hx hb dL_law_1560 ?_
  refine lv_iconst (v := 1) hx hb dL_law_1561 (by decide) ?_
  refine lv_icmp_ne (tgt := 1569) hx hb dL_law_1562 (by decide) (fun c1562 => ?_) (fun c1562 => ?_)
  · have hv := hv.1 c1562
    refine lv_iconst (v := 0) hx hb dL_law_1569 (by decide) ?_
    exact hY 1570 [x3, x4, x5, x6, x7, x8, 0, t0] [] s0 hv _ _ _ _ _ rfl ad H locs ls hi hda hP hS (lv_sub hl [0, 1, 2, 3, 4, 5, 6, 7, 8, 9] rfl)
  · have hv := hv.2 c1562
    refine lv_iconst (v := 1) hx hb dL_law_1565 (by decide) ?_
    refine lv_goto (tgt := 1570) hx hb dL_law_1566 (by decide) ?_
    exact hY 1570 [x3, x4, x5, x6, x7, x8, 1, t0] [] s0 hv _ _ _ _ _ rfl ad H locs ls hi hda hP hS (lv_sub hl [0, 1, 2, 3, 4, 5, 6, 7, 8, 9] rfl)
set_option maxHeartbeats 8000000 in
set_option maxRecDepth 100000 in
theorem w_L_law_1570 {p : Program} {l : Launch} {e : Env} {s : State} {m : MethodId} {below : List Frame} {meth : Method} {c : Code} {dC : Nat → ClassId} {dI : Nat → Nat → Nat} {cA cZ : ClassId} {b L : Nat} {xs : Nat → Int32} (C0 : LC p s m meth c b L xs dC dI cA cZ) (Y : Nat → List Int32 → List Int64 → St → Prop) (hY : ∀ P xs ys σ, Y P xs ys σ → XW p l e s m below meth c b dC dI cA P xs ys σ) (x3 : Int32) (x4 : Int32) (x5 : Int32) (x6 : Int32) (x7 : Int32) (x8 : Int32) (t0 : Int32) (t1 : Int32) (s0 : St) (hv : B_L_law_1570 L xs Y x3 x4 x5 x6 x7 x8 t0 t1 s0) {ad : Nat → Nat} (hi : Inj 85 ad) (hda : ∀ k, k < 85 → La s (ad k)) {H : Heap} {locs : List Loc} {ls : Array Slot} (hP : va_P (dC, dI) vwCl (wd 85 ad (celL ad cA) s0) H) (hS : va_S (La s) s.heap H locs) (hl : lv_has ls 32 [(0, .ref b), (1, .ref (ad 0)), (2, .ref (ad 81)), (3, .int x3), (4, .int x4), (5, .int x5), (6, .int x6), (7, .int x7), (8, .int x8), (11, .ref (ad 82))]) : W p l e room_1 s m #[Value.ref b] below meth c H locs (220) (2200) (lw_Z below #[Value.ref b] s) (F0 m 1570 ls [.int t0, .int t1]) := by
  obtain ⟨⟨hx, hb, hml, hown, hts, hr, hlocks⟩, hX, hbl, hK⟩ := C0
  have hbA : ¬ La s b := Nat.not_le.mpr hbl
  have hA2 : ∀ q, s.heap.size ≤ q → La s q := fun _ h => h
  have hD := wd_Dg (A := La s) (cel := celL ad cA) (σ := s0) hi hda
  unfold B_L_law_1570 at hv
  refine lv_icmp_ne (tgt := 1582) hx hb dL_law_1570 (by decide) (fun c1570 => ?_) (fun c1570 => ?_)
  · have hv := hv.1 c1570
    refine lv_iconst (v := 0) hx hb dL_law_1582 (by decide) ?_
    exact hv.elim
  · have hv := hv.2 c1570
    refine lv_aload_n hx hb dL_law_1573 rfl (lv_at hl 1 rfl) ?_
    refine lv_iconst (v := 0) hx hb dL_law_1574 (by decide) ?_
    refine r_lci hi hP hS (aa_A (by decide) hda hA2 hS) (va_runV (As := [.int 0]) (rest := []) ⟨hx, hb, hml, hown, hts⟩ (c_X10_from (inj_le (by decide) hi) 0 _ _ hv H.size) (cwV 1 (fun w h => hts w (iv_X10_from_78 w h)) gv_X10_from_78 rfl rfl rfl (by decide +kernel) ⟨(Nat.le_of_ble_eq_true rfl), (Nat.le_of_ble_eq_true rfl)⟩) ⟨pre_blind, r_recv hK.1 (wd_cls (by decide) hP) 0 (by decide) (ceGR_0 (s0 0)) rfl, pre_of (wd_cls (by decide) hP) hK⟩ rfl rfl hl.1 rfl (lv_room (Nat.le_of_ble_eq_true rfl)) dL_law_1575 ⟨Nat.le_trans (by omega : _ ≤ 300) (Nat.le_of_ble_eq_true rfl), Nat.le_trans (by omega : _ ≤ 3000) (Nat.le_of_ble_eq_true rfl)⟩) (fun r1 s1 H locs hv hP hS => ?_)
    have hD := wd_Dg (A := La s) (cel := celL ad cA) (σ := s1) hi hda
    refine lv_iconst (v := 1) hx hb dL_law_1578 (by decide) ?_
    refine lv_icmp_eq (tgt := 1584) hx hb dL_law_1579 (by decide) (fun c1579 => ?_) (fun c1579 => ?_)
    · have hv := hv.1 c1579
      exact hY 1584 [x3, x4, x5, x6, x7, x8] [] s1 hv _ _ _ _ _ rfl ad H locs ls hi hda hP hS (lv_sub hl [0, 1, 2, 3, 4, 5, 6, 7, 8, 9] rfl)
    · have hv := hv.2 c1579
      refine lv_iconst (v := 0) hx hb dL_law_1582 (by decide) ?_
      exact hv.elim
set_option maxHeartbeats 8000000 in
set_option maxRecDepth 100000 in
theorem w_L_law_1584 {p : Program} {l : Launch} {e : Env} {s : State} {m : MethodId} {below : List Frame} {meth : Method} {c : Code} {dC : Nat → ClassId} {dI : Nat → Nat → Nat} {cA cZ : ClassId} {b L : Nat} {xs : Nat → Int32} (C0 : LC p s m meth c b L xs dC dI cA cZ) (Y : Nat → List Int32 → List Int64 → St → Prop) (hY : ∀ P xs ys σ, Y P xs ys σ → XW p l e s m below meth c b dC dI cA P xs ys σ) (x3 : Int32) (x4 : Int32) (x5 : Int32) (x6 : Int32) (x7 : Int32) (x8 : Int32) (s0 : St) (hv : B_L_law_1584 L xs Y x3 x4 x5 x6 x7 x8 s0) {ad : Nat → Nat} (hi : Inj 85 ad) (hda : ∀ k, k < 85 → La s (ad k)) {H : Heap} {locs : List Loc} {ls : Array Slot} (hP : va_P (dC, dI) vwCl (wd 85 ad (celL ad cA) s0) H) (hS : va_S (La s) s.heap H locs) (hl : lv_has ls 32 [(0, .ref b), (1, .ref (ad 0)), (2, .ref (ad 81)), (3, .int x3), (4, .int x4), (5, .int x5), (6, .int x6), (7, .int x7), (8, .int x8), (11, .ref (ad 82))]) : W p l e room_1 s m #[Value.ref b] below meth c H locs (220) (2200) (lw_Z below #[Value.ref b] s) (F0 m 1584 ls []) := by
  obtain ⟨⟨hx, hb, hml, hown, hts, hr, hlocks⟩, hX, hbl, hK⟩ := C0
  have hbA : ¬ La s b := Nat.not_le.mpr hbl
  have hA2 : ∀ q, s.heap.size ≤ q → La s q := fun _ h => h
  have hD := wd_Dg (A := La s) (cel := celL ad cA) (σ := s0) hi hda
  unfold B_L_law_1584 at hv
  refine lv_iload_n hx hb dL_law_1584 rfl (lv_at hl 3 rfl) ?_
  refine lv_if_le (tgt := 1876) hx hb dL_law_1585 (by decide) (fun c1585 => ?_) (fun c1585 => ?_)
  · have hv := hv.1 c1585
    exact hY 1876 [x3, x4, x5, x6, x7, x8] [] s0 hv _ _ _ _ _ rfl ad H locs ls hi hda hP hS (lv_sub hl [0, 1, 2, 3, 4, 5, 6, 7, 8, 9] rfl)
  · have hv := hv.2 c1585
    refine lv_aload_n hx hb dL_law_1588 rfl (lv_at hl 0 rfl) ?_
    refine lv_bipush (v := 23) hx hb dL_law_1589 (by decide) ?_
    refine r_hci hS (aa_A (Nat.le_refl _) hda hA2 hS) (va_runS (As := [.ref b, .int 23]) (rest := []) ⟨hx, hb, hml, hown, hts⟩ (c_L_cell (b := b) (L := L) (xs := xs) hi (by decide) (fun k hk e => hbA (e ▸ hda k hk)) 23 _ _ hv H.size (Nat.lt_of_lt_of_le hbl hS.1)) (va_cwS 2 (fun w h => hts w (iv_L_cell_9 w h)) gv_L_cell_9 rfl rfl rfl (by decide +kernel) ⟨(Nat.le_of_ble_eq_true rfl), (Nat.le_of_ble_eq_true rfl)⟩) ⟨preL_blind, preL_of hP hK (hX.kept (hS.2.1 b hbl hbA))⟩ rfl rfl hl.1 rfl (lv_room (Nat.le_of_ble_eq_true rfl)) dL_law_1591 ⟨Nat.le_trans (by omega : _ ≤ 300) (Nat.le_of_ble_eq_true rfl), Nat.le_trans (by omega : _ ≤ 3000) (Nat.le_of_ble_eq_true rfl)⟩) (fun r1 s1 H locs hv hP hS => ?_)
    have hD := wd_Dg (A := La s) (cel := celL ad cA) (σ := s1) hi hda
    refine lv_iload_n hx hb dL_law_1594 rfl (lv_at hl 3 rfl) ?_
    refine r_hci hS (aa_A (Nat.le_refl _) hda hA2 hS) (va_runS (As := [.int r1, .int x3]) (rest := []) ⟨hx, hb, hml, hown, hts⟩ (c_L_up (b := b) (L := L) (xs := xs) hi (by decide) (fun k hk e => hbA (e ▸ hda k hk)) r1 x3 _ _ hv H.size (Nat.lt_of_lt_of_le hbl hS.1)) (va_cwS 2 (fun w h => hts w (iv_L_up_15 w h)) gv_L_up_15 rfl rfl rfl (by decide +kernel) ⟨(Nat.le_of_ble_eq_true rfl), (Nat.le_of_ble_eq_true rfl)⟩) ⟨preL_blind, preL_of hP hK (hX.kept (hS.2.1 b hbl hbA))⟩ rfl rfl hl.1 rfl (lv_room (Nat.le_of_ble_eq_true rfl)) dL_law_1595 ⟨Nat.le_trans (by omega : _ ≤ 300) (Nat.le_of_ble_eq_true rfl), Nat.le_trans (by omega : _ ≤ 3000) (Nat.le_of_ble_eq_true rfl)⟩) (fun r2 s2 H locs hv hP hS => ?_)
    have hD := wd_Dg (A := La s) (cel := celL ad cA) (σ := s2) hi hda
    refine lv_istore (lv' := [(26, .int r2), (0, .ref b), (1, .ref (ad 0)), (2, .ref (ad 81)), (3, .int x3), (4, .int x4), (5, .int x5), (6, .int x6), (7, .int x7), (8, .int x8), (11, .ref (ad 82))]) hx hb dL_law_1598 hl (by decide) rfl (fun ls hl => ?_)
    refine lv_aload_n hx hb dL_law_1600 rfl (lv_at hl 1 rfl) ?_
    refine lv_bipush (v := 24) hx hb dL_law_1601 (by decide) ?_
    refine r_hci hS (aa_A (Nat.le_refl _) hda hA2 hS) (va_runS (As := [.ref b, .int 24]) (rest := []) ⟨hx, hb, hml, hown, hts⟩ (c_L_cell (b := b) (L := L) (xs := xs) hi (by decide) (fun k hk e => hbA (e ▸ hda k hk)) 24 _ _ hv H.size (Nat.lt_of_lt_of_le hbl hS.1)) (va_cwS 2 (fun w h => hts w (iv_L_cell_9 w h)) gv_L_cell_9 rfl rfl rfl (by decide +kernel) ⟨(Nat.le_of_ble_eq_true rfl), (Nat.le_of_ble_eq_true rfl)⟩) ⟨preL_blind, preL_of hP hK (hX.kept (hS.2.1 b hbl hbA))⟩ rfl rfl hl.1 rfl (lv_room (Nat.le_of_ble_eq_true rfl)) dL_law_1603 ⟨Nat.le_trans (by omega : _ ≤ 300) (Nat.le_of_ble_eq_true rfl), Nat.le_trans (by omega : _ ≤ 3000) (Nat.le_of_ble_eq_true rfl)⟩) (fun r3 s3 H locs hv hP hS => ?_)
    have hD := wd_Dg (A := La s) (cel := celL ad cA) (σ := s3) hi hda
    refine lv_bipush (v := 6) hx hb dL_law_1606 (by decide) ?_
    refine r_hci hS (aa_A (Nat.le_refl _) hda hA2 hS) (va_runS (As := [.int r3, .int 6]) (rest := []) ⟨hx, hb, hml, hown, hts⟩ (c_L_up (b := b) (L := L) (xs := xs) hi (by decide) (fun k hk e => hbA (e ▸ hda k hk)) r3 6 _ _ hv H.size (Nat.lt_of_lt_of_le hbl hS.1)) (va_cwS 2 (fun w h => hts w (iv_L_up_15 w h)) gv_L_up_15 rfl rfl rfl (by decide +kernel) ⟨(Nat.le_of_ble_eq_true rfl), (Nat.le_of_ble_eq_true rfl)⟩) ⟨preL_blind, preL_of hP hK (hX.kept (hS.2.1 b hbl hbA))⟩ rfl rfl hl.1 rfl (lv_room (Nat.le_of_ble_eq_true rfl)) dL_law_1608 ⟨Nat.le_trans (by omega : _ ≤ 300) (Nat.le_of_ble_eq_true rfl), Nat.le_trans (by omega : _ ≤ 3000) (Nat.le_of_ble_eq_true rfl)⟩) (fun r4 s4 H locs hv hP hS => ?_)
    have hD := wd_Dg (A := La s) (cel := celL ad cA) (σ := s4) hi hda
    refine lv_istore (lv' := [(27, .int r4), (26, .int r2), (0, .ref b), (1, .ref (ad 0)), (2, .ref (ad 81)), (3, .int x3), (4, .int x4), (5, .int x5), (6, .int x6), (7, .int x7), (8, .int x8), (11, .ref (ad 82))]) hx hb dL_law_1611 hl (by decide) rfl (fun ls hl => ?_)
    refine lv_iconst (v := 0) hx hb dL_law_1613 (by decide) ?_
    refine lv_istore (lv' := [(28, .int 0), (27, .int r4), (26, .int r2), (0, .ref b), (1, .ref (ad 0)), (2, .ref (ad 81)), (3, .int x3), (4, .int x4), (5, .int x5), (6, .int x6), (7, .int x7), (8, .int x8), (11, .ref (ad 82))]) hx hb dL_law_1614 hl (by decide) rfl (fun ls hl => ?_)
    exact hY 1616 [x3, x4, x5, x6, x7, x8, r2, r4, 0] [] s4 hv _ _ _ _ _ rfl ad H locs ls hi hda hP hS (lv_sub hl [3, 4, 5, 6, 7, 8, 9, 10, 11, 12, 2, 1, 0] rfl)
set_option maxHeartbeats 8000000 in
set_option maxRecDepth 100000 in
theorem w_L_law_1616 {p : Program} {l : Launch} {e : Env} {s : State} {m : MethodId} {below : List Frame} {meth : Method} {c : Code} {dC : Nat → ClassId} {dI : Nat → Nat → Nat} {cA cZ : ClassId} {b L : Nat} {xs : Nat → Int32} (C0 : LC p s m meth c b L xs dC dI cA cZ) (Y : Nat → List Int32 → List Int64 → St → Prop) (hY : ∀ P xs ys σ, Y P xs ys σ → XW p l e s m below meth c b dC dI cA P xs ys σ) (x3 : Int32) (x4 : Int32) (x5 : Int32) (x6 : Int32) (x7 : Int32) (x8 : Int32) (x26 : Int32) (x27 : Int32) (x28 : Int32) (s0 : St) (hv : B_L_law_1616 L xs Y x3 x4 x5 x6 x7 x8 x26 x27 x28 s0) {ad : Nat → Nat} (hi : Inj 85 ad) (hda : ∀ k, k < 85 → La s (ad k)) {H : Heap} {locs : List Loc} {ls : Array Slot} (hP : va_P (dC, dI) vwCl (wd 85 ad (celL ad cA) s0) H) (hS : va_S (La s) s.heap H locs) (hl : lv_has ls 32 [(0, .ref b), (1, .ref (ad 0)), (2, .ref (ad 81)), (3, .int x3), (4, .int x4), (5, .int x5), (6, .int x6), (7, .int x7), (8, .int x8), (11, .ref (ad 82)), (26, .int x26), (27, .int x27), (28, .int x28)]) : W p l e room_1 s m #[Value.ref b] below meth c H locs (220) (2200) (lw_Z below #[Value.ref b] s) (F0 m 1616 ls []) := by
  obtain ⟨⟨hx, hb, hml, hown, hts, hr, hlocks⟩, hX, hbl, hK⟩ := C0
  have hbA : ¬ La s b := Nat.not_le.mpr hbl
  have hA2 : ∀ q, s.heap.size ≤ q → La s q := fun _ h => h
  have hD := wd_Dg (A := La s) (cel := celL ad cA) (σ := s0) hi hda
  unfold B_L_law_1616 at hv
  refine lv_iload hx hb dL_law_1616 (lv_at hl 12 rfl) ?_
  refine lv_iload hx hb dL_law_1618 (lv_at hl 11 rfl) ?_
  refine lv_icmp_ge (tgt := 1681) hx hb dL_law_1620 (by decide) (fun c1620 => ?_) (fun c1620 => ?_)
  · have hv := hv.1 c1620
    refine lv_aload_n hx hb dL_law_1681 rfl (lv_at hl 1 rfl) ?_
    refine r_lci hi hP hS (aa_A (by decide) hda hA2 hS) (va_runV (As := []) (rest := []) ⟨hx, hb, hml, hown, hts⟩ (c_X10_tell (inj_le (by decide) hi)  _ _ hv H.size) (cwV 0 (fun w h => hts w (iv_X10_tell_97 w h)) gv_X10_tell_97 rfl rfl rfl (by decide +kernel) ⟨(Nat.le_of_ble_eq_true rfl), (Nat.le_of_ble_eq_true rfl)⟩) ⟨pre_blind, r_recv hK.1 (wd_cls (by decide) hP) 0 (by decide) (ceGR_0 (s0 0)) rfl, pre_of (wd_cls (by decide) hP) hK⟩ rfl rfl hl.1 rfl (lv_room (Nat.le_of_ble_eq_true rfl)) dL_law_1682 ⟨Nat.le_trans (by omega : _ ≤ 300) (Nat.le_of_ble_eq_true rfl), Nat.le_trans (by omega : _ ≤ 3000) (Nat.le_of_ble_eq_true rfl)⟩) (fun r1 s1 H locs hv hP hS => ?_)
    have hD := wd_Dg (A := La s) (cel := celL ad cA) (σ := s1) hi hda
    refine lv_if_lt (tgt := 1788) hx hb dL_law_1685 (by decide) (fun c1685 => ?_) (fun c1685 => ?_)
    · have hv := hv.1 c1685
      refine lv_iconst (v := 0) hx hb dL_law_1788 (by decide) ?_
      exact hv.elim
    · have hv := hv.2 c1685
      refine lv_aload_n hx hb dL_law_1688 rfl (lv_at hl 1 rfl) ?_
      refine r_lci hi hP hS (aa_A (by decide) hda hA2 hS) (va_runV (As := []) (rest := []) ⟨hx, hb, hml, hown, hts⟩ (c_X10_tell (inj_le (by decide) hi)  _ _ hv H.size) (cwV 0 (fun w h => hts w (iv_X10_tell_97 w h)) gv_X10_tell_97 rfl rfl rfl (by decide +kernel) ⟨(Nat.le_of_ble_eq_true rfl), (Nat.le_of_ble_eq_true rfl)⟩) ⟨pre_blind, r_recv hK.1 (wd_cls (by decide) hP) 0 (by decide) (ceGR_0 (s1 0)) rfl, pre_of (wd_cls (by decide) hP) hK⟩ rfl rfl hl.1 rfl (lv_room (Nat.le_of_ble_eq_true rfl)) dL_law_1689 ⟨Nat.le_trans (by omega : _ ≤ 300) (Nat.le_of_ble_eq_true rfl), Nat.le_trans (by omega : _ ≤ 3000) (Nat.le_of_ble_eq_true rfl)⟩) (fun r2 s2 H locs hv hP hS => ?_)
      have hD := wd_Dg (A := La s) (cel := celL ad cA) (σ := s2) hi hda
      refine lv_bipush (v := 20) hx hb dL_law_1692 (by decide) ?_
      refine lv_icmp_gt (tgt := 1788) hx hb dL_law_1694 (by decide) (fun c1694 => ?_) (fun c1694 => ?_)
      · have hv := hv.1 c1694
        refine lv_iconst (v := 0) hx hb dL_law_1788 (by decide) ?_
        exact hv.elim
      · have hv := hv.2 c1694
        refine lv_aload_n hx hb dL_law_1697 rfl (lv_at hl 1 rfl) ?_
        refine lv_iconst (v := 0) hx hb dL_law_1698 (by decide) ?_
        refine r_lci hi hP hS (aa_A (by decide) hda hA2 hS) (va_runV (As := [.int 0]) (rest := []) ⟨hx, hb, hml, hown, hts⟩ (c_X10_forget (inj_le (by decide) hi) 0 _ _ hv H.size) (cwV 1 (fun w h => hts w (iv_X10_forget_100 w h)) gv_X10_forget_100 rfl rfl rfl (by decide +kernel) ⟨(Nat.le_of_ble_eq_true rfl), (Nat.le_of_ble_eq_true rfl)⟩) ⟨pre_blind, r_recv hK.1 (wd_cls (by decide) hP) 0 (by decide) (ceGR_0 (s2 0)) rfl, pre_of (wd_cls (by decide) hP) hK⟩ rfl rfl hl.1 rfl (lv_room (Nat.le_of_ble_eq_true rfl)) dL_law_1699 ⟨Nat.le_trans (by omega : _ ≤ 300) (Nat.le_of_ble_eq_true rfl), Nat.le_trans (by omega : _ ≤ 3000) (Nat.le_of_ble_eq_true rfl)⟩) (fun r3 s3 H locs hv hP hS => ?_)
        have hD := wd_Dg (A := La s) (cel := celL ad cA) (σ := s3) hi hda
        refine lv_iload hx hb dL_law_1702 (lv_at hl 11 rfl) ?_
        refine lv_icmp_ne (tgt := 1788) hx hb dL_law_1704 (by decide) (fun c1704 => ?_) (fun c1704 => ?_)
        · have hv := hv.1 c1704
          refine lv_iconst (v := 0) hx hb dL_law_1788 (by decide) ?_
          exact hv.elim
        · have hv := hv.2 c1704
          refine lv_aload_n hx hb dL_law_1707 rfl (lv_at hl 1 rfl) ?_
          refine r_lci hi hP hS (aa_A (by decide) hda hA2 hS) (va_runV (As := []) (rest := []) ⟨hx, hb, hml, hown, hts⟩ (c_X10_which (inj_le (by decide) hi)  _ _ hv H.size) (cwV 0 (fun w h => hts w (iv_X10_which_94 w h)) gv_X10_which_94 rfl rfl rfl (by decide +kernel) ⟨(Nat.le_of_ble_eq_true rfl), (Nat.le_of_ble_eq_true rfl)⟩) ⟨pre_blind, r_recv hK.1 (wd_cls (by decide) hP) 0 (by decide) (ceGR_0 (s3 0)) rfl, pre_of (wd_cls (by decide) hP) hK⟩ rfl rfl hl.1 rfl (lv_room (Nat.le_of_ble_eq_true rfl)) dL_law_1708 ⟨Nat.le_trans (by omega : _ ≤ 300) (Nat.le_of_ble_eq_true rfl), Nat.le_trans (by omega : _ ≤ 3000) (Nat.le_of_ble_eq_true rfl)⟩) (fun r4 s4 H locs hv hP hS => ?_)
          have hD := wd_Dg (A := La s) (cel := celL ad cA) (σ := s4) hi hda
          refine lv_iconst (v := 1) hx hb dL_law_1711 (by decide) ?_
          refine lv_iload_n hx hb dL_law_1712 rfl (lv_at hl 3 rfl) ?_
          refine lv_ishl hx hb dL_law_1713 ?_
          refine lv_iconst (v := 1) hx hb dL_law_1714 (by decide) ?_
          refine lv_isub hx hb dL_law_1715 ?_
          refine lv_icmp_ne (tgt := 1788) hx hb dL_law_1716 (by decide) (fun c1716 => ?_) (fun c1716 => ?_)
          · have hv := hv.1 c1716
            refine lv_iconst (v := 0) hx hb dL_law_1788 (by decide) ?_
            exact hv.elim
          · have hv := hv.2 c1716
            exact hY 1719 [x3, x4, x5, x6, x7, x8, x26] [] s4 hv _ _ _ _ _ rfl ad H locs ls hi hda hP hS (lv_sub hl [0, 1, 2, 3, 4, 5, 6, 7, 8, 9, 10] rfl)
  · have hv := hv.2 c1620
    refine lv_aload_n hx hb dL_law_1623 rfl (lv_at hl 0 rfl) ?_
    refine lv_bipush (v := 25) hx hb dL_law_1624 (by decide) ?_
    refine lv_iload hx hb dL_law_1626 (lv_at hl 12 rfl) ?_
    refine lv_iadd hx hb dL_law_1628 ?_
    refine r_hci hS (aa_A (Nat.le_refl _) hda hA2 hS) (va_runS (As := [.ref b, .int (25 + x28)]) (rest := []) ⟨hx, hb, hml, hown, hts⟩ (c_L_cell (b := b) (L := L) (xs := xs) hi (by decide) (fun k hk e => hbA (e ▸ hda k hk)) (25 + x28) _ _ hv H.size (Nat.lt_of_lt_of_le hbl hS.1)) (va_cwS 2 (fun w h => hts w (iv_L_cell_9 w h)) gv_L_cell_9 rfl rfl rfl (by decide +kernel) ⟨(Nat.le_of_ble_eq_true rfl), (Nat.le_of_ble_eq_true rfl)⟩) ⟨preL_blind, preL_of hP hK (hX.kept (hS.2.1 b hbl hbA))⟩ rfl rfl hl.1 rfl (lv_room (Nat.le_of_ble_eq_true rfl)) dL_law_1629 ⟨Nat.le_trans (by omega : _ ≤ 300) (Nat.le_of_ble_eq_true rfl), Nat.le_trans (by omega : _ ≤ 3000) (Nat.le_of_ble_eq_true rfl)⟩) (fun r5 s5 H locs hv hP hS => ?_)
    have hD := wd_Dg (A := La s) (cel := celL ad cA) (σ := s5) hi hda
    refine lv_bipush (v := 61) hx hb dL_law_1632 (by decide) ?_
    refine r_hci hS (aa_A (Nat.le_refl _) hda hA2 hS) (va_runS (As := [.int r5, .int 61]) (rest := []) ⟨hx, hb, hml, hown, hts⟩ (c_L_up (b := b) (L := L) (xs := xs) hi (by decide) (fun k hk e => hbA (e ▸ hda k hk)) r5 61 _ _ hv H.size (Nat.lt_of_lt_of_le hbl hS.1)) (va_cwS 2 (fun w h => hts w (iv_L_up_15 w h)) gv_L_up_15 rfl rfl rfl (by decide +kernel) ⟨(Nat.le_of_ble_eq_true rfl), (Nat.le_of_ble_eq_true rfl)⟩) ⟨preL_blind, preL_of hP hK (hX.kept (hS.2.1 b hbl hbA))⟩ rfl rfl hl.1 rfl (lv_room (Nat.le_of_ble_eq_true rfl)) dL_law_1634 ⟨Nat.le_trans (by omega : _ ≤ 300) (Nat.le_of_ble_eq_true rfl), Nat.le_trans (by omega : _ ≤ 3000) (Nat.le_of_ble_eq_true rfl)⟩) (fun r6 s6 H locs hv hP hS => ?_)
    have hD := wd_Dg (A := La s) (cel := celL ad cA) (σ := s6) hi hda
    refine lv_istore (lv' := [(29, .int r6), (0, .ref b), (1, .ref (ad 0)), (2, .ref (ad 81)), (3, .int x3), (4, .int x4), (5, .int x5), (6, .int x6), (7, .int x7), (8, .int x8), (11, .ref (ad 82)), (26, .int x26), (27, .int x27), (28, .int x28)]) hx hb dL_law_1637 hl (by decide) rfl (fun ls hl => ?_)
    refine lv_aload_n hx hb dL_law_1639 rfl (lv_at hl 2 rfl) ?_
    refine lv_iload hx hb dL_law_1640 (lv_at hl 0 rfl) ?_
    refine lv_aload_n hx hb dL_law_1642 rfl (lv_at hl 2 rfl) ?_
    refine lv_iload hx hb dL_law_1643 (lv_at hl 11 rfl) ?_
    refine lv_iload hx hb dL_law_1645 (lv_at hl 0 rfl) ?_
    refine r_lci hi hP hS (aa_A (by decide) hda hA2 hS) (va_runV (As := [.int x26, .int r6]) (rest := [.int r6, .ref (ad 0)]) ⟨hx, hb, hml, hown, hts⟩ (c_X10_where (inj_le (by decide) hi) x26 r6 _ _ hv H.size) (cwV 2 (fun w h => hts w (iv_X10_where_66 w h)) gv_X10_where_66 rfl rfl rfl (by decide +kernel) ⟨(Nat.le_of_ble_eq_true rfl), (Nat.le_of_ble_eq_true rfl)⟩) ⟨pre_blind, r_recv hK.1 (wd_cls (by decide) hP) 0 (by decide) (ceGR_0 (s6 0)) rfl, pre_of (wd_cls (by decide) hP) hK⟩ rfl rfl hl.1 rfl (lv_room (Nat.le_of_ble_eq_true rfl)) dL_law_1647 ⟨Nat.le_trans (by omega : _ ≤ 300) (Nat.le_of_ble_eq_true rfl), Nat.le_trans (by omega : _ ≤ 3000) (Nat.le_of_ble_eq_true rfl)⟩) (fun r7 s7 H locs hv hP hS => ?_)
    have hD := wd_Dg (A := La s) (cel := celL ad cA) (σ := s7) hi hda
    refine r_lci hi hP hS (aa_A (by decide) hda hA2 hS) (va_runV (As := [.int r6, .int r7]) (rest := []) ⟨hx, hb, hml, hown, hts⟩ (c_X10_seen (inj_le (by decide) hi) r6 r7 _ _ hv H.size) (cwV 2 (fun w h => hts w (iv_X10_seen_91 w h)) gv_X10_seen_91 rfl rfl rfl (by decide +kernel) ⟨(Nat.le_of_ble_eq_true rfl), (Nat.le_of_ble_eq_true rfl)⟩) ⟨pre_blind, r_recv hK.1 (wd_cls (by decide) hP) 0 (by decide) (ceGR_0 (s7 0)) rfl, pre_of (wd_cls (by decide) hP) hK⟩ rfl rfl hl.1 rfl (lv_room (Nat.le_of_ble_eq_true rfl)) dL_law_1650 ⟨Nat.le_trans (by omega : _ ≤ 300) (Nat.le_of_ble_eq_true rfl), Nat.le_trans (by omega : _ ≤ 3000) (Nat.le_of_ble_eq_true rfl)⟩) (fun r8 s8 H locs hv hP hS => ?_)
    have hD := wd_Dg (A := La s) (cel := celL ad cA) (σ := s8) hi hda
    refine lv_iload hx hb dL_law_1653 (lv_at hl 13 rfl) ?_
    refine lv_iconst (v := 1) hx hb dL_law_1655 (by decide) ?_
    refine lv_iadd hx hb dL_law_1656 ?_
    refine lv_icmp_ne (tgt := 1673) hx hb dL_law_1657 (by decide) (fun c1657 => ?_) (fun c1657 => ?_)
    · have hv := hv.1 c1657
      refine lv_iconst (v := 0) hx hb dL_law_1673 (by decide) ?_
      exact hv.elim
    · have hv := hv.2 c1657
      refine lv_aload_n hx hb dL_law_1660 rfl (lv_at hl 2 rfl) ?_
      refine r_lci hi hP hS (aa_A (by decide) hda hA2 hS) (va_runV (As := []) (rest := []) ⟨hx, hb, hml, hown, hts⟩ (c_X10_which (inj_le (by decide) hi)  _ _ hv H.size) (cwV 0 (fun w h => hts w (iv_X10_which_94 w h)) gv_X10_which_94 rfl rfl rfl (by decide +kernel) ⟨(Nat.le_of_ble_eq_true rfl), (Nat.le_of_ble_eq_true rfl)⟩) ⟨pre_blind, r_recv hK.1 (wd_cls (by decide) hP) 0 (by decide) (ceGR_0 (s8 0)) rfl, pre_of (wd_cls (by decide) hP) hK⟩ rfl rfl hl.1 rfl (lv_room (Nat.le_of_ble_eq_true rfl)) dL_law_1661 ⟨Nat.le_trans (by omega : _ ≤ 300) (Nat.le_of_ble_eq_true rfl), Nat.le_trans (by omega : _ ≤ 3000) (Nat.le_of_ble_eq_true rfl)⟩) (fun r9 s9 H locs hv hP hS => ?_)
      have hD := wd_Dg (A := La s) (cel := celL ad cA) (σ := s9) hi hda
      refine lv_iload hx hb dL_law_1664 (lv_at hl 11 rfl) ?_
      refine lv_ishr hx hb dL_law_1666 ?_
      refine lv_iconst (v := 1) hx hb dL_law_1667 (by decide) ?_
      refine lv_iand hx hb dL_law_1668 ?_
      refine lv_iconst (v := 1) hx hb dL_law_1669 (by decide) ?_
      refine lv_icmp_eq (tgt := 1675) hx hb dL_law_1670 (by decide) (fun c1670 => ?_) (fun c1670 => ?_)
      · have hv := hv.1 c1670
        refine lv_iinc (v := x28 + 1) (lv' := [(28, .int (x28 + 1)), (29, .int r6), (0, .ref b), (1, .ref (ad 0)), (2, .ref (ad 81)), (3, .int x3), (4, .int x4), (5, .int x5), (6, .int x6), (7, .int x7), (8, .int x8), (11, .ref (ad 82)), (26, .int x26), (27, .int x27)]) hx hb dL_law_1675 hl (k := 13) rfl rfl (by decide) rfl (fun ls hl => ?_)
        refine lv_goto (tgt := 1616) hx hb dL_law_1678 (by decide) ?_
        exact hY 1616 [x3, x4, x5, x6, x7, x8, x26, x27, x28 + 1] [] s9 hv _ _ _ _ _ rfl ad H locs ls hi hda hP hS (lv_sub hl [2, 3, 4, 5, 6, 7, 8, 9, 10, 11, 12, 13, 0] rfl)
      · have hv := hv.2 c1670
        refine lv_iconst (v := 0) hx hb dL_law_1673 (by decide) ?_
        exact hv.elim
