set_option maxHeartbeats 8000000 in
set_option maxRecDepth 100000 in
theorem w_L_law_462 {p : Program} {l : Launch} {e : Env} {s : State} {m : MethodId} {below : List Frame} {meth : Method} {c : Code} {dC : Nat → ClassId} {dI : Nat → Nat → Nat} {cA cZ : ClassId} {b L : Nat} {xs : Nat → Int32} (C0 : LC p s m meth c b L xs dC dI cA cZ) (Y : Nat → List Int32 → List Int64 → St → Prop) (hY : ∀ P xs ys σ, Y P xs ys σ → XW p l e s m below meth c b dC dI cA P xs ys σ) (x3 : Int32) (x4 : Int32) (x5 : Int32) (x6 : Int32) (x7 : Int32) (x8 : Int32) (x9 : Int32) (x10 : Int32) (x13 : Int32) (x15 : Int32) (x16 : Int32) (s0 : St) (hv : B_L_law_462 L xs Y x3 x4 x5 x6 x7 x8 x9 x10 x13 x15 x16 s0) {ad : Nat → Nat} (hi : Inj 85 ad) (hda : ∀ k, k < 85 → La s (ad k)) {H : Heap} {locs : List Loc} {ls : Array Slot} (hP : va_P (dC, dI) vwCl (wd 85 ad (celL ad cA) s0) H) (hS : va_S (La s) s.heap H locs) (hl : lv_has ls 32 [(0, .ref b), (1, .ref (ad 0)), (2, .ref (ad 81)), (3, .int x3), (4, .int x4), (5, .int x5), (6, .int x6), (7, .int x7), (8, .int x8), (9, .int x9), (10, .int x10), (11, .ref (ad 82)), (12, .ref (ad 83)), (13, .int x13), (14, .ref (ad 84)), (15, .int x15), (16, .int x16)]) : W p l e room_1 s m #[Value.ref b] below meth c H locs (220) (2200) (lw_Z below #[Value.ref b] s) (F0 m 462 ls []) := by
  obtain ⟨⟨hx, hb, hml, hown, hts, hr, hlocks⟩, hX, hbl, hK⟩ := C0
  have hbA : ¬ La s b := Nat.not_le.mpr hbl
  have hA2 : ∀ q, s.heap.size ≤ q → La s q := fun _ h => h
  have hD := wd_Dg (A := La s) (cel := celL ad cA) (σ := s0) hi hda
  unfold B_L_law_462 at hv
  refine lv_iload hx hb dL_law_462 (lv_at hl 16 rfl) ?_
  refine lv_iload_n hx hb dL_law_464 rfl (lv_at hl 3 rfl) ?_
  refine lv_icmp_ge (tgt := 699) hx hb dL_law_465 (by decide) (fun c465 => ?_) (fun c465 => ?_)
  · have hv := hv.1 c465
    refine lv_iload hx hb dL_law_699 (lv_at hl 9 rfl) ?_
    refine lv_iload hx hb dL_law_701 (lv_at hl 7 rfl) ?_
    refine lv_icmp_ne (tgt := 725) hx hb dL_law_703 (by decide) (fun c703 => ?_) (fun c703 => ?_)
    · have hv := hv.1 c703
      refine lv_iconst (v := 0) hx hb dL_law_725 (by decide) ?_
      exact hv.elim
    · have hv := hv.2 c703
      refine lv_iload hx hb dL_law_706 (lv_at hl 10 rfl) ?_
      refine lv_iload_n hx hb dL_law_708 rfl (lv_at hl 3 rfl) ?_
      refine lv_iload hx hb dL_law_709 (lv_at hl 6 rfl) ?_
      refine lv_isub hx hb dL_law_711 ?_
      refine lv_icmp_ne (tgt := 725) hx hb dL_law_712 (by decide) (fun c712 => ?_) (fun c712 => ?_)
      · have hv := hv.1 c712
        refine lv_iconst (v := 0) hx hb dL_law_725 (by decide) ?_
        exact hv.elim
      · have hv := hv.2 c712
        refine lv_aload_n hx hb dL_law_715 rfl (lv_at hl 1 rfl) ?_
        refine lv_iconst (v := (-1)) hx hb dL_law_716 (by decide) ?_
        refine r_lci hi hP hS (aa_A (by decide) hda hA2 hS) (va_runV (As := [.int ((-1))]) (rest := []) ⟨hx, hb, hml, hown, hts⟩ (c_X10_when (inj_le (by decide) hi) ((-1)) _ _ hv H.size) (cwV 1 (fun w h => hts w (iv_X10_when_63 w h)) gv_X10_when_63 rfl rfl rfl (by decide +kernel) ⟨(Nat.le_of_ble_eq_true rfl), (Nat.le_of_ble_eq_true rfl)⟩) ⟨pre_blind, r_recv hK.1 (wd_cls (by decide) hP) 0 (by decide) (ceGR_0 (s0 0)) rfl, pre_of (wd_cls (by decide) hP) hK⟩ rfl rfl hl.1 rfl (lv_room (Nat.le_of_ble_eq_true rfl)) dL_law_717 ⟨Nat.le_trans (by omega : _ ≤ 300) (Nat.le_of_ble_eq_true rfl), Nat.le_trans (by omega : _ ≤ 3000) (Nat.le_of_ble_eq_true rfl)⟩) (fun r1 s1 H locs hv hP hS => ?_)
        have hD := wd_Dg (A := La s) (cel := celL ad cA) (σ := s1) hi hda
        refine lv_iload hx hb dL_law_720 (lv_at hl 15 rfl) ?_
        refine lv_icmp_eq (tgt := 727) hx hb dL_law_722 (by decide) (fun c722 => ?_) (fun c722 => ?_)
        · have hv := hv.1 c722
          exact hY 727 [x3, x4, x5, x6, x7, x8, x13] [] s1 hv _ _ _ _ _ rfl ad H locs ls hi hda hP hS (lv_sub hl [0, 1, 2, 3, 4, 5, 6, 7, 8, 11, 13, 14] rfl)
        · have hv := hv.2 c722
          refine lv_iconst (v := 0) hx hb dL_law_725 (by decide) ?_
          exact hv.elim
  · have hv := hv.2 c465
    refine lv_aload hx hb dL_law_468 (lv_at hl 11 rfl) ?_
    refine lv_iload hx hb dL_law_470 (lv_at hl 16 rfl) ?_
    refine lv_aload_n hx hb dL_law_472 rfl (lv_at hl 1 rfl) ?_
    refine lv_iload hx hb dL_law_473 (lv_at hl 16 rfl) ?_
    refine lv_iconst (v := 2) hx hb dL_law_475 (by decide) ?_
    refine r_lci hi hP hS (aa_A (by decide) hda hA2 hS) (va_runV (As := [.int x16, .int 2]) (rest := [.int x16, .ref (ad 82)]) ⟨hx, hb, hml, hown, hts⟩ (c_X10_of (inj_le (by decide) hi) x16 2 _ _ hv H.size) (cwV 2 (fun w h => hts w (iv_X10_of_51 w h)) gv_X10_of_51 rfl rfl rfl (by decide +kernel) ⟨(Nat.le_of_ble_eq_true rfl), (Nat.le_of_ble_eq_true rfl)⟩) ⟨pre_blind, r_recv hK.1 (wd_cls (by decide) hP) 0 (by decide) (ceGR_0 (s0 0)) rfl, pre_of (wd_cls (by decide) hP) hK⟩ rfl rfl hl.1 rfl (lv_room (Nat.le_of_ble_eq_true rfl)) dL_law_476 ⟨Nat.le_trans (by omega : _ ≤ 300) (Nat.le_of_ble_eq_true rfl), Nat.le_trans (by omega : _ ≤ 3000) (Nat.le_of_ble_eq_true rfl)⟩) (fun r2 s2 H locs hv hP hS => ?_)
    have hD := wd_Dg (A := La s) (cel := celL ad cA) (σ := s2) hi hda
    obtain ⟨hin, hv⟩ := hv
    refine r_iast hx hb hK.1 hP hD hS 82 (by decide) (ceL_82 (s2 82)) (ceL_82 _) hin dL_law_479 (fun H locs s3 es3 hP hD hS => ?_)
    have hv := hv s3 es3
    refine lv_aload hx hb dL_law_480 (lv_at hl 12 rfl) ?_
    refine lv_iload hx hb dL_law_482 (lv_at hl 16 rfl) ?_
    refine lv_aload_n hx hb dL_law_484 rfl (lv_at hl 1 rfl) ?_
    refine lv_iload hx hb dL_law_485 (lv_at hl 16 rfl) ?_
    refine r_lci hi hP hS (aa_A (by decide) hda hA2 hS) (va_runV (As := [.int x16]) (rest := [.int x16, .ref (ad 83)]) ⟨hx, hb, hml, hown, hts⟩ (c_X10_when (inj_le (by decide) hi) x16 _ _ hv H.size) (cwV 1 (fun w h => hts w (iv_X10_when_63 w h)) gv_X10_when_63 rfl rfl rfl (by decide +kernel) ⟨(Nat.le_of_ble_eq_true rfl), (Nat.le_of_ble_eq_true rfl)⟩) ⟨pre_blind, r_recv hK.1 (wd_cls (by decide) hP) 0 (by decide) (ceGR_0 (s3 0)) rfl, pre_of (wd_cls (by decide) hP) hK⟩ rfl rfl hl.1 rfl (lv_room (Nat.le_of_ble_eq_true rfl)) dL_law_487 ⟨Nat.le_trans (by omega : _ ≤ 300) (Nat.le_of_ble_eq_true rfl), Nat.le_trans (by omega : _ ≤ 3000) (Nat.le_of_ble_eq_true rfl)⟩) (fun r4 s4 H locs hv hP hS => ?_)
    have hD := wd_Dg (A := La s) (cel := celL ad cA) (σ := s4) hi hda
    obtain ⟨hin, hv⟩ := hv
    refine r_iast hx hb hK.1 hP hD hS 83 (by decide) (ceL_83 (s4 83)) (ceL_83 _) hin dL_law_490 (fun H locs s5 es5 hP hD hS => ?_)
    have hv := hv s5 es5
    refine lv_aload hx hb dL_law_491 (lv_at hl 14 rfl) ?_
    refine lv_iload hx hb dL_law_493 (lv_at hl 16 rfl) ?_
    refine lv_aload_n hx hb dL_law_495 rfl (lv_at hl 1 rfl) ?_
    refine lv_iload hx hb dL_law_496 (lv_at hl 16 rfl) ?_
    refine lv_iload hx hb dL_law_498 (lv_at hl 13 rfl) ?_
    refine r_lci hi hP hS (aa_A (by decide) hda hA2 hS) (va_runV (As := [.int x16, .int x13]) (rest := [.int x16, .ref (ad 84)]) ⟨hx, hb, hml, hown, hts⟩ (c_X10_where (inj_le (by decide) hi) x16 x13 _ _ hv H.size) (cwV 2 (fun w h => hts w (iv_X10_where_66 w h)) gv_X10_where_66 rfl rfl rfl (by decide +kernel) ⟨(Nat.le_of_ble_eq_true rfl), (Nat.le_of_ble_eq_true rfl)⟩) ⟨pre_blind, r_recv hK.1 (wd_cls (by decide) hP) 0 (by decide) (ceGR_0 (s5 0)) rfl, pre_of (wd_cls (by decide) hP) hK⟩ rfl rfl hl.1 rfl (lv_room (Nat.le_of_ble_eq_true rfl)) dL_law_500 ⟨Nat.le_trans (by omega : _ ≤ 300) (Nat.le_of_ble_eq_true rfl), Nat.le_trans (by omega : _ ≤ 3000) (Nat.le_of_ble_eq_true rfl)⟩) (fun r6 s6 H locs hv hP hS => ?_)
    have hD := wd_Dg (A := La s) (cel := celL ad cA) (σ := s6) hi hda
    obtain ⟨hin, hv⟩ := hv
    refine r_iast hx hb hK.1 hP hD hS 84 (by decide) (ceL_84 (s6 84)) (ceL_84 _) hin dL_law_503 (fun H locs s7 es7 hP hD hS => ?_)
    have hv := hv s7 es7
    refine lv_iload hx hb dL_law_504 (lv_at hl 10 rfl) ?_
    refine lv_aload hx hb dL_law_506 (lv_at hl 11 rfl) ?_
    refine lv_iload hx hb dL_law_508 (lv_at hl 16 rfl) ?_
    obtain ⟨hin, hv⟩ := hv
    refine r_iald hx hb hK.1 hP 82 (by decide) (ceL_82 (s7 82)) hin dL_law_510 ?_
    refine lv_bipush (v := 23) hx hb dL_law_511 (by decide) ?_
    refine lv_icmp_ge (tgt := 520) hx hb dL_law_513 (by decide) (fun c513 => ?_) (fun c513 => ?_)
    · have hv := hv.1 c513
      refine lv_iconst (v := 0) hx hb dL_law_520 (by decide) ?_
      exact hY 521 [x3, x4, x5, x6, x7, x8, x9, x13, x15, x16, 0, x10] [] s7 hv _ _ _ _ _ rfl ad H locs ls hi hda hP hS (lv_sub hl [0, 1, 2, 3, 4, 5, 6, 7, 8, 9, 11, 12, 13, 14, 15, 16] rfl)
    · have hv := hv.2 c513
      refine lv_iconst (v := 1) hx hb dL_law_516 (by decide) ?_
      refine lv_goto (tgt := 521) hx hb dL_law_517 (by decide) ?_
      exact hY 521 [x3, x4, x5, x6, x7, x8, x9, x13, x15, x16, 1, x10] [] s7 hv _ _ _ _ _ rfl ad H locs ls hi hda hP hS (lv_sub hl [0, 1, 2, 3, 4, 5, 6, 7, 8, 9, 11, 12, 13, 14, 15, 16] rfl)
set_option maxHeartbeats 8000000 in
set_option maxRecDepth 100000 in
theorem w_L_law_521 {p : Program} {l : Launch} {e : Env} {s : State} {m : MethodId} {below : List Frame} {meth : Method} {c : Code} {dC : Nat → ClassId} {dI : Nat → Nat → Nat} {cA cZ : ClassId} {b L : Nat} {xs : Nat → Int32} (C0 : LC p s m meth c b L xs dC dI cA cZ) (Y : Nat → List Int32 → List Int64 → St → Prop) (hY : ∀ P xs ys σ, Y P xs ys σ → XW p l e s m below meth c b dC dI cA P xs ys σ) (x3 : Int32) (x4 : Int32) (x5 : Int32) (x6 : Int32) (x7 : Int32) (x8 : Int32) (x9 : Int32) (x13 : Int32) (x15 : Int32) (x16 : Int32) (t0 : Int32) (t1 : Int32) (s0 : St) (hv : B_L_law_521 L xs Y x3 x4 x5 x6 x7 x8 x9 x13 x15 x16 t0 t1 s0) {ad : Nat → Nat} (hi : Inj 85 ad) (hda : ∀ k, k < 85 → La s (ad k)) {H : Heap} {locs : List Loc} {ls : Array Slot} (hP : va_P (dC, dI) vwCl (wd 85 ad (celL ad cA) s0) H) (hS : va_S (La s) s.heap H locs) (hl : lv_has ls 32 [(0, .ref b), (1, .ref (ad 0)), (2, .ref (ad 81)), (3, .int x3), (4, .int x4), (5, .int x5), (6, .int x6), (7, .int x7), (8, .int x8), (9, .int x9), (11, .ref (ad 82)), (12, .ref (ad 83)), (13, .int x13), (14, .ref (ad 84)), (15, .int x15), (16, .int x16)]) : W p l e room_1 s m #[Value.ref b] below meth c H locs (220) (2200) (lw_Z below #[Value.ref b] s) (F0 m 521 ls [.int t0, .int t1]) := by
  obtain ⟨⟨hx, hb, hml, hown, hts, hr, hlocks⟩, hX, hbl, hK⟩ := C0
  have hbA : ¬ La s b := Nat.not_le.mpr hbl
  have hA2 : ∀ q, s.heap.size ≤ q → La s q := fun _ h => h
  have hD := wd_Dg (A := La s) (cel := celL ad cA) (σ := s0) hi hda
  unfold B_L_law_521 at hv
  refine lv_iadd hx hb dL_law_521 ?_
  refine lv_istore (lv' := [(10, .int (t1 + t0)), (0, .ref b), (1, .ref (ad 0)), (2, .ref (ad 81)), (3, .int x3), (4, .int x4), (5, .int x5), (6, .int x6), (7, .int x7), (8, .int x8), (9, .int x9), (11, .ref (ad 82)), (12, .ref (ad 83)), (13, .int x13), (14, .ref (ad 84)), (15, .int x15), (16, .int x16)]) hx hb dL_law_522 hl (by decide) rfl (fun ls hl => ?_)
  refine lv_iload hx hb dL_law_524 (lv_at hl 15 rfl) ?_
  refine lv_if_lt (tgt := 537) hx hb dL_law_526 (by decide) (fun c526 => ?_) (fun c526 => ?_)
  · have hv := hv.1 c526
    refine lv_iconst (v := (-1)) hx hb dL_law_537 (by decide) ?_
    refine lv_goto (tgt := 561) hx hb dL_law_538 (by decide) ?_
    exact hY 561 [x3, x4, x5, x6, x7, x8, x9, t1 + t0, x13, x16, (-1)] [] s0 hv _ _ _ _ _ rfl ad H locs ls hi hda hP hS (lv_sub hl [1, 2, 3, 4, 5, 6, 7, 8, 9, 10, 0, 11, 12, 13, 14, 16] rfl)
  · have hv := hv.2 c526
    refine lv_aload hx hb dL_law_529 (lv_at hl 12 rfl) ?_
    refine lv_iload hx hb dL_law_531 (lv_at hl 16 rfl) ?_
    obtain ⟨hin, hv⟩ := hv
    refine r_iald hx hb hK.1 hP 83 (by decide) (ceL_83 (s0 83)) hin dL_law_533 ?_
    refine lv_if_ge (tgt := 541) hx hb dL_law_534 (by decide) (fun c534 => ?_) (fun c534 => ?_)
    · have hv := hv.1 c534
      refine lv_aload hx hb dL_law_541 (lv_at hl 12 rfl) ?_
      refine lv_iload hx hb dL_law_543 (lv_at hl 16 rfl) ?_
      obtain ⟨hin, hv⟩ := hv
      refine r_iald hx hb hK.1 hP 83 (by decide) (ceL_83 (s0 83)) hin dL_law_545 ?_
      refine lv_iload hx hb dL_law_546 (lv_at hl 15 rfl) ?_
      refine lv_icmp_le (tgt := 559) hx hb dL_law_548 (by decide) (fun c548 => ?_) (fun c548 => ?_)
      · have hv := hv.1 c548
        refine lv_iload hx hb dL_law_559 (lv_at hl 15 rfl) ?_
        exact hY 561 [x3, x4, x5, x6, x7, x8, x9, t1 + t0, x13, x16, x15] [] s0 hv _ _ _ _ _ rfl ad H locs ls hi hda hP hS (lv_sub hl [1, 2, 3, 4, 5, 6, 7, 8, 9, 10, 0, 11, 12, 13, 14, 16] rfl)
      · have hv := hv.2 c548
        refine lv_aload hx hb dL_law_551 (lv_at hl 12 rfl) ?_
        refine lv_iload hx hb dL_law_553 (lv_at hl 16 rfl) ?_
        obtain ⟨hin, hv⟩ := hv
        refine r_iald hx hb hK.1 hP 83 (by decide) (ceL_83 (s0 83)) hin dL_law_555 ?_
        refine lv_goto (tgt := 561) hx hb dL_law_556 (by decide) ?_
        exact hY 561 [x3, x4, x5, x6, x7, x8, x9, t1 + t0, x13, x16, s0 83 x16.toNatClampNeg] [] s0 hv _ _ _ _ _ rfl ad H locs ls hi hda hP hS (lv_sub hl [1, 2, 3, 4, 5, 6, 7, 8, 9, 10, 0, 11, 12, 13, 14, 16] rfl)
    · have hv := hv.2 c534
      refine lv_iconst (v := (-1)) hx hb dL_law_537 (by decide) ?_
      refine lv_goto (tgt := 561) hx hb dL_law_538 (by decide) ?_
      exact hY 561 [x3, x4, x5, x6, x7, x8, x9, t1 + t0, x13, x16, (-1)] [] s0 hv _ _ _ _ _ rfl ad H locs ls hi hda hP hS (lv_sub hl [1, 2, 3, 4, 5, 6, 7, 8, 9, 10, 0, 11, 12, 13, 14, 16] rfl)
set_option maxHeartbeats 8000000 in
set_option maxRecDepth 100000 in
theorem w_L_law_561 {p : Program} {l : Launch} {e : Env} {s : State} {m : MethodId} {below : List Frame} {meth : Method} {c : Code} {dC : Nat → ClassId} {dI : Nat → Nat → Nat} {cA cZ : ClassId} {b L : Nat} {xs : Nat → Int32} (C0 : LC p s m meth c b L xs dC dI cA cZ) (Y : Nat → List Int32 → List Int64 → St → Prop) (hY : ∀ P xs ys σ, Y P xs ys σ → XW p l e s m below meth c b dC dI cA P xs ys σ) (x3 : Int32) (x4 : Int32) (x5 : Int32) (x6 : Int32) (x7 : Int32) (x8 : Int32) (x9 : Int32) (x10 : Int32) (x13 : Int32) (x16 : Int32) (t0 : Int32) (s0 : St) (hv : B_L_law_561 L xs Y x3 x4 x5 x6 x7 x8 x9 x10 x13 x16 t0 s0) {ad : Nat → Nat} (hi : Inj 85 ad) (hda : ∀ k, k < 85 → La s (ad k)) {H : Heap} {locs : List Loc} {ls : Array Slot} (hP : va_P (dC, dI) vwCl (wd 85 ad (celL ad cA) s0) H) (hS : va_S (La s) s.heap H locs) (hl : lv_has ls 32 [(0, .ref b), (1, .ref (ad 0)), (2, .ref (ad 81)), (3, .int x3), (4, .int x4), (5, .int x5), (6, .int x6), (7, .int x7), (8, .int x8), (9, .int x9), (10, .int x10), (11, .ref (ad 82)), (12, .ref (ad 83)), (13, .int x13), (14, .ref (ad 84)), (16, .int x16)]) : W p l e room_1 s m #[Value.ref b] below meth c H locs (220) (2200) (lw_Z below #[Value.ref b] s) (F0 m 561 ls [.int t0]) := by
  obtain ⟨⟨hx, hb, hml, hown, hts, hr, hlocks⟩, hX, hbl, hK⟩ := C0
  have hbA : ¬ La s b := Nat.not_le.mpr hbl
  have hA2 : ∀ q, s.heap.size ≤ q → La s q := fun _ h => h
  have hD := wd_Dg (A := La s) (cel := celL ad cA) (σ := s0) hi hda
  unfold B_L_law_561 at hv
  refine lv_istore (lv' := [(15, .int t0), (0, .ref b), (1, .ref (ad 0)), (2, .ref (ad 81)), (3, .int x3), (4, .int x4), (5, .int x5), (6, .int x6), (7, .int x7), (8, .int x8), (9, .int x9), (10, .int x10), (11, .ref (ad 82)), (12, .ref (ad 83)), (13, .int x13), (14, .ref (ad 84)), (16, .int x16)]) hx hb dL_law_561 hl (by decide) rfl (fun ls hl => ?_)
  refine lv_aload_n hx hb dL_law_563 rfl (lv_at hl 2 rfl) ?_
  refine lv_iload hx hb dL_law_564 (lv_at hl 16 rfl) ?_
  refine lv_iconst (v := 0) hx hb dL_law_566 (by decide) ?_
  refine r_lci hi hP hS (aa_A (by decide) hda hA2 hS) (va_runV (As := [.int x16, .int 0]) (rest := []) ⟨hx, hb, hml, hown, hts⟩ (c_X10_where (inj_le (by decide) hi) x16 0 _ _ hv H.size) (cwV 2 (fun w h => hts w (iv_X10_where_66 w h)) gv_X10_where_66 rfl rfl rfl (by decide +kernel) ⟨(Nat.le_of_ble_eq_true rfl), (Nat.le_of_ble_eq_true rfl)⟩) ⟨pre_blind, r_recv hK.1 (wd_cls (by decide) hP) 0 (by decide) (ceGR_0 (s0 0)) rfl, pre_of (wd_cls (by decide) hP) hK⟩ rfl rfl hl.1 rfl (lv_room (Nat.le_of_ble_eq_true rfl)) dL_law_567 ⟨Nat.le_trans (by omega : _ ≤ 300) (Nat.le_of_ble_eq_true rfl), Nat.le_trans (by omega : _ ≤ 3000) (Nat.le_of_ble_eq_true rfl)⟩) (fun r1 s1 H locs hv hP hS => ?_)
  have hD := wd_Dg (A := La s) (cel := celL ad cA) (σ := s1) hi hda
  refine lv_aload hx hb dL_law_570 (lv_at hl 12 rfl) ?_
  refine lv_iload hx hb dL_law_572 (lv_at hl 16 rfl) ?_
  obtain ⟨hin, hv⟩ := hv
  refine r_iald hx hb hK.1 hP 82 (by decide) (ceL_82 (s1 82)) hin dL_law_574 ?_
  refine lv_icmp_ne (tgt := 691) hx hb dL_law_575 (by decide) (fun c575 => ?_) (fun c575 => ?_)
  · have hv := hv.1 c575
    refine lv_iconst (v := 0) hx hb dL_law_691 (by decide) ?_
    exact hv.elim
  · have hv := hv.2 c575
    refine lv_aload hx hb dL_law_578 (lv_at hl 15 rfl) ?_
    refine lv_iload hx hb dL_law_580 (lv_at hl 16 rfl) ?_
    obtain ⟨hin, hv⟩ := hv
    refine r_iald hx hb hK.1 hP 84 (by decide) (ceL_84 (s1 84)) hin dL_law_582 ?_
    refine lv_aload hx hb dL_law_583 (lv_at hl 12 rfl) ?_
    refine lv_iload hx hb dL_law_585 (lv_at hl 16 rfl) ?_
    obtain ⟨hin, hv⟩ := hv
    refine r_iald hx hb hK.1 hP 82 (by decide) (ceL_82 (s1 82)) hin dL_law_587 ?_
    refine lv_icmp_lt (tgt := 691) hx hb dL_law_588 (by decide) (fun c588 => ?_) (fun c588 => ?_)
    · have hv := hv.1 c588
      refine lv_iconst (v := 0) hx hb dL_law_691 (by decide) ?_
      exact hv.elim
    · have hv := hv.2 c588
      refine lv_aload hx hb dL_law_591 (lv_at hl 13 rfl) ?_
      refine lv_iload hx hb dL_law_593 (lv_at hl 16 rfl) ?_
      obtain ⟨hin, hv⟩ := hv
      refine r_iald hx hb hK.1 hP 83 (by decide) (ceL_83 (s1 83)) hin dL_law_595 ?_
      refine lv_if_ne (tgt := 603) hx hb dL_law_596 (by decide) (fun c596 => ?_) (fun c596 => ?_)
      · have hv := hv.1 c596
        refine lv_iconst (v := 0) hx hb dL_law_603 (by decide) ?_
        exact hY 604 [x3, x4, x5, x6, x7, x8, x9, x10, x13, t0, x16, 0] [] s1 hv _ _ _ _ _ rfl ad H locs ls hi hda hP hS (lv_sub hl [1, 2, 3, 4, 5, 6, 7, 8, 9, 10, 11, 12, 13, 14, 15, 0, 16] rfl)
      · have hv := hv.2 c596
        refine lv_iconst (v := 1) hx hb dL_law_599 (by decide) ?_
        refine lv_goto (tgt := 604) hx hb dL_law_600 (by decide) ?_
        exact hY 604 [x3, x4, x5, x6, x7, x8, x9, x10, x13, t0, x16, 1] [] s1 hv _ _ _ _ _ rfl ad H locs ls hi hda hP hS (lv_sub hl [1, 2, 3, 4, 5, 6, 7, 8, 9, 10, 11, 12, 13, 14, 15, 0, 16] rfl)
set_option maxHeartbeats 8000000 in
set_option maxRecDepth 100000 in
theorem w_L_law_604 {p : Program} {l : Launch} {e : Env} {s : State} {m : MethodId} {below : List Frame} {meth : Method} {c : Code} {dC : Nat → ClassId} {dI : Nat → Nat → Nat} {cA cZ : ClassId} {b L : Nat} {xs : Nat → Int32} (C0 : LC p s m meth c b L xs dC dI cA cZ) (Y : Nat → List Int32 → List Int64 → St → Prop) (hY : ∀ P xs ys σ, Y P xs ys σ → XW p l e s m below meth c b dC dI cA P xs ys σ) (x3 : Int32) (x4 : Int32) (x5 : Int32) (x6 : Int32) (x7 : Int32) (x8 : Int32) (x9 : Int32) (x10 : Int32) (x13 : Int32) (x15 : Int32) (x16 : Int32) (t0 : Int32) (s0 : St) (hv : B_L_law_604 L xs Y x3 x4 x5 x6 x7 x8 x9 x10 x13 x15 x16 t0 s0) {ad : Nat → Nat} (hi : Inj 85 ad) (hda : ∀ k, k < 85 → La s (ad k)) {H : Heap} {locs : List Loc} {ls : Array Slot} (hP : va_P (dC, dI) vwCl (wd 85 ad (celL ad cA) s0) H) (hS : va_S (La s) s.heap H locs) (hl : lv_has ls 32 [(0, .ref b), (1, .ref (ad 0)), (2, .ref (ad 81)), (3, .int x3), (4, .int x4), (5, .int x5), (6, .int x6), (7, .int x7), (8, .int x8), (9, .int x9), (10, .int x10), (11, .ref (ad 82)), (12, .ref (ad 83)), (13, .int x13), (14, .ref (ad 84)), (15, .int x15), (16, .int x16)]) : W p l e room_1 s m #[Value.ref b] below meth c H locs (220) (2200) (lw_Z below #[Value.ref b] s) (F0 m 604 ls [.int t0]) := by
  obtain ⟨⟨hx, hb, hml, hown, hts, hr, hlocks⟩, hX, hbl, hK⟩ := C0
  have hbA : ¬ La s b := Nat.not_le.mpr hbl
  have hA2 : ∀ q, s.heap.size ≤ q → La s q := fun _ h => h
  have hD := wd_Dg (A := La s) (cel := celL ad cA) (σ := s0) hi hda
  unfold B_L_law_604 at hv
  refine lv_aload hx hb dL_law_604 (lv_at hl 11 rfl) ?_
  refine lv_iload hx hb dL_law_606 (lv_at hl 16 rfl) ?_
  obtain ⟨hin, hv⟩ := hv
  refine r_iald hx hb hK.1 hP 82 (by decide) (ceL_82 (s0 82)) hin dL_law_608 ?_
  refine lv_bipush (v := 23) hx hb dL_law_609 (by decide) ?_
  refine lv_icmp_ne (tgt := 618) hx hb dL_law_611 (by decide) (fun c611 => ?_) (fun c611 => ?_)
  · have hv := hv.1 c611
    refine lv_iconst (v := 0) hx hb dL_law_618 (by decide) ?_
    exact hY 619 [x3, x4, x5, x6, x7, x8, x9, x10, x13, x15, x16, 0, t0] [] s0 hv _ _ _ _ _ rfl ad H locs ls hi hda hP hS (lv_sub hl [0, 1, 2, 3, 4, 5, 6, 7, 8, 9, 10, 11, 12, 13, 14, 15, 16] rfl)
  · have hv := hv.2 c611
    refine lv_iconst (v := 1) hx hb dL_law_614 (by decide) ?_
    refine lv_goto (tgt := 619) hx hb dL_law_615 (by decide) ?_
    exact hY 619 [x3, x4, x5, x6, x7, x8, x9, x10, x13, x15, x16, 1, t0] [] s0 hv _ _ _ _ _ rfl ad H locs ls hi hda hP hS (lv_sub hl [0, 1, 2, 3, 4, 5, 6, 7, 8, 9, 10, 11, 12, 13, 14, 15, 16] rfl)
set_option maxHeartbeats 8000000 in
set_option maxRecDepth 100000 in
theorem w_L_law_619 {p : Program} {l : Launch} {e : Env} {s : State} {m : MethodId} {below : List Frame} {meth : Method} {c : Code} {dC : Nat → ClassId} {dI : Nat → Nat → Nat} {cA cZ : ClassId} {b L : Nat} {xs : Nat → Int32} (C0 : LC p s m meth c b L xs dC dI cA cZ) (Y : Nat → List Int32 → List Int64 → St → Prop) (hY : ∀ P xs ys σ, Y P xs ys σ → XW p l e s m below meth c b dC dI cA P xs ys σ) (x3 : Int32) (x4 : Int32) (x5 : Int32) (x6 : Int32) (x7 : Int32) (x8 : Int32) (x9 : Int32) (x10 : Int32) (x13 : Int32) (x15 : Int32) (x16 : Int32) (t0 : Int32) (t1 : Int32) (s0 : St) (hv : B_L_law_619 L xs Y x3 x4 x5 x6 x7 x8 x9 x10 x13 x15 x16 t0 t1 s0) {ad : Nat → Nat} (hi : Inj 85 ad) (hda : ∀ k, k < 85 → La s (ad k)) {H : Heap} {locs : List Loc} {ls : Array Slot} (hP : va_P (dC, dI) vwCl (wd 85 ad (celL ad cA) s0) H) (hS : va_S (La s) s.heap H locs) (hl : lv_has ls 32 [(0, .ref b), (1, .ref (ad 0)), (2, .ref (ad 81)), (3, .int x3), (4, .int x4), (5, .int x5), (6, .int x6), (7, .int x7), (8, .int x8), (9, .int x9), (10, .int x10), (11, .ref (ad 82)), (12, .ref (ad 83)), (13, .int x13), (14, .ref (ad 84)), (15, .int x15), (16, .int x16)]) : W p l e room_1 s m #[Value.ref b] below meth c H locs (220) (2200) (lw_Z below #[Value.ref b] s) (F0 m 619 ls [.int t0, .int t1]) := by
  obtain ⟨⟨hx, hb, hml, hown, hts, hr, hlocks⟩, hX, hbl, hK⟩ := C0
  have hbA : ¬ La s b := Nat.not_le.mpr hbl
  have hA2 : ∀ q, s.heap.size ≤ q → La s q := fun _ h => h
  have hD := wd_Dg (A := La s) (cel := celL ad cA) (σ := s0) hi hda
  unfold B_L_law_619 at hv
  refine lv_icmp_ne (tgt := 691) hx hb dL_law_619 (by decide) (fun c619 => ?_) (fun c619 => ?_)
  · have hv := hv.1 c619
    refine lv_iconst (v := 0) hx hb dL_law_691 (by decide) ?_
    exact hv.elim
  · have hv := hv.2 c619
    refine lv_aload hx hb dL_law_622 (lv_at hl 12 rfl) ?_
    refine lv_iload hx hb dL_law_624 (lv_at hl 16 rfl) ?_
    obtain ⟨hin, hv⟩ := hv
    refine r_iald hx hb hK.1 hP 83 (by decide) (ceL_83 (s0 83)) hin dL_law_626 ?_
    refine lv_iconst (v := (-1)) hx hb dL_law_627 (by decide) ?_
    refine lv_icmp_lt (tgt := 691) hx hb dL_law_628 (by decide) (fun c628 => ?_) (fun c628 => ?_)
    · have hv := hv.1 c628
      refine lv_iconst (v := 0) hx hb dL_law_691 (by decide) ?_
      exact hv.elim
    · have hv := hv.2 c628
      refine lv_aload hx hb dL_law_631 (lv_at hl 12 rfl) ?_
      refine lv_iload hx hb dL_law_633 (lv_at hl 16 rfl) ?_
      obtain ⟨hin, hv⟩ := hv
      refine r_iald hx hb hK.1 hP 83 (by decide) (ceL_83 (s0 83)) hin dL_law_635 ?_
      refine lv_bipush (v := 60) hx hb dL_law_636 (by decide) ?_
      refine lv_icmp_gt (tgt := 691) hx hb dL_law_638 (by decide) (fun c638 => ?_) (fun c638 => ?_)
      · have hv := hv.1 c638
        refine lv_iconst (v := 0) hx hb dL_law_691 (by decide) ?_
        exact hv.elim
      · have hv := hv.2 c638
        refine lv_aload hx hb dL_law_641 (lv_at hl 12 rfl) ?_
        refine lv_iload hx hb dL_law_643 (lv_at hl 16 rfl) ?_
        obtain ⟨hin, hv⟩ := hv
        refine r_iald hx hb hK.1 hP 83 (by decide) (ceL_83 (s0 83)) hin dL_law_645 ?_
        refine lv_if_lt (tgt := 665) hx hb dL_law_646 (by decide) (fun c646 => ?_) (fun c646 => ?_)
        · have hv := hv.1 c646
          exact hY 665 [x3, x4, x5, x6, x7, x8, x9, x10, x13, x15, x16] [] s0 hv _ _ _ _ _ rfl ad H locs ls hi hda hP hS (lv_sub hl [0, 1, 2, 3, 4, 5, 6, 7, 8, 9, 10, 11, 12, 13, 14, 15, 16] rfl)
        · have hv := hv.2 c646
          refine lv_aload_n hx hb dL_law_649 rfl (lv_at hl 1 rfl) ?_
          refine lv_iload hx hb dL_law_650 (lv_at hl 16 rfl) ?_
          refine lv_aload hx hb dL_law_652 (lv_at hl 12 rfl) ?_
          refine lv_iload hx hb dL_law_654 (lv_at hl 16 rfl) ?_
          obtain ⟨hin, hv⟩ := hv
          refine r_iald hx hb hK.1 hP 83 (by decide) (ceL_83 (s0 83)) hin dL_law_656 ?_
          refine r_lci hi hP hS (aa_A (by decide) hda hA2 hS) (va_runV (As := [.int x16, .int (s0 83 x16.toNatClampNeg)]) (rest := []) ⟨hx, hb, hml, hown, hts⟩ (c_X10_where (inj_le (by decide) hi) x16 (s0 83 x16.toNatClampNeg) _ _ hv H.size) (cwV 2 (fun w h => hts w (iv_X10_where_66 w h)) gv_X10_where_66 rfl rfl rfl (by decide +kernel) ⟨(Nat.le_of_ble_eq_true rfl), (Nat.le_of_ble_eq_true rfl)⟩) ⟨pre_blind, r_recv hK.1 (wd_cls (by decide) hP) 0 (by decide) (ceGR_0 (s0 0)) rfl, pre_of (wd_cls (by decide) hP) hK⟩ rfl rfl hl.1 rfl (lv_room (Nat.le_of_ble_eq_true rfl)) dL_law_657 ⟨Nat.le_trans (by omega : _ ≤ 300) (Nat.le_of_ble_eq_true rfl), Nat.le_trans (by omega : _ ≤ 3000) (Nat.le_of_ble_eq_true rfl)⟩) (fun r1 s1 H locs hv hP hS => ?_)
          have hD := wd_Dg (A := La s) (cel := celL ad cA) (σ := s1) hi hda
          refine lv_bipush (v := 23) hx hb dL_law_660 (by decide) ?_
          refine lv_icmp_ne (tgt := 691) hx hb dL_law_662 (by decide) (fun c662 => ?_) (fun c662 => ?_)
          · have hv := hv.1 c662
            refine lv_iconst (v := 0) hx hb dL_law_691 (by decide) ?_
            exact hv.elim
          · have hv := hv.2 c662
            exact hY 665 [x3, x4, x5, x6, x7, x8, x9, x10, x13, x15, x16] [] s1 hv _ _ _ _ _ rfl ad H locs ls hi hda hP hS (lv_sub hl [0, 1, 2, 3, 4, 5, 6, 7, 8, 9, 10, 11, 12, 13, 14, 15, 16] rfl)
set_option maxHeartbeats 8000000 in
set_option maxRecDepth 100000 in
theorem w_L_law_665 {p : Program} {l : Launch} {e : Env} {s : State} {m : MethodId} {below : List Frame} {meth : Method} {c : Code} {dC : Nat → ClassId} {dI : Nat → Nat → Nat} {cA cZ : ClassId} {b L : Nat} {xs : Nat → Int32} (C0 : LC p s m meth c b L xs dC dI cA cZ) (Y : Nat → List Int32 → List Int64 → St → Prop) (hY : ∀ P xs ys σ, Y P xs ys σ → XW p l e s m below meth c b dC dI cA P xs ys σ) (x3 : Int32) (x4 : Int32) (x5 : Int32) (x6 : Int32) (x7 : Int32) (x8 : Int32) (x9 : Int32) (x10 : Int32) (x13 : Int32) (x15 : Int32) (x16 : Int32) (s0 : St) (hv : B_L_law_665 L xs Y x3 x4 x5 x6 x7 x8 x9 x10 x13 x15 x16 s0) {ad : Nat → Nat} (hi : Inj 85 ad) (hda : ∀ k, k < 85 → La s (ad k)) {H : Heap} {locs : List Loc} {ls : Array Slot} (hP : va_P (dC, dI) vwCl (wd 85 ad (celL ad cA) s0) H) (hS : va_S (La s) s.heap H locs) (hl : lv_has ls 32 [(0, .ref b), (1, .ref (ad 0)), (2, .ref (ad 81)), (3, .int x3), (4, .int x4), (5, .int x5), (6, .int x6), (7, .int x7), (8, .int x8), (9, .int x9), (10, .int x10), (11, .ref (ad 82)), (12, .ref (ad 83)), (13, .int x13), (14, .ref (ad 84)), (15, .int x15), (16, .int x16)]) : W p l e room_1 s m #[Value.ref b] below meth c H locs (220) (2200) (lw_Z below #[Value.ref b] s) (F0 m 665 ls []) := by
  obtain ⟨⟨hx, hb, hml, hown, hts, hr, hlocks⟩, hX, hbl, hK⟩ := C0
  have hbA : ¬ La s b := Nat.not_le.mpr hbl
  have hA2 : ∀ q, s.heap.size ≤ q → La s q := fun _ h => h
  have hD := wd_Dg (A := La s) (cel := celL ad cA) (σ := s0) hi hda
  unfold B_L_law_665 at hv
  refine lv_aload hx hb dL_law_665 (lv_at hl 12 rfl) ?_
  refine lv_iload hx hb dL_law_667 (lv_at hl 16 rfl) ?_
  obtain ⟨hin, hv⟩ := hv
  refine r_iald hx hb hK.1 hP 83 (by decide) (ceL_83 (s0 83)) hin dL_law_669 ?_
  refine lv_if_le (tgt := 693) hx hb dL_law_670 (by decide) (fun c670 => ?_) (fun c670 => ?_)
  · have hv := hv.1 c670
    refine lv_iinc (v := x16 + 1) (lv' := [(16, .int (x16 + 1)), (0, .ref b), (1, .ref (ad 0)), (2, .ref (ad 81)), (3, .int x3), (4, .int x4), (5, .int x5), (6, .int x6), (7, .int x7), (8, .int x8), (9, .int x9), (10, .int x10), (11, .ref (ad 82)), (12, .ref (ad 83)), (13, .int x13), (14, .ref (ad 84)), (15, .int x15)]) hx hb dL_law_693 hl (k := 16) rfl rfl (by decide) rfl (fun ls hl => ?_)
    refine lv_goto (tgt := 462) hx hb dL_law_696 (by decide) ?_
    exact hY 462 [x3, x4, x5, x6, x7, x8, x9, x10, x13, x15, x16 + 1] [] s0 hv _ _ _ _ _ rfl ad H locs ls hi hda hP hS (lv_sub hl [1, 2, 3, 4, 5, 6, 7, 8, 9, 10, 11, 12, 13, 14, 15, 16, 0] rfl)
  · have hv := hv.2 c670
    refine lv_aload_n hx hb dL_law_673 rfl (lv_at hl 1 rfl) ?_
    refine lv_iload hx hb dL_law_674 (lv_at hl 16 rfl) ?_
    refine lv_aload hx hb dL_law_676 (lv_at hl 12 rfl) ?_
    refine lv_iload hx hb dL_law_678 (lv_at hl 16 rfl) ?_
    obtain ⟨hin, hv⟩ := hv
    refine r_iald hx hb hK.1 hP 83 (by decide) (ceL_83 (s0 83)) hin dL_law_680 ?_
    refine lv_iconst (v := 1) hx hb dL_law_681 (by decide) ?_
    refine lv_isub hx hb dL_law_682 ?_
    refine r_lci hi hP hS (aa_A (by decide) hda hA2 hS) (va_runV (As := [.int x16, .int ((s0 83 x16.toNatClampNeg) - 1)]) (rest := []) ⟨hx, hb, hml, hown, hts⟩ (c_X10_where (inj_le (by decide) hi) x16 ((s0 83 x16.toNatClampNeg) - 1) _ _ hv H.size) (cwV 2 (fun w h => hts w (iv_X10_where_66 w h)) gv_X10_where_66 rfl rfl rfl (by decide +kernel) ⟨(Nat.le_of_ble_eq_true rfl), (Nat.le_of_ble_eq_true rfl)⟩) ⟨pre_blind, r_recv hK.1 (wd_cls (by decide) hP) 0 (by decide) (ceGR_0 (s0 0)) rfl, pre_of (wd_cls (by decide) hP) hK⟩ rfl rfl hl.1 rfl (lv_room (Nat.le_of_ble_eq_true rfl)) dL_law_683 ⟨Nat.le_trans (by omega : _ ≤ 300) (Nat.le_of_ble_eq_true rfl), Nat.le_trans (by omega : _ ≤ 3000) (Nat.le_of_ble_eq_true rfl)⟩) (fun r1 s1 H locs hv hP hS => ?_)
    have hD := wd_Dg (A := La s) (cel := celL ad cA) (σ := s1) hi hda
    refine lv_bipush (v := 23) hx hb dL_law_686 (by decide) ?_
    refine lv_icmp_ne (tgt := 693) hx hb dL_law_688 (by decide) (fun c688 => ?_) (fun c688 => ?_)
    · have hv := hv.1 c688
      refine lv_iinc (v := x16 + 1) (lv' := [(16, .int (x16 + 1)), (0, .ref b), (1, .ref (ad 0)), (2, .ref (ad 81)), (3, .int x3), (4, .int x4), (5, .int x5), (6, .int x6), (7, .int x7), (8, .int x8), (9, .int x9), (10, .int x10), (11, .ref (ad 82)), (12, .ref (ad 83)), (13, .int x13), (14, .ref (ad 84)), (15, .int x15)]) hx hb dL_law_693 hl (k := 16) rfl rfl (by decide) rfl (fun ls hl => ?_)
      refine lv_goto (tgt := 462) hx hb dL_law_696 (by decide) ?_
      exact hY 462 [x3, x4, x5, x6, x7, x8, x9, x10, x13, x15, x16 + 1] [] s1 hv _ _ _ _ _ rfl ad H locs ls hi hda hP hS (lv_sub hl [1, 2, 3, 4, 5, 6, 7, 8, 9, 10, 11, 12, 13, 14, 15, 16, 0] rfl)
    · have hv := hv.2 c688
      refine lv_iconst (v := 0) hx hb dL_law_691 (by decide) ?_
      exact hv.elim
set_option maxHeartbeats 8000000 in
set_option maxRecDepth 100000 in
theorem w_L_law_727 {p : Program} {l : Launch} {e : Env} {s : State} {m : MethodId} {below : List Frame} {meth : Method} {c : Code} {dC : Nat → ClassId} {dI : Nat → Nat → Nat} {cA cZ : ClassId} {b L : Nat} {xs : Nat → Int32} (C0 : LC p s m meth c b L xs dC dI cA cZ) (Y : Nat → List Int32 → List Int64 → St → Prop) (hY : ∀ P xs ys σ, Y P xs ys σ → XW p l e s m below meth c b dC dI cA P xs ys σ) (x3 : Int32) (x4 : Int32) (x5 : Int32) (x6 : Int32) (x7 : Int32) (x8 : Int32) (x13 : Int32) (s0 : St) (hv : B_L_law_727 L xs Y x3 x4 x5 x6 x7 x8 x13 s0) {ad : Nat → Nat} (hi : Inj 85 ad) (hda : ∀ k, k < 85 → La s (ad k)) {H : Heap} {locs : List Loc} {ls : Array Slot} (hP : va_P (dC, dI) vwCl (wd 85 ad (celL ad cA) s0) H) (hS : va_S (La s) s.heap H locs) (hl : lv_has ls 32 [(0, .ref b), (1, .ref (ad 0)), (2, .ref (ad 81)), (3, .int x3), (4, .int x4), (5, .int x5), (6, .int x6), (7, .int x7), (8, .int x8), (11, .ref (ad 82)), (13, .int x13), (14, .ref (ad 84))]) : W p l e room_1 s m #[Value.ref b] below meth c H locs (220) (2200) (lw_Z below #[Value.ref b] s) (F0 m 727 ls []) := by
  obtain ⟨⟨hx, hb, hml, hown, hts, hr, hlocks⟩, hX, hbl, hK⟩ := C0
  have hbA : ¬ La s b := Nat.not_le.mpr hbl
  have hA2 : ∀ q, s.heap.size ≤ q → La s q := fun _ h => h
  have hD := wd_Dg (A := La s) (cel := celL ad cA) (σ := s0) hi hda
  unfold B_L_law_727 at hv
  refine lv_aload_n hx hb dL_law_727 rfl (lv_at hl 1 rfl) ?_
  refine lv_iload hx hb dL_law_728 (lv_at hl 10 rfl) ?_
  refine r_lci hi hP hS (aa_A (by decide) hda hA2 hS) (va_runV (As := [.int x13]) (rest := []) ⟨hx, hb, hml, hown, hts⟩ (c_X10_hours (inj_le (by decide) hi) x13 _ _ hv H.size) (cwV 1 (fun w h => hts w (iv_X10_hours_54 w h)) gv_X10_hours_54 rfl rfl rfl (by decide +kernel) ⟨(Nat.le_of_ble_eq_true rfl), (Nat.le_of_ble_eq_true rfl)⟩) ⟨pre_blind, r_recv hK.1 (wd_cls (by decide) hP) 0 (by decide) (ceGR_0 (s0 0)) rfl, pre_of (wd_cls (by decide) hP) hK⟩ rfl rfl hl.1 rfl (lv_room (Nat.le_of_ble_eq_true rfl)) dL_law_730 ⟨Nat.le_trans (by omega : _ ≤ 300) (Nat.le_of_ble_eq_true rfl), Nat.le_trans (by omega : _ ≤ 3000) (Nat.le_of_ble_eq_true rfl)⟩) (fun r1 s1 H locs hv hP hS => ?_)
  have hD := wd_Dg (A := La s) (cel := celL ad cA) (σ := s1) hi hda
  refine lv_istore (lv' := [(16, .int r1), (0, .ref b), (1, .ref (ad 0)), (2, .ref (ad 81)), (3, .int x3), (4, .int x4), (5, .int x5), (6, .int x6), (7, .int x7), (8, .int x8), (11, .ref (ad 82)), (13, .int x13), (14, .ref (ad 84))]) hx hb dL_law_733 hl (by decide) rfl (fun ls hl => ?_)
  refine lv_iconst (v := 0) hx hb dL_law_735 (by decide) ?_
  refine lv_istore (lv' := [(17, .int 0), (16, .int r1), (0, .ref b), (1, .ref (ad 0)), (2, .ref (ad 81)), (3, .int x3), (4, .int x4), (5, .int x5), (6, .int x6), (7, .int x7), (8, .int x8), (11, .ref (ad 82)), (13, .int x13), (14, .ref (ad 84))]) hx hb dL_law_736 hl (by decide) rfl (fun ls hl => ?_)
  refine lv_iconst (v := 0) hx hb dL_law_738 (by decide) ?_
  refine lv_istore (lv' := [(18, .int 0), (17, .int 0), (16, .int r1), (0, .ref b), (1, .ref (ad 0)), (2, .ref (ad 81)), (3, .int x3), (4, .int x4), (5, .int x5), (6, .int x6), (7, .int x7), (8, .int x8), (11, .ref (ad 82)), (13, .int x13), (14, .ref (ad 84))]) hx hb dL_law_739 hl (by decide) rfl (fun ls hl => ?_)
  exact hY 741 [x3, x4, x5, x6, x7, x8, x13, r1, 0, 0] [] s1 hv _ _ _ _ _ rfl ad H locs ls hi hda hP hS (lv_sub hl [3, 4, 5, 6, 7, 8, 9, 10, 11, 12, 13, 14, 2, 1, 0] rfl)
set_option maxHeartbeats 8000000 in
set_option maxRecDepth 100000 in
theorem w_L_law_741 {p : Program} {l : Launch} {e : Env} {s : State} {m : MethodId} {below : List Frame} {meth : Method} {c : Code} {dC : Nat → ClassId} {dI : Nat → Nat → Nat} {cA cZ : ClassId} {b L : Nat} {xs : Nat → Int32} (C0 : LC p s m meth c b L xs dC dI cA cZ) (Y : Nat → List Int32 → List Int64 → St → Prop) (hY : ∀ P xs ys σ, Y P xs ys σ → XW p l e s m below meth c b dC dI cA P xs ys σ) (x3 : Int32) (x4 : Int32) (x5 : Int32) (x6 : Int32) (x7 : Int32) (x8 : Int32) (x13 : Int32) (x16 : Int32) (x17 : Int32) (x18 : Int32) (s0 : St) (hv : B_L_law_741 L xs Y x3 x4 x5 x6 x7 x8 x13 x16 x17 x18 s0) {ad : Nat → Nat} (hi : Inj 85 ad) (hda : ∀ k, k < 85 → La s (ad k)) {H : Heap} {locs : List Loc} {ls : Array Slot} (hP : va_P (dC, dI) vwCl (wd 85 ad (celL ad cA) s0) H) (hS : va_S (La s) s.heap H locs) (hl : lv_has ls 32 [(0, .ref b), (1, .ref (ad 0)), (2, .ref (ad 81)), (3, .int x3), (4, .int x4), (5, .int x5), (6, .int x6), (7, .int x7), (8, .int x8), (11, .ref (ad 82)), (13, .int x13), (14, .ref (ad 84)), (16, .int x16), (17, .int x17), (18, .int x18)]) : W p l e room_1 s m #[Value.ref b] below meth c H locs (220) (2200) (lw_Z below #[Value.ref b] s) (F0 m 741 ls []) := by
  obtain ⟨⟨hx, hb, hml, hown, hts, hr, hlocks⟩, hX, hbl, hK⟩ := C0
  have hbA : ¬ La s b := Nat.not_le.mpr hbl
  have hA2 : ∀ q, s.heap.size ≤ q → La s q := fun _ h => h
  have hD := wd_Dg (A := La s) (cel := celL ad cA) (σ := s0) hi hda
  unfold B_L_law_741 at hv
  refine lv_iload hx hb dL_law_741 (lv_at hl 14 rfl) ?_
  refine lv_iload_n hx hb dL_law_743 rfl (lv_at hl 3 rfl) ?_
  refine lv_icmp_ge (tgt := 790) hx hb dL_law_744 (by decide) (fun c744 => ?_) (fun c744 => ?_)
  · have hv := hv.1 c744
    refine lv_iload hx hb dL_law_790 (lv_at hl 12 rfl) ?_
    refine lv_iload hx hb dL_law_792 (lv_at hl 13 rfl) ?_
    refine lv_icmp_ne (tgt := 829) hx hb dL_law_794 (by decide) (fun c794 => ?_) (fun c794 => ?_)
    · have hv := hv.1 c794
      refine lv_iconst (v := 0) hx hb dL_law_829 (by decide) ?_
      exact hv.elim
    · have hv := hv.2 c794
      refine lv_aload_n hx hb dL_law_797 rfl (lv_at hl 1 rfl) ?_
      refine lv_iconst (v := 2) hx hb dL_law_798 (by decide) ?_
      refine r_lci hi hP hS (aa_A (by decide) hda hA2 hS) (va_runV (As := [.int 2]) (rest := []) ⟨hx, hb, hml, hown, hts⟩ (c_X10_count (inj_le (by decide) hi) 2 _ _ hv H.size) (cwV 1 (fun w h => hts w (iv_X10_count_48 w h)) gv_X10_count_48 rfl rfl rfl (by decide +kernel) ⟨(Nat.le_of_ble_eq_true rfl), (Nat.le_of_ble_eq_true rfl)⟩) ⟨pre_blind, r_recv hK.1 (wd_cls (by decide) hP) 0 (by decide) (ceGR_0 (s0 0)) rfl, pre_of (wd_cls (by decide) hP) hK⟩ rfl rfl hl.1 rfl (lv_room (Nat.le_of_ble_eq_true rfl)) dL_law_799 ⟨Nat.le_trans (by omega : _ ≤ 300) (Nat.le_of_ble_eq_true rfl), Nat.le_trans (by omega : _ ≤ 3000) (Nat.le_of_ble_eq_true rfl)⟩) (fun r1 s1 H locs hv hP hS => ?_)
      have hD := wd_Dg (A := La s) (cel := celL ad cA) (σ := s1) hi hda
      refine lv_iload hx hb dL_law_802 (lv_at hl 5 rfl) ?_
      refine lv_iload hx hb dL_law_804 (lv_at hl 10 rfl) ?_
      refine lv_iadd hx hb dL_law_806 ?_
      refine lv_icmp_ne (tgt := 829) hx hb dL_law_807 (by decide) (fun c807 => ?_) (fun c807 => ?_)
      · have hv := hv.1 c807
        refine lv_iconst (v := 0) hx hb dL_law_829 (by decide) ?_
        exact hv.elim
      · have hv := hv.2 c807
        refine lv_aload_n hx hb dL_law_810 rfl (lv_at hl 1 rfl) ?_
        refine r_lci hi hP hS (aa_A (by decide) hda hA2 hS) (va_runV (As := []) (rest := []) ⟨hx, hb, hml, hown, hts⟩ (c_X10_undo (inj_le (by decide) hi)  _ _ hv H.size) (cwV 0 (fun w h => hts w (iv_X10_undo_69 w h)) gv_X10_undo_69 rfl rfl rfl (by decide +kernel) ⟨(Nat.le_of_ble_eq_true rfl), (Nat.le_of_ble_eq_true rfl)⟩) ⟨pre_blind, r_recv hK.1 (wd_cls (by decide) hP) 0 (by decide) (ceGR_0 (s1 0)) rfl, pre_of (wd_cls (by decide) hP) hK⟩ rfl rfl hl.1 rfl (lv_room (Nat.le_of_ble_eq_true rfl)) dL_law_811 ⟨Nat.le_trans (by omega : _ ≤ 300) (Nat.le_of_ble_eq_true rfl), Nat.le_trans (by omega : _ ≤ 3000) (Nat.le_of_ble_eq_true rfl)⟩) (fun r2 s2 H locs hv hP hS => ?_)
        have hD := wd_Dg (A := La s) (cel := celL ad cA) (σ := s2) hi hda
        refine lv_iload hx hb dL_law_814 (lv_at hl 5 rfl) ?_
        refine lv_icmp_ne (tgt := 829) hx hb dL_law_816 (by decide) (fun c816 => ?_) (fun c816 => ?_)
        · have hv := hv.1 c816
          refine lv_iconst (v := 0) hx hb dL_law_829 (by decide) ?_
          exact hv.elim
        · have hv := hv.2 c816
          refine lv_aload_n hx hb dL_law_819 rfl (lv_at hl 1 rfl) ?_
          refine lv_iconst (v := 3) hx hb dL_law_820 (by decide) ?_
          refine r_lci hi hP hS (aa_A (by decide) hda hA2 hS) (va_runV (As := [.int 3]) (rest := []) ⟨hx, hb, hml, hown, hts⟩ (c_X10_count (inj_le (by decide) hi) 3 _ _ hv H.size) (cwV 1 (fun w h => hts w (iv_X10_count_48 w h)) gv_X10_count_48 rfl rfl rfl (by decide +kernel) ⟨(Nat.le_of_ble_eq_true rfl), (Nat.le_of_ble_eq_true rfl)⟩) ⟨pre_blind, r_recv hK.1 (wd_cls (by decide) hP) 0 (by decide) (ceGR_0 (s2 0)) rfl, pre_of (wd_cls (by decide) hP) hK⟩ rfl rfl hl.1 rfl (lv_room (Nat.le_of_ble_eq_true rfl)) dL_law_821 ⟨Nat.le_trans (by omega : _ ≤ 300) (Nat.le_of_ble_eq_true rfl), Nat.le_trans (by omega : _ ≤ 3000) (Nat.le_of_ble_eq_true rfl)⟩) (fun r3 s3 H locs hv hP hS => ?_)
          have hD := wd_Dg (A := La s) (cel := celL ad cA) (σ := s3) hi hda
          refine lv_iload hx hb dL_law_824 (lv_at hl 6 rfl) ?_
          refine lv_icmp_eq (tgt := 831) hx hb dL_law_826 (by decide) (fun c826 => ?_) (fun c826 => ?_)
          · have hv := hv.1 c826
            exact hY 831 [x3, x4, x5, x6, x7, x8] [] s3 hv _ _ _ _ _ rfl ad H locs ls hi hda hP hS (lv_sub hl [0, 1, 2, 3, 4, 5, 6, 7, 8, 9] rfl)
          · have hv := hv.2 c826
            refine lv_iconst (v := 0) hx hb dL_law_829 (by decide) ?_
            exact hv.elim
  · have hv := hv.2 c744
    refine lv_iload hx hb dL_law_747 (lv_at hl 13 rfl) ?_
    refine lv_aload hx hb dL_law_749 (lv_at hl 11 rfl) ?_
    refine lv_iload hx hb dL_law_751 (lv_at hl 14 rfl) ?_
    obtain ⟨hin, hv⟩ := hv
    refine r_iald hx hb hK.1 hP 84 (by decide) (ceL_84 (s0 84)) hin dL_law_753 ?_
    refine lv_bipush (v := 23) hx hb dL_law_754 (by decide) ?_
    refine lv_icmp_ne (tgt := 763) hx hb dL_law_756 (by decide) (fun c756 => ?_) (fun c756 => ?_)
    · have hv := hv.1 c756
      refine lv_iconst (v := 0) hx hb dL_law_763 (by decide) ?_
      exact hY 764 [x3, x4, x5, x6, x7, x8, x13, x16, x18, 0, x17] [] s0 hv _ _ _ _ _ rfl ad H locs ls hi hda hP hS (lv_sub hl [0, 1, 2, 3, 4, 5, 6, 7, 8, 9, 10, 11, 12, 14] rfl)
    · have hv := hv.2 c756
      refine lv_iconst (v := 1) hx hb dL_law_759 (by decide) ?_
      refine lv_goto (tgt := 764) hx hb dL_law_760 (by decide) ?_
      exact hY 764 [x3, x4, x5, x6, x7, x8, x13, x16, x18, 1, x17] [] s0 hv _ _ _ _ _ rfl ad H locs ls hi hda hP hS (lv_sub hl [0, 1, 2, 3, 4, 5, 6, 7, 8, 9, 10, 11, 12, 14] rfl)
set_option maxHeartbeats 8000000 in
set_option maxRecDepth 100000 in
theorem w_L_law_764 {p : Program} {l : Launch} {e : Env} {s : State} {m : MethodId} {below : List Frame} {meth : Method} {c : Code} {dC : Nat → ClassId} {dI : Nat → Nat → Nat} {cA cZ : ClassId} {b L : Nat} {xs : Nat → Int32} (C0 : LC p s m meth c b L xs dC dI cA cZ) (Y : Nat → List Int32 → List Int64 → St → Prop) (hY : ∀ P xs ys σ, Y P xs ys σ → XW p l e s m below meth c b dC dI cA P xs ys σ) (x3 : Int32) (x4 : Int32) (x5 : Int32) (x6 : Int32) (x7 : Int32) (x8 : Int32) (x13 : Int32) (x16 : Int32) (x18 : Int32) (t0 : Int32) (t1 : Int32) (s0 : St) (hv : B_L_law_764 L xs Y x3 x4 x5 x6 x7 x8 x13 x16 x18 t0 t1 s0) {ad : Nat → Nat} (hi : Inj 85 ad) (hda : ∀ k, k < 85 → La s (ad k)) {H : Heap} {locs : List Loc} {ls : Array Slot} (hP : va_P (dC, dI) vwCl (wd 85 ad (celL ad cA) s0) H) (hS : va_S (La s) s.heap H locs) (hl : lv_has ls 32 [(0, .ref b), (1, .ref (ad 0)), (2, .ref (ad 81)), (3, .int x3), (4, .int x4), (5, .int x5), (6, .int x6), (7, .int x7), (8, .int x8), (11, .ref (ad 82)), (13, .int x13), (14, .ref (ad 84)), (16, .int x16), (18, .int x18)]) : W p l e room_1 s m #[Value.ref b] below meth c H locs (220) (2200) (lw_Z below #[Value.ref b] s) (F0 m 764 ls [.int t0, .int t1]) := by
  obtain ⟨⟨hx, hb, hml, hown, hts, hr, hlocks⟩, hX, hbl, hK⟩ := C0
  have hbA : ¬ La s b := Nat.not_le.mpr hbl
  have hA2 : ∀ q, s.heap.size ≤ q → La s q := fun _ h => h
  have hD := wd_Dg (A := La s) (cel := celL ad cA) (σ := s0) hi hda
  unfold B_L_law_764 at hv
  refine lv_iadd hx hb dL_law_764 ?_
  refine lv_istore (lv' := [(17, .int (t1 + t0)), (0, .ref b), (1, .ref (ad 0)), (2, .ref (ad 81)), (3, .int x3), (4, .int x4), (5, .int x5), (6, .int x6), (7, .int x7), (8, .int x8), (11, .ref (ad 82)), (13, .int x13), (14, .ref (ad 84)), (16, .int x16), (18, .int x18)]) hx hb dL_law_765 hl (by decide) rfl (fun ls hl => ?_)
  refine lv_aload_n hx hb dL_law_767 rfl (lv_at hl 2 rfl) ?_
  refine lv_iload hx hb dL_law_768 (lv_at hl 14 rfl) ?_
  refine lv_iconst (v := 2) hx hb dL_law_770 (by decide) ?_
  refine r_lci hi hP hS (aa_A (by decide) hda hA2 hS) (va_runV (As := [.int x18, .int 2]) (rest := []) ⟨hx, hb, hml, hown, hts⟩ (c_X10_of (inj_le (by decide) hi) x18 2 _ _ hv H.size) (cwV 2 (fun w h => hts w (iv_X10_of_51 w h)) gv_X10_of_51 rfl rfl rfl (by decide +kernel) ⟨(Nat.le_of_ble_eq_true rfl), (Nat.le_of_ble_eq_true rfl)⟩) ⟨pre_blind, r_recv hK.1 (wd_cls (by decide) hP) 0 (by decide) (ceGR_0 (s0 0)) rfl, pre_of (wd_cls (by decide) hP) hK⟩ rfl rfl hl.1 rfl (lv_room (Nat.le_of_ble_eq_true rfl)) dL_law_771 ⟨Nat.le_trans (by omega : _ ≤ 300) (Nat.le_of_ble_eq_true rfl), Nat.le_trans (by omega : _ ≤ 3000) (Nat.le_of_ble_eq_true rfl)⟩) (fun r1 s1 H locs hv hP hS => ?_)
  have hD := wd_Dg (A := La s) (cel := celL ad cA) (σ := s1) hi hda
  refine lv_aload hx hb dL_law_774 (lv_at hl 12 rfl) ?_
  refine lv_iload hx hb dL_law_776 (lv_at hl 14 rfl) ?_
  obtain ⟨hin, hv⟩ := hv
  refine r_iald hx hb hK.1 hP 84 (by decide) (ceL_84 (s1 84)) hin dL_law_778 ?_
  refine lv_icmp_eq (tgt := 784) hx hb dL_law_779 (by decide) (fun c779 => ?_) (fun c779 => ?_)
  · have hv := hv.1 c779
    refine lv_iinc (v := x18 + 1) (lv' := [(18, .int (x18 + 1)), (17, .int (t1 + t0)), (0, .ref b), (1, .ref (ad 0)), (2, .ref (ad 81)), (3, .int x3), (4, .int x4), (5, .int x5), (6, .int x6), (7, .int x7), (8, .int x8), (11, .ref (ad 82)), (13, .int x13), (14, .ref (ad 84)), (16, .int x16)]) hx hb dL_law_784 hl (k := 14) rfl rfl (by decide) rfl (fun ls hl => ?_)
    refine lv_goto (tgt := 741) hx hb dL_law_787 (by decide) ?_
    exact hY 741 [x3, x4, x5, x6, x7, x8, x13, x16, t1 + t0, x18 + 1] [] s1 hv _ _ _ _ _ rfl ad H locs ls hi hda hP hS (lv_sub hl [2, 3, 4, 5, 6, 7, 8, 9, 10, 11, 12, 13, 14, 1, 0] rfl)
  · have hv := hv.2 c779
    refine lv_iconst (v := 0) hx hb dL_law_782 (by decide) ?_
    exact hv.elim
set_option maxHeartbeats 8000000 in
set_option maxRecDepth 100000 in
theorem w_L_law_831 {p : Program} {l : Launch} {e : Env} {s : State} {m : MethodId} {below : List Frame} {meth : Method} {c : Code} {dC : Nat → ClassId} {dI : Nat → Nat → Nat} {cA cZ : ClassId} {b L : Nat} {xs : Nat → Int32} (C0 : LC p s m meth c b L xs dC dI cA cZ) (Y : Nat → List Int32 → List Int64 → St → Prop) (hY : ∀ P xs ys σ, Y P xs ys σ → XW p l e s m below meth c b dC dI cA P xs ys σ) (x3 : Int32) (x4 : Int32) (x5 : Int32) (x6 : Int32) (x7 : Int32) (x8 : Int32) (s0 : St) (hv : B_L_law_831 L xs Y x3 x4 x5 x6 x7 x8 s0) {ad : Nat → Nat} (hi : Inj 85 ad) (hda : ∀ k, k < 85 → La s (ad k)) {H : Heap} {locs : List Loc} {ls : Array Slot} (hP : va_P (dC, dI) vwCl (wd 85 ad (celL ad cA) s0) H) (hS : va_S (La s) s.heap H locs) (hl : lv_has ls 32 [(0, .ref b), (1, .ref (ad 0)), (2, .ref (ad 81)), (3, .int x3), (4, .int x4), (5, .int x5), (6, .int x6), (7, .int x7), (8, .int x8), (11, .ref (ad 82))]) : W p l e room_1 s m #[Value.ref b] below meth c H locs (220) (2200) (lw_Z below #[Value.ref b] s) (F0 m 831 ls []) := by
  obtain ⟨⟨hx, hb, hml, hown, hts, hr, hlocks⟩, hX, hbl, hK⟩ := C0
  have hbA : ¬ La s b := Nat.not_le.mpr hbl
  have hA2 : ∀ q, s.heap.size ≤ q → La s q := fun _ h => h
  have hD := wd_Dg (A := La s) (cel := celL ad cA) (σ := s0) hi hda
  unfold B_L_law_831 at hv
  refine lv_aload_n hx hb dL_law_831 rfl (lv_at hl 1 rfl) ?_
  refine lv_iconst (v := (-1)) hx hb dL_law_832 (by decide) ?_
  refine r_lci hi hP hS (aa_A (by decide) hda hA2 hS) (va_runV (As := [.int ((-1))]) (rest := []) ⟨hx, hb, hml, hown, hts⟩ (c_X10_pairs (inj_le (by decide) hi) ((-1)) _ _ hv H.size) (cwV 1 (fun w h => hts w (iv_X10_pairs_72 w h)) gv_X10_pairs_72 rfl rfl rfl (by decide +kernel) ⟨(Nat.le_of_ble_eq_true rfl), (Nat.le_of_ble_eq_true rfl)⟩) ⟨pre_blind, r_recv hK.1 (wd_cls (by decide) hP) 0 (by decide) (ceGR_0 (s0 0)) rfl, pre_of (wd_cls (by decide) hP) hK⟩ rfl rfl hl.1 rfl (lv_room (Nat.le_of_ble_eq_true rfl)) dL_law_833 ⟨Nat.le_trans (by omega : _ ≤ 300) (Nat.le_of_ble_eq_true rfl), Nat.le_trans (by omega : _ ≤ 3000) (Nat.le_of_ble_eq_true rfl)⟩) (fun r1 s1 H locs hv hP hS => ?_)
  have hD := wd_Dg (A := La s) (cel := celL ad cA) (σ := s1) hi hda
  refine lv_istore (lv' := [(18, .int r1), (0, .ref b), (1, .ref (ad 0)), (2, .ref (ad 81)), (3, .int x3), (4, .int x4), (5, .int x5), (6, .int x6), (7, .int x7), (8, .int x8), (11, .ref (ad 82))]) hx hb dL_law_836 hl (by decide) rfl (fun ls hl => ?_)
  refine lv_iconst (v := 0) hx hb dL_law_838 (by decide) ?_
  refine lv_istore (lv' := [(19, .int 0), (18, .int r1), (0, .ref b), (1, .ref (ad 0)), (2, .ref (ad 81)), (3, .int x3), (4, .int x4), (5, .int x5), (6, .int x6), (7, .int x7), (8, .int x8), (11, .ref (ad 82))]) hx hb dL_law_839 hl (by decide) rfl (fun ls hl => ?_)
  refine lv_iconst (v := 0) hx hb dL_law_841 (by decide) ?_
  refine lv_istore (lv' := [(20, .int 0), (19, .int 0), (18, .int r1), (0, .ref b), (1, .ref (ad 0)), (2, .ref (ad 81)), (3, .int x3), (4, .int x4), (5, .int x5), (6, .int x6), (7, .int x7), (8, .int x8), (11, .ref (ad 82))]) hx hb dL_law_842 hl (by decide) rfl (fun ls hl => ?_)
  exact hY 844 [x3, x4, x5, x6, x7, x8, r1, 0, 0] [] s1 hv _ _ _ _ _ rfl ad H locs ls hi hda hP hS (lv_sub hl [3, 4, 5, 6, 7, 8, 9, 10, 11, 12, 2, 1, 0] rfl)
set_option maxHeartbeats 8000000 in
set_option maxRecDepth 100000 in
theorem w_L_law_844 {p : Program} {l : Launch} {e : Env} {s : State} {m : MethodId} {below : List Frame} {meth : Method} {c : Code} {dC : Nat → ClassId} {dI : Nat → Nat → Nat} {cA cZ : ClassId} {b L : Nat} {xs : Nat → Int32} (C0 : LC p s m meth c b L xs dC dI cA cZ) (Y : Nat → List Int32 → List Int64 → St → Prop) (hY : ∀ P xs ys σ, Y P xs ys σ → XW p l e s m below meth c b dC dI cA P xs ys σ) (x3 : Int32) (x4 : Int32) (x5 : Int32) (x6 : Int32) (x7 : Int32) (x8 : Int32) (x18 : Int32) (x19 : Int32) (x20 : Int32) (s0 : St) (hv : B_L_law_844 L xs Y x3 x4 x5 x6 x7 x8 x18 x19 x20 s0) {ad : Nat → Nat} (hi : Inj 85 ad) (hda : ∀ k, k < 85 → La s (ad k)) {H : Heap} {locs : List Loc} {ls : Array Slot} (hP : va_P (dC, dI) vwCl (wd 85 ad (celL ad cA) s0) H) (hS : va_S (La s) s.heap H locs) (hl : lv_has ls 32 [(0, .ref b), (1, .ref (ad 0)), (2, .ref (ad 81)), (3, .int x3), (4, .int x4), (5, .int x5), (6, .int x6), (7, .int x7), (8, .int x8), (11, .ref (ad 82)), (18, .int x18), (19, .int x19), (20, .int x20)]) : W p l e room_1 s m #[Value.ref b] below meth c H locs (220) (2200) (lw_Z below #[Value.ref b] s) (F0 m 844 ls []) := by
  obtain ⟨⟨hx, hb, hml, hown, hts, hr, hlocks⟩, hX, hbl, hK⟩ := C0
  have hbA : ¬ La s b := Nat.not_le.mpr hbl
  have hA2 : ∀ q, s.heap.size ≤ q → La s q := fun _ h => h
  have hD := wd_Dg (A := La s) (cel := celL ad cA) (σ := s0) hi hda
  unfold B_L_law_844 at hv
  refine lv_iload hx hb dL_law_844 (lv_at hl 12 rfl) ?_
  refine lv_iload_n hx hb dL_law_846 rfl (lv_at hl 3 rfl) ?_
  refine lv_icmp_ge (tgt := 1055) hx hb dL_law_847 (by decide) (fun c847 => ?_) (fun c847 => ?_)
  · have hv := hv.1 c847
    refine lv_iload hx hb dL_law_1055 (lv_at hl 11 rfl) ?_
    refine lv_iconst (v := 2) hx hb dL_law_1057 (by decide) ?_
    refine lv_iload hx hb dL_law_1058 (lv_at hl 10 rfl) ?_
    refine lv_imul hx hb dL_law_1060 ?_
    refine lv_icmp_eq (tgt := 1066) hx hb dL_law_1061 (by decide) (fun c1061 => ?_) (fun c1061 => ?_)
    · have hv := hv.1 c1061
      exact hY 1066 [x3, x4, x5, x6, x7, x8] [] s0 hv _ _ _ _ _ rfl ad H locs ls hi hda hP hS (lv_sub hl [0, 1, 2, 3, 4, 5, 6, 7, 8, 9] rfl)
    · have hv := hv.2 c1061
      refine lv_iconst (v := 0) hx hb dL_law_1064 (by decide) ?_
      exact hv.elim
  · have hv := hv.2 c847
    refine lv_aload_n hx hb dL_law_850 rfl (lv_at hl 1 rfl) ?_
    refine lv_iload hx hb dL_law_851 (lv_at hl 12 rfl) ?_
    refine r_lci hi hP hS (aa_A (by decide) hda hA2 hS) (va_runV (As := [.int x20]) (rest := []) ⟨hx, hb, hml, hown, hts⟩ (c_X10_pairs (inj_le (by decide) hi) x20 _ _ hv H.size) (cwV 1 (fun w h => hts w (iv_X10_pairs_72 w h)) gv_X10_pairs_72 rfl rfl rfl (by decide +kernel) ⟨(Nat.le_of_ble_eq_true rfl), (Nat.le_of_ble_eq_true rfl)⟩) ⟨pre_blind, r_recv hK.1 (wd_cls (by decide) hP) 0 (by decide) (ceGR_0 (s0 0)) rfl, pre_of (wd_cls (by decide) hP) hK⟩ rfl rfl hl.1 rfl (lv_room (Nat.le_of_ble_eq_true rfl)) dL_law_853 ⟨Nat.le_trans (by omega : _ ≤ 300) (Nat.le_of_ble_eq_true rfl), Nat.le_trans (by omega : _ ≤ 3000) (Nat.le_of_ble_eq_true rfl)⟩) (fun r1 s1 H locs hv hP hS => ?_)
    have hD := wd_Dg (A := La s) (cel := celL ad cA) (σ := s1) hi hda
    refine lv_istore (lv' := [(21, .int r1), (0, .ref b), (1, .ref (ad 0)), (2, .ref (ad 81)), (3, .int x3), (4, .int x4), (5, .int x5), (6, .int x6), (7, .int x7), (8, .int x8), (11, .ref (ad 82)), (18, .int x18), (19, .int x19), (20, .int x20)]) hx hb dL_law_856 hl (by decide) rfl (fun ls hl => ?_)
    refine lv_iload hx hb dL_law_858 (lv_at hl 12 rfl) ?_
    refine lv_iload hx hb dL_law_860 (lv_at hl 0 rfl) ?_
    refine lv_if_lt (tgt := 869) hx hb dL_law_862 (by decide) (fun c862 => ?_) (fun c862 => ?_)
    · have hv := hv.1 c862
      refine lv_iconst (v := 0) hx hb dL_law_869 (by decide) ?_
      exact hY 870 [x3, x4, x5, x6, x7, x8, x18, x20, r1, 0, x19] [] s1 hv _ _ _ _ _ rfl ad H locs ls hi hda hP hS (lv_sub hl [1, 2, 3, 4, 5, 6, 7, 8, 9, 10, 11, 13, 0] rfl)
    · have hv := hv.2 c862
      refine lv_iconst (v := 1) hx hb dL_law_865 (by decide) ?_
      refine lv_goto (tgt := 870) hx hb dL_law_866 (by decide) ?_
      exact hY 870 [x3, x4, x5, x6, x7, x8, x18, x20, r1, 1, x19] [] s1 hv _ _ _ _ _ rfl ad H locs ls hi hda hP hS (lv_sub hl [1, 2, 3, 4, 5, 6, 7, 8, 9, 10, 11, 13, 0] rfl)
