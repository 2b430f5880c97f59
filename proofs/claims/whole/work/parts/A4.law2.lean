section LW
variable {p : Program} {l : Launch} {e : Env} {s : State} {m : MethodId} {below : List Frame} {meth : Method} {c : Code} {b L : Nat} {xs : Nat → Int32} {dC : Nat → ClassId} {dI : Nat → Nat → Nat} {cA cZ : ClassId} {ad bd adK adV : Nat → Nat} {σ τ : St} {H : Heap} {locs : List Loc} {ls : Array Slot} {i : Nat} {Z : State → Prop}
set_option maxHeartbeats 4000000 in
set_option maxRecDepth 100000 in
theorem lc_13 (C : LC p s m meth c b L xs dC dI cA cZ ad bd adK adV) (hJ : J σ τ) (hPX : PX dC dI cA ad σ H) (hPM : PM dC dI cA cZ bd τ H) (hS : va_S (La s) s.heap H locs) (hl : lv_has ls 4 [(3, .int (nI i)), (2, .ref (bd 0)), (1, .ref (ad 0)), (0, .ref b)]) (hi5 : i + 5 ≤ L) (kk : ∀ (u w : St) (H : Heap) (locs : List Loc), J u w → PX dC dI cA ad u H → PM dC dI cA cZ bd w H → va_S (La s) s.heap H locs → W p l e room_1 s m #[Value.ref b] below meth c H locs 93 2201 Z (F0 m 1159 ls [])) : W p l e room_1 s m #[Value.ref b] below meth c H locs 93 2201 Z (F0 m 525 ls []) := by
  obtain ⟨⟨hx, hb, hml, hown, hts⟩, ⟨hX, hbl, hL⟩, hKN, ⟨hZ, hR⟩, hi, hj, hda, hdb, hne⟩ := C
  have hbA : ¬ La s b := Nat.not_le.mpr hbl
  have hin : ∀ k, k < 5 → vp_in (nI i + nI k) L := fun k hk => by rw [nI_add]; exact vp_in_nI (by omega) (by omega)
  refine lv_aload_n hx hb dL_law_525 rfl (lv_at hl 2 rfl) ?_
  refine lv_aload_n hx hb dL_law_526 rfl (lv_at hl 3 rfl) ?_
  refine lv_iload_n hx hb dL_law_527 rfl (lv_at hl 0 rfl) ?_
  refine lv_iconst (v := 1) hx hb dL_law_528 (by decide) ?_
  refine lv_iadd hx hb dL_law_529 ?_
  refine va_sld hx hb hX hbl hbA hS (hin 1 (by omega)) dL_law_530 ?_
  refine lx_ci (va_runV (As := [.int (xs (nI i + 1).toNatClampNeg)]) (rest := []) ⟨hx, hb, hml, hown, hts⟩ (c_X10_when hi (xs (nI i + 1).toNatClampNeg) σ (fun r σ' => V_X11_when (xs (nI i + 1).toNatClampNeg) τ (fun r' τ' => r = r' ∧ J σ' τ')) (p_when hJ) H.size) (cwV 1 (fun w h => hts w (iv_X10_when w h)) gv_X10_when rfl rfl rfl (by decide +kernel) ⟨(Nat.le_of_ble_eq_true rfl), (Nat.le_of_ble_eq_true rfl)⟩) ⟨pre_blind, r_recv hKN.1.1 hPX 0 (by decide) (ceGR_0 (σ 0)) rfl, pre_of hPX hKN.1⟩ rfl rfl hl.1 rfl (lv_room (Nat.le_of_ble_eq_true rfl)) dL_law_531 ⟨(Nat.le_of_ble_eq_true rfl), (Nat.le_of_ble_eq_true rfl)⟩) hPM hS hda hne (fun r u H locs hw hPX hPM hS => ?_)
  refine lv_aload_n hx hb dL_law_534 rfl (lv_at hl 1 rfl) ?_
  refine lv_aload_n hx hb dL_law_535 rfl (lv_at hl 3 rfl) ?_
  refine lv_iload_n hx hb dL_law_536 rfl (lv_at hl 0 rfl) ?_
  refine lv_iconst (v := 1) hx hb dL_law_537 (by decide) ?_
  refine lv_iadd hx hb dL_law_538 ?_
  refine va_sld hx hb hX hbl hbA hS (hin 1 (by omega)) dL_law_539 ?_
  refine lm_ci (va_runV (As := [.int (xs (nI i + 1).toNatClampNeg)]) (rest := [.int r]) ⟨hx, hb, hml, hown, hts⟩ (c_X11_when hj (xs (nI i + 1).toNatClampNeg) τ (fun r' τ' => r = r' ∧ J u τ') hw H.size) (cwV 1 (fun w h => hts w (iv_X11_when w h)) gv_X11_when rfl rfl rfl (by decide +kernel) ⟨(Nat.le_of_ble_eq_true rfl), (Nat.le_of_ble_eq_true rfl)⟩) ⟨pre_blind, r_recv hKN.1.1 hPM 0 (by decide) (ceMo_0 (τ 0)) rfl, pre_of hPM hKN.1⟩ rfl rfl hl.1 rfl (lv_room (Nat.le_of_ble_eq_true rfl)) dL_law_540 ⟨(Nat.le_of_ble_eq_true rfl), (Nat.le_of_ble_eq_true rfl)⟩) hPX hS hdb hne (fun r2 w H locs hw2 hPX hPM hS => ?_)
  refine lv_icmp_eq (tgt := 1159) hx hb dL_law_543 (by decide) (fun _ => ?_) (fun c9 => absurd hw2.1 c9)
  exact kk u w H locs hw2.2 hPX hPM hS
set_option maxHeartbeats 4000000 in
set_option maxRecDepth 100000 in
theorem lc_14 (C : LC p s m meth c b L xs dC dI cA cZ ad bd adK adV) (hJ : J σ τ) (hPX : PX dC dI cA ad σ H) (hPM : PM dC dI cA cZ bd τ H) (hS : va_S (La s) s.heap H locs) (hl : lv_has ls 4 [(3, .int (nI i)), (2, .ref (bd 0)), (1, .ref (ad 0)), (0, .ref b)]) (hi5 : i + 5 ≤ L) (kk : ∀ (u w : St) (H : Heap) (locs : List Loc), J u w → PX dC dI cA ad u H → PM dC dI cA cZ bd w H → va_S (La s) s.heap H locs → W p l e room_1 s m #[Value.ref b] below meth c H locs 93 2201 Z (F0 m 1159 ls [])) : W p l e room_1 s m #[Value.ref b] below meth c H locs 93 2201 Z (F0 m 548 ls []) := by
  obtain ⟨⟨hx, hb, hml, hown, hts⟩, ⟨hX, hbl, hL⟩, hKN, ⟨hZ, hR⟩, hi, hj, hda, hdb, hne⟩ := C
  have hbA : ¬ La s b := Nat.not_le.mpr hbl
  have hin : ∀ k, k < 5 → vp_in (nI i + nI k) L := fun k hk => by rw [nI_add]; exact vp_in_nI (by omega) (by omega)
  refine lv_aload_n hx hb dL_law_548 rfl (lv_at hl 2 rfl) ?_
  refine lv_aload_n hx hb dL_law_549 rfl (lv_at hl 3 rfl) ?_
  refine lv_iload_n hx hb dL_law_550 rfl (lv_at hl 0 rfl) ?_
  refine lv_iconst (v := 1) hx hb dL_law_551 (by decide) ?_
  refine lv_iadd hx hb dL_law_552 ?_
  refine va_sld hx hb hX hbl hbA hS (hin 1 (by omega)) dL_law_553 ?_
  refine lx_ci (va_runV (As := [.int (xs (nI i + 1).toNatClampNeg)]) (rest := []) ⟨hx, hb, hml, hown, hts⟩ (c_X10_pairs hi (xs (nI i + 1).toNatClampNeg) σ (fun r σ' => V_X11_pairs (xs (nI i + 1).toNatClampNeg) τ (fun r' τ' => r = r' ∧ J σ' τ')) (p_pairs hJ) H.size) (cwV 1 (fun w h => hts w (iv_X10_pairs w h)) gv_X10_pairs rfl rfl rfl (by decide +kernel) ⟨(Nat.le_of_ble_eq_true rfl), (Nat.le_of_ble_eq_true rfl)⟩) ⟨pre_blind, r_recv hKN.1.1 hPX 0 (by decide) (ceGR_0 (σ 0)) rfl, pre_of hPX hKN.1⟩ rfl rfl hl.1 rfl (lv_room (Nat.le_of_ble_eq_true rfl)) dL_law_554 ⟨(Nat.le_of_ble_eq_true rfl), (Nat.le_of_ble_eq_true rfl)⟩) hPM hS hda hne (fun r u H locs hw hPX hPM hS => ?_)
  refine lv_aload_n hx hb dL_law_557 rfl (lv_at hl 1 rfl) ?_
  refine lv_aload_n hx hb dL_law_558 rfl (lv_at hl 3 rfl) ?_
  refine lv_iload_n hx hb dL_law_559 rfl (lv_at hl 0 rfl) ?_
  refine lv_iconst (v := 1) hx hb dL_law_560 (by decide) ?_
  refine lv_iadd hx hb dL_law_561 ?_
  refine va_sld hx hb hX hbl hbA hS (hin 1 (by omega)) dL_law_562 ?_
  refine lm_ci (va_runV (As := [.int (xs (nI i + 1).toNatClampNeg)]) (rest := [.int r]) ⟨hx, hb, hml, hown, hts⟩ (c_X11_pairs hj (xs (nI i + 1).toNatClampNeg) τ (fun r' τ' => r = r' ∧ J u τ') hw H.size) (cwV 1 (fun w h => hts w (iv_X11_pairs w h)) gv_X11_pairs rfl rfl rfl (by decide +kernel) ⟨(Nat.le_of_ble_eq_true rfl), (Nat.le_of_ble_eq_true rfl)⟩) ⟨pre_blind, r_recv hKN.1.1 hPM 0 (by decide) (ceMo_0 (τ 0)) rfl, pre_of hPM hKN.1⟩ rfl rfl hl.1 rfl (lv_room (Nat.le_of_ble_eq_true rfl)) dL_law_563 ⟨(Nat.le_of_ble_eq_true rfl), (Nat.le_of_ble_eq_true rfl)⟩) hPX hS hdb hne (fun r2 w H locs hw2 hPX hPM hS => ?_)
  refine lv_icmp_eq (tgt := 1159) hx hb dL_law_566 (by decide) (fun _ => ?_) (fun c9 => absurd hw2.1 c9)
  exact kk u w H locs hw2.2 hPX hPM hS
set_option maxHeartbeats 4000000 in
set_option maxRecDepth 100000 in
theorem lc_15 (C : LC p s m meth c b L xs dC dI cA cZ ad bd adK adV) (hJ : J σ τ) (hPX : PX dC dI cA ad σ H) (hPM : PM dC dI cA cZ bd τ H) (hS : va_S (La s) s.heap H locs) (hl : lv_has ls 4 [(3, .int (nI i)), (2, .ref (bd 0)), (1, .ref (ad 0)), (0, .ref b)]) (hi5 : i + 5 ≤ L) (kk : ∀ (u w : St) (H : Heap) (locs : List Loc), J u w → PX dC dI cA ad u H → PM dC dI cA cZ bd w H → va_S (La s) s.heap H locs → W p l e room_1 s m #[Value.ref b] below meth c H locs 93 2201 Z (F0 m 1159 ls [])) : W p l e room_1 s m #[Value.ref b] below meth c H locs 93 2201 Z (F0 m 571 ls []) := by
  obtain ⟨⟨hx, hb, hml, hown, hts⟩, ⟨hX, hbl, hL⟩, hKN, ⟨hZ, hR⟩, hi, hj, hda, hdb, hne⟩ := C
  have hbA : ¬ La s b := Nat.not_le.mpr hbl
  have hin : ∀ k, k < 5 → vp_in (nI i + nI k) L := fun k hk => by rw [nI_add]; exact vp_in_nI (by omega) (by omega)
  refine lv_aload_n hx hb dL_law_571 rfl (lv_at hl 2 rfl) ?_
  refine lv_aload_n hx hb dL_law_572 rfl (lv_at hl 3 rfl) ?_
  refine lv_iload_n hx hb dL_law_573 rfl (lv_at hl 0 rfl) ?_
  refine lv_iconst (v := 1) hx hb dL_law_574 (by decide) ?_
  refine lv_iadd hx hb dL_law_575 ?_
  refine va_sld hx hb hX hbl hbA hS (hin 1 (by omega)) dL_law_576 ?_
  refine lx_ci (va_runV (As := [.int (xs (nI i + 1).toNatClampNeg)]) (rest := []) ⟨hx, hb, hml, hown, hts⟩ (c_X10_heap hi (xs (nI i + 1).toNatClampNeg) σ (fun r σ' => V_X11_heap (xs (nI i + 1).toNatClampNeg) τ (fun r' τ' => r = r' ∧ J σ' τ')) (p_heap hJ) H.size) (cwV 1 (fun w h => hts w (iv_X10_heap w h)) gv_X10_heap rfl rfl rfl (by decide +kernel) ⟨(Nat.le_of_ble_eq_true rfl), (Nat.le_of_ble_eq_true rfl)⟩) ⟨pre_blind, r_recv hKN.1.1 hPX 0 (by decide) (ceGR_0 (σ 0)) rfl, pre_of hPX hKN.1⟩ rfl rfl hl.1 rfl (lv_room (Nat.le_of_ble_eq_true rfl)) dL_law_577 ⟨(Nat.le_of_ble_eq_true rfl), (Nat.le_of_ble_eq_true rfl)⟩) hPM hS hda hne (fun r u H locs hw hPX hPM hS => ?_)
  refine lv_aload_n hx hb dL_law_580 rfl (lv_at hl 1 rfl) ?_
  refine lv_aload_n hx hb dL_law_581 rfl (lv_at hl 3 rfl) ?_
  refine lv_iload_n hx hb dL_law_582 rfl (lv_at hl 0 rfl) ?_
  refine lv_iconst (v := 1) hx hb dL_law_583 (by decide) ?_
  refine lv_iadd hx hb dL_law_584 ?_
  refine va_sld hx hb hX hbl hbA hS (hin 1 (by omega)) dL_law_585 ?_
  refine lm_ci (va_runV (As := [.int (xs (nI i + 1).toNatClampNeg)]) (rest := [.int r]) ⟨hx, hb, hml, hown, hts⟩ (c_X11_heap hj (xs (nI i + 1).toNatClampNeg) τ (fun r' τ' => r = r' ∧ J u τ') hw H.size) (cwV 1 (fun w h => hts w (iv_X11_heap w h)) gv_X11_heap rfl rfl rfl (by decide +kernel) ⟨(Nat.le_of_ble_eq_true rfl), (Nat.le_of_ble_eq_true rfl)⟩) ⟨pre_blind, r_recv hKN.1.1 hPM 0 (by decide) (ceMo_0 (τ 0)) rfl, pre_of hPM hKN.1⟩ rfl rfl hl.1 rfl (lv_room (Nat.le_of_ble_eq_true rfl)) dL_law_586 ⟨(Nat.le_of_ble_eq_true rfl), (Nat.le_of_ble_eq_true rfl)⟩) hPX hS hdb hne (fun r2 w H locs hw2 hPX hPM hS => ?_)
  refine lv_icmp_eq (tgt := 1159) hx hb dL_law_589 (by decide) (fun _ => ?_) (fun c9 => absurd hw2.1 c9)
  exact kk u w H locs hw2.2 hPX hPM hS
set_option maxHeartbeats 4000000 in
set_option maxRecDepth 100000 in
theorem lc_16 (C : LC p s m meth c b L xs dC dI cA cZ ad bd adK adV) (hJ : J σ τ) (hPX : PX dC dI cA ad σ H) (hPM : PM dC dI cA cZ bd τ H) (hS : va_S (La s) s.heap H locs) (hl : lv_has ls 4 [(3, .int (nI i)), (2, .ref (bd 0)), (1, .ref (ad 0)), (0, .ref b)]) (hi5 : i + 5 ≤ L) (kk : ∀ (u w : St) (H : Heap) (locs : List Loc), J u w → PX dC dI cA ad u H → PM dC dI cA cZ bd w H → va_S (La s) s.heap H locs → W p l e room_1 s m #[Value.ref b] below meth c H locs 93 2201 Z (F0 m 1159 ls [])) : W p l e room_1 s m #[Value.ref b] below meth c H locs 93 2201 Z (F0 m 594 ls []) := by
  obtain ⟨⟨hx, hb, hml, hown, hts⟩, ⟨hX, hbl, hL⟩, hKN, ⟨hZ, hR⟩, hi, hj, hda, hdb, hne⟩ := C
  have hbA : ¬ La s b := Nat.not_le.mpr hbl
  have hin : ∀ k, k < 5 → vp_in (nI i + nI k) L := fun k hk => by rw [nI_add]; exact vp_in_nI (by omega) (by omega)
  refine lv_aload_n hx hb dL_law_594 rfl (lv_at hl 2 rfl) ?_
  refine lv_aload_n hx hb dL_law_595 rfl (lv_at hl 3 rfl) ?_
  refine lv_iload_n hx hb dL_law_596 rfl (lv_at hl 0 rfl) ?_
  refine lv_iconst (v := 1) hx hb dL_law_597 (by decide) ?_
  refine lv_iadd hx hb dL_law_598 ?_
  refine va_sld hx hb hX hbl hbA hS (hin 1 (by omega)) dL_law_599 ?_
  refine lx_ci (va_runV (As := [.int (xs (nI i + 1).toNatClampNeg)]) (rest := []) ⟨hx, hb, hml, hown, hts⟩ (c_X10_hold hi (xs (nI i + 1).toNatClampNeg) σ (fun r σ' => V_X11_hold (xs (nI i + 1).toNatClampNeg) τ (fun r' τ' => r = r' ∧ J σ' τ')) (p_hold hJ) H.size) (cwV 1 (fun w h => hts w (iv_X10_hold w h)) gv_X10_hold rfl rfl rfl (by decide +kernel) ⟨(Nat.le_of_ble_eq_true rfl), (Nat.le_of_ble_eq_true rfl)⟩) ⟨pre_blind, r_recv hKN.1.1 hPX 0 (by decide) (ceGR_0 (σ 0)) rfl, pre_of hPX hKN.1⟩ rfl rfl hl.1 rfl (lv_room (Nat.le_of_ble_eq_true rfl)) dL_law_600 ⟨(Nat.le_of_ble_eq_true rfl), (Nat.le_of_ble_eq_true rfl)⟩) hPM hS hda hne (fun r u H locs hw hPX hPM hS => ?_)
  refine lv_aload_n hx hb dL_law_603 rfl (lv_at hl 1 rfl) ?_
  refine lv_aload_n hx hb dL_law_604 rfl (lv_at hl 3 rfl) ?_
  refine lv_iload_n hx hb dL_law_605 rfl (lv_at hl 0 rfl) ?_
  refine lv_iconst (v := 1) hx hb dL_law_606 (by decide) ?_
  refine lv_iadd hx hb dL_law_607 ?_
  refine va_sld hx hb hX hbl hbA hS (hin 1 (by omega)) dL_law_608 ?_
  refine lm_ci (va_runV (As := [.int (xs (nI i + 1).toNatClampNeg)]) (rest := [.int r]) ⟨hx, hb, hml, hown, hts⟩ (c_X11_hold hj (xs (nI i + 1).toNatClampNeg) τ (fun r' τ' => r = r' ∧ J u τ') hw H.size) (cwV 1 (fun w h => hts w (iv_X11_hold w h)) gv_X11_hold rfl rfl rfl (by decide +kernel) ⟨(Nat.le_of_ble_eq_true rfl), (Nat.le_of_ble_eq_true rfl)⟩) ⟨pre_blind, r_recv hKN.1.1 hPM 0 (by decide) (ceMo_0 (τ 0)) rfl, pre_of hPM hKN.1⟩ rfl rfl hl.1 rfl (lv_room (Nat.le_of_ble_eq_true rfl)) dL_law_609 ⟨(Nat.le_of_ble_eq_true rfl), (Nat.le_of_ble_eq_true rfl)⟩) hPX hS hdb hne (fun r2 w H locs hw2 hPX hPM hS => ?_)
  refine lv_icmp_eq (tgt := 1159) hx hb dL_law_612 (by decide) (fun _ => ?_) (fun c9 => absurd hw2.1 c9)
  exact kk u w H locs hw2.2 hPX hPM hS
set_option maxHeartbeats 4000000 in
set_option maxRecDepth 100000 in
theorem lc_17 (C : LC p s m meth c b L xs dC dI cA cZ ad bd adK adV) (hJ : J σ τ) (hPX : PX dC dI cA ad σ H) (hPM : PM dC dI cA cZ bd τ H) (hS : va_S (La s) s.heap H locs) (hl : lv_has ls 4 [(3, .int (nI i)), (2, .ref (bd 0)), (1, .ref (ad 0)), (0, .ref b)]) (hi5 : i + 5 ≤ L) (kk : ∀ (u w : St) (H : Heap) (locs : List Loc), J u w → PX dC dI cA ad u H → PM dC dI cA cZ bd w H → va_S (La s) s.heap H locs → W p l e room_1 s m #[Value.ref b] below meth c H locs 93 2201 Z (F0 m 1159 ls [])) : W p l e room_1 s m #[Value.ref b] below meth c H locs 93 2201 Z (F0 m 617 ls []) := by
  obtain ⟨⟨hx, hb, hml, hown, hts⟩, ⟨hX, hbl, hL⟩, hKN, ⟨hZ, hR⟩, hi, hj, hda, hdb, hne⟩ := C
  have hbA : ¬ La s b := Nat.not_le.mpr hbl
  have hin : ∀ k, k < 5 → vp_in (nI i + nI k) L := fun k hk => by rw [nI_add]; exact vp_in_nI (by omega) (by omega)
  refine lv_aload_n hx hb dL_law_617 rfl (lv_at hl 2 rfl) ?_
  refine lv_aload_n hx hb dL_law_618 rfl (lv_at hl 3 rfl) ?_
  refine lv_iload_n hx hb dL_law_619 rfl (lv_at hl 0 rfl) ?_
  refine lv_iconst (v := 1) hx hb dL_law_620 (by decide) ?_
  refine lv_iadd hx hb dL_law_621 ?_
  refine va_sld hx hb hX hbl hbA hS (hin 1 (by omega)) dL_law_622 ?_
  refine lv_aload_n hx hb dL_law_623 rfl (lv_at hl 3 rfl) ?_
  refine lv_iload_n hx hb dL_law_624 rfl (lv_at hl 0 rfl) ?_
  refine lv_iconst (v := 2) hx hb dL_law_625 (by decide) ?_
  refine lv_iadd hx hb dL_law_626 ?_
  refine va_sld hx hb hX hbl hbA hS (hin 2 (by omega)) dL_law_627 ?_
  refine lv_aload_n hx hb dL_law_628 rfl (lv_at hl 3 rfl) ?_
  refine lv_iload_n hx hb dL_law_629 rfl (lv_at hl 0 rfl) ?_
  refine lv_iconst (v := 3) hx hb dL_law_630 (by decide) ?_
  refine lv_iadd hx hb dL_law_631 ?_
  refine va_sld hx hb hX hbl hbA hS (hin 3 (by omega)) dL_law_632 ?_
  refine lx_ci (va_runV (As := [.int (xs (nI i + 1).toNatClampNeg), .int (xs (nI i + 2).toNatClampNeg), .int (xs (nI i + 3).toNatClampNeg)]) (rest := []) ⟨hx, hb, hml, hown, hts⟩ (c_X10_drop hi (xs (nI i + 1).toNatClampNeg) (xs (nI i + 2).toNatClampNeg) (xs (nI i + 3).toNatClampNeg) σ (fun r σ' => V_X11_drop (xs (nI i + 1).toNatClampNeg) (xs (nI i + 2).toNatClampNeg) (xs (nI i + 3).toNatClampNeg) τ (fun r' τ' => r = r' ∧ J σ' τ')) (p_drop hJ) H.size) (cwV 3 (fun w h => hts w (iv_X10_drop w h)) gv_X10_drop rfl rfl rfl (by decide +kernel) ⟨(Nat.le_of_ble_eq_true rfl), (Nat.le_of_ble_eq_true rfl)⟩) ⟨pre_blind, r_recv hKN.1.1 hPX 0 (by decide) (ceGR_0 (σ 0)) rfl, pre_of hPX hKN.1⟩ rfl rfl hl.1 rfl (lv_room (Nat.le_of_ble_eq_true rfl)) dL_law_633 ⟨(Nat.le_of_ble_eq_true rfl), (Nat.le_of_ble_eq_true rfl)⟩) hPM hS hda hne (fun r u H locs hw hPX hPM hS => ?_)
  refine lv_aload_n hx hb dL_law_636 rfl (lv_at hl 1 rfl) ?_
  refine lv_aload_n hx hb dL_law_637 rfl (lv_at hl 3 rfl) ?_
  refine lv_iload_n hx hb dL_law_638 rfl (lv_at hl 0 rfl) ?_
  refine lv_iconst (v := 1) hx hb dL_law_639 (by decide) ?_
  refine lv_iadd hx hb dL_law_640 ?_
  refine va_sld hx hb hX hbl hbA hS (hin 1 (by omega)) dL_law_641 ?_
  refine lv_aload_n hx hb dL_law_642 rfl (lv_at hl 3 rfl) ?_
  refine lv_iload_n hx hb dL_law_643 rfl (lv_at hl 0 rfl) ?_
  refine lv_iconst (v := 2) hx hb dL_law_644 (by decide) ?_
  refine lv_iadd hx hb dL_law_645 ?_
  refine va_sld hx hb hX hbl hbA hS (hin 2 (by omega)) dL_law_646 ?_
  refine lv_aload_n hx hb dL_law_647 rfl (lv_at hl 3 rfl) ?_
  refine lv_iload_n hx hb dL_law_648 rfl (lv_at hl 0 rfl) ?_
  refine lv_iconst (v := 3) hx hb dL_law_649 (by decide) ?_
  refine lv_iadd hx hb dL_law_650 ?_
  refine va_sld hx hb hX hbl hbA hS (hin 3 (by omega)) dL_law_651 ?_
  refine lm_ci (va_runV (As := [.int (xs (nI i + 1).toNatClampNeg), .int (xs (nI i + 2).toNatClampNeg), .int (xs (nI i + 3).toNatClampNeg)]) (rest := [.int r]) ⟨hx, hb, hml, hown, hts⟩ (c_X11_drop hj (xs (nI i + 1).toNatClampNeg) (xs (nI i + 2).toNatClampNeg) (xs (nI i + 3).toNatClampNeg) τ (fun r' τ' => r = r' ∧ J u τ') hw H.size) (cwV 3 (fun w h => hts w (iv_X11_drop w h)) gv_X11_drop rfl rfl rfl (by decide +kernel) ⟨(Nat.le_of_ble_eq_true rfl), (Nat.le_of_ble_eq_true rfl)⟩) ⟨pre_blind, r_recv hKN.1.1 hPM 0 (by decide) (ceMo_0 (τ 0)) rfl, pre_of hPM hKN.1⟩ rfl rfl hl.1 rfl (lv_room (Nat.le_of_ble_eq_true rfl)) dL_law_652 ⟨(Nat.le_of_ble_eq_true rfl), (Nat.le_of_ble_eq_true rfl)⟩) hPX hS hdb hne (fun r2 w H locs hw2 hPX hPM hS => ?_)
  refine lv_icmp_eq (tgt := 1159) hx hb dL_law_655 (by decide) (fun _ => ?_) (fun c9 => absurd hw2.1 c9)
  exact kk u w H locs hw2.2 hPX hPM hS
set_option maxHeartbeats 4000000 in
set_option maxRecDepth 100000 in
theorem lc_18 (C : LC p s m meth c b L xs dC dI cA cZ ad bd adK adV) (hJ : J σ τ) (hPX : PX dC dI cA ad σ H) (hPM : PM dC dI cA cZ bd τ H) (hS : va_S (La s) s.heap H locs) (hl : lv_has ls 4 [(3, .int (nI i)), (2, .ref (bd 0)), (1, .ref (ad 0)), (0, .ref b)]) (hi5 : i + 5 ≤ L) (kk : ∀ (u w : St) (H : Heap) (locs : List Loc), J u w → PX dC dI cA ad u H → PM dC dI cA cZ bd w H → va_S (La s) s.heap H locs → W p l e room_1 s m #[Value.ref b] below meth c H locs 93 2201 Z (F0 m 1159 ls [])) : W p l e room_1 s m #[Value.ref b] below meth c H locs 93 2201 Z (F0 m 660 ls []) := by
  obtain ⟨⟨hx, hb, hml, hown, hts⟩, ⟨hX, hbl, hL⟩, hKN, ⟨hZ, hR⟩, hi, hj, hda, hdb, hne⟩ := C
  have hbA : ¬ La s b := Nat.not_le.mpr hbl
  have hin : ∀ k, k < 5 → vp_in (nI i + nI k) L := fun k hk => by rw [nI_add]; exact vp_in_nI (by omega) (by omega)
  refine lv_aload_n hx hb dL_law_660 rfl (lv_at hl 2 rfl) ?_
  refine lv_aload_n hx hb dL_law_661 rfl (lv_at hl 3 rfl) ?_
  refine lv_iload_n hx hb dL_law_662 rfl (lv_at hl 0 rfl) ?_
  refine lv_iconst (v := 1) hx hb dL_law_663 (by decide) ?_
  refine lv_iadd hx hb dL_law_664 ?_
  refine va_sld hx hb hX hbl hbA hS (hin 1 (by omega)) dL_law_665 ?_
  refine lv_aload_n hx hb dL_law_666 rfl (lv_at hl 3 rfl) ?_
  refine lv_iload_n hx hb dL_law_667 rfl (lv_at hl 0 rfl) ?_
  refine lv_iconst (v := 2) hx hb dL_law_668 (by decide) ?_
  refine lv_iadd hx hb dL_law_669 ?_
  refine va_sld hx hb hX hbl hbA hS (hin 2 (by omega)) dL_law_670 ?_
  refine lx_ci (va_runV (As := [.int (xs (nI i + 1).toNatClampNeg), .int (xs (nI i + 2).toNatClampNeg)]) (rest := []) ⟨hx, hb, hml, hown, hts⟩ (c_X10_seen hi (xs (nI i + 1).toNatClampNeg) (xs (nI i + 2).toNatClampNeg) σ (fun r σ' => V_X11_seen (xs (nI i + 1).toNatClampNeg) (xs (nI i + 2).toNatClampNeg) τ (fun r' τ' => r = r' ∧ J σ' τ')) (p_seen hJ) H.size) (cwV 2 (fun w h => hts w (iv_X10_seen w h)) gv_X10_seen rfl rfl rfl (by decide +kernel) ⟨(Nat.le_of_ble_eq_true rfl), (Nat.le_of_ble_eq_true rfl)⟩) ⟨pre_blind, r_recv hKN.1.1 hPX 0 (by decide) (ceGR_0 (σ 0)) rfl, pre_of hPX hKN.1⟩ rfl rfl hl.1 rfl (lv_room (Nat.le_of_ble_eq_true rfl)) dL_law_671 ⟨(Nat.le_of_ble_eq_true rfl), (Nat.le_of_ble_eq_true rfl)⟩) hPM hS hda hne (fun r u H locs hw hPX hPM hS => ?_)
  refine lv_aload_n hx hb dL_law_674 rfl (lv_at hl 1 rfl) ?_
  refine lv_aload_n hx hb dL_law_675 rfl (lv_at hl 3 rfl) ?_
  refine lv_iload_n hx hb dL_law_676 rfl (lv_at hl 0 rfl) ?_
  refine lv_iconst (v := 1) hx hb dL_law_677 (by decide) ?_
  refine lv_iadd hx hb dL_law_678 ?_
  refine va_sld hx hb hX hbl hbA hS (hin 1 (by omega)) dL_law_679 ?_
  refine lv_aload_n hx hb dL_law_680 rfl (lv_at hl 3 rfl) ?_
  refine lv_iload_n hx hb dL_law_681 rfl (lv_at hl 0 rfl) ?_
  refine lv_iconst (v := 2) hx hb dL_law_682 (by decide) ?_
  refine lv_iadd hx hb dL_law_683 ?_
  refine va_sld hx hb hX hbl hbA hS (hin 2 (by omega)) dL_law_684 ?_
  refine lm_ci (va_runV (As := [.int (xs (nI i + 1).toNatClampNeg), .int (xs (nI i + 2).toNatClampNeg)]) (rest := [.int r]) ⟨hx, hb, hml, hown, hts⟩ (c_X11_seen hj (xs (nI i + 1).toNatClampNeg) (xs (nI i + 2).toNatClampNeg) τ (fun r' τ' => r = r' ∧ J u τ') hw H.size) (cwV 2 (fun w h => hts w (iv_X11_seen w h)) gv_X11_seen rfl rfl rfl (by decide +kernel) ⟨(Nat.le_of_ble_eq_true rfl), (Nat.le_of_ble_eq_true rfl)⟩) ⟨pre_blind, r_recv hKN.1.1 hPM 0 (by decide) (ceMo_0 (τ 0)) rfl, pre_of hPM hKN.1⟩ rfl rfl hl.1 rfl (lv_room (Nat.le_of_ble_eq_true rfl)) dL_law_685 ⟨(Nat.le_of_ble_eq_true rfl), (Nat.le_of_ble_eq_true rfl)⟩) hPX hS hdb hne (fun r2 w H locs hw2 hPX hPM hS => ?_)
  refine lv_icmp_eq (tgt := 1159) hx hb dL_law_688 (by decide) (fun _ => ?_) (fun c9 => absurd hw2.1 c9)
  exact kk u w H locs hw2.2 hPX hPM hS
set_option maxHeartbeats 4000000 in
set_option maxRecDepth 100000 in
theorem lc_19 (C : LC p s m meth c b L xs dC dI cA cZ ad bd adK adV) (hJ : J σ τ) (hPX : PX dC dI cA ad σ H) (hPM : PM dC dI cA cZ bd τ H) (hS : va_S (La s) s.heap H locs) (hl : lv_has ls 4 [(3, .int (nI i)), (2, .ref (bd 0)), (1, .ref (ad 0)), (0, .ref b)]) (hi5 : i + 5 ≤ L) (kk : ∀ (u w : St) (H : Heap) (locs : List Loc), J u w → PX dC dI cA ad u H → PM dC dI cA cZ bd w H → va_S (La s) s.heap H locs → W p l e room_1 s m #[Value.ref b] below meth c H locs 93 2201 Z (F0 m 1159 ls [])) : W p l e room_1 s m #[Value.ref b] below meth c H locs 93 2201 Z (F0 m 693 ls []) := by
  obtain ⟨⟨hx, hb, hml, hown, hts⟩, ⟨hX, hbl, hL⟩, hKN, ⟨hZ, hR⟩, hi, hj, hda, hdb, hne⟩ := C
  have hbA : ¬ La s b := Nat.not_le.mpr hbl
  have hin : ∀ k, k < 5 → vp_in (nI i + nI k) L := fun k hk => by rw [nI_add]; exact vp_in_nI (by omega) (by omega)
  refine lv_aload_n hx hb dL_law_693 rfl (lv_at hl 2 rfl) ?_
  refine lx_ci (va_runV (As := []) (rest := []) ⟨hx, hb, hml, hown, hts⟩ (c_X10_which hi  σ (fun r σ' => V_X11_which  τ (fun r' τ' => r = r' ∧ J σ' τ')) (p_which hJ) H.size) (cwV 0 (fun w h => hts w (iv_X10_which w h)) gv_X10_which rfl rfl rfl (by decide +kernel) ⟨(Nat.le_of_ble_eq_true rfl), (Nat.le_of_ble_eq_true rfl)⟩) ⟨pre_blind, r_recv hKN.1.1 hPX 0 (by decide) (ceGR_0 (σ 0)) rfl, pre_of hPX hKN.1⟩ rfl rfl hl.1 rfl (lv_room (Nat.le_of_ble_eq_true rfl)) dL_law_694 ⟨(Nat.le_of_ble_eq_true rfl), (Nat.le_of_ble_eq_true rfl)⟩) hPM hS hda hne (fun r u H locs hw hPX hPM hS => ?_)
  refine lv_aload_n hx hb dL_law_697 rfl (lv_at hl 1 rfl) ?_
  refine lm_ci (va_runV (As := []) (rest := [.int r]) ⟨hx, hb, hml, hown, hts⟩ (c_X11_which hj  τ (fun r' τ' => r = r' ∧ J u τ') hw H.size) (cwV 0 (fun w h => hts w (iv_X11_which w h)) gv_X11_which rfl rfl rfl (by decide +kernel) ⟨(Nat.le_of_ble_eq_true rfl), (Nat.le_of_ble_eq_true rfl)⟩) ⟨pre_blind, r_recv hKN.1.1 hPM 0 (by decide) (ceMo_0 (τ 0)) rfl, pre_of hPM hKN.1⟩ rfl rfl hl.1 rfl (lv_room (Nat.le_of_ble_eq_true rfl)) dL_law_698 ⟨(Nat.le_of_ble_eq_true rfl), (Nat.le_of_ble_eq_true rfl)⟩) hPX hS hdb hne (fun r2 w H locs hw2 hPX hPM hS => ?_)
  refine lv_icmp_eq (tgt := 1159) hx hb dL_law_701 (by decide) (fun _ => ?_) (fun c9 => absurd hw2.1 c9)
  exact kk u w H locs hw2.2 hPX hPM hS
set_option maxHeartbeats 4000000 in
set_option maxRecDepth 100000 in
theorem lc_20 (C : LC p s m meth c b L xs dC dI cA cZ ad bd adK adV) (hJ : J σ τ) (hPX : PX dC dI cA ad σ H) (hPM : PM dC dI cA cZ bd τ H) (hS : va_S (La s) s.heap H locs) (hl : lv_has ls 4 [(3, .int (nI i)), (2, .ref (bd 0)), (1, .ref (ad 0)), (0, .ref b)]) (hi5 : i + 5 ≤ L) (kk : ∀ (u w : St) (H : Heap) (locs : List Loc), J u w → PX dC dI cA ad u H → PM dC dI cA cZ bd w H → va_S (La s) s.heap H locs → W p l e room_1 s m #[Value.ref b] below meth c H locs 93 2201 Z (F0 m 1159 ls [])) : W p l e room_1 s m #[Value.ref b] below meth c H locs 93 2201 Z (F0 m 706 ls []) := by
  obtain ⟨⟨hx, hb, hml, hown, hts⟩, ⟨hX, hbl, hL⟩, hKN, ⟨hZ, hR⟩, hi, hj, hda, hdb, hne⟩ := C
  have hbA : ¬ La s b := Nat.not_le.mpr hbl
  have hin : ∀ k, k < 5 → vp_in (nI i + nI k) L := fun k hk => by rw [nI_add]; exact vp_in_nI (by omega) (by omega)
  refine lv_aload_n hx hb dL_law_706 rfl (lv_at hl 2 rfl) ?_
  refine lx_ci (va_runV (As := []) (rest := []) ⟨hx, hb, hml, hown, hts⟩ (c_X10_tell hi  σ (fun r σ' => V_X11_tell  τ (fun r' τ' => r = r' ∧ J σ' τ')) (p_tell hJ) H.size) (cwV 0 (fun w h => hts w (iv_X10_tell w h)) gv_X10_tell rfl rfl rfl (by decide +kernel) ⟨(Nat.le_of_ble_eq_true rfl), (Nat.le_of_ble_eq_true rfl)⟩) ⟨pre_blind, r_recv hKN.1.1 hPX 0 (by decide) (ceGR_0 (σ 0)) rfl, pre_of hPX hKN.1⟩ rfl rfl hl.1 rfl (lv_room (Nat.le_of_ble_eq_true rfl)) dL_law_707 ⟨(Nat.le_of_ble_eq_true rfl), (Nat.le_of_ble_eq_true rfl)⟩) hPM hS hda hne (fun r u H locs hw hPX hPM hS => ?_)
  refine lv_aload_n hx hb dL_law_710 rfl (lv_at hl 1 rfl) ?_
  refine lm_ci (va_runV (As := []) (rest := [.int r]) ⟨hx, hb, hml, hown, hts⟩ (c_X11_tell hj  τ (fun r' τ' => r = r' ∧ J u τ') hw H.size) (cwV 0 (fun w h => hts w (iv_X11_tell w h)) gv_X11_tell rfl rfl rfl (by decide +kernel) ⟨(Nat.le_of_ble_eq_true rfl), (Nat.le_of_ble_eq_true rfl)⟩) ⟨pre_blind, r_recv hKN.1.1 hPM 0 (by decide) (ceMo_0 (τ 0)) rfl, pre_of hPM hKN.1⟩ rfl rfl hl.1 rfl (lv_room (Nat.le_of_ble_eq_true rfl)) dL_law_711 ⟨(Nat.le_of_ble_eq_true rfl), (Nat.le_of_ble_eq_true rfl)⟩) hPX hS hdb hne (fun r2 w H locs hw2 hPX hPM hS => ?_)
  refine lv_icmp_eq (tgt := 1159) hx hb dL_law_714 (by decide) (fun _ => ?_) (fun c9 => absurd hw2.1 c9)
  exact kk u w H locs hw2.2 hPX hPM hS
set_option maxHeartbeats 4000000 in
set_option maxRecDepth 100000 in
theorem lc_21 (C : LC p s m meth c b L xs dC dI cA cZ ad bd adK adV) (hJ : J σ τ) (hPX : PX dC dI cA ad σ H) (hPM : PM dC dI cA cZ bd τ H) (hS : va_S (La s) s.heap H locs) (hl : lv_has ls 4 [(3, .int (nI i)), (2, .ref (bd 0)), (1, .ref (ad 0)), (0, .ref b)]) (hi5 : i + 5 ≤ L) (kk : ∀ (u w : St) (H : Heap) (locs : List Loc), J u w → PX dC dI cA ad u H → PM dC dI cA cZ bd w H → va_S (La s) s.heap H locs → W p l e room_1 s m #[Value.ref b] below meth c H locs 93 2201 Z (F0 m 1159 ls [])) : W p l e room_1 s m #[Value.ref b] below meth c H locs 93 2201 Z (F0 m 719 ls []) := by
  obtain ⟨⟨hx, hb, hml, hown, hts⟩, ⟨hX, hbl, hL⟩, hKN, ⟨hZ, hR⟩, hi, hj, hda, hdb, hne⟩ := C
  have hbA : ¬ La s b := Nat.not_le.mpr hbl
  have hin : ∀ k, k < 5 → vp_in (nI i + nI k) L := fun k hk => by rw [nI_add]; exact vp_in_nI (by omega) (by omega)
  refine lv_aload_n hx hb dL_law_719 rfl (lv_at hl 2 rfl) ?_
  refine lv_aload_n hx hb dL_law_720 rfl (lv_at hl 3 rfl) ?_
  refine lv_iload_n hx hb dL_law_721 rfl (lv_at hl 0 rfl) ?_
  refine lv_iconst (v := 1) hx hb dL_law_722 (by decide) ?_
  refine lv_iadd hx hb dL_law_723 ?_
  refine va_sld hx hb hX hbl hbA hS (hin 1 (by omega)) dL_law_724 ?_
  refine lv_aload_n hx hb dL_law_725 rfl (lv_at hl 3 rfl) ?_
  refine lv_iload_n hx hb dL_law_726 rfl (lv_at hl 0 rfl) ?_
  refine lv_iconst (v := 2) hx hb dL_law_727 (by decide) ?_
  refine lv_iadd hx hb dL_law_728 ?_
  refine va_sld hx hb hX hbl hbA hS (hin 2 (by omega)) dL_law_729 ?_
  refine lv_aload_n hx hb dL_law_730 rfl (lv_at hl 3 rfl) ?_
  refine lv_iload_n hx hb dL_law_731 rfl (lv_at hl 0 rfl) ?_
  refine lv_iconst (v := 3) hx hb dL_law_732 (by decide) ?_
  refine lv_iadd hx hb dL_law_733 ?_
  refine va_sld hx hb hX hbl hbA hS (hin 3 (by omega)) dL_law_734 ?_
  refine lv_aload_n hx hb dL_law_735 rfl (lv_at hl 3 rfl) ?_
  refine lv_iload_n hx hb dL_law_736 rfl (lv_at hl 0 rfl) ?_
  refine lv_iconst (v := 4) hx hb dL_law_737 (by decide) ?_
  refine lv_iadd hx hb dL_law_738 ?_
  refine va_sld hx hb hX hbl hbA hS (hin 4 (by omega)) dL_law_739 ?_
  refine lx_ci (va_runV (As := [.int (xs (nI i + 1).toNatClampNeg), .int (xs (nI i + 2).toNatClampNeg), .int (xs (nI i + 3).toNatClampNeg), .int (xs (nI i + 4).toNatClampNeg)]) (rest := []) ⟨hx, hb, hml, hown, hts⟩ (c_X10_note hi (xs (nI i + 1).toNatClampNeg) (xs (nI i + 2).toNatClampNeg) (xs (nI i + 3).toNatClampNeg) (xs (nI i + 4).toNatClampNeg) σ (fun r σ' => V_X11_note (xs (nI i + 1).toNatClampNeg) (xs (nI i + 2).toNatClampNeg) (xs (nI i + 3).toNatClampNeg) (xs (nI i + 4).toNatClampNeg) τ (fun r' τ' => r = r' ∧ J σ' τ')) (p_note hJ) H.size) (cwV 4 (fun w h => hts w (iv_X10_note w h)) gv_X10_note rfl rfl rfl (by decide +kernel) ⟨(Nat.le_of_ble_eq_true rfl), (Nat.le_of_ble_eq_true rfl)⟩) ⟨pre_blind, r_recv hKN.1.1 hPX 0 (by decide) (ceGR_0 (σ 0)) rfl, pre_of hPX hKN.1⟩ rfl rfl hl.1 rfl (lv_room (Nat.le_of_ble_eq_true rfl)) dL_law_740 ⟨(Nat.le_of_ble_eq_true rfl), (Nat.le_of_ble_eq_true rfl)⟩) hPM hS hda hne (fun r u H locs hw hPX hPM hS => ?_)
  refine lv_aload_n hx hb dL_law_743 rfl (lv_at hl 1 rfl) ?_
  refine lv_aload_n hx hb dL_law_744 rfl (lv_at hl 3 rfl) ?_
  refine lv_iload_n hx hb dL_law_745 rfl (lv_at hl 0 rfl) ?_
  refine lv_iconst (v := 1) hx hb dL_law_746 (by decide) ?_
  refine lv_iadd hx hb dL_law_747 ?_
  refine va_sld hx hb hX hbl hbA hS (hin 1 (by omega)) dL_law_748 ?_
  refine lv_aload_n hx hb dL_law_749 rfl (lv_at hl 3 rfl) ?_
  refine lv_iload_n hx hb dL_law_750 rfl (lv_at hl 0 rfl) ?_
  refine lv_iconst (v := 2) hx hb dL_law_751 (by decide) ?_
  refine lv_iadd hx hb dL_law_752 ?_
  refine va_sld hx hb hX hbl hbA hS (hin 2 (by omega)) dL_law_753 ?_
  refine lv_aload_n hx hb dL_law_754 rfl (lv_at hl 3 rfl) ?_
  refine lv_iload_n hx hb dL_law_755 rfl (lv_at hl 0 rfl) ?_
  refine lv_iconst (v := 3) hx hb dL_law_756 (by decide) ?_
  refine lv_iadd hx hb dL_law_757 ?_
  refine va_sld hx hb hX hbl hbA hS (hin 3 (by omega)) dL_law_758 ?_
  refine lv_aload_n hx hb dL_law_759 rfl (lv_at hl 3 rfl) ?_
  refine lv_iload_n hx hb dL_law_760 rfl (lv_at hl 0 rfl) ?_
  refine lv_iconst (v := 4) hx hb dL_law_761 (by decide) ?_
  refine lv_iadd hx hb dL_law_762 ?_
  refine va_sld hx hb hX hbl hbA hS (hin 4 (by omega)) dL_law_763 ?_
  refine lm_ci (va_runV (As := [.int (xs (nI i + 1).toNatClampNeg), .int (xs (nI i + 2).toNatClampNeg), .int (xs (nI i + 3).toNatClampNeg), .int (xs (nI i + 4).toNatClampNeg)]) (rest := [.int r]) ⟨hx, hb, hml, hown, hts⟩ (c_X11_note hj (xs (nI i + 1).toNatClampNeg) (xs (nI i + 2).toNatClampNeg) (xs (nI i + 3).toNatClampNeg) (xs (nI i + 4).toNatClampNeg) τ (fun r' τ' => r = r' ∧ J u τ') hw H.size) (cwV 4 (fun w h => hts w (iv_X11_note w h)) gv_X11_note rfl rfl rfl (by decide +kernel) ⟨(Nat.le_of_ble_eq_true rfl), (Nat.le_of_ble_eq_true rfl)⟩) ⟨pre_blind, r_recv hKN.1.1 hPM 0 (by decide) (ceMo_0 (τ 0)) rfl, pre_of hPM hKN.1⟩ rfl rfl hl.1 rfl (lv_room (Nat.le_of_ble_eq_true rfl)) dL_law_764 ⟨(Nat.le_of_ble_eq_true rfl), (Nat.le_of_ble_eq_true rfl)⟩) hPX hS hdb hne (fun r2 w H locs hw2 hPX hPM hS => ?_)
  refine lv_icmp_eq (tgt := 1159) hx hb dL_law_767 (by decide) (fun _ => ?_) (fun c9 => absurd hw2.1 c9)
  exact kk u w H locs hw2.2 hPX hPM hS
set_option maxHeartbeats 4000000 in
set_option maxRecDepth 100000 in
theorem lc_22 (C : LC p s m meth c b L xs dC dI cA cZ ad bd adK adV) (hJ : J σ τ) (hPX : PX dC dI cA ad σ H) (hPM : PM dC dI cA cZ bd τ H) (hS : va_S (La s) s.heap H locs) (hl : lv_has ls 4 [(3, .int (nI i)), (2, .ref (bd 0)), (1, .ref (ad 0)), (0, .ref b)]) (hi5 : i + 5 ≤ L) (kk : ∀ (u w : St) (H : Heap) (locs : List Loc), J u w → PX dC dI cA ad u H → PM dC dI cA cZ bd w H → va_S (La s) s.heap H locs → W p l e room_1 s m #[Value.ref b] below meth c H locs 93 2201 Z (F0 m 1159 ls [])) : W p l e room_1 s m #[Value.ref b] below meth c H locs 93 2201 Z (F0 m 772 ls []) := by
  obtain ⟨⟨hx, hb, hml, hown, hts⟩, ⟨hX, hbl, hL⟩, hKN, ⟨hZ, hR⟩, hi, hj, hda, hdb, hne⟩ := C
  have hbA : ¬ La s b := Nat.not_le.mpr hbl
  have hin : ∀ k, k < 5 → vp_in (nI i + nI k) L := fun k hk => by rw [nI_add]; exact vp_in_nI (by omega) (by omega)
  refine lv_aload_n hx hb dL_law_772 rfl (lv_at hl 2 rfl) ?_
  refine lv_aload_n hx hb dL_law_773 rfl (lv_at hl 3 rfl) ?_
  refine lv_iload_n hx hb dL_law_774 rfl (lv_at hl 0 rfl) ?_
  refine lv_iconst (v := 1) hx hb dL_law_775 (by decide) ?_
  refine lv_iadd hx hb dL_law_776 ?_
  refine va_sld hx hb hX hbl hbA hS (hin 1 (by omega)) dL_law_777 ?_
  refine lv_aload_n hx hb dL_law_778 rfl (lv_at hl 3 rfl) ?_
  refine lv_iload_n hx hb dL_law_779 rfl (lv_at hl 0 rfl) ?_
  refine lv_iconst (v := 2) hx hb dL_law_780 (by decide) ?_
  refine lv_iadd hx hb dL_law_781 ?_
  refine va_sld hx hb hX hbl hbA hS (hin 2 (by omega)) dL_law_782 ?_
  refine lv_aload_n hx hb dL_law_783 rfl (lv_at hl 3 rfl) ?_
  refine lv_iload_n hx hb dL_law_784 rfl (lv_at hl 0 rfl) ?_
  refine lv_iconst (v := 3) hx hb dL_law_785 (by decide) ?_
  refine lv_iadd hx hb dL_law_786 ?_
  refine va_sld hx hb hX hbl hbA hS (hin 3 (by omega)) dL_law_787 ?_
  refine lv_aload_n hx hb dL_law_788 rfl (lv_at hl 3 rfl) ?_
  refine lv_iload_n hx hb dL_law_789 rfl (lv_at hl 0 rfl) ?_
  refine lv_iconst (v := 4) hx hb dL_law_790 (by decide) ?_
  refine lv_iadd hx hb dL_law_791 ?_
  refine va_sld hx hb hX hbl hbA hS (hin 4 (by omega)) dL_law_792 ?_
  refine lx_ci (va_runV (As := [.int (xs (nI i + 1).toNatClampNeg), .int (xs (nI i + 2).toNatClampNeg), .int (xs (nI i + 3).toNatClampNeg), .int (xs (nI i + 4).toNatClampNeg)]) (rest := []) ⟨hx, hb, hml, hown, hts⟩ (c_X10_mark hi (xs (nI i + 1).toNatClampNeg) (xs (nI i + 2).toNatClampNeg) (xs (nI i + 3).toNatClampNeg) (xs (nI i + 4).toNatClampNeg) σ (fun r σ' => V_X11_mark (xs (nI i + 1).toNatClampNeg) (xs (nI i + 2).toNatClampNeg) (xs (nI i + 3).toNatClampNeg) (xs (nI i + 4).toNatClampNeg) τ (fun r' τ' => r = r' ∧ J σ' τ')) (p_mark hJ) H.size) (cwV 4 (fun w h => hts w (iv_X10_mark w h)) gv_X10_mark rfl rfl rfl (by decide +kernel) ⟨(Nat.le_of_ble_eq_true rfl), (Nat.le_of_ble_eq_true rfl)⟩) ⟨pre_blind, r_recv hKN.1.1 hPX 0 (by decide) (ceGR_0 (σ 0)) rfl, pre_of hPX hKN.1⟩ rfl rfl hl.1 rfl (lv_room (Nat.le_of_ble_eq_true rfl)) dL_law_793 ⟨(Nat.le_of_ble_eq_true rfl), (Nat.le_of_ble_eq_true rfl)⟩) hPM hS hda hne (fun r u H locs hw hPX hPM hS => ?_)
  refine lv_aload_n hx hb dL_law_796 rfl (lv_at hl 1 rfl) ?_
  refine lv_aload_n hx hb dL_law_797 rfl (lv_at hl 3 rfl) ?_
  refine lv_iload_n hx hb dL_law_798 rfl (lv_at hl 0 rfl) ?_
  refine lv_iconst (v := 1) hx hb dL_law_799 (by decide) ?_
  refine lv_iadd hx hb dL_law_800 ?_
  refine va_sld hx hb hX hbl hbA hS (hin 1 (by omega)) dL_law_801 ?_
  refine lv_aload_n hx hb dL_law_802 rfl (lv_at hl 3 rfl) ?_
  refine lv_iload_n hx hb dL_law_803 rfl (lv_at hl 0 rfl) ?_
  refine lv_iconst (v := 2) hx hb dL_law_804 (by decide) ?_
  refine lv_iadd hx hb dL_law_805 ?_
  refine va_sld hx hb hX hbl hbA hS (hin 2 (by omega)) dL_law_806 ?_
  refine lv_aload_n hx hb dL_law_807 rfl (lv_at hl 3 rfl) ?_
  refine lv_iload_n hx hb dL_law_808 rfl (lv_at hl 0 rfl) ?_
  refine lv_iconst (v := 3) hx hb dL_law_809 (by decide) ?_
  refine lv_iadd hx hb dL_law_810 ?_
  refine va_sld hx hb hX hbl hbA hS (hin 3 (by omega)) dL_law_811 ?_
  refine lv_aload_n hx hb dL_law_812 rfl (lv_at hl 3 rfl) ?_
  refine lv_iload_n hx hb dL_law_813 rfl (lv_at hl 0 rfl) ?_
  refine lv_iconst (v := 4) hx hb dL_law_814 (by decide) ?_
  refine lv_iadd hx hb dL_law_815 ?_
  refine va_sld hx hb hX hbl hbA hS (hin 4 (by omega)) dL_law_816 ?_
  refine lm_ci (va_runV (As := [.int (xs (nI i + 1).toNatClampNeg), .int (xs (nI i + 2).toNatClampNeg), .int (xs (nI i + 3).toNatClampNeg), .int (xs (nI i + 4).toNatClampNeg)]) (rest := [.int r]) ⟨hx, hb, hml, hown, hts⟩ (c_X11_mark hj (xs (nI i + 1).toNatClampNeg) (xs (nI i + 2).toNatClampNeg) (xs (nI i + 3).toNatClampNeg) (xs (nI i + 4).toNatClampNeg) τ (fun r' τ' => r = r' ∧ J u τ') hw H.size) (cwV 4 (fun w h => hts w (iv_X11_mark w h)) gv_X11_mark rfl rfl rfl (by decide +kernel) ⟨(Nat.le_of_ble_eq_true rfl), (Nat.le_of_ble_eq_true rfl)⟩) ⟨pre_blind, r_recv hKN.1.1 hPM 0 (by decide) (ceMo_0 (τ 0)) rfl, pre_of hPM hKN.1⟩ rfl rfl hl.1 rfl (lv_room (Nat.le_of_ble_eq_true rfl)) dL_law_817 ⟨(Nat.le_of_ble_eq_true rfl), (Nat.le_of_ble_eq_true rfl)⟩) hPX hS hdb hne (fun r2 w H locs hw2 hPX hPM hS => ?_)
  refine lv_icmp_eq (tgt := 1159) hx hb dL_law_820 (by decide) (fun _ => ?_) (fun c9 => absurd hw2.1 c9)
  exact kk u w H locs hw2.2 hPX hPM hS
set_option maxHeartbeats 4000000 in
set_option maxRecDepth 100000 in
theorem lc_23 (C : LC p s m meth c b L xs dC dI cA cZ ad bd adK adV) (hJ : J σ τ) (hPX : PX dC dI cA ad σ H) (hPM : PM dC dI cA cZ bd τ H) (hS : va_S (La s) s.heap H locs) (hl : lv_has ls 4 [(3, .int (nI i)), (2, .ref (bd 0)), (1, .ref (ad 0)), (0, .ref b)]) (hi5 : i + 5 ≤ L) (kk : ∀ (u w : St) (H : Heap) (locs : List Loc), J u w → PX dC dI cA ad u H → PM dC dI cA cZ bd w H → va_S (La s) s.heap H locs → W p l e room_1 s m #[Value.ref b] below meth c H locs 93 2201 Z (F0 m 1159 ls [])) : W p l e room_1 s m #[Value.ref b] below meth c H locs 93 2201 Z (F0 m 825 ls []) := by
  obtain ⟨⟨hx, hb, hml, hown, hts⟩, ⟨hX, hbl, hL⟩, hKN, ⟨hZ, hR⟩, hi, hj, hda, hdb, hne⟩ := C
  have hbA : ¬ La s b := Nat.not_le.mpr hbl
  have hin : ∀ k, k < 5 → vp_in (nI i + nI k) L := fun k hk => by rw [nI_add]; exact vp_in_nI (by omega) (by omega)
  refine lv_aload_n hx hb dL_law_825 rfl (lv_at hl 2 rfl) ?_
  refine lv_aload_n hx hb dL_law_826 rfl (lv_at hl 3 rfl) ?_
  refine lv_iload_n hx hb dL_law_827 rfl (lv_at hl 0 rfl) ?_
  refine lv_iconst (v := 1) hx hb dL_law_828 (by decide) ?_
  refine lv_iadd hx hb dL_law_829 ?_
  refine va_sld hx hb hX hbl hbA hS (hin 1 (by omega)) dL_law_830 ?_
  refine lx_ci (va_runV (As := [.int (xs (nI i + 1).toNatClampNeg)]) (rest := []) ⟨hx, hb, hml, hown, hts⟩ (c_X10_forget hi (xs (nI i + 1).toNatClampNeg) σ (fun r σ' => V_X11_forget (xs (nI i + 1).toNatClampNeg) τ (fun r' τ' => r = r' ∧ J σ' τ')) (p_forget hJ) H.size) (cwV 1 (fun w h => hts w (iv_X10_forget w h)) gv_X10_forget rfl rfl rfl (by decide +kernel) ⟨(Nat.le_of_ble_eq_true rfl), (Nat.le_of_ble_eq_true rfl)⟩) ⟨pre_blind, r_recv hKN.1.1 hPX 0 (by decide) (ceGR_0 (σ 0)) rfl, pre_of hPX hKN.1⟩ rfl rfl hl.1 rfl (lv_room (Nat.le_of_ble_eq_true rfl)) dL_law_831 ⟨(Nat.le_of_ble_eq_true rfl), (Nat.le_of_ble_eq_true rfl)⟩) hPM hS hda hne (fun r u H locs hw hPX hPM hS => ?_)
  refine lv_aload_n hx hb dL_law_834 rfl (lv_at hl 1 rfl) ?_
  refine lv_aload_n hx hb dL_law_835 rfl (lv_at hl 3 rfl) ?_
  refine lv_iload_n hx hb dL_law_836 rfl (lv_at hl 0 rfl) ?_
  refine lv_iconst (v := 1) hx hb dL_law_837 (by decide) ?_
  refine lv_iadd hx hb dL_law_838 ?_
  refine va_sld hx hb hX hbl hbA hS (hin 1 (by omega)) dL_law_839 ?_
  refine lm_ci (va_runV (As := [.int (xs (nI i + 1).toNatClampNeg)]) (rest := [.int r]) ⟨hx, hb, hml, hown, hts⟩ (c_X11_forget hj (xs (nI i + 1).toNatClampNeg) τ (fun r' τ' => r = r' ∧ J u τ') hw H.size) (cwV 1 (fun w h => hts w (iv_X11_forget w h)) gv_X11_forget rfl rfl rfl (by decide +kernel) ⟨(Nat.le_of_ble_eq_true rfl), (Nat.le_of_ble_eq_true rfl)⟩) ⟨pre_blind, r_recv hKN.1.1 hPM 0 (by decide) (ceMo_0 (τ 0)) rfl, pre_of hPM hKN.1⟩ rfl rfl hl.1 rfl (lv_room (Nat.le_of_ble_eq_true rfl)) dL_law_840 ⟨(Nat.le_of_ble_eq_true rfl), (Nat.le_of_ble_eq_true rfl)⟩) hPX hS hdb hne (fun r2 w H locs hw2 hPX hPM hS => ?_)
  refine lv_icmp_eq (tgt := 1159) hx hb dL_law_843 (by decide) (fun _ => ?_) (fun c9 => absurd hw2.1 c9)
  exact kk u w H locs hw2.2 hPX hPM hS
set_option maxHeartbeats 4000000 in
set_option maxRecDepth 100000 in
theorem lc_24 (C : LC p s m meth c b L xs dC dI cA cZ ad bd adK adV) (hJ : J σ τ) (hPX : PX dC dI cA ad σ H) (hPM : PM dC dI cA cZ bd τ H) (hS : va_S (La s) s.heap H locs) (hl : lv_has ls 4 [(3, .int (nI i)), (2, .ref (bd 0)), (1, .ref (ad 0)), (0, .ref b)]) (hi5 : i + 5 ≤ L) (kk : ∀ (u w : St) (H : Heap) (locs : List Loc), J u w → PX dC dI cA ad u H → PM dC dI cA cZ bd w H → va_S (La s) s.heap H locs → W p l e room_1 s m #[Value.ref b] below meth c H locs 93 2201 Z (F0 m 1159 ls [])) : W p l e room_1 s m #[Value.ref b] below meth c H locs 93 2201 Z (F0 m 848 ls []) := by
  obtain ⟨⟨hx, hb, hml, hown, hts⟩, ⟨hX, hbl, hL⟩, hKN, ⟨hZ, hR⟩, hi, hj, hda, hdb, hne⟩ := C
  have hbA : ¬ La s b := Nat.not_le.mpr hbl
  have hin : ∀ k, k < 5 → vp_in (nI i + nI k) L := fun k hk => by rw [nI_add]; exact vp_in_nI (by omega) (by omega)
  refine lv_aload_n hx hb dL_law_848 rfl (lv_at hl 2 rfl) ?_
  refine lv_aload_n hx hb dL_law_849 rfl (lv_at hl 3 rfl) ?_
  refine lv_iload_n hx hb dL_law_850 rfl (lv_at hl 0 rfl) ?_
  refine lv_iconst (v := 1) hx hb dL_law_851 (by decide) ?_
  refine lv_iadd hx hb dL_law_852 ?_
  refine va_sld hx hb hX hbl hbA hS (hin 1 (by omega)) dL_law_853 ?_
  refine lx_ci (va_runV (As := [.int (xs (nI i + 1).toNatClampNeg)]) (rest := []) ⟨hx, hb, hml, hown, hts⟩ (c_X10_is hi (xs (nI i + 1).toNatClampNeg) σ (fun r σ' => V_X11_is (xs (nI i + 1).toNatClampNeg) τ (fun r' τ' => r = r' ∧ J σ' τ')) (p_is hJ) H.size) (cwV 1 (fun w h => hts w (iv_X10_is w h)) gv_X10_is rfl rfl rfl (by decide +kernel) ⟨(Nat.le_of_ble_eq_true rfl), (Nat.le_of_ble_eq_true rfl)⟩) ⟨pre_blind, r_recv hKN.1.1 hPX 0 (by decide) (ceGR_0 (σ 0)) rfl, pre_of hPX hKN.1⟩ rfl rfl hl.1 rfl (lv_room (Nat.le_of_ble_eq_true rfl)) dL_law_854 ⟨(Nat.le_of_ble_eq_true rfl), (Nat.le_of_ble_eq_true rfl)⟩) hPM hS hda hne (fun r u H locs hw hPX hPM hS => ?_)
  refine lv_aload_n hx hb dL_law_857 rfl (lv_at hl 1 rfl) ?_
  refine lv_aload_n hx hb dL_law_858 rfl (lv_at hl 3 rfl) ?_
  refine lv_iload_n hx hb dL_law_859 rfl (lv_at hl 0 rfl) ?_
  refine lv_iconst (v := 1) hx hb dL_law_860 (by decide) ?_
  refine lv_iadd hx hb dL_law_861 ?_
  refine va_sld hx hb hX hbl hbA hS (hin 1 (by omega)) dL_law_862 ?_
  refine lm_ci (va_runV (As := [.int (xs (nI i + 1).toNatClampNeg)]) (rest := [.int r]) ⟨hx, hb, hml, hown, hts⟩ (c_X11_is hj (xs (nI i + 1).toNatClampNeg) τ (fun r' τ' => r = r' ∧ J u τ') hw H.size) (cwV 1 (fun w h => hts w (iv_X11_is w h)) gv_X11_is rfl rfl rfl (by decide +kernel) ⟨(Nat.le_of_ble_eq_true rfl), (Nat.le_of_ble_eq_true rfl)⟩) ⟨pre_blind, r_recv hKN.1.1 hPM 0 (by decide) (ceMo_0 (τ 0)) rfl, pre_of hPM hKN.1⟩ rfl rfl hl.1 rfl (lv_room (Nat.le_of_ble_eq_true rfl)) dL_law_863 ⟨(Nat.le_of_ble_eq_true rfl), (Nat.le_of_ble_eq_true rfl)⟩) hPX hS hdb hne (fun r2 w H locs hw2 hPX hPM hS => ?_)
  refine lv_icmp_eq (tgt := 1159) hx hb dL_law_866 (by decide) (fun _ => ?_) (fun c9 => absurd hw2.1 c9)
  exact kk u w H locs hw2.2 hPX hPM hS
set_option maxHeartbeats 4000000 in
set_option maxRecDepth 100000 in
theorem lc_25 (C : LC p s m meth c b L xs dC dI cA cZ ad bd adK adV) (hJ : J σ τ) (hPX : PX dC dI cA ad σ H) (hPM : PM dC dI cA cZ bd τ H) (hS : va_S (La s) s.heap H locs) (hl : lv_has ls 4 [(3, .int (nI i)), (2, .ref (bd 0)), (1, .ref (ad 0)), (0, .ref b)]) (hi5 : i + 5 ≤ L) (kk : ∀ (u w : St) (H : Heap) (locs : List Loc), J u w → PX dC dI cA ad u H → PM dC dI cA cZ bd w H → va_S (La s) s.heap H locs → W p l e room_1 s m #[Value.ref b] below meth c H locs 93 2201 Z (F0 m 1159 ls [])) : W p l e room_1 s m #[Value.ref b] below meth c H locs 93 2201 Z (F0 m 871 ls []) := by
  obtain ⟨⟨hx, hb, hml, hown, hts⟩, ⟨hX, hbl, hL⟩, hKN, ⟨hZ, hR⟩, hi, hj, hda, hdb, hne⟩ := C
  have hbA : ¬ La s b := Nat.not_le.mpr hbl
  have hin : ∀ k, k < 5 → vp_in (nI i + nI k) L := fun k hk => by rw [nI_add]; exact vp_in_nI (by omega) (by omega)
  refine lv_aload_n hx hb dL_law_871 rfl (lv_at hl 2 rfl) ?_
  refine lv_aload_n hx hb dL_law_872 rfl (lv_at hl 3 rfl) ?_
  refine lv_iload_n hx hb dL_law_873 rfl (lv_at hl 0 rfl) ?_
  refine lv_iconst (v := 1) hx hb dL_law_874 (by decide) ?_
  refine lv_iadd hx hb dL_law_875 ?_
  refine va_sld hx hb hX hbl hbA hS (hin 1 (by omega)) dL_law_876 ?_
  refine lx_ci (va_runV (As := [.int (xs (nI i + 1).toNatClampNeg)]) (rest := []) ⟨hx, hb, hml, hown, hts⟩ (c_X10_look hi (xs (nI i + 1).toNatClampNeg) σ (fun r σ' => V_X11_look (xs (nI i + 1).toNatClampNeg) τ (fun r' τ' => r = r' ∧ J σ' τ')) (p_look hJ) H.size) (cwV 1 (fun w h => hts w (iv_X10_look w h)) gv_X10_look rfl rfl rfl (by decide +kernel) ⟨(Nat.le_of_ble_eq_true rfl), (Nat.le_of_ble_eq_true rfl)⟩) ⟨pre_blind, r_recv hKN.1.1 hPX 0 (by decide) (ceGR_0 (σ 0)) rfl, pre_of hPX hKN.1⟩ rfl rfl hl.1 rfl (lv_room (Nat.le_of_ble_eq_true rfl)) dL_law_877 ⟨(Nat.le_of_ble_eq_true rfl), (Nat.le_of_ble_eq_true rfl)⟩) hPM hS hda hne (fun r u H locs hw hPX hPM hS => ?_)
  refine lv_aload_n hx hb dL_law_880 rfl (lv_at hl 1 rfl) ?_
  refine lv_aload_n hx hb dL_law_881 rfl (lv_at hl 3 rfl) ?_
  refine lv_iload_n hx hb dL_law_882 rfl (lv_at hl 0 rfl) ?_
  refine lv_iconst (v := 1) hx hb dL_law_883 (by decide) ?_
  refine lv_iadd hx hb dL_law_884 ?_
  refine va_sld hx hb hX hbl hbA hS (hin 1 (by omega)) dL_law_885 ?_
  refine lm_ci (va_runV (As := [.int (xs (nI i + 1).toNatClampNeg)]) (rest := [.int r]) ⟨hx, hb, hml, hown, hts⟩ (c_X11_look hj (xs (nI i + 1).toNatClampNeg) τ (fun r' τ' => r = r' ∧ J u τ') hw H.size) (cwV 1 (fun w h => hts w (iv_X11_look w h)) gv_X11_look rfl rfl rfl (by decide +kernel) ⟨(Nat.le_of_ble_eq_true rfl), (Nat.le_of_ble_eq_true rfl)⟩) ⟨pre_blind, r_recv hKN.1.1 hPM 0 (by decide) (ceMo_0 (τ 0)) rfl, pre_of hPM hKN.1⟩ rfl rfl hl.1 rfl (lv_room (Nat.le_of_ble_eq_true rfl)) dL_law_886 ⟨(Nat.le_of_ble_eq_true rfl), (Nat.le_of_ble_eq_true rfl)⟩) hPX hS hdb hne (fun r2 w H locs hw2 hPX hPM hS => ?_)
  refine lv_icmp_eq (tgt := 1159) hx hb dL_law_889 (by decide) (fun _ => ?_) (fun c9 => absurd hw2.1 c9)
  exact kk u w H locs hw2.2 hPX hPM hS
end LW
