section CT2
variable {l : Launch} {dC : Nat → ClassId} {dI : Nat → Nat → Nat} {cA cZ : ClassId}
set_option maxHeartbeats 4000000 in
set_option maxRecDepth 100000 in
theorem k_X7 (h0 sz : Nat) : Met l yX7_init wsX7_init ({ frames := 2, cells := 17, slots := 233, locals := 43 } : Room) (va_Pc [.ref h0] (PC dC dI cA cZ [(h0, .inr (6, [.null, .null, .null, .null, .null]))] sz)) (va_Qv (fun u : Nat → Nat => u 0 = h0) (fun u t => va_P (dC, dI) vwCl (wX7 u cA) t.heap ∧ va_D (va_A [(h0, .inr (6, [.null, .null, .null, .null, .null]))] sz) (wX7 u cA)) (va_A [(h0, .inr (6, [.null, .null, .null, .null, .null]))] sz)) 17 233 (va_A [(h0, .inr (6, [.null, .null, .null, .null, .null]))] sz) := by
  refine Met.ofW (cc := cX7_init) (maxL := 1) (ret := none) (by decide) rfl ?_
  intro p e s m args below meth c s₁ B hml hv0
  obtain ⟨rfl, hsz, hP, hN⟩ := hv0
  have hin : meth.name = "<init>" := (name_of_methodNamed B.named B.method).1
  obtain ⟨hx, hb, hml, hown, hts, hr, hlocks⟩ : Cx cX7_init RX7 wsX7_init 1 none p s m ([.ref h0] : List Value).toArray meth c := ⟨B.exec, B.bytes, hml, findClass_of_methodNamed B.named, atoms_spec (ws := wsX7_init) B.pre, B.returns, B.notSynchronized⟩
  subst hsz
  have hD : va_D (va_A [(h0, .inr (6, [.null, .null, .null, .null, .null]))] s.heap.size) [(h0, .inr (6, [.null, .null, .null, .null, .null]))] := vD1 (Or.inl ⟨0, _, rfl⟩)
  generalize hAe : va_A [(h0, .inr (6, [.null, .null, .null, .null, .null]))] s.heap.size = A at hD ⊢
  have hA : ∀ q : Nat, s.heap.size ≤ q → A q := fun q h => by rw [← hAe]; exact Or.inr h
  have hS : va_S A s.heap s.heap [] := va_S.rf
  have hK := hN.1.1
  have hl := lv_entry ([.ref h0]) (n := 1) (Nat.le_of_ble_eq_true rfl)
  rw [lg_entry_eq]
  generalize (lg_sl ([.ref h0]) ++ List.replicate (1 - (lg_sl ([.ref h0])).length) Slot.unset).toArray = ls at hl ⊢
  have hl : lv_has ls 1 [(0, .ref h0)] := hl
  refine lv_aload_n hx hb dX7_init_0 rfl (lv_at hl 0 rfl) ?_
  refine W.objInit hx hb hown (hts _ (List.mem_of_getElem? (i := 1) rfl)) (hts _ (List.mem_of_getElem? (i := 2) rfl)) (hts _ (List.mem_of_getElem? (i := 3) rfl)) rfl (by rw [hml]; exact hl.1) rfl dX7_init_1 (Nat.le_of_ble_eq_true rfl) (Nat.le_of_ble_eq_true rfl) ?_
  refine W.eq (g2 := F0 m 4 ls []) rfl ?_
  refine lv_aload_n hx hb dX7_init_4 rfl (lv_at hl 0 rfl) ?_
  refine va_new (ci := 7) (fs := [.null, .null, .null, .null, .null, .null, .null, .null, .int 0, .int 0, .int 0, .int 0]) (C := RX8) (T := TX8) (N := 12) hx hb hts (fun _ h => List.mem_cons_of_mem _ (List.mem_append_left _ (List.mem_append_left _ (List.mem_append_left _ (List.mem_append_right _ h))))) tyX8 tyX8_ok hown (hts _ (List.mem_of_getElem? (i := 4) rfl)) (hts _ (List.mem_of_getElem? (i := 5) rfl)) (hts _ (List.mem_of_getElem? (i := 6) rfl)) hK hP hD hS hA rfl (fun j hj => by rcases (show j = 0 ∨ j = 1 ∨ j = 2 ∨ j = 3 ∨ j = 4 ∨ j = 5 ∨ j = 6 ∨ j = 7 ∨ j = 8 ∨ j = 9 ∨ j = 10 ∨ j = 11 by omega) with rfl | rfl | rfl | rfl | rfl | rfl | rfl | rfl | rfl | rfl | rfl | rfl <;> rfl) (Nat.le_of_ble_eq_true rfl) (Nat.le_of_ble_eq_true rfl) dX7_init_5 (fun q1 H hP hD hS => ?_)
  refine lv_dup hx hb dX7_init_8 rfl ?_
  have hPc := vP1 (q := (q1, .inr (7, [.null, .null, .null, .null, .null, .null, .null, .null, .int 0, .int 0, .int 0, .int 0]))) hP
  have hFc := vF1 (q := (q1, .inr (7, [.null, .null, .null, .null, .null, .null, .null, .null, .int 0, .int 0, .int 0, .int 0]))) hD hS hA
  refine va_callv (va_runIN (As := []) (rest := [.ref q1, .ref h0]) ⟨hx, hb, hml, hown, hts⟩ (k_X8 q1 H.size) ⟨va_cnB 0 hts gX7_init_X8_init_n9 rfl rfl rfl (hN.2.2.2.2.2.2.2.2.2.1) (hts _ (List.mem_of_getElem? (i := 6) rfl)) (by decide +kernel) ⟨(Nat.le_of_ble_eq_true rfl), (Nat.le_of_ble_eq_true rfl)⟩, rfl, (hts _ (List.mem_of_getElem? (i := 18) rfl))⟩ ⟨preC_blind, preC_of hPc hN⟩ rfl rfl hl.1 rfl (lv_room (Nat.le_of_ble_eq_true rfl)) dX7_init_9 ⟨(Nat.le_of_ble_eq_true rfl), (Nat.le_of_ble_eq_true rfl)⟩) hS (fun x _ h => hFc x h) hFc (fun u1 t H locs ht hvm hu hB hz1 hk1 hS => ?_)
  obtain ⟨hP1, hD1⟩ := hB
  rw [ht] at hP1
  obtain ⟨hPj, hDj⟩ := vJ hP hD hk1 hFc hP1 hD1
  subst hu
  have hP : va_P (dC, dI) vwCl ((h0, .inr (6, [.null, .null, .null, .null, .null])) :: ([] ++ wX8 u1 cA)) H := hPj
  have hD : va_D A ((h0, .inr (6, [.null, .null, .null, .null, .null])) :: ([] ++ wX8 u1 cA)) := hDj
  refine va_putF (D := (dC, dI)) (ci := 6) (v := .ref (u1 0)) (ty := .object "GloveRail$Street") (C := RX7) (T := TX7) (N := 5) hx hb hts (fun _ h => List.mem_cons_of_mem _ (List.mem_append_left _ (List.mem_append_left _ (List.mem_append_right _ h)))) tyX7 tyX7_ok nmX7 hown hK hP hD hS 0 rfl rfl 0 (by decide) (hts _ (List.mem_of_getElem? (i := 7) rfl)) (fun _ h9 => h9) rfl hin rfl (by decide +kernel) rfl rfl (Nat.le_of_ble_eq_true rfl) dX7_init_12 (fun H locs hP hD hS => ?_)
  have hP : va_P (dC, dI) vwCl ((h0, .inr (6, [.ref (u1 0), .null, .null, .null, .null])) :: ([] ++ wX8 u1 cA)) H := hP
  have hD : va_D A ((h0, .inr (6, [.ref (u1 0), .null, .null, .null, .null])) :: ([] ++ wX8 u1 cA)) := hD
  refine lv_aload_n hx hb dX7_init_15 rfl (lv_at hl 0 rfl) ?_
  refine va_new (ci := 3) (fs := [.null, .int 0]) (C := RX4) (T := TX4) (N := 2) hx hb hts (fun _ h => List.mem_cons_of_mem _ (List.mem_append_left _ (List.mem_append_right _ h))) tyX4 tyX4_ok hown (hts _ (List.mem_of_getElem? (i := 8) rfl)) (hts _ (List.mem_of_getElem? (i := 9) rfl)) (hts _ (List.mem_of_getElem? (i := 10) rfl)) hK hP hD hS hA rfl (fun j hj => by rcases (show j = 0 ∨ j = 1 by omega) with rfl | rfl <;> rfl) (Nat.le_of_ble_eq_true rfl) (Nat.le_of_ble_eq_true rfl) dX7_init_16 (fun q2 H hP hD hS => ?_)
  refine lv_dup hx hb dX7_init_19 rfl ?_
  have hPc := vP1 (q := (q2, .inr (3, [.null, .int 0]))) hP
  have hFc := vF1 (q := (q2, .inr (3, [.null, .int 0]))) hD hS hA
  refine va_callv (va_runIN (As := []) (rest := [.ref q2, .ref h0]) ⟨hx, hb, hml, hown, hts⟩ (k_X4 q2 H.size) ⟨va_cnB 0 hts gX7_init_X4_init_n18 rfl rfl rfl (hN.2.2.2.2.2.2.2.2.2.2) (hts _ (List.mem_of_getElem? (i := 10) rfl)) (by decide +kernel) ⟨(Nat.le_of_ble_eq_true rfl), (Nat.le_of_ble_eq_true rfl)⟩, rfl, (hts _ (List.mem_of_getElem? (i := 30) rfl))⟩ ⟨preC_blind, preC_of hPc hN⟩ rfl rfl hl.1 rfl (lv_room (Nat.le_of_ble_eq_true rfl)) dX7_init_20 ⟨(Nat.le_of_ble_eq_true rfl), (Nat.le_of_ble_eq_true rfl)⟩) hS (fun x _ h => hFc x h) hFc (fun u2 t H locs ht hvm hu hB hz1 hk1 hS => ?_)
  obtain ⟨hP1, hD1⟩ := hB
  rw [ht] at hP1
  obtain ⟨hPj, hDj⟩ := vJ hP hD hk1 hFc hP1 hD1
  subst hu
  have hP : va_P (dC, dI) vwCl ((h0, .inr (6, [.ref (u1 0), .null, .null, .null, .null])) :: (([] ++ wX8 u1 cA) ++ wX4 u2 cA)) H := hPj
  have hD : va_D A ((h0, .inr (6, [.ref (u1 0), .null, .null, .null, .null])) :: (([] ++ wX8 u1 cA) ++ wX4 u2 cA)) := hDj
  refine va_putF (D := (dC, dI)) (ci := 6) (v := .ref (u2 0)) (ty := .object "GloveRail$Past") (C := RX7) (T := TX7) (N := 5) hx hb hts (fun _ h => List.mem_cons_of_mem _ (List.mem_append_left _ (List.mem_append_left _ (List.mem_append_right _ h)))) tyX7 tyX7_ok nmX7 hown hK hP hD hS 0 rfl rfl 1 (by decide) (hts _ (List.mem_of_getElem? (i := 11) rfl)) (fun _ h9 => h9) rfl hin rfl (by decide +kernel) rfl rfl (Nat.le_of_ble_eq_true rfl) dX7_init_23 (fun H locs hP hD hS => ?_)
  have hP : va_P (dC, dI) vwCl ((h0, .inr (6, [.ref (u1 0), .ref (u2 0), .null, .null, .null])) :: (([] ++ wX8 u1 cA) ++ wX4 u2 cA)) H := hP
  have hD : va_D A ((h0, .inr (6, [.ref (u1 0), .ref (u2 0), .null, .null, .null])) :: (([] ++ wX8 u1 cA) ++ wX4 u2 cA)) := hD
  refine lv_aload_n hx hb dX7_init_26 rfl (lv_at hl 0 rfl) ?_
  refine va_new (ci := 5) (fs := [.null, .int 0, .int 0, .int 0]) (C := RX6) (T := TX6) (N := 4) hx hb hts (fun _ h => List.mem_cons_of_mem _ (List.mem_append_right _ h)) tyX6 tyX6_ok hown (hts _ (List.mem_of_getElem? (i := 12) rfl)) (hts _ (List.mem_of_getElem? (i := 13) rfl)) (hts _ (List.mem_of_getElem? (i := 14) rfl)) hK hP hD hS hA rfl (fun j hj => by rcases (show j = 0 ∨ j = 1 ∨ j = 2 ∨ j = 3 by omega) with rfl | rfl | rfl | rfl <;> rfl) (Nat.le_of_ble_eq_true rfl) (Nat.le_of_ble_eq_true rfl) dX7_init_27 (fun q3 H hP hD hS => ?_)
  refine lv_dup hx hb dX7_init_30 rfl ?_
  refine lv_iconst (v := 5) hx hb dX7_init_31 (by decide) ?_
  refine lv_iconst (v := 2) hx hb dX7_init_32 (by decide) ?_
  have hPc := vP1 (q := (q3, .inr (5, [.null, .int 0, .int 0, .int 0]))) hP
  have hFc := vF1 (q := (q3, .inr (5, [.null, .int 0, .int 0, .int 0]))) hD hS hA
  refine va_callv (va_runI (As := [.int 5, .int 2]) (rest := [.ref q3, .ref h0]) ⟨hx, hb, hml, hown, hts⟩ (k_X6 (a := 5) (b := 2) (a2 := 5) (b2 := 2) (by decide) (by decide) q3 H.size) (cwI 2 hts gX7_init_X6_init rfl rfl rfl (hts _ (List.mem_of_getElem? (i := 14) rfl)) (hts _ (List.mem_of_getElem? (i := 34) rfl)) (hts _ (List.mem_of_getElem? (i := 35) rfl)) rfl (by decide +kernel) ⟨(Nat.le_of_ble_eq_true rfl), (Nat.le_of_ble_eq_true rfl)⟩) ⟨preC_blind, preC_of hPc hN⟩ rfl rfl hl.1 rfl (lv_room (Nat.le_of_ble_eq_true rfl)) dX7_init_33 ⟨(Nat.le_of_ble_eq_true rfl), (Nat.le_of_ble_eq_true rfl)⟩) hS (fun x _ h => hFc x h) hFc (fun u3 t H locs ht hvm hu hB hz1 hk1 hS => ?_)
  obtain ⟨hP1, hD1⟩ := hB
  rw [ht] at hP1
  obtain ⟨hPj, hDj⟩ := vJ hP hD hk1 hFc hP1 hD1
  subst hu
  have hP : va_P (dC, dI) vwCl ((h0, .inr (6, [.ref (u1 0), .ref (u2 0), .null, .null, .null])) :: ((([] ++ wX8 u1 cA) ++ wX4 u2 cA) ++ wX6 u3 cA 5 2)) H := hPj
  have hD : va_D A ((h0, .inr (6, [.ref (u1 0), .ref (u2 0), .null, .null, .null])) :: ((([] ++ wX8 u1 cA) ++ wX4 u2 cA) ++ wX6 u3 cA 5 2)) := hDj
  refine va_putF (D := (dC, dI)) (ci := 6) (v := .ref (u3 0)) (ty := .object "GloveRail$Rows") (C := RX7) (T := TX7) (N := 5) hx hb hts (fun _ h => List.mem_cons_of_mem _ (List.mem_append_left _ (List.mem_append_left _ (List.mem_append_right _ h)))) tyX7 tyX7_ok nmX7 hown hK hP hD hS 0 rfl rfl 2 (by decide) (hts _ (List.mem_of_getElem? (i := 15) rfl)) (fun _ h9 => h9) rfl hin rfl (by decide +kernel) rfl rfl (Nat.le_of_ble_eq_true rfl) dX7_init_36 (fun H locs hP hD hS => ?_)
  have hP : va_P (dC, dI) vwCl ((h0, .inr (6, [.ref (u1 0), .ref (u2 0), .ref (u3 0), .null, .null])) :: ((([] ++ wX8 u1 cA) ++ wX4 u2 cA) ++ wX6 u3 cA 5 2)) H := hP
  have hD : va_D A ((h0, .inr (6, [.ref (u1 0), .ref (u2 0), .ref (u3 0), .null, .null])) :: ((([] ++ wX8 u1 cA) ++ wX4 u2 cA) ++ wX6 u3 cA 5 2)) := hD
  refine lv_aload_n hx hb dX7_init_39 rfl (lv_at hl 0 rfl) ?_
  refine va_new (ci := 5) (fs := [.null, .int 0, .int 0, .int 0]) (C := RX6) (T := TX6) (N := 4) hx hb hts (fun _ h => List.mem_cons_of_mem _ (List.mem_append_right _ h)) tyX6 tyX6_ok hown (hts _ (List.mem_of_getElem? (i := 12) rfl)) (hts _ (List.mem_of_getElem? (i := 13) rfl)) (hts _ (List.mem_of_getElem? (i := 14) rfl)) hK hP hD hS hA rfl (fun j hj => by rcases (show j = 0 ∨ j = 1 ∨ j = 2 ∨ j = 3 by omega) with rfl | rfl | rfl | rfl <;> rfl) (Nat.le_of_ble_eq_true rfl) (Nat.le_of_ble_eq_true rfl) dX7_init_40 (fun q4 H hP hD hS => ?_)
  refine lv_dup hx hb dX7_init_43 rfl ?_
  refine lv_bipush (v := 6) hx hb dX7_init_44 (by decide) ?_
  refine lv_iconst (v := 4) hx hb dX7_init_46 (by decide) ?_
  have hPc := vP1 (q := (q4, .inr (5, [.null, .int 0, .int 0, .int 0]))) hP
  have hFc := vF1 (q := (q4, .inr (5, [.null, .int 0, .int 0, .int 0]))) hD hS hA
  refine va_callv (va_runI (As := [.int 6, .int 4]) (rest := [.ref q4, .ref h0]) ⟨hx, hb, hml, hown, hts⟩ (k_X6 (a := 6) (b := 4) (a2 := 6) (b2 := 4) (by decide) (by decide) q4 H.size) (cwI 2 hts gX7_init_X6_init rfl rfl rfl (hts _ (List.mem_of_getElem? (i := 14) rfl)) (hts _ (List.mem_of_getElem? (i := 34) rfl)) (hts _ (List.mem_of_getElem? (i := 35) rfl)) rfl (by decide +kernel) ⟨(Nat.le_of_ble_eq_true rfl), (Nat.le_of_ble_eq_true rfl)⟩) ⟨preC_blind, preC_of hPc hN⟩ rfl rfl hl.1 rfl (lv_room (Nat.le_of_ble_eq_true rfl)) dX7_init_47 ⟨(Nat.le_of_ble_eq_true rfl), (Nat.le_of_ble_eq_true rfl)⟩) hS (fun x _ h => hFc x h) hFc (fun u4 t H locs ht hvm hu hB hz1 hk1 hS => ?_)
  obtain ⟨hP1, hD1⟩ := hB
  rw [ht] at hP1
  obtain ⟨hPj, hDj⟩ := vJ hP hD hk1 hFc hP1 hD1
  subst hu
  have hP : va_P (dC, dI) vwCl ((h0, .inr (6, [.ref (u1 0), .ref (u2 0), .ref (u3 0), .null, .null])) :: (((([] ++ wX8 u1 cA) ++ wX4 u2 cA) ++ wX6 u3 cA 5 2) ++ wX6 u4 cA 6 4)) H := hPj
  have hD : va_D A ((h0, .inr (6, [.ref (u1 0), .ref (u2 0), .ref (u3 0), .null, .null])) :: (((([] ++ wX8 u1 cA) ++ wX4 u2 cA) ++ wX6 u3 cA 5 2) ++ wX6 u4 cA 6 4)) := hDj
  refine va_putF (D := (dC, dI)) (ci := 6) (v := .ref (u4 0)) (ty := .object "GloveRail$Rows") (C := RX7) (T := TX7) (N := 5) hx hb hts (fun _ h => List.mem_cons_of_mem _ (List.mem_append_left _ (List.mem_append_left _ (List.mem_append_right _ h)))) tyX7 tyX7_ok nmX7 hown hK hP hD hS 0 rfl rfl 3 (by decide) (hts _ (List.mem_of_getElem? (i := 16) rfl)) (fun _ h9 => h9) rfl hin rfl (by decide +kernel) rfl rfl (Nat.le_of_ble_eq_true rfl) dX7_init_50 (fun H locs hP hD hS => ?_)
  have hP : va_P (dC, dI) vwCl ((h0, .inr (6, [.ref (u1 0), .ref (u2 0), .ref (u3 0), .ref (u4 0), .null])) :: (((([] ++ wX8 u1 cA) ++ wX4 u2 cA) ++ wX6 u3 cA 5 2) ++ wX6 u4 cA 6 4)) H := hP
  have hD : va_D A ((h0, .inr (6, [.ref (u1 0), .ref (u2 0), .ref (u3 0), .ref (u4 0), .null])) :: (((([] ++ wX8 u1 cA) ++ wX4 u2 cA) ++ wX6 u3 cA 5 2) ++ wX6 u4 cA 6 4)) := hD
  refine lv_aload_n hx hb dX7_init_53 rfl (lv_at hl 0 rfl) ?_
  refine va_new (ci := 5) (fs := [.null, .int 0, .int 0, .int 0]) (C := RX6) (T := TX6) (N := 4) hx hb hts (fun _ h => List.mem_cons_of_mem _ (List.mem_append_right _ h)) tyX6 tyX6_ok hown (hts _ (List.mem_of_getElem? (i := 12) rfl)) (hts _ (List.mem_of_getElem? (i := 13) rfl)) (hts _ (List.mem_of_getElem? (i := 14) rfl)) hK hP hD hS hA rfl (fun j hj => by rcases (show j = 0 ∨ j = 1 ∨ j = 2 ∨ j = 3 by omega) with rfl | rfl | rfl | rfl <;> rfl) (Nat.le_of_ble_eq_true rfl) (Nat.le_of_ble_eq_true rfl) dX7_init_54 (fun q5 H hP hD hS => ?_)
  refine lv_dup hx hb dX7_init_57 rfl ?_
  refine lv_bipush (v := 6) hx hb dX7_init_58 (by decide) ?_
  refine lv_iconst (v := 4) hx hb dX7_init_60 (by decide) ?_
  have hPc := vP1 (q := (q5, .inr (5, [.null, .int 0, .int 0, .int 0]))) hP
  have hFc := vF1 (q := (q5, .inr (5, [.null, .int 0, .int 0, .int 0]))) hD hS hA
  refine va_callv (va_runI (As := [.int 6, .int 4]) (rest := [.ref q5, .ref h0]) ⟨hx, hb, hml, hown, hts⟩ (k_X6 (a := 6) (b := 4) (a2 := 6) (b2 := 4) (by decide) (by decide) q5 H.size) (cwI 2 hts gX7_init_X6_init rfl rfl rfl (hts _ (List.mem_of_getElem? (i := 14) rfl)) (hts _ (List.mem_of_getElem? (i := 34) rfl)) (hts _ (List.mem_of_getElem? (i := 35) rfl)) rfl (by decide +kernel) ⟨(Nat.le_of_ble_eq_true rfl), (Nat.le_of_ble_eq_true rfl)⟩) ⟨preC_blind, preC_of hPc hN⟩ rfl rfl hl.1 rfl (lv_room (Nat.le_of_ble_eq_true rfl)) dX7_init_61 ⟨(Nat.le_of_ble_eq_true rfl), (Nat.le_of_ble_eq_true rfl)⟩) hS (fun x _ h => hFc x h) hFc (fun u5 t H locs ht hvm hu hB hz1 hk1 hS => ?_)
  obtain ⟨hP1, hD1⟩ := hB
  rw [ht] at hP1
  obtain ⟨hPj, hDj⟩ := vJ hP hD hk1 hFc hP1 hD1
  subst hu
  have hP : va_P (dC, dI) vwCl ((h0, .inr (6, [.ref (u1 0), .ref (u2 0), .ref (u3 0), .ref (u4 0), .null])) :: ((((([] ++ wX8 u1 cA) ++ wX4 u2 cA) ++ wX6 u3 cA 5 2) ++ wX6 u4 cA 6 4) ++ wX6 u5 cA 6 4)) H := hPj
  have hD : va_D A ((h0, .inr (6, [.ref (u1 0), .ref (u2 0), .ref (u3 0), .ref (u4 0), .null])) :: ((((([] ++ wX8 u1 cA) ++ wX4 u2 cA) ++ wX6 u3 cA 5 2) ++ wX6 u4 cA 6 4) ++ wX6 u5 cA 6 4)) := hDj
  refine va_putF (D := (dC, dI)) (ci := 6) (v := .ref (u5 0)) (ty := .object "GloveRail$Rows") (C := RX7) (T := TX7) (N := 5) hx hb hts (fun _ h => List.mem_cons_of_mem _ (List.mem_append_left _ (List.mem_append_left _ (List.mem_append_right _ h)))) tyX7 tyX7_ok nmX7 hown hK hP hD hS 0 rfl rfl 4 (by decide) (hts _ (List.mem_of_getElem? (i := 17) rfl)) (fun _ h9 => h9) rfl hin rfl (by decide +kernel) rfl rfl (Nat.le_of_ble_eq_true rfl) dX7_init_64 (fun H locs hP hD hS => ?_)
  have hP : va_P (dC, dI) vwCl ((h0, .inr (6, [.ref (u1 0), .ref (u2 0), .ref (u3 0), .ref (u4 0), .ref (u5 0)])) :: ((((([] ++ wX8 u1 cA) ++ wX4 u2 cA) ++ wX6 u3 cA 5 2) ++ wX6 u4 cA 6 4) ++ wX6 u5 cA 6 4)) H := hP
  have hD : va_D A ((h0, .inr (6, [.ref (u1 0), .ref (u2 0), .ref (u3 0), .ref (u4 0), .ref (u5 0)])) :: ((((([] ++ wX8 u1 cA) ++ wX4 u2 cA) ++ wX6 u3 cA 5 2) ++ wX6 u4 cA 6 4) ++ wX6 u5 cA 6 4)) := hD
  have hP9 : va_P (dC, dI) vwCl (wX7 (fun k => if k = 0 then h0 else if k < 10 then u1 (k - 1) else if k < 12 then u2 (k - 10) else if k < 14 then u3 (k - 12) else if k < 16 then u4 (k - 14) else u5 (k - 16)) cA) H := hP
  have hD9 : va_D A (wX7 (fun k => if k = 0 then h0 else if k < 10 then u1 (k - 1) else if k < 12 then u2 (k - 10) else if k < 14 then u3 (k - 12) else if k < 16 then u4 (k - 14) else u5 (k - 16)) cA) := hD
  refine W.widen (k := 17) (n := 233) (Nat.le_of_ble_eq_true rfl) (Nat.le_of_ble_eq_true rfl) ?_
  exact W.vret hx hb hr (fun t ht _ => ⟨⟨_, rfl, rfl, by rw [ht]; exact hP9, hD9⟩, hS.F ht⟩) hS.2.2 dX7_init_67 hlocks
set_option maxHeartbeats 4000000 in
set_option maxRecDepth 100000 in
theorem k_X0 (h0 sz : Nat) : Met l yX0_init wsX0_init ({ frames := 2, cells := 9, slots := 75, locals := 40 } : Room) (va_Pc [.ref h0] (PC dC dI cA cZ [(h0, .inr (0, [.null, .int 0, .int 0, .int 0]))] sz)) (va_Qv (fun u : Nat → Nat => u 0 = h0) (fun u t => va_P (dC, dI) vwCl (wX0 u cA) t.heap ∧ va_D (va_A [(h0, .inr (0, [.null, .int 0, .int 0, .int 0]))] sz) (wX0 u cA)) (va_A [(h0, .inr (0, [.null, .int 0, .int 0, .int 0]))] sz)) 9 75 (va_A [(h0, .inr (0, [.null, .int 0, .int 0, .int 0]))] sz) := by
  refine Met.ofW (cc := cX0_init) (maxL := 1) (ret := none) (by decide) rfl ?_
  intro p e s m args below meth c s₁ B hml hv0
  obtain ⟨rfl, hsz, hP, hN⟩ := hv0
  have hin : meth.name = "<init>" := (name_of_methodNamed B.named B.method).1
  obtain ⟨hx, hb, hml, hown, hts, hr, hlocks⟩ : Cx cX0_init RX0 wsX0_init 1 none p s m ([.ref h0] : List Value).toArray meth c := ⟨B.exec, B.bytes, hml, findClass_of_methodNamed B.named, atoms_spec (ws := wsX0_init) B.pre, B.returns, B.notSynchronized⟩
  subst hsz
  have hD : va_D (va_A [(h0, .inr (0, [.null, .int 0, .int 0, .int 0]))] s.heap.size) [(h0, .inr (0, [.null, .int 0, .int 0, .int 0]))] := vD1 (Or.inl ⟨0, _, rfl⟩)
  generalize hAe : va_A [(h0, .inr (0, [.null, .int 0, .int 0, .int 0]))] s.heap.size = A at hD ⊢
  have hA : ∀ q : Nat, s.heap.size ≤ q → A q := fun q h => by rw [← hAe]; exact Or.inr h
  have hS : va_S A s.heap s.heap [] := va_S.rf
  have hK := hN.1.1
  have hl := lv_entry ([.ref h0]) (n := 1) (Nat.le_of_ble_eq_true rfl)
  rw [lg_entry_eq]
  generalize (lg_sl ([.ref h0]) ++ List.replicate (1 - (lg_sl ([.ref h0])).length) Slot.unset).toArray = ls at hl ⊢
  have hl : lv_has ls 1 [(0, .ref h0)] := hl
  refine lv_aload_n hx hb dX0_init_0 rfl (lv_at hl 0 rfl) ?_
  refine W.objInit hx hb hown (hts _ (List.mem_of_getElem? (i := 1) rfl)) (hts _ (List.mem_of_getElem? (i := 2) rfl)) (hts _ (List.mem_of_getElem? (i := 3) rfl)) rfl (by rw [hml]; exact hl.1) rfl dX0_init_1 (Nat.le_of_ble_eq_true rfl) (Nat.le_of_ble_eq_true rfl) ?_
  refine W.eq (g2 := F0 m 4 ls []) rfl ?_
  refine lv_aload_n hx hb dX0_init_4 rfl (lv_at hl 0 rfl) ?_
  refine va_new (ci := 7) (fs := [.null, .null, .null, .null, .null, .null, .null, .null, .int 0, .int 0, .int 0, .int 0]) (C := RX8) (T := TX8) (N := 12) hx hb hts (fun _ h => List.mem_cons_of_mem _ (List.mem_append_left _ (List.mem_append_right _ h))) tyX8 tyX8_ok hown (hts _ (List.mem_of_getElem? (i := 4) rfl)) (hts _ (List.mem_of_getElem? (i := 5) rfl)) (hts _ (List.mem_of_getElem? (i := 6) rfl)) hK hP hD hS hA rfl (fun j hj => by rcases (show j = 0 ∨ j = 1 ∨ j = 2 ∨ j = 3 ∨ j = 4 ∨ j = 5 ∨ j = 6 ∨ j = 7 ∨ j = 8 ∨ j = 9 ∨ j = 10 ∨ j = 11 by omega) with rfl | rfl | rfl | rfl | rfl | rfl | rfl | rfl | rfl | rfl | rfl | rfl <;> rfl) (Nat.le_of_ble_eq_true rfl) (Nat.le_of_ble_eq_true rfl) dX0_init_5 (fun q1 H hP hD hS => ?_)
  refine lv_dup hx hb dX0_init_8 rfl ?_
  have hPc := vP1 (q := (q1, .inr (7, [.null, .null, .null, .null, .null, .null, .null, .null, .int 0, .int 0, .int 0, .int 0]))) hP
  have hFc := vF1 (q := (q1, .inr (7, [.null, .null, .null, .null, .null, .null, .null, .null, .int 0, .int 0, .int 0, .int 0]))) hD hS hA
  refine va_callv (va_runIN (As := []) (rest := [.ref q1, .ref h0]) ⟨hx, hb, hml, hown, hts⟩ (k_X8 q1 H.size) ⟨va_cnB 0 hts gX0_init_X8_init_n11 rfl rfl rfl (hN.2.2.2.2.2.2.1) (hts _ (List.mem_of_getElem? (i := 6) rfl)) (by decide +kernel) ⟨(Nat.le_of_ble_eq_true rfl), (Nat.le_of_ble_eq_true rfl)⟩, rfl, (hts _ (List.mem_of_getElem? (i := 8) rfl))⟩ ⟨preC_blind, preC_of hPc hN⟩ rfl rfl hl.1 rfl (lv_room (Nat.le_of_ble_eq_true rfl)) dX0_init_9 ⟨(Nat.le_of_ble_eq_true rfl), (Nat.le_of_ble_eq_true rfl)⟩) hS (fun x _ h => hFc x h) hFc (fun u1 t H locs ht hvm hu hB hz1 hk1 hS => ?_)
  obtain ⟨hP1, hD1⟩ := hB
  rw [ht] at hP1
  obtain ⟨hPj, hDj⟩ := vJ hP hD hk1 hFc hP1 hD1
  subst hu
  have hP : va_P (dC, dI) vwCl ((h0, .inr (0, [.null, .int 0, .int 0, .int 0])) :: ([] ++ wX8 u1 cA)) H := hPj
  have hD : va_D A ((h0, .inr (0, [.null, .int 0, .int 0, .int 0])) :: ([] ++ wX8 u1 cA)) := hDj
  refine va_putF (D := (dC, dI)) (ci := 0) (v := .ref (u1 0)) (ty := .object "GloveRail$Street") (C := RX0) (T := TX0) (N := 4) hx hb hts (fun _ h => List.mem_cons_of_mem _ (List.mem_append_right _ h)) tyX0 tyX0_ok nmX0 hown hK hP hD hS 0 rfl rfl 0 (by decide) (hts _ (List.mem_of_getElem? (i := 7) rfl)) (fun _ h9 => h9) rfl hin rfl (by decide +kernel) rfl rfl (Nat.le_of_ble_eq_true rfl) dX0_init_12 (fun H locs hP hD hS => ?_)
  have hP : va_P (dC, dI) vwCl ((h0, .inr (0, [.ref (u1 0), .int 0, .int 0, .int 0])) :: ([] ++ wX8 u1 cA)) H := hP
  have hD : va_D A ((h0, .inr (0, [.ref (u1 0), .int 0, .int 0, .int 0])) :: ([] ++ wX8 u1 cA)) := hD
  have hP9 : va_P (dC, dI) vwCl (wX0 (fun k => if k = 0 then h0 else u1 (k - 1)) cA) H := hP
  have hD9 : va_D A (wX0 (fun k => if k = 0 then h0 else u1 (k - 1)) cA) := hD
  refine W.widen (k := 9) (n := 75) (Nat.le_of_ble_eq_true rfl) (Nat.le_of_ble_eq_true rfl) ?_
  exact W.vret hx hb hr (fun t ht _ => ⟨⟨_, rfl, rfl, by rw [ht]; exact hP9, hD9⟩, hS.F ht⟩) hS.2.2 dX0_init_15 hlocks
set_option maxHeartbeats 4000000 in
set_option maxRecDepth 100000 in
theorem k_X5 (h0 sz : Nat) : Met l yX5_init wsX5_init ({ frames := 2, cells := 11, slots := 231, locals := 40 } : Room) (va_Pc [.ref h0] (PC dC dI cA cZ [(h0, .inr (4, [.null, .null]))] sz)) (va_Qv (fun u : Nat → Nat => u 0 = h0) (fun u t => va_P (dC, dI) vwCl (wX5 u cA) t.heap ∧ va_D (va_A [(h0, .inr (4, [.null, .null]))] sz) (wX5 u cA)) (va_A [(h0, .inr (4, [.null, .null]))] sz)) 11 231 (va_A [(h0, .inr (4, [.null, .null]))] sz) := by
  refine Met.ofW (cc := cX5_init) (maxL := 1) (ret := none) (by decide) rfl ?_
  intro p e s m args below meth c s₁ B hml hv0
  obtain ⟨rfl, hsz, hP, hN⟩ := hv0
  have hin : meth.name = "<init>" := (name_of_methodNamed B.named B.method).1
  obtain ⟨hx, hb, hml, hown, hts, hr, hlocks⟩ : Cx cX5_init RX5 wsX5_init 1 none p s m ([.ref h0] : List Value).toArray meth c := ⟨B.exec, B.bytes, hml, findClass_of_methodNamed B.named, atoms_spec (ws := wsX5_init) B.pre, B.returns, B.notSynchronized⟩
  subst hsz
  have hD : va_D (va_A [(h0, .inr (4, [.null, .null]))] s.heap.size) [(h0, .inr (4, [.null, .null]))] := vD1 (Or.inl ⟨0, _, rfl⟩)
  generalize hAe : va_A [(h0, .inr (4, [.null, .null]))] s.heap.size = A at hD ⊢
  have hA : ∀ q : Nat, s.heap.size ≤ q → A q := fun q h => by rw [← hAe]; exact Or.inr h
  have hS : va_S A s.heap s.heap [] := va_S.rf
  have hK := hN.1.1
  have hl := lv_entry ([.ref h0]) (n := 1) (Nat.le_of_ble_eq_true rfl)
  rw [lg_entry_eq]
  generalize (lg_sl ([.ref h0]) ++ List.replicate (1 - (lg_sl ([.ref h0])).length) Slot.unset).toArray = ls at hl ⊢
  have hl : lv_has ls 1 [(0, .ref h0)] := hl
  refine lv_aload_n hx hb dX5_init_0 rfl (lv_at hl 0 rfl) ?_
  refine W.objInit hx hb hown (hts _ (List.mem_of_getElem? (i := 1) rfl)) (hts _ (List.mem_of_getElem? (i := 2) rfl)) (hts _ (List.mem_of_getElem? (i := 3) rfl)) rfl (by rw [hml]; exact hl.1) rfl dX5_init_1 (Nat.le_of_ble_eq_true rfl) (Nat.le_of_ble_eq_true rfl) ?_
  refine W.eq (g2 := F0 m 4 ls []) rfl ?_
  refine lv_aload_n hx hb dX5_init_4 rfl (lv_at hl 0 rfl) ?_
  refine va_new (ci := 8) (fs := [.null, .int 0, .int 0, .int 0, .int 0, .int 0]) (C := RX9) (T := TX9) (N := 6) hx hb hts (fun _ h => List.mem_cons_of_mem _ (List.mem_append_left _ (List.mem_append_left _ (List.mem_append_right _ h)))) tyX9 tyX9_ok hown (hts _ (List.mem_of_getElem? (i := 4) rfl)) (hts _ (List.mem_of_getElem? (i := 5) rfl)) (hts _ (List.mem_of_getElem? (i := 6) rfl)) hK hP hD hS hA rfl (fun j hj => by rcases (show j = 0 ∨ j = 1 ∨ j = 2 ∨ j = 3 ∨ j = 4 ∨ j = 5 by omega) with rfl | rfl | rfl | rfl | rfl | rfl <;> rfl) (Nat.le_of_ble_eq_true rfl) (Nat.le_of_ble_eq_true rfl) dX5_init_5 (fun q1 H hP hD hS => ?_)
  refine lv_dup hx hb dX5_init_8 rfl ?_
  have hPc := vP1 (q := (q1, .inr (8, [.null, .int 0, .int 0, .int 0, .int 0, .int 0]))) hP
  have hFc := vF1 (q := (q1, .inr (8, [.null, .int 0, .int 0, .int 0, .int 0, .int 0]))) hD hS hA
  refine va_callv (va_runIN (As := []) (rest := [.ref q1, .ref h0]) ⟨hx, hb, hml, hown, hts⟩ (k_X9 q1 H.size) ⟨va_cnB 0 hts gX5_init_X9_init_n11 rfl rfl rfl (hN.2.2.2.2.2.2.2.1) (hts _ (List.mem_of_getElem? (i := 6) rfl)) (by decide +kernel) ⟨(Nat.le_of_ble_eq_true rfl), (Nat.le_of_ble_eq_true rfl)⟩, rfl, (hts _ (List.mem_of_getElem? (i := 12) rfl))⟩ ⟨preC_blind, preC_of hPc hN⟩ rfl rfl hl.1 rfl (lv_room (Nat.le_of_ble_eq_true rfl)) dX5_init_9 ⟨(Nat.le_of_ble_eq_true rfl), (Nat.le_of_ble_eq_true rfl)⟩) hS (fun x _ h => hFc x h) hFc (fun u1 t H locs ht hvm hu hB hz1 hk1 hS => ?_)
  obtain ⟨hP1, hD1⟩ := hB
  rw [ht] at hP1
  obtain ⟨hPj, hDj⟩ := vJ hP hD hk1 hFc hP1 hD1
  subst hu
  have hP : va_P (dC, dI) vwCl ((h0, .inr (4, [.null, .null])) :: ([] ++ wX9 u1 cA)) H := hPj
  have hD : va_D A ((h0, .inr (4, [.null, .null])) :: ([] ++ wX9 u1 cA)) := hDj
  refine va_putF (D := (dC, dI)) (ci := 4) (v := .ref (u1 0)) (ty := .object "GloveRail$Tokens") (C := RX5) (T := TX5) (N := 2) hx hb hts (fun _ h => List.mem_cons_of_mem _ (List.mem_append_left _ (List.mem_append_right _ h))) tyX5 tyX5_ok nmX5 hown hK hP hD hS 0 rfl rfl 0 (by decide) (hts _ (List.mem_of_getElem? (i := 7) rfl)) (fun _ h9 => h9) rfl hin rfl (by decide +kernel) rfl rfl (Nat.le_of_ble_eq_true rfl) dX5_init_12 (fun H locs hP hD hS => ?_)
  have hP : va_P (dC, dI) vwCl ((h0, .inr (4, [.ref (u1 0), .null])) :: ([] ++ wX9 u1 cA)) H := hP
  have hD : va_D A ((h0, .inr (4, [.ref (u1 0), .null])) :: ([] ++ wX9 u1 cA)) := hD
  refine lv_aload_n hx hb dX5_init_15 rfl (lv_at hl 0 rfl) ?_
  refine va_new (ci := 7) (fs := [.null, .null, .null, .null, .null, .null, .null, .null, .int 0, .int 0, .int 0, .int 0]) (C := RX8) (T := TX8) (N := 12) hx hb hts (fun _ h => List.mem_cons_of_mem _ (List.mem_append_right _ h)) tyX8 tyX8_ok hown (hts _ (List.mem_of_getElem? (i := 8) rfl)) (hts _ (List.mem_of_getElem? (i := 9) rfl)) (hts _ (List.mem_of_getElem? (i := 10) rfl)) hK hP hD hS hA rfl (fun j hj => by rcases (show j = 0 ∨ j = 1 ∨ j = 2 ∨ j = 3 ∨ j = 4 ∨ j = 5 ∨ j = 6 ∨ j = 7 ∨ j = 8 ∨ j = 9 ∨ j = 10 ∨ j = 11 by omega) with rfl | rfl | rfl | rfl | rfl | rfl | rfl | rfl | rfl | rfl | rfl | rfl <;> rfl) (Nat.le_of_ble_eq_true rfl) (Nat.le_of_ble_eq_true rfl) dX5_init_16 (fun q2 H hP hD hS => ?_)
  refine lv_dup hx hb dX5_init_19 rfl ?_
  have hPc := vP1 (q := (q2, .inr (7, [.null, .null, .null, .null, .null, .null, .null, .null, .int 0, .int 0, .int 0, .int 0]))) hP
  have hFc := vF1 (q := (q2, .inr (7, [.null, .null, .null, .null, .null, .null, .null, .null, .int 0, .int 0, .int 0, .int 0]))) hD hS hA
  refine va_callv (va_runIN (As := []) (rest := [.ref q2, .ref h0]) ⟨hx, hb, hml, hown, hts⟩ (k_X8 q2 H.size) ⟨va_cnB 0 hts gX5_init_X8_init_n20 rfl rfl rfl (hN.2.2.2.2.2.2.2.2.1) (hts _ (List.mem_of_getElem? (i := 10) rfl)) (by decide +kernel) ⟨(Nat.le_of_ble_eq_true rfl), (Nat.le_of_ble_eq_true rfl)⟩, rfl, (hts _ (List.mem_of_getElem? (i := 17) rfl))⟩ ⟨preC_blind, preC_of hPc hN⟩ rfl rfl hl.1 rfl (lv_room (Nat.le_of_ble_eq_true rfl)) dX5_init_20 ⟨(Nat.le_of_ble_eq_true rfl), (Nat.le_of_ble_eq_true rfl)⟩) hS (fun x _ h => hFc x h) hFc (fun u2 t H locs ht hvm hu hB hz1 hk1 hS => ?_)
  obtain ⟨hP1, hD1⟩ := hB
  rw [ht] at hP1
  obtain ⟨hPj, hDj⟩ := vJ hP hD hk1 hFc hP1 hD1
  subst hu
  have hP : va_P (dC, dI) vwCl ((h0, .inr (4, [.ref (u1 0), .null])) :: (([] ++ wX9 u1 cA) ++ wX8 u2 cA)) H := hPj
  have hD : va_D A ((h0, .inr (4, [.ref (u1 0), .null])) :: (([] ++ wX9 u1 cA) ++ wX8 u2 cA)) := hDj
  refine va_putF (D := (dC, dI)) (ci := 4) (v := .ref (u2 0)) (ty := .object "GloveRail$Street") (C := RX5) (T := TX5) (N := 2) hx hb hts (fun _ h => List.mem_cons_of_mem _ (List.mem_append_left _ (List.mem_append_right _ h))) tyX5 tyX5_ok nmX5 hown hK hP hD hS 0 rfl rfl 1 (by decide) (hts _ (List.mem_of_getElem? (i := 11) rfl)) (fun _ h9 => h9) rfl hin rfl (by decide +kernel) rfl rfl (Nat.le_of_ble_eq_true rfl) dX5_init_23 (fun H locs hP hD hS => ?_)
  have hP : va_P (dC, dI) vwCl ((h0, .inr (4, [.ref (u1 0), .ref (u2 0)])) :: (([] ++ wX9 u1 cA) ++ wX8 u2 cA)) H := hP
  have hD : va_D A ((h0, .inr (4, [.ref (u1 0), .ref (u2 0)])) :: (([] ++ wX9 u1 cA) ++ wX8 u2 cA)) := hD
  have hP9 : va_P (dC, dI) vwCl (wX5 (fun k => if k = 0 then h0 else if k < 3 then u1 (k - 1) else u2 (k - 3)) cA) H := hP
  have hD9 : va_D A (wX5 (fun k => if k = 0 then h0 else if k < 3 then u1 (k - 1) else u2 (k - 3)) cA) := hD
  refine W.widen (k := 11) (n := 231) (Nat.le_of_ble_eq_true rfl) (Nat.le_of_ble_eq_true rfl) ?_
  exact W.vret hx hb hr (fun t ht _ => ⟨⟨_, rfl, rfl, by rw [ht]; exact hP9, hD9⟩, hS.F ht⟩) hS.2.2 dX5_init_26 hlocks
end CT2
