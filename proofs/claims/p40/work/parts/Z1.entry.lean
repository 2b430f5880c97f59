set_option maxHeartbeats 4000000 in
set_option maxRecDepth 100000 in
theorem whole_start {p : Program} {e : Env} {s : State} {m : MethodId} {below : List Frame} {meth : Method} {c : Code} (l : Launch) (hflags : l.flags = flags0) {b L : Nat} {xs : Nat → Int32} (hL : L ≤ 260) (C0 : lw_At p s m meth c b L xs) : W p l e room_1 s m #[Value.ref b] below meth c s.heap [] 0 0 (lw_Z below #[Value.ref b] s) (entryFrame m ([Value.ref b] : List Value).toArray 32) := by
  obtain ⟨hx, hb, hr, hml, hown, hts, hX, hbl, hlocks, hgv⟩ := id C0
  have hb : c.code = cL_law := hb
  have hown : s.vm.findClass RL = some m.cls := hown
  have hA : ∀ q : Nat, s.heap.size ≤ q → La s q := fun _ h => h
  obtain ⟨dC, dI, cA, cZ, hKN⟩ := lf_K hts
  have hK := hKN.1.1
  have hS : va_S (La s) s.heap s.heap [] := va_S.rf
  have hP : va_P (dC, dI) vwCl [] s.heap := fun k q h => by simp at h
  have hD : va_D (La s) [] := ⟨fun i j p q h => by simp at h, fun k q h => by simp at h⟩
  have hl := lv_entry ([.ref b]) (n := 32) (Nat.le_of_ble_eq_true rfl)
  rw [lg_entry_eq]
  generalize (lg_sl ([.ref b]) ++ List.replicate (32 - (lg_sl ([.ref b])).length) Slot.unset).toArray = ls at hl ⊢
  have hl : lv_has ls 32 [(0, .ref b)] := hl
  refine va_new (ci := 9) (fs := [.null, .null, .null, .null, .null, .null, .null, .int 0, .int 0, .int 0, .int 0, .int 0, .int 0]) (C := RX10) (T := TX10) (N := 13) hx hb hts ig_wsX100 tyX10 tyX10_ok hown (hts (.classLink RL 20 RX10) mw_31) (hts (.instantiable RX10 13) mw_32) (hts (.initialized RX10) mw_17) hK hP hD hS hA rfl (fun j hj => by rcases (show j = 0 ∨ j = 1 ∨ j = 2 ∨ j = 3 ∨ j = 4 ∨ j = 5 ∨ j = 6 ∨ j = 7 ∨ j = 8 ∨ j = 9 ∨ j = 10 ∨ j = 11 ∨ j = 12 by omega) with rfl | rfl | rfl | rfl | rfl | rfl | rfl | rfl | rfl | rfl | rfl | rfl | rfl <;> rfl) (Nat.le_of_ble_eq_true rfl) (Nat.le_of_ble_eq_true rfl) dL_law_0 (fun q0 H hP hD hS => ?_)
  refine lv_dup hx hb dL_law_3 rfl ?_
  have hPc := vP1 hP
  have hFc := vF1 hD hS hA
  refine va_callv (va_runI (As := []) (rest := [.ref q0]) ⟨hx, hb, hml, hown, hts⟩ (k_X10 q0 H.size) (cwI 0 (fun w h => hts w (in_wsX10_init w h)) gv_X10_init rfl rfl rfl (hts (.initialized RX10) mw_17) (hts (.methodLink RL 35 yX10_init) mw_33) (hts (.instanceMethod yX10_init) mw_34) rfl (by decide +kernel) ⟨(Nat.le_of_ble_eq_true rfl), (Nat.le_of_ble_eq_true rfl)⟩) ⟨preC_blind, preC_of hPc hKN⟩ rfl rfl hl.1 rfl (lv_room (Nat.le_of_ble_eq_true rfl)) dL_law_4 ⟨(Nat.le_of_ble_eq_true rfl), (Nat.le_of_ble_eq_true rfl)⟩) hS (fun x _ h => hFc x h) hFc (fun ad t H locs ht hvm hu hB hz1 hk1 hS => ?_)
  obtain ⟨hP1, hD1⟩ := hB
  rw [ht] at hP1
  obtain ⟨hPj, hDj⟩ := vJ hP hD hk1 hFc hP1 hD1
  subst hu
  rw [w10_wd, List.nil_append] at hPj hDj
  refine W.widen (k := 81) (n := 1197) (Nat.le_of_ble_eq_true rfl) (Nat.le_of_ble_eq_true rfl) ?_
  refine lv_astore_n (lv' := [(1, .ref (ad 0)), (0, .ref b)]) hx hb dL_law_7 rfl hl (by decide) rfl (fun ls hl => ?_)
  refine lv_bipush (v := 39) hx hb dL_law_8 (by decide) ?_
  refine r_newI (N := 39) hx hb (hts _ mw_109) hK hPj hDj hS hA (by decide) (by decide) (Nat.le_of_ble_eq_true rfl) (Nat.le_of_ble_eq_true rfl) (Nat.le_of_ble_eq_true rfl) dL_law_10 (fun q H hP hD hS => ?_)
  have ew : wd 81 ad (celC ad cA) s0C ++ [(q, .inl (cA, 39, .inl zq))] = wd (81 + 1) (ua ad 81 q) (celL (ua ad 81 q) cA) (us s0C 81 zq) := wd_app (e := fun f => .inl (cA, 39, .inl f)) (fun k f h => (ceL_lo h f).symm) (by decide) (fun f => ceL_81 f)
  have hP : va_P (dC, dI) vwCl (wd 81 ad (celC ad cA) s0C ++ [(q, .inl (cA, 39, .inl zq))]) H := hP
  have hD : va_D (La s) (wd 81 ad (celC ad cA) s0C ++ [(q, .inl (cA, 39, .inl zq))]) := hD
  rw [ew] at hP hD
  obtain ⟨hi, hda⟩ := wd_Dr hD
  refine lv_astore_n (lv' := [(2, .ref (ua ad 81 q 81)), (1, .ref (ua ad 81 q 0)), (0, .ref b)]) hx hb dL_law_12 rfl hl (by decide) rfl (fun ls hl => ?_)
  refine W.widen (k := 100) (n := 1500) (Nat.le_of_ble_eq_true rfl) (Nat.le_of_ble_eq_true rfl) ?_
  have C1 : LC p s m meth c b L xs dC dI cA cZ := ⟨⟨hx, hb, hml, hown, hts, hr, hlocks⟩, hX, hbl, hKN.1⟩
  have H0 : LV (us s0C 81 zq) (fun _ => 0) (fun _ => 0) 0 (us s0C 81 zq) := ⟨S00, B00, CR_00.congr (fun q hq => us_ne (by omega)), WF_00, rfl, fun e => absurd e (by decide), fun j hj => rfl⟩
  exact w_L_law_e C1 (R_L_law L xs) (y_L_law C1) (us s0C 81 zq) (law_ok hL H0) hi hda hP hS hl
