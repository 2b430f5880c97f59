set_option maxHeartbeats 4000000 in
set_option maxRecDepth 100000 in
theorem whole_start {p : Program} {e : Env} {s : State} {m : MethodId} {below : List Frame} {meth : Method} {c : Code} (l : Launch) (hflags : l.flags = flags0) {b L : Nat} {xs : Nat → Int32} (hL : L ≤ 2560) (C0 : lw_At p s m meth c b L xs) : W p l e room_1 s m #[Value.ref b] below meth c s.heap [] 0 0 (lw_Z below #[Value.ref b] s) (entryFrame m ([Value.ref b] : List Value).toArray 4) := by
  obtain ⟨hx, hb, hr, hml, hown, hts, hX, hbl, hlocks, hgv⟩ := id C0
  have hb : c.code = cL_law := hb
  have hown : s.vm.findClass RL = some m.cls := hown
  have hA : ∀ q : Nat, s.heap.size ≤ q → La s q := fun _ h => h
  obtain ⟨dC, dI, cA, cZ, hKN⟩ := lf_K hts
  obtain ⟨adK, adV, hSK, hSR⟩ := lf_S hts hgv
  have hK := hKN.1.1
  have hS : va_S (La s) s.heap s.heap [] := va_S.rf
  have hP : va_P (dC, dI) vwCl [] s.heap := fun k q h => by simp at h
  have hD : va_D (La s) [] := ⟨fun i j p q h => by simp at h, fun k q h => by simp at h⟩
  have hl := lv_entry ([.ref b]) (n := 4) (Nat.le_of_ble_eq_true rfl)
  rw [lg_entry_eq]
  generalize (lg_sl ([.ref b]) ++ List.replicate (4 - (lg_sl ([.ref b])).length) Slot.unset).toArray = ls at hl ⊢
  have hl : lv_has ls 4 [(0, .ref b)] := hl
  refine va_new (ci := 9) (fs := [.null, .null, .null, .null, .null, .null, .null, .int 0, .int 0, .int 0, .int 0, .int 0, .int 0]) (C := RX10) (T := TX10) (N := 13) hx hb hts ig_wsX100 tyX10 tyX10_ok hown (hts (.classLink RL 7 RX10) mw_79) (hts (.instantiable RX10 13) mw_80) (hts (.initialized RX10) mw_60) hK hP hD hS hA rfl (fun j hj => by rcases (show j = 0 ∨ j = 1 ∨ j = 2 ∨ j = 3 ∨ j = 4 ∨ j = 5 ∨ j = 6 ∨ j = 7 ∨ j = 8 ∨ j = 9 ∨ j = 10 ∨ j = 11 ∨ j = 12 by omega) with rfl | rfl | rfl | rfl | rfl | rfl | rfl | rfl | rfl | rfl | rfl | rfl | rfl <;> rfl) (Nat.le_of_ble_eq_true rfl) (Nat.le_of_ble_eq_true rfl) dL_law_0 (fun q0 H hP hD hS => ?_)
  refine lv_dup hx hb dL_law_3 rfl ?_
  have hPc := vP1 hP
  have hFc := vF1 hD hS hA
  refine va_callv (va_runI (As := []) (rest := [.ref q0]) ⟨hx, hb, hml, hown, hts⟩ (k_X10 q0 H.size) (cwI 0 (fun w h => hts w (in_wsX10_init w h)) gv_X10_init rfl rfl rfl (hts (.initialized RX10) mw_60) (hts (.methodLink RL 9 yX10_init) mw_81) (hts (.instanceMethod yX10_init) mw_82) rfl (by decide +kernel) ⟨(Nat.le_of_ble_eq_true rfl), (Nat.le_of_ble_eq_true rfl)⟩) ⟨preC_blind, preC_of hPc hKN⟩ rfl rfl hl.1 rfl (lv_room (Nat.le_of_ble_eq_true rfl)) dL_law_4 ⟨(Nat.le_of_ble_eq_true rfl), (Nat.le_of_ble_eq_true rfl)⟩) hS (fun x _ h => hFc x h) hFc (fun ad t H locs ht hvm hu hB hz1 hk1 hS => ?_)
  obtain ⟨hP1, hD1⟩ := hB
  rw [ht] at hP1
  obtain ⟨hPj, hDj⟩ := vJ hP hD hk1 hFc hP1 hD1
  subst hu
  rw [w10_wd, List.nil_append] at hPj hDj
  refine W.widen (k := 81) (n := 1197) (Nat.le_of_ble_eq_true rfl) (Nat.le_of_ble_eq_true rfl) ?_
  refine lv_astore_n (lv' := [(1, .ref (ad 0)), (0, .ref b)]) hx hb dL_law_7 rfl hl (by decide) rfl (fun ls hl => ?_)
  refine va_new (ci := 10) (fs := [.null, .null, .null, .null, .long 0, .long 0, .null, .null, .null, .null, .null, .int 0, .int 0, .int 0, .int 0, .int 0, .null, .null]) (C := RX11) (T := TX11) (N := 18) hx hb hts ig_wsX110 tyX11 tyX11_ok hown (hts (.classLink RL 10 RX11) mw_969) (hts (.instantiable RX11 18) mw_970) (hts (.initialized RX11) mw_71) hK hPj hDj hS hA rfl (fun j hj => by rcases (show j = 0 ∨ j = 1 ∨ j = 2 ∨ j = 3 ∨ j = 4 ∨ j = 5 ∨ j = 6 ∨ j = 7 ∨ j = 8 ∨ j = 9 ∨ j = 10 ∨ j = 11 ∨ j = 12 ∨ j = 13 ∨ j = 14 ∨ j = 15 ∨ j = 16 ∨ j = 17 by omega) with rfl | rfl | rfl | rfl | rfl | rfl | rfl | rfl | rfl | rfl | rfl | rfl | rfl | rfl | rfl | rfl | rfl | rfl <;> rfl) (Nat.le_of_ble_eq_true rfl) (Nat.le_of_ble_eq_true rfl) dL_law_8 (fun q1 H hP hD hS => ?_)
  refine lv_dup hx hb dL_law_11 rfl ?_
  have hPc := vP1 hP
  have hFc := vF1 hD hS hA
  refine va_callv (va_runI (As := []) (rest := [.ref q1]) ⟨hx, hb, hml, hown, hts⟩ (k_X11 q1 H.size) (cwI 0 (fun w h => hts w (in_wsX11_init w h)) gv_X11_init rfl rfl rfl (hts (.initialized RX11) mw_71) (hts (.methodLink RL 12 yX11_init) mw_971) (hts (.instanceMethod yX11_init) mw_972) rfl (by decide +kernel) ⟨(Nat.le_of_ble_eq_true rfl), (Nat.le_of_ble_eq_true rfl)⟩) ⟨preC_blind, preC_of hPc hKN⟩ rfl rfl hl.1 rfl (lv_room (Nat.le_of_ble_eq_true rfl)) dL_law_12 ⟨(Nat.le_of_ble_eq_true rfl), (Nat.le_of_ble_eq_true rfl)⟩) hS (fun x _ h => hFc x h) hFc (fun u t H locs ht hvm hu hB hz1 hk1 hS => ?_)
  obtain ⟨bd, τ⟩ := u
  obtain ⟨hP1, hD1⟩ := hB
  rw [ht] at hP1
  obtain ⟨hPj2, hDj2⟩ := vJ hP hD hk1 hFc hP1 hD1
  obtain ⟨hu, hMR⟩ := hu
  have hu : bd 0 = q1 := hu
  subst hu
  have hMR : MR τ S00 B00 := hMR
  obtain ⟨hPX, hPM⟩ := splitP hPj2
  obtain ⟨hi, hj, hda, hdb, hne⟩ := splitD hDj2
  refine W.widen (k := 93) (n := 2201) (Nat.le_of_ble_eq_true rfl) (Nat.le_of_ble_eq_true rfl) ?_
  refine lv_astore_n (lv' := [(2, .ref (bd 0)), (1, .ref (ad 0)), (0, .ref b)]) hx hb dL_law_15 rfl hl (by decide) rfl (fun ls hl => ?_)
  refine lv_iconst (v := 0) hx hb dL_law_16 (by decide) ?_
  refine lv_istore_n (lv' := [(3, .int 0), (2, .ref (bd 0)), (1, .ref (ad 0)), (0, .ref b)]) hx hb dL_law_17 rfl hl (by decide) rfl (fun ls hl => ?_)
  exact law_go (adK := adK) (adV := adV) ⟨⟨hx, hb, hml, hown, hts⟩, ⟨hX, hbl, hL⟩, hKN, ⟨hSK, hSR⟩, hi, hj, hda, hdb, hne⟩ (fun H locs ls hS => by
    refine lv_iconst (v := 1) hx hb dL_law_1165 (by decide) ?_
    exact va_forget hS.2.2 (lw_ret hx hb hr hlocks dL_law_1166)) (L + 1) 0 s0C τ H locs ls (by omega) (by omega) ⟨S00, B00, CR_00, hMR, WF_00⟩ hPX hPM hS hl
