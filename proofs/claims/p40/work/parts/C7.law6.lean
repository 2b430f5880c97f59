set_option maxHeartbeats 8000000 in
set_option maxRecDepth 100000 in
theorem w_L_law_2128 {p : Program} {l : Launch} {e : Env} {s : State} {m : MethodId} {below : List Frame} {meth : Method} {c : Code} {dC : Nat → ClassId} {dI : Nat → Nat → Nat} {cA cZ : ClassId} {b L : Nat} {xs : Nat → Int32} (C0 : LC p s m meth c b L xs dC dI cA cZ) (Y : Nat → List Int32 → List Int64 → St → Prop) (hY : ∀ P xs ys σ, Y P xs ys σ → XW p l e s m below meth c b dC dI cA P xs ys σ) (x3 : Int32) (x5 : Int32) (x6 : Int32) (x7 : Int32) (x8 : Int32) (x27 : Int32) (x28 : Int32) (x29 : Int32) (s0 : St) (hv : B_L_law_2128 L xs Y x3 x5 x6 x7 x8 x27 x28 x29 s0) {ad : Nat → Nat} (hi : Inj 85 ad) (hda : ∀ k, k < 85 → La s (ad k)) {H : Heap} {locs : List Loc} {ls : Array Slot} (hP : va_P (dC, dI) vwCl (wd 85 ad (celL ad cA) s0) H) (hS : va_S (La s) s.heap H locs) (hl : lv_has ls 32 [(0, .ref b), (1, .ref (ad 0)), (3, .int x3), (5, .int x5), (6, .int x6), (7, .int x7), (8, .int x8), (11, .ref (ad 82)), (27, .int x27), (28, .int x28), (29, .int x29)]) : W p l e room_1 s m #[Value.ref b] below meth c H locs (220) (2200) (lw_Z below #[Value.ref b] s) (F0 m 2128 ls []) := by
  obtain ⟨⟨hx, hb, hml, hown, hts, hr, hlocks⟩, hX, hbl, hK⟩ := C0
  have hbA : ¬ La s b := Nat.not_le.mpr hbl
  have hA2 : ∀ q, s.heap.size ≤ q → La s q := fun _ h => h
  have hD := wd_Dg (A := La s) (cel := celL ad cA) (σ := s0) hi hda
  unfold B_L_law_2128 at hv
  refine lv_iload hx hb dL_law_2128 (lv_at hl 10 rfl) ?_
  refine lv_iload hx hb dL_law_2130 (lv_at hl 8 rfl) ?_
  refine lv_icmp_ge (tgt := 2206) hx hb dL_law_2132 (by decide) (fun c2132 => ?_) (fun c2132 => ?_)
  · have hv := hv.1 c2132
    exact hY 2206 [x3, x5, x6, x7, x8, x28] [] s0 hv _ _ _ _ _ rfl ad H locs ls hi hda hP hS (lv_sub hl [1, 2, 3, 4, 5, 6, 7, 9] rfl)
  · have hv := hv.2 c2132
    refine lv_aload_n hx hb dL_law_2135 rfl (lv_at hl 0 rfl) ?_
    refine lv_bipush (v := 34) hx hb dL_law_2136 (by decide) ?_
    refine lv_iload hx hb dL_law_2138 (lv_at hl 10 rfl) ?_
    refine lv_iadd hx hb dL_law_2140 ?_
    refine r_hci hS (aa_A (Nat.le_refl _) hda hA2 hS) (va_runS (As := [.ref b, .int (34 + x29)]) (rest := []) ⟨hx, hb, hml, hown, hts⟩ (c_L_cell (b := b) (L := L) (xs := xs) hi (by decide) (fun k hk e => hbA (e ▸ hda k hk)) (34 + x29) _ _ hv H.size (Nat.lt_of_lt_of_le hbl hS.1)) (va_cwS 2 (fun w h => hts w (iv_L_cell_9 w h)) gv_L_cell_9 rfl rfl rfl (by decide +kernel) ⟨(Nat.le_of_ble_eq_true rfl), (Nat.le_of_ble_eq_true rfl)⟩) ⟨preL_blind, preL_of hP hK (hX.kept (hS.2.1 b hbl hbA))⟩ rfl rfl hl.1 rfl (lv_room (Nat.le_of_ble_eq_true rfl)) dL_law_2141 ⟨Nat.le_trans (by omega : _ ≤ 300) (Nat.le_of_ble_eq_true rfl), Nat.le_trans (by omega : _ ≤ 3000) (Nat.le_of_ble_eq_true rfl)⟩) (fun r1 s1 H locs hv hP hS => ?_)
    have hD := wd_Dg (A := La s) (cel := celL ad cA) (σ := s1) hi hda
    refine lv_istore (lv' := [(30, .int r1), (0, .ref b), (1, .ref (ad 0)), (3, .int x3), (5, .int x5), (6, .int x6), (7, .int x7), (8, .int x8), (11, .ref (ad 82)), (27, .int x27), (28, .int x28), (29, .int x29)]) hx hb dL_law_2144 hl (by decide) rfl (fun ls hl => ?_)
    refine lv_iload hx hb dL_law_2146 (lv_at hl 0 rfl) ?_
    refine lv_iconst (v := 1) hx hb dL_law_2148 (by decide) ?_
    refine lv_iand hx hb dL_law_2149 ?_
    refine lv_if_ne (tgt := 2171) hx hb dL_law_2150 (by decide) (fun c2150 => ?_) (fun c2150 => ?_)
    · have hv := hv.1 c2150
      refine lv_aload_n hx hb dL_law_2171 rfl (lv_at hl 2 rfl) ?_
      refine lv_iload hx hb dL_law_2172 (lv_at hl 0 rfl) ?_
      refine lv_iconst (v := 1) hx hb dL_law_2174 (by decide) ?_
      refine lv_ishr hx hb dL_law_2175 ?_
      refine lv_iconst (v := 3) hx hb dL_law_2176 (by decide) ?_
      refine r_hci hS (aa_A (Nat.le_refl _) hda hA2 hS) (va_runS (As := [.int (r1 >>> ((1 : Int32) &&& 31)), .int 3]) (rest := [.ref (ad 0)]) ⟨hx, hb, hml, hown, hts⟩ (c_L_up (b := b) (L := L) (xs := xs) hi (by decide) (fun k hk e => hbA (e ▸ hda k hk)) (r1 >>> ((1 : Int32) &&& 31)) 3 _ _ hv H.size (Nat.lt_of_lt_of_le hbl hS.1)) (va_cwS 2 (fun w h => hts w (iv_L_up_15 w h)) gv_L_up_15 rfl rfl rfl (by decide +kernel) ⟨(Nat.le_of_ble_eq_true rfl), (Nat.le_of_ble_eq_true rfl)⟩) ⟨preL_blind, preL_of hP hK (hX.kept (hS.2.1 b hbl hbA))⟩ rfl rfl hl.1 rfl (lv_room (Nat.le_of_ble_eq_true rfl)) dL_law_2177 ⟨Nat.le_trans (by omega : _ ≤ 300) (Nat.le_of_ble_eq_true rfl), Nat.le_trans (by omega : _ ≤ 3000) (Nat.le_of_ble_eq_true rfl)⟩) (fun r2 s2 H locs hv hP hS => ?_)
      have hD := wd_Dg (A := La s) (cel := celL ad cA) (σ := s2) hi hda
      refine r_lci hi hP hS (aa_A (by decide) hda hA2 hS) (va_runV (As := [.int r2]) (rest := []) ⟨hx, hb, hml, hown, hts⟩ (c_X10_shuts (inj_le (by decide) hi) r2 _ _ hv H.size) (cwV 1 (fun w h => hts w (iv_X10_shuts_44 w h)) gv_X10_shuts_44 rfl rfl rfl (by decide +kernel) ⟨(Nat.le_of_ble_eq_true rfl), (Nat.le_of_ble_eq_true rfl)⟩) ⟨pre_blind, r_recv hK.1 (wd_cls (by decide) hP) 0 (by decide) (ceGR_0 (s2 0)) rfl, pre_of (wd_cls (by decide) hP) hK⟩ rfl rfl hl.1 rfl (lv_room (Nat.le_of_ble_eq_true rfl)) dL_law_2180 ⟨Nat.le_trans (by omega : _ ≤ 300) (Nat.le_of_ble_eq_true rfl), Nat.le_trans (by omega : _ ≤ 3000) (Nat.le_of_ble_eq_true rfl)⟩) (fun r3 s3 H locs hv hP hS => ?_)
      have hD := wd_Dg (A := La s) (cel := celL ad cA) (σ := s3) hi hda
      exact hY 2183 [x3, x5, x6, x7, x8, x27, x28, x29, r3] [] s3 hv _ _ _ _ _ rfl ad H locs ls hi hda hP hS (lv_sub hl [1, 2, 3, 4, 5, 6, 7, 8, 9, 10, 11] rfl)
    · have hv := hv.2 c2150
      refine lv_aload_n hx hb dL_law_2153 rfl (lv_at hl 2 rfl) ?_
      refine lv_iconst (v := 1) hx hb dL_law_2154 (by decide) ?_
      refine lv_iload hx hb dL_law_2155 (lv_at hl 0 rfl) ?_
      refine lv_iconst (v := 1) hx hb dL_law_2157 (by decide) ?_
      refine lv_ishr hx hb dL_law_2158 ?_
      refine lv_bipush (v := 30) hx hb dL_law_2159 (by decide) ?_
      refine r_hci hS (aa_A (Nat.le_refl _) hda hA2 hS) (va_runS (As := [.int (r1 >>> ((1 : Int32) &&& 31)), .int 30]) (rest := [.int 1, .ref (ad 0)]) ⟨hx, hb, hml, hown, hts⟩ (c_L_up (b := b) (L := L) (xs := xs) hi (by decide) (fun k hk e => hbA (e ▸ hda k hk)) (r1 >>> ((1 : Int32) &&& 31)) 30 _ _ hv H.size (Nat.lt_of_lt_of_le hbl hS.1)) (va_cwS 2 (fun w h => hts w (iv_L_up_15 w h)) gv_L_up_15 rfl rfl rfl (by decide +kernel) ⟨(Nat.le_of_ble_eq_true rfl), (Nat.le_of_ble_eq_true rfl)⟩) ⟨preL_blind, preL_of hP hK (hX.kept (hS.2.1 b hbl hbA))⟩ rfl rfl hl.1 rfl (lv_room (Nat.le_of_ble_eq_true rfl)) dL_law_2161 ⟨Nat.le_trans (by omega : _ ≤ 300) (Nat.le_of_ble_eq_true rfl), Nat.le_trans (by omega : _ ≤ 3000) (Nat.le_of_ble_eq_true rfl)⟩) (fun r4 s4 H locs hv hP hS => ?_)
      have hD := wd_Dg (A := La s) (cel := celL ad cA) (σ := s4) hi hda
      refine lv_iadd hx hb dL_law_2164 ?_
      refine r_lci hi hP hS (aa_A (by decide) hda hA2 hS) (va_runV (As := [.int (1 + r4)]) (rest := []) ⟨hx, hb, hml, hown, hts⟩ (c_X10_hours (inj_le (by decide) hi) (1 + r4) _ _ hv H.size) (cwV 1 (fun w h => hts w (iv_X10_hours_54 w h)) gv_X10_hours_54 rfl rfl rfl (by decide +kernel) ⟨(Nat.le_of_ble_eq_true rfl), (Nat.le_of_ble_eq_true rfl)⟩) ⟨pre_blind, r_recv hK.1 (wd_cls (by decide) hP) 0 (by decide) (ceGR_0 (s4 0)) rfl, pre_of (wd_cls (by decide) hP) hK⟩ rfl rfl hl.1 rfl (lv_room (Nat.le_of_ble_eq_true rfl)) dL_law_2165 ⟨Nat.le_trans (by omega : _ ≤ 300) (Nat.le_of_ble_eq_true rfl), Nat.le_trans (by omega : _ ≤ 3000) (Nat.le_of_ble_eq_true rfl)⟩) (fun r5 s5 H locs hv hP hS => ?_)
      have hD := wd_Dg (A := La s) (cel := celL ad cA) (σ := s5) hi hda
      refine lv_goto (tgt := 2183) hx hb dL_law_2168 (by decide) ?_
      exact hY 2183 [x3, x5, x6, x7, x8, x27, x28, x29, r5] [] s5 hv _ _ _ _ _ rfl ad H locs ls hi hda hP hS (lv_sub hl [1, 2, 3, 4, 5, 6, 7, 8, 9, 10, 11] rfl)
set_option maxHeartbeats 8000000 in
set_option maxRecDepth 100000 in
theorem w_L_law_2183 {p : Program} {l : Launch} {e : Env} {s : State} {m : MethodId} {below : List Frame} {meth : Method} {c : Code} {dC : Nat → ClassId} {dI : Nat → Nat → Nat} {cA cZ : ClassId} {b L : Nat} {xs : Nat → Int32} (C0 : LC p s m meth c b L xs dC dI cA cZ) (Y : Nat → List Int32 → List Int64 → St → Prop) (hY : ∀ P xs ys σ, Y P xs ys σ → XW p l e s m below meth c b dC dI cA P xs ys σ) (x3 : Int32) (x5 : Int32) (x6 : Int32) (x7 : Int32) (x8 : Int32) (x27 : Int32) (x28 : Int32) (x29 : Int32) (t0 : Int32) (s0 : St) (hv : B_L_law_2183 L xs Y x3 x5 x6 x7 x8 x27 x28 x29 t0 s0) {ad : Nat → Nat} (hi : Inj 85 ad) (hda : ∀ k, k < 85 → La s (ad k)) {H : Heap} {locs : List Loc} {ls : Array Slot} (hP : va_P (dC, dI) vwCl (wd 85 ad (celL ad cA) s0) H) (hS : va_S (La s) s.heap H locs) (hl : lv_has ls 32 [(0, .ref b), (1, .ref (ad 0)), (3, .int x3), (5, .int x5), (6, .int x6), (7, .int x7), (8, .int x8), (11, .ref (ad 82)), (27, .int x27), (28, .int x28), (29, .int x29)]) : W p l e room_1 s m #[Value.ref b] below meth c H locs (220) (2200) (lw_Z below #[Value.ref b] s) (F0 m 2183 ls [.int t0]) := by
  obtain ⟨⟨hx, hb, hml, hown, hts, hr, hlocks⟩, hX, hbl, hK⟩ := C0
  have hbA : ¬ La s b := Nat.not_le.mpr hbl
  have hA2 : ∀ q, s.heap.size ≤ q → La s q := fun _ h => h
  have hD := wd_Dg (A := La s) (cel := celL ad cA) (σ := s0) hi hda
  unfold B_L_law_2183 at hv
  refine lv_istore (lv' := [(31, .int t0), (0, .ref b), (1, .ref (ad 0)), (3, .int x3), (5, .int x5), (6, .int x6), (7, .int x7), (8, .int x8), (11, .ref (ad 82)), (27, .int x27), (28, .int x28), (29, .int x29)]) hx hb dL_law_2183 hl (by decide) rfl (fun ls hl => ?_)
  refine lv_iload hx hb dL_law_2185 (lv_at hl 10 rfl) ?_
  refine lv_iload hx hb dL_law_2187 (lv_at hl 0 rfl) ?_
  refine lv_if_lt (tgt := 2196) hx hb dL_law_2189 (by decide) (fun c2189 => ?_) (fun c2189 => ?_)
  · have hv := hv.1 c2189
    refine lv_iconst (v := 0) hx hb dL_law_2196 (by decide) ?_
    refine lv_iadd hx hb dL_law_2197 ?_
    refine lv_istore (lv' := [(28, .int (x28 + 0)), (31, .int t0), (0, .ref b), (1, .ref (ad 0)), (3, .int x3), (5, .int x5), (6, .int x6), (7, .int x7), (8, .int x8), (11, .ref (ad 82)), (27, .int x27), (29, .int x29)]) hx hb dL_law_2198 hl (by decide) rfl (fun ls hl => ?_)
    refine lv_iinc (v := x29 + 1) (lv' := [(29, .int (x29 + 1)), (28, .int (x28 + 0)), (31, .int t0), (0, .ref b), (1, .ref (ad 0)), (3, .int x3), (5, .int x5), (6, .int x6), (7, .int x7), (8, .int x8), (11, .ref (ad 82)), (27, .int x27)]) hx hb dL_law_2200 hl (k := 11) rfl rfl (by decide) rfl (fun ls hl => ?_)
    refine lv_goto (tgt := 2128) hx hb dL_law_2203 (by decide) ?_
    exact hY 2128 [x3, x5, x6, x7, x8, x27, x28 + 0, x29 + 1] [] s0 hv _ _ _ _ _ rfl ad H locs ls hi hda hP hS (lv_sub hl [3, 4, 5, 6, 7, 8, 9, 10, 11, 1, 0] rfl)
  · have hv := hv.2 c2189
    refine lv_iconst (v := 1) hx hb dL_law_2192 (by decide) ?_
    refine lv_goto (tgt := 2197) hx hb dL_law_2193 (by decide) ?_
    refine lv_iadd hx hb dL_law_2197 ?_
    refine lv_istore (lv' := [(28, .int (x28 + 1)), (31, .int t0), (0, .ref b), (1, .ref (ad 0)), (3, .int x3), (5, .int x5), (6, .int x6), (7, .int x7), (8, .int x8), (11, .ref (ad 82)), (27, .int x27), (29, .int x29)]) hx hb dL_law_2198 hl (by decide) rfl (fun ls hl => ?_)
    refine lv_iinc (v := x29 + 1) (lv' := [(29, .int (x29 + 1)), (28, .int (x28 + 1)), (31, .int t0), (0, .ref b), (1, .ref (ad 0)), (3, .int x3), (5, .int x5), (6, .int x6), (7, .int x7), (8, .int x8), (11, .ref (ad 82)), (27, .int x27)]) hx hb dL_law_2200 hl (k := 11) rfl rfl (by decide) rfl (fun ls hl => ?_)
    refine lv_goto (tgt := 2128) hx hb dL_law_2203 (by decide) ?_
    exact hY 2128 [x3, x5, x6, x7, x8, x27, x28 + 1, x29 + 1] [] s0 hv _ _ _ _ _ rfl ad H locs ls hi hda hP hS (lv_sub hl [3, 4, 5, 6, 7, 8, 9, 10, 11, 1, 0] rfl)
set_option maxHeartbeats 8000000 in
set_option maxRecDepth 100000 in
theorem w_L_law_2206 {p : Program} {l : Launch} {e : Env} {s : State} {m : MethodId} {below : List Frame} {meth : Method} {c : Code} {dC : Nat → ClassId} {dI : Nat → Nat → Nat} {cA cZ : ClassId} {b L : Nat} {xs : Nat → Int32} (C0 : LC p s m meth c b L xs dC dI cA cZ) (Y : Nat → List Int32 → List Int64 → St → Prop) (hY : ∀ P xs ys σ, Y P xs ys σ → XW p l e s m below meth c b dC dI cA P xs ys σ) (x3 : Int32) (x5 : Int32) (x6 : Int32) (x7 : Int32) (x8 : Int32) (x28 : Int32) (s0 : St) (hv : B_L_law_2206 L xs Y x3 x5 x6 x7 x8 x28 s0) {ad : Nat → Nat} (hi : Inj 85 ad) (hda : ∀ k, k < 85 → La s (ad k)) {H : Heap} {locs : List Loc} {ls : Array Slot} (hP : va_P (dC, dI) vwCl (wd 85 ad (celL ad cA) s0) H) (hS : va_S (La s) s.heap H locs) (hl : lv_has ls 32 [(1, .ref (ad 0)), (3, .int x3), (5, .int x5), (6, .int x6), (7, .int x7), (8, .int x8), (11, .ref (ad 82)), (28, .int x28)]) : W p l e room_1 s m #[Value.ref b] below meth c H locs (220) (2200) (lw_Z below #[Value.ref b] s) (F0 m 2206 ls []) := by
  obtain ⟨⟨hx, hb, hml, hown, hts, hr, hlocks⟩, hX, hbl, hK⟩ := C0
  have hbA : ¬ La s b := Nat.not_le.mpr hbl
  have hA2 : ∀ q, s.heap.size ≤ q → La s q := fun _ h => h
  have hD := wd_Dg (A := La s) (cel := celL ad cA) (σ := s0) hi hda
  unfold B_L_law_2206 at hv
  refine lv_iconst (v := 0) hx hb dL_law_2206 (by decide) ?_
  refine lv_istore (lv' := [(29, .int 0), (1, .ref (ad 0)), (3, .int x3), (5, .int x5), (6, .int x6), (7, .int x7), (8, .int x8), (11, .ref (ad 82)), (28, .int x28)]) hx hb dL_law_2207 hl (by decide) rfl (fun ls hl => ?_)
  exact hY 2209 [x3, x5, x6, x7, x8, x28, 0] [] s0 hv _ _ _ _ _ rfl ad H locs ls hi hda hP hS (lv_sub hl [1, 2, 3, 4, 5, 6, 7, 8, 0] rfl)
set_option maxHeartbeats 8000000 in
set_option maxRecDepth 100000 in
theorem w_L_law_2209 {p : Program} {l : Launch} {e : Env} {s : State} {m : MethodId} {below : List Frame} {meth : Method} {c : Code} {dC : Nat → ClassId} {dI : Nat → Nat → Nat} {cA cZ : ClassId} {b L : Nat} {xs : Nat → Int32} (C0 : LC p s m meth c b L xs dC dI cA cZ) (Y : Nat → List Int32 → List Int64 → St → Prop) (hY : ∀ P xs ys σ, Y P xs ys σ → XW p l e s m below meth c b dC dI cA P xs ys σ) (x3 : Int32) (x5 : Int32) (x6 : Int32) (x7 : Int32) (x8 : Int32) (x28 : Int32) (x29 : Int32) (s0 : St) (hv : B_L_law_2209 L xs Y x3 x5 x6 x7 x8 x28 x29 s0) {ad : Nat → Nat} (hi : Inj 85 ad) (hda : ∀ k, k < 85 → La s (ad k)) {H : Heap} {locs : List Loc} {ls : Array Slot} (hP : va_P (dC, dI) vwCl (wd 85 ad (celL ad cA) s0) H) (hS : va_S (La s) s.heap H locs) (hl : lv_has ls 32 [(1, .ref (ad 0)), (3, .int x3), (5, .int x5), (6, .int x6), (7, .int x7), (8, .int x8), (11, .ref (ad 82)), (28, .int x28), (29, .int x29)]) : W p l e room_1 s m #[Value.ref b] below meth c H locs (220) (2200) (lw_Z below #[Value.ref b] s) (F0 m 2209 ls []) := by
  obtain ⟨⟨hx, hb, hml, hown, hts, hr, hlocks⟩, hX, hbl, hK⟩ := C0
  have hbA : ¬ La s b := Nat.not_le.mpr hbl
  have hA2 : ∀ q, s.heap.size ≤ q → La s q := fun _ h => h
  have hD := wd_Dg (A := La s) (cel := celL ad cA) (σ := s0) hi hda
  unfold B_L_law_2209 at hv
  refine lv_iload hx hb dL_law_2209 (lv_at hl 8 rfl) ?_
  refine lv_iload hx hb dL_law_2211 (lv_at hl 7 rfl) ?_
  refine lv_icmp_ge (tgt := 2231) hx hb dL_law_2213 (by decide) (fun c2213 => ?_) (fun c2213 => ?_)
  · have hv := hv.1 c2213
    exact hY 2231 [x3, x5, x6, x7, x8] [] s0 hv _ _ _ _ _ rfl ad H locs ls hi hda hP hS (lv_sub hl [0, 1, 2, 3, 4, 5, 6] rfl)
  · have hv := hv.2 c2213
    refine lv_aload_n hx hb dL_law_2216 rfl (lv_at hl 0 rfl) ?_
    refine r_lci hi hP hS (aa_A (by decide) hda hA2 hS) (va_runV (As := []) (rest := []) ⟨hx, hb, hml, hown, hts⟩ (c_X10_undo (inj_le (by decide) hi)  _ _ hv H.size) (cwV 0 (fun w h => hts w (iv_X10_undo_69 w h)) gv_X10_undo_69 rfl rfl rfl (by decide +kernel) ⟨(Nat.le_of_ble_eq_true rfl), (Nat.le_of_ble_eq_true rfl)⟩) ⟨pre_blind, r_recv hK.1 (wd_cls (by decide) hP) 0 (by decide) (ceGR_0 (s0 0)) rfl, pre_of (wd_cls (by decide) hP) hK⟩ rfl rfl hl.1 rfl (lv_room (Nat.le_of_ble_eq_true rfl)) dL_law_2217 ⟨Nat.le_trans (by omega : _ ≤ 300) (Nat.le_of_ble_eq_true rfl), Nat.le_trans (by omega : _ ≤ 3000) (Nat.le_of_ble_eq_true rfl)⟩) (fun r1 s1 H locs hv hP hS => ?_)
    have hD := wd_Dg (A := La s) (cel := celL ad cA) (σ := s1) hi hda
    refine lv_if_ge (tgt := 2225) hx hb dL_law_2220 (by decide) (fun c2220 => ?_) (fun c2220 => ?_)
    · have hv := hv.1 c2220
      refine lv_iinc (v := x29 + 1) (lv' := [(29, .int (x29 + 1)), (1, .ref (ad 0)), (3, .int x3), (5, .int x5), (6, .int x6), (7, .int x7), (8, .int x8), (11, .ref (ad 82)), (28, .int x28)]) hx hb dL_law_2225 hl (k := 8) rfl rfl (by decide) rfl (fun ls hl => ?_)
      refine lv_goto (tgt := 2209) hx hb dL_law_2228 (by decide) ?_
      exact hY 2209 [x3, x5, x6, x7, x8, x28, x29 + 1] [] s1 hv _ _ _ _ _ rfl ad H locs ls hi hda hP hS (lv_sub hl [1, 2, 3, 4, 5, 6, 7, 8, 0] rfl)
    · have hv := hv.2 c2220
      refine lv_iconst (v := 0) hx hb dL_law_2223 (by decide) ?_
      exact hv.elim
set_option maxHeartbeats 8000000 in
set_option maxRecDepth 100000 in
theorem w_L_law_2231 {p : Program} {l : Launch} {e : Env} {s : State} {m : MethodId} {below : List Frame} {meth : Method} {c : Code} {dC : Nat → ClassId} {dI : Nat → Nat → Nat} {cA cZ : ClassId} {b L : Nat} {xs : Nat → Int32} (C0 : LC p s m meth c b L xs dC dI cA cZ) (Y : Nat → List Int32 → List Int64 → St → Prop) (hY : ∀ P xs ys σ, Y P xs ys σ → XW p l e s m below meth c b dC dI cA P xs ys σ) (x3 : Int32) (x5 : Int32) (x6 : Int32) (x7 : Int32) (x8 : Int32) (s0 : St) (hv : B_L_law_2231 L xs Y x3 x5 x6 x7 x8 s0) {ad : Nat → Nat} (hi : Inj 85 ad) (hda : ∀ k, k < 85 → La s (ad k)) {H : Heap} {locs : List Loc} {ls : Array Slot} (hP : va_P (dC, dI) vwCl (wd 85 ad (celL ad cA) s0) H) (hS : va_S (La s) s.heap H locs) (hl : lv_has ls 32 [(1, .ref (ad 0)), (3, .int x3), (5, .int x5), (6, .int x6), (7, .int x7), (8, .int x8), (11, .ref (ad 82))]) : W p l e room_1 s m #[Value.ref b] below meth c H locs (220) (2200) (lw_Z below #[Value.ref b] s) (F0 m 2231 ls []) := by
  obtain ⟨⟨hx, hb, hml, hown, hts, hr, hlocks⟩, hX, hbl, hK⟩ := C0
  have hbA : ¬ La s b := Nat.not_le.mpr hbl
  have hA2 : ∀ q, s.heap.size ≤ q → La s q := fun _ h => h
  have hD := wd_Dg (A := La s) (cel := celL ad cA) (σ := s0) hi hda
  unfold B_L_law_2231 at hv
  refine lv_iconst (v := 0) hx hb dL_law_2231 (by decide) ?_
  refine lv_istore (lv' := [(29, .int 0), (1, .ref (ad 0)), (3, .int x3), (5, .int x5), (6, .int x6), (7, .int x7), (8, .int x8), (11, .ref (ad 82))]) hx hb dL_law_2232 hl (by decide) rfl (fun ls hl => ?_)
  exact hY 2234 [x3, x5, x6, x7, x8, 0] [] s0 hv _ _ _ _ _ rfl ad H locs ls hi hda hP hS (lv_sub hl [1, 2, 3, 4, 5, 6, 7, 0] rfl)
set_option maxHeartbeats 8000000 in
set_option maxRecDepth 100000 in
theorem w_L_law_2234 {p : Program} {l : Launch} {e : Env} {s : State} {m : MethodId} {below : List Frame} {meth : Method} {c : Code} {dC : Nat → ClassId} {dI : Nat → Nat → Nat} {cA cZ : ClassId} {b L : Nat} {xs : Nat → Int32} (C0 : LC p s m meth c b L xs dC dI cA cZ) (Y : Nat → List Int32 → List Int64 → St → Prop) (hY : ∀ P xs ys σ, Y P xs ys σ → XW p l e s m below meth c b dC dI cA P xs ys σ) (x3 : Int32) (x5 : Int32) (x6 : Int32) (x7 : Int32) (x8 : Int32) (x29 : Int32) (s0 : St) (hv : B_L_law_2234 L xs Y x3 x5 x6 x7 x8 x29 s0) {ad : Nat → Nat} (hi : Inj 85 ad) (hda : ∀ k, k < 85 → La s (ad k)) {H : Heap} {locs : List Loc} {ls : Array Slot} (hP : va_P (dC, dI) vwCl (wd 85 ad (celL ad cA) s0) H) (hS : va_S (La s) s.heap H locs) (hl : lv_has ls 32 [(1, .ref (ad 0)), (3, .int x3), (5, .int x5), (6, .int x6), (7, .int x7), (8, .int x8), (11, .ref (ad 82)), (29, .int x29)]) : W p l e room_1 s m #[Value.ref b] below meth c H locs (220) (2200) (lw_Z below #[Value.ref b] s) (F0 m 2234 ls []) := by
  obtain ⟨⟨hx, hb, hml, hown, hts, hr, hlocks⟩, hX, hbl, hK⟩ := C0
  have hbA : ¬ La s b := Nat.not_le.mpr hbl
  have hA2 : ∀ q, s.heap.size ≤ q → La s q := fun _ h => h
  have hD := wd_Dg (A := La s) (cel := celL ad cA) (σ := s0) hi hda
  unfold B_L_law_2234 at hv
  refine lv_iload hx hb dL_law_2234 (lv_at hl 7 rfl) ?_
  refine lv_iload_n hx hb dL_law_2236 rfl (lv_at hl 1 rfl) ?_
  refine lv_icmp_ge (tgt := 2263) hx hb dL_law_2237 (by decide) (fun c2237 => ?_) (fun c2237 => ?_)
  · have hv := hv.1 c2237
    exact hY 2263 [x3, x5, x6, x7, x8] [] s0 hv _ _ _ _ _ rfl ad H locs ls hi hda hP hS (lv_sub hl [0, 1, 2, 3, 4, 5] rfl)
  · have hv := hv.2 c2237
    refine lv_aload_n hx hb dL_law_2240 rfl (lv_at hl 0 rfl) ?_
    refine lv_iload hx hb dL_law_2241 (lv_at hl 7 rfl) ?_
    refine lv_iconst (v := 2) hx hb dL_law_2243 (by decide) ?_
    refine r_lci hi hP hS (aa_A (by decide) hda hA2 hS) (va_runV (As := [.int x29, .int 2]) (rest := []) ⟨hx, hb, hml, hown, hts⟩ (c_X10_of (inj_le (by decide) hi) x29 2 _ _ hv H.size) (cwV 2 (fun w h => hts w (iv_X10_of_51 w h)) gv_X10_of_51 rfl rfl rfl (by decide +kernel) ⟨(Nat.le_of_ble_eq_true rfl), (Nat.le_of_ble_eq_true rfl)⟩) ⟨pre_blind, r_recv hK.1 (wd_cls (by decide) hP) 0 (by decide) (ceGR_0 (s0 0)) rfl, pre_of (wd_cls (by decide) hP) hK⟩ rfl rfl hl.1 rfl (lv_room (Nat.le_of_ble_eq_true rfl)) dL_law_2244 ⟨Nat.le_trans (by omega : _ ≤ 300) (Nat.le_of_ble_eq_true rfl), Nat.le_trans (by omega : _ ≤ 3000) (Nat.le_of_ble_eq_true rfl)⟩) (fun r1 s1 H locs hv hP hS => ?_)
    have hD := wd_Dg (A := La s) (cel := celL ad cA) (σ := s1) hi hda
    refine lv_aload hx hb dL_law_2247 (lv_at hl 6 rfl) ?_
    refine lv_iload hx hb dL_law_2249 (lv_at hl 7 rfl) ?_
    obtain ⟨hin, hv⟩ := hv
    refine r_iald hx hb hK.1 hP 82 (by decide) (ceL_82 (s1 82)) hin dL_law_2251 ?_
    refine lv_icmp_eq (tgt := 2257) hx hb dL_law_2252 (by decide) (fun c2252 => ?_) (fun c2252 => ?_)
    · have hv := hv.1 c2252
      refine lv_iinc (v := x29 + 1) (lv' := [(29, .int (x29 + 1)), (1, .ref (ad 0)), (3, .int x3), (5, .int x5), (6, .int x6), (7, .int x7), (8, .int x8), (11, .ref (ad 82))]) hx hb dL_law_2257 hl (k := 7) rfl rfl (by decide) rfl (fun ls hl => ?_)
      refine lv_goto (tgt := 2234) hx hb dL_law_2260 (by decide) ?_
      exact hY 2234 [x3, x5, x6, x7, x8, x29 + 1] [] s1 hv _ _ _ _ _ rfl ad H locs ls hi hda hP hS (lv_sub hl [1, 2, 3, 4, 5, 6, 7, 0] rfl)
    · have hv := hv.2 c2252
      refine lv_iconst (v := 0) hx hb dL_law_2255 (by decide) ?_
      exact hv.elim
set_option maxHeartbeats 8000000 in
set_option maxRecDepth 100000 in
theorem w_L_law_2263 {p : Program} {l : Launch} {e : Env} {s : State} {m : MethodId} {below : List Frame} {meth : Method} {c : Code} {dC : Nat → ClassId} {dI : Nat → Nat → Nat} {cA cZ : ClassId} {b L : Nat} {xs : Nat → Int32} (C0 : LC p s m meth c b L xs dC dI cA cZ) (Y : Nat → List Int32 → List Int64 → St → Prop) (hY : ∀ P xs ys σ, Y P xs ys σ → XW p l e s m below meth c b dC dI cA P xs ys σ) (x3 : Int32) (x5 : Int32) (x6 : Int32) (x7 : Int32) (x8 : Int32) (s0 : St) (hv : B_L_law_2263 L xs Y x3 x5 x6 x7 x8 s0) {ad : Nat → Nat} (hi : Inj 85 ad) (hda : ∀ k, k < 85 → La s (ad k)) {H : Heap} {locs : List Loc} {ls : Array Slot} (hP : va_P (dC, dI) vwCl (wd 85 ad (celL ad cA) s0) H) (hS : va_S (La s) s.heap H locs) (hl : lv_has ls 32 [(1, .ref (ad 0)), (3, .int x3), (5, .int x5), (6, .int x6), (7, .int x7), (8, .int x8)]) : W p l e room_1 s m #[Value.ref b] below meth c H locs (220) (2200) (lw_Z below #[Value.ref b] s) (F0 m 2263 ls []) := by
  obtain ⟨⟨hx, hb, hml, hown, hts, hr, hlocks⟩, hX, hbl, hK⟩ := C0
  have hbA : ¬ La s b := Nat.not_le.mpr hbl
  have hA2 : ∀ q, s.heap.size ≤ q → La s q := fun _ h => h
  have hD := wd_Dg (A := La s) (cel := celL ad cA) (σ := s0) hi hda
  unfold B_L_law_2263 at hv
  refine lv_aload_n hx hb dL_law_2263 rfl (lv_at hl 0 rfl) ?_
  refine lv_iconst (v := 2) hx hb dL_law_2264 (by decide) ?_
  refine r_lci hi hP hS (aa_A (by decide) hda hA2 hS) (va_runV (As := [.int 2]) (rest := []) ⟨hx, hb, hml, hown, hts⟩ (c_X10_count (inj_le (by decide) hi) 2 _ _ hv H.size) (cwV 1 (fun w h => hts w (iv_X10_count_48 w h)) gv_X10_count_48 rfl rfl rfl (by decide +kernel) ⟨(Nat.le_of_ble_eq_true rfl), (Nat.le_of_ble_eq_true rfl)⟩) ⟨pre_blind, r_recv hK.1 (wd_cls (by decide) hP) 0 (by decide) (ceGR_0 (s0 0)) rfl, pre_of (wd_cls (by decide) hP) hK⟩ rfl rfl hl.1 rfl (lv_room (Nat.le_of_ble_eq_true rfl)) dL_law_2265 ⟨Nat.le_trans (by omega : _ ≤ 300) (Nat.le_of_ble_eq_true rfl), Nat.le_trans (by omega : _ ≤ 3000) (Nat.le_of_ble_eq_true rfl)⟩) (fun r1 s1 H locs hv hP hS => ?_)
  have hD := wd_Dg (A := La s) (cel := celL ad cA) (σ := s1) hi hda
  refine lv_iload hx hb dL_law_2268 (lv_at hl 2 rfl) ?_
  refine lv_icmp_ne (tgt := 2325) hx hb dL_law_2270 (by decide) (fun c2270 => ?_) (fun c2270 => ?_)
  · have hv := hv.1 c2270
    refine lv_iconst (v := 0) hx hb dL_law_2325 (by decide) ?_
    exact hv.elim
  · have hv := hv.2 c2270
    refine lv_aload_n hx hb dL_law_2273 rfl (lv_at hl 0 rfl) ?_
    refine lv_iconst (v := 4) hx hb dL_law_2274 (by decide) ?_
    refine r_lci hi hP hS (aa_A (by decide) hda hA2 hS) (va_runV (As := [.int 4]) (rest := []) ⟨hx, hb, hml, hown, hts⟩ (c_X10_count (inj_le (by decide) hi) 4 _ _ hv H.size) (cwV 1 (fun w h => hts w (iv_X10_count_48 w h)) gv_X10_count_48 rfl rfl rfl (by decide +kernel) ⟨(Nat.le_of_ble_eq_true rfl), (Nat.le_of_ble_eq_true rfl)⟩) ⟨pre_blind, r_recv hK.1 (wd_cls (by decide) hP) 0 (by decide) (ceGR_0 (s1 0)) rfl, pre_of (wd_cls (by decide) hP) hK⟩ rfl rfl hl.1 rfl (lv_room (Nat.le_of_ble_eq_true rfl)) dL_law_2275 ⟨Nat.le_trans (by omega : _ ≤ 300) (Nat.le_of_ble_eq_true rfl), Nat.le_trans (by omega : _ ≤ 3000) (Nat.le_of_ble_eq_true rfl)⟩) (fun r2 s2 H locs hv hP hS => ?_)
    have hD := wd_Dg (A := La s) (cel := celL ad cA) (σ := s2) hi hda
    refine lv_iload hx hb dL_law_2278 (lv_at hl 4 rfl) ?_
    refine lv_icmp_ne (tgt := 2325) hx hb dL_law_2280 (by decide) (fun c2280 => ?_) (fun c2280 => ?_)
    · have hv := hv.1 c2280
      refine lv_iconst (v := 0) hx hb dL_law_2325 (by decide) ?_
      exact hv.elim
    · have hv := hv.2 c2280
      refine lv_aload_n hx hb dL_law_2283 rfl (lv_at hl 0 rfl) ?_
      refine lv_iconst (v := 5) hx hb dL_law_2284 (by decide) ?_
      refine r_lci hi hP hS (aa_A (by decide) hda hA2 hS) (va_runV (As := [.int 5]) (rest := []) ⟨hx, hb, hml, hown, hts⟩ (c_X10_count (inj_le (by decide) hi) 5 _ _ hv H.size) (cwV 1 (fun w h => hts w (iv_X10_count_48 w h)) gv_X10_count_48 rfl rfl rfl (by decide +kernel) ⟨(Nat.le_of_ble_eq_true rfl), (Nat.le_of_ble_eq_true rfl)⟩) ⟨pre_blind, r_recv hK.1 (wd_cls (by decide) hP) 0 (by decide) (ceGR_0 (s2 0)) rfl, pre_of (wd_cls (by decide) hP) hK⟩ rfl rfl hl.1 rfl (lv_room (Nat.le_of_ble_eq_true rfl)) dL_law_2285 ⟨Nat.le_trans (by omega : _ ≤ 300) (Nat.le_of_ble_eq_true rfl), Nat.le_trans (by omega : _ ≤ 3000) (Nat.le_of_ble_eq_true rfl)⟩) (fun r3 s3 H locs hv hP hS => ?_)
      have hD := wd_Dg (A := La s) (cel := celL ad cA) (σ := s3) hi hda
      refine lv_iload hx hb dL_law_2288 (lv_at hl 5 rfl) ?_
      refine lv_icmp_ne (tgt := 2325) hx hb dL_law_2290 (by decide) (fun c2290 => ?_) (fun c2290 => ?_)
      · have hv := hv.1 c2290
        refine lv_iconst (v := 0) hx hb dL_law_2325 (by decide) ?_
        exact hv.elim
      · have hv := hv.2 c2290
        refine lv_aload_n hx hb dL_law_2293 rfl (lv_at hl 0 rfl) ?_
        refine lv_iconst (v := 0) hx hb dL_law_2294 (by decide) ?_
        refine r_lci hi hP hS (aa_A (by decide) hda hA2 hS) (va_runV (As := [.int 0]) (rest := []) ⟨hx, hb, hml, hown, hts⟩ (c_X10_from (inj_le (by decide) hi) 0 _ _ hv H.size) (cwV 1 (fun w h => hts w (iv_X10_from_78 w h)) gv_X10_from_78 rfl rfl rfl (by decide +kernel) ⟨(Nat.le_of_ble_eq_true rfl), (Nat.le_of_ble_eq_true rfl)⟩) ⟨pre_blind, r_recv hK.1 (wd_cls (by decide) hP) 0 (by decide) (ceGR_0 (s3 0)) rfl, pre_of (wd_cls (by decide) hP) hK⟩ rfl rfl hl.1 rfl (lv_room (Nat.le_of_ble_eq_true rfl)) dL_law_2295 ⟨Nat.le_trans (by omega : _ ≤ 300) (Nat.le_of_ble_eq_true rfl), Nat.le_trans (by omega : _ ≤ 3000) (Nat.le_of_ble_eq_true rfl)⟩) (fun r4 s4 H locs hv hP hS => ?_)
        have hD := wd_Dg (A := La s) (cel := celL ad cA) (σ := s4) hi hda
        refine lv_iconst (v := 1) hx hb dL_law_2298 (by decide) ?_
        refine lv_icmp_ne (tgt := 2325) hx hb dL_law_2299 (by decide) (fun c2299 => ?_) (fun c2299 => ?_)
        · have hv := hv.1 c2299
          refine lv_iconst (v := 0) hx hb dL_law_2325 (by decide) ?_
          exact hv.elim
        · have hv := hv.2 c2299
          refine lv_aload_n hx hb dL_law_2302 rfl (lv_at hl 0 rfl) ?_
          refine lv_iconst (v := 3) hx hb dL_law_2303 (by decide) ?_
          refine r_lci hi hP hS (aa_A (by decide) hda hA2 hS) (va_runV (As := [.int 3]) (rest := []) ⟨hx, hb, hml, hown, hts⟩ (c_X10_count (inj_le (by decide) hi) 3 _ _ hv H.size) (cwV 1 (fun w h => hts w (iv_X10_count_48 w h)) gv_X10_count_48 rfl rfl rfl (by decide +kernel) ⟨(Nat.le_of_ble_eq_true rfl), (Nat.le_of_ble_eq_true rfl)⟩) ⟨pre_blind, r_recv hK.1 (wd_cls (by decide) hP) 0 (by decide) (ceGR_0 (s4 0)) rfl, pre_of (wd_cls (by decide) hP) hK⟩ rfl rfl hl.1 rfl (lv_room (Nat.le_of_ble_eq_true rfl)) dL_law_2304 ⟨Nat.le_trans (by omega : _ ≤ 300) (Nat.le_of_ble_eq_true rfl), Nat.le_trans (by omega : _ ≤ 3000) (Nat.le_of_ble_eq_true rfl)⟩) (fun r5 s5 H locs hv hP hS => ?_)
          have hD := wd_Dg (A := La s) (cel := celL ad cA) (σ := s5) hi hda
          refine lv_iload hx hb dL_law_2307 (lv_at hl 3 rfl) ?_
          refine lv_icmp_ne (tgt := 2325) hx hb dL_law_2309 (by decide) (fun c2309 => ?_) (fun c2309 => ?_)
          · have hv := hv.1 c2309
            refine lv_iconst (v := 0) hx hb dL_law_2325 (by decide) ?_
            exact hv.elim
          · have hv := hv.2 c2309
            refine lv_aload_n hx hb dL_law_2312 rfl (lv_at hl 0 rfl) ?_
            refine lv_iconst (v := 0) hx hb dL_law_2313 (by decide) ?_
            refine r_lci hi hP hS (aa_A (by decide) hda hA2 hS) (va_runV (As := [.int 0]) (rest := []) ⟨hx, hb, hml, hown, hts⟩ (c_X10_count (inj_le (by decide) hi) 0 _ _ hv H.size) (cwV 1 (fun w h => hts w (iv_X10_count_48 w h)) gv_X10_count_48 rfl rfl rfl (by decide +kernel) ⟨(Nat.le_of_ble_eq_true rfl), (Nat.le_of_ble_eq_true rfl)⟩) ⟨pre_blind, r_recv hK.1 (wd_cls (by decide) hP) 0 (by decide) (ceGR_0 (s5 0)) rfl, pre_of (wd_cls (by decide) hP) hK⟩ rfl rfl hl.1 rfl (lv_room (Nat.le_of_ble_eq_true rfl)) dL_law_2314 ⟨Nat.le_trans (by omega : _ ≤ 300) (Nat.le_of_ble_eq_true rfl), Nat.le_trans (by omega : _ ≤ 3000) (Nat.le_of_ble_eq_true rfl)⟩) (fun r6 s6 H locs hv hP hS => ?_)
            have hD := wd_Dg (A := La s) (cel := celL ad cA) (σ := s6) hi hda
            refine lv_iload_n hx hb dL_law_2317 rfl (lv_at hl 1 rfl) ?_
            refine lv_icmp_ne (tgt := 2325) hx hb dL_law_2318 (by decide) (fun c2318 => ?_) (fun c2318 => ?_)
            · have hv := hv.1 c2318
              refine lv_iconst (v := 0) hx hb dL_law_2325 (by decide) ?_
              exact hv.elim
            · have hv := hv.2 c2318
              refine lv_iconst (v := 1) hx hb dL_law_2321 (by decide) ?_
              refine lv_goto (tgt := 2326) hx hb dL_law_2322 (by decide) ?_
              refine W.widen (k := 600000) (n := 7302250) (Nat.le_trans (by omega : _ ≤ 300) (Nat.le_of_ble_eq_true rfl)) (Nat.le_trans (by omega : _ ≤ 3000) (Nat.le_of_ble_eq_true rfl)) ?_
              exact va_forget hS.2.2 (lw_ret hx hb hr hlocks dL_law_2326)
