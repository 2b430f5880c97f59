theorem lcmp_eq {x y : Int64} (h : x = y) : lg_cmp x y = 0 := by
  rw [lg_eq0, h]
section LW
variable {p : Program} {l : Launch} {e : Env} {s : State} {m : MethodId} {below : List Frame} {meth : Method} {c : Code} {b L : Nat} {xs : Nat → Int32} {dC : Nat → ClassId} {dI : Nat → Nat → Nat} {cA cZ : ClassId} {ad bd adK adV : Nat → Nat} {σ τ : St} {H : Heap} {locs : List Loc} {ls : Array Slot} {i : Nat} {Z : State → Prop}
set_option maxHeartbeats 4000000 in
set_option maxRecDepth 100000 in
theorem lc_0 (C : LC p s m meth c b L xs dC dI cA cZ ad bd adK adV) (hJ : J σ τ) (hPX : PX dC dI cA ad σ H) (hPM : PM dC dI cA cZ bd τ H) (hS : va_S (La s) s.heap H locs) (hl : lv_has ls 4 [(3, .int (nI i)), (2, .ref (bd 0)), (1, .ref (ad 0)), (0, .ref b)]) (hi5 : i + 5 ≤ L) (kk : ∀ (u w : St) (H : Heap) (locs : List Loc), J u w → PX dC dI cA ad u H → PM dC dI cA cZ bd w H → va_S (La s) s.heap H locs → W p l e room_1 s m #[Value.ref b] below meth c H locs 93 2201 Z (F0 m 1159 ls [])) : W p l e room_1 s m #[Value.ref b] below meth c H locs 93 2201 Z (F0 m 196 ls []) := by
  obtain ⟨⟨hx, hb, hml, hown, hts⟩, ⟨hX, hbl, hL⟩, hKN, ⟨hZ, hR⟩, hi, hj, hda, hdb, hne⟩ := C
  have hbA : ¬ La s b := Nat.not_le.mpr hbl
  have hin : ∀ k, k < 5 → vp_in (nI i + nI k) L := fun k hk => by rw [nI_add]; exact vp_in_nI (by omega) (by omega)
  refine lv_aload_n hx hb dL_law_196 rfl (lv_at hl 2 rfl) ?_
  refine lx_ci (va_runV (As := []) (rest := []) ⟨hx, hb, hml, hown, hts⟩ (c_X10_street hi  σ (fun r σ' => V_X11_street  τ (fun r' τ' => r = r' ∧ J σ' τ')) (p_street hJ) H.size) (cwV 0 (fun w h => hts w (iv_X10_street w h)) gv_X10_street rfl rfl rfl (by decide +kernel) ⟨(Nat.le_of_ble_eq_true rfl), (Nat.le_of_ble_eq_true rfl)⟩) ⟨pre_blind, r_recv hKN.1.1 hPX 0 (by decide) (ceGR_0 (σ 0)) rfl, pre_of hPX hKN.1⟩ rfl rfl hl.1 rfl (lv_room (Nat.le_of_ble_eq_true rfl)) dL_law_197 ⟨(Nat.le_of_ble_eq_true rfl), (Nat.le_of_ble_eq_true rfl)⟩) hPM hS hda hne (fun r u H locs hw hPX hPM hS => ?_)
  refine lv_aload_n hx hb dL_law_200 rfl (lv_at hl 1 rfl) ?_
  refine lm_ci (va_runV (As := []) (rest := [.int r]) ⟨hx, hb, hml, hown, hts⟩ (c_X11_street hj  τ (fun r' τ' => r = r' ∧ J u τ') hw H.size) (cwV 0 (fun w h => hts w (iv_X11_street w h)) gv_X11_street rfl rfl rfl (by decide +kernel) ⟨(Nat.le_of_ble_eq_true rfl), (Nat.le_of_ble_eq_true rfl)⟩) ⟨pre_blind, r_recv hKN.1.1 hPM 0 (by decide) (ceMo_0 (τ 0)) rfl, pre_of hPM hKN.1⟩ rfl rfl hl.1 rfl (lv_room (Nat.le_of_ble_eq_true rfl)) dL_law_201 ⟨(Nat.le_of_ble_eq_true rfl), (Nat.le_of_ble_eq_true rfl)⟩) hPX hS hdb hne (fun r2 w H locs hw2 hPX hPM hS => ?_)
  refine lv_icmp_eq (tgt := 1159) hx hb dL_law_204 (by decide) (fun _ => ?_) (fun c9 => absurd hw2.1 c9)
  exact kk u w H locs hw2.2 hPX hPM hS
set_option maxHeartbeats 4000000 in
set_option maxRecDepth 100000 in
theorem lc_1 (C : LC p s m meth c b L xs dC dI cA cZ ad bd adK adV) (hJ : J σ τ) (hPX : PX dC dI cA ad σ H) (hPM : PM dC dI cA cZ bd τ H) (hS : va_S (La s) s.heap H locs) (hl : lv_has ls 4 [(3, .int (nI i)), (2, .ref (bd 0)), (1, .ref (ad 0)), (0, .ref b)]) (hi5 : i + 5 ≤ L) (kk : ∀ (u w : St) (H : Heap) (locs : List Loc), J u w → PX dC dI cA ad u H → PM dC dI cA cZ bd w H → va_S (La s) s.heap H locs → W p l e room_1 s m #[Value.ref b] below meth c H locs 93 2201 Z (F0 m 1159 ls [])) : W p l e room_1 s m #[Value.ref b] below meth c H locs 93 2201 Z (F0 m 209 ls []) := by
  obtain ⟨⟨hx, hb, hml, hown, hts⟩, ⟨hX, hbl, hL⟩, hKN, ⟨hZ, hR⟩, hi, hj, hda, hdb, hne⟩ := C
  have hbA : ¬ La s b := Nat.not_le.mpr hbl
  have hin : ∀ k, k < 5 → vp_in (nI i + nI k) L := fun k hk => by rw [nI_add]; exact vp_in_nI (by omega) (by omega)
  refine lv_aload_n hx hb dL_law_209 rfl (lv_at hl 2 rfl) ?_
  refine lv_aload_n hx hb dL_law_210 rfl (lv_at hl 3 rfl) ?_
  refine lv_iload_n hx hb dL_law_211 rfl (lv_at hl 0 rfl) ?_
  refine lv_iconst (v := 1) hx hb dL_law_212 (by decide) ?_
  refine lv_iadd hx hb dL_law_213 ?_
  refine va_sld hx hb hX hbl hbA hS (hin 1 (by omega)) dL_law_214 ?_
  refine lv_aload_n hx hb dL_law_215 rfl (lv_at hl 3 rfl) ?_
  refine lv_iload_n hx hb dL_law_216 rfl (lv_at hl 0 rfl) ?_
  refine lv_iconst (v := 2) hx hb dL_law_217 (by decide) ?_
  refine lv_iadd hx hb dL_law_218 ?_
  refine va_sld hx hb hX hbl hbA hS (hin 2 (by omega)) dL_law_219 ?_
  refine lx_ci (va_runV (As := [.int (xs (nI i + 1).toNatClampNeg), .int (xs (nI i + 2).toNatClampNeg)]) (rest := []) ⟨hx, hb, hml, hown, hts⟩ (c_X10_wet hi (xs (nI i + 1).toNatClampNeg) (xs (nI i + 2).toNatClampNeg) σ (fun r σ' => V_X11_wet (xs (nI i + 1).toNatClampNeg) (xs (nI i + 2).toNatClampNeg) τ (fun r' τ' => r = r' ∧ J σ' τ')) (p_wet hJ) H.size) (cwV 2 (fun w h => hts w (iv_X10_wet w h)) gv_X10_wet rfl rfl rfl (by decide +kernel) ⟨(Nat.le_of_ble_eq_true rfl), (Nat.le_of_ble_eq_true rfl)⟩) ⟨pre_blind, r_recv hKN.1.1 hPX 0 (by decide) (ceGR_0 (σ 0)) rfl, pre_of hPX hKN.1⟩ rfl rfl hl.1 rfl (lv_room (Nat.le_of_ble_eq_true rfl)) dL_law_220 ⟨(Nat.le_of_ble_eq_true rfl), (Nat.le_of_ble_eq_true rfl)⟩) hPM hS hda hne (fun r u H locs hw hPX hPM hS => ?_)
  refine lv_aload_n hx hb dL_law_223 rfl (lv_at hl 1 rfl) ?_
  refine lv_aload_n hx hb dL_law_224 rfl (lv_at hl 3 rfl) ?_
  refine lv_iload_n hx hb dL_law_225 rfl (lv_at hl 0 rfl) ?_
  refine lv_iconst (v := 1) hx hb dL_law_226 (by decide) ?_
  refine lv_iadd hx hb dL_law_227 ?_
  refine va_sld hx hb hX hbl hbA hS (hin 1 (by omega)) dL_law_228 ?_
  refine lv_aload_n hx hb dL_law_229 rfl (lv_at hl 3 rfl) ?_
  refine lv_iload_n hx hb dL_law_230 rfl (lv_at hl 0 rfl) ?_
  refine lv_iconst (v := 2) hx hb dL_law_231 (by decide) ?_
  refine lv_iadd hx hb dL_law_232 ?_
  refine va_sld hx hb hX hbl hbA hS (hin 2 (by omega)) dL_law_233 ?_
  refine lm_ci (va_runV (As := [.int (xs (nI i + 1).toNatClampNeg), .int (xs (nI i + 2).toNatClampNeg)]) (rest := [.int r]) ⟨hx, hb, hml, hown, hts⟩ (c_X11_wet hj (xs (nI i + 1).toNatClampNeg) (xs (nI i + 2).toNatClampNeg) τ (fun r' τ' => r = r' ∧ J u τ') hw H.size) (cwV 2 (fun w h => hts w (iv_X11_wet w h)) gv_X11_wet rfl rfl rfl (by decide +kernel) ⟨(Nat.le_of_ble_eq_true rfl), (Nat.le_of_ble_eq_true rfl)⟩) ⟨pre_blind, r_recv hKN.1.1 hPM 0 (by decide) (ceMo_0 (τ 0)) rfl, pre_of hPM hKN.1⟩ rfl rfl hl.1 rfl (lv_room (Nat.le_of_ble_eq_true rfl)) dL_law_234 ⟨(Nat.le_of_ble_eq_true rfl), (Nat.le_of_ble_eq_true rfl)⟩) hPX hS hdb hne (fun r2 w H locs hw2 hPX hPM hS => ?_)
  refine lv_icmp_eq (tgt := 1159) hx hb dL_law_237 (by decide) (fun _ => ?_) (fun c9 => absurd hw2.1 c9)
  exact kk u w H locs hw2.2 hPX hPM hS
set_option maxHeartbeats 4000000 in
set_option maxRecDepth 100000 in
theorem lc_2 (C : LC p s m meth c b L xs dC dI cA cZ ad bd adK adV) (hJ : J σ τ) (hPX : PX dC dI cA ad σ H) (hPM : PM dC dI cA cZ bd τ H) (hS : va_S (La s) s.heap H locs) (hl : lv_has ls 4 [(3, .int (nI i)), (2, .ref (bd 0)), (1, .ref (ad 0)), (0, .ref b)]) (hi5 : i + 5 ≤ L) (kk : ∀ (u w : St) (H : Heap) (locs : List Loc), J u w → PX dC dI cA ad u H → PM dC dI cA cZ bd w H → va_S (La s) s.heap H locs → W p l e room_1 s m #[Value.ref b] below meth c H locs 93 2201 Z (F0 m 1159 ls [])) : W p l e room_1 s m #[Value.ref b] below meth c H locs 93 2201 Z (F0 m 242 ls []) := by
  obtain ⟨⟨hx, hb, hml, hown, hts⟩, ⟨hX, hbl, hL⟩, hKN, ⟨hZ, hR⟩, hi, hj, hda, hdb, hne⟩ := C
  have hbA : ¬ La s b := Nat.not_le.mpr hbl
  have hin : ∀ k, k < 5 → vp_in (nI i + nI k) L := fun k hk => by rw [nI_add]; exact vp_in_nI (by omega) (by omega)
  refine lv_aload_n hx hb dL_law_242 rfl (lv_at hl 2 rfl) ?_
  refine lv_aload_n hx hb dL_law_243 rfl (lv_at hl 3 rfl) ?_
  refine lv_iload_n hx hb dL_law_244 rfl (lv_at hl 0 rfl) ?_
  refine lv_iconst (v := 1) hx hb dL_law_245 (by decide) ?_
  refine lv_iadd hx hb dL_law_246 ?_
  refine va_sld hx hb hX hbl hbA hS (hin 1 (by omega)) dL_law_247 ?_
  refine lv_aload_n hx hb dL_law_248 rfl (lv_at hl 3 rfl) ?_
  refine lv_iload_n hx hb dL_law_249 rfl (lv_at hl 0 rfl) ?_
  refine lv_iconst (v := 2) hx hb dL_law_250 (by decide) ?_
  refine lv_iadd hx hb dL_law_251 ?_
  refine va_sld hx hb hX hbl hbA hS (hin 2 (by omega)) dL_law_252 ?_
  refine lv_aload_n hx hb dL_law_253 rfl (lv_at hl 3 rfl) ?_
  refine lv_iload_n hx hb dL_law_254 rfl (lv_at hl 0 rfl) ?_
  refine lv_iconst (v := 3) hx hb dL_law_255 (by decide) ?_
  refine lv_iadd hx hb dL_law_256 ?_
  refine va_sld hx hb hX hbl hbA hS (hin 3 (by omega)) dL_law_257 ?_
  refine lx_ci (va_runV (As := [.int (xs (nI i + 1).toNatClampNeg), .int (xs (nI i + 2).toNatClampNeg), .int (xs (nI i + 3).toNatClampNeg)]) (rest := []) ⟨hx, hb, hml, hown, hts⟩ (c_X10_glove hi (xs (nI i + 1).toNatClampNeg) (xs (nI i + 2).toNatClampNeg) (xs (nI i + 3).toNatClampNeg) σ (fun r σ' => V_X11_glove (xs (nI i + 1).toNatClampNeg) (xs (nI i + 2).toNatClampNeg) (xs (nI i + 3).toNatClampNeg) τ (fun r' τ' => r = r' ∧ J σ' τ')) (p_glove hJ) H.size) (cwV 3 (fun w h => hts w (iv_X10_glove w h)) gv_X10_glove rfl rfl rfl (by decide +kernel) ⟨(Nat.le_of_ble_eq_true rfl), (Nat.le_of_ble_eq_true rfl)⟩) ⟨pre_blind, r_recv hKN.1.1 hPX 0 (by decide) (ceGR_0 (σ 0)) rfl, pre_of hPX hKN.1⟩ rfl rfl hl.1 rfl (lv_room (Nat.le_of_ble_eq_true rfl)) dL_law_258 ⟨(Nat.le_of_ble_eq_true rfl), (Nat.le_of_ble_eq_true rfl)⟩) hPM hS hda hne (fun r u H locs hw hPX hPM hS => ?_)
  refine lv_aload_n hx hb dL_law_261 rfl (lv_at hl 1 rfl) ?_
  refine lv_aload_n hx hb dL_law_262 rfl (lv_at hl 3 rfl) ?_
  refine lv_iload_n hx hb dL_law_263 rfl (lv_at hl 0 rfl) ?_
  refine lv_iconst (v := 1) hx hb dL_law_264 (by decide) ?_
  refine lv_iadd hx hb dL_law_265 ?_
  refine va_sld hx hb hX hbl hbA hS (hin 1 (by omega)) dL_law_266 ?_
  refine lv_aload_n hx hb dL_law_267 rfl (lv_at hl 3 rfl) ?_
  refine lv_iload_n hx hb dL_law_268 rfl (lv_at hl 0 rfl) ?_
  refine lv_iconst (v := 2) hx hb dL_law_269 (by decide) ?_
  refine lv_iadd hx hb dL_law_270 ?_
  refine va_sld hx hb hX hbl hbA hS (hin 2 (by omega)) dL_law_271 ?_
  refine lv_aload_n hx hb dL_law_272 rfl (lv_at hl 3 rfl) ?_
  refine lv_iload_n hx hb dL_law_273 rfl (lv_at hl 0 rfl) ?_
  refine lv_iconst (v := 3) hx hb dL_law_274 (by decide) ?_
  refine lv_iadd hx hb dL_law_275 ?_
  refine va_sld hx hb hX hbl hbA hS (hin 3 (by omega)) dL_law_276 ?_
  refine lm_ci (va_runV (As := [.int (xs (nI i + 1).toNatClampNeg), .int (xs (nI i + 2).toNatClampNeg), .int (xs (nI i + 3).toNatClampNeg)]) (rest := [.int r]) ⟨hx, hb, hml, hown, hts⟩ (c_X11_glove hj (xs (nI i + 1).toNatClampNeg) (xs (nI i + 2).toNatClampNeg) (xs (nI i + 3).toNatClampNeg) τ (fun r' τ' => r = r' ∧ J u τ') hw H.size) (cwV 3 (fun w h => hts w (iv_X11_glove w h)) gv_X11_glove rfl rfl rfl (by decide +kernel) ⟨(Nat.le_of_ble_eq_true rfl), (Nat.le_of_ble_eq_true rfl)⟩) ⟨pre_blind, r_recv hKN.1.1 hPM 0 (by decide) (ceMo_0 (τ 0)) rfl, pre_of hPM hKN.1⟩ rfl rfl hl.1 rfl (lv_room (Nat.le_of_ble_eq_true rfl)) dL_law_277 ⟨(Nat.le_of_ble_eq_true rfl), (Nat.le_of_ble_eq_true rfl)⟩) hPX hS hdb hne (fun r2 w H locs hw2 hPX hPM hS => ?_)
  refine lv_icmp_eq (tgt := 1159) hx hb dL_law_280 (by decide) (fun _ => ?_) (fun c9 => absurd hw2.1 c9)
  exact kk u w H locs hw2.2 hPX hPM hS
set_option maxHeartbeats 4000000 in
set_option maxRecDepth 100000 in
theorem lc_3 (C : LC p s m meth c b L xs dC dI cA cZ ad bd adK adV) (hJ : J σ τ) (hPX : PX dC dI cA ad σ H) (hPM : PM dC dI cA cZ bd τ H) (hS : va_S (La s) s.heap H locs) (hl : lv_has ls 4 [(3, .int (nI i)), (2, .ref (bd 0)), (1, .ref (ad 0)), (0, .ref b)]) (hi5 : i + 5 ≤ L) (kk : ∀ (u w : St) (H : Heap) (locs : List Loc), J u w → PX dC dI cA ad u H → PM dC dI cA cZ bd w H → va_S (La s) s.heap H locs → W p l e room_1 s m #[Value.ref b] below meth c H locs 93 2201 Z (F0 m 1159 ls [])) : W p l e room_1 s m #[Value.ref b] below meth c H locs 93 2201 Z (F0 m 285 ls []) := by
  obtain ⟨⟨hx, hb, hml, hown, hts⟩, ⟨hX, hbl, hL⟩, hKN, ⟨hZ, hR⟩, hi, hj, hda, hdb, hne⟩ := C
  have hbA : ¬ La s b := Nat.not_le.mpr hbl
  have hin : ∀ k, k < 5 → vp_in (nI i + nI k) L := fun k hk => by rw [nI_add]; exact vp_in_nI (by omega) (by omega)
  refine lv_aload_n hx hb dL_law_285 rfl (lv_at hl 2 rfl) ?_
  refine lv_aload_n hx hb dL_law_286 rfl (lv_at hl 3 rfl) ?_
  refine lv_iload_n hx hb dL_law_287 rfl (lv_at hl 0 rfl) ?_
  refine lv_iconst (v := 1) hx hb dL_law_288 (by decide) ?_
  refine lv_iadd hx hb dL_law_289 ?_
  refine va_sld hx hb hX hbl hbA hS (hin 1 (by omega)) dL_law_290 ?_
  refine lv_aload_n hx hb dL_law_291 rfl (lv_at hl 3 rfl) ?_
  refine lv_iload_n hx hb dL_law_292 rfl (lv_at hl 0 rfl) ?_
  refine lv_iconst (v := 2) hx hb dL_law_293 (by decide) ?_
  refine lv_iadd hx hb dL_law_294 ?_
  refine va_sld hx hb hX hbl hbA hS (hin 2 (by omega)) dL_law_295 ?_
  refine lx_ci (va_runV (As := [.int (xs (nI i + 1).toNatClampNeg), .int (xs (nI i + 2).toNatClampNeg)]) (rest := []) ⟨hx, hb, hml, hown, hts⟩ (c_X10_crossing hi (xs (nI i + 1).toNatClampNeg) (xs (nI i + 2).toNatClampNeg) σ (fun r σ' => V_X11_crossing (xs (nI i + 1).toNatClampNeg) (xs (nI i + 2).toNatClampNeg) τ (fun r' τ' => r = r' ∧ J σ' τ')) (p_crossing hJ) H.size) (cwV 2 (fun w h => hts w (iv_X10_crossing w h)) gv_X10_crossing rfl rfl rfl (by decide +kernel) ⟨(Nat.le_of_ble_eq_true rfl), (Nat.le_of_ble_eq_true rfl)⟩) ⟨pre_blind, r_recv hKN.1.1 hPX 0 (by decide) (ceGR_0 (σ 0)) rfl, pre_of hPX hKN.1⟩ rfl rfl hl.1 rfl (lv_room (Nat.le_of_ble_eq_true rfl)) dL_law_296 ⟨(Nat.le_of_ble_eq_true rfl), (Nat.le_of_ble_eq_true rfl)⟩) hPM hS hda hne (fun r u H locs hw hPX hPM hS => ?_)
  refine lv_aload_n hx hb dL_law_299 rfl (lv_at hl 1 rfl) ?_
  refine lv_aload_n hx hb dL_law_300 rfl (lv_at hl 3 rfl) ?_
  refine lv_iload_n hx hb dL_law_301 rfl (lv_at hl 0 rfl) ?_
  refine lv_iconst (v := 1) hx hb dL_law_302 (by decide) ?_
  refine lv_iadd hx hb dL_law_303 ?_
  refine va_sld hx hb hX hbl hbA hS (hin 1 (by omega)) dL_law_304 ?_
  refine lv_aload_n hx hb dL_law_305 rfl (lv_at hl 3 rfl) ?_
  refine lv_iload_n hx hb dL_law_306 rfl (lv_at hl 0 rfl) ?_
  refine lv_iconst (v := 2) hx hb dL_law_307 (by decide) ?_
  refine lv_iadd hx hb dL_law_308 ?_
  refine va_sld hx hb hX hbl hbA hS (hin 2 (by omega)) dL_law_309 ?_
  refine lm_ci (va_runV (As := [.int (xs (nI i + 1).toNatClampNeg), .int (xs (nI i + 2).toNatClampNeg)]) (rest := [.int r]) ⟨hx, hb, hml, hown, hts⟩ (c_X11_crossing hj (xs (nI i + 1).toNatClampNeg) (xs (nI i + 2).toNatClampNeg) τ (fun r' τ' => r = r' ∧ J u τ') hw H.size) (cwV 2 (fun w h => hts w (iv_X11_crossing w h)) gv_X11_crossing rfl rfl rfl (by decide +kernel) ⟨(Nat.le_of_ble_eq_true rfl), (Nat.le_of_ble_eq_true rfl)⟩) ⟨pre_blind, r_recv hKN.1.1 hPM 0 (by decide) (ceMo_0 (τ 0)) rfl, pre_of hPM hKN.1⟩ rfl rfl hl.1 rfl (lv_room (Nat.le_of_ble_eq_true rfl)) dL_law_310 ⟨(Nat.le_of_ble_eq_true rfl), (Nat.le_of_ble_eq_true rfl)⟩) hPX hS hdb hne (fun r2 w H locs hw2 hPX hPM hS => ?_)
  refine lv_icmp_eq (tgt := 1159) hx hb dL_law_313 (by decide) (fun _ => ?_) (fun c9 => absurd hw2.1 c9)
  exact kk u w H locs hw2.2 hPX hPM hS
set_option maxHeartbeats 4000000 in
set_option maxRecDepth 100000 in
theorem lc_4 (C : LC p s m meth c b L xs dC dI cA cZ ad bd adK adV) (hJ : J σ τ) (hPX : PX dC dI cA ad σ H) (hPM : PM dC dI cA cZ bd τ H) (hS : va_S (La s) s.heap H locs) (hl : lv_has ls 4 [(3, .int (nI i)), (2, .ref (bd 0)), (1, .ref (ad 0)), (0, .ref b)]) (hi5 : i + 5 ≤ L) (kk : ∀ (u w : St) (H : Heap) (locs : List Loc), J u w → PX dC dI cA ad u H → PM dC dI cA cZ bd w H → va_S (La s) s.heap H locs → W p l e room_1 s m #[Value.ref b] below meth c H locs 93 2201 Z (F0 m 1159 ls [])) : W p l e room_1 s m #[Value.ref b] below meth c H locs 93 2201 Z (F0 m 318 ls []) := by
  obtain ⟨⟨hx, hb, hml, hown, hts⟩, ⟨hX, hbl, hL⟩, hKN, ⟨hZ, hR⟩, hi, hj, hda, hdb, hne⟩ := C
  have hbA : ¬ La s b := Nat.not_le.mpr hbl
  have hin : ∀ k, k < 5 → vp_in (nI i + nI k) L := fun k hk => by rw [nI_add]; exact vp_in_nI (by omega) (by omega)
  refine lv_aload_n hx hb dL_law_318 rfl (lv_at hl 2 rfl) ?_
  refine lv_aload_n hx hb dL_law_319 rfl (lv_at hl 3 rfl) ?_
  refine lv_iload_n hx hb dL_law_320 rfl (lv_at hl 0 rfl) ?_
  refine lv_iconst (v := 1) hx hb dL_law_321 (by decide) ?_
  refine lv_iadd hx hb dL_law_322 ?_
  refine va_sld hx hb hX hbl hbA hS (hin 1 (by omega)) dL_law_323 ?_
  refine lx_ci (va_runV (As := [.int (xs (nI i + 1).toNatClampNeg)]) (rest := []) ⟨hx, hb, hml, hown, hts⟩ (c_X10_type hi (xs (nI i + 1).toNatClampNeg) σ (fun r σ' => V_X11_type (xs (nI i + 1).toNatClampNeg) τ (fun r' τ' => r = r' ∧ J σ' τ')) (p_type hJ) H.size) (cwV 1 (fun w h => hts w (iv_X10_type w h)) gv_X10_type rfl rfl rfl (by decide +kernel) ⟨(Nat.le_of_ble_eq_true rfl), (Nat.le_of_ble_eq_true rfl)⟩) ⟨pre_blind, r_recv hKN.1.1 hPX 0 (by decide) (ceGR_0 (σ 0)) rfl, pre_of hPX hKN.1⟩ rfl rfl hl.1 rfl (lv_room (Nat.le_of_ble_eq_true rfl)) dL_law_324 ⟨(Nat.le_of_ble_eq_true rfl), (Nat.le_of_ble_eq_true rfl)⟩) hPM hS hda hne (fun r u H locs hw hPX hPM hS => ?_)
  refine lv_aload_n hx hb dL_law_327 rfl (lv_at hl 1 rfl) ?_
  refine lv_aload_n hx hb dL_law_328 rfl (lv_at hl 3 rfl) ?_
  refine lv_iload_n hx hb dL_law_329 rfl (lv_at hl 0 rfl) ?_
  refine lv_iconst (v := 1) hx hb dL_law_330 (by decide) ?_
  refine lv_iadd hx hb dL_law_331 ?_
  refine va_sld hx hb hX hbl hbA hS (hin 1 (by omega)) dL_law_332 ?_
  refine lm_ci (va_runV (As := [.int (xs (nI i + 1).toNatClampNeg)]) (rest := [.int r]) ⟨hx, hb, hml, hown, hts⟩ (c_X11_type hj (xs (nI i + 1).toNatClampNeg) τ (fun r' τ' => r = r' ∧ J u τ') hw H.size) (cwV 1 (fun w h => hts w (iv_X11_type w h)) gv_X11_type rfl rfl rfl (by decide +kernel) ⟨(Nat.le_of_ble_eq_true rfl), (Nat.le_of_ble_eq_true rfl)⟩) ⟨pre_blind, r_recv hKN.1.1 hPM 0 (by decide) (ceMo_0 (τ 0)) rfl, pre_of hPM hKN.1⟩ rfl rfl hl.1 rfl (lv_room (Nat.le_of_ble_eq_true rfl)) dL_law_333 ⟨(Nat.le_of_ble_eq_true rfl), (Nat.le_of_ble_eq_true rfl)⟩) hPX hS hdb hne (fun r2 w H locs hw2 hPX hPM hS => ?_)
  refine lv_icmp_eq (tgt := 1159) hx hb dL_law_336 (by decide) (fun _ => ?_) (fun c9 => absurd hw2.1 c9)
  exact kk u w H locs hw2.2 hPX hPM hS
set_option maxHeartbeats 4000000 in
set_option maxRecDepth 100000 in
theorem lc_5 (C : LC p s m meth c b L xs dC dI cA cZ ad bd adK adV) (hJ : J σ τ) (hPX : PX dC dI cA ad σ H) (hPM : PM dC dI cA cZ bd τ H) (hS : va_S (La s) s.heap H locs) (hl : lv_has ls 4 [(3, .int (nI i)), (2, .ref (bd 0)), (1, .ref (ad 0)), (0, .ref b)]) (hi5 : i + 5 ≤ L) (kk : ∀ (u w : St) (H : Heap) (locs : List Loc), J u w → PX dC dI cA ad u H → PM dC dI cA cZ bd w H → va_S (La s) s.heap H locs → W p l e room_1 s m #[Value.ref b] below meth c H locs 93 2201 Z (F0 m 1159 ls [])) : W p l e room_1 s m #[Value.ref b] below meth c H locs 93 2201 Z (F0 m 341 ls []) := by
  obtain ⟨⟨hx, hb, hml, hown, hts⟩, ⟨hX, hbl, hL⟩, hKN, ⟨hZ, hR⟩, hi, hj, hda, hdb, hne⟩ := C
  have hbA : ¬ La s b := Nat.not_le.mpr hbl
  have hin : ∀ k, k < 5 → vp_in (nI i + nI k) L := fun k hk => by rw [nI_add]; exact vp_in_nI (by omega) (by omega)
  refine lv_aload_n hx hb dL_law_341 rfl (lv_at hl 2 rfl) ?_
  refine lx_ci (va_runV (As := []) (rest := []) ⟨hx, hb, hml, hown, hts⟩ (c_X10_clear hi  σ (fun r σ' => V_X11_clear  τ (fun r' τ' => r = r' ∧ J σ' τ')) (p_clear hJ) H.size) (cwV 0 (fun w h => hts w (iv_X10_clear w h)) gv_X10_clear rfl rfl rfl (by decide +kernel) ⟨(Nat.le_of_ble_eq_true rfl), (Nat.le_of_ble_eq_true rfl)⟩) ⟨pre_blind, r_recv hKN.1.1 hPX 0 (by decide) (ceGR_0 (σ 0)) rfl, pre_of hPX hKN.1⟩ rfl rfl hl.1 rfl (lv_room (Nat.le_of_ble_eq_true rfl)) dL_law_342 ⟨(Nat.le_of_ble_eq_true rfl), (Nat.le_of_ble_eq_true rfl)⟩) hPM hS hda hne (fun r u H locs hw hPX hPM hS => ?_)
  refine lv_aload_n hx hb dL_law_345 rfl (lv_at hl 1 rfl) ?_
  refine lm_ci (va_runV (As := []) (rest := [.int r]) ⟨hx, hb, hml, hown, hts⟩ (c_X11_clear hj  τ (fun r' τ' => r = r' ∧ J u τ') hw H.size) (cwV 0 (fun w h => hts w (iv_X11_clear w h)) gv_X11_clear rfl rfl rfl (by decide +kernel) ⟨(Nat.le_of_ble_eq_true rfl), (Nat.le_of_ble_eq_true rfl)⟩) ⟨pre_blind, r_recv hKN.1.1 hPM 0 (by decide) (ceMo_0 (τ 0)) rfl, pre_of hPM hKN.1⟩ rfl rfl hl.1 rfl (lv_room (Nat.le_of_ble_eq_true rfl)) dL_law_346 ⟨(Nat.le_of_ble_eq_true rfl), (Nat.le_of_ble_eq_true rfl)⟩) hPX hS hdb hne (fun r2 w H locs hw2 hPX hPM hS => ?_)
  refine lv_icmp_eq (tgt := 1159) hx hb dL_law_349 (by decide) (fun _ => ?_) (fun c9 => absurd hw2.1 c9)
  exact kk u w H locs hw2.2 hPX hPM hS
set_option maxHeartbeats 4000000 in
set_option maxRecDepth 100000 in
theorem lc_6 (C : LC p s m meth c b L xs dC dI cA cZ ad bd adK adV) (hJ : J σ τ) (hPX : PX dC dI cA ad σ H) (hPM : PM dC dI cA cZ bd τ H) (hS : va_S (La s) s.heap H locs) (hl : lv_has ls 4 [(3, .int (nI i)), (2, .ref (bd 0)), (1, .ref (ad 0)), (0, .ref b)]) (hi5 : i + 5 ≤ L) (kk : ∀ (u w : St) (H : Heap) (locs : List Loc), J u w → PX dC dI cA ad u H → PM dC dI cA cZ bd w H → va_S (La s) s.heap H locs → W p l e room_1 s m #[Value.ref b] below meth c H locs 93 2201 Z (F0 m 1159 ls [])) : W p l e room_1 s m #[Value.ref b] below meth c H locs 93 2201 Z (F0 m 354 ls []) := by
  obtain ⟨⟨hx, hb, hml, hown, hts⟩, ⟨hX, hbl, hL⟩, hKN, ⟨hZ, hR⟩, hi, hj, hda, hdb, hne⟩ := C
  have hbA : ¬ La s b := Nat.not_le.mpr hbl
  have hin : ∀ k, k < 5 → vp_in (nI i + nI k) L := fun k hk => by rw [nI_add]; exact vp_in_nI (by omega) (by omega)
  refine lv_aload_n hx hb dL_law_354 rfl (lv_at hl 2 rfl) ?_
  refine lx_ci (va_runV (As := []) (rest := []) ⟨hx, hb, hml, hown, hts⟩ (c_X10_read hi  σ (fun r σ' => V_X11_read  τ (fun r' τ' => r = r' ∧ J σ' τ')) (p_read hJ) H.size) (cwV 0 (fun w h => hts w (iv_X10_read w h)) gv_X10_read rfl rfl rfl (by decide +kernel) ⟨(Nat.le_of_ble_eq_true rfl), (Nat.le_of_ble_eq_true rfl)⟩) ⟨preS_blind, r_recv hKN.1.1 hPX 0 (by decide) (ceGR_0 (σ 0)) rfl, preL_of hPX hKN.1 hZ hR hS (aa_La hda hS)⟩ rfl rfl hl.1 rfl (lv_room (Nat.le_of_ble_eq_true rfl)) dL_law_355 ⟨(Nat.le_of_ble_eq_true rfl), (Nat.le_of_ble_eq_true rfl)⟩) hPM hS hda hne (fun r u H locs hw hPX hPM hS => ?_)
  refine lv_aload_n hx hb dL_law_358 rfl (lv_at hl 1 rfl) ?_
  refine lm_ci (va_runV (As := []) (rest := [.int r]) ⟨hx, hb, hml, hown, hts⟩ (c_X11_read hj  τ (fun r' τ' => r = r' ∧ J u τ') hw H.size) (cwV 0 (fun w h => hts w (iv_X11_read w h)) gv_X11_read rfl rfl rfl (by decide +kernel) ⟨(Nat.le_of_ble_eq_true rfl), (Nat.le_of_ble_eq_true rfl)⟩) ⟨pre_blind, r_recv hKN.1.1 hPM 0 (by decide) (ceMo_0 (τ 0)) rfl, pre_of hPM hKN.1⟩ rfl rfl hl.1 rfl (lv_room (Nat.le_of_ble_eq_true rfl)) dL_law_359 ⟨(Nat.le_of_ble_eq_true rfl), (Nat.le_of_ble_eq_true rfl)⟩) hPX hS hdb hne (fun r2 w H locs hw2 hPX hPM hS => ?_)
  refine lv_icmp_eq (tgt := 1159) hx hb dL_law_362 (by decide) (fun _ => ?_) (fun c9 => absurd hw2.1 c9)
  exact kk u w H locs hw2.2 hPX hPM hS
set_option maxHeartbeats 4000000 in
set_option maxRecDepth 100000 in
theorem lc_7 (C : LC p s m meth c b L xs dC dI cA cZ ad bd adK adV) (hJ : J σ τ) (hPX : PX dC dI cA ad σ H) (hPM : PM dC dI cA cZ bd τ H) (hS : va_S (La s) s.heap H locs) (hl : lv_has ls 4 [(3, .int (nI i)), (2, .ref (bd 0)), (1, .ref (ad 0)), (0, .ref b)]) (hi5 : i + 5 ≤ L) (kk : ∀ (u w : St) (H : Heap) (locs : List Loc), J u w → PX dC dI cA ad u H → PM dC dI cA cZ bd w H → va_S (La s) s.heap H locs → W p l e room_1 s m #[Value.ref b] below meth c H locs 93 2201 Z (F0 m 1159 ls [])) : W p l e room_1 s m #[Value.ref b] below meth c H locs 93 2201 Z (F0 m 367 ls []) := by
  obtain ⟨⟨hx, hb, hml, hown, hts⟩, ⟨hX, hbl, hL⟩, hKN, ⟨hZ, hR⟩, hi, hj, hda, hdb, hne⟩ := C
  have hbA : ¬ La s b := Nat.not_le.mpr hbl
  have hin : ∀ k, k < 5 → vp_in (nI i + nI k) L := fun k hk => by rw [nI_add]; exact vp_in_nI (by omega) (by omega)
  refine lv_aload_n hx hb dL_law_367 rfl (lv_at hl 2 rfl) ?_
  refine lv_aload_n hx hb dL_law_368 rfl (lv_at hl 3 rfl) ?_
  refine lv_iload_n hx hb dL_law_369 rfl (lv_at hl 0 rfl) ?_
  refine lv_iconst (v := 1) hx hb dL_law_370 (by decide) ?_
  refine lv_iadd hx hb dL_law_371 ?_
  refine va_sld hx hb hX hbl hbA hS (hin 1 (by omega)) dL_law_372 ?_
  refine lx_ci (va_runV (As := [.int (xs (nI i + 1).toNatClampNeg)]) (rest := []) ⟨hx, hb, hml, hown, hts⟩ (c_X10_hours hi (xs (nI i + 1).toNatClampNeg) σ (fun r σ' => V_X11_hours (xs (nI i + 1).toNatClampNeg) τ (fun r' τ' => r = r' ∧ J σ' τ')) (p_hours hJ) H.size) (cwV 1 (fun w h => hts w (iv_X10_hours w h)) gv_X10_hours rfl rfl rfl (by decide +kernel) ⟨(Nat.le_of_ble_eq_true rfl), (Nat.le_of_ble_eq_true rfl)⟩) ⟨pre_blind, r_recv hKN.1.1 hPX 0 (by decide) (ceGR_0 (σ 0)) rfl, pre_of hPX hKN.1⟩ rfl rfl hl.1 rfl (lv_room (Nat.le_of_ble_eq_true rfl)) dL_law_373 ⟨(Nat.le_of_ble_eq_true rfl), (Nat.le_of_ble_eq_true rfl)⟩) hPM hS hda hne (fun r u H locs hw hPX hPM hS => ?_)
  refine lv_aload_n hx hb dL_law_376 rfl (lv_at hl 1 rfl) ?_
  refine lv_aload_n hx hb dL_law_377 rfl (lv_at hl 3 rfl) ?_
  refine lv_iload_n hx hb dL_law_378 rfl (lv_at hl 0 rfl) ?_
  refine lv_iconst (v := 1) hx hb dL_law_379 (by decide) ?_
  refine lv_iadd hx hb dL_law_380 ?_
  refine va_sld hx hb hX hbl hbA hS (hin 1 (by omega)) dL_law_381 ?_
  refine lm_ci (va_runV (As := [.int (xs (nI i + 1).toNatClampNeg)]) (rest := [.int r]) ⟨hx, hb, hml, hown, hts⟩ (c_X11_hours hj (xs (nI i + 1).toNatClampNeg) τ (fun r' τ' => r = r' ∧ J u τ') hw H.size) (cwV 1 (fun w h => hts w (iv_X11_hours w h)) gv_X11_hours rfl rfl rfl (by decide +kernel) ⟨(Nat.le_of_ble_eq_true rfl), (Nat.le_of_ble_eq_true rfl)⟩) ⟨pre_blind, r_recv hKN.1.1 hPM 0 (by decide) (ceMo_0 (τ 0)) rfl, pre_of hPM hKN.1⟩ rfl rfl hl.1 rfl (lv_room (Nat.le_of_ble_eq_true rfl)) dL_law_382 ⟨(Nat.le_of_ble_eq_true rfl), (Nat.le_of_ble_eq_true rfl)⟩) hPX hS hdb hne (fun r2 w H locs hw2 hPX hPM hS => ?_)
  refine lv_icmp_eq (tgt := 1159) hx hb dL_law_385 (by decide) (fun _ => ?_) (fun c9 => absurd hw2.1 c9)
  exact kk u w H locs hw2.2 hPX hPM hS
set_option maxHeartbeats 4000000 in
set_option maxRecDepth 100000 in
theorem lc_8 (C : LC p s m meth c b L xs dC dI cA cZ ad bd adK adV) (hJ : J σ τ) (hPX : PX dC dI cA ad σ H) (hPM : PM dC dI cA cZ bd τ H) (hS : va_S (La s) s.heap H locs) (hl : lv_has ls 4 [(3, .int (nI i)), (2, .ref (bd 0)), (1, .ref (ad 0)), (0, .ref b)]) (hi5 : i + 5 ≤ L) (kk : ∀ (u w : St) (H : Heap) (locs : List Loc), J u w → PX dC dI cA ad u H → PM dC dI cA cZ bd w H → va_S (La s) s.heap H locs → W p l e room_1 s m #[Value.ref b] below meth c H locs 93 2201 Z (F0 m 1159 ls [])) : W p l e room_1 s m #[Value.ref b] below meth c H locs 93 2201 Z (F0 m 390 ls []) := by
  obtain ⟨⟨hx, hb, hml, hown, hts⟩, ⟨hX, hbl, hL⟩, hKN, ⟨hZ, hR⟩, hi, hj, hda, hdb, hne⟩ := C
  have hbA : ¬ La s b := Nat.not_le.mpr hbl
  have hin : ∀ k, k < 5 → vp_in (nI i + nI k) L := fun k hk => by rw [nI_add]; exact vp_in_nI (by omega) (by omega)
  refine lv_aload_n hx hb dL_law_390 rfl (lv_at hl 2 rfl) ?_
  refine lv_aload_n hx hb dL_law_391 rfl (lv_at hl 3 rfl) ?_
  refine lv_iload_n hx hb dL_law_392 rfl (lv_at hl 0 rfl) ?_
  refine lv_iconst (v := 1) hx hb dL_law_393 (by decide) ?_
  refine lv_iadd hx hb dL_law_394 ?_
  refine va_sld hx hb hX hbl hbA hS (hin 1 (by omega)) dL_law_395 ?_
  refine lx_ci (va_runV (As := [.int (xs (nI i + 1).toNatClampNeg)]) (rest := []) ⟨hx, hb, hml, hown, hts⟩ (c_X10_shuts hi (xs (nI i + 1).toNatClampNeg) σ (fun r σ' => V_X11_shuts (xs (nI i + 1).toNatClampNeg) τ (fun r' τ' => r = r' ∧ J σ' τ')) (p_shuts hJ) H.size) (cwV 1 (fun w h => hts w (iv_X10_shuts w h)) gv_X10_shuts rfl rfl rfl (by decide +kernel) ⟨(Nat.le_of_ble_eq_true rfl), (Nat.le_of_ble_eq_true rfl)⟩) ⟨pre_blind, r_recv hKN.1.1 hPX 0 (by decide) (ceGR_0 (σ 0)) rfl, pre_of hPX hKN.1⟩ rfl rfl hl.1 rfl (lv_room (Nat.le_of_ble_eq_true rfl)) dL_law_396 ⟨(Nat.le_of_ble_eq_true rfl), (Nat.le_of_ble_eq_true rfl)⟩) hPM hS hda hne (fun r u H locs hw hPX hPM hS => ?_)
  refine lv_aload_n hx hb dL_law_399 rfl (lv_at hl 1 rfl) ?_
  refine lv_aload_n hx hb dL_law_400 rfl (lv_at hl 3 rfl) ?_
  refine lv_iload_n hx hb dL_law_401 rfl (lv_at hl 0 rfl) ?_
  refine lv_iconst (v := 1) hx hb dL_law_402 (by decide) ?_
  refine lv_iadd hx hb dL_law_403 ?_
  refine va_sld hx hb hX hbl hbA hS (hin 1 (by omega)) dL_law_404 ?_
  refine lm_ci (va_runV (As := [.int (xs (nI i + 1).toNatClampNeg)]) (rest := [.int r]) ⟨hx, hb, hml, hown, hts⟩ (c_X11_shuts hj (xs (nI i + 1).toNatClampNeg) τ (fun r' τ' => r = r' ∧ J u τ') hw H.size) (cwV 1 (fun w h => hts w (iv_X11_shuts w h)) gv_X11_shuts rfl rfl rfl (by decide +kernel) ⟨(Nat.le_of_ble_eq_true rfl), (Nat.le_of_ble_eq_true rfl)⟩) ⟨pre_blind, r_recv hKN.1.1 hPM 0 (by decide) (ceMo_0 (τ 0)) rfl, pre_of hPM hKN.1⟩ rfl rfl hl.1 rfl (lv_room (Nat.le_of_ble_eq_true rfl)) dL_law_405 ⟨(Nat.le_of_ble_eq_true rfl), (Nat.le_of_ble_eq_true rfl)⟩) hPX hS hdb hne (fun r2 w H locs hw2 hPX hPM hS => ?_)
  refine lv_icmp_eq (tgt := 1159) hx hb dL_law_408 (by decide) (fun _ => ?_) (fun c9 => absurd hw2.1 c9)
  exact kk u w H locs hw2.2 hPX hPM hS
set_option maxHeartbeats 4000000 in
set_option maxRecDepth 100000 in
theorem lc_9 (C : LC p s m meth c b L xs dC dI cA cZ ad bd adK adV) (hJ : J σ τ) (hPX : PX dC dI cA ad σ H) (hPM : PM dC dI cA cZ bd τ H) (hS : va_S (La s) s.heap H locs) (hl : lv_has ls 4 [(3, .int (nI i)), (2, .ref (bd 0)), (1, .ref (ad 0)), (0, .ref b)]) (hi5 : i + 5 ≤ L) (kk : ∀ (u w : St) (H : Heap) (locs : List Loc), J u w → PX dC dI cA ad u H → PM dC dI cA cZ bd w H → va_S (La s) s.heap H locs → W p l e room_1 s m #[Value.ref b] below meth c H locs 93 2201 Z (F0 m 1159 ls [])) : W p l e room_1 s m #[Value.ref b] below meth c H locs 93 2201 Z (F0 m 413 ls []) := by
  obtain ⟨⟨hx, hb, hml, hown, hts⟩, ⟨hX, hbl, hL⟩, hKN, ⟨hZ, hR⟩, hi, hj, hda, hdb, hne⟩ := C
  have hbA : ¬ La s b := Nat.not_le.mpr hbl
  have hin : ∀ k, k < 5 → vp_in (nI i + nI k) L := fun k hk => by rw [nI_add]; exact vp_in_nI (by omega) (by omega)
  refine lv_aload_n hx hb dL_law_413 rfl (lv_at hl 2 rfl) ?_
  refine lx_ci (va_runV (As := []) (rest := []) ⟨hx, hb, hml, hown, hts⟩ (c_X10_undo hi  σ (fun r σ' => V_X11_undo  τ (fun r' τ' => r = r' ∧ J σ' τ')) (p_undo hJ) H.size) (cwV 0 (fun w h => hts w (iv_X10_undo w h)) gv_X10_undo rfl rfl rfl (by decide +kernel) ⟨(Nat.le_of_ble_eq_true rfl), (Nat.le_of_ble_eq_true rfl)⟩) ⟨pre_blind, r_recv hKN.1.1 hPX 0 (by decide) (ceGR_0 (σ 0)) rfl, pre_of hPX hKN.1⟩ rfl rfl hl.1 rfl (lv_room (Nat.le_of_ble_eq_true rfl)) dL_law_414 ⟨(Nat.le_of_ble_eq_true rfl), (Nat.le_of_ble_eq_true rfl)⟩) hPM hS hda hne (fun r u H locs hw hPX hPM hS => ?_)
  refine lv_aload_n hx hb dL_law_417 rfl (lv_at hl 1 rfl) ?_
  refine lm_ci (va_runV (As := []) (rest := [.int r]) ⟨hx, hb, hml, hown, hts⟩ (c_X11_undo hj  τ (fun r' τ' => r = r' ∧ J u τ') hw H.size) (cwV 0 (fun w h => hts w (iv_X11_undo w h)) gv_X11_undo rfl rfl rfl (by decide +kernel) ⟨(Nat.le_of_ble_eq_true rfl), (Nat.le_of_ble_eq_true rfl)⟩) ⟨pre_blind, r_recv hKN.1.1 hPM 0 (by decide) (ceMo_0 (τ 0)) rfl, pre_of hPM hKN.1⟩ rfl rfl hl.1 rfl (lv_room (Nat.le_of_ble_eq_true rfl)) dL_law_418 ⟨(Nat.le_of_ble_eq_true rfl), (Nat.le_of_ble_eq_true rfl)⟩) hPX hS hdb hne (fun r2 w H locs hw2 hPX hPM hS => ?_)
  refine lv_icmp_eq (tgt := 1159) hx hb dL_law_421 (by decide) (fun _ => ?_) (fun c9 => absurd hw2.1 c9)
  exact kk u w H locs hw2.2 hPX hPM hS
set_option maxHeartbeats 4000000 in
set_option maxRecDepth 100000 in
theorem lc_10 (C : LC p s m meth c b L xs dC dI cA cZ ad bd adK adV) (hJ : J σ τ) (hPX : PX dC dI cA ad σ H) (hPM : PM dC dI cA cZ bd τ H) (hS : va_S (La s) s.heap H locs) (hl : lv_has ls 4 [(3, .int (nI i)), (2, .ref (bd 0)), (1, .ref (ad 0)), (0, .ref b)]) (hi5 : i + 5 ≤ L) (kk : ∀ (u w : St) (H : Heap) (locs : List Loc), J u w → PX dC dI cA ad u H → PM dC dI cA cZ bd w H → va_S (La s) s.heap H locs → W p l e room_1 s m #[Value.ref b] below meth c H locs 93 2201 Z (F0 m 1159 ls [])) : W p l e room_1 s m #[Value.ref b] below meth c H locs 93 2201 Z (F0 m 426 ls []) := by
  obtain ⟨⟨hx, hb, hml, hown, hts⟩, ⟨hX, hbl, hL⟩, hKN, ⟨hZ, hR⟩, hi, hj, hda, hdb, hne⟩ := C
  have hbA : ¬ La s b := Nat.not_le.mpr hbl
  have hin : ∀ k, k < 5 → vp_in (nI i + nI k) L := fun k hk => by rw [nI_add]; exact vp_in_nI (by omega) (by omega)
  refine lv_aload_n hx hb dL_law_426 rfl (lv_at hl 2 rfl) ?_
  refine lv_aload_n hx hb dL_law_427 rfl (lv_at hl 3 rfl) ?_
  refine lv_iload_n hx hb dL_law_428 rfl (lv_at hl 0 rfl) ?_
  refine lv_iconst (v := 1) hx hb dL_law_429 (by decide) ?_
  refine lv_iadd hx hb dL_law_430 ?_
  refine va_sld hx hb hX hbl hbA hS (hin 1 (by omega)) dL_law_431 ?_
  refine lv_aload_n hx hb dL_law_432 rfl (lv_at hl 3 rfl) ?_
  refine lv_iload_n hx hb dL_law_433 rfl (lv_at hl 0 rfl) ?_
  refine lv_iconst (v := 2) hx hb dL_law_434 (by decide) ?_
  refine lv_iadd hx hb dL_law_435 ?_
  refine va_sld hx hb hX hbl hbA hS (hin 2 (by omega)) dL_law_436 ?_
  refine lx_ci (va_runV (As := [.int (xs (nI i + 1).toNatClampNeg), .int (xs (nI i + 2).toNatClampNeg)]) (rest := []) ⟨hx, hb, hml, hown, hts⟩ (c_X10_of hi (xs (nI i + 1).toNatClampNeg) (xs (nI i + 2).toNatClampNeg) σ (fun r σ' => V_X11_of (xs (nI i + 1).toNatClampNeg) (xs (nI i + 2).toNatClampNeg) τ (fun r' τ' => r = r' ∧ J σ' τ')) (p_of hJ) H.size) (cwV 2 (fun w h => hts w (iv_X10_of w h)) gv_X10_of rfl rfl rfl (by decide +kernel) ⟨(Nat.le_of_ble_eq_true rfl), (Nat.le_of_ble_eq_true rfl)⟩) ⟨pre_blind, r_recv hKN.1.1 hPX 0 (by decide) (ceGR_0 (σ 0)) rfl, pre_of hPX hKN.1⟩ rfl rfl hl.1 rfl (lv_room (Nat.le_of_ble_eq_true rfl)) dL_law_437 ⟨(Nat.le_of_ble_eq_true rfl), (Nat.le_of_ble_eq_true rfl)⟩) hPM hS hda hne (fun r u H locs hw hPX hPM hS => ?_)
  refine lv_aload_n hx hb dL_law_440 rfl (lv_at hl 1 rfl) ?_
  refine lv_aload_n hx hb dL_law_441 rfl (lv_at hl 3 rfl) ?_
  refine lv_iload_n hx hb dL_law_442 rfl (lv_at hl 0 rfl) ?_
  refine lv_iconst (v := 1) hx hb dL_law_443 (by decide) ?_
  refine lv_iadd hx hb dL_law_444 ?_
  refine va_sld hx hb hX hbl hbA hS (hin 1 (by omega)) dL_law_445 ?_
  refine lv_aload_n hx hb dL_law_446 rfl (lv_at hl 3 rfl) ?_
  refine lv_iload_n hx hb dL_law_447 rfl (lv_at hl 0 rfl) ?_
  refine lv_iconst (v := 2) hx hb dL_law_448 (by decide) ?_
  refine lv_iadd hx hb dL_law_449 ?_
  refine va_sld hx hb hX hbl hbA hS (hin 2 (by omega)) dL_law_450 ?_
  refine lm_ci (va_runV (As := [.int (xs (nI i + 1).toNatClampNeg), .int (xs (nI i + 2).toNatClampNeg)]) (rest := [.int r]) ⟨hx, hb, hml, hown, hts⟩ (c_X11_of hj (xs (nI i + 1).toNatClampNeg) (xs (nI i + 2).toNatClampNeg) τ (fun r' τ' => r = r' ∧ J u τ') hw H.size) (cwV 2 (fun w h => hts w (iv_X11_of w h)) gv_X11_of rfl rfl rfl (by decide +kernel) ⟨(Nat.le_of_ble_eq_true rfl), (Nat.le_of_ble_eq_true rfl)⟩) ⟨pre_blind, r_recv hKN.1.1 hPM 0 (by decide) (ceMo_0 (τ 0)) rfl, pre_of hPM hKN.1⟩ rfl rfl hl.1 rfl (lv_room (Nat.le_of_ble_eq_true rfl)) dL_law_451 ⟨(Nat.le_of_ble_eq_true rfl), (Nat.le_of_ble_eq_true rfl)⟩) hPX hS hdb hne (fun r2 w H locs hw2 hPX hPM hS => ?_)
  refine lv_icmp_eq (tgt := 1159) hx hb dL_law_454 (by decide) (fun _ => ?_) (fun c9 => absurd hw2.1 c9)
  exact kk u w H locs hw2.2 hPX hPM hS
set_option maxHeartbeats 4000000 in
set_option maxRecDepth 100000 in
theorem lc_11 (C : LC p s m meth c b L xs dC dI cA cZ ad bd adK adV) (hJ : J σ τ) (hPX : PX dC dI cA ad σ H) (hPM : PM dC dI cA cZ bd τ H) (hS : va_S (La s) s.heap H locs) (hl : lv_has ls 4 [(3, .int (nI i)), (2, .ref (bd 0)), (1, .ref (ad 0)), (0, .ref b)]) (hi5 : i + 5 ≤ L) (kk : ∀ (u w : St) (H : Heap) (locs : List Loc), J u w → PX dC dI cA ad u H → PM dC dI cA cZ bd w H → va_S (La s) s.heap H locs → W p l e room_1 s m #[Value.ref b] below meth c H locs 93 2201 Z (F0 m 1159 ls [])) : W p l e room_1 s m #[Value.ref b] below meth c H locs 93 2201 Z (F0 m 459 ls []) := by
  obtain ⟨⟨hx, hb, hml, hown, hts⟩, ⟨hX, hbl, hL⟩, hKN, ⟨hZ, hR⟩, hi, hj, hda, hdb, hne⟩ := C
  have hbA : ¬ La s b := Nat.not_le.mpr hbl
  have hin : ∀ k, k < 5 → vp_in (nI i + nI k) L := fun k hk => by rw [nI_add]; exact vp_in_nI (by omega) (by omega)
  refine lv_aload_n hx hb dL_law_459 rfl (lv_at hl 2 rfl) ?_
  refine lv_aload_n hx hb dL_law_460 rfl (lv_at hl 3 rfl) ?_
  refine lv_iload_n hx hb dL_law_461 rfl (lv_at hl 0 rfl) ?_
  refine lv_iconst (v := 1) hx hb dL_law_462 (by decide) ?_
  refine lv_iadd hx hb dL_law_463 ?_
  refine va_sld hx hb hX hbl hbA hS (hin 1 (by omega)) dL_law_464 ?_
  refine lv_aload_n hx hb dL_law_465 rfl (lv_at hl 3 rfl) ?_
  refine lv_iload_n hx hb dL_law_466 rfl (lv_at hl 0 rfl) ?_
  refine lv_iconst (v := 2) hx hb dL_law_467 (by decide) ?_
  refine lv_iadd hx hb dL_law_468 ?_
  refine va_sld hx hb hX hbl hbA hS (hin 2 (by omega)) dL_law_469 ?_
  refine lx_ci (va_runV (As := [.int (xs (nI i + 1).toNatClampNeg), .int (xs (nI i + 2).toNatClampNeg)]) (rest := []) ⟨hx, hb, hml, hown, hts⟩ (c_X10_about hi (xs (nI i + 1).toNatClampNeg) (xs (nI i + 2).toNatClampNeg) σ (fun r σ' => V_X11_about (xs (nI i + 1).toNatClampNeg) (xs (nI i + 2).toNatClampNeg) τ (fun r' τ' => r = r' ∧ J σ' τ')) (p_about hJ) H.size) (cwV 2 (fun w h => hts w (iv_X10_about w h)) gv_X10_about rfl rfl rfl (by decide +kernel) ⟨(Nat.le_of_ble_eq_true rfl), (Nat.le_of_ble_eq_true rfl)⟩) ⟨pre_blind, r_recv hKN.1.1 hPX 0 (by decide) (ceGR_0 (σ 0)) rfl, pre_of hPX hKN.1⟩ rfl rfl hl.1 rfl (lv_room (Nat.le_of_ble_eq_true rfl)) dL_law_470 ⟨(Nat.le_of_ble_eq_true rfl), (Nat.le_of_ble_eq_true rfl)⟩) hPM hS hda hne (fun r u H locs hw hPX hPM hS => ?_)
  refine lv_aload_n hx hb dL_law_473 rfl (lv_at hl 1 rfl) ?_
  refine lv_aload_n hx hb dL_law_474 rfl (lv_at hl 3 rfl) ?_
  refine lv_iload_n hx hb dL_law_475 rfl (lv_at hl 0 rfl) ?_
  refine lv_iconst (v := 1) hx hb dL_law_476 (by decide) ?_
  refine lv_iadd hx hb dL_law_477 ?_
  refine va_sld hx hb hX hbl hbA hS (hin 1 (by omega)) dL_law_478 ?_
  refine lv_aload_n hx hb dL_law_479 rfl (lv_at hl 3 rfl) ?_
  refine lv_iload_n hx hb dL_law_480 rfl (lv_at hl 0 rfl) ?_
  refine lv_iconst (v := 2) hx hb dL_law_481 (by decide) ?_
  refine lv_iadd hx hb dL_law_482 ?_
  refine va_sld hx hb hX hbl hbA hS (hin 2 (by omega)) dL_law_483 ?_
  refine lm_ci (va_runV (As := [.int (xs (nI i + 1).toNatClampNeg), .int (xs (nI i + 2).toNatClampNeg)]) (rest := [.int r]) ⟨hx, hb, hml, hown, hts⟩ (c_X11_about hj (xs (nI i + 1).toNatClampNeg) (xs (nI i + 2).toNatClampNeg) τ (fun r' τ' => r = r' ∧ J u τ') hw H.size) (cwV 2 (fun w h => hts w (iv_X11_about w h)) gv_X11_about rfl rfl rfl (by decide +kernel) ⟨(Nat.le_of_ble_eq_true rfl), (Nat.le_of_ble_eq_true rfl)⟩) ⟨pre_blind, r_recv hKN.1.1 hPM 0 (by decide) (ceMo_0 (τ 0)) rfl, pre_of hPM hKN.1⟩ rfl rfl hl.1 rfl (lv_room (Nat.le_of_ble_eq_true rfl)) dL_law_484 ⟨(Nat.le_of_ble_eq_true rfl), (Nat.le_of_ble_eq_true rfl)⟩) hPX hS hdb hne (fun r2 w H locs hw2 hPX hPM hS => ?_)
  refine lv_icmp_eq (tgt := 1159) hx hb dL_law_487 (by decide) (fun _ => ?_) (fun c9 => absurd hw2.1 c9)
  exact kk u w H locs hw2.2 hPX hPM hS
set_option maxHeartbeats 4000000 in
set_option maxRecDepth 100000 in
theorem lc_12 (C : LC p s m meth c b L xs dC dI cA cZ ad bd adK adV) (hJ : J σ τ) (hPX : PX dC dI cA ad σ H) (hPM : PM dC dI cA cZ bd τ H) (hS : va_S (La s) s.heap H locs) (hl : lv_has ls 4 [(3, .int (nI i)), (2, .ref (bd 0)), (1, .ref (ad 0)), (0, .ref b)]) (hi5 : i + 5 ≤ L) (kk : ∀ (u w : St) (H : Heap) (locs : List Loc), J u w → PX dC dI cA ad u H → PM dC dI cA cZ bd w H → va_S (La s) s.heap H locs → W p l e room_1 s m #[Value.ref b] below meth c H locs 93 2201 Z (F0 m 1159 ls [])) : W p l e room_1 s m #[Value.ref b] below meth c H locs 93 2201 Z (F0 m 492 ls []) := by
  obtain ⟨⟨hx, hb, hml, hown, hts⟩, ⟨hX, hbl, hL⟩, hKN, ⟨hZ, hR⟩, hi, hj, hda, hdb, hne⟩ := C
  have hbA : ¬ La s b := Nat.not_le.mpr hbl
  have hin : ∀ k, k < 5 → vp_in (nI i + nI k) L := fun k hk => by rw [nI_add]; exact vp_in_nI (by omega) (by omega)
  refine lv_aload_n hx hb dL_law_492 rfl (lv_at hl 2 rfl) ?_
  refine lv_aload_n hx hb dL_law_493 rfl (lv_at hl 3 rfl) ?_
  refine lv_iload_n hx hb dL_law_494 rfl (lv_at hl 0 rfl) ?_
  refine lv_iconst (v := 1) hx hb dL_law_495 (by decide) ?_
  refine lv_iadd hx hb dL_law_496 ?_
  refine va_sld hx hb hX hbl hbA hS (hin 1 (by omega)) dL_law_497 ?_
  refine lv_aload_n hx hb dL_law_498 rfl (lv_at hl 3 rfl) ?_
  refine lv_iload_n hx hb dL_law_499 rfl (lv_at hl 0 rfl) ?_
  refine lv_iconst (v := 2) hx hb dL_law_500 (by decide) ?_
  refine lv_iadd hx hb dL_law_501 ?_
  refine va_sld hx hb hX hbl hbA hS (hin 2 (by omega)) dL_law_502 ?_
  refine lx_ci (va_runV (As := [.int (xs (nI i + 1).toNatClampNeg), .int (xs (nI i + 2).toNatClampNeg)]) (rest := []) ⟨hx, hb, hml, hown, hts⟩ (c_X10_where hi (xs (nI i + 1).toNatClampNeg) (xs (nI i + 2).toNatClampNeg) σ (fun r σ' => V_X11_where (xs (nI i + 1).toNatClampNeg) (xs (nI i + 2).toNatClampNeg) τ (fun r' τ' => r = r' ∧ J σ' τ')) (p_where hJ) H.size) (cwV 2 (fun w h => hts w (iv_X10_where w h)) gv_X10_where rfl rfl rfl (by decide +kernel) ⟨(Nat.le_of_ble_eq_true rfl), (Nat.le_of_ble_eq_true rfl)⟩) ⟨pre_blind, r_recv hKN.1.1 hPX 0 (by decide) (ceGR_0 (σ 0)) rfl, pre_of hPX hKN.1⟩ rfl rfl hl.1 rfl (lv_room (Nat.le_of_ble_eq_true rfl)) dL_law_503 ⟨(Nat.le_of_ble_eq_true rfl), (Nat.le_of_ble_eq_true rfl)⟩) hPM hS hda hne (fun r u H locs hw hPX hPM hS => ?_)
  refine lv_aload_n hx hb dL_law_506 rfl (lv_at hl 1 rfl) ?_
  refine lv_aload_n hx hb dL_law_507 rfl (lv_at hl 3 rfl) ?_
  refine lv_iload_n hx hb dL_law_508 rfl (lv_at hl 0 rfl) ?_
  refine lv_iconst (v := 1) hx hb dL_law_509 (by decide) ?_
  refine lv_iadd hx hb dL_law_510 ?_
  refine va_sld hx hb hX hbl hbA hS (hin 1 (by omega)) dL_law_511 ?_
  refine lv_aload_n hx hb dL_law_512 rfl (lv_at hl 3 rfl) ?_
  refine lv_iload_n hx hb dL_law_513 rfl (lv_at hl 0 rfl) ?_
  refine lv_iconst (v := 2) hx hb dL_law_514 (by decide) ?_
  refine lv_iadd hx hb dL_law_515 ?_
  refine va_sld hx hb hX hbl hbA hS (hin 2 (by omega)) dL_law_516 ?_
  refine lm_ci (va_runV (As := [.int (xs (nI i + 1).toNatClampNeg), .int (xs (nI i + 2).toNatClampNeg)]) (rest := [.int r]) ⟨hx, hb, hml, hown, hts⟩ (c_X11_where hj (xs (nI i + 1).toNatClampNeg) (xs (nI i + 2).toNatClampNeg) τ (fun r' τ' => r = r' ∧ J u τ') hw H.size) (cwV 2 (fun w h => hts w (iv_X11_where w h)) gv_X11_where rfl rfl rfl (by decide +kernel) ⟨(Nat.le_of_ble_eq_true rfl), (Nat.le_of_ble_eq_true rfl)⟩) ⟨pre_blind, r_recv hKN.1.1 hPM 0 (by decide) (ceMo_0 (τ 0)) rfl, pre_of hPM hKN.1⟩ rfl rfl hl.1 rfl (lv_room (Nat.le_of_ble_eq_true rfl)) dL_law_517 ⟨(Nat.le_of_ble_eq_true rfl), (Nat.le_of_ble_eq_true rfl)⟩) hPX hS hdb hne (fun r2 w H locs hw2 hPX hPM hS => ?_)
  refine lv_icmp_eq (tgt := 1159) hx hb dL_law_520 (by decide) (fun _ => ?_) (fun c9 => absurd hw2.1 c9)
  exact kk u w H locs hw2.2 hPX hPM hS
end LW
