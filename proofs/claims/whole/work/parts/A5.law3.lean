section LW
variable {p : Program} {l : Launch} {e : Env} {s : State} {m : MethodId} {below : List Frame} {meth : Method} {c : Code} {b L : Nat} {xs : Nat → Int32} {dC : Nat → ClassId} {dI : Nat → Nat → Nat} {cA cZ : ClassId} {ad bd adK adV : Nat → Nat} {σ τ : St} {H : Heap} {locs : List Loc} {ls : Array Slot} {i : Nat} {Z : State → Prop}
set_option maxHeartbeats 4000000 in
set_option maxRecDepth 100000 in
theorem lc_26 (C : LC p s m meth c b L xs dC dI cA cZ ad bd adK adV) (hJ : J σ τ) (hPX : PX dC dI cA ad σ H) (hPM : PM dC dI cA cZ bd τ H) (hS : va_S (La s) s.heap H locs) (hl : lv_has ls 4 [(3, .int (nI i)), (2, .ref (bd 0)), (1, .ref (ad 0)), (0, .ref b)]) (hi5 : i + 5 ≤ L) (kk : ∀ (u w : St) (H : Heap) (locs : List Loc), J u w → PX dC dI cA ad u H → PM dC dI cA cZ bd w H → va_S (La s) s.heap H locs → W p l e room_1 s m #[Value.ref b] below meth c H locs 93 2201 Z (F0 m 1159 ls [])) : W p l e room_1 s m #[Value.ref b] below meth c H locs 93 2201 Z (F0 m 894 ls []) := by
  obtain ⟨⟨hx, hb, hml, hown, hts⟩, ⟨hX, hbl, hL⟩, hKN, ⟨hZ, hR⟩, hi, hj, hda, hdb, hne⟩ := C
  have hbA : ¬ La s b := Nat.not_le.mpr hbl
  have hin : ∀ k, k < 5 → vp_in (nI i + nI k) L := fun k hk => by rw [nI_add]; exact vp_in_nI (by omega) (by omega)
  refine lv_aload_n hx hb dL_law_894 rfl (lv_at hl 2 rfl) ?_
  refine lv_aload_n hx hb dL_law_895 rfl (lv_at hl 3 rfl) ?_
  refine lv_iload_n hx hb dL_law_896 rfl (lv_at hl 0 rfl) ?_
  refine lv_iconst (v := 1) hx hb dL_law_897 (by decide) ?_
  refine lv_iadd hx hb dL_law_898 ?_
  refine va_sld hx hb hX hbl hbA hS (hin 1 (by omega)) dL_law_899 ?_
  refine lx_ci (va_runV (As := [.int (xs (nI i + 1).toNatClampNeg)]) (rest := []) ⟨hx, hb, hml, hown, hts⟩ (c_X10_kinds hi (xs (nI i + 1).toNatClampNeg) σ (fun r σ' => V_X11_kinds (xs (nI i + 1).toNatClampNeg) τ (fun r' τ' => r = r' ∧ J σ' τ')) (p_kinds hJ) H.size) (cwV 1 (fun w h => hts w (iv_X10_kinds w h)) gv_X10_kinds rfl rfl rfl (by decide +kernel) ⟨(Nat.le_of_ble_eq_true rfl), (Nat.le_of_ble_eq_true rfl)⟩) ⟨pre_blind, r_recv hKN.1.1 hPX 0 (by decide) (ceGR_0 (σ 0)) rfl, pre_of hPX hKN.1⟩ rfl rfl hl.1 rfl (lv_room (Nat.le_of_ble_eq_true rfl)) dL_law_900 ⟨(Nat.le_of_ble_eq_true rfl), (Nat.le_of_ble_eq_true rfl)⟩) hPM hS hda hne (fun r u H locs hw hPX hPM hS => ?_)
  refine lv_aload_n hx hb dL_law_903 rfl (lv_at hl 1 rfl) ?_
  refine lv_aload_n hx hb dL_law_904 rfl (lv_at hl 3 rfl) ?_
  refine lv_iload_n hx hb dL_law_905 rfl (lv_at hl 0 rfl) ?_
  refine lv_iconst (v := 1) hx hb dL_law_906 (by decide) ?_
  refine lv_iadd hx hb dL_law_907 ?_
  refine va_sld hx hb hX hbl hbA hS (hin 1 (by omega)) dL_law_908 ?_
  refine lm_ci (va_runV (As := [.int (xs (nI i + 1).toNatClampNeg)]) (rest := [.int r]) ⟨hx, hb, hml, hown, hts⟩ (c_X11_kinds hj (xs (nI i + 1).toNatClampNeg) τ (fun r' τ' => r = r' ∧ J u τ') hw H.size) (cwV 1 (fun w h => hts w (iv_X11_kinds w h)) gv_X11_kinds rfl rfl rfl (by decide +kernel) ⟨(Nat.le_of_ble_eq_true rfl), (Nat.le_of_ble_eq_true rfl)⟩) ⟨pre_blind, r_recv hKN.1.1 hPM 0 (by decide) (ceMo_0 (τ 0)) rfl, pre_of hPM hKN.1⟩ rfl rfl hl.1 rfl (lv_room (Nat.le_of_ble_eq_true rfl)) dL_law_909 ⟨(Nat.le_of_ble_eq_true rfl), (Nat.le_of_ble_eq_true rfl)⟩) hPX hS hdb hne (fun r2 w H locs hw2 hPX hPM hS => ?_)
  refine lv_icmp_eq (tgt := 1159) hx hb dL_law_912 (by decide) (fun _ => ?_) (fun c9 => absurd hw2.1 c9)
  exact kk u w H locs hw2.2 hPX hPM hS
set_option maxHeartbeats 4000000 in
set_option maxRecDepth 100000 in
theorem lc_27 (C : LC p s m meth c b L xs dC dI cA cZ ad bd adK adV) (hJ : J σ τ) (hPX : PX dC dI cA ad σ H) (hPM : PM dC dI cA cZ bd τ H) (hS : va_S (La s) s.heap H locs) (hl : lv_has ls 4 [(3, .int (nI i)), (2, .ref (bd 0)), (1, .ref (ad 0)), (0, .ref b)]) (hi5 : i + 5 ≤ L) (kk : ∀ (u w : St) (H : Heap) (locs : List Loc), J u w → PX dC dI cA ad u H → PM dC dI cA cZ bd w H → va_S (La s) s.heap H locs → W p l e room_1 s m #[Value.ref b] below meth c H locs 93 2201 Z (F0 m 1159 ls [])) : W p l e room_1 s m #[Value.ref b] below meth c H locs 93 2201 Z (F0 m 917 ls []) := by
  obtain ⟨⟨hx, hb, hml, hown, hts⟩, ⟨hX, hbl, hL⟩, hKN, ⟨hZ, hR⟩, hi, hj, hda, hdb, hne⟩ := C
  have hbA : ¬ La s b := Nat.not_le.mpr hbl
  have hin : ∀ k, k < 5 → vp_in (nI i + nI k) L := fun k hk => by rw [nI_add]; exact vp_in_nI (by omega) (by omega)
  refine lv_aload_n hx hb dL_law_917 rfl (lv_at hl 2 rfl) ?_
  refine lv_aload_n hx hb dL_law_918 rfl (lv_at hl 3 rfl) ?_
  refine lv_iload_n hx hb dL_law_919 rfl (lv_at hl 0 rfl) ?_
  refine lv_iconst (v := 1) hx hb dL_law_920 (by decide) ?_
  refine lv_iadd hx hb dL_law_921 ?_
  refine va_sld hx hb hX hbl hbA hS (hin 1 (by omega)) dL_law_922 ?_
  refine lx_ci (va_runV (As := [.int (xs (nI i + 1).toNatClampNeg)]) (rest := []) ⟨hx, hb, hml, hown, hts⟩ (c_X10_ask hi (xs (nI i + 1).toNatClampNeg) σ (fun r σ' => V_X11_ask (xs (nI i + 1).toNatClampNeg) τ (fun r' τ' => r = r' ∧ J σ' τ')) (p_ask hJ) H.size) (cwV 1 (fun w h => hts w (iv_X10_ask w h)) gv_X10_ask rfl rfl rfl (by decide +kernel) ⟨(Nat.le_of_ble_eq_true rfl), (Nat.le_of_ble_eq_true rfl)⟩) ⟨pre_blind, r_recv hKN.1.1 hPX 0 (by decide) (ceGR_0 (σ 0)) rfl, pre_of hPX hKN.1⟩ rfl rfl hl.1 rfl (lv_room (Nat.le_of_ble_eq_true rfl)) dL_law_923 ⟨(Nat.le_of_ble_eq_true rfl), (Nat.le_of_ble_eq_true rfl)⟩) hPM hS hda hne (fun r u H locs hw hPX hPM hS => ?_)
  refine lv_aload_n hx hb dL_law_926 rfl (lv_at hl 1 rfl) ?_
  refine lv_aload_n hx hb dL_law_927 rfl (lv_at hl 3 rfl) ?_
  refine lv_iload_n hx hb dL_law_928 rfl (lv_at hl 0 rfl) ?_
  refine lv_iconst (v := 1) hx hb dL_law_929 (by decide) ?_
  refine lv_iadd hx hb dL_law_930 ?_
  refine va_sld hx hb hX hbl hbA hS (hin 1 (by omega)) dL_law_931 ?_
  refine lm_ci (va_runV (As := [.int (xs (nI i + 1).toNatClampNeg)]) (rest := [.int r]) ⟨hx, hb, hml, hown, hts⟩ (c_X11_ask hj (xs (nI i + 1).toNatClampNeg) τ (fun r' τ' => r = r' ∧ J u τ') hw H.size) (cwV 1 (fun w h => hts w (iv_X11_ask w h)) gv_X11_ask rfl rfl rfl (by decide +kernel) ⟨(Nat.le_of_ble_eq_true rfl), (Nat.le_of_ble_eq_true rfl)⟩) ⟨pre_blind, r_recv hKN.1.1 hPM 0 (by decide) (ceMo_0 (τ 0)) rfl, pre_of hPM hKN.1⟩ rfl rfl hl.1 rfl (lv_room (Nat.le_of_ble_eq_true rfl)) dL_law_932 ⟨(Nat.le_of_ble_eq_true rfl), (Nat.le_of_ble_eq_true rfl)⟩) hPX hS hdb hne (fun r2 w H locs hw2 hPX hPM hS => ?_)
  refine lv_icmp_eq (tgt := 1159) hx hb dL_law_935 (by decide) (fun _ => ?_) (fun c9 => absurd hw2.1 c9)
  exact kk u w H locs hw2.2 hPX hPM hS
set_option maxHeartbeats 4000000 in
set_option maxRecDepth 100000 in
theorem lc_28 (C : LC p s m meth c b L xs dC dI cA cZ ad bd adK adV) (hJ : J σ τ) (hPX : PX dC dI cA ad σ H) (hPM : PM dC dI cA cZ bd τ H) (hS : va_S (La s) s.heap H locs) (hl : lv_has ls 4 [(3, .int (nI i)), (2, .ref (bd 0)), (1, .ref (ad 0)), (0, .ref b)]) (hi5 : i + 5 ≤ L) (kk : ∀ (u w : St) (H : Heap) (locs : List Loc), J u w → PX dC dI cA ad u H → PM dC dI cA cZ bd w H → va_S (La s) s.heap H locs → W p l e room_1 s m #[Value.ref b] below meth c H locs 93 2201 Z (F0 m 1159 ls [])) : W p l e room_1 s m #[Value.ref b] below meth c H locs 93 2201 Z (F0 m 940 ls []) := by
  obtain ⟨⟨hx, hb, hml, hown, hts⟩, ⟨hX, hbl, hL⟩, hKN, ⟨hZ, hR⟩, hi, hj, hda, hdb, hne⟩ := C
  have hbA : ¬ La s b := Nat.not_le.mpr hbl
  have hin : ∀ k, k < 5 → vp_in (nI i + nI k) L := fun k hk => by rw [nI_add]; exact vp_in_nI (by omega) (by omega)
  refine lv_aload_n hx hb dL_law_940 rfl (lv_at hl 2 rfl) ?_
  refine lv_aload_n hx hb dL_law_941 rfl (lv_at hl 3 rfl) ?_
  refine lv_iload_n hx hb dL_law_942 rfl (lv_at hl 0 rfl) ?_
  refine lv_iconst (v := 1) hx hb dL_law_943 (by decide) ?_
  refine lv_iadd hx hb dL_law_944 ?_
  refine va_sld hx hb hX hbl hbA hS (hin 1 (by omega)) dL_law_945 ?_
  refine lv_aload_n hx hb dL_law_946 rfl (lv_at hl 3 rfl) ?_
  refine lv_iload_n hx hb dL_law_947 rfl (lv_at hl 0 rfl) ?_
  refine lv_iconst (v := 2) hx hb dL_law_948 (by decide) ?_
  refine lv_iadd hx hb dL_law_949 ?_
  refine va_sld hx hb hX hbl hbA hS (hin 2 (by omega)) dL_law_950 ?_
  refine lx_ci (va_runV (As := [.int (xs (nI i + 1).toNatClampNeg), .int (xs (nI i + 2).toNatClampNeg)]) (rest := []) ⟨hx, hb, hml, hown, hts⟩ (c_X10_lady hi (xs (nI i + 1).toNatClampNeg) (xs (nI i + 2).toNatClampNeg) σ (fun r σ' => V_X11_lady (xs (nI i + 1).toNatClampNeg) (xs (nI i + 2).toNatClampNeg) τ (fun r' τ' => r = r' ∧ J σ' τ')) (p_lady hJ) H.size) (cwV 2 (fun w h => hts w (iv_X10_lady w h)) gv_X10_lady rfl rfl rfl (by decide +kernel) ⟨(Nat.le_of_ble_eq_true rfl), (Nat.le_of_ble_eq_true rfl)⟩) ⟨pre_blind, r_recv hKN.1.1 hPX 0 (by decide) (ceGR_0 (σ 0)) rfl, pre_of hPX hKN.1⟩ rfl rfl hl.1 rfl (lv_room (Nat.le_of_ble_eq_true rfl)) dL_law_951 ⟨(Nat.le_of_ble_eq_true rfl), (Nat.le_of_ble_eq_true rfl)⟩) hPM hS hda hne (fun r u H locs hw hPX hPM hS => ?_)
  refine lv_aload_n hx hb dL_law_954 rfl (lv_at hl 1 rfl) ?_
  refine lv_aload_n hx hb dL_law_955 rfl (lv_at hl 3 rfl) ?_
  refine lv_iload_n hx hb dL_law_956 rfl (lv_at hl 0 rfl) ?_
  refine lv_iconst (v := 1) hx hb dL_law_957 (by decide) ?_
  refine lv_iadd hx hb dL_law_958 ?_
  refine va_sld hx hb hX hbl hbA hS (hin 1 (by omega)) dL_law_959 ?_
  refine lv_aload_n hx hb dL_law_960 rfl (lv_at hl 3 rfl) ?_
  refine lv_iload_n hx hb dL_law_961 rfl (lv_at hl 0 rfl) ?_
  refine lv_iconst (v := 2) hx hb dL_law_962 (by decide) ?_
  refine lv_iadd hx hb dL_law_963 ?_
  refine va_sld hx hb hX hbl hbA hS (hin 2 (by omega)) dL_law_964 ?_
  refine lm_ci (va_runV (As := [.int (xs (nI i + 1).toNatClampNeg), .int (xs (nI i + 2).toNatClampNeg)]) (rest := [.int r]) ⟨hx, hb, hml, hown, hts⟩ (c_X11_lady hj (xs (nI i + 1).toNatClampNeg) (xs (nI i + 2).toNatClampNeg) τ (fun r' τ' => r = r' ∧ J u τ') hw H.size) (cwV 2 (fun w h => hts w (iv_X11_lady w h)) gv_X11_lady rfl rfl rfl (by decide +kernel) ⟨(Nat.le_of_ble_eq_true rfl), (Nat.le_of_ble_eq_true rfl)⟩) ⟨pre_blind, r_recv hKN.1.1 hPM 0 (by decide) (ceMo_0 (τ 0)) rfl, pre_of hPM hKN.1⟩ rfl rfl hl.1 rfl (lv_room (Nat.le_of_ble_eq_true rfl)) dL_law_965 ⟨(Nat.le_of_ble_eq_true rfl), (Nat.le_of_ble_eq_true rfl)⟩) hPX hS hdb hne (fun r2 w H locs hw2 hPX hPM hS => ?_)
  refine lv_icmp_eq (tgt := 1159) hx hb dL_law_968 (by decide) (fun _ => ?_) (fun c9 => absurd hw2.1 c9)
  exact kk u w H locs hw2.2 hPX hPM hS
set_option maxHeartbeats 4000000 in
set_option maxRecDepth 100000 in
theorem lc_29 (C : LC p s m meth c b L xs dC dI cA cZ ad bd adK adV) (hJ : J σ τ) (hPX : PX dC dI cA ad σ H) (hPM : PM dC dI cA cZ bd τ H) (hS : va_S (La s) s.heap H locs) (hl : lv_has ls 4 [(3, .int (nI i)), (2, .ref (bd 0)), (1, .ref (ad 0)), (0, .ref b)]) (hi5 : i + 5 ≤ L) (kk : ∀ (u w : St) (H : Heap) (locs : List Loc), J u w → PX dC dI cA ad u H → PM dC dI cA cZ bd w H → va_S (La s) s.heap H locs → W p l e room_1 s m #[Value.ref b] below meth c H locs 93 2201 Z (F0 m 1159 ls [])) : W p l e room_1 s m #[Value.ref b] below meth c H locs 93 2201 Z (F0 m 973 ls []) := by
  obtain ⟨⟨hx, hb, hml, hown, hts⟩, ⟨hX, hbl, hL⟩, hKN, ⟨hZ, hR⟩, hi, hj, hda, hdb, hne⟩ := C
  have hbA : ¬ La s b := Nat.not_le.mpr hbl
  have hin : ∀ k, k < 5 → vp_in (nI i + nI k) L := fun k hk => by rw [nI_add]; exact vp_in_nI (by omega) (by omega)
  refine lv_aload_n hx hb dL_law_973 rfl (lv_at hl 2 rfl) ?_
  refine lv_aload_n hx hb dL_law_974 rfl (lv_at hl 3 rfl) ?_
  refine lv_iload_n hx hb dL_law_975 rfl (lv_at hl 0 rfl) ?_
  refine lv_iconst (v := 1) hx hb dL_law_976 (by decide) ?_
  refine lv_iadd hx hb dL_law_977 ?_
  refine va_sld hx hb hX hbl hbA hS (hin 1 (by omega)) dL_law_978 ?_
  refine lx_ci (va_runV (As := [.int (xs (nI i + 1).toNatClampNeg)]) (rest := []) ⟨hx, hb, hml, hown, hts⟩ (c_X10_rain hi (xs (nI i + 1).toNatClampNeg) σ (fun r σ' => V_X11_rain (xs (nI i + 1).toNatClampNeg) τ (fun r' τ' => r = r' ∧ J σ' τ')) (p_rain hJ) H.size) (cwV 1 (fun w h => hts w (iv_X10_rain w h)) gv_X10_rain rfl rfl rfl (by decide +kernel) ⟨(Nat.le_of_ble_eq_true rfl), (Nat.le_of_ble_eq_true rfl)⟩) ⟨pre_blind, r_recv hKN.1.1 hPX 0 (by decide) (ceGR_0 (σ 0)) rfl, pre_of hPX hKN.1⟩ rfl rfl hl.1 rfl (lv_room (Nat.le_of_ble_eq_true rfl)) dL_law_979 ⟨(Nat.le_of_ble_eq_true rfl), (Nat.le_of_ble_eq_true rfl)⟩) hPM hS hda hne (fun r u H locs hw hPX hPM hS => ?_)
  refine lv_aload_n hx hb dL_law_982 rfl (lv_at hl 1 rfl) ?_
  refine lv_aload_n hx hb dL_law_983 rfl (lv_at hl 3 rfl) ?_
  refine lv_iload_n hx hb dL_law_984 rfl (lv_at hl 0 rfl) ?_
  refine lv_iconst (v := 1) hx hb dL_law_985 (by decide) ?_
  refine lv_iadd hx hb dL_law_986 ?_
  refine va_sld hx hb hX hbl hbA hS (hin 1 (by omega)) dL_law_987 ?_
  refine lm_ci (va_runV (As := [.int (xs (nI i + 1).toNatClampNeg)]) (rest := [.int r]) ⟨hx, hb, hml, hown, hts⟩ (c_X11_rain hj (xs (nI i + 1).toNatClampNeg) τ (fun r' τ' => r = r' ∧ J u τ') hw H.size) (cwV 1 (fun w h => hts w (iv_X11_rain w h)) gv_X11_rain rfl rfl rfl (by decide +kernel) ⟨(Nat.le_of_ble_eq_true rfl), (Nat.le_of_ble_eq_true rfl)⟩) ⟨pre_blind, r_recv hKN.1.1 hPM 0 (by decide) (ceMo_0 (τ 0)) rfl, pre_of hPM hKN.1⟩ rfl rfl hl.1 rfl (lv_room (Nat.le_of_ble_eq_true rfl)) dL_law_988 ⟨(Nat.le_of_ble_eq_true rfl), (Nat.le_of_ble_eq_true rfl)⟩) hPX hS hdb hne (fun r2 w H locs hw2 hPX hPM hS => ?_)
  refine lv_icmp_eq (tgt := 1159) hx hb dL_law_991 (by decide) (fun _ => ?_) (fun c9 => absurd hw2.1 c9)
  exact kk u w H locs hw2.2 hPX hPM hS
set_option maxHeartbeats 4000000 in
set_option maxRecDepth 100000 in
theorem lc_30 (C : LC p s m meth c b L xs dC dI cA cZ ad bd adK adV) (hJ : J σ τ) (hPX : PX dC dI cA ad σ H) (hPM : PM dC dI cA cZ bd τ H) (hS : va_S (La s) s.heap H locs) (hl : lv_has ls 4 [(3, .int (nI i)), (2, .ref (bd 0)), (1, .ref (ad 0)), (0, .ref b)]) (hi5 : i + 5 ≤ L) (kk : ∀ (u w : St) (H : Heap) (locs : List Loc), J u w → PX dC dI cA ad u H → PM dC dI cA cZ bd w H → va_S (La s) s.heap H locs → W p l e room_1 s m #[Value.ref b] below meth c H locs 93 2201 Z (F0 m 1159 ls [])) : W p l e room_1 s m #[Value.ref b] below meth c H locs 93 2201 Z (F0 m 996 ls []) := by
  obtain ⟨⟨hx, hb, hml, hown, hts⟩, ⟨hX, hbl, hL⟩, hKN, ⟨hZ, hR⟩, hi, hj, hda, hdb, hne⟩ := C
  have hbA : ¬ La s b := Nat.not_le.mpr hbl
  have hin : ∀ k, k < 5 → vp_in (nI i + nI k) L := fun k hk => by rw [nI_add]; exact vp_in_nI (by omega) (by omega)
  refine lv_aload_n hx hb dL_law_996 rfl (lv_at hl 2 rfl) ?_
  refine lv_aload_n hx hb dL_law_997 rfl (lv_at hl 3 rfl) ?_
  refine lv_iload_n hx hb dL_law_998 rfl (lv_at hl 0 rfl) ?_
  refine lv_iconst (v := 1) hx hb dL_law_999 (by decide) ?_
  refine lv_iadd hx hb dL_law_1000 ?_
  refine va_sld hx hb hX hbl hbA hS (hin 1 (by omega)) dL_law_1001 ?_
  refine lv_aload_n hx hb dL_law_1002 rfl (lv_at hl 3 rfl) ?_
  refine lv_iload_n hx hb dL_law_1003 rfl (lv_at hl 0 rfl) ?_
  refine lv_iconst (v := 2) hx hb dL_law_1004 (by decide) ?_
  refine lv_iadd hx hb dL_law_1005 ?_
  refine va_sld hx hb hX hbl hbA hS (hin 2 (by omega)) dL_law_1006 ?_
  refine lx_ci (va_runV (As := [.int (xs (nI i + 1).toNatClampNeg), .int (xs (nI i + 2).toNatClampNeg)]) (rest := []) ⟨hx, hb, hml, hown, hts⟩ (c_X10_winters hi (xs (nI i + 1).toNatClampNeg) (xs (nI i + 2).toNatClampNeg) σ (fun r σ' => V_X11_winters (xs (nI i + 1).toNatClampNeg) (xs (nI i + 2).toNatClampNeg) τ (fun r' τ' => r = r' ∧ J σ' τ')) (p_winters hJ) H.size) (cwV 2 (fun w h => hts w (iv_X10_winters w h)) gv_X10_winters rfl rfl rfl (by decide +kernel) ⟨(Nat.le_of_ble_eq_true rfl), (Nat.le_of_ble_eq_true rfl)⟩) ⟨pre_blind, r_recv hKN.1.1 hPX 0 (by decide) (ceGR_0 (σ 0)) rfl, pre_of hPX hKN.1⟩ rfl rfl hl.1 rfl (lv_room (Nat.le_of_ble_eq_true rfl)) dL_law_1007 ⟨(Nat.le_of_ble_eq_true rfl), (Nat.le_of_ble_eq_true rfl)⟩) hPM hS hda hne (fun r u H locs hw hPX hPM hS => ?_)
  refine lv_aload_n hx hb dL_law_1010 rfl (lv_at hl 1 rfl) ?_
  refine lv_aload_n hx hb dL_law_1011 rfl (lv_at hl 3 rfl) ?_
  refine lv_iload_n hx hb dL_law_1012 rfl (lv_at hl 0 rfl) ?_
  refine lv_iconst (v := 1) hx hb dL_law_1013 (by decide) ?_
  refine lv_iadd hx hb dL_law_1014 ?_
  refine va_sld hx hb hX hbl hbA hS (hin 1 (by omega)) dL_law_1015 ?_
  refine lv_aload_n hx hb dL_law_1016 rfl (lv_at hl 3 rfl) ?_
  refine lv_iload_n hx hb dL_law_1017 rfl (lv_at hl 0 rfl) ?_
  refine lv_iconst (v := 2) hx hb dL_law_1018 (by decide) ?_
  refine lv_iadd hx hb dL_law_1019 ?_
  refine va_sld hx hb hX hbl hbA hS (hin 2 (by omega)) dL_law_1020 ?_
  refine lm_ci (va_runV (As := [.int (xs (nI i + 1).toNatClampNeg), .int (xs (nI i + 2).toNatClampNeg)]) (rest := [.int r]) ⟨hx, hb, hml, hown, hts⟩ (c_X11_winters hj (xs (nI i + 1).toNatClampNeg) (xs (nI i + 2).toNatClampNeg) τ (fun r' τ' => r = r' ∧ J u τ') hw H.size) (cwV 2 (fun w h => hts w (iv_X11_winters w h)) gv_X11_winters rfl rfl rfl (by decide +kernel) ⟨(Nat.le_of_ble_eq_true rfl), (Nat.le_of_ble_eq_true rfl)⟩) ⟨pre_blind, r_recv hKN.1.1 hPM 0 (by decide) (ceMo_0 (τ 0)) rfl, pre_of hPM hKN.1⟩ rfl rfl hl.1 rfl (lv_room (Nat.le_of_ble_eq_true rfl)) dL_law_1021 ⟨(Nat.le_of_ble_eq_true rfl), (Nat.le_of_ble_eq_true rfl)⟩) hPX hS hdb hne (fun r2 w H locs hw2 hPX hPM hS => ?_)
  refine lv_icmp_eq (tgt := 1159) hx hb dL_law_1024 (by decide) (fun _ => ?_) (fun c9 => absurd hw2.1 c9)
  exact kk u w H locs hw2.2 hPX hPM hS
set_option maxHeartbeats 4000000 in
set_option maxRecDepth 100000 in
theorem lc_31 (C : LC p s m meth c b L xs dC dI cA cZ ad bd adK adV) (hJ : J σ τ) (hPX : PX dC dI cA ad σ H) (hPM : PM dC dI cA cZ bd τ H) (hS : va_S (La s) s.heap H locs) (hl : lv_has ls 4 [(3, .int (nI i)), (2, .ref (bd 0)), (1, .ref (ad 0)), (0, .ref b)]) (hi5 : i + 5 ≤ L) (kk : ∀ (u w : St) (H : Heap) (locs : List Loc), J u w → PX dC dI cA ad u H → PM dC dI cA cZ bd w H → va_S (La s) s.heap H locs → W p l e room_1 s m #[Value.ref b] below meth c H locs 93 2201 Z (F0 m 1159 ls [])) : W p l e room_1 s m #[Value.ref b] below meth c H locs 93 2201 Z (F0 m 1029 ls []) := by
  obtain ⟨⟨hx, hb, hml, hown, hts⟩, ⟨hX, hbl, hL⟩, hKN, ⟨hZ, hR⟩, hi, hj, hda, hdb, hne⟩ := C
  have hbA : ¬ La s b := Nat.not_le.mpr hbl
  have hin : ∀ k, k < 5 → vp_in (nI i + nI k) L := fun k hk => by rw [nI_add]; exact vp_in_nI (by omega) (by omega)
  refine lv_aload_n hx hb dL_law_1029 rfl (lv_at hl 2 rfl) ?_
  refine lv_aload_n hx hb dL_law_1030 rfl (lv_at hl 3 rfl) ?_
  refine lv_iload_n hx hb dL_law_1031 rfl (lv_at hl 0 rfl) ?_
  refine lv_iconst (v := 1) hx hb dL_law_1032 (by decide) ?_
  refine lv_iadd hx hb dL_law_1033 ?_
  refine va_sld hx hb hX hbl hbA hS (hin 1 (by omega)) dL_law_1034 ?_
  refine lx_cl (va_runV (As := [.int (xs (nI i + 1).toNatClampNeg)]) (rest := []) ⟨hx, hb, hml, hown, hts⟩ (c_X10_part hi (xs (nI i + 1).toNatClampNeg) σ (fun r σ' => V_X11_part (xs (nI i + 1).toNatClampNeg) τ (fun r' τ' => r = r' ∧ J σ' τ')) (p_part hJ) H.size) (cwV 1 (fun w h => hts w (iv_X10_part w h)) gv_X10_part rfl rfl rfl (by decide +kernel) ⟨(Nat.le_of_ble_eq_true rfl), (Nat.le_of_ble_eq_true rfl)⟩) ⟨pre_blind, r_recv hKN.1.1 hPX 0 (by decide) (ceGR_0 (σ 0)) rfl, pre_of hPX hKN.1⟩ rfl rfl hl.1 rfl (lv_room (Nat.le_of_ble_eq_true rfl)) dL_law_1035 ⟨(Nat.le_of_ble_eq_true rfl), (Nat.le_of_ble_eq_true rfl)⟩) hPM hS hda hne (fun r u H locs hw hPX hPM hS => ?_)
  refine lv_aload_n hx hb dL_law_1038 rfl (lv_at hl 1 rfl) ?_
  refine lv_aload_n hx hb dL_law_1039 rfl (lv_at hl 3 rfl) ?_
  refine lv_iload_n hx hb dL_law_1040 rfl (lv_at hl 0 rfl) ?_
  refine lv_iconst (v := 1) hx hb dL_law_1041 (by decide) ?_
  refine lv_iadd hx hb dL_law_1042 ?_
  refine va_sld hx hb hX hbl hbA hS (hin 1 (by omega)) dL_law_1043 ?_
  refine lm_cl (va_runV (As := [.int (xs (nI i + 1).toNatClampNeg)]) (rest := [.long r]) ⟨hx, hb, hml, hown, hts⟩ (c_X11_part hj (xs (nI i + 1).toNatClampNeg) τ (fun r' τ' => r = r' ∧ J u τ') hw H.size) (cwV 1 (fun w h => hts w (iv_X11_part w h)) gv_X11_part rfl rfl rfl (by decide +kernel) ⟨(Nat.le_of_ble_eq_true rfl), (Nat.le_of_ble_eq_true rfl)⟩) ⟨pre_blind, r_recv hKN.1.1 hPM 0 (by decide) (ceMo_0 (τ 0)) rfl, pre_of hPM hKN.1⟩ rfl rfl hl.1 rfl (lv_room (Nat.le_of_ble_eq_true rfl)) dL_law_1044 ⟨(Nat.le_of_ble_eq_true rfl), (Nat.le_of_ble_eq_true rfl)⟩) hPX hS hdb hne (fun r2 w H locs hw2 hPX hPM hS => ?_)
  refine W.lcmp hx hb dL_law_1047 ?_
  refine lv_if_eq (tgt := 1159) hx hb dL_law_1048 (by decide) (fun _ => ?_) (fun c9 => absurd (lcmp_eq hw2.1) c9)
  exact kk u w H locs hw2.2 hPX hPM hS
set_option maxHeartbeats 4000000 in
set_option maxRecDepth 100000 in
theorem lc_32 (C : LC p s m meth c b L xs dC dI cA cZ ad bd adK adV) (hJ : J σ τ) (hPX : PX dC dI cA ad σ H) (hPM : PM dC dI cA cZ bd τ H) (hS : va_S (La s) s.heap H locs) (hl : lv_has ls 4 [(3, .int (nI i)), (2, .ref (bd 0)), (1, .ref (ad 0)), (0, .ref b)]) (hi5 : i + 5 ≤ L) (kk : ∀ (u w : St) (H : Heap) (locs : List Loc), J u w → PX dC dI cA ad u H → PM dC dI cA cZ bd w H → va_S (La s) s.heap H locs → W p l e room_1 s m #[Value.ref b] below meth c H locs 93 2201 Z (F0 m 1159 ls [])) : W p l e room_1 s m #[Value.ref b] below meth c H locs 93 2201 Z (F0 m 1053 ls []) := by
  obtain ⟨⟨hx, hb, hml, hown, hts⟩, ⟨hX, hbl, hL⟩, hKN, ⟨hZ, hR⟩, hi, hj, hda, hdb, hne⟩ := C
  have hbA : ¬ La s b := Nat.not_le.mpr hbl
  have hin : ∀ k, k < 5 → vp_in (nI i + nI k) L := fun k hk => by rw [nI_add]; exact vp_in_nI (by omega) (by omega)
  refine lv_aload_n hx hb dL_law_1053 rfl (lv_at hl 2 rfl) ?_
  refine lv_aload_n hx hb dL_law_1054 rfl (lv_at hl 3 rfl) ?_
  refine lv_iload_n hx hb dL_law_1055 rfl (lv_at hl 0 rfl) ?_
  refine lv_iconst (v := 1) hx hb dL_law_1056 (by decide) ?_
  refine lv_iadd hx hb dL_law_1057 ?_
  refine va_sld hx hb hX hbl hbA hS (hin 1 (by omega)) dL_law_1058 ?_
  refine lx_ci (va_runV (As := [.int (xs (nI i + 1).toNatClampNeg)]) (rest := []) ⟨hx, hb, hml, hown, hts⟩ (c_X10_image hi (xs (nI i + 1).toNatClampNeg) σ (fun r σ' => V_X11_image (xs (nI i + 1).toNatClampNeg) τ (fun r' τ' => r = r' ∧ J σ' τ')) (p_image hJ) H.size) (cwV 1 (fun w h => hts w (iv_X10_image w h)) gv_X10_image rfl rfl rfl (by decide +kernel) ⟨(Nat.le_of_ble_eq_true rfl), (Nat.le_of_ble_eq_true rfl)⟩) ⟨pre_blind, r_recv hKN.1.1 hPX 0 (by decide) (ceGR_0 (σ 0)) rfl, pre_of hPX hKN.1⟩ rfl rfl hl.1 rfl (lv_room (Nat.le_of_ble_eq_true rfl)) dL_law_1059 ⟨(Nat.le_of_ble_eq_true rfl), (Nat.le_of_ble_eq_true rfl)⟩) hPM hS hda hne (fun r u H locs hw hPX hPM hS => ?_)
  refine lv_aload_n hx hb dL_law_1062 rfl (lv_at hl 1 rfl) ?_
  refine lv_aload_n hx hb dL_law_1063 rfl (lv_at hl 3 rfl) ?_
  refine lv_iload_n hx hb dL_law_1064 rfl (lv_at hl 0 rfl) ?_
  refine lv_iconst (v := 1) hx hb dL_law_1065 (by decide) ?_
  refine lv_iadd hx hb dL_law_1066 ?_
  refine va_sld hx hb hX hbl hbA hS (hin 1 (by omega)) dL_law_1067 ?_
  refine lm_ci (va_runV (As := [.int (xs (nI i + 1).toNatClampNeg)]) (rest := [.int r]) ⟨hx, hb, hml, hown, hts⟩ (c_X11_image hj (xs (nI i + 1).toNatClampNeg) τ (fun r' τ' => r = r' ∧ J u τ') hw H.size) (cwV 1 (fun w h => hts w (iv_X11_image w h)) gv_X11_image rfl rfl rfl (by decide +kernel) ⟨(Nat.le_of_ble_eq_true rfl), (Nat.le_of_ble_eq_true rfl)⟩) ⟨pre_blind, r_recv hKN.1.1 hPM 0 (by decide) (ceMo_0 (τ 0)) rfl, pre_of hPM hKN.1⟩ rfl rfl hl.1 rfl (lv_room (Nat.le_of_ble_eq_true rfl)) dL_law_1068 ⟨(Nat.le_of_ble_eq_true rfl), (Nat.le_of_ble_eq_true rfl)⟩) hPX hS hdb hne (fun r2 w H locs hw2 hPX hPM hS => ?_)
  refine lv_icmp_eq (tgt := 1159) hx hb dL_law_1071 (by decide) (fun _ => ?_) (fun c9 => absurd hw2.1 c9)
  exact kk u w H locs hw2.2 hPX hPM hS
set_option maxHeartbeats 4000000 in
set_option maxRecDepth 100000 in
theorem lc_33 (C : LC p s m meth c b L xs dC dI cA cZ ad bd adK adV) (hJ : J σ τ) (hPX : PX dC dI cA ad σ H) (hPM : PM dC dI cA cZ bd τ H) (hS : va_S (La s) s.heap H locs) (hl : lv_has ls 4 [(3, .int (nI i)), (2, .ref (bd 0)), (1, .ref (ad 0)), (0, .ref b)]) (hi5 : i + 5 ≤ L) (kk : ∀ (u w : St) (H : Heap) (locs : List Loc), J u w → PX dC dI cA ad u H → PM dC dI cA cZ bd w H → va_S (La s) s.heap H locs → W p l e room_1 s m #[Value.ref b] below meth c H locs 93 2201 Z (F0 m 1159 ls [])) : W p l e room_1 s m #[Value.ref b] below meth c H locs 93 2201 Z (F0 m 1076 ls []) := by
  obtain ⟨⟨hx, hb, hml, hown, hts⟩, ⟨hX, hbl, hL⟩, hKN, ⟨hZ, hR⟩, hi, hj, hda, hdb, hne⟩ := C
  have hbA : ¬ La s b := Nat.not_le.mpr hbl
  have hin : ∀ k, k < 5 → vp_in (nI i + nI k) L := fun k hk => by rw [nI_add]; exact vp_in_nI (by omega) (by omega)
  refine lv_aload_n hx hb dL_law_1076 rfl (lv_at hl 2 rfl) ?_
  refine lv_aload_n hx hb dL_law_1077 rfl (lv_at hl 3 rfl) ?_
  refine lv_iload_n hx hb dL_law_1078 rfl (lv_at hl 0 rfl) ?_
  refine lv_iconst (v := 1) hx hb dL_law_1079 (by decide) ?_
  refine lv_iadd hx hb dL_law_1080 ?_
  refine va_sld hx hb hX hbl hbA hS (hin 1 (by omega)) dL_law_1081 ?_
  refine lx_ci (va_runV (As := [.int (xs (nI i + 1).toNatClampNeg)]) (rest := []) ⟨hx, hb, hml, hown, hts⟩ (c_X10_from hi (xs (nI i + 1).toNatClampNeg) σ (fun r σ' => V_X11_from (xs (nI i + 1).toNatClampNeg) τ (fun r' τ' => r = r' ∧ J σ' τ')) (p_from hJ) H.size) (cwV 1 (fun w h => hts w (iv_X10_from w h)) gv_X10_from rfl rfl rfl (by decide +kernel) ⟨(Nat.le_of_ble_eq_true rfl), (Nat.le_of_ble_eq_true rfl)⟩) ⟨pre_blind, r_recv hKN.1.1 hPX 0 (by decide) (ceGR_0 (σ 0)) rfl, pre_of hPX hKN.1⟩ rfl rfl hl.1 rfl (lv_room (Nat.le_of_ble_eq_true rfl)) dL_law_1082 ⟨(Nat.le_of_ble_eq_true rfl), (Nat.le_of_ble_eq_true rfl)⟩) hPM hS hda hne (fun r u H locs hw hPX hPM hS => ?_)
  refine lv_aload_n hx hb dL_law_1085 rfl (lv_at hl 1 rfl) ?_
  refine lv_aload_n hx hb dL_law_1086 rfl (lv_at hl 3 rfl) ?_
  refine lv_iload_n hx hb dL_law_1087 rfl (lv_at hl 0 rfl) ?_
  refine lv_iconst (v := 1) hx hb dL_law_1088 (by decide) ?_
  refine lv_iadd hx hb dL_law_1089 ?_
  refine va_sld hx hb hX hbl hbA hS (hin 1 (by omega)) dL_law_1090 ?_
  refine lm_ci (va_runV (As := [.int (xs (nI i + 1).toNatClampNeg)]) (rest := [.int r]) ⟨hx, hb, hml, hown, hts⟩ (c_X11_from hj (xs (nI i + 1).toNatClampNeg) τ (fun r' τ' => r = r' ∧ J u τ') hw H.size) (cwV 1 (fun w h => hts w (iv_X11_from w h)) gv_X11_from rfl rfl rfl (by decide +kernel) ⟨(Nat.le_of_ble_eq_true rfl), (Nat.le_of_ble_eq_true rfl)⟩) ⟨pre_blind, r_recv hKN.1.1 hPM 0 (by decide) (ceMo_0 (τ 0)) rfl, pre_of hPM hKN.1⟩ rfl rfl hl.1 rfl (lv_room (Nat.le_of_ble_eq_true rfl)) dL_law_1091 ⟨(Nat.le_of_ble_eq_true rfl), (Nat.le_of_ble_eq_true rfl)⟩) hPX hS hdb hne (fun r2 w H locs hw2 hPX hPM hS => ?_)
  refine lv_icmp_eq (tgt := 1159) hx hb dL_law_1094 (by decide) (fun _ => ?_) (fun c9 => absurd hw2.1 c9)
  exact kk u w H locs hw2.2 hPX hPM hS
set_option maxHeartbeats 4000000 in
set_option maxRecDepth 100000 in
theorem lc_34 (C : LC p s m meth c b L xs dC dI cA cZ ad bd adK adV) (hJ : J σ τ) (hPX : PX dC dI cA ad σ H) (hPM : PM dC dI cA cZ bd τ H) (hS : va_S (La s) s.heap H locs) (hl : lv_has ls 4 [(3, .int (nI i)), (2, .ref (bd 0)), (1, .ref (ad 0)), (0, .ref b)]) (hi5 : i + 5 ≤ L) (kk : ∀ (u w : St) (H : Heap) (locs : List Loc), J u w → PX dC dI cA ad u H → PM dC dI cA cZ bd w H → va_S (La s) s.heap H locs → W p l e room_1 s m #[Value.ref b] below meth c H locs 93 2201 Z (F0 m 1159 ls [])) : W p l e room_1 s m #[Value.ref b] below meth c H locs 93 2201 Z (F0 m 1099 ls []) := by
  obtain ⟨⟨hx, hb, hml, hown, hts⟩, ⟨hX, hbl, hL⟩, hKN, ⟨hZ, hR⟩, hi, hj, hda, hdb, hne⟩ := C
  have hbA : ¬ La s b := Nat.not_le.mpr hbl
  have hin : ∀ k, k < 5 → vp_in (nI i + nI k) L := fun k hk => by rw [nI_add]; exact vp_in_nI (by omega) (by omega)
  refine lv_aload_n hx hb dL_law_1099 rfl (lv_at hl 2 rfl) ?_
  refine lv_aload_n hx hb dL_law_1100 rfl (lv_at hl 3 rfl) ?_
  refine lv_iload_n hx hb dL_law_1101 rfl (lv_at hl 0 rfl) ?_
  refine lv_iconst (v := 1) hx hb dL_law_1102 (by decide) ?_
  refine lv_iadd hx hb dL_law_1103 ?_
  refine va_sld hx hb hX hbl hbA hS (hin 1 (by omega)) dL_law_1104 ?_
  refine lx_ci (va_runV (As := [.int (xs (nI i + 1).toNatClampNeg)]) (rest := []) ⟨hx, hb, hml, hown, hts⟩ (c_X10_status hi (xs (nI i + 1).toNatClampNeg) σ (fun r σ' => V_X11_status (xs (nI i + 1).toNatClampNeg) τ (fun r' τ' => r = r' ∧ J σ' τ')) (p_status hJ) H.size) (cwV 1 (fun w h => hts w (iv_X10_status w h)) gv_X10_status rfl rfl rfl (by decide +kernel) ⟨(Nat.le_of_ble_eq_true rfl), (Nat.le_of_ble_eq_true rfl)⟩) ⟨pre_blind, r_recv hKN.1.1 hPX 0 (by decide) (ceGR_0 (σ 0)) rfl, pre_of hPX hKN.1⟩ rfl rfl hl.1 rfl (lv_room (Nat.le_of_ble_eq_true rfl)) dL_law_1105 ⟨(Nat.le_of_ble_eq_true rfl), (Nat.le_of_ble_eq_true rfl)⟩) hPM hS hda hne (fun r u H locs hw hPX hPM hS => ?_)
  refine lv_aload_n hx hb dL_law_1108 rfl (lv_at hl 1 rfl) ?_
  refine lv_aload_n hx hb dL_law_1109 rfl (lv_at hl 3 rfl) ?_
  refine lv_iload_n hx hb dL_law_1110 rfl (lv_at hl 0 rfl) ?_
  refine lv_iconst (v := 1) hx hb dL_law_1111 (by decide) ?_
  refine lv_iadd hx hb dL_law_1112 ?_
  refine va_sld hx hb hX hbl hbA hS (hin 1 (by omega)) dL_law_1113 ?_
  refine lm_ci (va_runV (As := [.int (xs (nI i + 1).toNatClampNeg)]) (rest := [.int r]) ⟨hx, hb, hml, hown, hts⟩ (c_X11_status hj (xs (nI i + 1).toNatClampNeg) τ (fun r' τ' => r = r' ∧ J u τ') hw H.size) (cwV 1 (fun w h => hts w (iv_X11_status w h)) gv_X11_status rfl rfl rfl (by decide +kernel) ⟨(Nat.le_of_ble_eq_true rfl), (Nat.le_of_ble_eq_true rfl)⟩) ⟨pre_blind, r_recv hKN.1.1 hPM 0 (by decide) (ceMo_0 (τ 0)) rfl, pre_of hPM hKN.1⟩ rfl rfl hl.1 rfl (lv_room (Nat.le_of_ble_eq_true rfl)) dL_law_1114 ⟨(Nat.le_of_ble_eq_true rfl), (Nat.le_of_ble_eq_true rfl)⟩) hPX hS hdb hne (fun r2 w H locs hw2 hPX hPM hS => ?_)
  refine lv_icmp_eq (tgt := 1159) hx hb dL_law_1117 (by decide) (fun _ => ?_) (fun c9 => absurd hw2.1 c9)
  exact kk u w H locs hw2.2 hPX hPM hS
set_option maxHeartbeats 4000000 in
set_option maxRecDepth 100000 in
theorem lc_35 (C : LC p s m meth c b L xs dC dI cA cZ ad bd adK adV) (hJ : J σ τ) (hPX : PX dC dI cA ad σ H) (hPM : PM dC dI cA cZ bd τ H) (hS : va_S (La s) s.heap H locs) (hl : lv_has ls 4 [(3, .int (nI i)), (2, .ref (bd 0)), (1, .ref (ad 0)), (0, .ref b)]) (hi5 : i + 5 ≤ L) (kk : ∀ (u w : St) (H : Heap) (locs : List Loc), J u w → PX dC dI cA ad u H → PM dC dI cA cZ bd w H → va_S (La s) s.heap H locs → W p l e room_1 s m #[Value.ref b] below meth c H locs 93 2201 Z (F0 m 1159 ls [])) : W p l e room_1 s m #[Value.ref b] below meth c H locs 93 2201 Z (F0 m 1122 ls []) := by
  obtain ⟨⟨hx, hb, hml, hown, hts⟩, ⟨hX, hbl, hL⟩, hKN, ⟨hZ, hR⟩, hi, hj, hda, hdb, hne⟩ := C
  have hbA : ¬ La s b := Nat.not_le.mpr hbl
  have hin : ∀ k, k < 5 → vp_in (nI i + nI k) L := fun k hk => by rw [nI_add]; exact vp_in_nI (by omega) (by omega)
  refine lv_aload_n hx hb dL_law_1122 rfl (lv_at hl 2 rfl) ?_
  refine lv_aload_n hx hb dL_law_1123 rfl (lv_at hl 3 rfl) ?_
  refine lv_iload_n hx hb dL_law_1124 rfl (lv_at hl 0 rfl) ?_
  refine lv_iconst (v := 1) hx hb dL_law_1125 (by decide) ?_
  refine lv_iadd hx hb dL_law_1126 ?_
  refine va_sld hx hb hX hbl hbA hS (hin 1 (by omega)) dL_law_1127 ?_
  refine lx_ci (va_runV (As := [.int (xs (nI i + 1).toNatClampNeg)]) (rest := []) ⟨hx, hb, hml, hown, hts⟩ (c_X10_count hi (xs (nI i + 1).toNatClampNeg) σ (fun r σ' => V_X11_count (xs (nI i + 1).toNatClampNeg) τ (fun r' τ' => r = r' ∧ J σ' τ')) (p_count hJ) H.size) (cwV 1 (fun w h => hts w (iv_X10_count w h)) gv_X10_count rfl rfl rfl (by decide +kernel) ⟨(Nat.le_of_ble_eq_true rfl), (Nat.le_of_ble_eq_true rfl)⟩) ⟨pre_blind, r_recv hKN.1.1 hPX 0 (by decide) (ceGR_0 (σ 0)) rfl, pre_of hPX hKN.1⟩ rfl rfl hl.1 rfl (lv_room (Nat.le_of_ble_eq_true rfl)) dL_law_1128 ⟨(Nat.le_of_ble_eq_true rfl), (Nat.le_of_ble_eq_true rfl)⟩) hPM hS hda hne (fun r u H locs hw hPX hPM hS => ?_)
  refine lv_aload_n hx hb dL_law_1131 rfl (lv_at hl 1 rfl) ?_
  refine lv_aload_n hx hb dL_law_1132 rfl (lv_at hl 3 rfl) ?_
  refine lv_iload_n hx hb dL_law_1133 rfl (lv_at hl 0 rfl) ?_
  refine lv_iconst (v := 1) hx hb dL_law_1134 (by decide) ?_
  refine lv_iadd hx hb dL_law_1135 ?_
  refine va_sld hx hb hX hbl hbA hS (hin 1 (by omega)) dL_law_1136 ?_
  refine lm_ci (va_runV (As := [.int (xs (nI i + 1).toNatClampNeg)]) (rest := [.int r]) ⟨hx, hb, hml, hown, hts⟩ (c_X11_count hj (xs (nI i + 1).toNatClampNeg) τ (fun r' τ' => r = r' ∧ J u τ') hw H.size) (cwV 1 (fun w h => hts w (iv_X11_count w h)) gv_X11_count rfl rfl rfl (by decide +kernel) ⟨(Nat.le_of_ble_eq_true rfl), (Nat.le_of_ble_eq_true rfl)⟩) ⟨pre_blind, r_recv hKN.1.1 hPM 0 (by decide) (ceMo_0 (τ 0)) rfl, pre_of hPM hKN.1⟩ rfl rfl hl.1 rfl (lv_room (Nat.le_of_ble_eq_true rfl)) dL_law_1137 ⟨(Nat.le_of_ble_eq_true rfl), (Nat.le_of_ble_eq_true rfl)⟩) hPX hS hdb hne (fun r2 w H locs hw2 hPX hPM hS => ?_)
  refine lv_icmp_eq (tgt := 1159) hx hb dL_law_1140 (by decide) (fun _ => ?_) (fun c9 => absurd hw2.1 c9)
  exact kk u w H locs hw2.2 hPX hPM hS
set_option maxHeartbeats 4000000 in
set_option maxRecDepth 100000 in
theorem lc_36 (C : LC p s m meth c b L xs dC dI cA cZ ad bd adK adV) (hJ : J σ τ) (hPX : PX dC dI cA ad σ H) (hPM : PM dC dI cA cZ bd τ H) (hS : va_S (La s) s.heap H locs) (hl : lv_has ls 4 [(3, .int (nI i)), (2, .ref (bd 0)), (1, .ref (ad 0)), (0, .ref b)]) (hi5 : i + 5 ≤ L) (kk : ∀ (u w : St) (H : Heap) (locs : List Loc), J u w → PX dC dI cA ad u H → PM dC dI cA cZ bd w H → va_S (La s) s.heap H locs → W p l e room_1 s m #[Value.ref b] below meth c H locs 93 2201 Z (F0 m 1159 ls [])) : W p l e room_1 s m #[Value.ref b] below meth c H locs 93 2201 Z (F0 m 1145 ls []) := by
  obtain ⟨⟨hx, hb, hml, hown, hts⟩, ⟨hX, hbl, hL⟩, hKN, ⟨hZ, hR⟩, hi, hj, hda, hdb, hne⟩ := C
  have hbA : ¬ La s b := Nat.not_le.mpr hbl
  have hin : ∀ k, k < 5 → vp_in (nI i + nI k) L := fun k hk => by rw [nI_add]; exact vp_in_nI (by omega) (by omega)
  refine lv_aload_n hx hb dL_law_1145 rfl (lv_at hl 2 rfl) ?_
  refine lx_cl (va_runV (As := []) (rest := []) ⟨hx, hb, hml, hown, hts⟩ (c_X10_digest hi  σ (fun r σ' => V_X11_digest  τ (fun r' τ' => r = r' ∧ J σ' τ')) (p_digest hJ) H.size) (cwV 0 (fun w h => hts w (iv_X10_digest w h)) gv_X10_digest rfl rfl rfl (by decide +kernel) ⟨(Nat.le_of_ble_eq_true rfl), (Nat.le_of_ble_eq_true rfl)⟩) ⟨pre_blind, r_recv hKN.1.1 hPX 0 (by decide) (ceGR_0 (σ 0)) rfl, pre_of hPX hKN.1⟩ rfl rfl hl.1 rfl (lv_room (Nat.le_of_ble_eq_true rfl)) dL_law_1146 ⟨(Nat.le_of_ble_eq_true rfl), (Nat.le_of_ble_eq_true rfl)⟩) hPM hS hda hne (fun r u H locs hw hPX hPM hS => ?_)
  refine lv_aload_n hx hb dL_law_1149 rfl (lv_at hl 1 rfl) ?_
  refine lm_cl (va_runV (As := []) (rest := [.long r]) ⟨hx, hb, hml, hown, hts⟩ (c_X11_digest hj  τ (fun r' τ' => r = r' ∧ J u τ') hw H.size) (cwV 0 (fun w h => hts w (iv_X11_digest w h)) gv_X11_digest rfl rfl rfl (by decide +kernel) ⟨(Nat.le_of_ble_eq_true rfl), (Nat.le_of_ble_eq_true rfl)⟩) ⟨pre_blind, r_recv hKN.1.1 hPM 0 (by decide) (ceMo_0 (τ 0)) rfl, pre_of hPM hKN.1⟩ rfl rfl hl.1 rfl (lv_room (Nat.le_of_ble_eq_true rfl)) dL_law_1150 ⟨(Nat.le_of_ble_eq_true rfl), (Nat.le_of_ble_eq_true rfl)⟩) hPX hS hdb hne (fun r2 w H locs hw2 hPX hPM hS => ?_)
  refine W.lcmp hx hb dL_law_1153 ?_
  refine lv_if_eq (tgt := 1159) hx hb dL_law_1154 (by decide) (fun _ => ?_) (fun c9 => absurd (lcmp_eq hw2.1) c9)
  exact kk u w H locs hw2.2 hPX hPM hS
end LW
