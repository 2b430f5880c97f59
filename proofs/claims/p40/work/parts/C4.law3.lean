set_option maxHeartbeats 8000000 in
set_option maxRecDepth 100000 in
theorem w_L_law_870 {p : Program} {l : Launch} {e : Env} {s : State} {m : MethodId} {below : List Frame} {meth : Method} {c : Code} {dC : Nat → ClassId} {dI : Nat → Nat → Nat} {cA cZ : ClassId} {b L : Nat} {xs : Nat → Int32} (C0 : LC p s m meth c b L xs dC dI cA cZ) (Y : Nat → List Int32 → List Int64 → St → Prop) (hY : ∀ P xs ys σ, Y P xs ys σ → XW p l e s m below meth c b dC dI cA P xs ys σ) (x3 : Int32) (x4 : Int32) (x5 : Int32) (x6 : Int32) (x7 : Int32) (x8 : Int32) (x18 : Int32) (x20 : Int32) (x21 : Int32) (t0 : Int32) (t1 : Int32) (s0 : St) (hv : B_L_law_870 L xs Y x3 x4 x5 x6 x7 x8 x18 x20 x21 t0 t1 s0) {ad : Nat → Nat} (hi : Inj 85 ad) (hda : ∀ k, k < 85 → La s (ad k)) {H : Heap} {locs : List Loc} {ls : Array Slot} (hP : va_P (dC, dI) vwCl (wd 85 ad (celL ad cA) s0) H) (hS : va_S (La s) s.heap H locs) (hl : lv_has ls 32 [(0, .ref b), (1, .ref (ad 0)), (2, .ref (ad 81)), (3, .int x3), (4, .int x4), (5, .int x5), (6, .int x6), (7, .int x7), (8, .int x8), (11, .ref (ad 82)), (18, .int x18), (20, .int x20), (21, .int x21)]) : W p l e room_1 s m #[Value.ref b] below meth c H locs (220) (2200) (lw_Z below #[Value.ref b] s) (F0 m 870 ls [.int t0, .int t1]) := by
  obtain ⟨⟨hx, hb, hml, hown, hts, hr, hlocks⟩, hX, hbl, hK⟩ := C0
  have hbA : ¬ La s b := Nat.not_le.mpr hbl
  have hA2 : ∀ q, s.heap.size ≤ q → La s q := fun _ h => h
  have hD := wd_Dg (A := La s) (cel := celL ad cA) (σ := s0) hi hda
  unfold B_L_law_870 at hv
  refine lv_iadd hx hb dL_law_870 ?_
  refine lv_istore (lv' := [(19, .int (t1 + t0)), (0, .ref b), (1, .ref (ad 0)), (2, .ref (ad 81)), (3, .int x3), (4, .int x4), (5, .int x5), (6, .int x6), (7, .int x7), (8, .int x8), (11, .ref (ad 82)), (18, .int x18), (20, .int x20), (21, .int x21)]) hx hb dL_law_871 hl (by decide) rfl (fun ls hl => ?_)
  refine lv_iload hx hb dL_law_873 (lv_at hl 13 rfl) ?_
  refine lv_iconst (v := (-1)) hx hb dL_law_875 (by decide) ?_
  refine lv_icmp_lt (tgt := 960) hx hb dL_law_876 (by decide) (fun c876 => ?_) (fun c876 => ?_)
  · have hv := hv.1 c876
    refine lv_iconst (v := 0) hx hb dL_law_960 (by decide) ?_
    exact hv.elim
  · have hv := hv.2 c876
    refine lv_iload hx hb dL_law_879 (lv_at hl 13 rfl) ?_
    refine lv_iload_n hx hb dL_law_881 rfl (lv_at hl 4 rfl) ?_
    refine lv_icmp_ge (tgt := 960) hx hb dL_law_882 (by decide) (fun c882 => ?_) (fun c882 => ?_)
    · have hv := hv.1 c882
      refine lv_iconst (v := 0) hx hb dL_law_960 (by decide) ?_
      exact hv.elim
    · have hv := hv.2 c882
      refine lv_iload hx hb dL_law_885 (lv_at hl 13 rfl) ?_
      refine lv_iload hx hb dL_law_887 (lv_at hl 12 rfl) ?_
      refine lv_icmp_eq (tgt := 960) hx hb dL_law_889 (by decide) (fun c889 => ?_) (fun c889 => ?_)
      · have hv := hv.1 c889
        refine lv_iconst (v := 0) hx hb dL_law_960 (by decide) ?_
        exact hv.elim
      · have hv := hv.2 c889
        refine lv_iload hx hb dL_law_892 (lv_at hl 13 rfl) ?_
        refine lv_if_lt (tgt := 962) hx hb dL_law_894 (by decide) (fun c894 => ?_) (fun c894 => ?_)
        · have hv := hv.1 c894
          refine lv_iconst (v := 0) hx hb dL_law_962 (by decide) ?_
          refine lv_istore (lv' := [(22, .int 0), (19, .int (t1 + t0)), (0, .ref b), (1, .ref (ad 0)), (2, .ref (ad 81)), (3, .int x3), (4, .int x4), (5, .int x5), (6, .int x6), (7, .int x7), (8, .int x8), (11, .ref (ad 82)), (18, .int x18), (20, .int x20), (21, .int x21)]) hx hb dL_law_963 hl (by decide) rfl (fun ls hl => ?_)
          exact hY 965 [x3, x4, x5, x6, x7, x8, x18, t1 + t0, x20, x21, 0] [] s0 hv _ _ _ _ _ rfl ad H locs ls hi hda hP hS (lv_sub hl [2, 3, 4, 5, 6, 7, 8, 9, 10, 11, 12, 1, 13, 14, 0] rfl)
        · have hv := hv.2 c894
          refine lv_aload_n hx hb dL_law_897 rfl (lv_at hl 2 rfl) ?_
          refine lv_iload hx hb dL_law_898 (lv_at hl 13 rfl) ?_
          refine r_lci hi hP hS (aa_A (by decide) hda hA2 hS) (va_runV (As := [.int x21]) (rest := []) ⟨hx, hb, hml, hown, hts⟩ (c_X10_pairs (inj_le (by decide) hi) x21 _ _ hv H.size) (cwV 1 (fun w h => hts w (iv_X10_pairs_72 w h)) gv_X10_pairs_72 rfl rfl rfl (by decide +kernel) ⟨(Nat.le_of_ble_eq_true rfl), (Nat.le_of_ble_eq_true rfl)⟩) ⟨pre_blind, r_recv hK.1 (wd_cls (by decide) hP) 0 (by decide) (ceGR_0 (s0 0)) rfl, pre_of (wd_cls (by decide) hP) hK⟩ rfl rfl hl.1 rfl (lv_room (Nat.le_of_ble_eq_true rfl)) dL_law_900 ⟨Nat.le_trans (by omega : _ ≤ 300) (Nat.le_of_ble_eq_true rfl), Nat.le_trans (by omega : _ ≤ 3000) (Nat.le_of_ble_eq_true rfl)⟩) (fun r1 s1 H locs hv hP hS => ?_)
          have hD := wd_Dg (A := La s) (cel := celL ad cA) (σ := s1) hi hda
          refine lv_iload hx hb dL_law_903 (lv_at hl 12 rfl) ?_
          refine lv_icmp_ne (tgt := 960) hx hb dL_law_905 (by decide) (fun c905 => ?_) (fun c905 => ?_)
          · have hv := hv.1 c905
            refine lv_iconst (v := 0) hx hb dL_law_960 (by decide) ?_
            exact hv.elim
          · have hv := hv.2 c905
            refine lv_aload_n hx hb dL_law_908 rfl (lv_at hl 3 rfl) ?_
            refine lv_bipush (v := 10) hx hb dL_law_909 (by decide) ?_
            refine lv_iload hx hb dL_law_911 (lv_at hl 13 rfl) ?_
            refine lv_iadd hx hb dL_law_913 ?_
            obtain ⟨hin, hv⟩ := hv
            refine r_iald hx hb hK.1 hP 81 (by decide) (ceL_81 (s1 81)) hin dL_law_914 ?_
            refine lv_aload_n hx hb dL_law_915 rfl (lv_at hl 3 rfl) ?_
            refine lv_bipush (v := 10) hx hb dL_law_916 (by decide) ?_
            refine lv_iload hx hb dL_law_918 (lv_at hl 12 rfl) ?_
            refine lv_iadd hx hb dL_law_920 ?_
            obtain ⟨hin, hv⟩ := hv
            refine r_iald hx hb hK.1 hP 81 (by decide) (ceL_81 (s1 81)) hin dL_law_921 ?_
            refine lv_icmp_ne (tgt := 960) hx hb dL_law_922 (by decide) (fun c922 => ?_) (fun c922 => ?_)
            · have hv := hv.1 c922
              refine lv_iconst (v := 0) hx hb dL_law_960 (by decide) ?_
              exact hv.elim
            · have hv := hv.2 c922
              refine lv_aload_n hx hb dL_law_925 rfl (lv_at hl 3 rfl) ?_
              refine lv_bipush (v := 18) hx hb dL_law_926 (by decide) ?_
              refine lv_iload hx hb dL_law_928 (lv_at hl 12 rfl) ?_
              refine lv_iadd hx hb dL_law_930 ?_
              obtain ⟨hin, hv⟩ := hv
              refine r_iald hx hb hK.1 hP 81 (by decide) (ceL_81 (s1 81)) hin dL_law_931 ?_
              refine lv_aload_n hx hb dL_law_932 rfl (lv_at hl 3 rfl) ?_
              refine lv_bipush (v := 18) hx hb dL_law_933 (by decide) ?_
              refine lv_iload hx hb dL_law_935 (lv_at hl 13 rfl) ?_
              refine lv_iadd hx hb dL_law_937 ?_
              obtain ⟨hin, hv⟩ := hv
              refine r_iald hx hb hK.1 hP 81 (by decide) (ceL_81 (s1 81)) hin dL_law_938 ?_
              refine lv_isub hx hb dL_law_939 ?_
              refine lv_aload_n hx hb dL_law_940 rfl (lv_at hl 3 rfl) ?_
              refine lv_bipush (v := 18) hx hb dL_law_941 (by decide) ?_
              refine lv_iload hx hb dL_law_943 (lv_at hl 12 rfl) ?_
              refine lv_iadd hx hb dL_law_945 ?_
              obtain ⟨hin, hv⟩ := hv
              refine r_iald hx hb hK.1 hP 81 (by decide) (ceL_81 (s1 81)) hin dL_law_946 ?_
              refine lv_aload_n hx hb dL_law_947 rfl (lv_at hl 3 rfl) ?_
              refine lv_bipush (v := 18) hx hb dL_law_948 (by decide) ?_
              refine lv_iload hx hb dL_law_950 (lv_at hl 13 rfl) ?_
              refine lv_iadd hx hb dL_law_952 ?_
              obtain ⟨hin, hv⟩ := hv
              refine r_iald hx hb hK.1 hP 81 (by decide) (ceL_81 (s1 81)) hin dL_law_953 ?_
              refine lv_isub hx hb dL_law_954 ?_
              refine lv_imul hx hb dL_law_955 ?_
              refine lv_iconst (v := 1) hx hb dL_law_956 (by decide) ?_
              refine lv_icmp_le (tgt := 962) hx hb dL_law_957 (by decide) (fun c957 => ?_) (fun c957 => ?_)
              · have hv := hv.1 c957
                refine lv_iconst (v := 0) hx hb dL_law_962 (by decide) ?_
                refine lv_istore (lv' := [(22, .int 0), (19, .int (t1 + t0)), (0, .ref b), (1, .ref (ad 0)), (2, .ref (ad 81)), (3, .int x3), (4, .int x4), (5, .int x5), (6, .int x6), (7, .int x7), (8, .int x8), (11, .ref (ad 82)), (18, .int x18), (20, .int x20), (21, .int x21)]) hx hb dL_law_963 hl (by decide) rfl (fun ls hl => ?_)
                exact hY 965 [x3, x4, x5, x6, x7, x8, x18, t1 + t0, x20, x21, 0] [] s1 hv _ _ _ _ _ rfl ad H locs ls hi hda hP hS (lv_sub hl [2, 3, 4, 5, 6, 7, 8, 9, 10, 11, 12, 1, 13, 14, 0] rfl)
              · have hv := hv.2 c957
                refine lv_iconst (v := 0) hx hb dL_law_960 (by decide) ?_
                exact hv.elim
set_option maxHeartbeats 8000000 in
set_option maxRecDepth 100000 in
theorem w_L_law_965 {p : Program} {l : Launch} {e : Env} {s : State} {m : MethodId} {below : List Frame} {meth : Method} {c : Code} {dC : Nat → ClassId} {dI : Nat → Nat → Nat} {cA cZ : ClassId} {b L : Nat} {xs : Nat → Int32} (C0 : LC p s m meth c b L xs dC dI cA cZ) (Y : Nat → List Int32 → List Int64 → St → Prop) (hY : ∀ P xs ys σ, Y P xs ys σ → XW p l e s m below meth c b dC dI cA P xs ys σ) (x3 : Int32) (x4 : Int32) (x5 : Int32) (x6 : Int32) (x7 : Int32) (x8 : Int32) (x18 : Int32) (x19 : Int32) (x20 : Int32) (x21 : Int32) (x22 : Int32) (s0 : St) (hv : B_L_law_965 L xs Y x3 x4 x5 x6 x7 x8 x18 x19 x20 x21 x22 s0) {ad : Nat → Nat} (hi : Inj 85 ad) (hda : ∀ k, k < 85 → La s (ad k)) {H : Heap} {locs : List Loc} {ls : Array Slot} (hP : va_P (dC, dI) vwCl (wd 85 ad (celL ad cA) s0) H) (hS : va_S (La s) s.heap H locs) (hl : lv_has ls 32 [(0, .ref b), (1, .ref (ad 0)), (2, .ref (ad 81)), (3, .int x3), (4, .int x4), (5, .int x5), (6, .int x6), (7, .int x7), (8, .int x8), (11, .ref (ad 82)), (18, .int x18), (19, .int x19), (20, .int x20), (21, .int x21), (22, .int x22)]) : W p l e room_1 s m #[Value.ref b] below meth c H locs (220) (2200) (lw_Z below #[Value.ref b] s) (F0 m 965 ls []) := by
  obtain ⟨⟨hx, hb, hml, hown, hts, hr, hlocks⟩, hX, hbl, hK⟩ := C0
  have hbA : ¬ La s b := Nat.not_le.mpr hbl
  have hA2 : ∀ q, s.heap.size ≤ q → La s q := fun _ h => h
  have hD := wd_Dg (A := La s) (cel := celL ad cA) (σ := s0) hi hda
  unfold B_L_law_965 at hv
  refine lv_iload hx hb dL_law_965 (lv_at hl 14 rfl) ?_
  refine lv_iload hx hb dL_law_967 (lv_at hl 12 rfl) ?_
  refine lv_icmp_ge (tgt := 1049) hx hb dL_law_969 (by decide) (fun c969 => ?_) (fun c969 => ?_)
  · have hv := hv.1 c969
    refine lv_iinc (v := x20 + 1) (lv' := [(20, .int (x20 + 1)), (0, .ref b), (1, .ref (ad 0)), (2, .ref (ad 81)), (3, .int x3), (4, .int x4), (5, .int x5), (6, .int x6), (7, .int x7), (8, .int x8), (11, .ref (ad 82)), (18, .int x18), (19, .int x19), (21, .int x21), (22, .int x22)]) hx hb dL_law_1049 hl (k := 12) rfl rfl (by decide) rfl (fun ls hl => ?_)
    refine lv_goto (tgt := 844) hx hb dL_law_1052 (by decide) ?_
    exact hY 844 [x3, x4, x5, x6, x7, x8, x18, x19, x20 + 1] [] s0 hv _ _ _ _ _ rfl ad H locs ls hi hda hP hS (lv_sub hl [1, 2, 3, 4, 5, 6, 7, 8, 9, 10, 11, 12, 0] rfl)
  · have hv := hv.2 c969
    refine lv_iload hx hb dL_law_972 (lv_at hl 13 rfl) ?_
    refine lv_if_ge (tgt := 990) hx hb dL_law_974 (by decide) (fun c974 => ?_) (fun c974 => ?_)
    · have hv := hv.1 c974
      refine lv_iconst (v := 0) hx hb dL_law_990 (by decide) ?_
      exact hY 991 [x3, x4, x5, x6, x7, x8, x18, x19, x20, x21, x22, 0] [] s0 hv _ _ _ _ _ rfl ad H locs ls hi hda hP hS (lv_sub hl [0, 1, 2, 3, 4, 5, 6, 7, 8, 9, 10, 11, 12, 13, 14] rfl)
    · have hv := hv.2 c974
      refine lv_aload_n hx hb dL_law_977 rfl (lv_at hl 1 rfl) ?_
      refine lv_iload hx hb dL_law_978 (lv_at hl 14 rfl) ?_
      refine r_lci hi hP hS (aa_A (by decide) hda hA2 hS) (va_runV (As := [.int x22]) (rest := []) ⟨hx, hb, hml, hown, hts⟩ (c_X10_pairs (inj_le (by decide) hi) x22 _ _ hv H.size) (cwV 1 (fun w h => hts w (iv_X10_pairs_72 w h)) gv_X10_pairs_72 rfl rfl rfl (by decide +kernel) ⟨(Nat.le_of_ble_eq_true rfl), (Nat.le_of_ble_eq_true rfl)⟩) ⟨pre_blind, r_recv hK.1 (wd_cls (by decide) hP) 0 (by decide) (ceGR_0 (s0 0)) rfl, pre_of (wd_cls (by decide) hP) hK⟩ rfl rfl hl.1 rfl (lv_room (Nat.le_of_ble_eq_true rfl)) dL_law_980 ⟨Nat.le_trans (by omega : _ ≤ 300) (Nat.le_of_ble_eq_true rfl), Nat.le_trans (by omega : _ ≤ 3000) (Nat.le_of_ble_eq_true rfl)⟩) (fun r1 s1 H locs hv hP hS => ?_)
      have hD := wd_Dg (A := La s) (cel := celL ad cA) (σ := s1) hi hda
      refine lv_if_ge (tgt := 990) hx hb dL_law_983 (by decide) (fun c983 => ?_) (fun c983 => ?_)
      · have hv := hv.1 c983
        refine lv_iconst (v := 0) hx hb dL_law_990 (by decide) ?_
        exact hY 991 [x3, x4, x5, x6, x7, x8, x18, x19, x20, x21, x22, 0] [] s1 hv _ _ _ _ _ rfl ad H locs ls hi hda hP hS (lv_sub hl [0, 1, 2, 3, 4, 5, 6, 7, 8, 9, 10, 11, 12, 13, 14] rfl)
      · have hv := hv.2 c983
        refine lv_iconst (v := 1) hx hb dL_law_986 (by decide) ?_
        refine lv_goto (tgt := 991) hx hb dL_law_987 (by decide) ?_
        exact hY 991 [x3, x4, x5, x6, x7, x8, x18, x19, x20, x21, x22, 1] [] s1 hv _ _ _ _ _ rfl ad H locs ls hi hda hP hS (lv_sub hl [0, 1, 2, 3, 4, 5, 6, 7, 8, 9, 10, 11, 12, 13, 14] rfl)
set_option maxHeartbeats 8000000 in
set_option maxRecDepth 100000 in
theorem w_L_law_991 {p : Program} {l : Launch} {e : Env} {s : State} {m : MethodId} {below : List Frame} {meth : Method} {c : Code} {dC : Nat → ClassId} {dI : Nat → Nat → Nat} {cA cZ : ClassId} {b L : Nat} {xs : Nat → Int32} (C0 : LC p s m meth c b L xs dC dI cA cZ) (Y : Nat → List Int32 → List Int64 → St → Prop) (hY : ∀ P xs ys σ, Y P xs ys σ → XW p l e s m below meth c b dC dI cA P xs ys σ) (x3 : Int32) (x4 : Int32) (x5 : Int32) (x6 : Int32) (x7 : Int32) (x8 : Int32) (x18 : Int32) (x19 : Int32) (x20 : Int32) (x21 : Int32) (x22 : Int32) (t0 : Int32) (s0 : St) (hv : B_L_law_991 L xs Y x3 x4 x5 x6 x7 x8 x18 x19 x20 x21 x22 t0 s0) {ad : Nat → Nat} (hi : Inj 85 ad) (hda : ∀ k, k < 85 → La s (ad k)) {H : Heap} {locs : List Loc} {ls : Array Slot} (hP : va_P (dC, dI) vwCl (wd 85 ad (celL ad cA) s0) H) (hS : va_S (La s) s.heap H locs) (hl : lv_has ls 32 [(0, .ref b), (1, .ref (ad 0)), (2, .ref (ad 81)), (3, .int x3), (4, .int x4), (5, .int x5), (6, .int x6), (7, .int x7), (8, .int x8), (11, .ref (ad 82)), (18, .int x18), (19, .int x19), (20, .int x20), (21, .int x21), (22, .int x22)]) : W p l e room_1 s m #[Value.ref b] below meth c H locs (220) (2200) (lw_Z below #[Value.ref b] s) (F0 m 991 ls [.int t0]) := by
  obtain ⟨⟨hx, hb, hml, hown, hts, hr, hlocks⟩, hX, hbl, hK⟩ := C0
  have hbA : ¬ La s b := Nat.not_le.mpr hbl
  have hA2 : ∀ q, s.heap.size ≤ q → La s q := fun _ h => h
  have hD := wd_Dg (A := La s) (cel := celL ad cA) (σ := s0) hi hda
  unfold B_L_law_991 at hv
  refine lv_istore (lv' := [(23, .int t0), (0, .ref b), (1, .ref (ad 0)), (2, .ref (ad 81)), (3, .int x3), (4, .int x4), (5, .int x5), (6, .int x6), (7, .int x7), (8, .int x8), (11, .ref (ad 82)), (18, .int x18), (19, .int x19), (20, .int x20), (21, .int x21), (22, .int x22)]) hx hb dL_law_991 hl (by decide) rfl (fun ls hl => ?_)
  refine lv_aload_n hx hb dL_law_993 rfl (lv_at hl 3 rfl) ?_
  refine lv_bipush (v := 18) hx hb dL_law_994 (by decide) ?_
  refine lv_iload hx hb dL_law_996 (lv_at hl 13 rfl) ?_
  refine lv_iadd hx hb dL_law_998 ?_
  obtain ⟨hin, hv⟩ := hv
  refine r_iald hx hb hK.1 hP 81 (by decide) (ceL_81 (s0 81)) hin dL_law_999 ?_
  refine lv_aload_n hx hb dL_law_1000 rfl (lv_at hl 3 rfl) ?_
  refine lv_bipush (v := 18) hx hb dL_law_1001 (by decide) ?_
  refine lv_iload hx hb dL_law_1003 (lv_at hl 15 rfl) ?_
  refine lv_iadd hx hb dL_law_1005 ?_
  obtain ⟨hin, hv⟩ := hv
  refine r_iald hx hb hK.1 hP 81 (by decide) (ceL_81 (s0 81)) hin dL_law_1006 ?_
  refine lv_isub hx hb dL_law_1007 ?_
  refine lv_topi (fun v1 ev1 => ?_)
  have hv := hv v1 ev1
  refine lv_istore (lv' := [(24, .int v1), (23, .int t0), (0, .ref b), (1, .ref (ad 0)), (2, .ref (ad 81)), (3, .int x3), (4, .int x4), (5, .int x5), (6, .int x6), (7, .int x7), (8, .int x8), (11, .ref (ad 82)), (18, .int x18), (19, .int x19), (20, .int x20), (21, .int x21), (22, .int x22)]) hx hb dL_law_1008 hl (by decide) rfl (fun ls hl => ?_)
  refine lv_iload hx hb dL_law_1010 (lv_at hl 1 rfl) ?_
  refine lv_if_eq (tgt := 1043) hx hb dL_law_1012 (by decide) (fun c1012 => ?_) (fun c1012 => ?_)
  · have hv := hv.1 c1012
    refine lv_iinc (v := x22 + 1) (lv' := [(22, .int (x22 + 1)), (24, .int v1), (23, .int t0), (0, .ref b), (1, .ref (ad 0)), (2, .ref (ad 81)), (3, .int x3), (4, .int x4), (5, .int x5), (6, .int x6), (7, .int x7), (8, .int x8), (11, .ref (ad 82)), (18, .int x18), (19, .int x19), (20, .int x20), (21, .int x21)]) hx hb dL_law_1043 hl (k := 16) rfl rfl (by decide) rfl (fun ls hl => ?_)
    refine lv_goto (tgt := 965) hx hb dL_law_1046 (by decide) ?_
    exact hY 965 [x3, x4, x5, x6, x7, x8, x18, x19, x20, x21, x22 + 1] [] s0 hv _ _ _ _ _ rfl ad H locs ls hi hda hP hS (lv_sub hl [3, 4, 5, 6, 7, 8, 9, 10, 11, 12, 13, 14, 15, 16, 0] rfl)
  · have hv := hv.2 c1012
    refine lv_aload_n hx hb dL_law_1015 rfl (lv_at hl 4 rfl) ?_
    refine lv_bipush (v := 10) hx hb dL_law_1016 (by decide) ?_
    refine lv_iload hx hb dL_law_1018 (lv_at hl 14 rfl) ?_
    refine lv_iadd hx hb dL_law_1020 ?_
    obtain ⟨hin, hv⟩ := hv
    refine r_iald hx hb hK.1 hP 81 (by decide) (ceL_81 (s0 81)) hin dL_law_1021 ?_
    refine lv_aload_n hx hb dL_law_1022 rfl (lv_at hl 4 rfl) ?_
    refine lv_bipush (v := 10) hx hb dL_law_1023 (by decide) ?_
    refine lv_iload hx hb dL_law_1025 (lv_at hl 16 rfl) ?_
    refine lv_iadd hx hb dL_law_1027 ?_
    obtain ⟨hin, hv⟩ := hv
    refine r_iald hx hb hK.1 hP 81 (by decide) (ceL_81 (s0 81)) hin dL_law_1028 ?_
    refine lv_icmp_ne (tgt := 1043) hx hb dL_law_1029 (by decide) (fun c1029 => ?_) (fun c1029 => ?_)
    · have hv := hv.1 c1029
      refine lv_iinc (v := x22 + 1) (lv' := [(22, .int (x22 + 1)), (24, .int v1), (23, .int t0), (0, .ref b), (1, .ref (ad 0)), (2, .ref (ad 81)), (3, .int x3), (4, .int x4), (5, .int x5), (6, .int x6), (7, .int x7), (8, .int x8), (11, .ref (ad 82)), (18, .int x18), (19, .int x19), (20, .int x20), (21, .int x21)]) hx hb dL_law_1043 hl (k := 16) rfl rfl (by decide) rfl (fun ls hl => ?_)
      refine lv_goto (tgt := 965) hx hb dL_law_1046 (by decide) ?_
      exact hY 965 [x3, x4, x5, x6, x7, x8, x18, x19, x20, x21, x22 + 1] [] s0 hv _ _ _ _ _ rfl ad H locs ls hi hda hP hS (lv_sub hl [3, 4, 5, 6, 7, 8, 9, 10, 11, 12, 13, 14, 15, 16, 0] rfl)
    · have hv := hv.2 c1029
      refine lv_iload hx hb dL_law_1032 (lv_at hl 0 rfl) ?_
      refine lv_iload hx hb dL_law_1034 (lv_at hl 0 rfl) ?_
      refine lv_imul hx hb dL_law_1036 ?_
      refine lv_iconst (v := 2) hx hb dL_law_1037 (by decide) ?_
      refine lv_icmp_ge (tgt := 1043) hx hb dL_law_1038 (by decide) (fun c1038 => ?_) (fun c1038 => ?_)
      · have hv := hv.1 c1038
        refine lv_iinc (v := x22 + 1) (lv' := [(22, .int (x22 + 1)), (24, .int v1), (23, .int t0), (0, .ref b), (1, .ref (ad 0)), (2, .ref (ad 81)), (3, .int x3), (4, .int x4), (5, .int x5), (6, .int x6), (7, .int x7), (8, .int x8), (11, .ref (ad 82)), (18, .int x18), (19, .int x19), (20, .int x20), (21, .int x21)]) hx hb dL_law_1043 hl (k := 16) rfl rfl (by decide) rfl (fun ls hl => ?_)
        refine lv_goto (tgt := 965) hx hb dL_law_1046 (by decide) ?_
        exact hY 965 [x3, x4, x5, x6, x7, x8, x18, x19, x20, x21, x22 + 1] [] s0 hv _ _ _ _ _ rfl ad H locs ls hi hda hP hS (lv_sub hl [3, 4, 5, 6, 7, 8, 9, 10, 11, 12, 13, 14, 15, 16, 0] rfl)
      · have hv := hv.2 c1038
        refine lv_iconst (v := 0) hx hb dL_law_1041 (by decide) ?_
        exact hv.elim
set_option maxHeartbeats 8000000 in
set_option maxRecDepth 100000 in
theorem w_L_law_1066 {p : Program} {l : Launch} {e : Env} {s : State} {m : MethodId} {below : List Frame} {meth : Method} {c : Code} {dC : Nat → ClassId} {dI : Nat → Nat → Nat} {cA cZ : ClassId} {b L : Nat} {xs : Nat → Int32} (C0 : LC p s m meth c b L xs dC dI cA cZ) (Y : Nat → List Int32 → List Int64 → St → Prop) (hY : ∀ P xs ys σ, Y P xs ys σ → XW p l e s m below meth c b dC dI cA P xs ys σ) (x3 : Int32) (x4 : Int32) (x5 : Int32) (x6 : Int32) (x7 : Int32) (x8 : Int32) (s0 : St) (hv : B_L_law_1066 L xs Y x3 x4 x5 x6 x7 x8 s0) {ad : Nat → Nat} (hi : Inj 85 ad) (hda : ∀ k, k < 85 → La s (ad k)) {H : Heap} {locs : List Loc} {ls : Array Slot} (hP : va_P (dC, dI) vwCl (wd 85 ad (celL ad cA) s0) H) (hS : va_S (La s) s.heap H locs) (hl : lv_has ls 32 [(0, .ref b), (1, .ref (ad 0)), (2, .ref (ad 81)), (3, .int x3), (4, .int x4), (5, .int x5), (6, .int x6), (7, .int x7), (8, .int x8), (11, .ref (ad 82))]) : W p l e room_1 s m #[Value.ref b] below meth c H locs (220) (2200) (lw_Z below #[Value.ref b] s) (F0 m 1066 ls []) := by
  obtain ⟨⟨hx, hb, hml, hown, hts, hr, hlocks⟩, hX, hbl, hK⟩ := C0
  have hbA : ¬ La s b := Nat.not_le.mpr hbl
  have hA2 : ∀ q, s.heap.size ≤ q → La s q := fun _ h => h
  have hD := wd_Dg (A := La s) (cel := celL ad cA) (σ := s0) hi hda
  unfold B_L_law_1066 at hv
  refine lv_aload_n hx hb dL_law_1066 rfl (lv_at hl 1 rfl) ?_
  refine lv_iconst (v := 0) hx hb dL_law_1067 (by decide) ?_
  refine r_lci hi hP hS (aa_A (by decide) hda hA2 hS) (va_runV (As := [.int 0]) (rest := []) ⟨hx, hb, hml, hown, hts⟩ (c_X10_heap (inj_le (by decide) hi) 0 _ _ hv H.size) (cwV 1 (fun w h => hts w (iv_X10_heap_75 w h)) gv_X10_heap_75 rfl rfl rfl (by decide +kernel) ⟨(Nat.le_of_ble_eq_true rfl), (Nat.le_of_ble_eq_true rfl)⟩) ⟨pre_blind, r_recv hK.1 (wd_cls (by decide) hP) 0 (by decide) (ceGR_0 (s0 0)) rfl, pre_of (wd_cls (by decide) hP) hK⟩ rfl rfl hl.1 rfl (lv_room (Nat.le_of_ble_eq_true rfl)) dL_law_1068 ⟨Nat.le_trans (by omega : _ ≤ 300) (Nat.le_of_ble_eq_true rfl), Nat.le_trans (by omega : _ ≤ 3000) (Nat.le_of_ble_eq_true rfl)⟩) (fun r1 s1 H locs hv hP hS => ?_)
  have hD := wd_Dg (A := La s) (cel := celL ad cA) (σ := s1) hi hda
  refine lv_istore (lv' := [(20, .int r1), (0, .ref b), (1, .ref (ad 0)), (2, .ref (ad 81)), (3, .int x3), (4, .int x4), (5, .int x5), (6, .int x6), (7, .int x7), (8, .int x8), (11, .ref (ad 82))]) hx hb dL_law_1071 hl (by decide) rfl (fun ls hl => ?_)
  refine lv_aload_n hx hb dL_law_1073 rfl (lv_at hl 2 rfl) ?_
  refine lv_iconst (v := 1) hx hb dL_law_1074 (by decide) ?_
  refine r_lci hi hP hS (aa_A (by decide) hda hA2 hS) (va_runV (As := [.int 1]) (rest := []) ⟨hx, hb, hml, hown, hts⟩ (c_X10_heap (inj_le (by decide) hi) 1 _ _ hv H.size) (cwV 1 (fun w h => hts w (iv_X10_heap_75 w h)) gv_X10_heap_75 rfl rfl rfl (by decide +kernel) ⟨(Nat.le_of_ble_eq_true rfl), (Nat.le_of_ble_eq_true rfl)⟩) ⟨pre_blind, r_recv hK.1 (wd_cls (by decide) hP) 0 (by decide) (ceGR_0 (s1 0)) rfl, pre_of (wd_cls (by decide) hP) hK⟩ rfl rfl hl.1 rfl (lv_room (Nat.le_of_ble_eq_true rfl)) dL_law_1075 ⟨Nat.le_trans (by omega : _ ≤ 300) (Nat.le_of_ble_eq_true rfl), Nat.le_trans (by omega : _ ≤ 3000) (Nat.le_of_ble_eq_true rfl)⟩) (fun r2 s2 H locs hv hP hS => ?_)
  have hD := wd_Dg (A := La s) (cel := celL ad cA) (σ := s2) hi hda
  refine lv_istore (lv' := [(21, .int r2), (20, .int r1), (0, .ref b), (1, .ref (ad 0)), (2, .ref (ad 81)), (3, .int x3), (4, .int x4), (5, .int x5), (6, .int x6), (7, .int x7), (8, .int x8), (11, .ref (ad 82))]) hx hb dL_law_1078 hl (by decide) rfl (fun ls hl => ?_)
  refine lv_aload_n hx hb dL_law_1080 rfl (lv_at hl 3 rfl) ?_
  refine lv_iconst (v := 2) hx hb dL_law_1081 (by decide) ?_
  refine r_lci hi hP hS (aa_A (by decide) hda hA2 hS) (va_runV (As := [.int 2]) (rest := []) ⟨hx, hb, hml, hown, hts⟩ (c_X10_heap (inj_le (by decide) hi) 2 _ _ hv H.size) (cwV 1 (fun w h => hts w (iv_X10_heap_75 w h)) gv_X10_heap_75 rfl rfl rfl (by decide +kernel) ⟨(Nat.le_of_ble_eq_true rfl), (Nat.le_of_ble_eq_true rfl)⟩) ⟨pre_blind, r_recv hK.1 (wd_cls (by decide) hP) 0 (by decide) (ceGR_0 (s2 0)) rfl, pre_of (wd_cls (by decide) hP) hK⟩ rfl rfl hl.1 rfl (lv_room (Nat.le_of_ble_eq_true rfl)) dL_law_1082 ⟨Nat.le_trans (by omega : _ ≤ 300) (Nat.le_of_ble_eq_true rfl), Nat.le_trans (by omega : _ ≤ 3000) (Nat.le_of_ble_eq_true rfl)⟩) (fun r3 s3 H locs hv hP hS => ?_)
  have hD := wd_Dg (A := La s) (cel := celL ad cA) (σ := s3) hi hda
  refine lv_istore (lv' := [(22, .int r3), (21, .int r2), (20, .int r1), (0, .ref b), (1, .ref (ad 0)), (2, .ref (ad 81)), (3, .int x3), (4, .int x4), (5, .int x5), (6, .int x6), (7, .int x7), (8, .int x8), (11, .ref (ad 82))]) hx hb dL_law_1085 hl (by decide) rfl (fun ls hl => ?_)
  refine lv_iload hx hb dL_law_1087 (lv_at hl 2 rfl) ?_
  refine lv_if_lt (tgt := 1149) hx hb dL_law_1089 (by decide) (fun c1089 => ?_) (fun c1089 => ?_)
  · have hv := hv.1 c1089
    refine lv_iconst (v := 0) hx hb dL_law_1149 (by decide) ?_
    exact hv.elim
  · have hv := hv.2 c1089
    refine lv_iload hx hb dL_law_1092 (lv_at hl 2 rfl) ?_
    refine lv_iload_n hx hb dL_law_1094 rfl (lv_at hl 6 rfl) ?_
    refine lv_icmp_gt (tgt := 1149) hx hb dL_law_1095 (by decide) (fun c1095 => ?_) (fun c1095 => ?_)
    · have hv := hv.1 c1095
      refine lv_iconst (v := 0) hx hb dL_law_1149 (by decide) ?_
      exact hv.elim
    · have hv := hv.2 c1095
      refine lv_iload hx hb dL_law_1098 (lv_at hl 2 rfl) ?_
      refine lv_iload hx hb dL_law_1100 (lv_at hl 10 rfl) ?_
      refine lv_if_le (tgt := 1109) hx hb dL_law_1102 (by decide) (fun c1102 => ?_) (fun c1102 => ?_)
      · have hv := hv.1 c1102
        refine lv_iconst (v := 0) hx hb dL_law_1109 (by decide) ?_
        exact hY 1110 [x3, x4, x5, x6, x7, x8, r1, r2, r3, 0, r1] [] s3 hv _ _ _ _ _ rfl ad H locs ls hi hda hP hS (lv_sub hl [3, 4, 5, 6, 7, 8, 9, 10, 11, 12, 2, 1, 0] rfl)
      · have hv := hv.2 c1102
        refine lv_iconst (v := 1) hx hb dL_law_1105 (by decide) ?_
        refine lv_goto (tgt := 1110) hx hb dL_law_1106 (by decide) ?_
        exact hY 1110 [x3, x4, x5, x6, x7, x8, r1, r2, r3, 1, r1] [] s3 hv _ _ _ _ _ rfl ad H locs ls hi hda hP hS (lv_sub hl [3, 4, 5, 6, 7, 8, 9, 10, 11, 12, 2, 1, 0] rfl)
set_option maxHeartbeats 8000000 in
set_option maxRecDepth 100000 in
theorem w_L_law_1110 {p : Program} {l : Launch} {e : Env} {s : State} {m : MethodId} {below : List Frame} {meth : Method} {c : Code} {dC : Nat → ClassId} {dI : Nat → Nat → Nat} {cA cZ : ClassId} {b L : Nat} {xs : Nat → Int32} (C0 : LC p s m meth c b L xs dC dI cA cZ) (Y : Nat → List Int32 → List Int64 → St → Prop) (hY : ∀ P xs ys σ, Y P xs ys σ → XW p l e s m below meth c b dC dI cA P xs ys σ) (x3 : Int32) (x4 : Int32) (x5 : Int32) (x6 : Int32) (x7 : Int32) (x8 : Int32) (x20 : Int32) (x21 : Int32) (x22 : Int32) (t0 : Int32) (t1 : Int32) (s0 : St) (hv : B_L_law_1110 L xs Y x3 x4 x5 x6 x7 x8 x20 x21 x22 t0 t1 s0) {ad : Nat → Nat} (hi : Inj 85 ad) (hda : ∀ k, k < 85 → La s (ad k)) {H : Heap} {locs : List Loc} {ls : Array Slot} (hP : va_P (dC, dI) vwCl (wd 85 ad (celL ad cA) s0) H) (hS : va_S (La s) s.heap H locs) (hl : lv_has ls 32 [(0, .ref b), (1, .ref (ad 0)), (2, .ref (ad 81)), (3, .int x3), (4, .int x4), (5, .int x5), (6, .int x6), (7, .int x7), (8, .int x8), (11, .ref (ad 82)), (20, .int x20), (21, .int x21), (22, .int x22)]) : W p l e room_1 s m #[Value.ref b] below meth c H locs (220) (2200) (lw_Z below #[Value.ref b] s) (F0 m 1110 ls [.int t0, .int t1]) := by
  obtain ⟨⟨hx, hb, hml, hown, hts, hr, hlocks⟩, hX, hbl, hK⟩ := C0
  have hbA : ¬ La s b := Nat.not_le.mpr hbl
  have hA2 : ∀ q, s.heap.size ≤ q → La s q := fun _ h => h
  have hD := wd_Dg (A := La s) (cel := celL ad cA) (σ := s0) hi hda
  unfold B_L_law_1110 at hv
  refine lv_icmp_lt (tgt := 1149) hx hb dL_law_1110 (by decide) (fun c1110 => ?_) (fun c1110 => ?_)
  · have hv := hv.1 c1110
    refine lv_iconst (v := 0) hx hb dL_law_1149 (by decide) ?_
    exact hv.elim
  · have hv := hv.2 c1110
    refine lv_iload hx hb dL_law_1113 (lv_at hl 10 rfl) ?_
    refine lv_if_ne (tgt := 1122) hx hb dL_law_1115 (by decide) (fun c1115 => ?_) (fun c1115 => ?_)
    · have hv := hv.1 c1115
      refine lv_iconst (v := 0) hx hb dL_law_1122 (by decide) ?_
      exact hY 1123 [x3, x4, x5, x6, x7, x8, x20, x21, x22, 0] [] s0 hv _ _ _ _ _ rfl ad H locs ls hi hda hP hS (lv_sub hl [0, 1, 2, 3, 4, 5, 6, 7, 8, 9, 10, 11, 12] rfl)
    · have hv := hv.2 c1115
      refine lv_iconst (v := 1) hx hb dL_law_1118 (by decide) ?_
      refine lv_goto (tgt := 1123) hx hb dL_law_1119 (by decide) ?_
      exact hY 1123 [x3, x4, x5, x6, x7, x8, x20, x21, x22, 1] [] s0 hv _ _ _ _ _ rfl ad H locs ls hi hda hP hS (lv_sub hl [0, 1, 2, 3, 4, 5, 6, 7, 8, 9, 10, 11, 12] rfl)
set_option maxHeartbeats 8000000 in
set_option maxRecDepth 100000 in
theorem w_L_law_1123 {p : Program} {l : Launch} {e : Env} {s : State} {m : MethodId} {below : List Frame} {meth : Method} {c : Code} {dC : Nat → ClassId} {dI : Nat → Nat → Nat} {cA cZ : ClassId} {b L : Nat} {xs : Nat → Int32} (C0 : LC p s m meth c b L xs dC dI cA cZ) (Y : Nat → List Int32 → List Int64 → St → Prop) (hY : ∀ P xs ys σ, Y P xs ys σ → XW p l e s m below meth c b dC dI cA P xs ys σ) (x3 : Int32) (x4 : Int32) (x5 : Int32) (x6 : Int32) (x7 : Int32) (x8 : Int32) (x20 : Int32) (x21 : Int32) (x22 : Int32) (t0 : Int32) (s0 : St) (hv : B_L_law_1123 L xs Y x3 x4 x5 x6 x7 x8 x20 x21 x22 t0 s0) {ad : Nat → Nat} (hi : Inj 85 ad) (hda : ∀ k, k < 85 → La s (ad k)) {H : Heap} {locs : List Loc} {ls : Array Slot} (hP : va_P (dC, dI) vwCl (wd 85 ad (celL ad cA) s0) H) (hS : va_S (La s) s.heap H locs) (hl : lv_has ls 32 [(0, .ref b), (1, .ref (ad 0)), (2, .ref (ad 81)), (3, .int x3), (4, .int x4), (5, .int x5), (6, .int x6), (7, .int x7), (8, .int x8), (11, .ref (ad 82)), (20, .int x20), (21, .int x21), (22, .int x22)]) : W p l e room_1 s m #[Value.ref b] below meth c H locs (220) (2200) (lw_Z below #[Value.ref b] s) (F0 m 1123 ls [.int t0]) := by
  obtain ⟨⟨hx, hb, hml, hown, hts, hr, hlocks⟩, hX, hbl, hK⟩ := C0
  have hbA : ¬ La s b := Nat.not_le.mpr hbl
  have hA2 : ∀ q, s.heap.size ≤ q → La s q := fun _ h => h
  have hD := wd_Dg (A := La s) (cel := celL ad cA) (σ := s0) hi hda
  unfold B_L_law_1123 at hv
  refine lv_iload hx hb dL_law_1123 (lv_at hl 12 rfl) ?_
  refine lv_iconst (v := (-1)) hx hb dL_law_1125 (by decide) ?_
  refine lv_icmp_ne (tgt := 1133) hx hb dL_law_1126 (by decide) (fun c1126 => ?_) (fun c1126 => ?_)
  · have hv := hv.1 c1126
    refine lv_iconst (v := 0) hx hb dL_law_1133 (by decide) ?_
    exact hY 1134 [x3, x4, x5, x6, x7, x8, x20, x21, x22, 0, t0] [] s0 hv _ _ _ _ _ rfl ad H locs ls hi hda hP hS (lv_sub hl [0, 1, 2, 3, 4, 5, 6, 7, 8, 9, 10, 11, 12] rfl)
  · have hv := hv.2 c1126
    refine lv_iconst (v := 1) hx hb dL_law_1129 (by decide) ?_
    refine lv_goto (tgt := 1134) hx hb dL_law_1130 (by decide) ?_
    exact hY 1134 [x3, x4, x5, x6, x7, x8, x20, x21, x22, 1, t0] [] s0 hv _ _ _ _ _ rfl ad H locs ls hi hda hP hS (lv_sub hl [0, 1, 2, 3, 4, 5, 6, 7, 8, 9, 10, 11, 12] rfl)
set_option maxHeartbeats 8000000 in
set_option maxRecDepth 100000 in
theorem w_L_law_1134 {p : Program} {l : Launch} {e : Env} {s : State} {m : MethodId} {below : List Frame} {meth : Method} {c : Code} {dC : Nat → ClassId} {dI : Nat → Nat → Nat} {cA cZ : ClassId} {b L : Nat} {xs : Nat → Int32} (C0 : LC p s m meth c b L xs dC dI cA cZ) (Y : Nat → List Int32 → List Int64 → St → Prop) (hY : ∀ P xs ys σ, Y P xs ys σ → XW p l e s m below meth c b dC dI cA P xs ys σ) (x3 : Int32) (x4 : Int32) (x5 : Int32) (x6 : Int32) (x7 : Int32) (x8 : Int32) (x20 : Int32) (x21 : Int32) (x22 : Int32) (t0 : Int32) (t1 : Int32) (s0 : St) (hv : B_L_law_1134 L xs Y x3 x4 x5 x6 x7 x8 x20 x21 x22 t0 t1 s0) {ad : Nat → Nat} (hi : Inj 85 ad) (hda : ∀ k, k < 85 → La s (ad k)) {H : Heap} {locs : List Loc} {ls : Array Slot} (hP : va_P (dC, dI) vwCl (wd 85 ad (celL ad cA) s0) H) (hS : va_S (La s) s.heap H locs) (hl : lv_has ls 32 [(0, .ref b), (1, .ref (ad 0)), (2, .ref (ad 81)), (3, .int x3), (4, .int x4), (5, .int x5), (6, .int x6), (7, .int x7), (8, .int x8), (11, .ref (ad 82)), (20, .int x20), (21, .int x21), (22, .int x22)]) : W p l e room_1 s m #[Value.ref b] below meth c H locs (220) (2200) (lw_Z below #[Value.ref b] s) (F0 m 1134 ls [.int t0, .int t1]) := by
  obtain ⟨⟨hx, hb, hml, hown, hts, hr, hlocks⟩, hX, hbl, hK⟩ := C0
  have hbA : ¬ La s b := Nat.not_le.mpr hbl
  have hA2 : ∀ q, s.heap.size ≤ q → La s q := fun _ h => h
  have hD := wd_Dg (A := La s) (cel := celL ad cA) (σ := s0) hi hda
  unfold B_L_law_1134 at hv
  refine lv_icmp_ne (tgt := 1149) hx hb dL_law_1134 (by decide) (fun c1134 => ?_) (fun c1134 => ?_)
  · have hv := hv.1 c1134
    refine lv_iconst (v := 0) hx hb dL_law_1149 (by decide) ?_
    exact hv.elim
  · have hv := hv.2 c1134
    refine lv_iload hx hb dL_law_1137 (lv_at hl 11 rfl) ?_
    refine lv_if_lt (tgt := 1149) hx hb dL_law_1139 (by decide) (fun c1139 => ?_) (fun c1139 => ?_)
    · have hv := hv.1 c1139
      refine lv_iconst (v := 0) hx hb dL_law_1149 (by decide) ?_
      exact hv.elim
    · have hv := hv.2 c1139
      refine lv_iload hx hb dL_law_1142 (lv_at hl 11 rfl) ?_
      refine lv_bipush (v := 30) hx hb dL_law_1144 (by decide) ?_
      refine lv_icmp_le (tgt := 1151) hx hb dL_law_1146 (by decide) (fun c1146 => ?_) (fun c1146 => ?_)
      · have hv := hv.1 c1146
        refine lv_iload hx hb dL_law_1151 (lv_at hl 11 rfl) ?_
        refine lv_if_le (tgt := 1169) hx hb dL_law_1153 (by decide) (fun c1153 => ?_) (fun c1153 => ?_)
        · have hv := hv.1 c1153
          refine lv_iconst (v := 0) hx hb dL_law_1169 (by decide) ?_
          refine lv_istore (lv' := [(23, .int 0), (0, .ref b), (1, .ref (ad 0)), (2, .ref (ad 81)), (3, .int x3), (4, .int x4), (5, .int x5), (6, .int x6), (7, .int x7), (8, .int x8), (11, .ref (ad 82)), (20, .int x20), (21, .int x21), (22, .int x22)]) hx hb dL_law_1170 hl (by decide) rfl (fun ls hl => ?_)
          refine lv_iconst (v := 0) hx hb dL_law_1172 (by decide) ?_
          refine lv_istore (lv' := [(24, .int 0), (23, .int 0), (0, .ref b), (1, .ref (ad 0)), (2, .ref (ad 81)), (3, .int x3), (4, .int x4), (5, .int x5), (6, .int x6), (7, .int x7), (8, .int x8), (11, .ref (ad 82)), (20, .int x20), (21, .int x21), (22, .int x22)]) hx hb dL_law_1173 hl (by decide) rfl (fun ls hl => ?_)
          exact hY 1175 [x3, x4, x5, x6, x7, x8, x20, x22, 0, 0] [] s0 hv _ _ _ _ _ rfl ad H locs ls hi hda hP hS (lv_sub hl [2, 3, 4, 5, 6, 7, 8, 9, 10, 11, 12, 14, 1, 0] rfl)
        · have hv := hv.2 c1153
          refine lv_aload_n hx hb dL_law_1156 rfl (lv_at hl 1 rfl) ?_
          refine lv_iload hx hb dL_law_1157 (lv_at hl 11 rfl) ?_
          refine r_lci hi hP hS (aa_A (by decide) hda hA2 hS) (va_runV (As := [.int x21]) (rest := []) ⟨hx, hb, hml, hown, hts⟩ (c_X10_hours (inj_le (by decide) hi) x21 _ _ hv H.size) (cwV 1 (fun w h => hts w (iv_X10_hours_54 w h)) gv_X10_hours_54 rfl rfl rfl (by decide +kernel) ⟨(Nat.le_of_ble_eq_true rfl), (Nat.le_of_ble_eq_true rfl)⟩) ⟨pre_blind, r_recv hK.1 (wd_cls (by decide) hP) 0 (by decide) (ceGR_0 (s0 0)) rfl, pre_of (wd_cls (by decide) hP) hK⟩ rfl rfl hl.1 rfl (lv_room (Nat.le_of_ble_eq_true rfl)) dL_law_1159 ⟨Nat.le_trans (by omega : _ ≤ 300) (Nat.le_of_ble_eq_true rfl), Nat.le_trans (by omega : _ ≤ 3000) (Nat.le_of_ble_eq_true rfl)⟩) (fun r1 s1 H locs hv hP hS => ?_)
          have hD := wd_Dg (A := La s) (cel := celL ad cA) (σ := s1) hi hda
          refine lv_iload hx hb dL_law_1162 (lv_at hl 6 rfl) ?_
          refine lv_icmp_ge (tgt := 1169) hx hb dL_law_1164 (by decide) (fun c1164 => ?_) (fun c1164 => ?_)
          · have hv := hv.1 c1164
            refine lv_iconst (v := 0) hx hb dL_law_1169 (by decide) ?_
            refine lv_istore (lv' := [(23, .int 0), (0, .ref b), (1, .ref (ad 0)), (2, .ref (ad 81)), (3, .int x3), (4, .int x4), (5, .int x5), (6, .int x6), (7, .int x7), (8, .int x8), (11, .ref (ad 82)), (20, .int x20), (21, .int x21), (22, .int x22)]) hx hb dL_law_1170 hl (by decide) rfl (fun ls hl => ?_)
            refine lv_iconst (v := 0) hx hb dL_law_1172 (by decide) ?_
            refine lv_istore (lv' := [(24, .int 0), (23, .int 0), (0, .ref b), (1, .ref (ad 0)), (2, .ref (ad 81)), (3, .int x3), (4, .int x4), (5, .int x5), (6, .int x6), (7, .int x7), (8, .int x8), (11, .ref (ad 82)), (20, .int x20), (21, .int x21), (22, .int x22)]) hx hb dL_law_1173 hl (by decide) rfl (fun ls hl => ?_)
            exact hY 1175 [x3, x4, x5, x6, x7, x8, x20, x22, 0, 0] [] s1 hv _ _ _ _ _ rfl ad H locs ls hi hda hP hS (lv_sub hl [2, 3, 4, 5, 6, 7, 8, 9, 10, 11, 12, 14, 1, 0] rfl)
          · have hv := hv.2 c1164
            refine lv_iconst (v := 0) hx hb dL_law_1167 (by decide) ?_
            exact hv.elim
      · have hv := hv.2 c1146
        refine lv_iconst (v := 0) hx hb dL_law_1149 (by decide) ?_
        exact hv.elim
set_option maxHeartbeats 8000000 in
set_option maxRecDepth 100000 in
theorem w_L_law_1175 {p : Program} {l : Launch} {e : Env} {s : State} {m : MethodId} {below : List Frame} {meth : Method} {c : Code} {dC : Nat → ClassId} {dI : Nat → Nat → Nat} {cA cZ : ClassId} {b L : Nat} {xs : Nat → Int32} (C0 : LC p s m meth c b L xs dC dI cA cZ) (Y : Nat → List Int32 → List Int64 → St → Prop) (hY : ∀ P xs ys σ, Y P xs ys σ → XW p l e s m below meth c b dC dI cA P xs ys σ) (x3 : Int32) (x4 : Int32) (x5 : Int32) (x6 : Int32) (x7 : Int32) (x8 : Int32) (x20 : Int32) (x22 : Int32) (x23 : Int32) (x24 : Int32) (s0 : St) (hv : B_L_law_1175 L xs Y x3 x4 x5 x6 x7 x8 x20 x22 x23 x24 s0) {ad : Nat → Nat} (hi : Inj 85 ad) (hda : ∀ k, k < 85 → La s (ad k)) {H : Heap} {locs : List Loc} {ls : Array Slot} (hP : va_P (dC, dI) vwCl (wd 85 ad (celL ad cA) s0) H) (hS : va_S (La s) s.heap H locs) (hl : lv_has ls 32 [(0, .ref b), (1, .ref (ad 0)), (2, .ref (ad 81)), (3, .int x3), (4, .int x4), (5, .int x5), (6, .int x6), (7, .int x7), (8, .int x8), (11, .ref (ad 82)), (20, .int x20), (22, .int x22), (23, .int x23), (24, .int x24)]) : W p l e room_1 s m #[Value.ref b] below meth c H locs (220) (2200) (lw_Z below #[Value.ref b] s) (F0 m 1175 ls []) := by
  obtain ⟨⟨hx, hb, hml, hown, hts, hr, hlocks⟩, hX, hbl, hK⟩ := C0
  have hbA : ¬ La s b := Nat.not_le.mpr hbl
  have hA2 : ∀ q, s.heap.size ≤ q → La s q := fun _ h => h
  have hD := wd_Dg (A := La s) (cel := celL ad cA) (σ := s0) hi hda
  unfold B_L_law_1175 at hv
  refine lv_iload hx hb dL_law_1175 (lv_at hl 13 rfl) ?_
  refine lv_iload hx hb dL_law_1177 (lv_at hl 4 rfl) ?_
  refine lv_icmp_ge (tgt := 1229) hx hb dL_law_1179 (by decide) (fun c1179 => ?_) (fun c1179 => ?_)
  · have hv := hv.1 c1179
    refine lv_iload hx hb dL_law_1229 (lv_at hl 12 rfl) ?_
    refine lv_iload hx hb dL_law_1231 (lv_at hl 10 rfl) ?_
    refine lv_icmp_ne (tgt := 1245) hx hb dL_law_1233 (by decide) (fun c1233 => ?_) (fun c1233 => ?_)
    · have hv := hv.1 c1233
      refine lv_iconst (v := 0) hx hb dL_law_1245 (by decide) ?_
      exact hv.elim
    · have hv := hv.2 c1233
      refine lv_aload_n hx hb dL_law_1236 rfl (lv_at hl 1 rfl) ?_
      refine lv_iconst (v := 0) hx hb dL_law_1237 (by decide) ?_
      refine r_lci hi hP hS (aa_A (by decide) hda hA2 hS) (va_runV (As := [.int 0]) (rest := []) ⟨hx, hb, hml, hown, hts⟩ (c_X10_from (inj_le (by decide) hi) 0 _ _ hv H.size) (cwV 1 (fun w h => hts w (iv_X10_from_78 w h)) gv_X10_from_78 rfl rfl rfl (by decide +kernel) ⟨(Nat.le_of_ble_eq_true rfl), (Nat.le_of_ble_eq_true rfl)⟩) ⟨pre_blind, r_recv hK.1 (wd_cls (by decide) hP) 0 (by decide) (ceGR_0 (s0 0)) rfl, pre_of (wd_cls (by decide) hP) hK⟩ rfl rfl hl.1 rfl (lv_room (Nat.le_of_ble_eq_true rfl)) dL_law_1238 ⟨Nat.le_trans (by omega : _ ≤ 300) (Nat.le_of_ble_eq_true rfl), Nat.le_trans (by omega : _ ≤ 3000) (Nat.le_of_ble_eq_true rfl)⟩) (fun r1 s1 H locs hv hP hS => ?_)
      have hD := wd_Dg (A := La s) (cel := celL ad cA) (σ := s1) hi hda
      refine lv_iconst (v := 1) hx hb dL_law_1241 (by decide) ?_
      refine lv_icmp_eq (tgt := 1247) hx hb dL_law_1242 (by decide) (fun c1242 => ?_) (fun c1242 => ?_)
      · have hv := hv.1 c1242
        exact hY 1247 [x3, x4, x5, x6, x7, x8] [] s1 hv _ _ _ _ _ rfl ad H locs ls hi hda hP hS (lv_sub hl [0, 1, 2, 3, 4, 5, 6, 7, 8, 9] rfl)
      · have hv := hv.2 c1242
        refine lv_iconst (v := 0) hx hb dL_law_1245 (by decide) ?_
        exact hv.elim
  · have hv := hv.2 c1179
    refine lv_aload_n hx hb dL_law_1182 rfl (lv_at hl 1 rfl) ?_
    refine lv_iload hx hb dL_law_1183 (lv_at hl 13 rfl) ?_
    refine lv_iconst (v := 3) hx hb dL_law_1185 (by decide) ?_
    refine r_lci hi hP hS (aa_A (by decide) hda hA2 hS) (va_runV (As := [.int x24, .int 3]) (rest := []) ⟨hx, hb, hml, hown, hts⟩ (c_X10_about (inj_le (by decide) hi) x24 3 _ _ hv H.size) (cwV 2 (fun w h => hts w (iv_X10_about_60 w h)) gv_X10_about_60 rfl rfl rfl (by decide +kernel) ⟨(Nat.le_of_ble_eq_true rfl), (Nat.le_of_ble_eq_true rfl)⟩) ⟨pre_blind, r_recv hK.1 (wd_cls (by decide) hP) 0 (by decide) (ceGR_0 (s0 0)) rfl, pre_of (wd_cls (by decide) hP) hK⟩ rfl rfl hl.1 rfl (lv_room (Nat.le_of_ble_eq_true rfl)) dL_law_1186 ⟨Nat.le_trans (by omega : _ ≤ 300) (Nat.le_of_ble_eq_true rfl), Nat.le_trans (by omega : _ ≤ 3000) (Nat.le_of_ble_eq_true rfl)⟩) (fun r2 s2 H locs hv hP hS => ?_)
    have hD := wd_Dg (A := La s) (cel := celL ad cA) (σ := s2) hi hda
    refine lv_istore (lv' := [(25, .int r2), (0, .ref b), (1, .ref (ad 0)), (2, .ref (ad 81)), (3, .int x3), (4, .int x4), (5, .int x5), (6, .int x6), (7, .int x7), (8, .int x8), (11, .ref (ad 82)), (20, .int x20), (22, .int x22), (23, .int x23), (24, .int x24)]) hx hb dL_law_1189 hl (by decide) rfl (fun ls hl => ?_)
    refine lv_iload hx hb dL_law_1191 (lv_at hl 13 rfl) ?_
    refine lv_aload_n hx hb dL_law_1193 rfl (lv_at hl 2 rfl) ?_
    refine lv_iload hx hb dL_law_1194 (lv_at hl 14 rfl) ?_
    refine lv_iconst (v := 1) hx hb dL_law_1196 (by decide) ?_
    refine r_lci hi hP hS (aa_A (by decide) hda hA2 hS) (va_runV (As := [.int x24, .int 1]) (rest := [.int x23]) ⟨hx, hb, hml, hown, hts⟩ (c_X10_about (inj_le (by decide) hi) x24 1 _ _ hv H.size) (cwV 2 (fun w h => hts w (iv_X10_about_60 w h)) gv_X10_about_60 rfl rfl rfl (by decide +kernel) ⟨(Nat.le_of_ble_eq_true rfl), (Nat.le_of_ble_eq_true rfl)⟩) ⟨pre_blind, r_recv hK.1 (wd_cls (by decide) hP) 0 (by decide) (ceGR_0 (s2 0)) rfl, pre_of (wd_cls (by decide) hP) hK⟩ rfl rfl hl.1 rfl (lv_room (Nat.le_of_ble_eq_true rfl)) dL_law_1197 ⟨Nat.le_trans (by omega : _ ≤ 300) (Nat.le_of_ble_eq_true rfl), Nat.le_trans (by omega : _ ≤ 3000) (Nat.le_of_ble_eq_true rfl)⟩) (fun r3 s3 H locs hv hP hS => ?_)
    have hD := wd_Dg (A := La s) (cel := celL ad cA) (σ := s3) hi hda
    refine lv_iload hx hb dL_law_1200 (lv_at hl 12 rfl) ?_
    refine lv_icmp_ne (tgt := 1210) hx hb dL_law_1202 (by decide) (fun c1202 => ?_) (fun c1202 => ?_)
    · have hv := hv.1 c1202
      refine lv_iconst (v := 0) hx hb dL_law_1210 (by decide) ?_
      exact hY 1211 [x3, x4, x5, x6, x7, x8, x20, x22, x24, r2, 0, x23] [] s3 hv _ _ _ _ _ rfl ad H locs ls hi hda hP hS (lv_sub hl [1, 2, 3, 4, 5, 6, 7, 8, 9, 10, 11, 12, 14, 0] rfl)
    · have hv := hv.2 c1202
      refine lv_iload hx hb dL_law_1205 (lv_at hl 0 rfl) ?_
      refine lv_goto (tgt := 1211) hx hb dL_law_1207 (by decide) ?_
      exact hY 1211 [x3, x4, x5, x6, x7, x8, x20, x22, x24, r2, r2, x23] [] s3 hv _ _ _ _ _ rfl ad H locs ls hi hda hP hS (lv_sub hl [1, 2, 3, 4, 5, 6, 7, 8, 9, 10, 11, 12, 14, 0] rfl)
set_option maxHeartbeats 8000000 in
set_option maxRecDepth 100000 in
theorem w_L_law_1211 {p : Program} {l : Launch} {e : Env} {s : State} {m : MethodId} {below : List Frame} {meth : Method} {c : Code} {dC : Nat → ClassId} {dI : Nat → Nat → Nat} {cA cZ : ClassId} {b L : Nat} {xs : Nat → Int32} (C0 : LC p s m meth c b L xs dC dI cA cZ) (Y : Nat → List Int32 → List Int64 → St → Prop) (hY : ∀ P xs ys σ, Y P xs ys σ → XW p l e s m below meth c b dC dI cA P xs ys σ) (x3 : Int32) (x4 : Int32) (x5 : Int32) (x6 : Int32) (x7 : Int32) (x8 : Int32) (x20 : Int32) (x22 : Int32) (x24 : Int32) (x25 : Int32) (t0 : Int32) (t1 : Int32) (s0 : St) (hv : B_L_law_1211 L xs Y x3 x4 x5 x6 x7 x8 x20 x22 x24 x25 t0 t1 s0) {ad : Nat → Nat} (hi : Inj 85 ad) (hda : ∀ k, k < 85 → La s (ad k)) {H : Heap} {locs : List Loc} {ls : Array Slot} (hP : va_P (dC, dI) vwCl (wd 85 ad (celL ad cA) s0) H) (hS : va_S (La s) s.heap H locs) (hl : lv_has ls 32 [(0, .ref b), (1, .ref (ad 0)), (2, .ref (ad 81)), (3, .int x3), (4, .int x4), (5, .int x5), (6, .int x6), (7, .int x7), (8, .int x8), (11, .ref (ad 82)), (20, .int x20), (22, .int x22), (24, .int x24), (25, .int x25)]) : W p l e room_1 s m #[Value.ref b] below meth c H locs (220) (2200) (lw_Z below #[Value.ref b] s) (F0 m 1211 ls [.int t0, .int t1]) := by
  obtain ⟨⟨hx, hb, hml, hown, hts, hr, hlocks⟩, hX, hbl, hK⟩ := C0
  have hbA : ¬ La s b := Nat.not_le.mpr hbl
  have hA2 : ∀ q, s.heap.size ≤ q → La s q := fun _ h => h
  have hD := wd_Dg (A := La s) (cel := celL ad cA) (σ := s0) hi hda
  unfold B_L_law_1211 at hv
  refine lv_iadd hx hb dL_law_1211 ?_
  refine lv_istore (lv' := [(23, .int (t1 + t0)), (0, .ref b), (1, .ref (ad 0)), (2, .ref (ad 81)), (3, .int x3), (4, .int x4), (5, .int x5), (6, .int x6), (7, .int x7), (8, .int x8), (11, .ref (ad 82)), (20, .int x20), (22, .int x22), (24, .int x24), (25, .int x25)]) hx hb dL_law_1212 hl (by decide) rfl (fun ls hl => ?_)
  refine lv_iload hx hb dL_law_1214 (lv_at hl 14 rfl) ?_
  refine lv_iload hx hb dL_law_1216 (lv_at hl 11 rfl) ?_
  refine lv_icmp_le (tgt := 1223) hx hb dL_law_1218 (by decide) (fun c1218 => ?_) (fun c1218 => ?_)
  · have hv := hv.1 c1218
    refine lv_iinc (v := x24 + 1) (lv' := [(24, .int (x24 + 1)), (23, .int (t1 + t0)), (0, .ref b), (1, .ref (ad 0)), (2, .ref (ad 81)), (3, .int x3), (4, .int x4), (5, .int x5), (6, .int x6), (7, .int x7), (8, .int x8), (11, .ref (ad 82)), (20, .int x20), (22, .int x22), (25, .int x25)]) hx hb dL_law_1223 hl (k := 13) rfl rfl (by decide) rfl (fun ls hl => ?_)
    refine lv_goto (tgt := 1175) hx hb dL_law_1226 (by decide) ?_
    exact hY 1175 [x3, x4, x5, x6, x7, x8, x20, x22, t1 + t0, x24 + 1] [] s0 hv _ _ _ _ _ rfl ad H locs ls hi hda hP hS (lv_sub hl [2, 3, 4, 5, 6, 7, 8, 9, 10, 11, 12, 13, 1, 0] rfl)
  · have hv := hv.2 c1218
    refine lv_iconst (v := 0) hx hb dL_law_1221 (by decide) ?_
    exact hv.elim
set_option maxHeartbeats 8000000 in
set_option maxRecDepth 100000 in
theorem w_L_law_1247 {p : Program} {l : Launch} {e : Env} {s : State} {m : MethodId} {below : List Frame} {meth : Method} {c : Code} {dC : Nat → ClassId} {dI : Nat → Nat → Nat} {cA cZ : ClassId} {b L : Nat} {xs : Nat → Int32} (C0 : LC p s m meth c b L xs dC dI cA cZ) (Y : Nat → List Int32 → List Int64 → St → Prop) (hY : ∀ P xs ys σ, Y P xs ys σ → XW p l e s m below meth c b dC dI cA P xs ys σ) (x3 : Int32) (x4 : Int32) (x5 : Int32) (x6 : Int32) (x7 : Int32) (x8 : Int32) (s0 : St) (hv : B_L_law_1247 L xs Y x3 x4 x5 x6 x7 x8 s0) {ad : Nat → Nat} (hi : Inj 85 ad) (hda : ∀ k, k < 85 → La s (ad k)) {H : Heap} {locs : List Loc} {ls : Array Slot} (hP : va_P (dC, dI) vwCl (wd 85 ad (celL ad cA) s0) H) (hS : va_S (La s) s.heap H locs) (hl : lv_has ls 32 [(0, .ref b), (1, .ref (ad 0)), (2, .ref (ad 81)), (3, .int x3), (4, .int x4), (5, .int x5), (6, .int x6), (7, .int x7), (8, .int x8), (11, .ref (ad 82))]) : W p l e room_1 s m #[Value.ref b] below meth c H locs (220) (2200) (lw_Z below #[Value.ref b] s) (F0 m 1247 ls []) := by
  obtain ⟨⟨hx, hb, hml, hown, hts, hr, hlocks⟩, hX, hbl, hK⟩ := C0
  have hbA : ¬ La s b := Nat.not_le.mpr hbl
  have hA2 : ∀ q, s.heap.size ≤ q → La s q := fun _ h => h
  have hD := wd_Dg (A := La s) (cel := celL ad cA) (σ := s0) hi hda
  unfold B_L_law_1247 at hv
  refine lv_iconst (v := 1) hx hb dL_law_1247 (by decide) ?_
  refine lv_aload_n hx hb dL_law_1248 rfl (lv_at hl 0 rfl) ?_
  refine lv_bipush (v := 17) hx hb dL_law_1249 (by decide) ?_
  refine r_hci hS (aa_A (Nat.le_refl _) hda hA2 hS) (va_runS (As := [.ref b, .int 17]) (rest := [.int 1]) ⟨hx, hb, hml, hown, hts⟩ (c_L_cell (b := b) (L := L) (xs := xs) hi (by decide) (fun k hk e => hbA (e ▸ hda k hk)) 17 _ _ hv H.size (Nat.lt_of_lt_of_le hbl hS.1)) (va_cwS 2 (fun w h => hts w (iv_L_cell_9 w h)) gv_L_cell_9 rfl rfl rfl (by decide +kernel) ⟨(Nat.le_of_ble_eq_true rfl), (Nat.le_of_ble_eq_true rfl)⟩) ⟨preL_blind, preL_of hP hK (hX.kept (hS.2.1 b hbl hbA))⟩ rfl rfl hl.1 rfl (lv_room (Nat.le_of_ble_eq_true rfl)) dL_law_1251 ⟨Nat.le_trans (by omega : _ ≤ 300) (Nat.le_of_ble_eq_true rfl), Nat.le_trans (by omega : _ ≤ 3000) (Nat.le_of_ble_eq_true rfl)⟩) (fun r1 s1 H locs hv hP hS => ?_)
  have hD := wd_Dg (A := La s) (cel := celL ad cA) (σ := s1) hi hda
  refine lv_bipush (v := 60) hx hb dL_law_1254 (by decide) ?_
  refine r_hci hS (aa_A (Nat.le_refl _) hda hA2 hS) (va_runS (As := [.int r1, .int 60]) (rest := [.int 1]) ⟨hx, hb, hml, hown, hts⟩ (c_L_up (b := b) (L := L) (xs := xs) hi (by decide) (fun k hk e => hbA (e ▸ hda k hk)) r1 60 _ _ hv H.size (Nat.lt_of_lt_of_le hbl hS.1)) (va_cwS 2 (fun w h => hts w (iv_L_up_15 w h)) gv_L_up_15 rfl rfl rfl (by decide +kernel) ⟨(Nat.le_of_ble_eq_true rfl), (Nat.le_of_ble_eq_true rfl)⟩) ⟨preL_blind, preL_of hP hK (hX.kept (hS.2.1 b hbl hbA))⟩ rfl rfl hl.1 rfl (lv_room (Nat.le_of_ble_eq_true rfl)) dL_law_1256 ⟨Nat.le_trans (by omega : _ ≤ 300) (Nat.le_of_ble_eq_true rfl), Nat.le_trans (by omega : _ ≤ 3000) (Nat.le_of_ble_eq_true rfl)⟩) (fun r2 s2 H locs hv hP hS => ?_)
  have hD := wd_Dg (A := La s) (cel := celL ad cA) (σ := s2) hi hda
  refine lv_iadd hx hb dL_law_1259 ?_
  refine lv_istore (lv' := [(24, .int (1 + r2)), (0, .ref b), (1, .ref (ad 0)), (2, .ref (ad 81)), (3, .int x3), (4, .int x4), (5, .int x5), (6, .int x6), (7, .int x7), (8, .int x8), (11, .ref (ad 82))]) hx hb dL_law_1260 hl (by decide) rfl (fun ls hl => ?_)
  refine lv_aload_n hx hb dL_law_1262 rfl (lv_at hl 2 rfl) ?_
  refine lv_iload hx hb dL_law_1263 (lv_at hl 0 rfl) ?_
  refine r_lci hi hP hS (aa_A (by decide) hda hA2 hS) (va_runV (As := [.int (1 + r2)]) (rest := []) ⟨hx, hb, hml, hown, hts⟩ (c_X10_hold (inj_le (by decide) hi) (1 + r2) _ _ hv H.size) (cwV 1 (fun w h => hts w (iv_X10_hold_81 w h)) gv_X10_hold_81 rfl rfl rfl (by decide +kernel) ⟨(Nat.le_of_ble_eq_true rfl), (Nat.le_of_ble_eq_true rfl)⟩) ⟨pre_blind, r_recv hK.1 (wd_cls (by decide) hP) 0 (by decide) (ceGR_0 (s2 0)) rfl, pre_of (wd_cls (by decide) hP) hK⟩ rfl rfl hl.1 rfl (lv_room (Nat.le_of_ble_eq_true rfl)) dL_law_1265 ⟨Nat.le_trans (by omega : _ ≤ 300) (Nat.le_of_ble_eq_true rfl), Nat.le_trans (by omega : _ ≤ 3000) (Nat.le_of_ble_eq_true rfl)⟩) (fun r3 s3 H locs hv hP hS => ?_)
  have hD := wd_Dg (A := La s) (cel := celL ad cA) (σ := s3) hi hda
  refine lv_istore (lv' := [(25, .int r3), (24, .int (1 + r2)), (0, .ref b), (1, .ref (ad 0)), (2, .ref (ad 81)), (3, .int x3), (4, .int x4), (5, .int x5), (6, .int x6), (7, .int x7), (8, .int x8), (11, .ref (ad 82))]) hx hb dL_law_1268 hl (by decide) rfl (fun ls hl => ?_)
  refine lv_iload hx hb dL_law_1270 (lv_at hl 0 rfl) ?_
  refine lv_iconst (v := (-1)) hx hb dL_law_1272 (by decide) ?_
  refine lv_icmp_lt (tgt := 1285) hx hb dL_law_1273 (by decide) (fun c1273 => ?_) (fun c1273 => ?_)
  · have hv := hv.1 c1273
    refine lv_iconst (v := 0) hx hb dL_law_1285 (by decide) ?_
    exact hv.elim
  · have hv := hv.2 c1273
    refine lv_iload hx hb dL_law_1276 (lv_at hl 0 rfl) ?_
    refine lv_iconst (v := 1) hx hb dL_law_1278 (by decide) ?_
    refine lv_iload hx hb dL_law_1279 (lv_at hl 6 rfl) ?_
    refine lv_ishl hx hb dL_law_1281 ?_
    refine lv_icmp_lt (tgt := 1287) hx hb dL_law_1282 (by decide) (fun c1282 => ?_) (fun c1282 => ?_)
    · have hv := hv.1 c1282
      refine lv_iconst (v := 0) hx hb dL_law_1287 (by decide) ?_
      refine lv_istore (lv' := [(26, .int 0), (25, .int r3), (24, .int (1 + r2)), (0, .ref b), (1, .ref (ad 0)), (2, .ref (ad 81)), (3, .int x3), (4, .int x4), (5, .int x5), (6, .int x6), (7, .int x7), (8, .int x8), (11, .ref (ad 82))]) hx hb dL_law_1288 hl (by decide) rfl (fun ls hl => ?_)
      exact hY 1290 [x3, x4, x5, x6, x7, x8, 1 + r2, r3, 0] [] s3 hv _ _ _ _ _ rfl ad H locs ls hi hda hP hS (lv_sub hl [3, 4, 5, 6, 7, 8, 9, 10, 11, 12, 2, 1, 0] rfl)
    · have hv := hv.2 c1282
      refine lv_iconst (v := 0) hx hb dL_law_1285 (by decide) ?_
      exact hv.elim
set_option maxHeartbeats 8000000 in
set_option maxRecDepth 100000 in
theorem w_L_law_1290 {p : Program} {l : Launch} {e : Env} {s : State} {m : MethodId} {below : List Frame} {meth : Method} {c : Code} {dC : Nat → ClassId} {dI : Nat → Nat → Nat} {cA cZ : ClassId} {b L : Nat} {xs : Nat → Int32} (C0 : LC p s m meth c b L xs dC dI cA cZ) (Y : Nat → List Int32 → List Int64 → St → Prop) (hY : ∀ P xs ys σ, Y P xs ys σ → XW p l e s m below meth c b dC dI cA P xs ys σ) (x3 : Int32) (x4 : Int32) (x5 : Int32) (x6 : Int32) (x7 : Int32) (x8 : Int32) (x24 : Int32) (x25 : Int32) (x26 : Int32) (s0 : St) (hv : B_L_law_1290 L xs Y x3 x4 x5 x6 x7 x8 x24 x25 x26 s0) {ad : Nat → Nat} (hi : Inj 85 ad) (hda : ∀ k, k < 85 → La s (ad k)) {H : Heap} {locs : List Loc} {ls : Array Slot} (hP : va_P (dC, dI) vwCl (wd 85 ad (celL ad cA) s0) H) (hS : va_S (La s) s.heap H locs) (hl : lv_has ls 32 [(0, .ref b), (1, .ref (ad 0)), (2, .ref (ad 81)), (3, .int x3), (4, .int x4), (5, .int x5), (6, .int x6), (7, .int x7), (8, .int x8), (11, .ref (ad 82)), (24, .int x24), (25, .int x25), (26, .int x26)]) : W p l e room_1 s m #[Value.ref b] below meth c H locs (220) (2200) (lw_Z below #[Value.ref b] s) (F0 m 1290 ls []) := by
  obtain ⟨⟨hx, hb, hml, hown, hts, hr, hlocks⟩, hX, hbl, hK⟩ := C0
  have hbA : ¬ La s b := Nat.not_le.mpr hbl
  have hA2 : ∀ q, s.heap.size ≤ q → La s q := fun _ h => h
  have hD := wd_Dg (A := La s) (cel := celL ad cA) (σ := s0) hi hda
  unfold B_L_law_1290 at hv
  refine lv_iload hx hb dL_law_1290 (lv_at hl 12 rfl) ?_
  refine lv_iload hx hb dL_law_1292 (lv_at hl 4 rfl) ?_
  refine lv_icmp_ge (tgt := 1343) hx hb dL_law_1294 (by decide) (fun c1294 => ?_) (fun c1294 => ?_)
  · have hv := hv.1 c1294
    exact hY 1343 [x3, x4, x5, x6, x7, x8, x24, x25] [] s0 hv _ _ _ _ _ rfl ad H locs ls hi hda hP hS (lv_sub hl [0, 1, 2, 3, 4, 5, 6, 7, 8, 9, 10, 11] rfl)
  · have hv := hv.2 c1294
    refine lv_iload hx hb dL_law_1297 (lv_at hl 11 rfl) ?_
    refine lv_if_lt (tgt := 1343) hx hb dL_law_1299 (by decide) (fun c1299 => ?_) (fun c1299 => ?_)
    · have hv := hv.1 c1299
      exact hY 1343 [x3, x4, x5, x6, x7, x8, x24, x25] [] s0 hv _ _ _ _ _ rfl ad H locs ls hi hda hP hS (lv_sub hl [0, 1, 2, 3, 4, 5, 6, 7, 8, 9, 10, 11] rfl)
    · have hv := hv.2 c1299
      refine lv_aload_n hx hb dL_law_1302 rfl (lv_at hl 1 rfl) ?_
      refine lv_iload hx hb dL_law_1303 (lv_at hl 12 rfl) ?_
      refine lv_iconst (v := 2) hx hb dL_law_1305 (by decide) ?_
      refine r_lci hi hP hS (aa_A (by decide) hda hA2 hS) (va_runV (As := [.int x26, .int 2]) (rest := []) ⟨hx, hb, hml, hown, hts⟩ (c_X10_about (inj_le (by decide) hi) x26 2 _ _ hv H.size) (cwV 2 (fun w h => hts w (iv_X10_about_60 w h)) gv_X10_about_60 rfl rfl rfl (by decide +kernel) ⟨(Nat.le_of_ble_eq_true rfl), (Nat.le_of_ble_eq_true rfl)⟩) ⟨pre_blind, r_recv hK.1 (wd_cls (by decide) hP) 0 (by decide) (ceGR_0 (s0 0)) rfl, pre_of (wd_cls (by decide) hP) hK⟩ rfl rfl hl.1 rfl (lv_room (Nat.le_of_ble_eq_true rfl)) dL_law_1306 ⟨Nat.le_trans (by omega : _ ≤ 300) (Nat.le_of_ble_eq_true rfl), Nat.le_trans (by omega : _ ≤ 3000) (Nat.le_of_ble_eq_true rfl)⟩) (fun r1 s1 H locs hv hP hS => ?_)
      have hD := wd_Dg (A := La s) (cel := celL ad cA) (σ := s1) hi hda
      refine lv_iload hx hb dL_law_1309 (lv_at hl 11 rfl) ?_
      refine lv_iload hx hb dL_law_1311 (lv_at hl 12 rfl) ?_
      refine lv_ishr hx hb dL_law_1313 ?_
      refine lv_iconst (v := 1) hx hb dL_law_1314 (by decide) ?_
      refine lv_iand hx hb dL_law_1315 ?_
      refine lv_icmp_eq (tgt := 1337) hx hb dL_law_1316 (by decide) (fun c1316 => ?_) (fun c1316 => ?_)
      · have hv := hv.1 c1316
        refine lv_iinc (v := x26 + 1) (lv' := [(26, .int (x26 + 1)), (0, .ref b), (1, .ref (ad 0)), (2, .ref (ad 81)), (3, .int x3), (4, .int x4), (5, .int x5), (6, .int x6), (7, .int x7), (8, .int x8), (11, .ref (ad 82)), (24, .int x24), (25, .int x25)]) hx hb dL_law_1337 hl (k := 12) rfl rfl (by decide) rfl (fun ls hl => ?_)
        refine lv_goto (tgt := 1290) hx hb dL_law_1340 (by decide) ?_
        exact hY 1290 [x3, x4, x5, x6, x7, x8, x24, x25, x26 + 1] [] s1 hv _ _ _ _ _ rfl ad H locs ls hi hda hP hS (lv_sub hl [1, 2, 3, 4, 5, 6, 7, 8, 9, 10, 11, 12, 0] rfl)
      · have hv := hv.2 c1316
        refine lv_aload_n hx hb dL_law_1319 rfl (lv_at hl 1 rfl) ?_
        refine lv_iload hx hb dL_law_1320 (lv_at hl 12 rfl) ?_
        refine r_lci hi hP hS (aa_A (by decide) hda hA2 hS) (va_runV (As := [.int x26]) (rest := []) ⟨hx, hb, hml, hown, hts⟩ (c_X10_shuts (inj_le (by decide) hi) x26 _ _ hv H.size) (cwV 1 (fun w h => hts w (iv_X10_shuts_44 w h)) gv_X10_shuts_44 rfl rfl rfl (by decide +kernel) ⟨(Nat.le_of_ble_eq_true rfl), (Nat.le_of_ble_eq_true rfl)⟩) ⟨pre_blind, r_recv hK.1 (wd_cls (by decide) hP) 0 (by decide) (ceGR_0 (s1 0)) rfl, pre_of (wd_cls (by decide) hP) hK⟩ rfl rfl hl.1 rfl (lv_room (Nat.le_of_ble_eq_true rfl)) dL_law_1322 ⟨Nat.le_trans (by omega : _ ≤ 300) (Nat.le_of_ble_eq_true rfl), Nat.le_trans (by omega : _ ≤ 3000) (Nat.le_of_ble_eq_true rfl)⟩) (fun r2 s2 H locs hv hP hS => ?_)
        have hD := wd_Dg (A := La s) (cel := celL ad cA) (σ := s2) hi hda
        refine lv_iload hx hb dL_law_1325 (lv_at hl 11 rfl) ?_
        refine lv_iload hx hb dL_law_1327 (lv_at hl 12 rfl) ?_
        refine lv_ishr hx hb dL_law_1329 ?_
        refine lv_iconst (v := 1) hx hb dL_law_1330 (by decide) ?_
        refine lv_iand hx hb dL_law_1331 ?_
        refine lv_icmp_eq (tgt := 1337) hx hb dL_law_1332 (by decide) (fun c1332 => ?_) (fun c1332 => ?_)
        · have hv := hv.1 c1332
          refine lv_iinc (v := x26 + 1) (lv' := [(26, .int (x26 + 1)), (0, .ref b), (1, .ref (ad 0)), (2, .ref (ad 81)), (3, .int x3), (4, .int x4), (5, .int x5), (6, .int x6), (7, .int x7), (8, .int x8), (11, .ref (ad 82)), (24, .int x24), (25, .int x25)]) hx hb dL_law_1337 hl (k := 12) rfl rfl (by decide) rfl (fun ls hl => ?_)
          refine lv_goto (tgt := 1290) hx hb dL_law_1340 (by decide) ?_
          exact hY 1290 [x3, x4, x5, x6, x7, x8, x24, x25, x26 + 1] [] s2 hv _ _ _ _ _ rfl ad H locs ls hi hda hP hS (lv_sub hl [1, 2, 3, 4, 5, 6, 7, 8, 9, 10, 11, 12, 0] rfl)
        · have hv := hv.2 c1332
          refine lv_iconst (v := 0) hx hb dL_law_1335 (by decide) ?_
          exact hv.elim
