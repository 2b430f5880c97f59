set_option maxHeartbeats 8000000 in
set_option maxRecDepth 100000 in
theorem w_L_law_1719 {p : Program} {l : Launch} {e : Env} {s : State} {m : MethodId} {below : List Frame} {meth : Method} {c : Code} {dC : Nat → ClassId} {dI : Nat → Nat → Nat} {cA cZ : ClassId} {b L : Nat} {xs : Nat → Int32} (C0 : LC p s m meth c b L xs dC dI cA cZ) (Y : Nat → List Int32 → List Int64 → St → Prop) (hY : ∀ P xs ys σ, Y P xs ys σ → XW p l e s m below meth c b dC dI cA P xs ys σ) (x3 : Int32) (x4 : Int32) (x5 : Int32) (x6 : Int32) (x7 : Int32) (x8 : Int32) (x26 : Int32) (s0 : St) (hv : B_L_law_1719 L xs Y x3 x4 x5 x6 x7 x8 x26 s0) {ad : Nat → Nat} (hi : Inj 85 ad) (hda : ∀ k, k < 85 → La s (ad k)) {H : Heap} {locs : List Loc} {ls : Array Slot} (hP : va_P (dC, dI) vwCl (wd 85 ad (celL ad cA) s0) H) (hS : va_S (La s) s.heap H locs) (hl : lv_has ls 32 [(0, .ref b), (1, .ref (ad 0)), (2, .ref (ad 81)), (3, .int x3), (4, .int x4), (5, .int x5), (6, .int x6), (7, .int x7), (8, .int x8), (11, .ref (ad 82)), (26, .int x26)]) : W p l e room_1 s m #[Value.ref b] below meth c H locs (220) (2200) (lw_Z below #[Value.ref b] s) (F0 m 1719 ls []) := by
  obtain ⟨⟨hx, hb, hml, hown, hts, hr, hlocks⟩, hX, hbl, hK⟩ := C0
  have hbA : ¬ La s b := Nat.not_le.mpr hbl
  have hA2 : ∀ q, s.heap.size ≤ q → La s q := fun _ h => h
  have hD := wd_Dg (A := La s) (cel := celL ad cA) (σ := s0) hi hda
  unfold B_L_law_1719 at hv
  refine lv_aload_n hx hb dL_law_1719 rfl (lv_at hl 1 rfl) ?_
  refine lv_iload hx hb dL_law_1720 (lv_at hl 10 rfl) ?_
  refine lv_iload hx hb dL_law_1722 (lv_at hl 5 rfl) ?_
  refine lv_bipush (v := 100) hx hb dL_law_1724 (by decide) ?_
  refine lv_irem hx hb dL_law_1726 (by decide) ?_
  refine lv_aload_n hx hb dL_law_1727 rfl (lv_at hl 2 rfl) ?_
  refine lv_iconst (v := 4) hx hb dL_law_1728 (by decide) ?_
  refine lv_iload hx hb dL_law_1729 (lv_at hl 5 rfl) ?_
  refine lv_bipush (v := 6) hx hb dL_law_1731 (by decide) ?_
  refine lv_irem hx hb dL_law_1733 (by decide) ?_
  refine lv_iadd hx hb dL_law_1734 ?_
  obtain ⟨hin, hv⟩ := hv
  refine r_iald hx hb hK.1 hP 81 (by decide) (ceL_81 (s0 81)) hin dL_law_1735 ?_
  refine lv_aload_n hx hb dL_law_1736 rfl (lv_at hl 1 rfl) ?_
  refine lv_iload hx hb dL_law_1737 (lv_at hl 10 rfl) ?_
  refine lv_iconst (v := 4) hx hb dL_law_1739 (by decide) ?_
  refine r_lci hi hP hS (aa_A (by decide) hda hA2 hS) (va_runV (As := [.int x26, .int 4]) (rest := [.int (s0 81 (4 + (x5 - x5 / 6 * 6)).toNatClampNeg), .int (x5 - x5 / 100 * 100), .int x26, .ref (ad 0)]) ⟨hx, hb, hml, hown, hts⟩ (c_X10_of (inj_le (by decide) hi) x26 4 _ _ hv H.size) (cwV 2 (fun w h => hts w (iv_X10_of_51 w h)) gv_X10_of_51 rfl rfl rfl (by decide +kernel) ⟨(Nat.le_of_ble_eq_true rfl), (Nat.le_of_ble_eq_true rfl)⟩) ⟨pre_blind, r_recv hK.1 (wd_cls (by decide) hP) 0 (by decide) (ceGR_0 (s0 0)) rfl, pre_of (wd_cls (by decide) hP) hK⟩ rfl rfl hl.1 rfl (lv_room (Nat.le_of_ble_eq_true rfl)) dL_law_1740 ⟨Nat.le_trans (by omega : _ ≤ 300) (Nat.le_of_ble_eq_true rfl), Nat.le_trans (by omega : _ ≤ 3000) (Nat.le_of_ble_eq_true rfl)⟩) (fun r1 s1 H locs hv hP hS => ?_)
  have hD := wd_Dg (A := La s) (cel := celL ad cA) (σ := s1) hi hda
  refine r_lci hi hP hS (aa_A (by decide) hda hA2 hS) (va_runV (As := [.int x26, .int (x5 - x5 / 100 * 100), .int (s0 81 (4 + (x5 - x5 / 6 * 6)).toNatClampNeg), .int r1]) (rest := []) ⟨hx, hb, hml, hown, hts⟩ (c_X10_note (inj_le (by decide) hi) x26 (x5 - x5 / 100 * 100) (s0 81 (4 + (x5 - x5 / 6 * 6)).toNatClampNeg) r1 _ _ hv H.size) (cwV 4 (fun w h => hts w (iv_X10_note_103 w h)) gv_X10_note_103 rfl rfl rfl (by decide +kernel) ⟨(Nat.le_of_ble_eq_true rfl), (Nat.le_of_ble_eq_true rfl)⟩) ⟨pre_blind, r_recv hK.1 (wd_cls (by decide) hP) 0 (by decide) (ceGR_0 (s1 0)) rfl, pre_of (wd_cls (by decide) hP) hK⟩ rfl rfl hl.1 rfl (lv_room (Nat.le_of_ble_eq_true rfl)) dL_law_1743 ⟨Nat.le_trans (by omega : _ ≤ 300) (Nat.le_of_ble_eq_true rfl), Nat.le_trans (by omega : _ ≤ 3000) (Nat.le_of_ble_eq_true rfl)⟩) (fun r2 s2 H locs hv hP hS => ?_)
  have hD := wd_Dg (A := La s) (cel := celL ad cA) (σ := s2) hi hda
  refine lv_iconst (v := 1) hx hb dL_law_1746 (by decide) ?_
  refine lv_icmp_ne (tgt := 1788) hx hb dL_law_1747 (by decide) (fun c1747 => ?_) (fun c1747 => ?_)
  · have hv := hv.1 c1747
    refine lv_iconst (v := 0) hx hb dL_law_1788 (by decide) ?_
    exact hv.elim
  · have hv := hv.2 c1747
    refine lv_aload_n hx hb dL_law_1750 rfl (lv_at hl 1 rfl) ?_
    refine lv_iload hx hb dL_law_1751 (lv_at hl 10 rfl) ?_
    refine r_lci hi hP hS (aa_A (by decide) hda hA2 hS) (va_runV (As := [.int x26]) (rest := []) ⟨hx, hb, hml, hown, hts⟩ (c_X10_is (inj_le (by decide) hi) x26 _ _ hv H.size) (cwV 1 (fun w h => hts w (iv_X10_is_107 w h)) gv_X10_is_107 rfl rfl rfl (by decide +kernel) ⟨(Nat.le_of_ble_eq_true rfl), (Nat.le_of_ble_eq_true rfl)⟩) ⟨pre_blind, r_recv hK.1 (wd_cls (by decide) hP) 0 (by decide) (ceGR_0 (s2 0)) rfl, pre_of (wd_cls (by decide) hP) hK⟩ rfl rfl hl.1 rfl (lv_room (Nat.le_of_ble_eq_true rfl)) dL_law_1753 ⟨Nat.le_trans (by omega : _ ≤ 300) (Nat.le_of_ble_eq_true rfl), Nat.le_trans (by omega : _ ≤ 3000) (Nat.le_of_ble_eq_true rfl)⟩) (fun r3 s3 H locs hv hP hS => ?_)
    have hD := wd_Dg (A := La s) (cel := celL ad cA) (σ := s3) hi hda
    refine lv_aload_n hx hb dL_law_1756 rfl (lv_at hl 2 rfl) ?_
    refine lv_bipush (v := 10) hx hb dL_law_1757 (by decide) ?_
    refine lv_iload hx hb dL_law_1759 (lv_at hl 10 rfl) ?_
    refine lv_iadd hx hb dL_law_1761 ?_
    obtain ⟨hin, hv⟩ := hv
    refine r_iald hx hb hK.1 hP 81 (by decide) (ceL_81 (s3 81)) hin dL_law_1762 ?_
    refine lv_ishr hx hb dL_law_1763 ?_
    refine lv_iconst (v := 1) hx hb dL_law_1764 (by decide) ?_
    refine lv_iand hx hb dL_law_1765 ?_
    refine lv_iconst (v := 1) hx hb dL_law_1766 (by decide) ?_
    refine lv_icmp_ne (tgt := 1788) hx hb dL_law_1767 (by decide) (fun c1767 => ?_) (fun c1767 => ?_)
    · have hv := hv.1 c1767
      refine lv_iconst (v := 0) hx hb dL_law_1788 (by decide) ?_
      exact hv.elim
    · have hv := hv.2 c1767
      refine lv_aload_n hx hb dL_law_1770 rfl (lv_at hl 1 rfl) ?_
      refine lv_iload hx hb dL_law_1771 (lv_at hl 10 rfl) ?_
      refine r_lci hi hP hS (aa_A (by decide) hda hA2 hS) (va_runV (As := [.int x26]) (rest := []) ⟨hx, hb, hml, hown, hts⟩ (c_X10_look (inj_le (by decide) hi) x26 _ _ hv H.size) (cwV 1 (fun w h => hts w (iv_X10_look_110 w h)) gv_X10_look_110 rfl rfl rfl (by decide +kernel) ⟨(Nat.le_of_ble_eq_true rfl), (Nat.le_of_ble_eq_true rfl)⟩) ⟨pre_blind, r_recv hK.1 (wd_cls (by decide) hP) 0 (by decide) (ceGR_0 (s3 0)) rfl, pre_of (wd_cls (by decide) hP) hK⟩ rfl rfl hl.1 rfl (lv_room (Nat.le_of_ble_eq_true rfl)) dL_law_1773 ⟨Nat.le_trans (by omega : _ ≤ 300) (Nat.le_of_ble_eq_true rfl), Nat.le_trans (by omega : _ ≤ 3000) (Nat.le_of_ble_eq_true rfl)⟩) (fun r4 s4 H locs hv hP hS => ?_)
      have hD := wd_Dg (A := La s) (cel := celL ad cA) (σ := s4) hi hda
      refine lv_if_lt (tgt := 1788) hx hb dL_law_1776 (by decide) (fun c1776 => ?_) (fun c1776 => ?_)
      · have hv := hv.1 c1776
        refine lv_iconst (v := 0) hx hb dL_law_1788 (by decide) ?_
        exact hv.elim
      · have hv := hv.2 c1776
        refine lv_aload_n hx hb dL_law_1779 rfl (lv_at hl 1 rfl) ?_
        refine lv_iconst (v := 1) hx hb dL_law_1780 (by decide) ?_
        refine r_lci hi hP hS (aa_A (by decide) hda hA2 hS) (va_runV (As := [.int 1]) (rest := []) ⟨hx, hb, hml, hown, hts⟩ (c_X10_forget (inj_le (by decide) hi) 1 _ _ hv H.size) (cwV 1 (fun w h => hts w (iv_X10_forget_100 w h)) gv_X10_forget_100 rfl rfl rfl (by decide +kernel) ⟨(Nat.le_of_ble_eq_true rfl), (Nat.le_of_ble_eq_true rfl)⟩) ⟨pre_blind, r_recv hK.1 (wd_cls (by decide) hP) 0 (by decide) (ceGR_0 (s4 0)) rfl, pre_of (wd_cls (by decide) hP) hK⟩ rfl rfl hl.1 rfl (lv_room (Nat.le_of_ble_eq_true rfl)) dL_law_1781 ⟨Nat.le_trans (by omega : _ ≤ 300) (Nat.le_of_ble_eq_true rfl), Nat.le_trans (by omega : _ ≤ 3000) (Nat.le_of_ble_eq_true rfl)⟩) (fun r5 s5 H locs hv hP hS => ?_)
        have hD := wd_Dg (A := La s) (cel := celL ad cA) (σ := s5) hi hda
        refine lv_iconst (v := 1) hx hb dL_law_1784 (by decide) ?_
        refine lv_icmp_eq (tgt := 1790) hx hb dL_law_1785 (by decide) (fun c1785 => ?_) (fun c1785 => ?_)
        · have hv := hv.1 c1785
          exact hY 1790 [x3, x4, x5, x6, x7, x8, x26] [] s5 hv _ _ _ _ _ rfl ad H locs ls hi hda hP hS (lv_sub hl [0, 1, 2, 3, 4, 5, 6, 7, 8, 9, 10] rfl)
        · have hv := hv.2 c1785
          refine lv_iconst (v := 0) hx hb dL_law_1788 (by decide) ?_
          exact hv.elim
set_option maxHeartbeats 8000000 in
set_option maxRecDepth 100000 in
theorem w_L_law_1790 {p : Program} {l : Launch} {e : Env} {s : State} {m : MethodId} {below : List Frame} {meth : Method} {c : Code} {dC : Nat → ClassId} {dI : Nat → Nat → Nat} {cA cZ : ClassId} {b L : Nat} {xs : Nat → Int32} (C0 : LC p s m meth c b L xs dC dI cA cZ) (Y : Nat → List Int32 → List Int64 → St → Prop) (hY : ∀ P xs ys σ, Y P xs ys σ → XW p l e s m below meth c b dC dI cA P xs ys σ) (x3 : Int32) (x4 : Int32) (x5 : Int32) (x6 : Int32) (x7 : Int32) (x8 : Int32) (x26 : Int32) (s0 : St) (hv : B_L_law_1790 L xs Y x3 x4 x5 x6 x7 x8 x26 s0) {ad : Nat → Nat} (hi : Inj 85 ad) (hda : ∀ k, k < 85 → La s (ad k)) {H : Heap} {locs : List Loc} {ls : Array Slot} (hP : va_P (dC, dI) vwCl (wd 85 ad (celL ad cA) s0) H) (hS : va_S (La s) s.heap H locs) (hl : lv_has ls 32 [(0, .ref b), (1, .ref (ad 0)), (2, .ref (ad 81)), (3, .int x3), (4, .int x4), (5, .int x5), (6, .int x6), (7, .int x7), (8, .int x8), (11, .ref (ad 82)), (26, .int x26)]) : W p l e room_1 s m #[Value.ref b] below meth c H locs (220) (2200) (lw_Z below #[Value.ref b] s) (F0 m 1790 ls []) := by
  obtain ⟨⟨hx, hb, hml, hown, hts, hr, hlocks⟩, hX, hbl, hK⟩ := C0
  have hbA : ¬ La s b := Nat.not_le.mpr hbl
  have hA2 : ∀ q, s.heap.size ≤ q → La s q := fun _ h => h
  have hD := wd_Dg (A := La s) (cel := celL ad cA) (σ := s0) hi hda
  unfold B_L_law_1790 at hv
  refine lv_aload_n hx hb dL_law_1790 rfl (lv_at hl 1 rfl) ?_
  refine lv_iload hx hb dL_law_1791 (lv_at hl 10 rfl) ?_
  refine lv_iconst (v := (-1)) hx hb dL_law_1793 (by decide) ?_
  refine r_lci hi hP hS (aa_A (by decide) hda hA2 hS) (va_runV (As := [.int x26, .int ((-1))]) (rest := []) ⟨hx, hb, hml, hown, hts⟩ (c_X10_lady (inj_le (by decide) hi) x26 ((-1)) _ _ hv H.size) (cwV 2 (fun w h => hts w (iv_X10_lady_113 w h)) gv_X10_lady_113 rfl rfl rfl (by decide +kernel) ⟨(Nat.le_of_ble_eq_true rfl), (Nat.le_of_ble_eq_true rfl)⟩) ⟨pre_blind, r_recv hK.1 (wd_cls (by decide) hP) 0 (by decide) (ceGR_0 (s0 0)) rfl, pre_of (wd_cls (by decide) hP) hK⟩ rfl rfl hl.1 rfl (lv_room (Nat.le_of_ble_eq_true rfl)) dL_law_1794 ⟨Nat.le_trans (by omega : _ ≤ 300) (Nat.le_of_ble_eq_true rfl), Nat.le_trans (by omega : _ ≤ 3000) (Nat.le_of_ble_eq_true rfl)⟩) (fun r1 s1 H locs hv hP hS => ?_)
  have hD := wd_Dg (A := La s) (cel := celL ad cA) (σ := s1) hi hda
  refine lv_istore (lv' := [(28, .int r1), (0, .ref b), (1, .ref (ad 0)), (2, .ref (ad 81)), (3, .int x3), (4, .int x4), (5, .int x5), (6, .int x6), (7, .int x7), (8, .int x8), (11, .ref (ad 82)), (26, .int x26)]) hx hb dL_law_1797 hl (by decide) rfl (fun ls hl => ?_)
  refine lv_iload hx hb dL_law_1799 (lv_at hl 0 rfl) ?_
  refine lv_if_lt (tgt := 1874) hx hb dL_law_1801 (by decide) (fun c1801 => ?_) (fun c1801 => ?_)
  · have hv := hv.1 c1801
    refine lv_iconst (v := 0) hx hb dL_law_1874 (by decide) ?_
    exact hv.elim
  · have hv := hv.2 c1801
    refine lv_iload hx hb dL_law_1804 (lv_at hl 0 rfl) ?_
    refine lv_bipush (v := 100) hx hb dL_law_1806 (by decide) ?_
    refine lv_icmp_gt (tgt := 1874) hx hb dL_law_1808 (by decide) (fun c1808 => ?_) (fun c1808 => ?_)
    · have hv := hv.1 c1808
      refine lv_iconst (v := 0) hx hb dL_law_1874 (by decide) ?_
      exact hv.elim
    · have hv := hv.2 c1808
      refine lv_aload_n hx hb dL_law_1811 rfl (lv_at hl 2 rfl) ?_
      refine lv_iload hx hb dL_law_1812 (lv_at hl 11 rfl) ?_
      refine lv_iload hx hb dL_law_1814 (lv_at hl 0 rfl) ?_
      refine r_lci hi hP hS (aa_A (by decide) hda hA2 hS) (va_runV (As := [.int x26, .int r1]) (rest := []) ⟨hx, hb, hml, hown, hts⟩ (c_X10_lady (inj_le (by decide) hi) x26 r1 _ _ hv H.size) (cwV 2 (fun w h => hts w (iv_X10_lady_113 w h)) gv_X10_lady_113 rfl rfl rfl (by decide +kernel) ⟨(Nat.le_of_ble_eq_true rfl), (Nat.le_of_ble_eq_true rfl)⟩) ⟨pre_blind, r_recv hK.1 (wd_cls (by decide) hP) 0 (by decide) (ceGR_0 (s1 0)) rfl, pre_of (wd_cls (by decide) hP) hK⟩ rfl rfl hl.1 rfl (lv_room (Nat.le_of_ble_eq_true rfl)) dL_law_1816 ⟨Nat.le_trans (by omega : _ ≤ 300) (Nat.le_of_ble_eq_true rfl), Nat.le_trans (by omega : _ ≤ 3000) (Nat.le_of_ble_eq_true rfl)⟩) (fun r2 s2 H locs hv hP hS => ?_)
      have hD := wd_Dg (A := La s) (cel := celL ad cA) (σ := s2) hi hda
      refine lv_bipush (v := (-5)) hx hb dL_law_1819 (by decide) ?_
      refine lv_icmp_ne (tgt := 1874) hx hb dL_law_1821 (by decide) (fun c1821 => ?_) (fun c1821 => ?_)
      · have hv := hv.1 c1821
        refine lv_iconst (v := 0) hx hb dL_law_1874 (by decide) ?_
        exact hv.elim
      · have hv := hv.2 c1821
        refine lv_iload hx hb dL_law_1824 (lv_at hl 0 rfl) ?_
        refine lv_if_le (tgt := 1876) hx hb dL_law_1826 (by decide) (fun c1826 => ?_) (fun c1826 => ?_)
        · have hv := hv.1 c1826
          exact hY 1876 [x3, x4, x5, x6, x7, x8] [] s2 hv _ _ _ _ _ rfl ad H locs ls hi hda hP hS (lv_sub hl [1, 2, 3, 4, 5, 6, 7, 8, 9, 10] rfl)
        · have hv := hv.2 c1826
          refine lv_aload_n hx hb dL_law_1829 rfl (lv_at hl 2 rfl) ?_
          refine lv_iload hx hb dL_law_1830 (lv_at hl 11 rfl) ?_
          refine lv_iconst (v := 0) hx hb dL_law_1832 (by decide) ?_
          refine r_lci hi hP hS (aa_A (by decide) hda hA2 hS) (va_runV (As := [.int x26, .int 0]) (rest := []) ⟨hx, hb, hml, hown, hts⟩ (c_X10_lady (inj_le (by decide) hi) x26 0 _ _ hv H.size) (cwV 2 (fun w h => hts w (iv_X10_lady_113 w h)) gv_X10_lady_113 rfl rfl rfl (by decide +kernel) ⟨(Nat.le_of_ble_eq_true rfl), (Nat.le_of_ble_eq_true rfl)⟩) ⟨pre_blind, r_recv hK.1 (wd_cls (by decide) hP) 0 (by decide) (ceGR_0 (s2 0)) rfl, pre_of (wd_cls (by decide) hP) hK⟩ rfl rfl hl.1 rfl (lv_room (Nat.le_of_ble_eq_true rfl)) dL_law_1833 ⟨Nat.le_trans (by omega : _ ≤ 300) (Nat.le_of_ble_eq_true rfl), Nat.le_trans (by omega : _ ≤ 3000) (Nat.le_of_ble_eq_true rfl)⟩) (fun r3 s3 H locs hv hP hS => ?_)
          have hD := wd_Dg (A := La s) (cel := celL ad cA) (σ := s3) hi hda
          refine lv_if_lt (tgt := 1874) hx hb dL_law_1836 (by decide) (fun c1836 => ?_) (fun c1836 => ?_)
          · have hv := hv.1 c1836
            refine lv_iconst (v := 0) hx hb dL_law_1874 (by decide) ?_
            exact hv.elim
          · have hv := hv.2 c1836
            refine lv_aload_n hx hb dL_law_1839 rfl (lv_at hl 2 rfl) ?_
            refine lv_iload hx hb dL_law_1840 (lv_at hl 11 rfl) ?_
            refine lv_iload hx hb dL_law_1842 (lv_at hl 0 rfl) ?_
            refine lv_iconst (v := 1) hx hb dL_law_1844 (by decide) ?_
            refine lv_isub hx hb dL_law_1845 ?_
            refine r_lci hi hP hS (aa_A (by decide) hda hA2 hS) (va_runV (As := [.int x26, .int (r1 - 1)]) (rest := []) ⟨hx, hb, hml, hown, hts⟩ (c_X10_lady (inj_le (by decide) hi) x26 (r1 - 1) _ _ hv H.size) (cwV 2 (fun w h => hts w (iv_X10_lady_113 w h)) gv_X10_lady_113 rfl rfl rfl (by decide +kernel) ⟨(Nat.le_of_ble_eq_true rfl), (Nat.le_of_ble_eq_true rfl)⟩) ⟨pre_blind, r_recv hK.1 (wd_cls (by decide) hP) 0 (by decide) (ceGR_0 (s3 0)) rfl, pre_of (wd_cls (by decide) hP) hK⟩ rfl rfl hl.1 rfl (lv_room (Nat.le_of_ble_eq_true rfl)) dL_law_1846 ⟨Nat.le_trans (by omega : _ ≤ 300) (Nat.le_of_ble_eq_true rfl), Nat.le_trans (by omega : _ ≤ 3000) (Nat.le_of_ble_eq_true rfl)⟩) (fun r4 s4 H locs hv hP hS => ?_)
            have hD := wd_Dg (A := La s) (cel := celL ad cA) (σ := s4) hi hda
            refine lv_aload_n hx hb dL_law_1849 rfl (lv_at hl 2 rfl) ?_
            refine lv_iload hx hb dL_law_1850 (lv_at hl 11 rfl) ?_
            refine lv_iconst (v := 0) hx hb dL_law_1852 (by decide) ?_
            refine r_lci hi hP hS (aa_A (by decide) hda hA2 hS) (va_runV (As := [.int x26, .int 0]) (rest := [.int r4]) ⟨hx, hb, hml, hown, hts⟩ (c_X10_lady (inj_le (by decide) hi) x26 0 _ _ hv H.size) (cwV 2 (fun w h => hts w (iv_X10_lady_113 w h)) gv_X10_lady_113 rfl rfl rfl (by decide +kernel) ⟨(Nat.le_of_ble_eq_true rfl), (Nat.le_of_ble_eq_true rfl)⟩) ⟨pre_blind, r_recv hK.1 (wd_cls (by decide) hP) 0 (by decide) (ceGR_0 (s4 0)) rfl, pre_of (wd_cls (by decide) hP) hK⟩ rfl rfl hl.1 rfl (lv_room (Nat.le_of_ble_eq_true rfl)) dL_law_1853 ⟨Nat.le_trans (by omega : _ ≤ 300) (Nat.le_of_ble_eq_true rfl), Nat.le_trans (by omega : _ ≤ 3000) (Nat.le_of_ble_eq_true rfl)⟩) (fun r5 s5 H locs hv hP hS => ?_)
            have hD := wd_Dg (A := La s) (cel := celL ad cA) (σ := s5) hi hda
            refine lv_icmp_lt (tgt := 1874) hx hb dL_law_1856 (by decide) (fun c1856 => ?_) (fun c1856 => ?_)
            · have hv := hv.1 c1856
              refine lv_iconst (v := 0) hx hb dL_law_1874 (by decide) ?_
              exact hv.elim
            · have hv := hv.2 c1856
              refine lv_aload_n hx hb dL_law_1859 rfl (lv_at hl 2 rfl) ?_
              refine lv_iload hx hb dL_law_1860 (lv_at hl 11 rfl) ?_
              refine lv_iload hx hb dL_law_1862 (lv_at hl 0 rfl) ?_
              refine lv_iconst (v := 1) hx hb dL_law_1864 (by decide) ?_
              refine lv_isub hx hb dL_law_1865 ?_
              refine r_lci hi hP hS (aa_A (by decide) hda hA2 hS) (va_runV (As := [.int x26, .int (r1 - 1)]) (rest := []) ⟨hx, hb, hml, hown, hts⟩ (c_X10_lady (inj_le (by decide) hi) x26 (r1 - 1) _ _ hv H.size) (cwV 2 (fun w h => hts w (iv_X10_lady_113 w h)) gv_X10_lady_113 rfl rfl rfl (by decide +kernel) ⟨(Nat.le_of_ble_eq_true rfl), (Nat.le_of_ble_eq_true rfl)⟩) ⟨pre_blind, r_recv hK.1 (wd_cls (by decide) hP) 0 (by decide) (ceGR_0 (s5 0)) rfl, pre_of (wd_cls (by decide) hP) hK⟩ rfl rfl hl.1 rfl (lv_room (Nat.le_of_ble_eq_true rfl)) dL_law_1866 ⟨Nat.le_trans (by omega : _ ≤ 300) (Nat.le_of_ble_eq_true rfl), Nat.le_trans (by omega : _ ≤ 3000) (Nat.le_of_ble_eq_true rfl)⟩) (fun r6 s6 H locs hv hP hS => ?_)
              have hD := wd_Dg (A := La s) (cel := celL ad cA) (σ := s6) hi hda
              refine lv_bipush (v := 99) hx hb dL_law_1869 (by decide) ?_
              refine lv_icmp_le (tgt := 1876) hx hb dL_law_1871 (by decide) (fun c1871 => ?_) (fun c1871 => ?_)
              · have hv := hv.1 c1871
                exact hY 1876 [x3, x4, x5, x6, x7, x8] [] s6 hv _ _ _ _ _ rfl ad H locs ls hi hda hP hS (lv_sub hl [1, 2, 3, 4, 5, 6, 7, 8, 9, 10] rfl)
              · have hv := hv.2 c1871
                refine lv_iconst (v := 0) hx hb dL_law_1874 (by decide) ?_
                exact hv.elim
set_option maxHeartbeats 8000000 in
set_option maxRecDepth 100000 in
theorem w_L_law_1876 {p : Program} {l : Launch} {e : Env} {s : State} {m : MethodId} {below : List Frame} {meth : Method} {c : Code} {dC : Nat → ClassId} {dI : Nat → Nat → Nat} {cA cZ : ClassId} {b L : Nat} {xs : Nat → Int32} (C0 : LC p s m meth c b L xs dC dI cA cZ) (Y : Nat → List Int32 → List Int64 → St → Prop) (hY : ∀ P xs ys σ, Y P xs ys σ → XW p l e s m below meth c b dC dI cA P xs ys σ) (x3 : Int32) (x4 : Int32) (x5 : Int32) (x6 : Int32) (x7 : Int32) (x8 : Int32) (s0 : St) (hv : B_L_law_1876 L xs Y x3 x4 x5 x6 x7 x8 s0) {ad : Nat → Nat} (hi : Inj 85 ad) (hda : ∀ k, k < 85 → La s (ad k)) {H : Heap} {locs : List Loc} {ls : Array Slot} (hP : va_P (dC, dI) vwCl (wd 85 ad (celL ad cA) s0) H) (hS : va_S (La s) s.heap H locs) (hl : lv_has ls 32 [(0, .ref b), (1, .ref (ad 0)), (2, .ref (ad 81)), (3, .int x3), (4, .int x4), (5, .int x5), (6, .int x6), (7, .int x7), (8, .int x8), (11, .ref (ad 82))]) : W p l e room_1 s m #[Value.ref b] below meth c H locs (220) (2200) (lw_Z below #[Value.ref b] s) (F0 m 1876 ls []) := by
  obtain ⟨⟨hx, hb, hml, hown, hts, hr, hlocks⟩, hX, hbl, hK⟩ := C0
  have hbA : ¬ La s b := Nat.not_le.mpr hbl
  have hA2 : ∀ q, s.heap.size ≤ q → La s q := fun _ h => h
  have hD := wd_Dg (A := La s) (cel := celL ad cA) (σ := s0) hi hda
  unfold B_L_law_1876 at hv
  refine lv_iconst (v := 0) hx hb dL_law_1876 (by decide) ?_
  refine lv_istore (lv' := [(26, .int 0), (0, .ref b), (1, .ref (ad 0)), (2, .ref (ad 81)), (3, .int x3), (4, .int x4), (5, .int x5), (6, .int x6), (7, .int x7), (8, .int x8), (11, .ref (ad 82))]) hx hb dL_law_1877 hl (by decide) rfl (fun ls hl => ?_)
  exact hY 1879 [x3, x4, x5, x6, x7, x8, 0] [] s0 hv _ _ _ _ _ rfl ad H locs ls hi hda hP hS (lv_sub hl [1, 2, 3, 4, 5, 6, 7, 8, 9, 10, 0] rfl)
set_option maxHeartbeats 8000000 in
set_option maxRecDepth 100000 in
theorem w_L_law_1879 {p : Program} {l : Launch} {e : Env} {s : State} {m : MethodId} {below : List Frame} {meth : Method} {c : Code} {dC : Nat → ClassId} {dI : Nat → Nat → Nat} {cA cZ : ClassId} {b L : Nat} {xs : Nat → Int32} (C0 : LC p s m meth c b L xs dC dI cA cZ) (Y : Nat → List Int32 → List Int64 → St → Prop) (hY : ∀ P xs ys σ, Y P xs ys σ → XW p l e s m below meth c b dC dI cA P xs ys σ) (x3 : Int32) (x4 : Int32) (x5 : Int32) (x6 : Int32) (x7 : Int32) (x8 : Int32) (x26 : Int32) (s0 : St) (hv : B_L_law_1879 L xs Y x3 x4 x5 x6 x7 x8 x26 s0) {ad : Nat → Nat} (hi : Inj 85 ad) (hda : ∀ k, k < 85 → La s (ad k)) {H : Heap} {locs : List Loc} {ls : Array Slot} (hP : va_P (dC, dI) vwCl (wd 85 ad (celL ad cA) s0) H) (hS : va_S (La s) s.heap H locs) (hl : lv_has ls 32 [(0, .ref b), (1, .ref (ad 0)), (2, .ref (ad 81)), (3, .int x3), (4, .int x4), (5, .int x5), (6, .int x6), (7, .int x7), (8, .int x8), (11, .ref (ad 82)), (26, .int x26)]) : W p l e room_1 s m #[Value.ref b] below meth c H locs (220) (2200) (lw_Z below #[Value.ref b] s) (F0 m 1879 ls []) := by
  obtain ⟨⟨hx, hb, hml, hown, hts, hr, hlocks⟩, hX, hbl, hK⟩ := C0
  have hbA : ¬ La s b := Nat.not_le.mpr hbl
  have hA2 : ∀ q, s.heap.size ≤ q → La s q := fun _ h => h
  have hD := wd_Dg (A := La s) (cel := celL ad cA) (σ := s0) hi hda
  unfold B_L_law_1879 at hv
  refine lv_iload hx hb dL_law_1879 (lv_at hl 10 rfl) ?_
  refine lv_iload hx hb dL_law_1881 (lv_at hl 4 rfl) ?_
  refine lv_icmp_ge (tgt := 1971) hx hb dL_law_1883 (by decide) (fun c1883 => ?_) (fun c1883 => ?_)
  · have hv := hv.1 c1883
    exact hY 1971 [x3, x5, x6, x7, x8] [] s0 hv _ _ _ _ _ rfl ad H locs ls hi hda hP hS (lv_sub hl [0, 1, 3, 5, 6, 7, 8, 9] rfl)
  · have hv := hv.2 c1883
    refine lv_aload_n hx hb dL_law_1886 rfl (lv_at hl 1 rfl) ?_
    refine lv_iload hx hb dL_law_1887 (lv_at hl 10 rfl) ?_
    refine lv_iconst (v := 3) hx hb dL_law_1889 (by decide) ?_
    refine r_lci hi hP hS (aa_A (by decide) hda hA2 hS) (va_runV (As := [.int x26, .int 3]) (rest := []) ⟨hx, hb, hml, hown, hts⟩ (c_X10_about (inj_le (by decide) hi) x26 3 _ _ hv H.size) (cwV 2 (fun w h => hts w (iv_X10_about_60 w h)) gv_X10_about_60 rfl rfl rfl (by decide +kernel) ⟨(Nat.le_of_ble_eq_true rfl), (Nat.le_of_ble_eq_true rfl)⟩) ⟨pre_blind, r_recv hK.1 (wd_cls (by decide) hP) 0 (by decide) (ceGR_0 (s0 0)) rfl, pre_of (wd_cls (by decide) hP) hK⟩ rfl rfl hl.1 rfl (lv_room (Nat.le_of_ble_eq_true rfl)) dL_law_1890 ⟨Nat.le_trans (by omega : _ ≤ 300) (Nat.le_of_ble_eq_true rfl), Nat.le_trans (by omega : _ ≤ 3000) (Nat.le_of_ble_eq_true rfl)⟩) (fun r1 s1 H locs hv hP hS => ?_)
    have hD := wd_Dg (A := La s) (cel := celL ad cA) (σ := s1) hi hda
    refine lv_istore (lv' := [(27, .int r1), (0, .ref b), (1, .ref (ad 0)), (2, .ref (ad 81)), (3, .int x3), (4, .int x4), (5, .int x5), (6, .int x6), (7, .int x7), (8, .int x8), (11, .ref (ad 82)), (26, .int x26)]) hx hb dL_law_1893 hl (by decide) rfl (fun ls hl => ?_)
    refine lv_iload hx hb dL_law_1895 (lv_at hl 0 rfl) ?_
    refine lv_if_le (tgt := 1965) hx hb dL_law_1897 (by decide) (fun c1897 => ?_) (fun c1897 => ?_)
    · have hv := hv.1 c1897
      refine lv_iinc (v := x26 + 1) (lv' := [(26, .int (x26 + 1)), (27, .int r1), (0, .ref b), (1, .ref (ad 0)), (2, .ref (ad 81)), (3, .int x3), (4, .int x4), (5, .int x5), (6, .int x6), (7, .int x7), (8, .int x8), (11, .ref (ad 82))]) hx hb dL_law_1965 hl (k := 11) rfl rfl (by decide) rfl (fun ls hl => ?_)
      refine lv_goto (tgt := 1879) hx hb dL_law_1968 (by decide) ?_
      exact hY 1879 [x3, x4, x5, x6, x7, x8, x26 + 1] [] s1 hv _ _ _ _ _ rfl ad H locs ls hi hda hP hS (lv_sub hl [2, 3, 4, 5, 6, 7, 8, 9, 10, 11, 0] rfl)
    · have hv := hv.2 c1897
      refine lv_aload_n hx hb dL_law_1900 rfl (lv_at hl 2 rfl) ?_
      refine lv_iload hx hb dL_law_1901 (lv_at hl 11 rfl) ?_
      refine lv_iload hx hb dL_law_1903 (lv_at hl 6 rfl) ?_
      refine lv_bipush (v := 100) hx hb dL_law_1905 (by decide) ?_
      refine lv_irem hx hb dL_law_1907 (by decide) ?_
      refine lv_iload hx hb dL_law_1908 (lv_at hl 0 rfl) ?_
      refine lv_aload_n hx hb dL_law_1910 rfl (lv_at hl 2 rfl) ?_
      refine lv_iload hx hb dL_law_1911 (lv_at hl 11 rfl) ?_
      refine lv_iconst (v := 4) hx hb dL_law_1913 (by decide) ?_
      refine r_lci hi hP hS (aa_A (by decide) hda hA2 hS) (va_runV (As := [.int x26, .int 4]) (rest := [.int r1, .int (x5 - x5 / 100 * 100), .int x26, .ref (ad 0)]) ⟨hx, hb, hml, hown, hts⟩ (c_X10_about (inj_le (by decide) hi) x26 4 _ _ hv H.size) (cwV 2 (fun w h => hts w (iv_X10_about_60 w h)) gv_X10_about_60 rfl rfl rfl (by decide +kernel) ⟨(Nat.le_of_ble_eq_true rfl), (Nat.le_of_ble_eq_true rfl)⟩) ⟨pre_blind, r_recv hK.1 (wd_cls (by decide) hP) 0 (by decide) (ceGR_0 (s1 0)) rfl, pre_of (wd_cls (by decide) hP) hK⟩ rfl rfl hl.1 rfl (lv_room (Nat.le_of_ble_eq_true rfl)) dL_law_1914 ⟨Nat.le_trans (by omega : _ ≤ 300) (Nat.le_of_ble_eq_true rfl), Nat.le_trans (by omega : _ ≤ 3000) (Nat.le_of_ble_eq_true rfl)⟩) (fun r2 s2 H locs hv hP hS => ?_)
      have hD := wd_Dg (A := La s) (cel := celL ad cA) (σ := s2) hi hda
      refine r_lci hi hP hS (aa_A (by decide) hda hA2 hS) (va_runV (As := [.int x26, .int (x5 - x5 / 100 * 100), .int r1, .int r2]) (rest := []) ⟨hx, hb, hml, hown, hts⟩ (c_X10_mark (inj_le (by decide) hi) x26 (x5 - x5 / 100 * 100) r1 r2 _ _ hv H.size) (cwV 4 (fun w h => hts w (iv_X10_mark_116 w h)) gv_X10_mark_116 rfl rfl rfl (by decide +kernel) ⟨(Nat.le_of_ble_eq_true rfl), (Nat.le_of_ble_eq_true rfl)⟩) ⟨pre_blind, r_recv hK.1 (wd_cls (by decide) hP) 0 (by decide) (ceGR_0 (s2 0)) rfl, pre_of (wd_cls (by decide) hP) hK⟩ rfl rfl hl.1 rfl (lv_room (Nat.le_of_ble_eq_true rfl)) dL_law_1917 ⟨Nat.le_trans (by omega : _ ≤ 300) (Nat.le_of_ble_eq_true rfl), Nat.le_trans (by omega : _ ≤ 3000) (Nat.le_of_ble_eq_true rfl)⟩) (fun r3 s3 H locs hv hP hS => ?_)
      have hD := wd_Dg (A := La s) (cel := celL ad cA) (σ := s3) hi hda
      refine lv_iconst (v := 1) hx hb dL_law_1920 (by decide) ?_
      refine lv_icmp_ne (tgt := 1963) hx hb dL_law_1921 (by decide) (fun c1921 => ?_) (fun c1921 => ?_)
      · have hv := hv.1 c1921
        refine lv_iconst (v := 0) hx hb dL_law_1963 (by decide) ?_
        exact hv.elim
      · have hv := hv.2 c1921
        refine lv_aload_n hx hb dL_law_1924 rfl (lv_at hl 2 rfl) ?_
        refine lv_iload hx hb dL_law_1925 (lv_at hl 11 rfl) ?_
        refine r_lci hi hP hS (aa_A (by decide) hda hA2 hS) (va_runV (As := [.int x26]) (rest := []) ⟨hx, hb, hml, hown, hts⟩ (c_X10_kinds (inj_le (by decide) hi) x26 _ _ hv H.size) (cwV 1 (fun w h => hts w (iv_X10_kinds_119 w h)) gv_X10_kinds_119 rfl rfl rfl (by decide +kernel) ⟨(Nat.le_of_ble_eq_true rfl), (Nat.le_of_ble_eq_true rfl)⟩) ⟨pre_blind, r_recv hK.1 (wd_cls (by decide) hP) 0 (by decide) (ceGR_0 (s3 0)) rfl, pre_of (wd_cls (by decide) hP) hK⟩ rfl rfl hl.1 rfl (lv_room (Nat.le_of_ble_eq_true rfl)) dL_law_1927 ⟨Nat.le_trans (by omega : _ ≤ 300) (Nat.le_of_ble_eq_true rfl), Nat.le_trans (by omega : _ ≤ 3000) (Nat.le_of_ble_eq_true rfl)⟩) (fun r4 s4 H locs hv hP hS => ?_)
        have hD := wd_Dg (A := La s) (cel := celL ad cA) (σ := s4) hi hda
        refine lv_aload_n hx hb dL_law_1930 rfl (lv_at hl 3 rfl) ?_
        refine lv_bipush (v := 33) hx hb dL_law_1931 (by decide) ?_
        refine lv_iload hx hb dL_law_1933 (lv_at hl 11 rfl) ?_
        refine lv_iadd hx hb dL_law_1935 ?_
        obtain ⟨hin, hv⟩ := hv
        refine r_iald hx hb hK.1 hP 81 (by decide) (ceL_81 (s4 81)) hin dL_law_1936 ?_
        refine lv_ishr hx hb dL_law_1937 ?_
        refine lv_iconst (v := 1) hx hb dL_law_1938 (by decide) ?_
        refine lv_iand hx hb dL_law_1939 ?_
        refine lv_iconst (v := 1) hx hb dL_law_1940 (by decide) ?_
        refine lv_icmp_ne (tgt := 1963) hx hb dL_law_1941 (by decide) (fun c1941 => ?_) (fun c1941 => ?_)
        · have hv := hv.1 c1941
          refine lv_iconst (v := 0) hx hb dL_law_1963 (by decide) ?_
          exact hv.elim
        · have hv := hv.2 c1941
          refine lv_aload_n hx hb dL_law_1944 rfl (lv_at hl 2 rfl) ?_
          refine lv_iload hx hb dL_law_1945 (lv_at hl 11 rfl) ?_
          refine r_lci hi hP hS (aa_A (by decide) hda hA2 hS) (va_runV (As := [.int x26]) (rest := []) ⟨hx, hb, hml, hown, hts⟩ (c_X10_ask (inj_le (by decide) hi) x26 _ _ hv H.size) (cwV 1 (fun w h => hts w (iv_X10_ask_122 w h)) gv_X10_ask_122 rfl rfl rfl (by decide +kernel) ⟨(Nat.le_of_ble_eq_true rfl), (Nat.le_of_ble_eq_true rfl)⟩) ⟨pre_blind, r_recv hK.1 (wd_cls (by decide) hP) 0 (by decide) (ceGR_0 (s4 0)) rfl, pre_of (wd_cls (by decide) hP) hK⟩ rfl rfl hl.1 rfl (lv_room (Nat.le_of_ble_eq_true rfl)) dL_law_1947 ⟨Nat.le_trans (by omega : _ ≤ 300) (Nat.le_of_ble_eq_true rfl), Nat.le_trans (by omega : _ ≤ 3000) (Nat.le_of_ble_eq_true rfl)⟩) (fun r5 s5 H locs hv hP hS => ?_)
          have hD := wd_Dg (A := La s) (cel := celL ad cA) (σ := s5) hi hda
          refine lv_iconst (v := 1) hx hb dL_law_1950 (by decide) ?_
          refine lv_icmp_lt (tgt := 1963) hx hb dL_law_1951 (by decide) (fun c1951 => ?_) (fun c1951 => ?_)
          · have hv := hv.1 c1951
            refine lv_iconst (v := 0) hx hb dL_law_1963 (by decide) ?_
            exact hv.elim
          · have hv := hv.2 c1951
            refine lv_aload_n hx hb dL_law_1954 rfl (lv_at hl 2 rfl) ?_
            refine lv_iconst (v := 2) hx hb dL_law_1955 (by decide) ?_
            refine r_lci hi hP hS (aa_A (by decide) hda hA2 hS) (va_runV (As := [.int 2]) (rest := []) ⟨hx, hb, hml, hown, hts⟩ (c_X10_forget (inj_le (by decide) hi) 2 _ _ hv H.size) (cwV 1 (fun w h => hts w (iv_X10_forget_100 w h)) gv_X10_forget_100 rfl rfl rfl (by decide +kernel) ⟨(Nat.le_of_ble_eq_true rfl), (Nat.le_of_ble_eq_true rfl)⟩) ⟨pre_blind, r_recv hK.1 (wd_cls (by decide) hP) 0 (by decide) (ceGR_0 (s5 0)) rfl, pre_of (wd_cls (by decide) hP) hK⟩ rfl rfl hl.1 rfl (lv_room (Nat.le_of_ble_eq_true rfl)) dL_law_1956 ⟨Nat.le_trans (by omega : _ ≤ 300) (Nat.le_of_ble_eq_true rfl), Nat.le_trans (by omega : _ ≤ 3000) (Nat.le_of_ble_eq_true rfl)⟩) (fun r6 s6 H locs hv hP hS => ?_)
            have hD := wd_Dg (A := La s) (cel := celL ad cA) (σ := s6) hi hda
            refine lv_iconst (v := 1) hx hb dL_law_1959 (by decide) ?_
            refine lv_icmp_eq (tgt := 1965) hx hb dL_law_1960 (by decide) (fun c1960 => ?_) (fun c1960 => ?_)
            · have hv := hv.1 c1960
              refine lv_iinc (v := x26 + 1) (lv' := [(26, .int (x26 + 1)), (27, .int r1), (0, .ref b), (1, .ref (ad 0)), (2, .ref (ad 81)), (3, .int x3), (4, .int x4), (5, .int x5), (6, .int x6), (7, .int x7), (8, .int x8), (11, .ref (ad 82))]) hx hb dL_law_1965 hl (k := 11) rfl rfl (by decide) rfl (fun ls hl => ?_)
              refine lv_goto (tgt := 1879) hx hb dL_law_1968 (by decide) ?_
              exact hY 1879 [x3, x4, x5, x6, x7, x8, x26 + 1] [] s6 hv _ _ _ _ _ rfl ad H locs ls hi hda hP hS (lv_sub hl [2, 3, 4, 5, 6, 7, 8, 9, 10, 11, 0] rfl)
            · have hv := hv.2 c1960
              refine lv_iconst (v := 0) hx hb dL_law_1963 (by decide) ?_
              exact hv.elim
set_option maxHeartbeats 8000000 in
set_option maxRecDepth 100000 in
theorem w_L_law_1971 {p : Program} {l : Launch} {e : Env} {s : State} {m : MethodId} {below : List Frame} {meth : Method} {c : Code} {dC : Nat → ClassId} {dI : Nat → Nat → Nat} {cA cZ : ClassId} {b L : Nat} {xs : Nat → Int32} (C0 : LC p s m meth c b L xs dC dI cA cZ) (Y : Nat → List Int32 → List Int64 → St → Prop) (hY : ∀ P xs ys σ, Y P xs ys σ → XW p l e s m below meth c b dC dI cA P xs ys σ) (x3 : Int32) (x5 : Int32) (x6 : Int32) (x7 : Int32) (x8 : Int32) (s0 : St) (hv : B_L_law_1971 L xs Y x3 x5 x6 x7 x8 s0) {ad : Nat → Nat} (hi : Inj 85 ad) (hda : ∀ k, k < 85 → La s (ad k)) {H : Heap} {locs : List Loc} {ls : Array Slot} (hP : va_P (dC, dI) vwCl (wd 85 ad (celL ad cA) s0) H) (hS : va_S (La s) s.heap H locs) (hl : lv_has ls 32 [(0, .ref b), (1, .ref (ad 0)), (3, .int x3), (5, .int x5), (6, .int x6), (7, .int x7), (8, .int x8), (11, .ref (ad 82))]) : W p l e room_1 s m #[Value.ref b] below meth c H locs (220) (2200) (lw_Z below #[Value.ref b] s) (F0 m 1971 ls []) := by
  obtain ⟨⟨hx, hb, hml, hown, hts, hr, hlocks⟩, hX, hbl, hK⟩ := C0
  have hbA : ¬ La s b := Nat.not_le.mpr hbl
  have hA2 : ∀ q, s.heap.size ≤ q → La s q := fun _ h => h
  have hD := wd_Dg (A := La s) (cel := celL ad cA) (σ := s0) hi hda
  unfold B_L_law_1971 at hv
  refine lv_aload_n hx hb dL_law_1971 rfl (lv_at hl 1 rfl) ?_
  refine lv_iconst (v := 0) hx hb dL_law_1972 (by decide) ?_
  refine r_lci hi hP hS (aa_A (by decide) hda hA2 hS) (va_runV (As := [.int 0]) (rest := []) ⟨hx, hb, hml, hown, hts⟩ (c_X10_rain (inj_le (by decide) hi) 0 _ _ hv H.size) (cwV 1 (fun w h => hts w (iv_X10_rain_125 w h)) gv_X10_rain_125 rfl rfl rfl (by decide +kernel) ⟨(Nat.le_of_ble_eq_true rfl), (Nat.le_of_ble_eq_true rfl)⟩) ⟨pre_blind, r_recv hK.1 (wd_cls (by decide) hP) 0 (by decide) (ceGR_0 (s0 0)) rfl, pre_of (wd_cls (by decide) hP) hK⟩ rfl rfl hl.1 rfl (lv_room (Nat.le_of_ble_eq_true rfl)) dL_law_1973 ⟨Nat.le_trans (by omega : _ ≤ 300) (Nat.le_of_ble_eq_true rfl), Nat.le_trans (by omega : _ ≤ 3000) (Nat.le_of_ble_eq_true rfl)⟩) (fun r1 s1 H locs hv hP hS => ?_)
  have hD := wd_Dg (A := La s) (cel := celL ad cA) (σ := s1) hi hda
  refine lv_iconst (v := 1) hx hb dL_law_1976 (by decide) ?_
  refine lv_icmp_ne (tgt := 2062) hx hb dL_law_1977 (by decide) (fun c1977 => ?_) (fun c1977 => ?_)
  · have hv := hv.1 c1977
    refine lv_iconst (v := 0) hx hb dL_law_2062 (by decide) ?_
    exact hv.elim
  · have hv := hv.2 c1977
    refine lv_aload_n hx hb dL_law_1980 rfl (lv_at hl 1 rfl) ?_
    refine lv_iconst (v := 1) hx hb dL_law_1981 (by decide) ?_
    refine r_lcl hi hP hS (aa_A (by decide) hda hA2 hS) (va_runV (As := [.int 1]) (rest := []) ⟨hx, hb, hml, hown, hts⟩ (c_X10_part (inj_le (by decide) hi) 1 _ _ hv H.size) (cwV 1 (fun w h => hts w (iv_X10_part_128 w h)) gv_X10_part_128 rfl rfl rfl (by decide +kernel) ⟨(Nat.le_of_ble_eq_true rfl), (Nat.le_of_ble_eq_true rfl)⟩) ⟨pre_blind, r_recv hK.1 (wd_cls (by decide) hP) 0 (by decide) (ceGR_0 (s1 0)) rfl, pre_of (wd_cls (by decide) hP) hK⟩ rfl rfl hl.1 rfl (lv_room (Nat.le_of_ble_eq_true rfl)) dL_law_1982 ⟨Nat.le_trans (by omega : _ ≤ 300) (Nat.le_of_ble_eq_true rfl), Nat.le_trans (by omega : _ ≤ 3000) (Nat.le_of_ble_eq_true rfl)⟩) (fun r2 s2 H locs hv hP hS => ?_)
    have hD := wd_Dg (A := La s) (cel := celL ad cA) (σ := s2) hi hda
    refine lv_lconst (v := 1) hx hb dL_law_1985 (by decide) ?_
    refine W.lcmp hx hb dL_law_1986 ?_
    refine lv_if_ne (tgt := 2062) hx hb dL_law_1987 (by decide) (fun c1987 => ?_) (fun c1987 => ?_)
    · have hv := hv.1 c1987
      refine lv_iconst (v := 0) hx hb dL_law_2062 (by decide) ?_
      exact hv.elim
    · have hv := hv.2 c1987
      refine lv_aload_n hx hb dL_law_1990 rfl (lv_at hl 1 rfl) ?_
      refine lv_iconst (v := 0) hx hb dL_law_1991 (by decide) ?_
      refine r_lcl hi hP hS (aa_A (by decide) hda hA2 hS) (va_runV (As := [.int 0]) (rest := []) ⟨hx, hb, hml, hown, hts⟩ (c_X10_part (inj_le (by decide) hi) 0 _ _ hv H.size) (cwV 1 (fun w h => hts w (iv_X10_part_128 w h)) gv_X10_part_128 rfl rfl rfl (by decide +kernel) ⟨(Nat.le_of_ble_eq_true rfl), (Nat.le_of_ble_eq_true rfl)⟩) ⟨pre_blind, r_recv hK.1 (wd_cls (by decide) hP) 0 (by decide) (ceGR_0 (s2 0)) rfl, pre_of (wd_cls (by decide) hP) hK⟩ rfl rfl hl.1 rfl (lv_room (Nat.le_of_ble_eq_true rfl)) dL_law_1992 ⟨Nat.le_trans (by omega : _ ≤ 300) (Nat.le_of_ble_eq_true rfl), Nat.le_trans (by omega : _ ≤ 3000) (Nat.le_of_ble_eq_true rfl)⟩) (fun r3 s3 H locs hv hP hS => ?_)
      have hD := wd_Dg (A := La s) (cel := celL ad cA) (σ := s3) hi hda
      refine lv_lconst (v := 0) hx hb dL_law_1995 (by decide) ?_
      refine W.lcmp hx hb dL_law_1996 ?_
      refine lv_if_lt (tgt := 2062) hx hb dL_law_1997 (by decide) (fun c1997 => ?_) (fun c1997 => ?_)
      · have hv := hv.1 c1997
        refine lv_iconst (v := 0) hx hb dL_law_2062 (by decide) ?_
        exact hv.elim
      · have hv := hv.2 c1997
        refine lv_aload_n hx hb dL_law_2000 rfl (lv_at hl 1 rfl) ?_
        refine lv_iconst (v := 0) hx hb dL_law_2001 (by decide) ?_
        refine r_lcl hi hP hS (aa_A (by decide) hda hA2 hS) (va_runV (As := [.int 0]) (rest := []) ⟨hx, hb, hml, hown, hts⟩ (c_X10_part (inj_le (by decide) hi) 0 _ _ hv H.size) (cwV 1 (fun w h => hts w (iv_X10_part_128 w h)) gv_X10_part_128 rfl rfl rfl (by decide +kernel) ⟨(Nat.le_of_ble_eq_true rfl), (Nat.le_of_ble_eq_true rfl)⟩) ⟨pre_blind, r_recv hK.1 (wd_cls (by decide) hP) 0 (by decide) (ceGR_0 (s3 0)) rfl, pre_of (wd_cls (by decide) hP) hK⟩ rfl rfl hl.1 rfl (lv_room (Nat.le_of_ble_eq_true rfl)) dL_law_2002 ⟨Nat.le_trans (by omega : _ ≤ 300) (Nat.le_of_ble_eq_true rfl), Nat.le_trans (by omega : _ ≤ 3000) (Nat.le_of_ble_eq_true rfl)⟩) (fun r4 s4 H locs hv hP hS => ?_)
        have hD := wd_Dg (A := La s) (cel := celL ad cA) (σ := s4) hi hda
        refine lv_iconst (v := 4) hx hb dL_law_2005 (by decide) ?_
        refine lv_iload_n hx hb dL_law_2006 rfl (lv_at hl 2 rfl) ?_
        refine lv_imul hx hb dL_law_2007 ?_
        refine lv_i2l (v := (4 * x3).toInt64) hx hb dL_law_2008 rfl ?_
        refine W.lcmp hx hb dL_law_2009 ?_
        refine lv_if_gt (tgt := 2062) hx hb dL_law_2010 (by decide) (fun c2010 => ?_) (fun c2010 => ?_)
        · have hv := hv.1 c2010
          refine lv_iconst (v := 0) hx hb dL_law_2062 (by decide) ?_
          exact hv.elim
        · have hv := hv.2 c2010
          refine lv_aload_n hx hb dL_law_2013 rfl (lv_at hl 1 rfl) ?_
          refine lv_bipush (v := 10) hx hb dL_law_2014 (by decide) ?_
          refine r_lci hi hP hS (aa_A (by decide) hda hA2 hS) (va_runV (As := [.int 10]) (rest := []) ⟨hx, hb, hml, hown, hts⟩ (c_X10_rain (inj_le (by decide) hi) 10 _ _ hv H.size) (cwV 1 (fun w h => hts w (iv_X10_rain_125 w h)) gv_X10_rain_125 rfl rfl rfl (by decide +kernel) ⟨(Nat.le_of_ble_eq_true rfl), (Nat.le_of_ble_eq_true rfl)⟩) ⟨pre_blind, r_recv hK.1 (wd_cls (by decide) hP) 0 (by decide) (ceGR_0 (s4 0)) rfl, pre_of (wd_cls (by decide) hP) hK⟩ rfl rfl hl.1 rfl (lv_room (Nat.le_of_ble_eq_true rfl)) dL_law_2016 ⟨Nat.le_trans (by omega : _ ≤ 300) (Nat.le_of_ble_eq_true rfl), Nat.le_trans (by omega : _ ≤ 3000) (Nat.le_of_ble_eq_true rfl)⟩) (fun r5 s5 H locs hv hP hS => ?_)
          have hD := wd_Dg (A := La s) (cel := celL ad cA) (σ := s5) hi hda
          refine lv_iconst (v := 1) hx hb dL_law_2019 (by decide) ?_
          refine lv_icmp_ne (tgt := 2062) hx hb dL_law_2020 (by decide) (fun c2020 => ?_) (fun c2020 => ?_)
          · have hv := hv.1 c2020
            refine lv_iconst (v := 0) hx hb dL_law_2062 (by decide) ?_
            exact hv.elim
          · have hv := hv.2 c2020
            refine lv_aload_n hx hb dL_law_2023 rfl (lv_at hl 1 rfl) ?_
            refine lv_iconst (v := 1) hx hb dL_law_2024 (by decide) ?_
            refine r_lcl hi hP hS (aa_A (by decide) hda hA2 hS) (va_runV (As := [.int 1]) (rest := []) ⟨hx, hb, hml, hown, hts⟩ (c_X10_part (inj_le (by decide) hi) 1 _ _ hv H.size) (cwV 1 (fun w h => hts w (iv_X10_part_128 w h)) gv_X10_part_128 rfl rfl rfl (by decide +kernel) ⟨(Nat.le_of_ble_eq_true rfl), (Nat.le_of_ble_eq_true rfl)⟩) ⟨pre_blind, r_recv hK.1 (wd_cls (by decide) hP) 0 (by decide) (ceGR_0 (s5 0)) rfl, pre_of (wd_cls (by decide) hP) hK⟩ rfl rfl hl.1 rfl (lv_room (Nat.le_of_ble_eq_true rfl)) dL_law_2025 ⟨Nat.le_trans (by omega : _ ≤ 300) (Nat.le_of_ble_eq_true rfl), Nat.le_trans (by omega : _ ≤ 3000) (Nat.le_of_ble_eq_true rfl)⟩) (fun r6 s6 H locs hv hP hS => ?_)
            have hD := wd_Dg (A := La s) (cel := celL ad cA) (σ := s6) hi hda
            refine lv_lconst (v := 1) hx hb dL_law_2028 (by decide) ?_
            refine W.lcmp hx hb dL_law_2029 ?_
            refine lv_if_ne (tgt := 2062) hx hb dL_law_2030 (by decide) (fun c2030 => ?_) (fun c2030 => ?_)
            · have hv := hv.1 c2030
              refine lv_iconst (v := 0) hx hb dL_law_2062 (by decide) ?_
              exact hv.elim
            · have hv := hv.2 c2030
              refine lv_aload_n hx hb dL_law_2033 rfl (lv_at hl 1 rfl) ?_
              refine lv_aload_n hx hb dL_law_2034 rfl (lv_at hl 0 rfl) ?_
              refine lv_bipush (v := 31) hx hb dL_law_2035 (by decide) ?_
              refine r_hci hS (aa_A (Nat.le_refl _) hda hA2 hS) (va_runS (As := [.ref b, .int 31]) (rest := [.ref (ad 0)]) ⟨hx, hb, hml, hown, hts⟩ (c_L_cell (b := b) (L := L) (xs := xs) hi (by decide) (fun k hk e => hbA (e ▸ hda k hk)) 31 _ _ hv H.size (Nat.lt_of_lt_of_le hbl hS.1)) (va_cwS 2 (fun w h => hts w (iv_L_cell_9 w h)) gv_L_cell_9 rfl rfl rfl (by decide +kernel) ⟨(Nat.le_of_ble_eq_true rfl), (Nat.le_of_ble_eq_true rfl)⟩) ⟨preL_blind, preL_of hP hK (hX.kept (hS.2.1 b hbl hbA))⟩ rfl rfl hl.1 rfl (lv_room (Nat.le_of_ble_eq_true rfl)) dL_law_2037 ⟨Nat.le_trans (by omega : _ ≤ 300) (Nat.le_of_ble_eq_true rfl), Nat.le_trans (by omega : _ ≤ 3000) (Nat.le_of_ble_eq_true rfl)⟩) (fun r7 s7 H locs hv hP hS => ?_)
              have hD := wd_Dg (A := La s) (cel := celL ad cA) (σ := s7) hi hda
              refine lv_bipush (v := 11) hx hb dL_law_2040 (by decide) ?_
              refine r_hci hS (aa_A (Nat.le_refl _) hda hA2 hS) (va_runS (As := [.int r7, .int 11]) (rest := [.ref (ad 0)]) ⟨hx, hb, hml, hown, hts⟩ (c_L_up (b := b) (L := L) (xs := xs) hi (by decide) (fun k hk e => hbA (e ▸ hda k hk)) r7 11 _ _ hv H.size (Nat.lt_of_lt_of_le hbl hS.1)) (va_cwS 2 (fun w h => hts w (iv_L_up_15 w h)) gv_L_up_15 rfl rfl rfl (by decide +kernel) ⟨(Nat.le_of_ble_eq_true rfl), (Nat.le_of_ble_eq_true rfl)⟩) ⟨preL_blind, preL_of hP hK (hX.kept (hS.2.1 b hbl hbA))⟩ rfl rfl hl.1 rfl (lv_room (Nat.le_of_ble_eq_true rfl)) dL_law_2042 ⟨Nat.le_trans (by omega : _ ≤ 300) (Nat.le_of_ble_eq_true rfl), Nat.le_trans (by omega : _ ≤ 3000) (Nat.le_of_ble_eq_true rfl)⟩) (fun r8 s8 H locs hv hP hS => ?_)
              have hD := wd_Dg (A := La s) (cel := celL ad cA) (σ := s8) hi hda
              refine r_lci hi hP hS (aa_A (by decide) hda hA2 hS) (va_runV (As := [.int r8]) (rest := []) ⟨hx, hb, hml, hown, hts⟩ (c_X10_rain (inj_le (by decide) hi) r8 _ _ hv H.size) (cwV 1 (fun w h => hts w (iv_X10_rain_125 w h)) gv_X10_rain_125 rfl rfl rfl (by decide +kernel) ⟨(Nat.le_of_ble_eq_true rfl), (Nat.le_of_ble_eq_true rfl)⟩) ⟨pre_blind, r_recv hK.1 (wd_cls (by decide) hP) 0 (by decide) (ceGR_0 (s8 0)) rfl, pre_of (wd_cls (by decide) hP) hK⟩ rfl rfl hl.1 rfl (lv_room (Nat.le_of_ble_eq_true rfl)) dL_law_2045 ⟨Nat.le_trans (by omega : _ ≤ 300) (Nat.le_of_ble_eq_true rfl), Nat.le_trans (by omega : _ ≤ 3000) (Nat.le_of_ble_eq_true rfl)⟩) (fun r9 s9 H locs hv hP hS => ?_)
              have hD := wd_Dg (A := La s) (cel := celL ad cA) (σ := s9) hi hda
              refine lv_iconst (v := 1) hx hb dL_law_2048 (by decide) ?_
              refine lv_icmp_ne (tgt := 2062) hx hb dL_law_2049 (by decide) (fun c2049 => ?_) (fun c2049 => ?_)
              · have hv := hv.1 c2049
                refine lv_iconst (v := 0) hx hb dL_law_2062 (by decide) ?_
                exact hv.elim
              · have hv := hv.2 c2049
                refine lv_aload_n hx hb dL_law_2052 rfl (lv_at hl 1 rfl) ?_
                refine lv_iconst (v := 0) hx hb dL_law_2053 (by decide) ?_
                refine r_lcl hi hP hS (aa_A (by decide) hda hA2 hS) (va_runV (As := [.int 0]) (rest := []) ⟨hx, hb, hml, hown, hts⟩ (c_X10_part (inj_le (by decide) hi) 0 _ _ hv H.size) (cwV 1 (fun w h => hts w (iv_X10_part_128 w h)) gv_X10_part_128 rfl rfl rfl (by decide +kernel) ⟨(Nat.le_of_ble_eq_true rfl), (Nat.le_of_ble_eq_true rfl)⟩) ⟨pre_blind, r_recv hK.1 (wd_cls (by decide) hP) 0 (by decide) (ceGR_0 (s9 0)) rfl, pre_of (wd_cls (by decide) hP) hK⟩ rfl rfl hl.1 rfl (lv_room (Nat.le_of_ble_eq_true rfl)) dL_law_2054 ⟨Nat.le_trans (by omega : _ ≤ 300) (Nat.le_of_ble_eq_true rfl), Nat.le_trans (by omega : _ ≤ 3000) (Nat.le_of_ble_eq_true rfl)⟩) (fun r10 s10 H locs hv hP hS => ?_)
                have hD := wd_Dg (A := La s) (cel := celL ad cA) (σ := s10) hi hda
                refine lv_lconst (v := 0) hx hb dL_law_2057 (by decide) ?_
                refine W.lcmp hx hb dL_law_2058 ?_
                refine lv_if_ge (tgt := 2064) hx hb dL_law_2059 (by decide) (fun c2059 => ?_) (fun c2059 => ?_)
                · have hv := hv.1 c2059
                  exact hY 2064 [x3, x5, x6, x7, x8] [] s10 hv _ _ _ _ _ rfl ad H locs ls hi hda hP hS (lv_sub hl [0, 1, 2, 3, 4, 5, 6, 7] rfl)
                · have hv := hv.2 c2059
                  refine lv_iconst (v := 0) hx hb dL_law_2062 (by decide) ?_
                  exact hv.elim
set_option maxHeartbeats 8000000 in
set_option maxRecDepth 100000 in
theorem w_L_law_2064 {p : Program} {l : Launch} {e : Env} {s : State} {m : MethodId} {below : List Frame} {meth : Method} {c : Code} {dC : Nat → ClassId} {dI : Nat → Nat → Nat} {cA cZ : ClassId} {b L : Nat} {xs : Nat → Int32} (C0 : LC p s m meth c b L xs dC dI cA cZ) (Y : Nat → List Int32 → List Int64 → St → Prop) (hY : ∀ P xs ys σ, Y P xs ys σ → XW p l e s m below meth c b dC dI cA P xs ys σ) (x3 : Int32) (x5 : Int32) (x6 : Int32) (x7 : Int32) (x8 : Int32) (s0 : St) (hv : B_L_law_2064 L xs Y x3 x5 x6 x7 x8 s0) {ad : Nat → Nat} (hi : Inj 85 ad) (hda : ∀ k, k < 85 → La s (ad k)) {H : Heap} {locs : List Loc} {ls : Array Slot} (hP : va_P (dC, dI) vwCl (wd 85 ad (celL ad cA) s0) H) (hS : va_S (La s) s.heap H locs) (hl : lv_has ls 32 [(0, .ref b), (1, .ref (ad 0)), (3, .int x3), (5, .int x5), (6, .int x6), (7, .int x7), (8, .int x8), (11, .ref (ad 82))]) : W p l e room_1 s m #[Value.ref b] below meth c H locs (220) (2200) (lw_Z below #[Value.ref b] s) (F0 m 2064 ls []) := by
  obtain ⟨⟨hx, hb, hml, hown, hts, hr, hlocks⟩, hX, hbl, hK⟩ := C0
  have hbA : ¬ La s b := Nat.not_le.mpr hbl
  have hA2 : ∀ q, s.heap.size ≤ q → La s q := fun _ h => h
  have hD := wd_Dg (A := La s) (cel := celL ad cA) (σ := s0) hi hda
  unfold B_L_law_2064 at hv
  refine lv_aload_n hx hb dL_law_2064 rfl (lv_at hl 1 rfl) ?_
  refine lv_aload_n hx hb dL_law_2065 rfl (lv_at hl 0 rfl) ?_
  refine lv_bipush (v := 32) hx hb dL_law_2066 (by decide) ?_
  refine r_hci hS (aa_A (Nat.le_refl _) hda hA2 hS) (va_runS (As := [.ref b, .int 32]) (rest := [.ref (ad 0)]) ⟨hx, hb, hml, hown, hts⟩ (c_L_cell (b := b) (L := L) (xs := xs) hi (by decide) (fun k hk e => hbA (e ▸ hda k hk)) 32 _ _ hv H.size (Nat.lt_of_lt_of_le hbl hS.1)) (va_cwS 2 (fun w h => hts w (iv_L_cell_9 w h)) gv_L_cell_9 rfl rfl rfl (by decide +kernel) ⟨(Nat.le_of_ble_eq_true rfl), (Nat.le_of_ble_eq_true rfl)⟩) ⟨preL_blind, preL_of hP hK (hX.kept (hS.2.1 b hbl hbA))⟩ rfl rfl hl.1 rfl (lv_room (Nat.le_of_ble_eq_true rfl)) dL_law_2068 ⟨Nat.le_trans (by omega : _ ≤ 300) (Nat.le_of_ble_eq_true rfl), Nat.le_trans (by omega : _ ≤ 3000) (Nat.le_of_ble_eq_true rfl)⟩) (fun r1 s1 H locs hv hP hS => ?_)
  have hD := wd_Dg (A := La s) (cel := celL ad cA) (σ := s1) hi hda
  refine lv_ldc (v := 1000000) hx hb hown (hts _ mw_771) dL_law_2071 ?_
  refine r_hci hS (aa_A (Nat.le_refl _) hda hA2 hS) (va_runS (As := [.int r1, .int 1000000]) (rest := [.ref (ad 0)]) ⟨hx, hb, hml, hown, hts⟩ (c_L_up (b := b) (L := L) (xs := xs) hi (by decide) (fun k hk e => hbA (e ▸ hda k hk)) r1 1000000 _ _ hv H.size (Nat.lt_of_lt_of_le hbl hS.1)) (va_cwS 2 (fun w h => hts w (iv_L_up_15 w h)) gv_L_up_15 rfl rfl rfl (by decide +kernel) ⟨(Nat.le_of_ble_eq_true rfl), (Nat.le_of_ble_eq_true rfl)⟩) ⟨preL_blind, preL_of hP hK (hX.kept (hS.2.1 b hbl hbA))⟩ rfl rfl hl.1 rfl (lv_room (Nat.le_of_ble_eq_true rfl)) dL_law_2073 ⟨Nat.le_trans (by omega : _ ≤ 300) (Nat.le_of_ble_eq_true rfl), Nat.le_trans (by omega : _ ≤ 3000) (Nat.le_of_ble_eq_true rfl)⟩) (fun r2 s2 H locs hv hP hS => ?_)
  have hD := wd_Dg (A := La s) (cel := celL ad cA) (σ := s2) hi hda
  refine lv_bipush (v := 40) hx hb dL_law_2076 (by decide) ?_
  refine r_lci hi hP hS (aa_A (by decide) hda hA2 hS) (va_runV (As := [.int r2, .int 40]) (rest := []) ⟨hx, hb, hml, hown, hts⟩ (c_X10_winters (inj_le (by decide) hi) r2 40 _ _ hv H.size) (cwV 2 (fun w h => hts w (iv_X10_winters_133 w h)) gv_X10_winters_133 rfl rfl rfl (by decide +kernel) ⟨(Nat.le_of_ble_eq_true rfl), (Nat.le_of_ble_eq_true rfl)⟩) ⟨pre_blind, r_recv hK.1 (wd_cls (by decide) hP) 0 (by decide) (ceGR_0 (s2 0)) rfl, pre_of (wd_cls (by decide) hP) hK⟩ rfl rfl hl.1 rfl (lv_room (Nat.le_of_ble_eq_true rfl)) dL_law_2078 ⟨Nat.le_trans (by omega : _ ≤ 300) (Nat.le_of_ble_eq_true rfl), Nat.le_trans (by omega : _ ≤ 3000) (Nat.le_of_ble_eq_true rfl)⟩) (fun r3 s3 H locs hv hP hS => ?_)
  have hD := wd_Dg (A := La s) (cel := celL ad cA) (σ := s3) hi hda
  refine lv_istore (lv' := [(26, .int r3), (0, .ref b), (1, .ref (ad 0)), (3, .int x3), (5, .int x5), (6, .int x6), (7, .int x7), (8, .int x8), (11, .ref (ad 82))]) hx hb dL_law_2081 hl (by decide) rfl (fun ls hl => ?_)
  refine lv_iload hx hb dL_law_2083 (lv_at hl 0 rfl) ?_
  refine lv_iload hx hb dL_law_2085 (lv_at hl 5 rfl) ?_
  refine lv_icmp_lt (tgt := 2107) hx hb dL_law_2087 (by decide) (fun c2087 => ?_) (fun c2087 => ?_)
  · have hv := hv.1 c2087
    refine lv_iconst (v := 0) hx hb dL_law_2107 (by decide) ?_
    exact hv.elim
  · have hv := hv.2 c2087
    refine lv_iload hx hb dL_law_2090 (lv_at hl 0 rfl) ?_
    refine lv_iload_n hx hb dL_law_2092 rfl (lv_at hl 3 rfl) ?_
    refine lv_icmp_gt (tgt := 2107) hx hb dL_law_2093 (by decide) (fun c2093 => ?_) (fun c2093 => ?_)
    · have hv := hv.1 c2093
      refine lv_iconst (v := 0) hx hb dL_law_2107 (by decide) ?_
      exact hv.elim
    · have hv := hv.2 c2093
      refine lv_aload_n hx hb dL_law_2096 rfl (lv_at hl 2 rfl) ?_
      refine lv_iconst (v := 5) hx hb dL_law_2097 (by decide) ?_
      refine lv_iconst (v := 0) hx hb dL_law_2098 (by decide) ?_
      refine r_lci hi hP hS (aa_A (by decide) hda hA2 hS) (va_runV (As := [.int 5, .int 0]) (rest := []) ⟨hx, hb, hml, hown, hts⟩ (c_X10_winters (inj_le (by decide) hi) 5 0 _ _ hv H.size) (cwV 2 (fun w h => hts w (iv_X10_winters_133 w h)) gv_X10_winters_133 rfl rfl rfl (by decide +kernel) ⟨(Nat.le_of_ble_eq_true rfl), (Nat.le_of_ble_eq_true rfl)⟩) ⟨pre_blind, r_recv hK.1 (wd_cls (by decide) hP) 0 (by decide) (ceGR_0 (s3 0)) rfl, pre_of (wd_cls (by decide) hP) hK⟩ rfl rfl hl.1 rfl (lv_room (Nat.le_of_ble_eq_true rfl)) dL_law_2099 ⟨Nat.le_trans (by omega : _ ≤ 300) (Nat.le_of_ble_eq_true rfl), Nat.le_trans (by omega : _ ≤ 3000) (Nat.le_of_ble_eq_true rfl)⟩) (fun r4 s4 H locs hv hP hS => ?_)
      have hD := wd_Dg (A := La s) (cel := celL ad cA) (σ := s4) hi hda
      refine lv_iload hx hb dL_law_2102 (lv_at hl 5 rfl) ?_
      refine lv_icmp_eq (tgt := 2109) hx hb dL_law_2104 (by decide) (fun c2104 => ?_) (fun c2104 => ?_)
      · have hv := hv.1 c2104
        exact hY 2109 [x3, x5, x6, x7, x8] [] s4 hv _ _ _ _ _ rfl ad H locs ls hi hda hP hS (lv_sub hl [1, 2, 3, 4, 5, 6, 7, 8] rfl)
      · have hv := hv.2 c2104
        refine lv_iconst (v := 0) hx hb dL_law_2107 (by decide) ?_
        exact hv.elim
set_option maxHeartbeats 8000000 in
set_option maxRecDepth 100000 in
theorem w_L_law_2109 {p : Program} {l : Launch} {e : Env} {s : State} {m : MethodId} {below : List Frame} {meth : Method} {c : Code} {dC : Nat → ClassId} {dI : Nat → Nat → Nat} {cA cZ : ClassId} {b L : Nat} {xs : Nat → Int32} (C0 : LC p s m meth c b L xs dC dI cA cZ) (Y : Nat → List Int32 → List Int64 → St → Prop) (hY : ∀ P xs ys σ, Y P xs ys σ → XW p l e s m below meth c b dC dI cA P xs ys σ) (x3 : Int32) (x5 : Int32) (x6 : Int32) (x7 : Int32) (x8 : Int32) (s0 : St) (hv : B_L_law_2109 L xs Y x3 x5 x6 x7 x8 s0) {ad : Nat → Nat} (hi : Inj 85 ad) (hda : ∀ k, k < 85 → La s (ad k)) {H : Heap} {locs : List Loc} {ls : Array Slot} (hP : va_P (dC, dI) vwCl (wd 85 ad (celL ad cA) s0) H) (hS : va_S (La s) s.heap H locs) (hl : lv_has ls 32 [(0, .ref b), (1, .ref (ad 0)), (3, .int x3), (5, .int x5), (6, .int x6), (7, .int x7), (8, .int x8), (11, .ref (ad 82))]) : W p l e room_1 s m #[Value.ref b] below meth c H locs (220) (2200) (lw_Z below #[Value.ref b] s) (F0 m 2109 ls []) := by
  obtain ⟨⟨hx, hb, hml, hown, hts, hr, hlocks⟩, hX, hbl, hK⟩ := C0
  have hbA : ¬ La s b := Nat.not_le.mpr hbl
  have hA2 : ∀ q, s.heap.size ≤ q → La s q := fun _ h => h
  have hD := wd_Dg (A := La s) (cel := celL ad cA) (σ := s0) hi hda
  unfold B_L_law_2109 at hv
  refine lv_aload_n hx hb dL_law_2109 rfl (lv_at hl 0 rfl) ?_
  refine lv_bipush (v := 33) hx hb dL_law_2110 (by decide) ?_
  refine r_hci hS (aa_A (Nat.le_refl _) hda hA2 hS) (va_runS (As := [.ref b, .int 33]) (rest := []) ⟨hx, hb, hml, hown, hts⟩ (c_L_cell (b := b) (L := L) (xs := xs) hi (by decide) (fun k hk e => hbA (e ▸ hda k hk)) 33 _ _ hv H.size (Nat.lt_of_lt_of_le hbl hS.1)) (va_cwS 2 (fun w h => hts w (iv_L_cell_9 w h)) gv_L_cell_9 rfl rfl rfl (by decide +kernel) ⟨(Nat.le_of_ble_eq_true rfl), (Nat.le_of_ble_eq_true rfl)⟩) ⟨preL_blind, preL_of hP hK (hX.kept (hS.2.1 b hbl hbA))⟩ rfl rfl hl.1 rfl (lv_room (Nat.le_of_ble_eq_true rfl)) dL_law_2112 ⟨Nat.le_trans (by omega : _ ≤ 300) (Nat.le_of_ble_eq_true rfl), Nat.le_trans (by omega : _ ≤ 3000) (Nat.le_of_ble_eq_true rfl)⟩) (fun r1 s1 H locs hv hP hS => ?_)
  have hD := wd_Dg (A := La s) (cel := celL ad cA) (σ := s1) hi hda
  refine lv_bipush (v := 9) hx hb dL_law_2115 (by decide) ?_
  refine r_hci hS (aa_A (Nat.le_refl _) hda hA2 hS) (va_runS (As := [.int r1, .int 9]) (rest := []) ⟨hx, hb, hml, hown, hts⟩ (c_L_up (b := b) (L := L) (xs := xs) hi (by decide) (fun k hk e => hbA (e ▸ hda k hk)) r1 9 _ _ hv H.size (Nat.lt_of_lt_of_le hbl hS.1)) (va_cwS 2 (fun w h => hts w (iv_L_up_15 w h)) gv_L_up_15 rfl rfl rfl (by decide +kernel) ⟨(Nat.le_of_ble_eq_true rfl), (Nat.le_of_ble_eq_true rfl)⟩) ⟨preL_blind, preL_of hP hK (hX.kept (hS.2.1 b hbl hbA))⟩ rfl rfl hl.1 rfl (lv_room (Nat.le_of_ble_eq_true rfl)) dL_law_2117 ⟨Nat.le_trans (by omega : _ ≤ 300) (Nat.le_of_ble_eq_true rfl), Nat.le_trans (by omega : _ ≤ 3000) (Nat.le_of_ble_eq_true rfl)⟩) (fun r2 s2 H locs hv hP hS => ?_)
  have hD := wd_Dg (A := La s) (cel := celL ad cA) (σ := s2) hi hda
  refine lv_istore (lv' := [(27, .int r2), (0, .ref b), (1, .ref (ad 0)), (3, .int x3), (5, .int x5), (6, .int x6), (7, .int x7), (8, .int x8), (11, .ref (ad 82))]) hx hb dL_law_2120 hl (by decide) rfl (fun ls hl => ?_)
  refine lv_iconst (v := 0) hx hb dL_law_2122 (by decide) ?_
  refine lv_istore (lv' := [(28, .int 0), (27, .int r2), (0, .ref b), (1, .ref (ad 0)), (3, .int x3), (5, .int x5), (6, .int x6), (7, .int x7), (8, .int x8), (11, .ref (ad 82))]) hx hb dL_law_2123 hl (by decide) rfl (fun ls hl => ?_)
  refine lv_iconst (v := 0) hx hb dL_law_2125 (by decide) ?_
  refine lv_istore (lv' := [(29, .int 0), (28, .int 0), (27, .int r2), (0, .ref b), (1, .ref (ad 0)), (3, .int x3), (5, .int x5), (6, .int x6), (7, .int x7), (8, .int x8), (11, .ref (ad 82))]) hx hb dL_law_2126 hl (by decide) rfl (fun ls hl => ?_)
  exact hY 2128 [x3, x5, x6, x7, x8, r2, 0, 0] [] s2 hv _ _ _ _ _ rfl ad H locs ls hi hda hP hS (lv_sub hl [3, 4, 5, 6, 7, 8, 9, 10, 2, 1, 0] rfl)
