section LW2
variable {p : Program} {l : Launch} {e : Env} {s : State} {m : MethodId} {below : List Frame} {meth : Method} {c : Code} {b L : Nat} {xs : Nat → Int32} {dC : Nat → ClassId} {dI : Nat → Nat → Nat} {cA cZ : ClassId} {ad bd adK adV : Nat → Nat} {σ τ : St} {H : Heap} {locs : List Loc} {ls : Array Slot} {i : Nat} {Z : State → Prop}
theorem q_sub5 {i : Nat} (hL : L ≤ 2560) (hi : i ≤ 3000) : (nI L - 5 < nI i) = (L < i + 5) := propext (by
  rw [Int32.lt_iff_toInt_lt, show (5 : Int32) = nI 5 from rfl, pk_sub_toInt (by omega) (by omega), nI_toInt (by omega)]
  omega)
theorem nm_eq {n : Nat} : Int32.ofNat n = nI n := rfl
set_option maxHeartbeats 4000000 in
set_option maxRecDepth 100000 in
theorem law_go (C : LC p s m meth c b L xs dC dI cA cZ ad bd adK adV) (fin : ∀ (H : Heap) (locs : List Loc) (ls : Array Slot), va_S (La s) s.heap H locs → W p l e room_1 s m #[Value.ref b] below meth c H locs 93 2201 Z (F0 m 1165 ls [])) : ∀ (d i : Nat) (σ τ : St) (H : Heap) (locs : List Loc) (ls : Array Slot), L < i + d → i ≤ L + 5 → J σ τ → PX dC dI cA ad σ H → PM dC dI cA cZ bd τ H → va_S (La s) s.heap H locs → lv_has ls 4 [(3, .int (nI i)), (2, .ref (bd 0)), (1, .ref (ad 0)), (0, .ref b)] → W p l e room_1 s m #[Value.ref b] below meth c H locs 93 2201 Z (F0 m 18 ls []) := by
  have C' := C
  obtain ⟨⟨hx, hb, hml, hown, hts⟩, ⟨hX, hbl, hL⟩, hKN, ⟨hZ, hR⟩, hi, hj, hda, hdb, hne⟩ := C
  have hbA : ¬ La s b := Nat.not_le.mpr hbl
  have iter : ∀ (i : Nat) (σ τ : St) (H : Heap) (locs : List Loc) (ls : Array Slot), i ≤ L + 5 → J σ τ → PX dC dI cA ad σ H → PM dC dI cA cZ bd τ H → va_S (La s) s.heap H locs → lv_has ls 4 [(3, .int (nI i)), (2, .ref (bd 0)), (1, .ref (ad 0)), (0, .ref b)] → (i + 5 ≤ L → ∀ (u w : St) (H : Heap) (locs : List Loc) (ls : Array Slot), J u w → PX dC dI cA ad u H → PM dC dI cA cZ bd w H → va_S (La s) s.heap H locs → lv_has ls 4 [(3, .int (nI (i + 5))), (2, .ref (bd 0)), (1, .ref (ad 0)), (0, .ref b)] → W p l e room_1 s m #[Value.ref b] below meth c H locs 93 2201 Z (F0 m 18 ls [])) → W p l e room_1 s m #[Value.ref b] below meth c H locs 93 2201 Z (F0 m 18 ls []) := fun i σ τ H locs ls hiL hJ hPX hPM hS hl nx => by
    refine lv_iload_n hx hb dL_law_18 rfl (lv_at hl 0 rfl) ?_
    refine lv_aload_n hx hb dL_law_19 rfl (lv_at hl 3 rfl) ?_
    refine va_slen hx hb hX hbl hbA hS dL_law_20 ?_
    refine lv_iconst (v := 5) hx hb dL_law_21 (by decide) ?_
    refine lv_isub hx hb dL_law_22 ?_
    refine lv_icmp_gt (tgt := 1165) hx hb dL_law_23 (by decide) (fun _ => fin H locs ls hS) (fun c0 => ?_)
    have hi5 : i + 5 ≤ L := by
      rw [nm_eq, q_sub5 hL (by omega)] at c0
      omega
    have kk : ∀ (u w : St) (H : Heap) (locs : List Loc), J u w → PX dC dI cA ad u H → PM dC dI cA cZ bd w H → va_S (La s) s.heap H locs → W p l e room_1 s m #[Value.ref b] below meth c H locs 93 2201 Z (F0 m 1159 ls []) := fun u w H locs hJ hPX hPM hS => by
      refine lv_iinc (v := nI (i + 5)) (lv' := [(3, .int (nI (i + 5))), (2, .ref (bd 0)), (1, .ref (ad 0)), (0, .ref b)]) hx hb dL_law_1159 hl (k := 0) rfl (nI_add i 5) (by decide) rfl (fun ls hl => ?_)
      refine lv_goto (tgt := 18) hx hb dL_law_1162 (by decide) ?_
      exact nx hi5 u w H locs ls hJ hPX hPM hS hl
    refine lv_aload_n hx hb dL_law_26 rfl (lv_at hl 3 rfl) ?_
    refine lv_iload_n hx hb dL_law_27 rfl (lv_at hl 0 rfl) ?_
    refine va_sld hx hb hX hbl hbA hS (vp_in_nI (by omega) (by omega)) dL_law_28 ?_
    refine lv_bipush (v := 63) hx hb dL_law_29 (by decide) ?_
    refine lv_iand hx hb dL_law_31 ?_
    refine lv_topi (fun v ev => ?_)
    by_cases c0 : v = 0
    · refine lv_tableIn (off := 164) (tgt := 196) hx hb dL_law_32 (by rw [c0]; decide) (by rw [c0]; decide) (by rw [c0]; rfl) (by decide) ?_
      exact lc_0 C' hJ hPX hPM hS hl hi5 kk
    by_cases c1 : v = 1
    · refine lv_tableIn (off := 177) (tgt := 209) hx hb dL_law_32 (by rw [c1]; decide) (by rw [c1]; decide) (by rw [c1]; rfl) (by decide) ?_
      exact lc_1 C' hJ hPX hPM hS hl hi5 kk
    by_cases c2 : v = 2
    · refine lv_tableIn (off := 210) (tgt := 242) hx hb dL_law_32 (by rw [c2]; decide) (by rw [c2]; decide) (by rw [c2]; rfl) (by decide) ?_
      exact lc_2 C' hJ hPX hPM hS hl hi5 kk
    by_cases c3 : v = 3
    · refine lv_tableIn (off := 253) (tgt := 285) hx hb dL_law_32 (by rw [c3]; decide) (by rw [c3]; decide) (by rw [c3]; rfl) (by decide) ?_
      exact lc_3 C' hJ hPX hPM hS hl hi5 kk
    by_cases c4 : v = 4
    · refine lv_tableIn (off := 286) (tgt := 318) hx hb dL_law_32 (by rw [c4]; decide) (by rw [c4]; decide) (by rw [c4]; rfl) (by decide) ?_
      exact lc_4 C' hJ hPX hPM hS hl hi5 kk
    by_cases c5 : v = 5
    · refine lv_tableIn (off := 309) (tgt := 341) hx hb dL_law_32 (by rw [c5]; decide) (by rw [c5]; decide) (by rw [c5]; rfl) (by decide) ?_
      exact lc_5 C' hJ hPX hPM hS hl hi5 kk
    by_cases c6 : v = 6
    · refine lv_tableIn (off := 322) (tgt := 354) hx hb dL_law_32 (by rw [c6]; decide) (by rw [c6]; decide) (by rw [c6]; rfl) (by decide) ?_
      exact lc_6 C' hJ hPX hPM hS hl hi5 kk
    by_cases c7 : v = 7
    · refine lv_tableIn (off := 335) (tgt := 367) hx hb dL_law_32 (by rw [c7]; decide) (by rw [c7]; decide) (by rw [c7]; rfl) (by decide) ?_
      exact lc_7 C' hJ hPX hPM hS hl hi5 kk
    by_cases c8 : v = 8
    · refine lv_tableIn (off := 358) (tgt := 390) hx hb dL_law_32 (by rw [c8]; decide) (by rw [c8]; decide) (by rw [c8]; rfl) (by decide) ?_
      exact lc_8 C' hJ hPX hPM hS hl hi5 kk
    by_cases c9 : v = 9
    · refine lv_tableIn (off := 381) (tgt := 413) hx hb dL_law_32 (by rw [c9]; decide) (by rw [c9]; decide) (by rw [c9]; rfl) (by decide) ?_
      exact lc_9 C' hJ hPX hPM hS hl hi5 kk
    by_cases c10 : v = 10
    · refine lv_tableIn (off := 394) (tgt := 426) hx hb dL_law_32 (by rw [c10]; decide) (by rw [c10]; decide) (by rw [c10]; rfl) (by decide) ?_
      exact lc_10 C' hJ hPX hPM hS hl hi5 kk
    by_cases c11 : v = 11
    · refine lv_tableIn (off := 427) (tgt := 459) hx hb dL_law_32 (by rw [c11]; decide) (by rw [c11]; decide) (by rw [c11]; rfl) (by decide) ?_
      exact lc_11 C' hJ hPX hPM hS hl hi5 kk
    by_cases c12 : v = 12
    · refine lv_tableIn (off := 460) (tgt := 492) hx hb dL_law_32 (by rw [c12]; decide) (by rw [c12]; decide) (by rw [c12]; rfl) (by decide) ?_
      exact lc_12 C' hJ hPX hPM hS hl hi5 kk
    by_cases c13 : v = 13
    · refine lv_tableIn (off := 493) (tgt := 525) hx hb dL_law_32 (by rw [c13]; decide) (by rw [c13]; decide) (by rw [c13]; rfl) (by decide) ?_
      exact lc_13 C' hJ hPX hPM hS hl hi5 kk
    by_cases c14 : v = 14
    · refine lv_tableIn (off := 516) (tgt := 548) hx hb dL_law_32 (by rw [c14]; decide) (by rw [c14]; decide) (by rw [c14]; rfl) (by decide) ?_
      exact lc_14 C' hJ hPX hPM hS hl hi5 kk
    by_cases c15 : v = 15
    · refine lv_tableIn (off := 539) (tgt := 571) hx hb dL_law_32 (by rw [c15]; decide) (by rw [c15]; decide) (by rw [c15]; rfl) (by decide) ?_
      exact lc_15 C' hJ hPX hPM hS hl hi5 kk
    by_cases c16 : v = 16
    · refine lv_tableIn (off := 562) (tgt := 594) hx hb dL_law_32 (by rw [c16]; decide) (by rw [c16]; decide) (by rw [c16]; rfl) (by decide) ?_
      exact lc_16 C' hJ hPX hPM hS hl hi5 kk
    by_cases c17 : v = 17
    · refine lv_tableIn (off := 585) (tgt := 617) hx hb dL_law_32 (by rw [c17]; decide) (by rw [c17]; decide) (by rw [c17]; rfl) (by decide) ?_
      exact lc_17 C' hJ hPX hPM hS hl hi5 kk
    by_cases c18 : v = 18
    · refine lv_tableIn (off := 628) (tgt := 660) hx hb dL_law_32 (by rw [c18]; decide) (by rw [c18]; decide) (by rw [c18]; rfl) (by decide) ?_
      exact lc_18 C' hJ hPX hPM hS hl hi5 kk
    by_cases c19 : v = 19
    · refine lv_tableIn (off := 661) (tgt := 693) hx hb dL_law_32 (by rw [c19]; decide) (by rw [c19]; decide) (by rw [c19]; rfl) (by decide) ?_
      exact lc_19 C' hJ hPX hPM hS hl hi5 kk
    by_cases c20 : v = 20
    · refine lv_tableIn (off := 674) (tgt := 706) hx hb dL_law_32 (by rw [c20]; decide) (by rw [c20]; decide) (by rw [c20]; rfl) (by decide) ?_
      exact lc_20 C' hJ hPX hPM hS hl hi5 kk
    by_cases c21 : v = 21
    · refine lv_tableIn (off := 687) (tgt := 719) hx hb dL_law_32 (by rw [c21]; decide) (by rw [c21]; decide) (by rw [c21]; rfl) (by decide) ?_
      exact lc_21 C' hJ hPX hPM hS hl hi5 kk
    by_cases c22 : v = 22
    · refine lv_tableIn (off := 740) (tgt := 772) hx hb dL_law_32 (by rw [c22]; decide) (by rw [c22]; decide) (by rw [c22]; rfl) (by decide) ?_
      exact lc_22 C' hJ hPX hPM hS hl hi5 kk
    by_cases c23 : v = 23
    · refine lv_tableIn (off := 793) (tgt := 825) hx hb dL_law_32 (by rw [c23]; decide) (by rw [c23]; decide) (by rw [c23]; rfl) (by decide) ?_
      exact lc_23 C' hJ hPX hPM hS hl hi5 kk
    by_cases c24 : v = 24
    · refine lv_tableIn (off := 816) (tgt := 848) hx hb dL_law_32 (by rw [c24]; decide) (by rw [c24]; decide) (by rw [c24]; rfl) (by decide) ?_
      exact lc_24 C' hJ hPX hPM hS hl hi5 kk
    by_cases c25 : v = 25
    · refine lv_tableIn (off := 839) (tgt := 871) hx hb dL_law_32 (by rw [c25]; decide) (by rw [c25]; decide) (by rw [c25]; rfl) (by decide) ?_
      exact lc_25 C' hJ hPX hPM hS hl hi5 kk
    by_cases c26 : v = 26
    · refine lv_tableIn (off := 862) (tgt := 894) hx hb dL_law_32 (by rw [c26]; decide) (by rw [c26]; decide) (by rw [c26]; rfl) (by decide) ?_
      exact lc_26 C' hJ hPX hPM hS hl hi5 kk
    by_cases c27 : v = 27
    · refine lv_tableIn (off := 885) (tgt := 917) hx hb dL_law_32 (by rw [c27]; decide) (by rw [c27]; decide) (by rw [c27]; rfl) (by decide) ?_
      exact lc_27 C' hJ hPX hPM hS hl hi5 kk
    by_cases c28 : v = 28
    · refine lv_tableIn (off := 908) (tgt := 940) hx hb dL_law_32 (by rw [c28]; decide) (by rw [c28]; decide) (by rw [c28]; rfl) (by decide) ?_
      exact lc_28 C' hJ hPX hPM hS hl hi5 kk
    by_cases c29 : v = 29
    · refine lv_tableIn (off := 941) (tgt := 973) hx hb dL_law_32 (by rw [c29]; decide) (by rw [c29]; decide) (by rw [c29]; rfl) (by decide) ?_
      exact lc_29 C' hJ hPX hPM hS hl hi5 kk
    by_cases c30 : v = 30
    · refine lv_tableIn (off := 964) (tgt := 996) hx hb dL_law_32 (by rw [c30]; decide) (by rw [c30]; decide) (by rw [c30]; rfl) (by decide) ?_
      exact lc_30 C' hJ hPX hPM hS hl hi5 kk
    by_cases c31 : v = 31
    · refine lv_tableIn (off := 997) (tgt := 1029) hx hb dL_law_32 (by rw [c31]; decide) (by rw [c31]; decide) (by rw [c31]; rfl) (by decide) ?_
      exact lc_31 C' hJ hPX hPM hS hl hi5 kk
    by_cases c32 : v = 32
    · refine lv_tableIn (off := 1021) (tgt := 1053) hx hb dL_law_32 (by rw [c32]; decide) (by rw [c32]; decide) (by rw [c32]; rfl) (by decide) ?_
      exact lc_32 C' hJ hPX hPM hS hl hi5 kk
    by_cases c33 : v = 33
    · refine lv_tableIn (off := 1044) (tgt := 1076) hx hb dL_law_32 (by rw [c33]; decide) (by rw [c33]; decide) (by rw [c33]; rfl) (by decide) ?_
      exact lc_33 C' hJ hPX hPM hS hl hi5 kk
    by_cases c34 : v = 34
    · refine lv_tableIn (off := 1067) (tgt := 1099) hx hb dL_law_32 (by rw [c34]; decide) (by rw [c34]; decide) (by rw [c34]; rfl) (by decide) ?_
      exact lc_34 C' hJ hPX hPM hS hl hi5 kk
    by_cases c35 : v = 35
    · refine lv_tableIn (off := 1090) (tgt := 1122) hx hb dL_law_32 (by rw [c35]; decide) (by rw [c35]; decide) (by rw [c35]; rfl) (by decide) ?_
      exact lc_35 C' hJ hPX hPM hS hl hi5 kk
    by_cases c36 : v = 36
    · refine lv_tableIn (off := 1113) (tgt := 1145) hx hb dL_law_32 (by rw [c36]; decide) (by rw [c36]; decide) (by rw [c36]; rfl) (by decide) ?_
      exact lc_36 C' hJ hPX hPM hS hl hi5 kk
    refine lv_tableOut (tgt := 1159) hx hb dL_law_32 (by have w0 := lv_neT (a := 0) c0 (by decide); have w1 := lv_neT (a := 1) c1 (by decide); have w2 := lv_neT (a := 2) c2 (by decide); have w3 := lv_neT (a := 3) c3 (by decide); have w4 := lv_neT (a := 4) c4 (by decide); have w5 := lv_neT (a := 5) c5 (by decide); have w6 := lv_neT (a := 6) c6 (by decide); have w7 := lv_neT (a := 7) c7 (by decide); have w8 := lv_neT (a := 8) c8 (by decide); have w9 := lv_neT (a := 9) c9 (by decide); have w10 := lv_neT (a := 10) c10 (by decide); have w11 := lv_neT (a := 11) c11 (by decide); have w12 := lv_neT (a := 12) c12 (by decide); have w13 := lv_neT (a := 13) c13 (by decide); have w14 := lv_neT (a := 14) c14 (by decide); have w15 := lv_neT (a := 15) c15 (by decide); have w16 := lv_neT (a := 16) c16 (by decide); have w17 := lv_neT (a := 17) c17 (by decide); have w18 := lv_neT (a := 18) c18 (by decide); have w19 := lv_neT (a := 19) c19 (by decide); have w20 := lv_neT (a := 20) c20 (by decide); have w21 := lv_neT (a := 21) c21 (by decide); have w22 := lv_neT (a := 22) c22 (by decide); have w23 := lv_neT (a := 23) c23 (by decide); have w24 := lv_neT (a := 24) c24 (by decide); have w25 := lv_neT (a := 25) c25 (by decide); have w26 := lv_neT (a := 26) c26 (by decide); have w27 := lv_neT (a := 27) c27 (by decide); have w28 := lv_neT (a := 28) c28 (by decide); have w29 := lv_neT (a := 29) c29 (by decide); have w30 := lv_neT (a := 30) c30 (by decide); have w31 := lv_neT (a := 31) c31 (by decide); have w32 := lv_neT (a := 32) c32 (by decide); have w33 := lv_neT (a := 33) c33 (by decide); have w34 := lv_neT (a := 34) c34 (by decide); have w35 := lv_neT (a := 35) c35 (by decide); have w36 := lv_neT (a := 36) c36 (by decide); omega) (by decide) ?_
    exact kk σ τ H locs hJ hPX hPM hS
  intro d
  induction d with
  | zero =>
    intro i σ τ H locs ls h1 h2 hJ hPX hPM hS hl
    exact iter i σ τ H locs ls h2 hJ hPX hPM hS hl (fun q => absurd q (by omega))
  | succ d ih =>
    intro i σ τ H locs ls h1 h2 hJ hPX hPM hS hl
    exact iter i σ τ H locs ls h2 hJ hPX hPM hS hl (fun q u w H locs ls hJ hPX hPM hS hl => ih (i + 5) u w H locs ls (by omega) (by omega) hJ hPX hPM hS hl)
end LW2
