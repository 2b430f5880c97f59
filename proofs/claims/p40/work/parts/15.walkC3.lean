def lay_X8_copy (ad : Nat → Nat) (h0 : Nat) (h1 : Nat) : Nat → List Int32 → List Int64 → Option (List (Nat × Value) × List Value) := fun P xs ys => match P, xs, ys with
  | _, _, _ => none
set_option maxHeartbeats 4000000 in
set_option maxRecDepth 100000 in
theorem w_X8_copy_e {p : Program} {l : Launch} {e : Env} {s : State} {m : MethodId} {args : Array Value} {below : List Frame} {meth : Method} {c : Code} {dC : Nat → ClassId} {dI : Nat → Nat → Nat} {ad : Nat → Nat} {cA cZ : ClassId} (hi : Inj 81 ad) (h0 : Nat) (h1 : Nat) (hh0 : isSt h0) (hh1 : isSt h1) (C0 : Cx cX8_copy RX8 wsX8_copy 2 none p s m args meth c) (hK : KK dC dI cA cZ s) (Q : St → Prop) (Y : Nat → List Int32 → List Int64 → St → Prop) (hY : ∀ P xs ys σ, Y P xs ys σ → XX p l e ({ frames := 1, cells := 0, slots := 0, locals := 35 } : Room) s m args below meth c (dC, dI) 81 ad (celC ad cA) 2 (ZV below args s (dC, dI) 81 ad (celC ad cA) Q) (lay_X8_copy ad h0 h1) P xs ys σ)  (s0 : St) (hv : B_X8_copy_e h0 h1 Q Y  s0) {H : Heap} {locs : List Loc} {ls : Array Slot} (hP : va_P (dC, dI) vwCl (wd 81 ad (celC ad cA) s0) H) (hS : va_S (AA 81 ad s.heap.size) s.heap H locs) (hl : lv_has ls 2 [(0, .ref (ad h0)), (1, .ref (ad h1))]) : W p l e ({ frames := 1, cells := 0, slots := 0, locals := 35 } : Room) s m args below meth c H locs 0 0 (ZV below args s (dC, dI) 81 ad (celC ad cA) Q) (F0 m 0 ls []) := by
  obtain ⟨hx, hb, hml, hown, hts, hr, hlocks⟩ := C0
  have hD := wd_D (s := s) (cel := celC ad cA) (σ := s0) hi
  unfold B_X8_copy_e at hv
  refine lv_aload_n hx hb dX8_copy_0 rfl (lv_at hl 1 rfl) ?_
  refine r_get hx hb hts (iwX8_copy_X8) hown hK.1 hP h1 (ltSt_0 hh1) (ceSt_0 hh1 (s0 h1)) rfl 0 (by decide) (hts _ kX8_copy_1) (v := .ref (ad (h1 + 1))) rfl dX8_copy_1 ?_
  refine lv_iconst (v := 0) hx hb dX8_copy_4 (by decide) ?_
  refine lv_aload_n hx hb dX8_copy_5 rfl (lv_at hl 0 rfl) ?_
  refine r_get hx hb hts (iwX8_copy_X8) hown hK.1 hP h0 (ltSt_0 hh0) (ceSt_0 hh0 (s0 h0)) rfl 0 (by decide) (hts _ kX8_copy_1) (v := .ref (ad (h0 + 1))) rfl dX8_copy_6 ?_
  refine lv_iconst (v := 0) hx hb dX8_copy_9 (by decide) ?_
  refine lv_bipush (v := 6) hx hb dX8_copy_10 (by decide) ?_
  refine r_copy (sp' := 0) (dp' := 0) (n' := 6) hx hb (hml.trans hl.1.symm) hown (hts _ kX8_copy_2) (hts _ kX8_copy_3) (hts _ kX8_copy_4) (hts _ kX8_copy_5) hK.1 hP hD hS (h1 + 1) (h0 + 1) (ltSt_1 hh1) (ltSt_1 hh0) (ceSt_1 hh1 (s0 (h1 + 1))) (ceSt_1 hh0 (s0 (h0 + 1))) (ceSt_1 hh0 _) (by decide) (by decide) (by decide) rfl rfl rfl (by decide) (by decide) (Nat.le_of_ble_eq_true rfl) (Nat.le_of_ble_eq_true rfl) dX8_copy_12 (fun H locs s1 es1 hP hD hS => ?_)
  have hv := hv s1 es1
  refine lv_aload_n hx hb dX8_copy_15 rfl (lv_at hl 1 rfl) ?_
  refine r_get hx hb hts (iwX8_copy_X8) hown hK.1 hP h1 (ltSt_0 hh1) (ceSt_0 hh1 (s1 h1)) rfl 1 (by decide) (hts _ kX8_copy_6) (v := .ref (ad (h1 + 2))) rfl dX8_copy_16 ?_
  refine lv_iconst (v := 0) hx hb dX8_copy_19 (by decide) ?_
  refine lv_aload_n hx hb dX8_copy_20 rfl (lv_at hl 0 rfl) ?_
  refine r_get hx hb hts (iwX8_copy_X8) hown hK.1 hP h0 (ltSt_0 hh0) (ceSt_0 hh0 (s1 h0)) rfl 1 (by decide) (hts _ kX8_copy_6) (v := .ref (ad (h0 + 2))) rfl dX8_copy_21 ?_
  refine lv_iconst (v := 0) hx hb dX8_copy_24 (by decide) ?_
  refine lv_bipush (v := 7) hx hb dX8_copy_25 (by decide) ?_
  refine r_copy (sp' := 0) (dp' := 0) (n' := 7) hx hb (hml.trans hl.1.symm) hown (hts _ kX8_copy_2) (hts _ kX8_copy_3) (hts _ kX8_copy_4) (hts _ kX8_copy_5) hK.1 hP hD hS (h1 + 2) (h0 + 2) (ltSt_2 hh1) (ltSt_2 hh0) (ceSt_2 hh1 (s1 (h1 + 2))) (ceSt_2 hh0 (s1 (h0 + 2))) (ceSt_2 hh0 _) (by decide) (by decide) (by decide) rfl rfl rfl (by decide) (by decide) (Nat.le_of_ble_eq_true rfl) (Nat.le_of_ble_eq_true rfl) dX8_copy_27 (fun H locs s2 es2 hP hD hS => ?_)
  have hv := hv s2 es2
  refine lv_aload_n hx hb dX8_copy_30 rfl (lv_at hl 1 rfl) ?_
  refine r_get hx hb hts (iwX8_copy_X8) hown hK.1 hP h1 (ltSt_0 hh1) (ceSt_0 hh1 (s2 h1)) rfl 2 (by decide) (hts _ kX8_copy_7) (v := .ref (ad (h1 + 3))) rfl dX8_copy_31 ?_
  refine lv_iconst (v := 0) hx hb dX8_copy_34 (by decide) ?_
  refine lv_aload_n hx hb dX8_copy_35 rfl (lv_at hl 0 rfl) ?_
  refine r_get hx hb hts (iwX8_copy_X8) hown hK.1 hP h0 (ltSt_0 hh0) (ceSt_0 hh0 (s2 h0)) rfl 2 (by decide) (hts _ kX8_copy_7) (v := .ref (ad (h0 + 3))) rfl dX8_copy_36 ?_
  refine lv_iconst (v := 0) hx hb dX8_copy_39 (by decide) ?_
  refine lv_bipush (v := 7) hx hb dX8_copy_40 (by decide) ?_
  refine r_copy (sp' := 0) (dp' := 0) (n' := 7) hx hb (hml.trans hl.1.symm) hown (hts _ kX8_copy_2) (hts _ kX8_copy_3) (hts _ kX8_copy_4) (hts _ kX8_copy_5) hK.1 hP hD hS (h1 + 3) (h0 + 3) (ltSt_3 hh1) (ltSt_3 hh0) (ceSt_3 hh1 (s2 (h1 + 3))) (ceSt_3 hh0 (s2 (h0 + 3))) (ceSt_3 hh0 _) (by decide) (by decide) (by decide) rfl rfl rfl (by decide) (by decide) (Nat.le_of_ble_eq_true rfl) (Nat.le_of_ble_eq_true rfl) dX8_copy_42 (fun H locs s3 es3 hP hD hS => ?_)
  have hv := hv s3 es3
  refine lv_aload_n hx hb dX8_copy_45 rfl (lv_at hl 1 rfl) ?_
  refine r_get hx hb hts (iwX8_copy_X8) hown hK.1 hP h1 (ltSt_0 hh1) (ceSt_0 hh1 (s3 h1)) rfl 3 (by decide) (hts _ kX8_copy_8) (v := .ref (ad (h1 + 4))) rfl dX8_copy_46 ?_
  refine lv_iconst (v := 0) hx hb dX8_copy_49 (by decide) ?_
  refine lv_aload_n hx hb dX8_copy_50 rfl (lv_at hl 0 rfl) ?_
  refine r_get hx hb hts (iwX8_copy_X8) hown hK.1 hP h0 (ltSt_0 hh0) (ceSt_0 hh0 (s3 h0)) rfl 3 (by decide) (hts _ kX8_copy_8) (v := .ref (ad (h0 + 4))) rfl dX8_copy_51 ?_
  refine lv_iconst (v := 0) hx hb dX8_copy_54 (by decide) ?_
  refine lv_bipush (v := 7) hx hb dX8_copy_55 (by decide) ?_
  refine r_copy (sp' := 0) (dp' := 0) (n' := 7) hx hb (hml.trans hl.1.symm) hown (hts _ kX8_copy_2) (hts _ kX8_copy_3) (hts _ kX8_copy_4) (hts _ kX8_copy_5) hK.1 hP hD hS (h1 + 4) (h0 + 4) (ltSt_4 hh1) (ltSt_4 hh0) (ceSt_4 hh1 (s3 (h1 + 4))) (ceSt_4 hh0 (s3 (h0 + 4))) (ceSt_4 hh0 _) (by decide) (by decide) (by decide) rfl rfl rfl (by decide) (by decide) (Nat.le_of_ble_eq_true rfl) (Nat.le_of_ble_eq_true rfl) dX8_copy_57 (fun H locs s4 es4 hP hD hS => ?_)
  have hv := hv s4 es4
  refine lv_aload_n hx hb dX8_copy_60 rfl (lv_at hl 1 rfl) ?_
  refine r_get hx hb hts (iwX8_copy_X8) hown hK.1 hP h1 (ltSt_0 hh1) (ceSt_0 hh1 (s4 h1)) rfl 4 (by decide) (hts _ kX8_copy_9) (v := .ref (ad (h1 + 5))) rfl dX8_copy_61 ?_
  refine lv_iconst (v := 0) hx hb dX8_copy_64 (by decide) ?_
  refine lv_aload_n hx hb dX8_copy_65 rfl (lv_at hl 0 rfl) ?_
  refine r_get hx hb hts (iwX8_copy_X8) hown hK.1 hP h0 (ltSt_0 hh0) (ceSt_0 hh0 (s4 h0)) rfl 4 (by decide) (hts _ kX8_copy_9) (v := .ref (ad (h0 + 5))) rfl dX8_copy_66 ?_
  refine lv_iconst (v := 0) hx hb dX8_copy_69 (by decide) ?_
  refine lv_iconst (v := 3) hx hb dX8_copy_70 (by decide) ?_
  refine r_copy (sp' := 0) (dp' := 0) (n' := 3) hx hb (hml.trans hl.1.symm) hown (hts _ kX8_copy_2) (hts _ kX8_copy_3) (hts _ kX8_copy_4) (hts _ kX8_copy_5) hK.1 hP hD hS (h1 + 5) (h0 + 5) (ltSt_5 hh1) (ltSt_5 hh0) (ceSt_5 hh1 (s4 (h1 + 5))) (ceSt_5 hh0 (s4 (h0 + 5))) (ceSt_5 hh0 _) (by decide) (by decide) (by decide) rfl rfl rfl (by decide) (by decide) (Nat.le_of_ble_eq_true rfl) (Nat.le_of_ble_eq_true rfl) dX8_copy_71 (fun H locs s5 es5 hP hD hS => ?_)
  have hv := hv s5 es5
  refine lv_aload_n hx hb dX8_copy_74 rfl (lv_at hl 1 rfl) ?_
  refine r_get hx hb hts (iwX8_copy_X8) hown hK.1 hP h1 (ltSt_0 hh1) (ceSt_0 hh1 (s5 h1)) rfl 5 (by decide) (hts _ kX8_copy_10) (v := .ref (ad (h1 + 6))) rfl dX8_copy_75 ?_
  refine lv_iconst (v := 0) hx hb dX8_copy_78 (by decide) ?_
  refine lv_aload_n hx hb dX8_copy_79 rfl (lv_at hl 0 rfl) ?_
  refine r_get hx hb hts (iwX8_copy_X8) hown hK.1 hP h0 (ltSt_0 hh0) (ceSt_0 hh0 (s5 h0)) rfl 5 (by decide) (hts _ kX8_copy_10) (v := .ref (ad (h0 + 6))) rfl dX8_copy_80 ?_
  refine lv_iconst (v := 0) hx hb dX8_copy_83 (by decide) ?_
  refine lv_iconst (v := 3) hx hb dX8_copy_84 (by decide) ?_
  refine r_copy (sp' := 0) (dp' := 0) (n' := 3) hx hb (hml.trans hl.1.symm) hown (hts _ kX8_copy_2) (hts _ kX8_copy_3) (hts _ kX8_copy_4) (hts _ kX8_copy_5) hK.1 hP hD hS (h1 + 6) (h0 + 6) (ltSt_6 hh1) (ltSt_6 hh0) (ceSt_6 hh1 (s5 (h1 + 6))) (ceSt_6 hh0 (s5 (h0 + 6))) (ceSt_6 hh0 _) (by decide) (by decide) (by decide) rfl rfl rfl (by decide) (by decide) (Nat.le_of_ble_eq_true rfl) (Nat.le_of_ble_eq_true rfl) dX8_copy_85 (fun H locs s6 es6 hP hD hS => ?_)
  have hv := hv s6 es6
  refine lv_aload_n hx hb dX8_copy_88 rfl (lv_at hl 1 rfl) ?_
  refine r_get hx hb hts (iwX8_copy_X8) hown hK.1 hP h1 (ltSt_0 hh1) (ceSt_0 hh1 (s6 h1)) rfl 6 (by decide) (hts _ kX8_copy_11) (v := .ref (ad (h1 + 7))) rfl dX8_copy_89 ?_
  refine lv_iconst (v := 0) hx hb dX8_copy_92 (by decide) ?_
  refine lv_aload_n hx hb dX8_copy_93 rfl (lv_at hl 0 rfl) ?_
  refine r_get hx hb hts (iwX8_copy_X8) hown hK.1 hP h0 (ltSt_0 hh0) (ceSt_0 hh0 (s6 h0)) rfl 6 (by decide) (hts _ kX8_copy_11) (v := .ref (ad (h0 + 7))) rfl dX8_copy_94 ?_
  refine lv_iconst (v := 0) hx hb dX8_copy_97 (by decide) ?_
  refine lv_bipush (v := 24) hx hb dX8_copy_98 (by decide) ?_
  refine r_copy (sp' := 0) (dp' := 0) (n' := 24) hx hb (hml.trans hl.1.symm) hown (hts _ kX8_copy_2) (hts _ kX8_copy_3) (hts _ kX8_copy_4) (hts _ kX8_copy_5) hK.1 hP hD hS (h1 + 7) (h0 + 7) (ltSt_7 hh1) (ltSt_7 hh0) (ceSt_7 hh1 (s6 (h1 + 7))) (ceSt_7 hh0 (s6 (h0 + 7))) (ceSt_7 hh0 _) (by decide) (by decide) (by decide) rfl rfl rfl (by decide) (by decide) (Nat.le_of_ble_eq_true rfl) (Nat.le_of_ble_eq_true rfl) dX8_copy_100 (fun H locs s7 es7 hP hD hS => ?_)
  have hv := hv s7 es7
  refine lv_aload_n hx hb dX8_copy_103 rfl (lv_at hl 0 rfl) ?_
  refine lv_aload_n hx hb dX8_copy_104 rfl (lv_at hl 1 rfl) ?_
  refine r_get hx hb hts (iwX8_copy_X8) hown hK.1 hP h1 (ltSt_0 hh1) (ceSt_0 hh1 (s7 h1)) rfl 8 (by decide) (hts _ kX8_copy_12) (v := .int (s7 h1 8)) rfl dX8_copy_105 ?_
  refine r_put hx hb hts (iwX8_copy_X8) tyX8 tyX8_ok nmX8 hown hK.1 hP hD hS h0 (ltSt_0 hh0) (ceSt_0 hh0 (s7 h0)) rfl 8 (by decide) (hts _ kX8_copy_12) rfl (ty := .int) (v := .int (s7 h1 8)) (by decide +kernel) rfl rfl (Nat.le_of_ble_eq_true rfl) (row := (upd (s7 h0) 8 (s7 h1 8))) (by rw [(ceSt_0 hh0 (upd (s7 h0) 8 (s7 h1 8)))]; rfl) dX8_copy_108 (fun H locs s8 es8 hP hD hS => ?_)
  have hv := hv s8 es8
  refine lv_aload_n hx hb dX8_copy_111 rfl (lv_at hl 0 rfl) ?_
  refine lv_aload_n hx hb dX8_copy_112 rfl (lv_at hl 1 rfl) ?_
  refine r_get hx hb hts (iwX8_copy_X8) hown hK.1 hP h1 (ltSt_0 hh1) (ceSt_0 hh1 (s8 h1)) rfl 9 (by decide) (hts _ kX8_copy_13) (v := .int (s8 h1 9)) rfl dX8_copy_113 ?_
  refine r_put hx hb hts (iwX8_copy_X8) tyX8 tyX8_ok nmX8 hown hK.1 hP hD hS h0 (ltSt_0 hh0) (ceSt_0 hh0 (s8 h0)) rfl 9 (by decide) (hts _ kX8_copy_13) rfl (ty := .int) (v := .int (s8 h1 9)) (by decide +kernel) rfl rfl (Nat.le_of_ble_eq_true rfl) (row := (upd (s8 h0) 9 (s8 h1 9))) (by rw [(ceSt_0 hh0 (upd (s8 h0) 9 (s8 h1 9)))]; rfl) dX8_copy_116 (fun H locs s9 es9 hP hD hS => ?_)
  have hv := hv s9 es9
  refine lv_aload_n hx hb dX8_copy_119 rfl (lv_at hl 0 rfl) ?_
  refine lv_aload_n hx hb dX8_copy_120 rfl (lv_at hl 1 rfl) ?_
  refine r_get hx hb hts (iwX8_copy_X8) hown hK.1 hP h1 (ltSt_0 hh1) (ceSt_0 hh1 (s9 h1)) rfl 10 (by decide) (hts _ kX8_copy_14) (v := .int (s9 h1 10)) rfl dX8_copy_121 ?_
  refine r_put hx hb hts (iwX8_copy_X8) tyX8 tyX8_ok nmX8 hown hK.1 hP hD hS h0 (ltSt_0 hh0) (ceSt_0 hh0 (s9 h0)) rfl 10 (by decide) (hts _ kX8_copy_14) rfl (ty := .int) (v := .int (s9 h1 10)) (by decide +kernel) rfl rfl (Nat.le_of_ble_eq_true rfl) (row := (upd (s9 h0) 10 (s9 h1 10))) (by rw [(ceSt_0 hh0 (upd (s9 h0) 10 (s9 h1 10)))]; rfl) dX8_copy_124 (fun H locs s10 es10 hP hD hS => ?_)
  have hv := hv s10 es10
  refine lv_aload_n hx hb dX8_copy_127 rfl (lv_at hl 0 rfl) ?_
  refine lv_aload_n hx hb dX8_copy_128 rfl (lv_at hl 1 rfl) ?_
  refine r_get hx hb hts (iwX8_copy_X8) hown hK.1 hP h1 (ltSt_0 hh1) (ceSt_0 hh1 (s10 h1)) rfl 11 (by decide) (hts _ kX8_copy_15) (v := .int (s10 h1 11)) rfl dX8_copy_129 ?_
  refine r_put hx hb hts (iwX8_copy_X8) tyX8 tyX8_ok nmX8 hown hK.1 hP hD hS h0 (ltSt_0 hh0) (ceSt_0 hh0 (s10 h0)) rfl 11 (by decide) (hts _ kX8_copy_15) rfl (ty := .int) (v := .int (s10 h1 11)) (by decide +kernel) rfl rfl (Nat.le_of_ble_eq_true rfl) (row := (upd (s10 h0) 11 (s10 h1 11))) (by rw [(ceSt_0 hh0 (upd (s10 h0) 11 (s10 h1 11)))]; rfl) dX8_copy_132 (fun H locs s11 es11 hP hD hS => ?_)
  have hv := hv s11 es11
  exact r_vret hx hb hr hlocks hv hP hS dX8_copy_135
set_option maxHeartbeats 4000000 in
theorem y_X8_copy {p : Program} {l : Launch} {e : Env} {s : State} {m : MethodId} {args : Array Value} {below : List Frame} {meth : Method} {c : Code} {dC : Nat → ClassId} {dI : Nat → Nat → Nat} {ad : Nat → Nat} {cA cZ : ClassId} (hi : Inj 81 ad) (h0 : Nat) (h1 : Nat) (hh0 : isSt h0) (hh1 : isSt h1) (C0 : Cx cX8_copy RX8 wsX8_copy 2 none p s m args meth c) (hK : KK dC dI cA cZ s) (Q : St → Prop) : ∀ P xs ys σ, R_X8_copy h0 h1 Q P xs ys σ → XX p l e ({ frames := 1, cells := 0, slots := 0, locals := 35 } : Room) s m args below meth c (dC, dI) 81 ad (celC ad cA) 2 (ZV below args s (dC, dI) 81 ad (celC ad cA) Q) (lay_X8_copy ad h0 h1) P xs ys σ := by
  refine Fx.elim _ (fun P xs ys σ Y hY hB => ?_)
  exact hB.elim
set_option maxHeartbeats 4000000 in
theorem c_X8_copy {l : Launch} {dC : Nat → ClassId} {dI : Nat → Nat → Nat} {ad : Nat → Nat} {cA cZ : ClassId} (hi : Inj 81 ad) (h0 : Nat) (h1 : Nat) (hh0 : isSt h0) (hh1 : isSt h1) (s0 : St) (Q : St → Prop) (hv : V_X8_copy h0 h1 s0 Q) (sz : Nat) : Met l yX8_copy wsX8_copy ({ frames := 1, cells := 0, slots := 0, locals := 35 } : Room) (va_Pc [.ref (ad h0), .ref (ad h1)] (PW dC dI ad cA cZ 81 (celC ad cA) sz s0)) (va_Qv Q (fun u t => va_P (dC, dI) vwCl (wd 81 ad (celC ad cA) u) t.heap) (AA 81 ad sz)) 0 0 (AA 81 ad sz) := by
  refine Met.ofW (cc := cX8_copy) (maxL := 2) (ret := none) (by decide) rfl ?_
  intro p e s m args below meth c s₁ B hml hv0
  obtain ⟨rfl, hsz, hP, hK⟩ := hv0
  subst hsz
  have C0 : Cx cX8_copy RX8 wsX8_copy 2 none p s m ([.ref (ad h0), .ref (ad h1)] : List Value).toArray meth c := ⟨B.exec, B.bytes, hml, findClass_of_methodNamed B.named, atoms_spec (ws := wsX8_copy) B.pre, B.returns, B.notSynchronized⟩
  have hl := lv_entry ([.ref (ad h0), .ref (ad h1)]) (n := 2) (Nat.le_of_ble_eq_true rfl)
  rw [lg_entry_eq]
  generalize (lg_sl ([.ref (ad h0), .ref (ad h1)]) ++ List.replicate (2 - (lg_sl ([.ref (ad h0), .ref (ad h1)])).length) Slot.unset).toArray = ls at hl ⊢
  have hl : lv_has ls 2 [(0, .ref (ad h0)), (1, .ref (ad h1))] := hl
  exact w_X8_copy_e hi h0 h1 hh0 hh1 C0 hK Q (R_X8_copy h0 h1 Q) (y_X8_copy hi h0 h1 hh0 hh1 C0 hK Q)  s0 hv hP va_S.rf hl
def lay_X0_spikeThen (ad : Nat → Nat) (h1 : Nat) (a2 : Int32) (a3 : Int32) : Nat → List Int32 → List Int64 → Option (List (Nat × Value) × List Value) := fun P xs ys => match P, xs, ys with
  | _, _, _ => none
set_option maxHeartbeats 4000000 in
set_option maxRecDepth 100000 in
theorem w_X0_spikeThen_e {p : Program} {l : Launch} {e : Env} {s : State} {m : MethodId} {args : Array Value} {below : List Frame} {meth : Method} {c : Code} {dC : Nat → ClassId} {dI : Nat → Nat → Nat} {ad : Nat → Nat} {cA cZ : ClassId} (hi : Inj 81 ad) (h1 : Nat) (a2 : Int32) (a3 : Int32) (hh1 : isSt h1) (C0 : Cx cX0_spikeThen RX0 wsX0_spikeThen 4 (some .int) p s m args meth c) (hK : KK dC dI cA cZ s) (Q : Int32 → St → Prop) (Y : Nat → List Int32 → List Int64 → St → Prop) (hY : ∀ P xs ys σ, Y P xs ys σ → XX p l e ({ frames := 4, cells := 0, slots := 0, locals := 91 } : Room) s m args below meth c (dC, dI) 81 ad (celC ad cA) 4 (ZI below args s (dC, dI) 81 ad (celC ad cA) Q) (lay_X0_spikeThen ad h1 a2 a3) P xs ys σ)  (s0 : St) (hv : B_X0_spikeThen_e h1 a2 a3 Q Y  s0) {H : Heap} {locs : List Loc} {ls : Array Slot} (hP : va_P (dC, dI) vwCl (wd 81 ad (celC ad cA) s0) H) (hS : va_S (AA 81 ad s.heap.size) s.heap H locs) (hl : lv_has ls 4 [(0, .ref (ad 55)), (1, .ref (ad h1)), (2, .int a2), (3, .int a3)]) : W p l e ({ frames := 4, cells := 0, slots := 0, locals := 91 } : Room) s m args below meth c H locs 0 0 (ZI below args s (dC, dI) 81 ad (celC ad cA) Q) (F0 m 0 ls []) := by
  obtain ⟨hx, hb, hml, hown, hts, hr, hlocks⟩ := C0
  have hD := wd_D (s := s) (cel := celC ad cA) (σ := s0) hi
  unfold B_X0_spikeThen_e at hv
  refine lv_aload_n hx hb dX0_spikeThen_0 rfl (lv_at hl 0 rfl) ?_
  refine r_get hx hb hts (iwX0_spikeThen_X0) hown hK.1 hP 55 (by decide) (ceFo_0 (s0 55)) rfl 0 (by decide) (hts _ kX0_spikeThen_1) (v := .ref (ad 56)) rfl dX0_spikeThen_1 ?_
  refine lv_aload_n hx hb dX0_spikeThen_4 rfl (lv_at hl 1 rfl) ?_
  refine r_cv (va_runV (As := [.ref (ad h1)]) (rest := []) ⟨hx, hb, hml, hown, hts⟩ (c_X8_copy hi 56 h1 vSt_56 hh1 s0 _ hv H.size) (cwV 1 hts gX0_spikeThen_X8_copy rfl rfl rfl (by decide +kernel) ⟨Nat.le_of_ble_eq_true rfl, Nat.le_of_ble_eq_true rfl⟩) ⟨pre_blind, r_recv hK.1 hP 56 (ltSt_0 vSt_56) (ceSt_0 vSt_56 (s0 56)) rfl, pre_of hP hK⟩ rfl rfl hl.1 rfl (lv_room (Nat.le_of_ble_eq_true rfl)) dX0_spikeThen_5 ⟨Nat.zero_le _, Nat.zero_le _⟩) hS (fun s1 H locs hv hP hS => ?_)
  have hD := wd_D (s := s) (cel := celC ad cA) (σ := s1) hi
  refine lv_aload_n hx hb dX0_spikeThen_8 rfl (lv_at hl 0 rfl) ?_
  refine r_get hx hb hts (iwX0_spikeThen_X0) hown hK.1 hP 55 (by decide) (ceFo_0 (s1 55)) rfl 0 (by decide) (hts _ kX0_spikeThen_1) (v := .ref (ad 56)) rfl dX0_spikeThen_9 ?_
  refine lv_iload_n hx hb dX0_spikeThen_12 rfl (lv_at hl 3 rfl) ?_
  refine r_cv (va_runV (As := [.int a3]) (rest := []) ⟨hx, hb, hml, hown, hts⟩ (c_X8_pass hi 56 a3 vSt_56 s1 _ hv H.size) (cwV 1 hts gX0_spikeThen_X8_pass rfl rfl rfl (by decide +kernel) ⟨Nat.le_of_ble_eq_true rfl, Nat.le_of_ble_eq_true rfl⟩) ⟨pre_blind, r_recv hK.1 hP 56 (ltSt_0 vSt_56) (ceSt_0 vSt_56 (s1 56)) rfl, pre_of hP hK⟩ rfl rfl hl.1 rfl (lv_room (Nat.le_of_ble_eq_true rfl)) dX0_spikeThen_13 ⟨Nat.zero_le _, Nat.zero_le _⟩) hS (fun s2 H locs hv hP hS => ?_)
  have hD := wd_D (s := s) (cel := celC ad cA) (σ := s2) hi
  refine lv_aload_n hx hb dX0_spikeThen_16 rfl (lv_at hl 0 rfl) ?_
  refine r_get hx hb hts (iwX0_spikeThen_X0) hown hK.1 hP 55 (by decide) (ceFo_0 (s2 55)) rfl 0 (by decide) (hts _ kX0_spikeThen_1) (v := .ref (ad 56)) rfl dX0_spikeThen_17 ?_
  refine r_get hx hb hts (iwX0_spikeThen_X8) hown hK.1 hP 56 (ltSt_0 vSt_56) (ceSt_0 vSt_56 (s2 56)) rfl 3 (by decide) (hts _ kX0_spikeThen_2) (v := .ref (ad 60)) rfl dX0_spikeThen_20 ?_
  refine lv_iload_n hx hb dX0_spikeThen_23 rfl (lv_at hl 2 rfl) ?_
  obtain ⟨hin, hv⟩ := hv
  refine r_iald hx hb hK.1 hP 60 (ltSt_4 vSt_56) (ceSt_4 vSt_56 (s2 60)) hin dX0_spikeThen_24 ?_
  exact r_iret hx hb hr hlocks hv hP hS dX0_spikeThen_25
set_option maxHeartbeats 4000000 in
theorem y_X0_spikeThen {p : Program} {l : Launch} {e : Env} {s : State} {m : MethodId} {args : Array Value} {below : List Frame} {meth : Method} {c : Code} {dC : Nat → ClassId} {dI : Nat → Nat → Nat} {ad : Nat → Nat} {cA cZ : ClassId} (hi : Inj 81 ad) (h1 : Nat) (a2 : Int32) (a3 : Int32) (hh1 : isSt h1) (C0 : Cx cX0_spikeThen RX0 wsX0_spikeThen 4 (some .int) p s m args meth c) (hK : KK dC dI cA cZ s) (Q : Int32 → St → Prop) : ∀ P xs ys σ, R_X0_spikeThen h1 a2 a3 Q P xs ys σ → XX p l e ({ frames := 4, cells := 0, slots := 0, locals := 91 } : Room) s m args below meth c (dC, dI) 81 ad (celC ad cA) 4 (ZI below args s (dC, dI) 81 ad (celC ad cA) Q) (lay_X0_spikeThen ad h1 a2 a3) P xs ys σ := by
  refine Fx.elim _ (fun P xs ys σ Y hY hB => ?_)
  exact hB.elim
set_option maxHeartbeats 4000000 in
theorem c_X0_spikeThen {l : Launch} {dC : Nat → ClassId} {dI : Nat → Nat → Nat} {ad : Nat → Nat} {cA cZ : ClassId} (hi : Inj 81 ad) (h1 : Nat) (a2 : Int32) (a3 : Int32) (hh1 : isSt h1) (s0 : St) (Q : Int32 → St → Prop) (hv : V_X0_spikeThen h1 a2 a3 s0 Q) (sz : Nat) : Met l yX0_spikeThen wsX0_spikeThen ({ frames := 4, cells := 0, slots := 0, locals := 91 } : Room) (va_Pc [.ref (ad 55), .ref (ad h1), .int a2, .int a3] (PW dC dI ad cA cZ 81 (celC ad cA) sz s0)) (va_Qi Q (fun u t => va_P (dC, dI) vwCl (wd 81 ad (celC ad cA) u) t.heap) (AA 81 ad sz)) 0 0 (AA 81 ad sz) := by
  refine Met.ofW (cc := cX0_spikeThen) (maxL := 4) (ret := (some .int)) (by decide) rfl ?_
  intro p e s m args below meth c s₁ B hml hv0
  obtain ⟨rfl, hsz, hP, hK⟩ := hv0
  subst hsz
  have C0 : Cx cX0_spikeThen RX0 wsX0_spikeThen 4 (some .int) p s m ([.ref (ad 55), .ref (ad h1), .int a2, .int a3] : List Value).toArray meth c := ⟨B.exec, B.bytes, hml, findClass_of_methodNamed B.named, atoms_spec (ws := wsX0_spikeThen) B.pre, B.returns, B.notSynchronized⟩
  have hl := lv_entry ([.ref (ad 55), .ref (ad h1), .int a2, .int a3]) (n := 4) (Nat.le_of_ble_eq_true rfl)
  rw [lg_entry_eq]
  generalize (lg_sl ([.ref (ad 55), .ref (ad h1), .int a2, .int a3]) ++ List.replicate (4 - (lg_sl ([.ref (ad 55), .ref (ad h1), .int a2, .int a3])).length) Slot.unset).toArray = ls at hl ⊢
  have hl : lv_has ls 4 [(0, .ref (ad 55)), (1, .ref (ad h1)), (2, .int a2), (3, .int a3)] := hl
  exact w_X0_spikeThen_e hi h1 a2 a3 hh1 C0 hK Q (R_X0_spikeThen h1 a2 a3 Q) (y_X0_spikeThen hi h1 a2 a3 hh1 C0 hK Q)  s0 hv hP va_S.rf hl
def lay_X10_where (ad : Nat → Nat) (a1 : Int32) (a2 : Int32) : Nat → List Int32 → List Int64 → Option (List (Nat × Value) × List Value) := fun P xs ys => match P, xs, ys with
  | _, _, _ => none
set_option maxHeartbeats 4000000 in
set_option maxRecDepth 100000 in
theorem w_X10_where_e {p : Program} {l : Launch} {e : Env} {s : State} {m : MethodId} {args : Array Value} {below : List Frame} {meth : Method} {c : Code} {dC : Nat → ClassId} {dI : Nat → Nat → Nat} {ad : Nat → Nat} {cA cZ : ClassId} (hi : Inj 81 ad) (a1 : Int32) (a2 : Int32)  (C0 : Cx cX10_where RX10 wsX10_where 3 (some .int) p s m args meth c) (hK : KK dC dI cA cZ s) (Q : Int32 → St → Prop) (Y : Nat → List Int32 → List Int64 → St → Prop) (hY : ∀ P xs ys σ, Y P xs ys σ → XX p l e ({ frames := 5, cells := 0, slots := 0, locals := 114 } : Room) s m args below meth c (dC, dI) 81 ad (celC ad cA) 3 (ZI below args s (dC, dI) 81 ad (celC ad cA) Q) (lay_X10_where ad a1 a2) P xs ys σ)  (s0 : St) (hv : B_X10_where_e a1 a2 Q Y  s0) {H : Heap} {locs : List Loc} {ls : Array Slot} (hP : va_P (dC, dI) vwCl (wd 81 ad (celC ad cA) s0) H) (hS : va_S (AA 81 ad s.heap.size) s.heap H locs) (hl : lv_has ls 3 [(0, .ref (ad 0)), (1, .int a1), (2, .int a2)]) : W p l e ({ frames := 5, cells := 0, slots := 0, locals := 114 } : Room) s m args below meth c H locs 0 0 (ZI below args s (dC, dI) 81 ad (celC ad cA) Q) (F0 m 0 ls []) := by
  obtain ⟨hx, hb, hml, hown, hts, hr, hlocks⟩ := C0
  have hD := wd_D (s := s) (cel := celC ad cA) (σ := s0) hi
  unfold B_X10_where_e at hv
  refine lv_aload_n hx hb dX10_where_0 rfl (lv_at hl 0 rfl) ?_
  refine lv_iload_n hx hb dX10_where_1 rfl (lv_at hl 1 rfl) ?_
  refine r_ci (va_runV (As := [.int a1]) (rest := []) ⟨hx, hb, hml, hown, hts⟩ (c_X10_isGlove hi a1 s0 _ hv H.size) (cwV 1 hts gX10_where_X10_isGlove rfl rfl rfl (by decide +kernel) ⟨Nat.le_of_ble_eq_true rfl, Nat.le_of_ble_eq_true rfl⟩) ⟨pre_blind, r_recv hK.1 hP 0 (by decide) (ceGR_0 (s0 0)) rfl, pre_of hP hK⟩ rfl rfl hl.1 rfl (lv_room (Nat.le_of_ble_eq_true rfl)) dX10_where_2 ⟨Nat.zero_le _, Nat.zero_le _⟩) hS (fun r1 s1 H locs hv hP hS => ?_)
  obtain ⟨hz_r1, hv⟩ := hv
  have hD := wd_D (s := s) (cel := celC ad cA) (σ := s1) hi
  refine lv_if_eq (tgt := 18) hx hb dX10_where_5 (by decide) (fun c5 => ?_) (fun c5 => ?_)
  · have hv := hv.1 c5
    refine lv_aload_n hx hb dX10_where_18 rfl (lv_at hl 0 rfl) ?_
    refine r_ci (va_runV (As := []) (rest := []) ⟨hx, hb, hml, hown, hts⟩ (c_X10_bad hi  s1 _ hv H.size) (cwV 0 hts gX10_where_X10_bad rfl rfl rfl (by decide +kernel) ⟨Nat.le_of_ble_eq_true rfl, Nat.le_of_ble_eq_true rfl⟩) ⟨pre_blind, r_recv hK.1 hP 0 (by decide) (ceGR_0 (s1 0)) rfl, pre_of hP hK⟩ rfl rfl hl.1 rfl (lv_room (Nat.le_of_ble_eq_true rfl)) dX10_where_19 ⟨Nat.zero_le _, Nat.zero_le _⟩) hS (fun r2 s2 H locs hv hP hS => ?_)
    have hD := wd_D (s := s) (cel := celC ad cA) (σ := s2) hi
    exact r_iret hx hb hr hlocks hv hP hS dX10_where_22
  · have hv := hv.2 c5
    refine lv_iload_n hx hb dX10_where_8 rfl (lv_at hl 2 rfl) ?_
    refine lv_iconst (v := 0) hx hb dX10_where_9 (by decide) ?_
    refine lv_bipush (v := 60) hx hb dX10_where_10 (by decide) ?_
    refine r_ci (va_runS (As := [.int a2, .int 0, .int 60]) (rest := []) ⟨hx, hb, hml, hown, hts⟩ (c_X10_within hi a2 0 60 s1 _ hv H.size) (va_cwS 3 hts gX10_where_X10_within rfl rfl rfl (by decide +kernel) ⟨Nat.le_of_ble_eq_true rfl, Nat.le_of_ble_eq_true rfl⟩) ⟨pre_blind, pre_of hP hK⟩ rfl rfl hl.1 rfl (lv_room (Nat.le_of_ble_eq_true rfl)) dX10_where_12 ⟨Nat.zero_le _, Nat.zero_le _⟩) hS (fun r3 s3 H locs hv hP hS => ?_)
    obtain ⟨hz_r3, hv⟩ := hv
    have hD := wd_D (s := s) (cel := celC ad cA) (σ := s3) hi
    refine lv_if_ne (tgt := 23) hx hb dX10_where_15 (by decide) (fun c15 => ?_) (fun c15 => ?_)
    · have hv := hv.1 c15
      refine lv_aload_n hx hb dX10_where_23 rfl (lv_at hl 0 rfl) ?_
      refine r_get hx hb hts (iwX10_where_X10) hown hK.1 hP 0 (by decide) (ceGR_0 (s3 0)) rfl 3 (by decide) (hts _ kX10_where_1) (v := .ref (ad 55)) rfl dX10_where_24 ?_
      refine lv_aload_n hx hb dX10_where_27 rfl (lv_at hl 0 rfl) ?_
      refine r_get hx hb hts (iwX10_where_X10) hown hK.1 hP 0 (by decide) (ceGR_0 (s3 0)) rfl 0 (by decide) (hts _ kX10_where_2) (v := .ref (ad 1)) rfl dX10_where_28 ?_
      refine r_get hx hb hts (iwX10_where_X7) hown hK.1 hP 1 (ltSc_0 vSc_1) (ceSc_0 vSc_1 (s3 1)) rfl 0 (by decide) (hts _ kX10_where_3) (v := .ref (ad 2)) rfl dX10_where_31 ?_
      refine lv_iload_n hx hb dX10_where_34 rfl (lv_at hl 1 rfl) ?_
      refine lv_iload_n hx hb dX10_where_35 rfl (lv_at hl 2 rfl) ?_
      refine r_ci (va_runV (As := [.ref (ad 2), .int a1, .int a2]) (rest := []) ⟨hx, hb, hml, hown, hts⟩ (c_X0_spikeThen hi 2 a1 a2 (vSc1 vSc_1) s3 _ hv H.size) (cwV 3 hts gX10_where_X0_spikeThen rfl rfl rfl (by decide +kernel) ⟨Nat.le_of_ble_eq_true rfl, Nat.le_of_ble_eq_true rfl⟩) ⟨pre_blind, r_recv hK.1 hP 55 (by decide) (ceFo_0 (s3 55)) rfl, pre_of hP hK⟩ rfl rfl hl.1 rfl (lv_room (Nat.le_of_ble_eq_true rfl)) dX10_where_36 ⟨Nat.zero_le _, Nat.zero_le _⟩) hS (fun r4 s4 H locs hv hP hS => ?_)
      have hD := wd_D (s := s) (cel := celC ad cA) (σ := s4) hi
      exact r_iret hx hb hr hlocks hv hP hS dX10_where_39
    · have hv := hv.2 c15
      refine lv_aload_n hx hb dX10_where_18 rfl (lv_at hl 0 rfl) ?_
      refine r_ci (va_runV (As := []) (rest := []) ⟨hx, hb, hml, hown, hts⟩ (c_X10_bad hi  s3 _ hv H.size) (cwV 0 hts gX10_where_X10_bad rfl rfl rfl (by decide +kernel) ⟨Nat.le_of_ble_eq_true rfl, Nat.le_of_ble_eq_true rfl⟩) ⟨pre_blind, r_recv hK.1 hP 0 (by decide) (ceGR_0 (s3 0)) rfl, pre_of hP hK⟩ rfl rfl hl.1 rfl (lv_room (Nat.le_of_ble_eq_true rfl)) dX10_where_19 ⟨Nat.zero_le _, Nat.zero_le _⟩) hS (fun r5 s5 H locs hv hP hS => ?_)
      have hD := wd_D (s := s) (cel := celC ad cA) (σ := s5) hi
      exact r_iret hx hb hr hlocks hv hP hS dX10_where_22
set_option maxHeartbeats 4000000 in
theorem y_X10_where {p : Program} {l : Launch} {e : Env} {s : State} {m : MethodId} {args : Array Value} {below : List Frame} {meth : Method} {c : Code} {dC : Nat → ClassId} {dI : Nat → Nat → Nat} {ad : Nat → Nat} {cA cZ : ClassId} (hi : Inj 81 ad) (a1 : Int32) (a2 : Int32)  (C0 : Cx cX10_where RX10 wsX10_where 3 (some .int) p s m args meth c) (hK : KK dC dI cA cZ s) (Q : Int32 → St → Prop) : ∀ P xs ys σ, R_X10_where a1 a2 Q P xs ys σ → XX p l e ({ frames := 5, cells := 0, slots := 0, locals := 114 } : Room) s m args below meth c (dC, dI) 81 ad (celC ad cA) 3 (ZI below args s (dC, dI) 81 ad (celC ad cA) Q) (lay_X10_where ad a1 a2) P xs ys σ := by
  refine Fx.elim _ (fun P xs ys σ Y hY hB => ?_)
  exact hB.elim
set_option maxHeartbeats 4000000 in
theorem c_X10_where {l : Launch} {dC : Nat → ClassId} {dI : Nat → Nat → Nat} {ad : Nat → Nat} {cA cZ : ClassId} (hi : Inj 81 ad) (a1 : Int32) (a2 : Int32)  (s0 : St) (Q : Int32 → St → Prop) (hv : V_X10_where a1 a2 s0 Q) (sz : Nat) : Met l yX10_where wsX10_where ({ frames := 5, cells := 0, slots := 0, locals := 114 } : Room) (va_Pc [.ref (ad 0), .int a1, .int a2] (PW dC dI ad cA cZ 81 (celC ad cA) sz s0)) (va_Qi Q (fun u t => va_P (dC, dI) vwCl (wd 81 ad (celC ad cA) u) t.heap) (AA 81 ad sz)) 0 0 (AA 81 ad sz) := by
  refine Met.ofW (cc := cX10_where) (maxL := 3) (ret := (some .int)) (by decide) rfl ?_
  intro p e s m args below meth c s₁ B hml hv0
  obtain ⟨rfl, hsz, hP, hK⟩ := hv0
  subst hsz
  have C0 : Cx cX10_where RX10 wsX10_where 3 (some .int) p s m ([.ref (ad 0), .int a1, .int a2] : List Value).toArray meth c := ⟨B.exec, B.bytes, hml, findClass_of_methodNamed B.named, atoms_spec (ws := wsX10_where) B.pre, B.returns, B.notSynchronized⟩
  have hl := lv_entry ([.ref (ad 0), .int a1, .int a2]) (n := 3) (Nat.le_of_ble_eq_true rfl)
  rw [lg_entry_eq]
  generalize (lg_sl ([.ref (ad 0), .int a1, .int a2]) ++ List.replicate (3 - (lg_sl ([.ref (ad 0), .int a1, .int a2])).length) Slot.unset).toArray = ls at hl ⊢
  have hl : lv_has ls 3 [(0, .ref (ad 0)), (1, .int a1), (2, .int a2)] := hl
  exact w_X10_where_e hi a1 a2  C0 hK Q (R_X10_where a1 a2 Q) (y_X10_where hi a1 a2  C0 hK Q)  s0 hv hP va_S.rf hl
def lay_X0_hoursTillAllOver (ad : Nat → Nat) (h1 : Nat) : Nat → List Int32 → List Int64 → Option (List (Nat × Value) × List Value) := fun P xs ys => match P, xs, ys with
  | 10, [x2], [] => some ([(0, .ref (ad 55)), (2, .int x2)], [])
  | _, _, _ => none
set_option maxHeartbeats 4000000 in
set_option maxRecDepth 100000 in
theorem w_X0_hoursTillAllOver_e {p : Program} {l : Launch} {e : Env} {s : State} {m : MethodId} {args : Array Value} {below : List Frame} {meth : Method} {c : Code} {dC : Nat → ClassId} {dI : Nat → Nat → Nat} {ad : Nat → Nat} {cA cZ : ClassId} (hi : Inj 81 ad) (h1 : Nat) (hh1 : isSt h1) (C0 : Cx cX0_hoursTillAllOver RX0 wsX0_hoursTillAllOver 3 (some .int) p s m args meth c) (hK : KK dC dI cA cZ s) (Q : Int32 → St → Prop) (Y : Nat → List Int32 → List Int64 → St → Prop) (hY : ∀ P xs ys σ, Y P xs ys σ → XX p l e ({ frames := 3, cells := 0, slots := 0, locals := 69 } : Room) s m args below meth c (dC, dI) 81 ad (celC ad cA) 3 (ZI below args s (dC, dI) 81 ad (celC ad cA) Q) (lay_X0_hoursTillAllOver ad h1) P xs ys σ)  (s0 : St) (hv : B_X0_hoursTillAllOver_e h1 Q Y  s0) {H : Heap} {locs : List Loc} {ls : Array Slot} (hP : va_P (dC, dI) vwCl (wd 81 ad (celC ad cA) s0) H) (hS : va_S (AA 81 ad s.heap.size) s.heap H locs) (hl : lv_has ls 3 [(0, .ref (ad 55)), (1, .ref (ad h1))]) : W p l e ({ frames := 3, cells := 0, slots := 0, locals := 69 } : Room) s m args below meth c H locs 0 0 (ZI below args s (dC, dI) 81 ad (celC ad cA) Q) (F0 m 0 ls []) := by
  obtain ⟨hx, hb, hml, hown, hts, hr, hlocks⟩ := C0
  have hD := wd_D (s := s) (cel := celC ad cA) (σ := s0) hi
  unfold B_X0_hoursTillAllOver_e at hv
  refine lv_aload_n hx hb dX0_hoursTillAllOver_0 rfl (lv_at hl 0 rfl) ?_
  refine r_get hx hb hts (iwX0_hoursTillAllOver_X0) hown hK.1 hP 55 (by decide) (ceFo_0 (s0 55)) rfl 0 (by decide) (hts _ kX0_hoursTillAllOver_1) (v := .ref (ad 56)) rfl dX0_hoursTillAllOver_1 ?_
  refine lv_aload_n hx hb dX0_hoursTillAllOver_4 rfl (lv_at hl 1 rfl) ?_
  refine r_cv (va_runV (As := [.ref (ad h1)]) (rest := []) ⟨hx, hb, hml, hown, hts⟩ (c_X8_copy hi 56 h1 vSt_56 hh1 s0 _ hv H.size) (cwV 1 hts gX0_hoursTillAllOver_X8_copy rfl rfl rfl (by decide +kernel) ⟨Nat.le_of_ble_eq_true rfl, Nat.le_of_ble_eq_true rfl⟩) ⟨pre_blind, r_recv hK.1 hP 56 (ltSt_0 vSt_56) (ceSt_0 vSt_56 (s0 56)) rfl, pre_of hP hK⟩ rfl rfl hl.1 rfl (lv_room (Nat.le_of_ble_eq_true rfl)) dX0_hoursTillAllOver_5 ⟨Nat.zero_le _, Nat.zero_le _⟩) hS (fun s1 H locs hv hP hS => ?_)
  have hD := wd_D (s := s) (cel := celC ad cA) (σ := s1) hi
  refine lv_iconst (v := 0) hx hb dX0_hoursTillAllOver_8 (by decide) ?_
  refine lv_istore_n (lv' := [(2, .int 0), (0, .ref (ad 55)), (1, .ref (ad h1))]) hx hb dX0_hoursTillAllOver_9 rfl hl (by decide) rfl (fun ls hl => ?_)
  exact hY 10 [0] [] s1 hv _ _ rfl H locs ls hP hS (lv_sub hl [1, 0] rfl)
set_option maxHeartbeats 4000000 in
set_option maxRecDepth 100000 in
theorem w_X0_hoursTillAllOver_10 {p : Program} {l : Launch} {e : Env} {s : State} {m : MethodId} {args : Array Value} {below : List Frame} {meth : Method} {c : Code} {dC : Nat → ClassId} {dI : Nat → Nat → Nat} {ad : Nat → Nat} {cA cZ : ClassId} (hi : Inj 81 ad) (h1 : Nat) (hh1 : isSt h1) (C0 : Cx cX0_hoursTillAllOver RX0 wsX0_hoursTillAllOver 3 (some .int) p s m args meth c) (hK : KK dC dI cA cZ s) (Q : Int32 → St → Prop) (Y : Nat → List Int32 → List Int64 → St → Prop) (hY : ∀ P xs ys σ, Y P xs ys σ → XX p l e ({ frames := 3, cells := 0, slots := 0, locals := 69 } : Room) s m args below meth c (dC, dI) 81 ad (celC ad cA) 3 (ZI below args s (dC, dI) 81 ad (celC ad cA) Q) (lay_X0_hoursTillAllOver ad h1) P xs ys σ) (x2 : Int32) (s0 : St) (hv : B_X0_hoursTillAllOver_10 h1 Q Y x2 s0) {H : Heap} {locs : List Loc} {ls : Array Slot} (hP : va_P (dC, dI) vwCl (wd 81 ad (celC ad cA) s0) H) (hS : va_S (AA 81 ad s.heap.size) s.heap H locs) (hl : lv_has ls 3 [(0, .ref (ad 55)), (2, .int x2)]) : W p l e ({ frames := 3, cells := 0, slots := 0, locals := 69 } : Room) s m args below meth c H locs 0 0 (ZI below args s (dC, dI) 81 ad (celC ad cA) Q) (F0 m 10 ls []) := by
  obtain ⟨hx, hb, hml, hown, hts, hr, hlocks⟩ := C0
  have hD := wd_D (s := s) (cel := celC ad cA) (σ := s0) hi
  unfold B_X0_hoursTillAllOver_10 at hv
  refine lv_iload_n hx hb dX0_hoursTillAllOver_10 rfl (lv_at hl 1 rfl) ?_
  refine lv_bipush (v := 60) hx hb dX0_hoursTillAllOver_11 (by decide) ?_
  refine lv_icmp_gt (tgt := 48) hx hb dX0_hoursTillAllOver_13 (by decide) (fun c13 => ?_) (fun c13 => ?_)
  · have hv := hv.1 c13
    refine lv_iconst (v := (-1)) hx hb dX0_hoursTillAllOver_48 (by decide) ?_
    exact r_iret hx hb hr hlocks hv hP hS dX0_hoursTillAllOver_49
  · have hv := hv.2 c13
    refine lv_aload_n hx hb dX0_hoursTillAllOver_16 rfl (lv_at hl 0 rfl) ?_
    refine r_get hx hb hts (iwX0_hoursTillAllOver_X0) hown hK.1 hP 55 (by decide) (ceFo_0 (s0 55)) rfl 0 (by decide) (hts _ kX0_hoursTillAllOver_1) (v := .ref (ad 56)) rfl dX0_hoursTillAllOver_17 ?_
    refine r_ci (va_runV (As := []) (rest := []) ⟨hx, hb, hml, hown, hts⟩ (c_X8_over hi 56 vSt_56 s0 _ hv H.size) (cwV 0 hts gX0_hoursTillAllOver_X8_over rfl rfl rfl (by decide +kernel) ⟨Nat.le_of_ble_eq_true rfl, Nat.le_of_ble_eq_true rfl⟩) ⟨pre_blind, r_recv hK.1 hP 56 (ltSt_0 vSt_56) (ceSt_0 vSt_56 (s0 56)) rfl, pre_of hP hK⟩ rfl rfl hl.1 rfl (lv_room (Nat.le_of_ble_eq_true rfl)) dX0_hoursTillAllOver_20 ⟨Nat.zero_le _, Nat.zero_le _⟩) hS (fun r1 s1 H locs hv hP hS => ?_)
    have hD := wd_D (s := s) (cel := celC ad cA) (σ := s1) hi
    refine lv_aload_n hx hb dX0_hoursTillAllOver_23 rfl (lv_at hl 0 rfl) ?_
    refine r_get hx hb hts (iwX0_hoursTillAllOver_X0) hown hK.1 hP 55 (by decide) (ceFo_0 (s1 55)) rfl 0 (by decide) (hts _ kX0_hoursTillAllOver_1) (v := .ref (ad 56)) rfl dX0_hoursTillAllOver_24 ?_
    refine r_get hx hb hts (iwX0_hoursTillAllOver_X8) hown hK.1 hP 56 (ltSt_0 vSt_56) (ceSt_0 vSt_56 (s1 56)) rfl 8 (by decide) (hts _ kX0_hoursTillAllOver_2) (v := .int (s1 56 8)) rfl dX0_hoursTillAllOver_27 ?_
    refine lv_icmp_ne (tgt := 35) hx hb dX0_hoursTillAllOver_30 (by decide) (fun c30 => ?_) (fun c30 => ?_)
    · have hv := hv.1 c30
      refine lv_aload_n hx hb dX0_hoursTillAllOver_35 rfl (lv_at hl 0 rfl) ?_
      refine r_get hx hb hts (iwX0_hoursTillAllOver_X0) hown hK.1 hP 55 (by decide) (ceFo_0 (s1 55)) rfl 0 (by decide) (hts _ kX0_hoursTillAllOver_1) (v := .ref (ad 56)) rfl dX0_hoursTillAllOver_36 ?_
      refine r_cv (va_runV (As := []) (rest := []) ⟨hx, hb, hml, hown, hts⟩ (c_X8_passHour hi 56 vSt_56 s1 _ hv H.size) (cwV 0 hts gX0_hoursTillAllOver_X8_passHour rfl rfl rfl (by decide +kernel) ⟨Nat.le_of_ble_eq_true rfl, Nat.le_of_ble_eq_true rfl⟩) ⟨pre_blind, r_recv hK.1 hP 56 (ltSt_0 vSt_56) (ceSt_0 vSt_56 (s1 56)) rfl, pre_of hP hK⟩ rfl rfl hl.1 rfl (lv_room (Nat.le_of_ble_eq_true rfl)) dX0_hoursTillAllOver_39 ⟨Nat.zero_le _, Nat.zero_le _⟩) hS (fun s2 H locs hv hP hS => ?_)
      have hD := wd_D (s := s) (cel := celC ad cA) (σ := s2) hi
      refine lv_iinc (v := x2 + 1) (lv' := [(2, .int (x2 + 1)), (0, .ref (ad 55))]) hx hb dX0_hoursTillAllOver_42 hl (k := 1) rfl rfl (by decide) rfl (fun ls hl => ?_)
      refine lv_goto (tgt := 10) hx hb dX0_hoursTillAllOver_45 (by decide) ?_
      exact hY 10 [x2 + 1] [] s2 hv _ _ rfl H locs ls hP hS (lv_sub hl [1, 0] rfl)
    · have hv := hv.2 c30
      refine lv_iload_n hx hb dX0_hoursTillAllOver_33 rfl (lv_at hl 1 rfl) ?_
      exact r_iret hx hb hr hlocks hv hP hS dX0_hoursTillAllOver_34
set_option maxHeartbeats 4000000 in
theorem y_X0_hoursTillAllOver {p : Program} {l : Launch} {e : Env} {s : State} {m : MethodId} {args : Array Value} {below : List Frame} {meth : Method} {c : Code} {dC : Nat → ClassId} {dI : Nat → Nat → Nat} {ad : Nat → Nat} {cA cZ : ClassId} (hi : Inj 81 ad) (h1 : Nat) (hh1 : isSt h1) (C0 : Cx cX0_hoursTillAllOver RX0 wsX0_hoursTillAllOver 3 (some .int) p s m args meth c) (hK : KK dC dI cA cZ s) (Q : Int32 → St → Prop) : ∀ P xs ys σ, R_X0_hoursTillAllOver h1 Q P xs ys σ → XX p l e ({ frames := 3, cells := 0, slots := 0, locals := 69 } : Room) s m args below meth c (dC, dI) 81 ad (celC ad cA) 3 (ZI below args s (dC, dI) 81 ad (celC ad cA) Q) (lay_X0_hoursTillAllOver ad h1) P xs ys σ := by
  refine Fx.elim _ (fun P xs ys σ Y hY hB => ?_)
  rcases hB with ⟨rfl, x2, rfl, rfl, hB⟩
  · intro lv st he H locs ls hP hS hl
    cases he
    exact w_X0_hoursTillAllOver_10 hi h1 hh1 C0 hK Q Y hY x2 σ hB hP hS hl
set_option maxHeartbeats 4000000 in
theorem c_X0_hoursTillAllOver {l : Launch} {dC : Nat → ClassId} {dI : Nat → Nat → Nat} {ad : Nat → Nat} {cA cZ : ClassId} (hi : Inj 81 ad) (h1 : Nat) (hh1 : isSt h1) (s0 : St) (Q : Int32 → St → Prop) (hv : V_X0_hoursTillAllOver h1 s0 Q) (sz : Nat) : Met l yX0_hoursTillAllOver wsX0_hoursTillAllOver ({ frames := 3, cells := 0, slots := 0, locals := 69 } : Room) (va_Pc [.ref (ad 55), .ref (ad h1)] (PW dC dI ad cA cZ 81 (celC ad cA) sz s0)) (va_Qi Q (fun u t => va_P (dC, dI) vwCl (wd 81 ad (celC ad cA) u) t.heap) (AA 81 ad sz)) 0 0 (AA 81 ad sz) := by
  refine Met.ofW (cc := cX0_hoursTillAllOver) (maxL := 3) (ret := (some .int)) (by decide) rfl ?_
  intro p e s m args below meth c s₁ B hml hv0
  obtain ⟨rfl, hsz, hP, hK⟩ := hv0
  subst hsz
  have C0 : Cx cX0_hoursTillAllOver RX0 wsX0_hoursTillAllOver 3 (some .int) p s m ([.ref (ad 55), .ref (ad h1)] : List Value).toArray meth c := ⟨B.exec, B.bytes, hml, findClass_of_methodNamed B.named, atoms_spec (ws := wsX0_hoursTillAllOver) B.pre, B.returns, B.notSynchronized⟩
  have hl := lv_entry ([.ref (ad 55), .ref (ad h1)]) (n := 3) (Nat.le_of_ble_eq_true rfl)
  rw [lg_entry_eq]
  generalize (lg_sl ([.ref (ad 55), .ref (ad h1)]) ++ List.replicate (3 - (lg_sl ([.ref (ad 55), .ref (ad h1)])).length) Slot.unset).toArray = ls at hl ⊢
  have hl : lv_has ls 3 [(0, .ref (ad 55)), (1, .ref (ad h1))] := hl
  exact w_X0_hoursTillAllOver_e hi h1 hh1 C0 hK Q (R_X0_hoursTillAllOver h1 Q) (y_X0_hoursTillAllOver hi h1 hh1 C0 hK Q)  s0 hv hP va_S.rf hl
def lay_X0_hoursTillOver (ad : Nat → Nat) (h1 : Nat) (a2 : Int32) : Nat → List Int32 → List Int64 → Option (List (Nat × Value) × List Value) := fun P xs ys => match P, xs, ys with
  | 10, [x3], [] => some ([(0, .ref (ad 55)), (2, .int a2), (3, .int x3)], [])
  | _, _, _ => none
set_option maxHeartbeats 4000000 in
set_option maxRecDepth 100000 in
theorem w_X0_hoursTillOver_e {p : Program} {l : Launch} {e : Env} {s : State} {m : MethodId} {args : Array Value} {below : List Frame} {meth : Method} {c : Code} {dC : Nat → ClassId} {dI : Nat → Nat → Nat} {ad : Nat → Nat} {cA cZ : ClassId} (hi : Inj 81 ad) (h1 : Nat) (a2 : Int32) (hh1 : isSt h1) (C0 : Cx cX0_hoursTillOver RX0 wsX0_hoursTillOver 4 (some .int) p s m args meth c) (hK : KK dC dI cA cZ s) (Q : Int32 → St → Prop) (Y : Nat → List Int32 → List Int64 → St → Prop) (hY : ∀ P xs ys σ, Y P xs ys σ → XX p l e ({ frames := 3, cells := 0, slots := 0, locals := 69 } : Room) s m args below meth c (dC, dI) 81 ad (celC ad cA) 4 (ZI below args s (dC, dI) 81 ad (celC ad cA) Q) (lay_X0_hoursTillOver ad h1 a2) P xs ys σ)  (s0 : St) (hv : B_X0_hoursTillOver_e h1 a2 Q Y  s0) {H : Heap} {locs : List Loc} {ls : Array Slot} (hP : va_P (dC, dI) vwCl (wd 81 ad (celC ad cA) s0) H) (hS : va_S (AA 81 ad s.heap.size) s.heap H locs) (hl : lv_has ls 4 [(0, .ref (ad 55)), (1, .ref (ad h1)), (2, .int a2)]) : W p l e ({ frames := 3, cells := 0, slots := 0, locals := 69 } : Room) s m args below meth c H locs 0 0 (ZI below args s (dC, dI) 81 ad (celC ad cA) Q) (F0 m 0 ls []) := by
  obtain ⟨hx, hb, hml, hown, hts, hr, hlocks⟩ := C0
  have hD := wd_D (s := s) (cel := celC ad cA) (σ := s0) hi
  unfold B_X0_hoursTillOver_e at hv
  refine lv_aload_n hx hb dX0_hoursTillOver_0 rfl (lv_at hl 0 rfl) ?_
  refine r_get hx hb hts (iwX0_hoursTillOver_X0) hown hK.1 hP 55 (by decide) (ceFo_0 (s0 55)) rfl 0 (by decide) (hts _ kX0_hoursTillOver_1) (v := .ref (ad 56)) rfl dX0_hoursTillOver_1 ?_
  refine lv_aload_n hx hb dX0_hoursTillOver_4 rfl (lv_at hl 1 rfl) ?_
  refine r_cv (va_runV (As := [.ref (ad h1)]) (rest := []) ⟨hx, hb, hml, hown, hts⟩ (c_X8_copy hi 56 h1 vSt_56 hh1 s0 _ hv H.size) (cwV 1 hts gX0_hoursTillOver_X8_copy rfl rfl rfl (by decide +kernel) ⟨Nat.le_of_ble_eq_true rfl, Nat.le_of_ble_eq_true rfl⟩) ⟨pre_blind, r_recv hK.1 hP 56 (ltSt_0 vSt_56) (ceSt_0 vSt_56 (s0 56)) rfl, pre_of hP hK⟩ rfl rfl hl.1 rfl (lv_room (Nat.le_of_ble_eq_true rfl)) dX0_hoursTillOver_5 ⟨Nat.zero_le _, Nat.zero_le _⟩) hS (fun s1 H locs hv hP hS => ?_)
  have hD := wd_D (s := s) (cel := celC ad cA) (σ := s1) hi
  refine lv_iconst (v := 0) hx hb dX0_hoursTillOver_8 (by decide) ?_
  refine lv_istore_n (lv' := [(3, .int 0), (0, .ref (ad 55)), (1, .ref (ad h1)), (2, .int a2)]) hx hb dX0_hoursTillOver_9 rfl hl (by decide) rfl (fun ls hl => ?_)
  exact hY 10 [0] [] s1 hv _ _ rfl H locs ls hP hS (lv_sub hl [1, 3, 0] rfl)
set_option maxHeartbeats 4000000 in
set_option maxRecDepth 100000 in
theorem w_X0_hoursTillOver_10 {p : Program} {l : Launch} {e : Env} {s : State} {m : MethodId} {args : Array Value} {below : List Frame} {meth : Method} {c : Code} {dC : Nat → ClassId} {dI : Nat → Nat → Nat} {ad : Nat → Nat} {cA cZ : ClassId} (hi : Inj 81 ad) (h1 : Nat) (a2 : Int32) (hh1 : isSt h1) (C0 : Cx cX0_hoursTillOver RX0 wsX0_hoursTillOver 4 (some .int) p s m args meth c) (hK : KK dC dI cA cZ s) (Q : Int32 → St → Prop) (Y : Nat → List Int32 → List Int64 → St → Prop) (hY : ∀ P xs ys σ, Y P xs ys σ → XX p l e ({ frames := 3, cells := 0, slots := 0, locals := 69 } : Room) s m args below meth c (dC, dI) 81 ad (celC ad cA) 4 (ZI below args s (dC, dI) 81 ad (celC ad cA) Q) (lay_X0_hoursTillOver ad h1 a2) P xs ys σ) (x3 : Int32) (s0 : St) (hv : B_X0_hoursTillOver_10 h1 a2 Q Y x3 s0) {H : Heap} {locs : List Loc} {ls : Array Slot} (hP : va_P (dC, dI) vwCl (wd 81 ad (celC ad cA) s0) H) (hS : va_S (AA 81 ad s.heap.size) s.heap H locs) (hl : lv_has ls 4 [(0, .ref (ad 55)), (2, .int a2), (3, .int x3)]) : W p l e ({ frames := 3, cells := 0, slots := 0, locals := 69 } : Room) s m args below meth c H locs 0 0 (ZI below args s (dC, dI) 81 ad (celC ad cA) Q) (F0 m 10 ls []) := by
  obtain ⟨hx, hb, hml, hown, hts, hr, hlocks⟩ := C0
  have hD := wd_D (s := s) (cel := celC ad cA) (σ := s0) hi
  unfold B_X0_hoursTillOver_10 at hv
  refine lv_iload_n hx hb dX0_hoursTillOver_10 rfl (lv_at hl 2 rfl) ?_
  refine lv_bipush (v := 60) hx hb dX0_hoursTillOver_11 (by decide) ?_
  refine lv_icmp_gt (tgt := 45) hx hb dX0_hoursTillOver_13 (by decide) (fun c13 => ?_) (fun c13 => ?_)
  · have hv := hv.1 c13
    refine lv_iconst (v := (-1)) hx hb dX0_hoursTillOver_45 (by decide) ?_
    exact r_iret hx hb hr hlocks hv hP hS dX0_hoursTillOver_46
  · have hv := hv.2 c13
    refine lv_aload_n hx hb dX0_hoursTillOver_16 rfl (lv_at hl 0 rfl) ?_
    refine r_get hx hb hts (iwX0_hoursTillOver_X0) hown hK.1 hP 55 (by decide) (ceFo_0 (s0 55)) rfl 0 (by decide) (hts _ kX0_hoursTillOver_1) (v := .ref (ad 56)) rfl dX0_hoursTillOver_17 ?_
    refine r_get hx hb hts (iwX0_hoursTillOver_X8) hown hK.1 hP 56 (ltSt_0 vSt_56) (ceSt_0 vSt_56 (s0 56)) rfl 3 (by decide) (hts _ kX0_hoursTillOver_2) (v := .ref (ad 60)) rfl dX0_hoursTillOver_20 ?_
    refine lv_iload_n hx hb dX0_hoursTillOver_23 rfl (lv_at hl 1 rfl) ?_
    obtain ⟨hin, hv⟩ := hv
    refine r_iald hx hb hK.1 hP 60 (ltSt_4 vSt_56) (ceSt_4 vSt_56 (s0 60)) hin dX0_hoursTillOver_24 ?_
    refine lv_bipush (v := 23) hx hb dX0_hoursTillOver_25 (by decide) ?_
    refine lv_icmp_ne (tgt := 32) hx hb dX0_hoursTillOver_27 (by decide) (fun c27 => ?_) (fun c27 => ?_)
    · have hv := hv.1 c27
      refine lv_aload_n hx hb dX0_hoursTillOver_32 rfl (lv_at hl 0 rfl) ?_
      refine r_get hx hb hts (iwX0_hoursTillOver_X0) hown hK.1 hP 55 (by decide) (ceFo_0 (s0 55)) rfl 0 (by decide) (hts _ kX0_hoursTillOver_1) (v := .ref (ad 56)) rfl dX0_hoursTillOver_33 ?_
      refine r_cv (va_runV (As := []) (rest := []) ⟨hx, hb, hml, hown, hts⟩ (c_X8_passHour hi 56 vSt_56 s0 _ hv H.size) (cwV 0 hts gX0_hoursTillOver_X8_passHour rfl rfl rfl (by decide +kernel) ⟨Nat.le_of_ble_eq_true rfl, Nat.le_of_ble_eq_true rfl⟩) ⟨pre_blind, r_recv hK.1 hP 56 (ltSt_0 vSt_56) (ceSt_0 vSt_56 (s0 56)) rfl, pre_of hP hK⟩ rfl rfl hl.1 rfl (lv_room (Nat.le_of_ble_eq_true rfl)) dX0_hoursTillOver_36 ⟨Nat.zero_le _, Nat.zero_le _⟩) hS (fun s1 H locs hv hP hS => ?_)
      have hD := wd_D (s := s) (cel := celC ad cA) (σ := s1) hi
      refine lv_iinc (v := x3 + 1) (lv' := [(3, .int (x3 + 1)), (0, .ref (ad 55)), (2, .int a2)]) hx hb dX0_hoursTillOver_39 hl (k := 2) rfl rfl (by decide) rfl (fun ls hl => ?_)
      refine lv_goto (tgt := 10) hx hb dX0_hoursTillOver_42 (by decide) ?_
      exact hY 10 [x3 + 1] [] s1 hv _ _ rfl H locs ls hP hS (lv_sub hl [1, 2, 0] rfl)
    · have hv := hv.2 c27
      refine lv_iload_n hx hb dX0_hoursTillOver_30 rfl (lv_at hl 2 rfl) ?_
      exact r_iret hx hb hr hlocks hv hP hS dX0_hoursTillOver_31
set_option maxHeartbeats 4000000 in
theorem y_X0_hoursTillOver {p : Program} {l : Launch} {e : Env} {s : State} {m : MethodId} {args : Array Value} {below : List Frame} {meth : Method} {c : Code} {dC : Nat → ClassId} {dI : Nat → Nat → Nat} {ad : Nat → Nat} {cA cZ : ClassId} (hi : Inj 81 ad) (h1 : Nat) (a2 : Int32) (hh1 : isSt h1) (C0 : Cx cX0_hoursTillOver RX0 wsX0_hoursTillOver 4 (some .int) p s m args meth c) (hK : KK dC dI cA cZ s) (Q : Int32 → St → Prop) : ∀ P xs ys σ, R_X0_hoursTillOver h1 a2 Q P xs ys σ → XX p l e ({ frames := 3, cells := 0, slots := 0, locals := 69 } : Room) s m args below meth c (dC, dI) 81 ad (celC ad cA) 4 (ZI below args s (dC, dI) 81 ad (celC ad cA) Q) (lay_X0_hoursTillOver ad h1 a2) P xs ys σ := by
  refine Fx.elim _ (fun P xs ys σ Y hY hB => ?_)
  rcases hB with ⟨rfl, x3, rfl, rfl, hB⟩
  · intro lv st he H locs ls hP hS hl
    cases he
    exact w_X0_hoursTillOver_10 hi h1 a2 hh1 C0 hK Q Y hY x3 σ hB hP hS hl
set_option maxHeartbeats 4000000 in
theorem c_X0_hoursTillOver {l : Launch} {dC : Nat → ClassId} {dI : Nat → Nat → Nat} {ad : Nat → Nat} {cA cZ : ClassId} (hi : Inj 81 ad) (h1 : Nat) (a2 : Int32) (hh1 : isSt h1) (s0 : St) (Q : Int32 → St → Prop) (hv : V_X0_hoursTillOver h1 a2 s0 Q) (sz : Nat) : Met l yX0_hoursTillOver wsX0_hoursTillOver ({ frames := 3, cells := 0, slots := 0, locals := 69 } : Room) (va_Pc [.ref (ad 55), .ref (ad h1), .int a2] (PW dC dI ad cA cZ 81 (celC ad cA) sz s0)) (va_Qi Q (fun u t => va_P (dC, dI) vwCl (wd 81 ad (celC ad cA) u) t.heap) (AA 81 ad sz)) 0 0 (AA 81 ad sz) := by
  refine Met.ofW (cc := cX0_hoursTillOver) (maxL := 4) (ret := (some .int)) (by decide) rfl ?_
  intro p e s m args below meth c s₁ B hml hv0
  obtain ⟨rfl, hsz, hP, hK⟩ := hv0
  subst hsz
  have C0 : Cx cX0_hoursTillOver RX0 wsX0_hoursTillOver 4 (some .int) p s m ([.ref (ad 55), .ref (ad h1), .int a2] : List Value).toArray meth c := ⟨B.exec, B.bytes, hml, findClass_of_methodNamed B.named, atoms_spec (ws := wsX0_hoursTillOver) B.pre, B.returns, B.notSynchronized⟩
  have hl := lv_entry ([.ref (ad 55), .ref (ad h1), .int a2]) (n := 4) (Nat.le_of_ble_eq_true rfl)
  rw [lg_entry_eq]
  generalize (lg_sl ([.ref (ad 55), .ref (ad h1), .int a2]) ++ List.replicate (4 - (lg_sl ([.ref (ad 55), .ref (ad h1), .int a2])).length) Slot.unset).toArray = ls at hl ⊢
  have hl : lv_has ls 4 [(0, .ref (ad 55)), (1, .ref (ad h1)), (2, .int a2)] := hl
  exact w_X0_hoursTillOver_e hi h1 a2 hh1 C0 hK Q (R_X0_hoursTillOver h1 a2 Q) (y_X0_hoursTillOver hi h1 a2 hh1 C0 hK Q)  s0 hv hP va_S.rf hl
def lay_X10_badAsTen (ad : Nat → Nat)  : Nat → List Int32 → List Int64 → Option (List (Nat × Value) × List Value) := fun P xs ys => match P, xs, ys with
  | _, _, _ => none
set_option maxHeartbeats 4000000 in
set_option maxRecDepth 100000 in
theorem w_X10_badAsTen_e {p : Program} {l : Launch} {e : Env} {s : State} {m : MethodId} {args : Array Value} {below : List Frame} {meth : Method} {c : Code} {dC : Nat → ClassId} {dI : Nat → Nat → Nat} {ad : Nat → Nat} {cA cZ : ClassId} (hi : Inj 81 ad)   (C0 : Cx cX10_badAsTen RX10 wsX10_badAsTen 1 (some .int) p s m args meth c) (hK : KK dC dI cA cZ s) (Q : Int32 → St → Prop) (Y : Nat → List Int32 → List Int64 → St → Prop) (hY : ∀ P xs ys σ, Y P xs ys σ → XX p l e ({ frames := 0, cells := 0, slots := 0, locals := 0 } : Room) s m args below meth c (dC, dI) 81 ad (celC ad cA) 1 (ZI below args s (dC, dI) 81 ad (celC ad cA) Q) (lay_X10_badAsTen ad ) P xs ys σ)  (s0 : St) (hv : B_X10_badAsTen_e  Q Y  s0) {H : Heap} {locs : List Loc} {ls : Array Slot} (hP : va_P (dC, dI) vwCl (wd 81 ad (celC ad cA) s0) H) (hS : va_S (AA 81 ad s.heap.size) s.heap H locs) (hl : lv_has ls 1 [(0, .ref (ad 0))]) : W p l e ({ frames := 0, cells := 0, slots := 0, locals := 0 } : Room) s m args below meth c H locs 0 0 (ZI below args s (dC, dI) 81 ad (celC ad cA) Q) (F0 m 0 ls []) := by
  obtain ⟨hx, hb, hml, hown, hts, hr, hlocks⟩ := C0
  have hD := wd_D (s := s) (cel := celC ad cA) (σ := s0) hi
  unfold B_X10_badAsTen_e at hv
  refine lv_aload_n hx hb dX10_badAsTen_0 rfl (lv_at hl 0 rfl) ?_
  refine lv_dup hx hb dX10_badAsTen_1 rfl ?_
  refine r_get hx hb hts (iwX10_badAsTen_X10) hown hK.1 hP 0 (by decide) (ceGR_0 (s0 0)) rfl 10 (by decide) (hts _ kX10_badAsTen_1) (v := .int (s0 0 10)) rfl dX10_badAsTen_2 ?_
  refine lv_iconst (v := 1) hx hb dX10_badAsTen_5 (by decide) ?_
  refine lv_iadd hx hb dX10_badAsTen_6 ?_
  refine r_put hx hb hts (iwX10_badAsTen_X10) tyX10 tyX10_ok nmX10 hown hK.1 hP hD hS 0 (by decide) (ceGR_0 (s0 0)) rfl 10 (by decide) (hts _ kX10_badAsTen_1) rfl (ty := .int) (v := .int ((s0 0 10) + 1)) (by decide +kernel) rfl rfl (Nat.le_of_ble_eq_true rfl) (row := (upd (s0 0) 10 ((s0 0 10) + 1))) (by rw [(ceGR_0 (upd (s0 0) 10 ((s0 0 10) + 1)))]; rfl) dX10_badAsTen_7 (fun H locs s1 es1 hP hD hS => ?_)
  have hv := hv s1 es1
  refine lv_bipush (v := (-10)) hx hb dX10_badAsTen_10 (by decide) ?_
  exact r_iret hx hb hr hlocks hv hP hS dX10_badAsTen_12
set_option maxHeartbeats 4000000 in
theorem y_X10_badAsTen {p : Program} {l : Launch} {e : Env} {s : State} {m : MethodId} {args : Array Value} {below : List Frame} {meth : Method} {c : Code} {dC : Nat → ClassId} {dI : Nat → Nat → Nat} {ad : Nat → Nat} {cA cZ : ClassId} (hi : Inj 81 ad)   (C0 : Cx cX10_badAsTen RX10 wsX10_badAsTen 1 (some .int) p s m args meth c) (hK : KK dC dI cA cZ s) (Q : Int32 → St → Prop) : ∀ P xs ys σ, R_X10_badAsTen  Q P xs ys σ → XX p l e ({ frames := 0, cells := 0, slots := 0, locals := 0 } : Room) s m args below meth c (dC, dI) 81 ad (celC ad cA) 1 (ZI below args s (dC, dI) 81 ad (celC ad cA) Q) (lay_X10_badAsTen ad ) P xs ys σ := by
  refine Fx.elim _ (fun P xs ys σ Y hY hB => ?_)
  exact hB.elim
set_option maxHeartbeats 4000000 in
theorem c_X10_badAsTen {l : Launch} {dC : Nat → ClassId} {dI : Nat → Nat → Nat} {ad : Nat → Nat} {cA cZ : ClassId} (hi : Inj 81 ad)   (s0 : St) (Q : Int32 → St → Prop) (hv : V_X10_badAsTen  s0 Q) (sz : Nat) : Met l yX10_badAsTen wsX10_badAsTen ({ frames := 0, cells := 0, slots := 0, locals := 0 } : Room) (va_Pc [.ref (ad 0)] (PW dC dI ad cA cZ 81 (celC ad cA) sz s0)) (va_Qi Q (fun u t => va_P (dC, dI) vwCl (wd 81 ad (celC ad cA) u) t.heap) (AA 81 ad sz)) 0 0 (AA 81 ad sz) := by
  refine Met.ofW (cc := cX10_badAsTen) (maxL := 1) (ret := (some .int)) (by decide) rfl ?_
  intro p e s m args below meth c s₁ B hml hv0
  obtain ⟨rfl, hsz, hP, hK⟩ := hv0
  subst hsz
  have C0 : Cx cX10_badAsTen RX10 wsX10_badAsTen 1 (some .int) p s m ([.ref (ad 0)] : List Value).toArray meth c := ⟨B.exec, B.bytes, hml, findClass_of_methodNamed B.named, atoms_spec (ws := wsX10_badAsTen) B.pre, B.returns, B.notSynchronized⟩
  have hl := lv_entry ([.ref (ad 0)]) (n := 1) (Nat.le_of_ble_eq_true rfl)
  rw [lg_entry_eq]
  generalize (lg_sl ([.ref (ad 0)]) ++ List.replicate (1 - (lg_sl ([.ref (ad 0)])).length) Slot.unset).toArray = ls at hl ⊢
  have hl : lv_has ls 1 [(0, .ref (ad 0))] := hl
  exact w_X10_badAsTen_e hi   C0 hK Q (R_X10_badAsTen  Q) (y_X10_badAsTen hi   C0 hK Q)  s0 hv hP va_S.rf hl
def lay_X10_when (ad : Nat → Nat) (a1 : Int32) : Nat → List Int32 → List Int64 → Option (List (Nat × Value) × List Value) := fun P xs ys => match P, xs, ys with
  | _, _, _ => none
set_option maxHeartbeats 4000000 in
set_option maxRecDepth 100000 in
theorem w_X10_when_e {p : Program} {l : Launch} {e : Env} {s : State} {m : MethodId} {args : Array Value} {below : List Frame} {meth : Method} {c : Code} {dC : Nat → ClassId} {dI : Nat → Nat → Nat} {ad : Nat → Nat} {cA cZ : ClassId} (hi : Inj 81 ad) (a1 : Int32)  (C0 : Cx cX10_when RX10 wsX10_when 2 (some .int) p s m args meth c) (hK : KK dC dI cA cZ s) (Q : Int32 → St → Prop) (Y : Nat → List Int32 → List Int64 → St → Prop) (hY : ∀ P xs ys σ, Y P xs ys σ → XX p l e ({ frames := 4, cells := 0, slots := 0, locals := 92 } : Room) s m args below meth c (dC, dI) 81 ad (celC ad cA) 2 (ZI below args s (dC, dI) 81 ad (celC ad cA) Q) (lay_X10_when ad a1) P xs ys σ)  (s0 : St) (hv : B_X10_when_e a1 Q Y  s0) {H : Heap} {locs : List Loc} {ls : Array Slot} (hP : va_P (dC, dI) vwCl (wd 81 ad (celC ad cA) s0) H) (hS : va_S (AA 81 ad s.heap.size) s.heap H locs) (hl : lv_has ls 2 [(0, .ref (ad 0)), (1, .int a1)]) : W p l e ({ frames := 4, cells := 0, slots := 0, locals := 92 } : Room) s m args below meth c H locs 0 0 (ZI below args s (dC, dI) 81 ad (celC ad cA) Q) (F0 m 0 ls []) := by
  obtain ⟨hx, hb, hml, hown, hts, hr, hlocks⟩ := C0
  have hD := wd_D (s := s) (cel := celC ad cA) (σ := s0) hi
  unfold B_X10_when_e at hv
  refine lv_iload_n hx hb dX10_when_0 rfl (lv_at hl 1 rfl) ?_
  refine lv_iconst (v := (-1)) hx hb dX10_when_1 (by decide) ?_
  refine lv_icmp_ne (tgt := 20) hx hb dX10_when_2 (by decide) (fun c2 => ?_) (fun c2 => ?_)
  · have hv := hv.1 c2
    refine lv_aload_n hx hb dX10_when_20 rfl (lv_at hl 0 rfl) ?_
    refine lv_iload_n hx hb dX10_when_21 rfl (lv_at hl 1 rfl) ?_
    refine r_ci (va_runV (As := [.int a1]) (rest := []) ⟨hx, hb, hml, hown, hts⟩ (c_X10_isGlove hi a1 s0 _ hv H.size) (cwV 1 hts gX10_when_X10_isGlove rfl rfl rfl (by decide +kernel) ⟨Nat.le_of_ble_eq_true rfl, Nat.le_of_ble_eq_true rfl⟩) ⟨pre_blind, r_recv hK.1 hP 0 (by decide) (ceGR_0 (s0 0)) rfl, pre_of hP hK⟩ rfl rfl hl.1 rfl (lv_room (Nat.le_of_ble_eq_true rfl)) dX10_when_22 ⟨Nat.zero_le _, Nat.zero_le _⟩) hS (fun r1 s1 H locs hv hP hS => ?_)
    obtain ⟨hz_r1, hv⟩ := hv
    have hD := wd_D (s := s) (cel := celC ad cA) (σ := s1) hi
    refine lv_if_eq (tgt := 46) hx hb dX10_when_25 (by decide) (fun c25 => ?_) (fun c25 => ?_)
    · have hv := hv.1 c25
      refine lv_aload_n hx hb dX10_when_46 rfl (lv_at hl 0 rfl) ?_
      refine r_ci (va_runV (As := []) (rest := []) ⟨hx, hb, hml, hown, hts⟩ (c_X10_badAsTen hi  s1 _ hv H.size) (cwV 0 hts gX10_when_X10_badAsTen rfl rfl rfl (by decide +kernel) ⟨Nat.le_of_ble_eq_true rfl, Nat.le_of_ble_eq_true rfl⟩) ⟨pre_blind, r_recv hK.1 hP 0 (by decide) (ceGR_0 (s1 0)) rfl, pre_of hP hK⟩ rfl rfl hl.1 rfl (lv_room (Nat.le_of_ble_eq_true rfl)) dX10_when_47 ⟨Nat.zero_le _, Nat.zero_le _⟩) hS (fun r2 s2 H locs hv hP hS => ?_)
      have hD := wd_D (s := s) (cel := celC ad cA) (σ := s2) hi
      exact r_iret hx hb hr hlocks hv hP hS dX10_when_50
    · have hv := hv.2 c25
      refine lv_aload_n hx hb dX10_when_28 rfl (lv_at hl 0 rfl) ?_
      refine r_get hx hb hts (iwX10_when_X10) hown hK.1 hP 0 (by decide) (ceGR_0 (s1 0)) rfl 3 (by decide) (hts _ kX10_when_1) (v := .ref (ad 55)) rfl dX10_when_29 ?_
      refine lv_aload_n hx hb dX10_when_32 rfl (lv_at hl 0 rfl) ?_
      refine r_get hx hb hts (iwX10_when_X10) hown hK.1 hP 0 (by decide) (ceGR_0 (s1 0)) rfl 0 (by decide) (hts _ kX10_when_2) (v := .ref (ad 1)) rfl dX10_when_33 ?_
      refine r_get hx hb hts (iwX10_when_X7) hown hK.1 hP 1 (ltSc_0 vSc_1) (ceSc_0 vSc_1 (s1 1)) rfl 0 (by decide) (hts _ kX10_when_3) (v := .ref (ad 2)) rfl dX10_when_36 ?_
      refine lv_iload_n hx hb dX10_when_39 rfl (lv_at hl 1 rfl) ?_
      refine r_ci (va_runV (As := [.ref (ad 2), .int a1]) (rest := []) ⟨hx, hb, hml, hown, hts⟩ (c_X0_hoursTillOver hi 2 a1 (vSc1 vSc_1) s1 _ hv H.size) (cwV 2 hts gX10_when_X0_hoursTillOver rfl rfl rfl (by decide +kernel) ⟨Nat.le_of_ble_eq_true rfl, Nat.le_of_ble_eq_true rfl⟩) ⟨pre_blind, r_recv hK.1 hP 55 (by decide) (ceFo_0 (s1 55)) rfl, pre_of hP hK⟩ rfl rfl hl.1 rfl (lv_room (Nat.le_of_ble_eq_true rfl)) dX10_when_40 ⟨Nat.zero_le _, Nat.zero_le _⟩) hS (fun r3 s3 H locs hv hP hS => ?_)
      have hD := wd_D (s := s) (cel := celC ad cA) (σ := s3) hi
      refine lv_goto (tgt := 50) hx hb dX10_when_43 (by decide) ?_
      exact r_iret hx hb hr hlocks hv hP hS dX10_when_50
  · have hv := hv.2 c2
    refine lv_aload_n hx hb dX10_when_5 rfl (lv_at hl 0 rfl) ?_
    refine r_get hx hb hts (iwX10_when_X10) hown hK.1 hP 0 (by decide) (ceGR_0 (s0 0)) rfl 3 (by decide) (hts _ kX10_when_1) (v := .ref (ad 55)) rfl dX10_when_6 ?_
    refine lv_aload_n hx hb dX10_when_9 rfl (lv_at hl 0 rfl) ?_
    refine r_get hx hb hts (iwX10_when_X10) hown hK.1 hP 0 (by decide) (ceGR_0 (s0 0)) rfl 0 (by decide) (hts _ kX10_when_2) (v := .ref (ad 1)) rfl dX10_when_10 ?_
    refine r_get hx hb hts (iwX10_when_X7) hown hK.1 hP 1 (ltSc_0 vSc_1) (ceSc_0 vSc_1 (s0 1)) rfl 0 (by decide) (hts _ kX10_when_3) (v := .ref (ad 2)) rfl dX10_when_13 ?_
    refine r_ci (va_runV (As := [.ref (ad 2)]) (rest := []) ⟨hx, hb, hml, hown, hts⟩ (c_X0_hoursTillAllOver hi 2 (vSc1 vSc_1) s0 _ hv H.size) (cwV 1 hts gX10_when_X0_hoursTillAllOver rfl rfl rfl (by decide +kernel) ⟨Nat.le_of_ble_eq_true rfl, Nat.le_of_ble_eq_true rfl⟩) ⟨pre_blind, r_recv hK.1 hP 55 (by decide) (ceFo_0 (s0 55)) rfl, pre_of hP hK⟩ rfl rfl hl.1 rfl (lv_room (Nat.le_of_ble_eq_true rfl)) dX10_when_16 ⟨Nat.zero_le _, Nat.zero_le _⟩) hS (fun r4 s4 H locs hv hP hS => ?_)
    have hD := wd_D (s := s) (cel := celC ad cA) (σ := s4) hi
    exact r_iret hx hb hr hlocks hv hP hS dX10_when_19
set_option maxHeartbeats 4000000 in
theorem y_X10_when {p : Program} {l : Launch} {e : Env} {s : State} {m : MethodId} {args : Array Value} {below : List Frame} {meth : Method} {c : Code} {dC : Nat → ClassId} {dI : Nat → Nat → Nat} {ad : Nat → Nat} {cA cZ : ClassId} (hi : Inj 81 ad) (a1 : Int32)  (C0 : Cx cX10_when RX10 wsX10_when 2 (some .int) p s m args meth c) (hK : KK dC dI cA cZ s) (Q : Int32 → St → Prop) : ∀ P xs ys σ, R_X10_when a1 Q P xs ys σ → XX p l e ({ frames := 4, cells := 0, slots := 0, locals := 92 } : Room) s m args below meth c (dC, dI) 81 ad (celC ad cA) 2 (ZI below args s (dC, dI) 81 ad (celC ad cA) Q) (lay_X10_when ad a1) P xs ys σ := by
  refine Fx.elim _ (fun P xs ys σ Y hY hB => ?_)
  exact hB.elim
set_option maxHeartbeats 4000000 in
theorem c_X10_when {l : Launch} {dC : Nat → ClassId} {dI : Nat → Nat → Nat} {ad : Nat → Nat} {cA cZ : ClassId} (hi : Inj 81 ad) (a1 : Int32)  (s0 : St) (Q : Int32 → St → Prop) (hv : V_X10_when a1 s0 Q) (sz : Nat) : Met l yX10_when wsX10_when ({ frames := 4, cells := 0, slots := 0, locals := 92 } : Room) (va_Pc [.ref (ad 0), .int a1] (PW dC dI ad cA cZ 81 (celC ad cA) sz s0)) (va_Qi Q (fun u t => va_P (dC, dI) vwCl (wd 81 ad (celC ad cA) u) t.heap) (AA 81 ad sz)) 0 0 (AA 81 ad sz) := by
  refine Met.ofW (cc := cX10_when) (maxL := 2) (ret := (some .int)) (by decide) rfl ?_
  intro p e s m args below meth c s₁ B hml hv0
  obtain ⟨rfl, hsz, hP, hK⟩ := hv0
  subst hsz
  have C0 : Cx cX10_when RX10 wsX10_when 2 (some .int) p s m ([.ref (ad 0), .int a1] : List Value).toArray meth c := ⟨B.exec, B.bytes, hml, findClass_of_methodNamed B.named, atoms_spec (ws := wsX10_when) B.pre, B.returns, B.notSynchronized⟩
  have hl := lv_entry ([.ref (ad 0), .int a1]) (n := 2) (Nat.le_of_ble_eq_true rfl)
  rw [lg_entry_eq]
  generalize (lg_sl ([.ref (ad 0), .int a1]) ++ List.replicate (2 - (lg_sl ([.ref (ad 0), .int a1])).length) Slot.unset).toArray = ls at hl ⊢
  have hl : lv_has ls 2 [(0, .ref (ad 0)), (1, .int a1)] := hl
  exact w_X10_when_e hi a1  C0 hK Q (R_X10_when a1 Q) (y_X10_when hi a1  C0 hK Q)  s0 hv hP va_S.rf hl
def lay_J6_numberOfTrailingZeros_0f7a4 (ad : Nat → Nat)  : Nat → List Int32 → List Int64 → Option (List (Nat × Value) × List Value) := fun P xs ys => match P, xs, ys with
  | 34, [x0, x1], [] => some ([(0, .int x0), (1, .int x1)], [])
  | 49, [x0, x1], [] => some ([(0, .int x0), (1, .int x1)], [])
  | 62, [x0, x1], [] => some ([(0, .int x0), (1, .int x1)], [])
  | _, _, _ => none
set_option maxHeartbeats 4000000 in
set_option maxRecDepth 100000 in
theorem w_J6_numberOfTrailingZeros_0f7a4_e {p : Program} {l : Launch} {e : Env} {s : State} {m : MethodId} {args : Array Value} {below : List Frame} {meth : Method} {c : Code} {dC : Nat → ClassId} {dI : Nat → Nat → Nat} {ad : Nat → Nat} {cA cZ : ClassId} (hi : Inj 81 ad)   (C0 : Cx cJ6_numberOfTrailingZeros_0f7a4 RJ6 wsJ6_numberOfTrailingZeros_0f7a4 2 (some .int) p s m args meth c) (hK : KK dC dI cA cZ s) (Q : Int32 → St → Prop) (Y : Nat → List Int32 → List Int64 → St → Prop) (hY : ∀ P xs ys σ, Y P xs ys σ → XX p l e ({ frames := 0, cells := 0, slots := 0, locals := 0 } : Room) s m args below meth c (dC, dI) 81 ad (celC ad cA) 2 (ZI below args s (dC, dI) 81 ad (celC ad cA) Q) (lay_J6_numberOfTrailingZeros_0f7a4 ad ) P xs ys σ) (a0 : Int32) (s0 : St) (hv : B_J6_numberOfTrailingZeros_0f7a4_e  Q Y a0 s0) {H : Heap} {locs : List Loc} {ls : Array Slot} (hP : va_P (dC, dI) vwCl (wd 81 ad (celC ad cA) s0) H) (hS : va_S (AA 81 ad s.heap.size) s.heap H locs) (hl : lv_has ls 2 [(0, .int a0)]) : W p l e ({ frames := 0, cells := 0, slots := 0, locals := 0 } : Room) s m args below meth c H locs 0 0 (ZI below args s (dC, dI) 81 ad (celC ad cA) Q) (F0 m 0 ls []) := by
  obtain ⟨hx, hb, hml, hown, hts, hr, hlocks⟩ := C0
  have hD := wd_D (s := s) (cel := celC ad cA) (σ := s0) hi
  unfold B_J6_numberOfTrailingZeros_0f7a4_e at hv
  refine lv_iload_n hx hb dJ6_numberOfTrailingZeros_0f7a4_0 rfl (lv_at hl 0 rfl) ?_
  refine lv_iconst (v := (-1)) hx hb dJ6_numberOfTrailingZeros_0f7a4_1 (by decide) ?_
  refine lv_ixor hx hb dJ6_numberOfTrailingZeros_0f7a4_2 ?_
  refine lv_iload_n hx hb dJ6_numberOfTrailingZeros_0f7a4_3 rfl (lv_at hl 0 rfl) ?_
  refine lv_iconst (v := 1) hx hb dJ6_numberOfTrailingZeros_0f7a4_4 (by decide) ?_
  refine lv_isub hx hb dJ6_numberOfTrailingZeros_0f7a4_5 ?_
  refine lv_iand hx hb dJ6_numberOfTrailingZeros_0f7a4_6 ?_
  refine lv_topi (fun v1 ev1 => ?_)
  have hv := hv v1 ev1
  refine lv_istore_n (lv' := [(0, .int v1)]) hx hb dJ6_numberOfTrailingZeros_0f7a4_7 rfl hl (by decide) rfl (fun ls hl => ?_)
  refine lv_iload_n hx hb dJ6_numberOfTrailingZeros_0f7a4_8 rfl (lv_at hl 0 rfl) ?_
  refine lv_if_gt (tgt := 17) hx hb dJ6_numberOfTrailingZeros_0f7a4_9 (by decide) (fun c9 => ?_) (fun c9 => ?_)
  · have hv := hv.1 c9
    refine lv_iconst (v := 1) hx hb dJ6_numberOfTrailingZeros_0f7a4_17 (by decide) ?_
    refine lv_istore_n (lv' := [(1, .int 1), (0, .int v1)]) hx hb dJ6_numberOfTrailingZeros_0f7a4_18 rfl hl (by decide) rfl (fun ls hl => ?_)
    refine lv_iload_n hx hb dJ6_numberOfTrailingZeros_0f7a4_19 rfl (lv_at hl 1 rfl) ?_
    refine lv_ldcw (v := 65536) hx hb hown (hts _ kJ6_numberOfTrailingZeros_0f7a4_1) dJ6_numberOfTrailingZeros_0f7a4_20 ?_
    refine lv_icmp_le (tgt := 34) hx hb dJ6_numberOfTrailingZeros_0f7a4_23 (by decide) (fun c23 => ?_) (fun c23 => ?_)
    · have hv := hv.1 c23
      exact hY 34 [v1, 1] [] s0 hv _ _ rfl H locs ls hP hS (lv_sub hl [1, 0] rfl)
    · have hv := hv.2 c23
      refine lv_iinc (v := 1 + 16) (lv' := [(1, .int (1 + 16)), (0, .int v1)]) hx hb dJ6_numberOfTrailingZeros_0f7a4_26 hl (k := 0) rfl rfl (by decide) rfl (fun ls hl => ?_)
      refine lv_iload_n hx hb dJ6_numberOfTrailingZeros_0f7a4_29 rfl (lv_at hl 1 rfl) ?_
      refine lv_bipush (v := 16) hx hb dJ6_numberOfTrailingZeros_0f7a4_30 (by decide) ?_
      refine lv_iushr (v := (v1.toUInt32 >>> ((16 : Int32).toUInt32 &&& Int32.toUInt32 31)).toInt32) hx hb dJ6_numberOfTrailingZeros_0f7a4_32 rfl ?_
      refine lv_topi (fun v2 ev2 => ?_)
      have hv := hv v2 ev2
      refine lv_istore_n (lv' := [(0, .int v2), (1, .int (1 + 16))]) hx hb dJ6_numberOfTrailingZeros_0f7a4_33 rfl hl (by decide) rfl (fun ls hl => ?_)
      exact hY 34 [v2, 1 + 16] [] s0 hv _ _ rfl H locs ls hP hS (lv_sub hl [0, 1] rfl)
  · have hv := hv.2 c9
    refine lv_iload_n hx hb dJ6_numberOfTrailingZeros_0f7a4_12 rfl (lv_at hl 0 rfl) ?_
    refine lv_bipush (v := 32) hx hb dJ6_numberOfTrailingZeros_0f7a4_13 (by decide) ?_
    refine lv_iand hx hb dJ6_numberOfTrailingZeros_0f7a4_15 ?_
    exact r_iret hx hb hr hlocks hv hP hS dJ6_numberOfTrailingZeros_0f7a4_16
set_option maxHeartbeats 4000000 in
set_option maxRecDepth 100000 in
theorem w_J6_numberOfTrailingZeros_0f7a4_34 {p : Program} {l : Launch} {e : Env} {s : State} {m : MethodId} {args : Array Value} {below : List Frame} {meth : Method} {c : Code} {dC : Nat → ClassId} {dI : Nat → Nat → Nat} {ad : Nat → Nat} {cA cZ : ClassId} (hi : Inj 81 ad)   (C0 : Cx cJ6_numberOfTrailingZeros_0f7a4 RJ6 wsJ6_numberOfTrailingZeros_0f7a4 2 (some .int) p s m args meth c) (hK : KK dC dI cA cZ s) (Q : Int32 → St → Prop) (Y : Nat → List Int32 → List Int64 → St → Prop) (hY : ∀ P xs ys σ, Y P xs ys σ → XX p l e ({ frames := 0, cells := 0, slots := 0, locals := 0 } : Room) s m args below meth c (dC, dI) 81 ad (celC ad cA) 2 (ZI below args s (dC, dI) 81 ad (celC ad cA) Q) (lay_J6_numberOfTrailingZeros_0f7a4 ad ) P xs ys σ) (x0 : Int32) (x1 : Int32) (s0 : St) (hv : B_J6_numberOfTrailingZeros_0f7a4_34  Q Y x0 x1 s0) {H : Heap} {locs : List Loc} {ls : Array Slot} (hP : va_P (dC, dI) vwCl (wd 81 ad (celC ad cA) s0) H) (hS : va_S (AA 81 ad s.heap.size) s.heap H locs) (hl : lv_has ls 2 [(0, .int x0), (1, .int x1)]) : W p l e ({ frames := 0, cells := 0, slots := 0, locals := 0 } : Room) s m args below meth c H locs 0 0 (ZI below args s (dC, dI) 81 ad (celC ad cA) Q) (F0 m 34 ls []) := by
  obtain ⟨hx, hb, hml, hown, hts, hr, hlocks⟩ := C0
  have hD := wd_D (s := s) (cel := celC ad cA) (σ := s0) hi
  unfold B_J6_numberOfTrailingZeros_0f7a4_34 at hv
  refine lv_iload_n hx hb dJ6_numberOfTrailingZeros_0f7a4_34 rfl (lv_at hl 0 rfl) ?_
  refine lv_sipush (v := 256) hx hb dJ6_numberOfTrailingZeros_0f7a4_35 (by decide) ?_
  refine lv_icmp_le (tgt := 49) hx hb dJ6_numberOfTrailingZeros_0f7a4_38 (by decide) (fun c38 => ?_) (fun c38 => ?_)
  · have hv := hv.1 c38
    exact hY 49 [x0, x1] [] s0 hv _ _ rfl H locs ls hP hS (lv_sub hl [0, 1] rfl)
  · have hv := hv.2 c38
    refine lv_iinc (v := x1 + 8) (lv' := [(1, .int (x1 + 8)), (0, .int x0)]) hx hb dJ6_numberOfTrailingZeros_0f7a4_41 hl (k := 1) rfl rfl (by decide) rfl (fun ls hl => ?_)
    refine lv_iload_n hx hb dJ6_numberOfTrailingZeros_0f7a4_44 rfl (lv_at hl 1 rfl) ?_
    refine lv_bipush (v := 8) hx hb dJ6_numberOfTrailingZeros_0f7a4_45 (by decide) ?_
    refine lv_iushr (v := (x0.toUInt32 >>> ((8 : Int32).toUInt32 &&& Int32.toUInt32 31)).toInt32) hx hb dJ6_numberOfTrailingZeros_0f7a4_47 rfl ?_
    refine lv_topi (fun v1 ev1 => ?_)
    have hv := hv v1 ev1
    refine lv_istore_n (lv' := [(0, .int v1), (1, .int (x1 + 8))]) hx hb dJ6_numberOfTrailingZeros_0f7a4_48 rfl hl (by decide) rfl (fun ls hl => ?_)
    exact hY 49 [v1, x1 + 8] [] s0 hv _ _ rfl H locs ls hP hS (lv_sub hl [0, 1] rfl)
set_option maxHeartbeats 4000000 in
set_option maxRecDepth 100000 in
theorem w_J6_numberOfTrailingZeros_0f7a4_49 {p : Program} {l : Launch} {e : Env} {s : State} {m : MethodId} {args : Array Value} {below : List Frame} {meth : Method} {c : Code} {dC : Nat → ClassId} {dI : Nat → Nat → Nat} {ad : Nat → Nat} {cA cZ : ClassId} (hi : Inj 81 ad)   (C0 : Cx cJ6_numberOfTrailingZeros_0f7a4 RJ6 wsJ6_numberOfTrailingZeros_0f7a4 2 (some .int) p s m args meth c) (hK : KK dC dI cA cZ s) (Q : Int32 → St → Prop) (Y : Nat → List Int32 → List Int64 → St → Prop) (hY : ∀ P xs ys σ, Y P xs ys σ → XX p l e ({ frames := 0, cells := 0, slots := 0, locals := 0 } : Room) s m args below meth c (dC, dI) 81 ad (celC ad cA) 2 (ZI below args s (dC, dI) 81 ad (celC ad cA) Q) (lay_J6_numberOfTrailingZeros_0f7a4 ad ) P xs ys σ) (x0 : Int32) (x1 : Int32) (s0 : St) (hv : B_J6_numberOfTrailingZeros_0f7a4_49  Q Y x0 x1 s0) {H : Heap} {locs : List Loc} {ls : Array Slot} (hP : va_P (dC, dI) vwCl (wd 81 ad (celC ad cA) s0) H) (hS : va_S (AA 81 ad s.heap.size) s.heap H locs) (hl : lv_has ls 2 [(0, .int x0), (1, .int x1)]) : W p l e ({ frames := 0, cells := 0, slots := 0, locals := 0 } : Room) s m args below meth c H locs 0 0 (ZI below args s (dC, dI) 81 ad (celC ad cA) Q) (F0 m 49 ls []) := by
  obtain ⟨hx, hb, hml, hown, hts, hr, hlocks⟩ := C0
  have hD := wd_D (s := s) (cel := celC ad cA) (σ := s0) hi
  unfold B_J6_numberOfTrailingZeros_0f7a4_49 at hv
  refine lv_iload_n hx hb dJ6_numberOfTrailingZeros_0f7a4_49 rfl (lv_at hl 0 rfl) ?_
  refine lv_bipush (v := 16) hx hb dJ6_numberOfTrailingZeros_0f7a4_50 (by decide) ?_
  refine lv_icmp_le (tgt := 62) hx hb dJ6_numberOfTrailingZeros_0f7a4_52 (by decide) (fun c52 => ?_) (fun c52 => ?_)
  · have hv := hv.1 c52
    exact hY 62 [x0, x1] [] s0 hv _ _ rfl H locs ls hP hS (lv_sub hl [0, 1] rfl)
  · have hv := hv.2 c52
    refine lv_iinc (v := x1 + 4) (lv' := [(1, .int (x1 + 4)), (0, .int x0)]) hx hb dJ6_numberOfTrailingZeros_0f7a4_55 hl (k := 1) rfl rfl (by decide) rfl (fun ls hl => ?_)
    refine lv_iload_n hx hb dJ6_numberOfTrailingZeros_0f7a4_58 rfl (lv_at hl 1 rfl) ?_
    refine lv_iconst (v := 4) hx hb dJ6_numberOfTrailingZeros_0f7a4_59 (by decide) ?_
    refine lv_iushr (v := (x0.toUInt32 >>> ((4 : Int32).toUInt32 &&& Int32.toUInt32 31)).toInt32) hx hb dJ6_numberOfTrailingZeros_0f7a4_60 rfl ?_
    refine lv_topi (fun v1 ev1 => ?_)
    have hv := hv v1 ev1
    refine lv_istore_n (lv' := [(0, .int v1), (1, .int (x1 + 4))]) hx hb dJ6_numberOfTrailingZeros_0f7a4_61 rfl hl (by decide) rfl (fun ls hl => ?_)
    exact hY 62 [v1, x1 + 4] [] s0 hv _ _ rfl H locs ls hP hS (lv_sub hl [0, 1] rfl)
set_option maxHeartbeats 4000000 in
set_option maxRecDepth 100000 in
theorem w_J6_numberOfTrailingZeros_0f7a4_62 {p : Program} {l : Launch} {e : Env} {s : State} {m : MethodId} {args : Array Value} {below : List Frame} {meth : Method} {c : Code} {dC : Nat → ClassId} {dI : Nat → Nat → Nat} {ad : Nat → Nat} {cA cZ : ClassId} (hi : Inj 81 ad)   (C0 : Cx cJ6_numberOfTrailingZeros_0f7a4 RJ6 wsJ6_numberOfTrailingZeros_0f7a4 2 (some .int) p s m args meth c) (hK : KK dC dI cA cZ s) (Q : Int32 → St → Prop) (Y : Nat → List Int32 → List Int64 → St → Prop) (hY : ∀ P xs ys σ, Y P xs ys σ → XX p l e ({ frames := 0, cells := 0, slots := 0, locals := 0 } : Room) s m args below meth c (dC, dI) 81 ad (celC ad cA) 2 (ZI below args s (dC, dI) 81 ad (celC ad cA) Q) (lay_J6_numberOfTrailingZeros_0f7a4 ad ) P xs ys σ) (x0 : Int32) (x1 : Int32) (s0 : St) (hv : B_J6_numberOfTrailingZeros_0f7a4_62  Q Y x0 x1 s0) {H : Heap} {locs : List Loc} {ls : Array Slot} (hP : va_P (dC, dI) vwCl (wd 81 ad (celC ad cA) s0) H) (hS : va_S (AA 81 ad s.heap.size) s.heap H locs) (hl : lv_has ls 2 [(0, .int x0), (1, .int x1)]) : W p l e ({ frames := 0, cells := 0, slots := 0, locals := 0 } : Room) s m args below meth c H locs 0 0 (ZI below args s (dC, dI) 81 ad (celC ad cA) Q) (F0 m 62 ls []) := by
  obtain ⟨hx, hb, hml, hown, hts, hr, hlocks⟩ := C0
  have hD := wd_D (s := s) (cel := celC ad cA) (σ := s0) hi
  unfold B_J6_numberOfTrailingZeros_0f7a4_62 at hv
  refine lv_iload_n hx hb dJ6_numberOfTrailingZeros_0f7a4_62 rfl (lv_at hl 0 rfl) ?_
  refine lv_iconst (v := 4) hx hb dJ6_numberOfTrailingZeros_0f7a4_63 (by decide) ?_
  refine lv_icmp_le (tgt := 74) hx hb dJ6_numberOfTrailingZeros_0f7a4_64 (by decide) (fun c64 => ?_) (fun c64 => ?_)
  · have hv := hv.1 c64
    refine lv_iload_n hx hb dJ6_numberOfTrailingZeros_0f7a4_74 rfl (lv_at hl 1 rfl) ?_
    refine lv_iload_n hx hb dJ6_numberOfTrailingZeros_0f7a4_75 rfl (lv_at hl 0 rfl) ?_
    refine lv_iconst (v := 1) hx hb dJ6_numberOfTrailingZeros_0f7a4_76 (by decide) ?_
    refine lv_iushr (v := (x0.toUInt32 >>> ((1 : Int32).toUInt32 &&& Int32.toUInt32 31)).toInt32) hx hb dJ6_numberOfTrailingZeros_0f7a4_77 rfl ?_
    refine lv_iadd hx hb dJ6_numberOfTrailingZeros_0f7a4_78 ?_
    exact r_iret hx hb hr hlocks hv hP hS dJ6_numberOfTrailingZeros_0f7a4_79
  · have hv := hv.2 c64
    refine lv_iinc (v := x1 + 2) (lv' := [(1, .int (x1 + 2)), (0, .int x0)]) hx hb dJ6_numberOfTrailingZeros_0f7a4_67 hl (k := 1) rfl rfl (by decide) rfl (fun ls hl => ?_)
    refine lv_iload_n hx hb dJ6_numberOfTrailingZeros_0f7a4_70 rfl (lv_at hl 1 rfl) ?_
    refine lv_iconst (v := 2) hx hb dJ6_numberOfTrailingZeros_0f7a4_71 (by decide) ?_
    refine lv_iushr (v := (x0.toUInt32 >>> ((2 : Int32).toUInt32 &&& Int32.toUInt32 31)).toInt32) hx hb dJ6_numberOfTrailingZeros_0f7a4_72 rfl ?_
    refine lv_topi (fun v1 ev1 => ?_)
    have hv := hv v1 ev1
    refine lv_istore_n (lv' := [(0, .int v1), (1, .int (x1 + 2))]) hx hb dJ6_numberOfTrailingZeros_0f7a4_73 rfl hl (by decide) rfl (fun ls hl => ?_)
    refine lv_iload_n hx hb dJ6_numberOfTrailingZeros_0f7a4_74 rfl (lv_at hl 1 rfl) ?_
    refine lv_iload_n hx hb dJ6_numberOfTrailingZeros_0f7a4_75 rfl (lv_at hl 0 rfl) ?_
    refine lv_iconst (v := 1) hx hb dJ6_numberOfTrailingZeros_0f7a4_76 (by decide) ?_
    refine lv_iushr (v := (v1.toUInt32 >>> ((1 : Int32).toUInt32 &&& Int32.toUInt32 31)).toInt32) hx hb dJ6_numberOfTrailingZeros_0f7a4_77 rfl ?_
    refine lv_iadd hx hb dJ6_numberOfTrailingZeros_0f7a4_78 ?_
    exact r_iret hx hb hr hlocks hv hP hS dJ6_numberOfTrailingZeros_0f7a4_79
set_option maxHeartbeats 4000000 in
theorem y_J6_numberOfTrailingZeros_0f7a4 {p : Program} {l : Launch} {e : Env} {s : State} {m : MethodId} {args : Array Value} {below : List Frame} {meth : Method} {c : Code} {dC : Nat → ClassId} {dI : Nat → Nat → Nat} {ad : Nat → Nat} {cA cZ : ClassId} (hi : Inj 81 ad)   (C0 : Cx cJ6_numberOfTrailingZeros_0f7a4 RJ6 wsJ6_numberOfTrailingZeros_0f7a4 2 (some .int) p s m args meth c) (hK : KK dC dI cA cZ s) (Q : Int32 → St → Prop) : ∀ P xs ys σ, R_J6_numberOfTrailingZeros_0f7a4  Q P xs ys σ → XX p l e ({ frames := 0, cells := 0, slots := 0, locals := 0 } : Room) s m args below meth c (dC, dI) 81 ad (celC ad cA) 2 (ZI below args s (dC, dI) 81 ad (celC ad cA) Q) (lay_J6_numberOfTrailingZeros_0f7a4 ad ) P xs ys σ := by
  refine Fx.elim _ (fun P xs ys σ Y hY hB => ?_)
  rcases hB with ⟨rfl, x0, x1, rfl, rfl, hB⟩ | ⟨rfl, x0, x1, rfl, rfl, hB⟩ | ⟨rfl, x0, x1, rfl, rfl, hB⟩
  · intro lv st he H locs ls hP hS hl
    cases he
    exact w_J6_numberOfTrailingZeros_0f7a4_34 hi   C0 hK Q Y hY x0 x1 σ hB hP hS hl
  · intro lv st he H locs ls hP hS hl
    cases he
    exact w_J6_numberOfTrailingZeros_0f7a4_49 hi   C0 hK Q Y hY x0 x1 σ hB hP hS hl
  · intro lv st he H locs ls hP hS hl
    cases he
    exact w_J6_numberOfTrailingZeros_0f7a4_62 hi   C0 hK Q Y hY x0 x1 σ hB hP hS hl
set_option maxHeartbeats 4000000 in
theorem c_J6_numberOfTrailingZeros_0f7a4 {l : Launch} {dC : Nat → ClassId} {dI : Nat → Nat → Nat} {ad : Nat → Nat} {cA cZ : ClassId} (hi : Inj 81 ad) (a0 : Int32)  (s0 : St) (Q : Int32 → St → Prop) (hv : V_J6_numberOfTrailingZeros_0f7a4 a0 s0 Q) (sz : Nat) : Met l yJ6_numberOfTrailingZeros_0f7a4 wsJ6_numberOfTrailingZeros_0f7a4 ({ frames := 0, cells := 0, slots := 0, locals := 0 } : Room) (va_Pc [.int a0] (PW dC dI ad cA cZ 81 (celC ad cA) sz s0)) (va_Qi Q (fun u t => va_P (dC, dI) vwCl (wd 81 ad (celC ad cA) u) t.heap) (AA 81 ad sz)) 0 0 (AA 81 ad sz) := by
  refine Met.ofW (cc := cJ6_numberOfTrailingZeros_0f7a4) (maxL := 2) (ret := (some .int)) (by decide) rfl ?_
  intro p e s m args below meth c s₁ B hml hv0
  obtain ⟨rfl, hsz, hP, hK⟩ := hv0
  subst hsz
  have C0 : Cx cJ6_numberOfTrailingZeros_0f7a4 RJ6 wsJ6_numberOfTrailingZeros_0f7a4 2 (some .int) p s m ([.int a0] : List Value).toArray meth c := ⟨B.exec, B.bytes, hml, findClass_of_methodNamed B.named, atoms_spec (ws := wsJ6_numberOfTrailingZeros_0f7a4) B.pre, B.returns, B.notSynchronized⟩
  have hl := lv_entry ([.int a0]) (n := 2) (Nat.le_of_ble_eq_true rfl)
  rw [lg_entry_eq]
  generalize (lg_sl ([.int a0]) ++ List.replicate (2 - (lg_sl ([.int a0])).length) Slot.unset).toArray = ls at hl ⊢
  have hl : lv_has ls 2 [(0, .int a0)] := hl
  exact w_J6_numberOfTrailingZeros_0f7a4_e hi   C0 hK Q (R_J6_numberOfTrailingZeros_0f7a4  Q) (y_J6_numberOfTrailingZeros_0f7a4 hi   C0 hK Q) a0 s0 hv hP va_S.rf hl
def lay_X2_fit (ad : Nat → Nat) (h0 : Nat) (a1 : Int32) (a2 : Int32) (a3 : Int32) : Nat → List Int32 → List Int64 → Option (List (Nat × Value) × List Value) := fun P xs ys => match P, xs, ys with
  | _, _, _ => none
set_option maxHeartbeats 4000000 in
set_option maxRecDepth 100000 in
theorem w_X2_fit_e {p : Program} {l : Launch} {e : Env} {s : State} {m : MethodId} {args : Array Value} {below : List Frame} {meth : Method} {c : Code} {dC : Nat → ClassId} {dI : Nat → Nat → Nat} {ad : Nat → Nat} {cA cZ : ClassId} (hi : Inj 81 ad) (h0 : Nat) (a1 : Int32) (a2 : Int32) (a3 : Int32) (hh0 : isSt h0) (C0 : Cx cX2_fit RX2 wsX2_fit 4 (some .boolean) p s m args meth c) (hK : KK dC dI cA cZ s) (Q : Int32 → St → Prop) (Y : Nat → List Int32 → List Int64 → St → Prop) (hY : ∀ P xs ys σ, Y P xs ys σ → XX p l e ({ frames := 1, cells := 0, slots := 0, locals := 21 } : Room) s m args below meth c (dC, dI) 81 ad (celC ad cA) 4 (ZZ below args s (dC, dI) 81 ad (celC ad cA) Q) (lay_X2_fit ad h0 a1 a2 a3) P xs ys σ)  (s0 : St) (hv : B_X2_fit_e h0 a1 a2 a3 Q Y  s0) {H : Heap} {locs : List Loc} {ls : Array Slot} (hP : va_P (dC, dI) vwCl (wd 81 ad (celC ad cA) s0) H) (hS : va_S (AA 81 ad s.heap.size) s.heap H locs) (hl : lv_has ls 4 [(0, .ref (ad h0)), (1, .int a1), (2, .int a2), (3, .int a3)]) : W p l e ({ frames := 1, cells := 0, slots := 0, locals := 21 } : Room) s m args below meth c H locs 0 0 (ZZ below args s (dC, dI) 81 ad (celC ad cA) Q) (F0 m 0 ls []) := by
  obtain ⟨hx, hb, hml, hown, hts, hr, hlocks⟩ := C0
  have hD := wd_D (s := s) (cel := celC ad cA) (σ := s0) hi
  unfold B_X2_fit_e at hv
  refine lv_iload_n hx hb dX2_fit_0 rfl (lv_at hl 1 rfl) ?_
  refine lv_iload_n hx hb dX2_fit_1 rfl (lv_at hl 3 rfl) ?_
  refine lv_ishr hx hb dX2_fit_2 ?_
  refine lv_iconst (v := 1) hx hb dX2_fit_3 (by decide) ?_
  refine lv_iand hx hb dX2_fit_4 ?_
  refine lv_iconst (v := 1) hx hb dX2_fit_5 (by decide) ?_
  refine lv_icmp_ne (tgt := 48) hx hb dX2_fit_6 (by decide) (fun c6 => ?_) (fun c6 => ?_)
  · have hv := hv.1 c6
    refine lv_iconst (v := 0) hx hb dX2_fit_48 (by decide) ?_
    exact r_zret hx hb hr hlocks (Or.inl rfl) hv hP hS dX2_fit_49
  · have hv := hv.2 c6
    refine lv_aload_n hx hb dX2_fit_9 rfl (lv_at hl 0 rfl) ?_
    refine r_get hx hb hts (iwX2_fit_X8) hown hK.1 hP h0 (ltSt_0 hh0) (ceSt_0 hh0 (s0 h0)) rfl 1 (by decide) (hts _ kX2_fit_1) (v := .ref (ad (h0 + 2))) rfl dX2_fit_10 ?_
    refine lv_iload_n hx hb dX2_fit_13 rfl (lv_at hl 2 rfl) ?_
    obtain ⟨hin, hv⟩ := hv
    refine r_iald hx hb hK.1 hP (h0 + 2) (ltSt_2 hh0) (ceSt_2 hh0 (s0 (h0 + 2))) hin dX2_fit_14 ?_
    refine lv_aload_n hx hb dX2_fit_15 rfl (lv_at hl 0 rfl) ?_
    refine r_get hx hb hts (iwX2_fit_X8) hown hK.1 hP h0 (ltSt_0 hh0) (ceSt_0 hh0 (s0 h0)) rfl 1 (by decide) (hts _ kX2_fit_1) (v := .ref (ad (h0 + 2))) rfl dX2_fit_16 ?_
    refine lv_iload_n hx hb dX2_fit_19 rfl (lv_at hl 3 rfl) ?_
    obtain ⟨hin, hv⟩ := hv
    refine r_iald hx hb hK.1 hP (h0 + 2) (ltSt_2 hh0) (ceSt_2 hh0 (s0 (h0 + 2))) hin dX2_fit_20 ?_
    refine lv_icmp_ne (tgt := 48) hx hb dX2_fit_21 (by decide) (fun c21 => ?_) (fun c21 => ?_)
    · have hv := hv.1 c21
      refine lv_iconst (v := 0) hx hb dX2_fit_48 (by decide) ?_
      exact r_zret hx hb hr hlocks (Or.inl rfl) hv hP hS dX2_fit_49
    · have hv := hv.2 c21
      refine lv_aload_n hx hb dX2_fit_24 rfl (lv_at hl 0 rfl) ?_
      refine r_get hx hb hts (iwX2_fit_X8) hown hK.1 hP h0 (ltSt_0 hh0) (ceSt_0 hh0 (s0 h0)) rfl 2 (by decide) (hts _ kX2_fit_2) (v := .ref (ad (h0 + 3))) rfl dX2_fit_25 ?_
      refine lv_iload_n hx hb dX2_fit_28 rfl (lv_at hl 2 rfl) ?_
      obtain ⟨hin, hv⟩ := hv
      refine r_iald hx hb hK.1 hP (h0 + 3) (ltSt_3 hh0) (ceSt_3 hh0 (s0 (h0 + 3))) hin dX2_fit_29 ?_
      refine lv_aload_n hx hb dX2_fit_30 rfl (lv_at hl 0 rfl) ?_
      refine r_get hx hb hts (iwX2_fit_X8) hown hK.1 hP h0 (ltSt_0 hh0) (ceSt_0 hh0 (s0 h0)) rfl 2 (by decide) (hts _ kX2_fit_2) (v := .ref (ad (h0 + 3))) rfl dX2_fit_31 ?_
      refine lv_iload_n hx hb dX2_fit_34 rfl (lv_at hl 3 rfl) ?_
      obtain ⟨hin, hv⟩ := hv
      refine r_iald hx hb hK.1 hP (h0 + 3) (ltSt_3 hh0) (ceSt_3 hh0 (s0 (h0 + 3))) hin dX2_fit_35 ?_
      refine lv_isub hx hb dX2_fit_36 ?_
      refine va_mabs hx hb (hml.trans hl.1.symm) hown (hts _ kX2_fit_3) (hts _ kX2_fit_4) (hts _ kX2_fit_5) (hts _ kX2_fit_6) (Nat.le_of_ble_eq_true rfl) (Nat.le_of_ble_eq_true rfl) (Nat.zero_le _) (Nat.zero_le _) dX2_fit_37 ?_
      refine lv_iconst (v := 1) hx hb dX2_fit_40 (by decide) ?_
      refine lv_icmp_gt (tgt := 48) hx hb dX2_fit_41 (by decide) (fun c41 => ?_) (fun c41 => ?_)
      · have hv := hv.1 c41
        refine lv_iconst (v := 0) hx hb dX2_fit_48 (by decide) ?_
        exact r_zret hx hb hr hlocks (Or.inl rfl) hv hP hS dX2_fit_49
      · have hv := hv.2 c41
        refine lv_iconst (v := 1) hx hb dX2_fit_44 (by decide) ?_
        refine lv_goto (tgt := 49) hx hb dX2_fit_45 (by decide) ?_
        exact r_zret hx hb hr hlocks (Or.inr rfl) hv hP hS dX2_fit_49
set_option maxHeartbeats 4000000 in
theorem y_X2_fit {p : Program} {l : Launch} {e : Env} {s : State} {m : MethodId} {args : Array Value} {below : List Frame} {meth : Method} {c : Code} {dC : Nat → ClassId} {dI : Nat → Nat → Nat} {ad : Nat → Nat} {cA cZ : ClassId} (hi : Inj 81 ad) (h0 : Nat) (a1 : Int32) (a2 : Int32) (a3 : Int32) (hh0 : isSt h0) (C0 : Cx cX2_fit RX2 wsX2_fit 4 (some .boolean) p s m args meth c) (hK : KK dC dI cA cZ s) (Q : Int32 → St → Prop) : ∀ P xs ys σ, R_X2_fit h0 a1 a2 a3 Q P xs ys σ → XX p l e ({ frames := 1, cells := 0, slots := 0, locals := 21 } : Room) s m args below meth c (dC, dI) 81 ad (celC ad cA) 4 (ZZ below args s (dC, dI) 81 ad (celC ad cA) Q) (lay_X2_fit ad h0 a1 a2 a3) P xs ys σ := by
  refine Fx.elim _ (fun P xs ys σ Y hY hB => ?_)
  exact hB.elim
set_option maxHeartbeats 4000000 in
theorem c_X2_fit {l : Launch} {dC : Nat → ClassId} {dI : Nat → Nat → Nat} {ad : Nat → Nat} {cA cZ : ClassId} (hi : Inj 81 ad) (h0 : Nat) (a1 : Int32) (a2 : Int32) (a3 : Int32) (hh0 : isSt h0) (s0 : St) (Q : Int32 → St → Prop) (hv : V_X2_fit h0 a1 a2 a3 s0 Q) (sz : Nat) : Met l yX2_fit wsX2_fit ({ frames := 1, cells := 0, slots := 0, locals := 21 } : Room) (va_Pc [.ref (ad h0), .int a1, .int a2, .int a3] (PW dC dI ad cA cZ 81 (celC ad cA) sz s0)) (va_Qi (fun r u => (r = 0 ∨ r = 1) ∧ Q r u) (fun u t => va_P (dC, dI) vwCl (wd 81 ad (celC ad cA) u) t.heap) (AA 81 ad sz)) 0 0 (AA 81 ad sz) := by
  refine Met.ofW (cc := cX2_fit) (maxL := 4) (ret := (some .boolean)) (by decide) rfl ?_
  intro p e s m args below meth c s₁ B hml hv0
  obtain ⟨rfl, hsz, hP, hK⟩ := hv0
  subst hsz
  have C0 : Cx cX2_fit RX2 wsX2_fit 4 (some .boolean) p s m ([.ref (ad h0), .int a1, .int a2, .int a3] : List Value).toArray meth c := ⟨B.exec, B.bytes, hml, findClass_of_methodNamed B.named, atoms_spec (ws := wsX2_fit) B.pre, B.returns, B.notSynchronized⟩
  have hl := lv_entry ([.ref (ad h0), .int a1, .int a2, .int a3]) (n := 4) (Nat.le_of_ble_eq_true rfl)
  rw [lg_entry_eq]
  generalize (lg_sl ([.ref (ad h0), .int a1, .int a2, .int a3]) ++ List.replicate (4 - (lg_sl ([.ref (ad h0), .int a1, .int a2, .int a3])).length) Slot.unset).toArray = ls at hl ⊢
  have hl : lv_has ls 4 [(0, .ref (ad h0)), (1, .int a1), (2, .int a2), (3, .int a3)] := hl
  exact w_X2_fit_e hi h0 a1 a2 a3 hh0 C0 hK Q (R_X2_fit h0 a1 a2 a3 Q) (y_X2_fit hi h0 a1 a2 a3 hh0 C0 hK Q)  s0 hv hP va_S.rf hl
def lay_X2_countAll (ad : Nat → Nat) (h1 : Nat) : Nat → List Int32 → List Int64 → Option (List (Nat × Value) × List Value) := fun P xs ys => match P, xs, ys with
  | 21, [x2], [] => some ([(0, .ref (ad 65)), (1, .ref (ad h1)), (2, .int x2)], [])
  | 61, [x2, x3, x4, x5], [] => some ([(0, .ref (ad 65)), (1, .ref (ad h1)), (2, .int x2), (3, .int x3), (4, .int x4), (5, .int x5)], [])
  | _, _, _ => none
set_option maxHeartbeats 4000000 in
set_option maxRecDepth 100000 in
theorem w_X2_countAll_e {p : Program} {l : Launch} {e : Env} {s : State} {m : MethodId} {args : Array Value} {below : List Frame} {meth : Method} {c : Code} {dC : Nat → ClassId} {dI : Nat → Nat → Nat} {ad : Nat → Nat} {cA cZ : ClassId} (hi : Inj 81 ad) (h1 : Nat) (hh1 : isSt h1) (C0 : Cx cX2_countAll RX2 wsX2_countAll 6 none p s m args meth c) (hK : KK dC dI cA cZ s) (Q : St → Prop) (Y : Nat → List Int32 → List Int64 → St → Prop) (hY : ∀ P xs ys σ, Y P xs ys σ → XX p l e ({ frames := 2, cells := 0, slots := 0, locals := 44 } : Room) s m args below meth c (dC, dI) 81 ad (celC ad cA) 6 (ZV below args s (dC, dI) 81 ad (celC ad cA) Q) (lay_X2_countAll ad h1) P xs ys σ)  (s0 : St) (hv : B_X2_countAll_e h1 Q Y  s0) {H : Heap} {locs : List Loc} {ls : Array Slot} (hP : va_P (dC, dI) vwCl (wd 81 ad (celC ad cA) s0) H) (hS : va_S (AA 81 ad s.heap.size) s.heap H locs) (hl : lv_has ls 6 [(0, .ref (ad 65)), (1, .ref (ad h1))]) : W p l e ({ frames := 2, cells := 0, slots := 0, locals := 44 } : Room) s m args below meth c H locs 0 0 (ZV below args s (dC, dI) 81 ad (celC ad cA) Q) (F0 m 0 ls []) := by
  obtain ⟨hx, hb, hml, hown, hts, hr, hlocks⟩ := C0
  have hD := wd_D (s := s) (cel := celC ad cA) (σ := s0) hi
  unfold B_X2_countAll_e at hv
  refine lv_aload_n hx hb dX2_countAll_0 rfl (lv_at hl 0 rfl) ?_
  refine lv_iconst (v := 1) hx hb dX2_countAll_1 (by decide) ?_
  refine lv_aload_n hx hb dX2_countAll_2 rfl (lv_at hl 1 rfl) ?_
  refine r_get hx hb hts (iwX2_countAll_X8) hown hK.1 hP h1 (ltSt_0 hh1) (ceSt_0 hh1 (s0 h1)) rfl 8 (by decide) (hts _ kX2_countAll_1) (v := .int (s0 h1 8)) rfl dX2_countAll_3 ?_
  refine lv_ishl hx hb dX2_countAll_6 ?_
  refine lv_iconst (v := 1) hx hb dX2_countAll_7 (by decide) ?_
  refine lv_isub hx hb dX2_countAll_8 ?_
  refine r_put hx hb hts (iwX2_countAll_X2) tyX2 tyX2_ok nmX2 hown hK.1 hP hD hS 65 (by decide) (cePg_0 (s0 65)) rfl 1 (by decide) (hts _ kX2_countAll_2) rfl (ty := .int) (v := .int (((1 : Int32) <<< ((s0 h1 8) &&& 31)) - 1)) (by decide +kernel) rfl rfl (Nat.le_of_ble_eq_true rfl) (row := (upd (s0 65) 1 (((1 : Int32) <<< ((s0 h1 8) &&& 31)) - 1))) (by rw [(cePg_0 (upd (s0 65) 1 (((1 : Int32) <<< ((s0 h1 8) &&& 31)) - 1)))]; rfl) dX2_countAll_9 (fun H locs s1 es1 hP hD hS => ?_)
  have hv := hv s1 es1
  refine lv_aload_n hx hb dX2_countAll_12 rfl (lv_at hl 0 rfl) ?_
  refine r_get hx hb hts (iwX2_countAll_X2) hown hK.1 hP 65 (by decide) (cePg_0 (s1 65)) rfl 0 (by decide) (hts _ kX2_countAll_3) (v := .ref (ad 66)) rfl dX2_countAll_13 ?_
  refine lv_iconst (v := 0) hx hb dX2_countAll_16 (by decide) ?_
  refine lv_iconst (v := 0) hx hb dX2_countAll_17 (by decide) ?_
  refine r_iast hx hb hK.1 hP hD hS 66 (by decide) (cePg_1 (s1 66)) (cePg_1 _) (vp_in_of_dec (by decide)) dX2_countAll_18 (fun H locs s2 es2 hP hD hS => ?_)
  have hv := hv s2 es2
  refine lv_iconst (v := 1) hx hb dX2_countAll_19 (by decide) ?_
  refine lv_istore_n (lv' := [(2, .int 1), (0, .ref (ad 65)), (1, .ref (ad h1))]) hx hb dX2_countAll_20 rfl hl (by decide) rfl (fun ls hl => ?_)
  exact hY 21 [1] [] s2 hv _ _ rfl H locs ls hP hS (lv_sub hl [1, 2, 0] rfl)
set_option maxHeartbeats 4000000 in
set_option maxRecDepth 100000 in
theorem w_X2_countAll_21 {p : Program} {l : Launch} {e : Env} {s : State} {m : MethodId} {args : Array Value} {below : List Frame} {meth : Method} {c : Code} {dC : Nat → ClassId} {dI : Nat → Nat → Nat} {ad : Nat → Nat} {cA cZ : ClassId} (hi : Inj 81 ad) (h1 : Nat) (hh1 : isSt h1) (C0 : Cx cX2_countAll RX2 wsX2_countAll 6 none p s m args meth c) (hK : KK dC dI cA cZ s) (Q : St → Prop) (Y : Nat → List Int32 → List Int64 → St → Prop) (hY : ∀ P xs ys σ, Y P xs ys σ → XX p l e ({ frames := 2, cells := 0, slots := 0, locals := 44 } : Room) s m args below meth c (dC, dI) 81 ad (celC ad cA) 6 (ZV below args s (dC, dI) 81 ad (celC ad cA) Q) (lay_X2_countAll ad h1) P xs ys σ) (x2 : Int32) (s0 : St) (hv : B_X2_countAll_21 h1 Q Y x2 s0) {H : Heap} {locs : List Loc} {ls : Array Slot} (hP : va_P (dC, dI) vwCl (wd 81 ad (celC ad cA) s0) H) (hS : va_S (AA 81 ad s.heap.size) s.heap H locs) (hl : lv_has ls 6 [(0, .ref (ad 65)), (1, .ref (ad h1)), (2, .int x2)]) : W p l e ({ frames := 2, cells := 0, slots := 0, locals := 44 } : Room) s m args below meth c H locs 0 0 (ZV below args s (dC, dI) 81 ad (celC ad cA) Q) (F0 m 21 ls []) := by
  obtain ⟨hx, hb, hml, hown, hts, hr, hlocks⟩ := C0
  have hD := wd_D (s := s) (cel := celC ad cA) (σ := s0) hi
  unfold B_X2_countAll_21 at hv
  refine lv_iload_n hx hb dX2_countAll_21 rfl (lv_at hl 2 rfl) ?_
  refine lv_aload_n hx hb dX2_countAll_22 rfl (lv_at hl 0 rfl) ?_
  refine r_get hx hb hts (iwX2_countAll_X2) hown hK.1 hP 65 (by decide) (cePg_0 (s0 65)) rfl 1 (by decide) (hts _ kX2_countAll_2) (v := .int (s0 65 1)) rfl dX2_countAll_23 ?_
  refine lv_icmp_gt (tgt := 125) hx hb dX2_countAll_26 (by decide) (fun c26 => ?_) (fun c26 => ?_)
  · have hv := hv.1 c26
    exact r_vret hx hb hr hlocks hv hP hS dX2_countAll_125
  · have hv := hv.2 c26
    refine lv_iload_n hx hb dX2_countAll_29 rfl (lv_at hl 2 rfl) ?_
    refine r_ci (va_runS (As := [.int x2]) (rest := []) ⟨hx, hb, hml, hown, hts⟩ (c_J6_numberOfTrailingZeros_0f7a4 hi x2 s0 _ hv H.size) (va_cwS 1 hts gX2_countAll_J6_numberOfTrailingZeros_0f7a4 rfl rfl rfl (by decide +kernel) ⟨Nat.le_of_ble_eq_true rfl, Nat.le_of_ble_eq_true rfl⟩) ⟨pre_blind, pre_of hP hK⟩ rfl rfl hl.1 rfl (lv_room (Nat.le_of_ble_eq_true rfl)) dX2_countAll_30 ⟨Nat.zero_le _, Nat.zero_le _⟩) hS (fun r1 s1 H locs hv hP hS => ?_)
    have hD := wd_D (s := s) (cel := celC ad cA) (σ := s1) hi
    refine lv_istore_n (lv' := [(3, .int r1), (0, .ref (ad 65)), (1, .ref (ad h1)), (2, .int x2)]) hx hb dX2_countAll_33 rfl hl (by decide) rfl (fun ls hl => ?_)
    refine lv_iload_n hx hb dX2_countAll_34 rfl (lv_at hl 3 rfl) ?_
    refine lv_iconst (v := 1) hx hb dX2_countAll_35 (by decide) ?_
    refine lv_iload_n hx hb dX2_countAll_36 rfl (lv_at hl 0 rfl) ?_
    refine lv_ishl hx hb dX2_countAll_37 ?_
    refine lv_iconst (v := (-1)) hx hb dX2_countAll_38 (by decide) ?_
    refine lv_ixor hx hb dX2_countAll_39 ?_
    refine lv_iand hx hb dX2_countAll_40 ?_
    refine lv_topi (fun v2 ev2 => ?_)
    have hv := hv v2 ev2
    refine lv_istore (lv' := [(4, .int v2), (3, .int r1), (0, .ref (ad 65)), (1, .ref (ad h1)), (2, .int x2)]) hx hb dX2_countAll_41 hl (by decide) rfl (fun ls hl => ?_)
    refine lv_aload_n hx hb dX2_countAll_43 rfl (lv_at hl 2 rfl) ?_
    refine r_get hx hb hts (iwX2_countAll_X2) hown hK.1 hP 65 (by decide) (cePg_0 (s1 65)) rfl 0 (by decide) (hts _ kX2_countAll_3) (v := .ref (ad 66)) rfl dX2_countAll_44 ?_
    refine lv_iload_n hx hb dX2_countAll_47 rfl (lv_at hl 4 rfl) ?_
    refine lv_aload_n hx hb dX2_countAll_48 rfl (lv_at hl 2 rfl) ?_
    refine r_get hx hb hts (iwX2_countAll_X2) hown hK.1 hP 65 (by decide) (cePg_0 (s1 65)) rfl 0 (by decide) (hts _ kX2_countAll_3) (v := .ref (ad 66)) rfl dX2_countAll_49 ?_
    refine lv_iload hx hb dX2_countAll_52 (lv_at hl 0 rfl) ?_
    obtain ⟨hin, hv⟩ := hv
    refine r_iald hx hb hK.1 hP 66 (by decide) (cePg_1 (s1 66)) hin dX2_countAll_54 ?_
    obtain ⟨hin, hv⟩ := hv
    refine r_iast hx hb hK.1 hP hD hS 66 (by decide) (cePg_1 (s1 66)) (cePg_1 _) hin dX2_countAll_55 (fun H locs s3 es3 hP hD hS => ?_)
    have hv := hv s3 es3
    refine lv_iload_n hx hb dX2_countAll_56 rfl (lv_at hl 1 rfl) ?_
    refine lv_iconst (v := 1) hx hb dX2_countAll_57 (by decide) ?_
    refine lv_iadd hx hb dX2_countAll_58 ?_
    refine lv_istore (lv' := [(5, .int (r1 + 1)), (4, .int v2), (3, .int r1), (0, .ref (ad 65)), (1, .ref (ad h1)), (2, .int x2)]) hx hb dX2_countAll_59 hl (by decide) rfl (fun ls hl => ?_)
    exact hY 61 [x2, r1, v2, r1 + 1] [] s3 hv _ _ rfl H locs ls hP hS (lv_sub hl [3, 4, 5, 2, 1, 0] rfl)
set_option maxHeartbeats 4000000 in
set_option maxRecDepth 100000 in
theorem w_X2_countAll_61 {p : Program} {l : Launch} {e : Env} {s : State} {m : MethodId} {args : Array Value} {below : List Frame} {meth : Method} {c : Code} {dC : Nat → ClassId} {dI : Nat → Nat → Nat} {ad : Nat → Nat} {cA cZ : ClassId} (hi : Inj 81 ad) (h1 : Nat) (hh1 : isSt h1) (C0 : Cx cX2_countAll RX2 wsX2_countAll 6 none p s m args meth c) (hK : KK dC dI cA cZ s) (Q : St → Prop) (Y : Nat → List Int32 → List Int64 → St → Prop) (hY : ∀ P xs ys σ, Y P xs ys σ → XX p l e ({ frames := 2, cells := 0, slots := 0, locals := 44 } : Room) s m args below meth c (dC, dI) 81 ad (celC ad cA) 6 (ZV below args s (dC, dI) 81 ad (celC ad cA) Q) (lay_X2_countAll ad h1) P xs ys σ) (x2 : Int32) (x3 : Int32) (x4 : Int32) (x5 : Int32) (s0 : St) (hv : B_X2_countAll_61 h1 Q Y x2 x3 x4 x5 s0) {H : Heap} {locs : List Loc} {ls : Array Slot} (hP : va_P (dC, dI) vwCl (wd 81 ad (celC ad cA) s0) H) (hS : va_S (AA 81 ad s.heap.size) s.heap H locs) (hl : lv_has ls 6 [(0, .ref (ad 65)), (1, .ref (ad h1)), (2, .int x2), (3, .int x3), (4, .int x4), (5, .int x5)]) : W p l e ({ frames := 2, cells := 0, slots := 0, locals := 44 } : Room) s m args below meth c H locs 0 0 (ZV below args s (dC, dI) 81 ad (celC ad cA) Q) (F0 m 61 ls []) := by
  obtain ⟨hx, hb, hml, hown, hts, hr, hlocks⟩ := C0
  have hD := wd_D (s := s) (cel := celC ad cA) (σ := s0) hi
  unfold B_X2_countAll_61 at hv
  refine lv_iload hx hb dX2_countAll_61 (lv_at hl 5 rfl) ?_
  refine lv_aload_n hx hb dX2_countAll_63 rfl (lv_at hl 1 rfl) ?_
  refine r_get hx hb hts (iwX2_countAll_X8) hown hK.1 hP h1 (ltSt_0 hh1) (ceSt_0 hh1 (s0 h1)) rfl 8 (by decide) (hts _ kX2_countAll_1) (v := .int (s0 h1 8)) rfl dX2_countAll_64 ?_
  refine lv_icmp_ge (tgt := 119) hx hb dX2_countAll_67 (by decide) (fun c67 => ?_) (fun c67 => ?_)
  · have hv := hv.1 c67
    refine lv_iinc (v := x2 + 1) (lv' := [(2, .int (x2 + 1)), (0, .ref (ad 65)), (1, .ref (ad h1)), (3, .int x3), (4, .int x4), (5, .int x5)]) hx hb dX2_countAll_119 hl (k := 2) rfl rfl (by decide) rfl (fun ls hl => ?_)
    refine lv_goto (tgt := 21) hx hb dX2_countAll_122 (by decide) ?_
    exact hY 21 [x2 + 1] [] s0 hv _ _ rfl H locs ls hP hS (lv_sub hl [1, 2, 0] rfl)
  · have hv := hv.2 c67
    refine lv_aload_n hx hb dX2_countAll_70 rfl (lv_at hl 1 rfl) ?_
    refine lv_iload hx hb dX2_countAll_71 (lv_at hl 4 rfl) ?_
    refine lv_iload_n hx hb dX2_countAll_73 rfl (lv_at hl 3 rfl) ?_
    refine lv_iload hx hb dX2_countAll_74 (lv_at hl 5 rfl) ?_
    refine r_ci (va_runS (As := [.ref (ad h1), .int x4, .int x3, .int x5]) (rest := []) ⟨hx, hb, hml, hown, hts⟩ (c_X2_fit hi h1 x4 x3 x5 hh1 s0 _ hv H.size) (va_cwS 4 hts gX2_countAll_X2_fit rfl rfl rfl (by decide +kernel) ⟨Nat.le_of_ble_eq_true rfl, Nat.le_of_ble_eq_true rfl⟩) ⟨pre_blind, pre_of hP hK⟩ rfl rfl hl.1 rfl (lv_room (Nat.le_of_ble_eq_true rfl)) dX2_countAll_76 ⟨Nat.zero_le _, Nat.zero_le _⟩) hS (fun r1 s1 H locs hv hP hS => ?_)
    obtain ⟨hz_r1, hv⟩ := hv
    have hD := wd_D (s := s) (cel := celC ad cA) (σ := s1) hi
    refine lv_if_eq (tgt := 113) hx hb dX2_countAll_79 (by decide) (fun c79 => ?_) (fun c79 => ?_)
    · have hv := hv.1 c79
      refine lv_iinc (v := x5 + 1) (lv' := [(5, .int (x5 + 1)), (0, .ref (ad 65)), (1, .ref (ad h1)), (2, .int x2), (3, .int x3), (4, .int x4)]) hx hb dX2_countAll_113 hl (k := 5) rfl rfl (by decide) rfl (fun ls hl => ?_)
      refine lv_goto (tgt := 61) hx hb dX2_countAll_116 (by decide) ?_
      exact hY 61 [x2, x3, x4, x5 + 1] [] s1 hv _ _ rfl H locs ls hP hS (lv_sub hl [1, 2, 3, 4, 5, 0] rfl)
    · have hv := hv.2 c79
      refine lv_aload_n hx hb dX2_countAll_82 rfl (lv_at hl 0 rfl) ?_
      refine r_get hx hb hts (iwX2_countAll_X2) hown hK.1 hP 65 (by decide) (cePg_0 (s1 65)) rfl 0 (by decide) (hts _ kX2_countAll_3) (v := .ref (ad 66)) rfl dX2_countAll_83 ?_
      refine lv_iload_n hx hb dX2_countAll_86 rfl (lv_at hl 2 rfl) ?_
      refine lv_aload_n hx hb dX2_countAll_87 rfl (lv_at hl 0 rfl) ?_
      refine r_get hx hb hts (iwX2_countAll_X2) hown hK.1 hP 65 (by decide) (cePg_0 (s1 65)) rfl 0 (by decide) (hts _ kX2_countAll_3) (v := .ref (ad 66)) rfl dX2_countAll_88 ?_
      refine lv_iload_n hx hb dX2_countAll_91 rfl (lv_at hl 2 rfl) ?_
      obtain ⟨hin, hv⟩ := hv
      refine r_iald hx hb hK.1 hP 66 (by decide) (cePg_1 (s1 66)) hin dX2_countAll_92 ?_
      refine lv_iconst (v := 1) hx hb dX2_countAll_93 (by decide) ?_
      refine lv_aload_n hx hb dX2_countAll_94 rfl (lv_at hl 0 rfl) ?_
      refine r_get hx hb hts (iwX2_countAll_X2) hown hK.1 hP 65 (by decide) (cePg_0 (s1 65)) rfl 0 (by decide) (hts _ kX2_countAll_3) (v := .ref (ad 66)) rfl dX2_countAll_95 ?_
      refine lv_iload hx hb dX2_countAll_98 (lv_at hl 4 rfl) ?_
      refine lv_iconst (v := 1) hx hb dX2_countAll_100 (by decide) ?_
      refine lv_iload hx hb dX2_countAll_101 (lv_at hl 5 rfl) ?_
      refine lv_ishl hx hb dX2_countAll_103 ?_
      refine lv_iconst (v := (-1)) hx hb dX2_countAll_104 (by decide) ?_
      refine lv_ixor hx hb dX2_countAll_105 ?_
      refine lv_iand hx hb dX2_countAll_106 ?_
      obtain ⟨hin, hv⟩ := hv
      refine r_iald hx hb hK.1 hP 66 (by decide) (cePg_1 (s1 66)) hin dX2_countAll_107 ?_
      refine lv_iadd hx hb dX2_countAll_108 ?_
      refine va_mmax hx hb (hml.trans hl.1.symm) hown (hts _ kX2_countAll_4) (hts _ kX2_countAll_5) (hts _ kX2_countAll_6) (hts _ kX2_countAll_7) (Nat.le_of_ble_eq_true rfl) (Nat.le_of_ble_eq_true rfl) (Nat.zero_le _) (Nat.zero_le _) dX2_countAll_109 ?_
      obtain ⟨hin, hv⟩ := hv
      refine r_iast hx hb hK.1 hP hD hS 66 (by decide) (cePg_1 (s1 66)) (cePg_1 _) hin dX2_countAll_112 (fun H locs s2 es2 hP hD hS => ?_)
      have hv := hv s2 es2
      refine lv_iinc (v := x5 + 1) (lv' := [(5, .int (x5 + 1)), (0, .ref (ad 65)), (1, .ref (ad h1)), (2, .int x2), (3, .int x3), (4, .int x4)]) hx hb dX2_countAll_113 hl (k := 5) rfl rfl (by decide) rfl (fun ls hl => ?_)
      refine lv_goto (tgt := 61) hx hb dX2_countAll_116 (by decide) ?_
      exact hY 61 [x2, x3, x4, x5 + 1] [] s2 hv _ _ rfl H locs ls hP hS (lv_sub hl [1, 2, 3, 4, 5, 0] rfl)
set_option maxHeartbeats 4000000 in
theorem y_X2_countAll {p : Program} {l : Launch} {e : Env} {s : State} {m : MethodId} {args : Array Value} {below : List Frame} {meth : Method} {c : Code} {dC : Nat → ClassId} {dI : Nat → Nat → Nat} {ad : Nat → Nat} {cA cZ : ClassId} (hi : Inj 81 ad) (h1 : Nat) (hh1 : isSt h1) (C0 : Cx cX2_countAll RX2 wsX2_countAll 6 none p s m args meth c) (hK : KK dC dI cA cZ s) (Q : St → Prop) : ∀ P xs ys σ, R_X2_countAll h1 Q P xs ys σ → XX p l e ({ frames := 2, cells := 0, slots := 0, locals := 44 } : Room) s m args below meth c (dC, dI) 81 ad (celC ad cA) 6 (ZV below args s (dC, dI) 81 ad (celC ad cA) Q) (lay_X2_countAll ad h1) P xs ys σ := by
  refine Fx.elim _ (fun P xs ys σ Y hY hB => ?_)
  rcases hB with ⟨rfl, x2, rfl, rfl, hB⟩ | ⟨rfl, x2, x3, x4, x5, rfl, rfl, hB⟩
  · intro lv st he H locs ls hP hS hl
    cases he
    exact w_X2_countAll_21 hi h1 hh1 C0 hK Q Y hY x2 σ hB hP hS hl
  · intro lv st he H locs ls hP hS hl
    cases he
    exact w_X2_countAll_61 hi h1 hh1 C0 hK Q Y hY x2 x3 x4 x5 σ hB hP hS hl
set_option maxHeartbeats 4000000 in
theorem c_X2_countAll {l : Launch} {dC : Nat → ClassId} {dI : Nat → Nat → Nat} {ad : Nat → Nat} {cA cZ : ClassId} (hi : Inj 81 ad) (h1 : Nat) (hh1 : isSt h1) (s0 : St) (Q : St → Prop) (hv : V_X2_countAll h1 s0 Q) (sz : Nat) : Met l yX2_countAll wsX2_countAll ({ frames := 2, cells := 0, slots := 0, locals := 44 } : Room) (va_Pc [.ref (ad 65), .ref (ad h1)] (PW dC dI ad cA cZ 81 (celC ad cA) sz s0)) (va_Qv Q (fun u t => va_P (dC, dI) vwCl (wd 81 ad (celC ad cA) u) t.heap) (AA 81 ad sz)) 0 0 (AA 81 ad sz) := by
  refine Met.ofW (cc := cX2_countAll) (maxL := 6) (ret := none) (by decide) rfl ?_
  intro p e s m args below meth c s₁ B hml hv0
  obtain ⟨rfl, hsz, hP, hK⟩ := hv0
  subst hsz
  have C0 : Cx cX2_countAll RX2 wsX2_countAll 6 none p s m ([.ref (ad 65), .ref (ad h1)] : List Value).toArray meth c := ⟨B.exec, B.bytes, hml, findClass_of_methodNamed B.named, atoms_spec (ws := wsX2_countAll) B.pre, B.returns, B.notSynchronized⟩
  have hl := lv_entry ([.ref (ad 65), .ref (ad h1)]) (n := 6) (Nat.le_of_ble_eq_true rfl)
  rw [lg_entry_eq]
  generalize (lg_sl ([.ref (ad 65), .ref (ad h1)]) ++ List.replicate (6 - (lg_sl ([.ref (ad 65), .ref (ad h1)])).length) Slot.unset).toArray = ls at hl ⊢
  have hl : lv_has ls 6 [(0, .ref (ad 65)), (1, .ref (ad h1))] := hl
  exact w_X2_countAll_e hi h1 hh1 C0 hK Q (R_X2_countAll h1 Q) (y_X2_countAll hi h1 hh1 C0 hK Q)  s0 hv hP va_S.rf hl
def lay_X2_most (ad : Nat → Nat)  : Nat → List Int32 → List Int64 → Option (List (Nat × Value) × List Value) := fun P xs ys => match P, xs, ys with
  | _, _, _ => none
set_option maxHeartbeats 4000000 in
set_option maxRecDepth 100000 in
theorem w_X2_most_e {p : Program} {l : Launch} {e : Env} {s : State} {m : MethodId} {args : Array Value} {below : List Frame} {meth : Method} {c : Code} {dC : Nat → ClassId} {dI : Nat → Nat → Nat} {ad : Nat → Nat} {cA cZ : ClassId} (hi : Inj 81 ad)   (C0 : Cx cX2_most RX2 wsX2_most 1 (some .int) p s m args meth c) (hK : KK dC dI cA cZ s) (Q : Int32 → St → Prop) (Y : Nat → List Int32 → List Int64 → St → Prop) (hY : ∀ P xs ys σ, Y P xs ys σ → XX p l e ({ frames := 0, cells := 0, slots := 0, locals := 0 } : Room) s m args below meth c (dC, dI) 81 ad (celC ad cA) 1 (ZI below args s (dC, dI) 81 ad (celC ad cA) Q) (lay_X2_most ad ) P xs ys σ)  (s0 : St) (hv : B_X2_most_e  Q Y  s0) {H : Heap} {locs : List Loc} {ls : Array Slot} (hP : va_P (dC, dI) vwCl (wd 81 ad (celC ad cA) s0) H) (hS : va_S (AA 81 ad s.heap.size) s.heap H locs) (hl : lv_has ls 1 [(0, .ref (ad 65))]) : W p l e ({ frames := 0, cells := 0, slots := 0, locals := 0 } : Room) s m args below meth c H locs 0 0 (ZI below args s (dC, dI) 81 ad (celC ad cA) Q) (F0 m 0 ls []) := by
  obtain ⟨hx, hb, hml, hown, hts, hr, hlocks⟩ := C0
  have hD := wd_D (s := s) (cel := celC ad cA) (σ := s0) hi
  unfold B_X2_most_e at hv
  refine lv_aload_n hx hb dX2_most_0 rfl (lv_at hl 0 rfl) ?_
  refine r_get hx hb hts (iwX2_most_X2) hown hK.1 hP 65 (by decide) (cePg_0 (s0 65)) rfl 0 (by decide) (hts _ kX2_most_1) (v := .ref (ad 66)) rfl dX2_most_1 ?_
  refine lv_aload_n hx hb dX2_most_4 rfl (lv_at hl 0 rfl) ?_
  refine r_get hx hb hts (iwX2_most_X2) hown hK.1 hP 65 (by decide) (cePg_0 (s0 65)) rfl 1 (by decide) (hts _ kX2_most_2) (v := .int (s0 65 1)) rfl dX2_most_5 ?_
  obtain ⟨hin, hv⟩ := hv
  refine r_iald hx hb hK.1 hP 66 (by decide) (cePg_1 (s0 66)) hin dX2_most_8 ?_
  exact r_iret hx hb hr hlocks hv hP hS dX2_most_9
set_option maxHeartbeats 4000000 in
theorem y_X2_most {p : Program} {l : Launch} {e : Env} {s : State} {m : MethodId} {args : Array Value} {below : List Frame} {meth : Method} {c : Code} {dC : Nat → ClassId} {dI : Nat → Nat → Nat} {ad : Nat → Nat} {cA cZ : ClassId} (hi : Inj 81 ad)   (C0 : Cx cX2_most RX2 wsX2_most 1 (some .int) p s m args meth c) (hK : KK dC dI cA cZ s) (Q : Int32 → St → Prop) : ∀ P xs ys σ, R_X2_most  Q P xs ys σ → XX p l e ({ frames := 0, cells := 0, slots := 0, locals := 0 } : Room) s m args below meth c (dC, dI) 81 ad (celC ad cA) 1 (ZI below args s (dC, dI) 81 ad (celC ad cA) Q) (lay_X2_most ad ) P xs ys σ := by
  refine Fx.elim _ (fun P xs ys σ Y hY hB => ?_)
  exact hB.elim
set_option maxHeartbeats 4000000 in
theorem c_X2_most {l : Launch} {dC : Nat → ClassId} {dI : Nat → Nat → Nat} {ad : Nat → Nat} {cA cZ : ClassId} (hi : Inj 81 ad)   (s0 : St) (Q : Int32 → St → Prop) (hv : V_X2_most  s0 Q) (sz : Nat) : Met l yX2_most wsX2_most ({ frames := 0, cells := 0, slots := 0, locals := 0 } : Room) (va_Pc [.ref (ad 65)] (PW dC dI ad cA cZ 81 (celC ad cA) sz s0)) (va_Qi Q (fun u t => va_P (dC, dI) vwCl (wd 81 ad (celC ad cA) u) t.heap) (AA 81 ad sz)) 0 0 (AA 81 ad sz) := by
  refine Met.ofW (cc := cX2_most) (maxL := 1) (ret := (some .int)) (by decide) rfl ?_
  intro p e s m args below meth c s₁ B hml hv0
  obtain ⟨rfl, hsz, hP, hK⟩ := hv0
  subst hsz
  have C0 : Cx cX2_most RX2 wsX2_most 1 (some .int) p s m ([.ref (ad 65)] : List Value).toArray meth c := ⟨B.exec, B.bytes, hml, findClass_of_methodNamed B.named, atoms_spec (ws := wsX2_most) B.pre, B.returns, B.notSynchronized⟩
  have hl := lv_entry ([.ref (ad 65)]) (n := 1) (Nat.le_of_ble_eq_true rfl)
  rw [lg_entry_eq]
  generalize (lg_sl ([.ref (ad 65)]) ++ List.replicate (1 - (lg_sl ([.ref (ad 65)])).length) Slot.unset).toArray = ls at hl ⊢
  have hl : lv_has ls 1 [(0, .ref (ad 65))] := hl
  exact w_X2_most_e hi   C0 hK Q (R_X2_most  Q) (y_X2_most hi   C0 hK Q)  s0 hv hP va_S.rf hl
def lay_X2_firstPartner (ad : Nat → Nat) (h1 : Nat) (a2 : Int32) (a3 : Int32) : Nat → List Int32 → List Int64 → Option (List (Nat × Value) × List Value) := fun P xs ys => match P, xs, ys with
  | 32, [x4, x5], [] => some ([(0, .ref (ad 65)), (1, .ref (ad h1)), (2, .int a2), (3, .int a3), (4, .int x4), (5, .int x5)], [])
  | _, _, _ => none
set_option maxHeartbeats 4000000 in
set_option maxRecDepth 100000 in
theorem w_X2_firstPartner_e {p : Program} {l : Launch} {e : Env} {s : State} {m : MethodId} {args : Array Value} {below : List Frame} {meth : Method} {c : Code} {dC : Nat → ClassId} {dI : Nat → Nat → Nat} {ad : Nat → Nat} {cA cZ : ClassId} (hi : Inj 81 ad) (h1 : Nat) (a2 : Int32) (a3 : Int32) (hh1 : isSt h1) (C0 : Cx cX2_firstPartner RX2 wsX2_firstPartner 6 (some .int) p s m args meth c) (hK : KK dC dI cA cZ s) (Q : Int32 → St → Prop) (Y : Nat → List Int32 → List Int64 → St → Prop) (hY : ∀ P xs ys σ, Y P xs ys σ → XX p l e ({ frames := 2, cells := 0, slots := 0, locals := 44 } : Room) s m args below meth c (dC, dI) 81 ad (celC ad cA) 6 (ZI below args s (dC, dI) 81 ad (celC ad cA) Q) (lay_X2_firstPartner ad h1 a2 a3) P xs ys σ)  (s0 : St) (hv : B_X2_firstPartner_e h1 a2 a3 Q Y  s0) {H : Heap} {locs : List Loc} {ls : Array Slot} (hP : va_P (dC, dI) vwCl (wd 81 ad (celC ad cA) s0) H) (hS : va_S (AA 81 ad s.heap.size) s.heap H locs) (hl : lv_has ls 6 [(0, .ref (ad 65)), (1, .ref (ad h1)), (2, .int a2), (3, .int a3)]) : W p l e ({ frames := 2, cells := 0, slots := 0, locals := 44 } : Room) s m args below meth c H locs 0 0 (ZI below args s (dC, dI) 81 ad (celC ad cA) Q) (F0 m 0 ls []) := by
  obtain ⟨hx, hb, hml, hown, hts, hr, hlocks⟩ := C0
  have hD := wd_D (s := s) (cel := celC ad cA) (σ := s0) hi
  unfold B_X2_firstPartner_e at hv
  refine lv_iload_n hx hb dX2_firstPartner_0 rfl (lv_at hl 2 rfl) ?_
  refine lv_iconst (v := 1) hx hb dX2_firstPartner_1 (by decide) ?_
  refine lv_iload_n hx hb dX2_firstPartner_2 rfl (lv_at hl 3 rfl) ?_
  refine lv_ishl hx hb dX2_firstPartner_3 ?_
  refine lv_iconst (v := (-1)) hx hb dX2_firstPartner_4 (by decide) ?_
  refine lv_ixor hx hb dX2_firstPartner_5 ?_
  refine lv_iand hx hb dX2_firstPartner_6 ?_
  refine lv_topi (fun v1 ev1 => ?_)
  have hv := hv v1 ev1
  refine lv_istore (lv' := [(4, .int v1), (0, .ref (ad 65)), (1, .ref (ad h1)), (2, .int a2), (3, .int a3)]) hx hb dX2_firstPartner_7 hl (by decide) rfl (fun ls hl => ?_)
  refine lv_aload_n hx hb dX2_firstPartner_9 rfl (lv_at hl 1 rfl) ?_
  refine r_get hx hb hts (iwX2_firstPartner_X2) hown hK.1 hP 65 (by decide) (cePg_0 (s0 65)) rfl 0 (by decide) (hts _ kX2_firstPartner_1) (v := .ref (ad 66)) rfl dX2_firstPartner_10 ?_
  refine lv_iload hx hb dX2_firstPartner_13 (lv_at hl 0 rfl) ?_
  obtain ⟨hin, hv⟩ := hv
  refine r_iald hx hb hK.1 hP 66 (by decide) (cePg_1 (s0 66)) hin dX2_firstPartner_15 ?_
  refine lv_aload_n hx hb dX2_firstPartner_16 rfl (lv_at hl 1 rfl) ?_
  refine r_get hx hb hts (iwX2_firstPartner_X2) hown hK.1 hP 65 (by decide) (cePg_0 (s0 65)) rfl 0 (by decide) (hts _ kX2_firstPartner_1) (v := .ref (ad 66)) rfl dX2_firstPartner_17 ?_
  refine lv_iload_n hx hb dX2_firstPartner_20 rfl (lv_at hl 3 rfl) ?_
  obtain ⟨hin, hv⟩ := hv
  refine r_iald hx hb hK.1 hP 66 (by decide) (cePg_1 (s0 66)) hin dX2_firstPartner_21 ?_
  refine lv_icmp_ne (tgt := 27) hx hb dX2_firstPartner_22 (by decide) (fun c22 => ?_) (fun c22 => ?_)
  · have hv := hv.1 c22
    refine lv_iload_n hx hb dX2_firstPartner_27 rfl (lv_at hl 4 rfl) ?_
    refine lv_iconst (v := 1) hx hb dX2_firstPartner_28 (by decide) ?_
    refine lv_iadd hx hb dX2_firstPartner_29 ?_
    refine lv_istore (lv' := [(5, .int (a3 + 1)), (4, .int v1), (0, .ref (ad 65)), (1, .ref (ad h1)), (2, .int a2), (3, .int a3)]) hx hb dX2_firstPartner_30 hl (by decide) rfl (fun ls hl => ?_)
    exact hY 32 [v1, a3 + 1] [] s0 hv _ _ rfl H locs ls hP hS (lv_sub hl [2, 3, 4, 5, 1, 0] rfl)
  · have hv := hv.2 c22
    refine lv_iconst (v := (-1)) hx hb dX2_firstPartner_25 (by decide) ?_
    exact r_iret hx hb hr hlocks hv hP hS dX2_firstPartner_26
set_option maxHeartbeats 4000000 in
set_option maxRecDepth 100000 in
theorem w_X2_firstPartner_32 {p : Program} {l : Launch} {e : Env} {s : State} {m : MethodId} {args : Array Value} {below : List Frame} {meth : Method} {c : Code} {dC : Nat → ClassId} {dI : Nat → Nat → Nat} {ad : Nat → Nat} {cA cZ : ClassId} (hi : Inj 81 ad) (h1 : Nat) (a2 : Int32) (a3 : Int32) (hh1 : isSt h1) (C0 : Cx cX2_firstPartner RX2 wsX2_firstPartner 6 (some .int) p s m args meth c) (hK : KK dC dI cA cZ s) (Q : Int32 → St → Prop) (Y : Nat → List Int32 → List Int64 → St → Prop) (hY : ∀ P xs ys σ, Y P xs ys σ → XX p l e ({ frames := 2, cells := 0, slots := 0, locals := 44 } : Room) s m args below meth c (dC, dI) 81 ad (celC ad cA) 6 (ZI below args s (dC, dI) 81 ad (celC ad cA) Q) (lay_X2_firstPartner ad h1 a2 a3) P xs ys σ) (x4 : Int32) (x5 : Int32) (s0 : St) (hv : B_X2_firstPartner_32 h1 a2 a3 Q Y x4 x5 s0) {H : Heap} {locs : List Loc} {ls : Array Slot} (hP : va_P (dC, dI) vwCl (wd 81 ad (celC ad cA) s0) H) (hS : va_S (AA 81 ad s.heap.size) s.heap H locs) (hl : lv_has ls 6 [(0, .ref (ad 65)), (1, .ref (ad h1)), (2, .int a2), (3, .int a3), (4, .int x4), (5, .int x5)]) : W p l e ({ frames := 2, cells := 0, slots := 0, locals := 44 } : Room) s m args below meth c H locs 0 0 (ZI below args s (dC, dI) 81 ad (celC ad cA) Q) (F0 m 32 ls []) := by
  obtain ⟨hx, hb, hml, hown, hts, hr, hlocks⟩ := C0
  have hD := wd_D (s := s) (cel := celC ad cA) (σ := s0) hi
  unfold B_X2_firstPartner_32 at hv
  refine lv_iload hx hb dX2_firstPartner_32 (lv_at hl 5 rfl) ?_
  refine lv_aload_n hx hb dX2_firstPartner_34 rfl (lv_at hl 1 rfl) ?_
  refine r_get hx hb hts (iwX2_firstPartner_X8) hown hK.1 hP h1 (ltSt_0 hh1) (ceSt_0 hh1 (s0 h1)) rfl 8 (by decide) (hts _ kX2_firstPartner_2) (v := .int (s0 h1 8)) rfl dX2_firstPartner_35 ?_
  refine lv_icmp_ge (tgt := 87) hx hb dX2_firstPartner_38 (by decide) (fun c38 => ?_) (fun c38 => ?_)
  · have hv := hv.1 c38
    refine lv_iconst (v := (-1)) hx hb dX2_firstPartner_87 (by decide) ?_
    exact r_iret hx hb hr hlocks hv hP hS dX2_firstPartner_88
  · have hv := hv.2 c38
    refine lv_aload_n hx hb dX2_firstPartner_41 rfl (lv_at hl 1 rfl) ?_
    refine lv_iload hx hb dX2_firstPartner_42 (lv_at hl 4 rfl) ?_
    refine lv_iload_n hx hb dX2_firstPartner_44 rfl (lv_at hl 3 rfl) ?_
    refine lv_iload hx hb dX2_firstPartner_45 (lv_at hl 5 rfl) ?_
    refine r_ci (va_runS (As := [.ref (ad h1), .int x4, .int a3, .int x5]) (rest := []) ⟨hx, hb, hml, hown, hts⟩ (c_X2_fit hi h1 x4 a3 x5 hh1 s0 _ hv H.size) (va_cwS 4 hts gX2_firstPartner_X2_fit rfl rfl rfl (by decide +kernel) ⟨Nat.le_of_ble_eq_true rfl, Nat.le_of_ble_eq_true rfl⟩) ⟨pre_blind, pre_of hP hK⟩ rfl rfl hl.1 rfl (lv_room (Nat.le_of_ble_eq_true rfl)) dX2_firstPartner_47 ⟨Nat.zero_le _, Nat.zero_le _⟩) hS (fun r1 s1 H locs hv hP hS => ?_)
    obtain ⟨hz_r1, hv⟩ := hv
    have hD := wd_D (s := s) (cel := celC ad cA) (σ := s1) hi
    refine lv_if_eq (tgt := 81) hx hb dX2_firstPartner_50 (by decide) (fun c50 => ?_) (fun c50 => ?_)
    · have hv := hv.1 c50
      refine lv_iinc (v := x5 + 1) (lv' := [(5, .int (x5 + 1)), (0, .ref (ad 65)), (1, .ref (ad h1)), (2, .int a2), (3, .int a3), (4, .int x4)]) hx hb dX2_firstPartner_81 hl (k := 5) rfl rfl (by decide) rfl (fun ls hl => ?_)
      refine lv_goto (tgt := 32) hx hb dX2_firstPartner_84 (by decide) ?_
      exact hY 32 [x4, x5 + 1] [] s1 hv _ _ rfl H locs ls hP hS (lv_sub hl [1, 2, 3, 4, 5, 0] rfl)
    · have hv := hv.2 c50
      refine lv_iconst (v := 1) hx hb dX2_firstPartner_53 (by decide) ?_
      refine lv_aload_n hx hb dX2_firstPartner_54 rfl (lv_at hl 0 rfl) ?_
      refine r_get hx hb hts (iwX2_firstPartner_X2) hown hK.1 hP 65 (by decide) (cePg_0 (s1 65)) rfl 0 (by decide) (hts _ kX2_firstPartner_1) (v := .ref (ad 66)) rfl dX2_firstPartner_55 ?_
      refine lv_iload hx hb dX2_firstPartner_58 (lv_at hl 4 rfl) ?_
      refine lv_iconst (v := 1) hx hb dX2_firstPartner_60 (by decide) ?_
      refine lv_iload hx hb dX2_firstPartner_61 (lv_at hl 5 rfl) ?_
      refine lv_ishl hx hb dX2_firstPartner_63 ?_
      refine lv_iconst (v := (-1)) hx hb dX2_firstPartner_64 (by decide) ?_
      refine lv_ixor hx hb dX2_firstPartner_65 ?_
      refine lv_iand hx hb dX2_firstPartner_66 ?_
      obtain ⟨hin, hv⟩ := hv
      refine r_iald hx hb hK.1 hP 66 (by decide) (cePg_1 (s1 66)) hin dX2_firstPartner_67 ?_
      refine lv_iadd hx hb dX2_firstPartner_68 ?_
      refine lv_aload_n hx hb dX2_firstPartner_69 rfl (lv_at hl 0 rfl) ?_
      refine r_get hx hb hts (iwX2_firstPartner_X2) hown hK.1 hP 65 (by decide) (cePg_0 (s1 65)) rfl 0 (by decide) (hts _ kX2_firstPartner_1) (v := .ref (ad 66)) rfl dX2_firstPartner_70 ?_
      refine lv_iload_n hx hb dX2_firstPartner_73 rfl (lv_at hl 2 rfl) ?_
      obtain ⟨hin, hv⟩ := hv
      refine r_iald hx hb hK.1 hP 66 (by decide) (cePg_1 (s1 66)) hin dX2_firstPartner_74 ?_
      refine lv_icmp_ne (tgt := 81) hx hb dX2_firstPartner_75 (by decide) (fun c75 => ?_) (fun c75 => ?_)
      · have hv := hv.1 c75
        refine lv_iinc (v := x5 + 1) (lv' := [(5, .int (x5 + 1)), (0, .ref (ad 65)), (1, .ref (ad h1)), (2, .int a2), (3, .int a3), (4, .int x4)]) hx hb dX2_firstPartner_81 hl (k := 5) rfl rfl (by decide) rfl (fun ls hl => ?_)
        refine lv_goto (tgt := 32) hx hb dX2_firstPartner_84 (by decide) ?_
        exact hY 32 [x4, x5 + 1] [] s1 hv _ _ rfl H locs ls hP hS (lv_sub hl [1, 2, 3, 4, 5, 0] rfl)
      · have hv := hv.2 c75
        refine lv_iload hx hb dX2_firstPartner_78 (lv_at hl 5 rfl) ?_
        exact r_iret hx hb hr hlocks hv hP hS dX2_firstPartner_80
set_option maxHeartbeats 4000000 in
theorem y_X2_firstPartner {p : Program} {l : Launch} {e : Env} {s : State} {m : MethodId} {args : Array Value} {below : List Frame} {meth : Method} {c : Code} {dC : Nat → ClassId} {dI : Nat → Nat → Nat} {ad : Nat → Nat} {cA cZ : ClassId} (hi : Inj 81 ad) (h1 : Nat) (a2 : Int32) (a3 : Int32) (hh1 : isSt h1) (C0 : Cx cX2_firstPartner RX2 wsX2_firstPartner 6 (some .int) p s m args meth c) (hK : KK dC dI cA cZ s) (Q : Int32 → St → Prop) : ∀ P xs ys σ, R_X2_firstPartner h1 a2 a3 Q P xs ys σ → XX p l e ({ frames := 2, cells := 0, slots := 0, locals := 44 } : Room) s m args below meth c (dC, dI) 81 ad (celC ad cA) 6 (ZI below args s (dC, dI) 81 ad (celC ad cA) Q) (lay_X2_firstPartner ad h1 a2 a3) P xs ys σ := by
  refine Fx.elim _ (fun P xs ys σ Y hY hB => ?_)
  rcases hB with ⟨rfl, x4, x5, rfl, rfl, hB⟩
  · intro lv st he H locs ls hP hS hl
    cases he
    exact w_X2_firstPartner_32 hi h1 a2 a3 hh1 C0 hK Q Y hY x4 x5 σ hB hP hS hl
set_option maxHeartbeats 4000000 in
theorem c_X2_firstPartner {l : Launch} {dC : Nat → ClassId} {dI : Nat → Nat → Nat} {ad : Nat → Nat} {cA cZ : ClassId} (hi : Inj 81 ad) (h1 : Nat) (a2 : Int32) (a3 : Int32) (hh1 : isSt h1) (s0 : St) (Q : Int32 → St → Prop) (hv : V_X2_firstPartner h1 a2 a3 s0 Q) (sz : Nat) : Met l yX2_firstPartner wsX2_firstPartner ({ frames := 2, cells := 0, slots := 0, locals := 44 } : Room) (va_Pc [.ref (ad 65), .ref (ad h1), .int a2, .int a3] (PW dC dI ad cA cZ 81 (celC ad cA) sz s0)) (va_Qi Q (fun u t => va_P (dC, dI) vwCl (wd 81 ad (celC ad cA) u) t.heap) (AA 81 ad sz)) 0 0 (AA 81 ad sz) := by
  refine Met.ofW (cc := cX2_firstPartner) (maxL := 6) (ret := (some .int)) (by decide) rfl ?_
  intro p e s m args below meth c s₁ B hml hv0
  obtain ⟨rfl, hsz, hP, hK⟩ := hv0
  subst hsz
  have C0 : Cx cX2_firstPartner RX2 wsX2_firstPartner 6 (some .int) p s m ([.ref (ad 65), .ref (ad h1), .int a2, .int a3] : List Value).toArray meth c := ⟨B.exec, B.bytes, hml, findClass_of_methodNamed B.named, atoms_spec (ws := wsX2_firstPartner) B.pre, B.returns, B.notSynchronized⟩
  have hl := lv_entry ([.ref (ad 65), .ref (ad h1), .int a2, .int a3]) (n := 6) (Nat.le_of_ble_eq_true rfl)
  rw [lg_entry_eq]
  generalize (lg_sl ([.ref (ad 65), .ref (ad h1), .int a2, .int a3]) ++ List.replicate (6 - (lg_sl ([.ref (ad 65), .ref (ad h1), .int a2, .int a3])).length) Slot.unset).toArray = ls at hl ⊢
  have hl : lv_has ls 6 [(0, .ref (ad 65)), (1, .ref (ad h1)), (2, .int a2), (3, .int a3)] := hl
  exact w_X2_firstPartner_e hi h1 a2 a3 hh1 C0 hK Q (R_X2_firstPartner h1 a2 a3 Q) (y_X2_firstPartner hi h1 a2 a3 hh1 C0 hK Q)  s0 hv hP va_S.rf hl
def lay_X2_without (ad : Nat → Nat) (a0 : Int32) (a1 : Int32) (a2 : Int32) : Nat → List Int32 → List Int64 → Option (List (Nat × Value) × List Value) := fun P xs ys => match P, xs, ys with
  | _, _, _ => none
set_option maxHeartbeats 4000000 in
set_option maxRecDepth 100000 in
theorem w_X2_without_e {p : Program} {l : Launch} {e : Env} {s : State} {m : MethodId} {args : Array Value} {below : List Frame} {meth : Method} {c : Code} {dC : Nat → ClassId} {dI : Nat → Nat → Nat} {ad : Nat → Nat} {cA cZ : ClassId} (hi : Inj 81 ad) (a0 : Int32) (a1 : Int32) (a2 : Int32)  (C0 : Cx cX2_without RX2 wsX2_without 4 (some .int) p s m args meth c) (hK : KK dC dI cA cZ s) (Q : Int32 → St → Prop) (Y : Nat → List Int32 → List Int64 → St → Prop) (hY : ∀ P xs ys σ, Y P xs ys σ → XX p l e ({ frames := 0, cells := 0, slots := 0, locals := 0 } : Room) s m args below meth c (dC, dI) 81 ad (celC ad cA) 4 (ZI below args s (dC, dI) 81 ad (celC ad cA) Q) (lay_X2_without ad a0 a1 a2) P xs ys σ)  (s0 : St) (hv : B_X2_without_e a0 a1 a2 Q Y  s0) {H : Heap} {locs : List Loc} {ls : Array Slot} (hP : va_P (dC, dI) vwCl (wd 81 ad (celC ad cA) s0) H) (hS : va_S (AA 81 ad s.heap.size) s.heap H locs) (hl : lv_has ls 4 [(0, .int a0), (1, .int a1), (2, .int a2)]) : W p l e ({ frames := 0, cells := 0, slots := 0, locals := 0 } : Room) s m args below meth c H locs 0 0 (ZI below args s (dC, dI) 81 ad (celC ad cA) Q) (F0 m 0 ls []) := by
  obtain ⟨hx, hb, hml, hown, hts, hr, hlocks⟩ := C0
  have hD := wd_D (s := s) (cel := celC ad cA) (σ := s0) hi
  unfold B_X2_without_e at hv
  refine lv_iload_n hx hb dX2_without_0 rfl (lv_at hl 0 rfl) ?_
  refine lv_iconst (v := 1) hx hb dX2_without_1 (by decide) ?_
  refine lv_iload_n hx hb dX2_without_2 rfl (lv_at hl 1 rfl) ?_
  refine lv_ishl hx hb dX2_without_3 ?_
  refine lv_iconst (v := (-1)) hx hb dX2_without_4 (by decide) ?_
  refine lv_ixor hx hb dX2_without_5 ?_
  refine lv_iand hx hb dX2_without_6 ?_
  refine lv_topi (fun v1 ev1 => ?_)
  have hv := hv v1 ev1
  refine lv_istore_n (lv' := [(3, .int v1), (0, .int a0), (1, .int a1), (2, .int a2)]) hx hb dX2_without_7 rfl hl (by decide) rfl (fun ls hl => ?_)
  refine lv_iload_n hx hb dX2_without_8 rfl (lv_at hl 3 rfl) ?_
  refine lv_iconst (v := (-1)) hx hb dX2_without_9 (by decide) ?_
  refine lv_icmp_ne (tgt := 17) hx hb dX2_without_10 (by decide) (fun c10 => ?_) (fun c10 => ?_)
  · have hv := hv.1 c10
    refine lv_iload_n hx hb dX2_without_17 rfl (lv_at hl 0 rfl) ?_
    refine lv_iconst (v := 1) hx hb dX2_without_18 (by decide) ?_
    refine lv_iload_n hx hb dX2_without_19 rfl (lv_at hl 3 rfl) ?_
    refine lv_ishl hx hb dX2_without_20 ?_
    refine lv_iconst (v := (-1)) hx hb dX2_without_21 (by decide) ?_
    refine lv_ixor hx hb dX2_without_22 ?_
    refine lv_iand hx hb dX2_without_23 ?_
    exact r_iret hx hb hr hlocks hv hP hS dX2_without_24
  · have hv := hv.2 c10
    refine lv_iload_n hx hb dX2_without_13 rfl (lv_at hl 0 rfl) ?_
    refine lv_goto (tgt := 24) hx hb dX2_without_14 (by decide) ?_
    exact r_iret hx hb hr hlocks hv hP hS dX2_without_24
set_option maxHeartbeats 4000000 in
theorem y_X2_without {p : Program} {l : Launch} {e : Env} {s : State} {m : MethodId} {args : Array Value} {below : List Frame} {meth : Method} {c : Code} {dC : Nat → ClassId} {dI : Nat → Nat → Nat} {ad : Nat → Nat} {cA cZ : ClassId} (hi : Inj 81 ad) (a0 : Int32) (a1 : Int32) (a2 : Int32)  (C0 : Cx cX2_without RX2 wsX2_without 4 (some .int) p s m args meth c) (hK : KK dC dI cA cZ s) (Q : Int32 → St → Prop) : ∀ P xs ys σ, R_X2_without a0 a1 a2 Q P xs ys σ → XX p l e ({ frames := 0, cells := 0, slots := 0, locals := 0 } : Room) s m args below meth c (dC, dI) 81 ad (celC ad cA) 4 (ZI below args s (dC, dI) 81 ad (celC ad cA) Q) (lay_X2_without ad a0 a1 a2) P xs ys σ := by
  refine Fx.elim _ (fun P xs ys σ Y hY hB => ?_)
  exact hB.elim
set_option maxHeartbeats 4000000 in
theorem c_X2_without {l : Launch} {dC : Nat → ClassId} {dI : Nat → Nat → Nat} {ad : Nat → Nat} {cA cZ : ClassId} (hi : Inj 81 ad) (a0 : Int32) (a1 : Int32) (a2 : Int32)  (s0 : St) (Q : Int32 → St → Prop) (hv : V_X2_without a0 a1 a2 s0 Q) (sz : Nat) : Met l yX2_without wsX2_without ({ frames := 0, cells := 0, slots := 0, locals := 0 } : Room) (va_Pc [.int a0, .int a1, .int a2] (PW dC dI ad cA cZ 81 (celC ad cA) sz s0)) (va_Qi Q (fun u t => va_P (dC, dI) vwCl (wd 81 ad (celC ad cA) u) t.heap) (AA 81 ad sz)) 0 0 (AA 81 ad sz) := by
  refine Met.ofW (cc := cX2_without) (maxL := 4) (ret := (some .int)) (by decide) rfl ?_
  intro p e s m args below meth c s₁ B hml hv0
  obtain ⟨rfl, hsz, hP, hK⟩ := hv0
  subst hsz
  have C0 : Cx cX2_without RX2 wsX2_without 4 (some .int) p s m ([.int a0, .int a1, .int a2] : List Value).toArray meth c := ⟨B.exec, B.bytes, hml, findClass_of_methodNamed B.named, atoms_spec (ws := wsX2_without) B.pre, B.returns, B.notSynchronized⟩
  have hl := lv_entry ([.int a0, .int a1, .int a2]) (n := 4) (Nat.le_of_ble_eq_true rfl)
  rw [lg_entry_eq]
  generalize (lg_sl ([.int a0, .int a1, .int a2]) ++ List.replicate (4 - (lg_sl ([.int a0, .int a1, .int a2])).length) Slot.unset).toArray = ls at hl ⊢
  have hl : lv_has ls 4 [(0, .int a0), (1, .int a1), (2, .int a2)] := hl
  exact w_X2_without_e hi a0 a1 a2  C0 hK Q (R_X2_without a0 a1 a2 Q) (y_X2_without hi a0 a1 a2  C0 hK Q)  s0 hv hP va_S.rf hl
def lay_X2_partner (ad : Nat → Nat) (h1 : Nat) (a2 : Int32) : Nat → List Int32 → List Int64 → Option (List (Nat × Value) × List Value) := fun P xs ys => match P, xs, ys with
  | 8, [x3, x4], [] => some ([(0, .ref (ad 65)), (1, .ref (ad h1)), (2, .int a2), (3, .int x3), (4, .int x4)], [])
  | _, _, _ => none
set_option maxHeartbeats 4000000 in
set_option maxRecDepth 100000 in
theorem w_X2_partner_e {p : Program} {l : Launch} {e : Env} {s : State} {m : MethodId} {args : Array Value} {below : List Frame} {meth : Method} {c : Code} {dC : Nat → ClassId} {dI : Nat → Nat → Nat} {ad : Nat → Nat} {cA cZ : ClassId} (hi : Inj 81 ad) (h1 : Nat) (a2 : Int32) (hh1 : isSt h1) (C0 : Cx cX2_partner RX2 wsX2_partner 6 (some .int) p s m args meth c) (hK : KK dC dI cA cZ s) (Q : Int32 → St → Prop) (Y : Nat → List Int32 → List Int64 → St → Prop) (hY : ∀ P xs ys σ, Y P xs ys σ → XX p l e ({ frames := 3, cells := 0, slots := 0, locals := 69 } : Room) s m args below meth c (dC, dI) 81 ad (celC ad cA) 6 (ZI below args s (dC, dI) 81 ad (celC ad cA) Q) (lay_X2_partner ad h1 a2) P xs ys σ)  (s0 : St) (hv : B_X2_partner_e h1 a2 Q Y  s0) {H : Heap} {locs : List Loc} {ls : Array Slot} (hP : va_P (dC, dI) vwCl (wd 81 ad (celC ad cA) s0) H) (hS : va_S (AA 81 ad s.heap.size) s.heap H locs) (hl : lv_has ls 6 [(0, .ref (ad 65)), (1, .ref (ad h1)), (2, .int a2)]) : W p l e ({ frames := 3, cells := 0, slots := 0, locals := 69 } : Room) s m args below meth c H locs 0 0 (ZI below args s (dC, dI) 81 ad (celC ad cA) Q) (F0 m 0 ls []) := by
  obtain ⟨hx, hb, hml, hown, hts, hr, hlocks⟩ := C0
  have hD := wd_D (s := s) (cel := celC ad cA) (σ := s0) hi
  unfold B_X2_partner_e at hv
  refine lv_aload_n hx hb dX2_partner_0 rfl (lv_at hl 0 rfl) ?_
  refine r_get hx hb hts (iwX2_partner_X2) hown hK.1 hP 65 (by decide) (cePg_0 (s0 65)) rfl 1 (by decide) (hts _ kX2_partner_1) (v := .int (s0 65 1)) rfl dX2_partner_1 ?_
  refine lv_istore_n (lv' := [(3, .int (s0 65 1)), (0, .ref (ad 65)), (1, .ref (ad h1)), (2, .int a2)]) hx hb dX2_partner_4 rfl hl (by decide) rfl (fun ls hl => ?_)
  refine lv_iconst (v := 0) hx hb dX2_partner_5 (by decide) ?_
  refine lv_istore (lv' := [(4, .int 0), (3, .int (s0 65 1)), (0, .ref (ad 65)), (1, .ref (ad h1)), (2, .int a2)]) hx hb dX2_partner_6 hl (by decide) rfl (fun ls hl => ?_)
  exact hY 8 [s0 65 1, 0] [] s0 hv _ _ rfl H locs ls hP hS (lv_sub hl [2, 3, 4, 1, 0] rfl)
set_option maxHeartbeats 4000000 in
set_option maxRecDepth 100000 in
theorem w_X2_partner_8 {p : Program} {l : Launch} {e : Env} {s : State} {m : MethodId} {args : Array Value} {below : List Frame} {meth : Method} {c : Code} {dC : Nat → ClassId} {dI : Nat → Nat → Nat} {ad : Nat → Nat} {cA cZ : ClassId} (hi : Inj 81 ad) (h1 : Nat) (a2 : Int32) (hh1 : isSt h1) (C0 : Cx cX2_partner RX2 wsX2_partner 6 (some .int) p s m args meth c) (hK : KK dC dI cA cZ s) (Q : Int32 → St → Prop) (Y : Nat → List Int32 → List Int64 → St → Prop) (hY : ∀ P xs ys σ, Y P xs ys σ → XX p l e ({ frames := 3, cells := 0, slots := 0, locals := 69 } : Room) s m args below meth c (dC, dI) 81 ad (celC ad cA) 6 (ZI below args s (dC, dI) 81 ad (celC ad cA) Q) (lay_X2_partner ad h1 a2) P xs ys σ) (x3 : Int32) (x4 : Int32) (s0 : St) (hv : B_X2_partner_8 h1 a2 Q Y x3 x4 s0) {H : Heap} {locs : List Loc} {ls : Array Slot} (hP : va_P (dC, dI) vwCl (wd 81 ad (celC ad cA) s0) H) (hS : va_S (AA 81 ad s.heap.size) s.heap H locs) (hl : lv_has ls 6 [(0, .ref (ad 65)), (1, .ref (ad h1)), (2, .int a2), (3, .int x3), (4, .int x4)]) : W p l e ({ frames := 3, cells := 0, slots := 0, locals := 69 } : Room) s m args below meth c H locs 0 0 (ZI below args s (dC, dI) 81 ad (celC ad cA) Q) (F0 m 8 ls []) := by
  obtain ⟨hx, hb, hml, hown, hts, hr, hlocks⟩ := C0
  have hD := wd_D (s := s) (cel := celC ad cA) (σ := s0) hi
  unfold B_X2_partner_8 at hv
  refine lv_iload hx hb dX2_partner_8 (lv_at hl 4 rfl) ?_
  refine lv_aload_n hx hb dX2_partner_10 rfl (lv_at hl 1 rfl) ?_
  refine r_get hx hb hts (iwX2_partner_X8) hown hK.1 hP h1 (ltSt_0 hh1) (ceSt_0 hh1 (s0 h1)) rfl 8 (by decide) (hts _ kX2_partner_2) (v := .int (s0 h1 8)) rfl dX2_partner_11 ?_
  refine lv_icmp_ge (tgt := 70) hx hb dX2_partner_14 (by decide) (fun c14 => ?_) (fun c14 => ?_)
  · have hv := hv.1 c14
    refine lv_iconst (v := (-1)) hx hb dX2_partner_70 (by decide) ?_
    exact r_iret hx hb hr hlocks hv hP hS dX2_partner_71
  · have hv := hv.2 c14
    refine lv_iload_n hx hb dX2_partner_17 rfl (lv_at hl 3 rfl) ?_
    refine lv_iload hx hb dX2_partner_18 (lv_at hl 4 rfl) ?_
    refine lv_ishr hx hb dX2_partner_20 ?_
    refine lv_iconst (v := 1) hx hb dX2_partner_21 (by decide) ?_
    refine lv_iand hx hb dX2_partner_22 ?_
    refine lv_iconst (v := 1) hx hb dX2_partner_23 (by decide) ?_
    refine lv_icmp_ne (tgt := 64) hx hb dX2_partner_24 (by decide) (fun c24 => ?_) (fun c24 => ?_)
    · have hv := hv.1 c24
      refine lv_iinc (v := x4 + 1) (lv' := [(4, .int (x4 + 1)), (0, .ref (ad 65)), (1, .ref (ad h1)), (2, .int a2), (3, .int x3)]) hx hb dX2_partner_64 hl (k := 4) rfl rfl (by decide) rfl (fun ls hl => ?_)
      refine lv_goto (tgt := 8) hx hb dX2_partner_67 (by decide) ?_
      exact hY 8 [x3, x4 + 1] [] s0 hv _ _ rfl H locs ls hP hS (lv_sub hl [1, 2, 3, 4, 0] rfl)
    · have hv := hv.2 c24
      refine lv_aload_n hx hb dX2_partner_27 rfl (lv_at hl 0 rfl) ?_
      refine lv_aload_n hx hb dX2_partner_28 rfl (lv_at hl 1 rfl) ?_
      refine lv_iload_n hx hb dX2_partner_29 rfl (lv_at hl 3 rfl) ?_
      refine lv_iload hx hb dX2_partner_30 (lv_at hl 4 rfl) ?_
      refine r_ci (va_runV (As := [.ref (ad h1), .int x3, .int x4]) (rest := []) ⟨hx, hb, hml, hown, hts⟩ (c_X2_firstPartner hi h1 x3 x4 hh1 s0 _ hv H.size) (cwV 3 hts gX2_partner_X2_firstPartner rfl rfl rfl (by decide +kernel) ⟨Nat.le_of_ble_eq_true rfl, Nat.le_of_ble_eq_true rfl⟩) ⟨pre_blind, r_recv hK.1 hP 65 (by decide) (cePg_0 (s0 65)) rfl, pre_of hP hK⟩ rfl rfl hl.1 rfl (lv_room (Nat.le_of_ble_eq_true rfl)) dX2_partner_32 ⟨Nat.zero_le _, Nat.zero_le _⟩) hS (fun r1 s1 H locs hv hP hS => ?_)
      have hD := wd_D (s := s) (cel := celC ad cA) (σ := s1) hi
      refine lv_istore (lv' := [(5, .int r1), (0, .ref (ad 65)), (1, .ref (ad h1)), (2, .int a2), (3, .int x3), (4, .int x4)]) hx hb dX2_partner_35 hl (by decide) rfl (fun ls hl => ?_)
      refine lv_iload hx hb dX2_partner_37 (lv_at hl 5 rfl) ?_
      refine lv_iload_n hx hb dX2_partner_39 rfl (lv_at hl 3 rfl) ?_
      refine lv_icmp_ne (tgt := 46) hx hb dX2_partner_40 (by decide) (fun c40 => ?_) (fun c40 => ?_)
      · have hv := hv.1 c40
        refine lv_iload hx hb dX2_partner_46 (lv_at hl 0 rfl) ?_
        refine lv_iload_n hx hb dX2_partner_48 rfl (lv_at hl 3 rfl) ?_
        refine lv_icmp_ne (tgt := 55) hx hb dX2_partner_49 (by decide) (fun c49 => ?_) (fun c49 => ?_)
        · have hv := hv.1 c49
          refine lv_iload_n hx hb dX2_partner_55 rfl (lv_at hl 4 rfl) ?_
          refine lv_iload hx hb dX2_partner_56 (lv_at hl 5 rfl) ?_
          refine lv_iload hx hb dX2_partner_58 (lv_at hl 0 rfl) ?_
          refine r_ci (va_runS (As := [.int x3, .int x4, .int r1]) (rest := []) ⟨hx, hb, hml, hown, hts⟩ (c_X2_without hi x3 x4 r1 s1 _ hv H.size) (va_cwS 3 hts gX2_partner_X2_without rfl rfl rfl (by decide +kernel) ⟨Nat.le_of_ble_eq_true rfl, Nat.le_of_ble_eq_true rfl⟩) ⟨pre_blind, pre_of hP hK⟩ rfl rfl hl.1 rfl (lv_room (Nat.le_of_ble_eq_true rfl)) dX2_partner_60 ⟨Nat.zero_le _, Nat.zero_le _⟩) hS (fun r2 s2 H locs hv hP hS => ?_)
          have hD := wd_D (s := s) (cel := celC ad cA) (σ := s2) hi
          refine lv_istore_n (lv' := [(3, .int r2), (5, .int r1), (0, .ref (ad 65)), (1, .ref (ad h1)), (2, .int a2), (4, .int x4)]) hx hb dX2_partner_63 rfl hl (by decide) rfl (fun ls hl => ?_)
          refine lv_iinc (v := x4 + 1) (lv' := [(4, .int (x4 + 1)), (3, .int r2), (5, .int r1), (0, .ref (ad 65)), (1, .ref (ad h1)), (2, .int a2)]) hx hb dX2_partner_64 hl (k := 5) rfl rfl (by decide) rfl (fun ls hl => ?_)
          refine lv_goto (tgt := 8) hx hb dX2_partner_67 (by decide) ?_
          exact hY 8 [r2, x4 + 1] [] s2 hv _ _ rfl H locs ls hP hS (lv_sub hl [3, 4, 5, 1, 0] rfl)
        · have hv := hv.2 c49
          refine lv_iload hx hb dX2_partner_52 (lv_at hl 5 rfl) ?_
          exact r_iret hx hb hr hlocks hv hP hS dX2_partner_54
      · have hv := hv.2 c40
        refine lv_iload hx hb dX2_partner_43 (lv_at hl 0 rfl) ?_
        exact r_iret hx hb hr hlocks hv hP hS dX2_partner_45
set_option maxHeartbeats 4000000 in
theorem y_X2_partner {p : Program} {l : Launch} {e : Env} {s : State} {m : MethodId} {args : Array Value} {below : List Frame} {meth : Method} {c : Code} {dC : Nat → ClassId} {dI : Nat → Nat → Nat} {ad : Nat → Nat} {cA cZ : ClassId} (hi : Inj 81 ad) (h1 : Nat) (a2 : Int32) (hh1 : isSt h1) (C0 : Cx cX2_partner RX2 wsX2_partner 6 (some .int) p s m args meth c) (hK : KK dC dI cA cZ s) (Q : Int32 → St → Prop) : ∀ P xs ys σ, R_X2_partner h1 a2 Q P xs ys σ → XX p l e ({ frames := 3, cells := 0, slots := 0, locals := 69 } : Room) s m args below meth c (dC, dI) 81 ad (celC ad cA) 6 (ZI below args s (dC, dI) 81 ad (celC ad cA) Q) (lay_X2_partner ad h1 a2) P xs ys σ := by
  refine Fx.elim _ (fun P xs ys σ Y hY hB => ?_)
  rcases hB with ⟨rfl, x3, x4, rfl, rfl, hB⟩
  · intro lv st he H locs ls hP hS hl
    cases he
    exact w_X2_partner_8 hi h1 a2 hh1 C0 hK Q Y hY x3 x4 σ hB hP hS hl
set_option maxHeartbeats 4000000 in
theorem c_X2_partner {l : Launch} {dC : Nat → ClassId} {dI : Nat → Nat → Nat} {ad : Nat → Nat} {cA cZ : ClassId} (hi : Inj 81 ad) (h1 : Nat) (a2 : Int32) (hh1 : isSt h1) (s0 : St) (Q : Int32 → St → Prop) (hv : V_X2_partner h1 a2 s0 Q) (sz : Nat) : Met l yX2_partner wsX2_partner ({ frames := 3, cells := 0, slots := 0, locals := 69 } : Room) (va_Pc [.ref (ad 65), .ref (ad h1), .int a2] (PW dC dI ad cA cZ 81 (celC ad cA) sz s0)) (va_Qi Q (fun u t => va_P (dC, dI) vwCl (wd 81 ad (celC ad cA) u) t.heap) (AA 81 ad sz)) 0 0 (AA 81 ad sz) := by
  refine Met.ofW (cc := cX2_partner) (maxL := 6) (ret := (some .int)) (by decide) rfl ?_
  intro p e s m args below meth c s₁ B hml hv0
  obtain ⟨rfl, hsz, hP, hK⟩ := hv0
  subst hsz
  have C0 : Cx cX2_partner RX2 wsX2_partner 6 (some .int) p s m ([.ref (ad 65), .ref (ad h1), .int a2] : List Value).toArray meth c := ⟨B.exec, B.bytes, hml, findClass_of_methodNamed B.named, atoms_spec (ws := wsX2_partner) B.pre, B.returns, B.notSynchronized⟩
  have hl := lv_entry ([.ref (ad 65), .ref (ad h1), .int a2]) (n := 6) (Nat.le_of_ble_eq_true rfl)
  rw [lg_entry_eq]
  generalize (lg_sl ([.ref (ad 65), .ref (ad h1), .int a2]) ++ List.replicate (6 - (lg_sl ([.ref (ad 65), .ref (ad h1), .int a2])).length) Slot.unset).toArray = ls at hl ⊢
  have hl : lv_has ls 6 [(0, .ref (ad 65)), (1, .ref (ad h1)), (2, .int a2)] := hl
  exact w_X2_partner_e hi h1 a2 hh1 C0 hK Q (R_X2_partner h1 a2 Q) (y_X2_partner hi h1 a2 hh1 C0 hK Q)  s0 hv hP va_S.rf hl
def lay_X10_pairs (ad : Nat → Nat) (a1 : Int32) : Nat → List Int32 → List Int64 → Option (List (Nat × Value) × List Value) := fun P xs ys => match P, xs, ys with
  | 18, [], [] => some ([(0, .ref (ad 0)), (1, .int a1)], [])
  | _, _, _ => none
set_option maxHeartbeats 4000000 in
set_option maxRecDepth 100000 in
theorem w_X10_pairs_e {p : Program} {l : Launch} {e : Env} {s : State} {m : MethodId} {args : Array Value} {below : List Frame} {meth : Method} {c : Code} {dC : Nat → ClassId} {dI : Nat → Nat → Nat} {ad : Nat → Nat} {cA cZ : ClassId} (hi : Inj 81 ad) (a1 : Int32)  (C0 : Cx cX10_pairs RX10 wsX10_pairs 2 (some .int) p s m args meth c) (hK : KK dC dI cA cZ s) (Q : Int32 → St → Prop) (Y : Nat → List Int32 → List Int64 → St → Prop) (hY : ∀ P xs ys σ, Y P xs ys σ → XX p l e ({ frames := 4, cells := 0, slots := 0, locals := 94 } : Room) s m args below meth c (dC, dI) 81 ad (celC ad cA) 2 (ZI below args s (dC, dI) 81 ad (celC ad cA) Q) (lay_X10_pairs ad a1) P xs ys σ)  (s0 : St) (hv : B_X10_pairs_e a1 Q Y  s0) {H : Heap} {locs : List Loc} {ls : Array Slot} (hP : va_P (dC, dI) vwCl (wd 81 ad (celC ad cA) s0) H) (hS : va_S (AA 81 ad s.heap.size) s.heap H locs) (hl : lv_has ls 2 [(0, .ref (ad 0)), (1, .int a1)]) : W p l e ({ frames := 4, cells := 0, slots := 0, locals := 94 } : Room) s m args below meth c H locs 0 0 (ZI below args s (dC, dI) 81 ad (celC ad cA) Q) (F0 m 0 ls []) := by
  obtain ⟨hx, hb, hml, hown, hts, hr, hlocks⟩ := C0
  have hD := wd_D (s := s) (cel := celC ad cA) (σ := s0) hi
  unfold B_X10_pairs_e at hv
  refine lv_iload_n hx hb dX10_pairs_0 rfl (lv_at hl 1 rfl) ?_
  refine lv_iconst (v := (-1)) hx hb dX10_pairs_1 (by decide) ?_
  refine lv_icmp_eq (tgt := 18) hx hb dX10_pairs_2 (by decide) (fun c2 => ?_) (fun c2 => ?_)
  · have hv := hv.1 c2
    exact hY 18 [] [] s0 hv _ _ rfl H locs ls hP hS (lv_sub hl [0, 1] rfl)
  · have hv := hv.2 c2
    refine lv_aload_n hx hb dX10_pairs_5 rfl (lv_at hl 0 rfl) ?_
    refine lv_iload_n hx hb dX10_pairs_6 rfl (lv_at hl 1 rfl) ?_
    refine r_ci (va_runV (As := [.int a1]) (rest := []) ⟨hx, hb, hml, hown, hts⟩ (c_X10_isGlove hi a1 s0 _ hv H.size) (cwV 1 hts gX10_pairs_X10_isGlove rfl rfl rfl (by decide +kernel) ⟨Nat.le_of_ble_eq_true rfl, Nat.le_of_ble_eq_true rfl⟩) ⟨pre_blind, r_recv hK.1 hP 0 (by decide) (ceGR_0 (s0 0)) rfl, pre_of hP hK⟩ rfl rfl hl.1 rfl (lv_room (Nat.le_of_ble_eq_true rfl)) dX10_pairs_7 ⟨Nat.zero_le _, Nat.zero_le _⟩) hS (fun r1 s1 H locs hv hP hS => ?_)
    obtain ⟨hz_r1, hv⟩ := hv
    have hD := wd_D (s := s) (cel := celC ad cA) (σ := s1) hi
    refine lv_if_ne (tgt := 18) hx hb dX10_pairs_10 (by decide) (fun c10 => ?_) (fun c10 => ?_)
    · have hv := hv.1 c10
      exact hY 18 [] [] s1 hv _ _ rfl H locs ls hP hS (lv_sub hl [0, 1] rfl)
    · have hv := hv.2 c10
      refine lv_aload_n hx hb dX10_pairs_13 rfl (lv_at hl 0 rfl) ?_
      refine r_ci (va_runV (As := []) (rest := []) ⟨hx, hb, hml, hown, hts⟩ (c_X10_badAsTen hi  s1 _ hv H.size) (cwV 0 hts gX10_pairs_X10_badAsTen rfl rfl rfl (by decide +kernel) ⟨Nat.le_of_ble_eq_true rfl, Nat.le_of_ble_eq_true rfl⟩) ⟨pre_blind, r_recv hK.1 hP 0 (by decide) (ceGR_0 (s1 0)) rfl, pre_of hP hK⟩ rfl rfl hl.1 rfl (lv_room (Nat.le_of_ble_eq_true rfl)) dX10_pairs_14 ⟨Nat.zero_le _, Nat.zero_le _⟩) hS (fun r2 s2 H locs hv hP hS => ?_)
      have hD := wd_D (s := s) (cel := celC ad cA) (σ := s2) hi
      exact r_iret hx hb hr hlocks hv hP hS dX10_pairs_17
set_option maxHeartbeats 4000000 in
set_option maxRecDepth 100000 in
theorem w_X10_pairs_18 {p : Program} {l : Launch} {e : Env} {s : State} {m : MethodId} {args : Array Value} {below : List Frame} {meth : Method} {c : Code} {dC : Nat → ClassId} {dI : Nat → Nat → Nat} {ad : Nat → Nat} {cA cZ : ClassId} (hi : Inj 81 ad) (a1 : Int32)  (C0 : Cx cX10_pairs RX10 wsX10_pairs 2 (some .int) p s m args meth c) (hK : KK dC dI cA cZ s) (Q : Int32 → St → Prop) (Y : Nat → List Int32 → List Int64 → St → Prop) (hY : ∀ P xs ys σ, Y P xs ys σ → XX p l e ({ frames := 4, cells := 0, slots := 0, locals := 94 } : Room) s m args below meth c (dC, dI) 81 ad (celC ad cA) 2 (ZI below args s (dC, dI) 81 ad (celC ad cA) Q) (lay_X10_pairs ad a1) P xs ys σ)  (s0 : St) (hv : B_X10_pairs_18 a1 Q Y  s0) {H : Heap} {locs : List Loc} {ls : Array Slot} (hP : va_P (dC, dI) vwCl (wd 81 ad (celC ad cA) s0) H) (hS : va_S (AA 81 ad s.heap.size) s.heap H locs) (hl : lv_has ls 2 [(0, .ref (ad 0)), (1, .int a1)]) : W p l e ({ frames := 4, cells := 0, slots := 0, locals := 94 } : Room) s m args below meth c H locs 0 0 (ZI below args s (dC, dI) 81 ad (celC ad cA) Q) (F0 m 18 ls []) := by
  obtain ⟨hx, hb, hml, hown, hts, hr, hlocks⟩ := C0
  have hD := wd_D (s := s) (cel := celC ad cA) (σ := s0) hi
  unfold B_X10_pairs_18 at hv
  refine lv_aload_n hx hb dX10_pairs_18 rfl (lv_at hl 0 rfl) ?_
  refine r_get hx hb hts (iwX10_pairs_X10) hown hK.1 hP 0 (by decide) (ceGR_0 (s0 0)) rfl 4 (by decide) (hts _ kX10_pairs_1) (v := .ref (ad 65)) rfl dX10_pairs_19 ?_
  refine lv_aload_n hx hb dX10_pairs_22 rfl (lv_at hl 0 rfl) ?_
  refine r_get hx hb hts (iwX10_pairs_X10) hown hK.1 hP 0 (by decide) (ceGR_0 (s0 0)) rfl 0 (by decide) (hts _ kX10_pairs_2) (v := .ref (ad 1)) rfl dX10_pairs_23 ?_
  refine r_get hx hb hts (iwX10_pairs_X7) hown hK.1 hP 1 (ltSc_0 vSc_1) (ceSc_0 vSc_1 (s0 1)) rfl 0 (by decide) (hts _ kX10_pairs_3) (v := .ref (ad 2)) rfl dX10_pairs_26 ?_
  refine r_cv (va_runV (As := [.ref (ad 2)]) (rest := []) ⟨hx, hb, hml, hown, hts⟩ (c_X2_countAll hi 2 (vSc1 vSc_1) s0 _ hv H.size) (cwV 1 hts gX10_pairs_X2_countAll rfl rfl rfl (by decide +kernel) ⟨Nat.le_of_ble_eq_true rfl, Nat.le_of_ble_eq_true rfl⟩) ⟨pre_blind, r_recv hK.1 hP 65 (by decide) (cePg_0 (s0 65)) rfl, pre_of hP hK⟩ rfl rfl hl.1 rfl (lv_room (Nat.le_of_ble_eq_true rfl)) dX10_pairs_29 ⟨Nat.zero_le _, Nat.zero_le _⟩) hS (fun s1 H locs hv hP hS => ?_)
  have hD := wd_D (s := s) (cel := celC ad cA) (σ := s1) hi
  refine lv_iload_n hx hb dX10_pairs_32 rfl (lv_at hl 1 rfl) ?_
  refine lv_iconst (v := (-1)) hx hb dX10_pairs_33 (by decide) ?_
  refine lv_icmp_ne (tgt := 47) hx hb dX10_pairs_34 (by decide) (fun c34 => ?_) (fun c34 => ?_)
  · have hv := hv.1 c34
    refine lv_aload_n hx hb dX10_pairs_47 rfl (lv_at hl 0 rfl) ?_
    refine r_get hx hb hts (iwX10_pairs_X10) hown hK.1 hP 0 (by decide) (ceGR_0 (s1 0)) rfl 4 (by decide) (hts _ kX10_pairs_1) (v := .ref (ad 65)) rfl dX10_pairs_48 ?_
    refine lv_aload_n hx hb dX10_pairs_51 rfl (lv_at hl 0 rfl) ?_
    refine r_get hx hb hts (iwX10_pairs_X10) hown hK.1 hP 0 (by decide) (ceGR_0 (s1 0)) rfl 0 (by decide) (hts _ kX10_pairs_2) (v := .ref (ad 1)) rfl dX10_pairs_52 ?_
    refine r_get hx hb hts (iwX10_pairs_X7) hown hK.1 hP 1 (ltSc_0 vSc_1) (ceSc_0 vSc_1 (s1 1)) rfl 0 (by decide) (hts _ kX10_pairs_3) (v := .ref (ad 2)) rfl dX10_pairs_55 ?_
    refine lv_iload_n hx hb dX10_pairs_58 rfl (lv_at hl 1 rfl) ?_
    refine r_ci (va_runV (As := [.ref (ad 2), .int a1]) (rest := []) ⟨hx, hb, hml, hown, hts⟩ (c_X2_partner hi 2 a1 (vSc1 vSc_1) s1 _ hv H.size) (cwV 2 hts gX10_pairs_X2_partner rfl rfl rfl (by decide +kernel) ⟨Nat.le_of_ble_eq_true rfl, Nat.le_of_ble_eq_true rfl⟩) ⟨pre_blind, r_recv hK.1 hP 65 (by decide) (cePg_0 (s1 65)) rfl, pre_of hP hK⟩ rfl rfl hl.1 rfl (lv_room (Nat.le_of_ble_eq_true rfl)) dX10_pairs_59 ⟨Nat.zero_le _, Nat.zero_le _⟩) hS (fun r2 s2 H locs hv hP hS => ?_)
    have hD := wd_D (s := s) (cel := celC ad cA) (σ := s2) hi
    exact r_iret hx hb hr hlocks hv hP hS dX10_pairs_62
  · have hv := hv.2 c34
    refine lv_aload_n hx hb dX10_pairs_37 rfl (lv_at hl 0 rfl) ?_
    refine r_get hx hb hts (iwX10_pairs_X10) hown hK.1 hP 0 (by decide) (ceGR_0 (s1 0)) rfl 4 (by decide) (hts _ kX10_pairs_1) (v := .ref (ad 65)) rfl dX10_pairs_38 ?_
    refine r_ci (va_runV (As := []) (rest := []) ⟨hx, hb, hml, hown, hts⟩ (c_X2_most hi  s1 _ hv H.size) (cwV 0 hts gX10_pairs_X2_most rfl rfl rfl (by decide +kernel) ⟨Nat.le_of_ble_eq_true rfl, Nat.le_of_ble_eq_true rfl⟩) ⟨pre_blind, r_recv hK.1 hP 65 (by decide) (cePg_0 (s1 65)) rfl, pre_of hP hK⟩ rfl rfl hl.1 rfl (lv_room (Nat.le_of_ble_eq_true rfl)) dX10_pairs_41 ⟨Nat.zero_le _, Nat.zero_le _⟩) hS (fun r3 s3 H locs hv hP hS => ?_)
    have hD := wd_D (s := s) (cel := celC ad cA) (σ := s3) hi
    refine lv_goto (tgt := 62) hx hb dX10_pairs_44 (by decide) ?_
    exact r_iret hx hb hr hlocks hv hP hS dX10_pairs_62
set_option maxHeartbeats 4000000 in
theorem y_X10_pairs {p : Program} {l : Launch} {e : Env} {s : State} {m : MethodId} {args : Array Value} {below : List Frame} {meth : Method} {c : Code} {dC : Nat → ClassId} {dI : Nat → Nat → Nat} {ad : Nat → Nat} {cA cZ : ClassId} (hi : Inj 81 ad) (a1 : Int32)  (C0 : Cx cX10_pairs RX10 wsX10_pairs 2 (some .int) p s m args meth c) (hK : KK dC dI cA cZ s) (Q : Int32 → St → Prop) : ∀ P xs ys σ, R_X10_pairs a1 Q P xs ys σ → XX p l e ({ frames := 4, cells := 0, slots := 0, locals := 94 } : Room) s m args below meth c (dC, dI) 81 ad (celC ad cA) 2 (ZI below args s (dC, dI) 81 ad (celC ad cA) Q) (lay_X10_pairs ad a1) P xs ys σ := by
  refine Fx.elim _ (fun P xs ys σ Y hY hB => ?_)
  rcases hB with ⟨rfl, rfl, rfl, hB⟩
  · intro lv st he H locs ls hP hS hl
    cases he
    exact w_X10_pairs_18 hi a1  C0 hK Q Y hY  σ hB hP hS hl
set_option maxHeartbeats 4000000 in
theorem c_X10_pairs {l : Launch} {dC : Nat → ClassId} {dI : Nat → Nat → Nat} {ad : Nat → Nat} {cA cZ : ClassId} (hi : Inj 81 ad) (a1 : Int32)  (s0 : St) (Q : Int32 → St → Prop) (hv : V_X10_pairs a1 s0 Q) (sz : Nat) : Met l yX10_pairs wsX10_pairs ({ frames := 4, cells := 0, slots := 0, locals := 94 } : Room) (va_Pc [.ref (ad 0), .int a1] (PW dC dI ad cA cZ 81 (celC ad cA) sz s0)) (va_Qi Q (fun u t => va_P (dC, dI) vwCl (wd 81 ad (celC ad cA) u) t.heap) (AA 81 ad sz)) 0 0 (AA 81 ad sz) := by
  refine Met.ofW (cc := cX10_pairs) (maxL := 2) (ret := (some .int)) (by decide) rfl ?_
  intro p e s m args below meth c s₁ B hml hv0
  obtain ⟨rfl, hsz, hP, hK⟩ := hv0
  subst hsz
  have C0 : Cx cX10_pairs RX10 wsX10_pairs 2 (some .int) p s m ([.ref (ad 0), .int a1] : List Value).toArray meth c := ⟨B.exec, B.bytes, hml, findClass_of_methodNamed B.named, atoms_spec (ws := wsX10_pairs) B.pre, B.returns, B.notSynchronized⟩
  have hl := lv_entry ([.ref (ad 0), .int a1]) (n := 2) (Nat.le_of_ble_eq_true rfl)
  rw [lg_entry_eq]
  generalize (lg_sl ([.ref (ad 0), .int a1]) ++ List.replicate (2 - (lg_sl ([.ref (ad 0), .int a1])).length) Slot.unset).toArray = ls at hl ⊢
  have hl : lv_has ls 2 [(0, .ref (ad 0)), (1, .int a1)] := hl
  exact w_X10_pairs_e hi a1  C0 hK Q (R_X10_pairs a1 Q) (y_X10_pairs hi a1  C0 hK Q)  s0 hv hP va_S.rf hl
