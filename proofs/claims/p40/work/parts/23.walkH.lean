def lay_L_cell (ad : Nat → Nat) (b : Nat) (a1 : Int32) : Nat → List Int32 → List Int64 → Option (List (Nat × Value) × List Value) := fun P xs ys => match P, xs, ys with
  | _, _, _ => none
set_option maxHeartbeats 4000000 in
set_option maxRecDepth 100000 in
theorem w_L_cell_e {p : Program} {l : Launch} {e : Env} {s : State} {m : MethodId} {args : Array Value} {below : List Frame} {meth : Method} {c : Code} {dC : Nat → ClassId} {dI : Nat → Nat → Nat} {cA cZ : ClassId} {n b L : Nat} {xs : Nat → Int32} {ad : Nat → Nat} (hi : Inj n ad) (hn : 82 ≤ n) (hne : ∀ k, k < n → ad k ≠ b) (C0 : Cx cL_cell RL wsL_cell 2 (some .int) p s m args meth c) (hK : KK dC dI cA cZ s) (hX : va_X b L xs s s.heap) (hbl : b < s.heap.size) (a1 : Int32) (Q : Int32 → St → Prop) (Y : Nat → List Int32 → List Int64 → St → Prop) (hY : ∀ P xs ys σ, Y P xs ys σ → XX p l e ({ frames := 0, cells := 0, slots := 0, locals := 0 } : Room) s m args below meth c (dC, dI) n ad (celL ad cA) 2 (ZI below args s (dC, dI) n ad (celL ad cA) Q) (lay_L_cell ad b a1) P xs ys σ)  (s0 : St) (hv : B_L_cell_e L xs a1 Q Y  s0) {H : Heap} {locs : List Loc} {ls : Array Slot} (hP : va_P (dC, dI) vwCl (wd n ad (celL ad cA) s0) H) (hS : va_S (AA n ad s.heap.size) s.heap H locs) (hl : lv_has ls 2 [(0, .ref b), (1, .int a1)]) : W p l e ({ frames := 0, cells := 0, slots := 0, locals := 0 } : Room) s m args below meth c H locs 0 0 (ZI below args s (dC, dI) n ad (celL ad cA) Q) (F0 m 0 ls []) := by
  obtain ⟨hx, hb, hml, hown, hts, hr, hlocks⟩ := C0
  have hbA : ¬ AA n ad s.heap.size b := AA_b hbl hne
  have hA2 : ∀ q, s.heap.size ≤ q → AA n ad s.heap.size q := AA_2
  have hD := wd_Dg (A := AA n ad s.heap.size) (cel := celL ad cA) (σ := s0) hi AA_1
  unfold B_L_cell_e at hv
  refine lv_iload_n hx hb dL_cell_0 rfl (lv_at hl 1 rfl) ?_
  refine lv_aload_n hx hb dL_cell_1 rfl (lv_at hl 0 rfl) ?_
  refine va_slen hx hb hX hbl hbA hS dL_cell_2 ?_
  refine lv_icmp_ge (tgt := 12) hx hb dL_cell_3 (by decide) (fun c3 => ?_) (fun c3 => ?_)
  · have hv := hv.1 c3
    refine lv_ldc (v := (-1463684891)) hx hb hown (hts _ kL_cell_1) dL_cell_12 ?_
    refine lv_iload_n hx hb dL_cell_14 rfl (lv_at hl 1 rfl) ?_
    refine lv_sipush (v := 587) hx hb dL_cell_15 (by decide) ?_
    refine lv_iadd hx hb dL_cell_18 ?_
    refine lv_imul hx hb dL_cell_19 ?_
    exact r_iret hx hb hr hlocks hv hP hS dL_cell_20
  · have hv := hv.2 c3
    refine lv_aload_n hx hb dL_cell_6 rfl (lv_at hl 0 rfl) ?_
    refine lv_iload_n hx hb dL_cell_7 rfl (lv_at hl 1 rfl) ?_
    obtain ⟨hin, hv⟩ := hv
    refine va_sld hx hb hX hbl hbA hS hin dL_cell_8 ?_
    refine lv_goto (tgt := 20) hx hb dL_cell_9 (by decide) ?_
    exact r_iret hx hb hr hlocks hv hP hS dL_cell_20
set_option maxHeartbeats 4000000 in
theorem y_L_cell {p : Program} {l : Launch} {e : Env} {s : State} {m : MethodId} {args : Array Value} {below : List Frame} {meth : Method} {c : Code} {dC : Nat → ClassId} {dI : Nat → Nat → Nat} {cA cZ : ClassId} {n b L : Nat} {xs : Nat → Int32} {ad : Nat → Nat} (hi : Inj n ad) (hn : 82 ≤ n) (hne : ∀ k, k < n → ad k ≠ b) (C0 : Cx cL_cell RL wsL_cell 2 (some .int) p s m args meth c) (hK : KK dC dI cA cZ s) (hX : va_X b L xs s s.heap) (hbl : b < s.heap.size) (a1 : Int32) (Q : Int32 → St → Prop) : ∀ P xs' ys σ, R_L_cell L xs a1 Q P xs' ys σ → XX p l e ({ frames := 0, cells := 0, slots := 0, locals := 0 } : Room) s m args below meth c (dC, dI) n ad (celL ad cA) 2 (ZI below args s (dC, dI) n ad (celL ad cA) Q) (lay_L_cell ad b a1) P xs' ys σ := by
  refine Fx.elim _ (fun P xs' ys σ Y hY hB => ?_)
  exact hB.elim
set_option maxHeartbeats 4000000 in
theorem c_L_cell {l : Launch} {dC : Nat → ClassId} {dI : Nat → Nat → Nat} {cA cZ : ClassId} {n b L : Nat} {xs : Nat → Int32} {ad : Nat → Nat} (hi : Inj n ad) (hn : 82 ≤ n) (hne : ∀ k, k < n → ad k ≠ b) (a1 : Int32) (s0 : St) (Q : Int32 → St → Prop) (hv : V_L_cell L xs a1 s0 Q) (sz : Nat) (hbz : b < sz) : Met l yL_cell wsL_cell ({ frames := 0, cells := 0, slots := 0, locals := 0 } : Room) (va_Pc [.ref b, .int a1] (PL dC dI cA cZ n ad b L xs sz s0)) (va_Qi Q (fun u t => va_P (dC, dI) vwCl (wd n ad (celL ad cA) u) t.heap) (AA n ad sz)) 0 0 (AA n ad sz) := by
  refine Met.ofW (cc := cL_cell) (maxL := 2) (ret := (some .int)) (by decide) rfl ?_
  intro p e s m args below meth c s₁ B hml hv0
  obtain ⟨rfl, hsz, hP, hK, hX⟩ := hv0
  subst hsz
  have C0 : Cx cL_cell RL wsL_cell 2 (some .int) p s m ([.ref b, .int a1] : List Value).toArray meth c := ⟨B.exec, B.bytes, hml, findClass_of_methodNamed B.named, atoms_spec (ws := wsL_cell) B.pre, B.returns, B.notSynchronized⟩
  have hl := lv_entry ([.ref b, .int a1]) (n := 2) (Nat.le_of_ble_eq_true rfl)
  rw [lg_entry_eq]
  generalize (lg_sl ([.ref b, .int a1]) ++ List.replicate (2 - (lg_sl ([.ref b, .int a1])).length) Slot.unset).toArray = ls at hl ⊢
  have hl : lv_has ls 2 [(0, .ref b), (1, .int a1)] := hl
  exact w_L_cell_e hi hn hne C0 hK hX hbz a1 Q (R_L_cell L xs a1 Q) (y_L_cell hi hn hne C0 hK hX hbz a1 Q)  s0 hv hP va_S.rf hl
def lay_L_up (ad : Nat → Nat) (b : Nat) (a0 : Int32) (a1 : Int32) : Nat → List Int32 → List Int64 → Option (List (Nat × Value) × List Value) := fun P xs ys => match P, xs, ys with
  | _, _, _ => none
set_option maxHeartbeats 4000000 in
set_option maxRecDepth 100000 in
theorem w_L_up_e {p : Program} {l : Launch} {e : Env} {s : State} {m : MethodId} {args : Array Value} {below : List Frame} {meth : Method} {c : Code} {dC : Nat → ClassId} {dI : Nat → Nat → Nat} {cA cZ : ClassId} {n b L : Nat} {xs : Nat → Int32} {ad : Nat → Nat} (hi : Inj n ad) (hn : 82 ≤ n) (hne : ∀ k, k < n → ad k ≠ b) (C0 : Cx cL_up RL wsL_up 2 (some .int) p s m args meth c) (hK : KK dC dI cA cZ s) (hX : va_X b L xs s s.heap) (hbl : b < s.heap.size) (a0 : Int32) (a1 : Int32) (Q : Int32 → St → Prop) (Y : Nat → List Int32 → List Int64 → St → Prop) (hY : ∀ P xs ys σ, Y P xs ys σ → XX p l e ({ frames := 0, cells := 0, slots := 0, locals := 0 } : Room) s m args below meth c (dC, dI) n ad (celL ad cA) 2 (ZI below args s (dC, dI) n ad (celL ad cA) Q) (lay_L_up ad b a0 a1) P xs ys σ)  (s0 : St) (hv : B_L_up_e a0 a1 Q Y  s0) {H : Heap} {locs : List Loc} {ls : Array Slot} (hP : va_P (dC, dI) vwCl (wd n ad (celL ad cA) s0) H) (hS : va_S (AA n ad s.heap.size) s.heap H locs) (hl : lv_has ls 2 [(0, .int a0), (1, .int a1)]) : W p l e ({ frames := 0, cells := 0, slots := 0, locals := 0 } : Room) s m args below meth c H locs 0 0 (ZI below args s (dC, dI) n ad (celL ad cA) Q) (F0 m 0 ls []) := by
  obtain ⟨hx, hb, hml, hown, hts, hr, hlocks⟩ := C0
  have hbA : ¬ AA n ad s.heap.size b := AA_b hbl hne
  have hA2 : ∀ q, s.heap.size ≤ q → AA n ad s.heap.size q := AA_2
  have hD := wd_Dg (A := AA n ad s.heap.size) (cel := celL ad cA) (σ := s0) hi AA_1
  unfold B_L_up_e at hv
  refine lv_iload_n hx hb dL_up_0 rfl (lv_at hl 0 rfl) ?_
  refine lv_ldc (v := 2147483647) hx hb hown (hts _ kL_up_1) dL_up_1 ?_
  refine lv_iand hx hb dL_up_3 ?_
  refine lv_iload_n hx hb dL_up_4 rfl (lv_at hl 1 rfl) ?_
  obtain ⟨hne, hv⟩ := hv
  refine lv_irem hx hb dL_up_5 hne ?_
  exact r_iret hx hb hr hlocks hv hP hS dL_up_6
set_option maxHeartbeats 4000000 in
theorem y_L_up {p : Program} {l : Launch} {e : Env} {s : State} {m : MethodId} {args : Array Value} {below : List Frame} {meth : Method} {c : Code} {dC : Nat → ClassId} {dI : Nat → Nat → Nat} {cA cZ : ClassId} {n b L : Nat} {xs : Nat → Int32} {ad : Nat → Nat} (hi : Inj n ad) (hn : 82 ≤ n) (hne : ∀ k, k < n → ad k ≠ b) (C0 : Cx cL_up RL wsL_up 2 (some .int) p s m args meth c) (hK : KK dC dI cA cZ s) (hX : va_X b L xs s s.heap) (hbl : b < s.heap.size) (a0 : Int32) (a1 : Int32) (Q : Int32 → St → Prop) : ∀ P xs' ys σ, R_L_up a0 a1 Q P xs' ys σ → XX p l e ({ frames := 0, cells := 0, slots := 0, locals := 0 } : Room) s m args below meth c (dC, dI) n ad (celL ad cA) 2 (ZI below args s (dC, dI) n ad (celL ad cA) Q) (lay_L_up ad b a0 a1) P xs' ys σ := by
  refine Fx.elim _ (fun P xs' ys σ Y hY hB => ?_)
  exact hB.elim
set_option maxHeartbeats 4000000 in
theorem c_L_up {l : Launch} {dC : Nat → ClassId} {dI : Nat → Nat → Nat} {cA cZ : ClassId} {n b L : Nat} {xs : Nat → Int32} {ad : Nat → Nat} (hi : Inj n ad) (hn : 82 ≤ n) (hne : ∀ k, k < n → ad k ≠ b) (a0 : Int32) (a1 : Int32) (s0 : St) (Q : Int32 → St → Prop) (hv : V_L_up a0 a1 s0 Q) (sz : Nat) (hbz : b < sz) : Met l yL_up wsL_up ({ frames := 0, cells := 0, slots := 0, locals := 0 } : Room) (va_Pc [.int a0, .int a1] (PL dC dI cA cZ n ad b L xs sz s0)) (va_Qi Q (fun u t => va_P (dC, dI) vwCl (wd n ad (celL ad cA) u) t.heap) (AA n ad sz)) 0 0 (AA n ad sz) := by
  refine Met.ofW (cc := cL_up) (maxL := 2) (ret := (some .int)) (by decide) rfl ?_
  intro p e s m args below meth c s₁ B hml hv0
  obtain ⟨rfl, hsz, hP, hK, hX⟩ := hv0
  subst hsz
  have C0 : Cx cL_up RL wsL_up 2 (some .int) p s m ([.int a0, .int a1] : List Value).toArray meth c := ⟨B.exec, B.bytes, hml, findClass_of_methodNamed B.named, atoms_spec (ws := wsL_up) B.pre, B.returns, B.notSynchronized⟩
  have hl := lv_entry ([.int a0, .int a1]) (n := 2) (Nat.le_of_ble_eq_true rfl)
  rw [lg_entry_eq]
  generalize (lg_sl ([.int a0, .int a1]) ++ List.replicate (2 - (lg_sl ([.int a0, .int a1])).length) Slot.unset).toArray = ls at hl ⊢
  have hl : lv_has ls 2 [(0, .int a0), (1, .int a1)] := hl
  exact w_L_up_e hi hn hne C0 hK hX hbz a0 a1 Q (R_L_up a0 a1 Q) (y_L_up hi hn hne C0 hK hX hbz a0 a1 Q)  s0 hv hP va_S.rf hl
def lay_L_bits (ad : Nat → Nat) (b : Nat) (a0 : Int32) : Nat → List Int32 → List Int64 → Option (List (Nat × Value) × List Value) := fun P xs ys => match P, xs, ys with
  | 4, [x1, x2], [] => some ([(1, .int x1), (2, .int x2)], [])
  | _, _, _ => none
set_option maxHeartbeats 4000000 in
set_option maxRecDepth 100000 in
theorem w_L_bits_e {p : Program} {l : Launch} {e : Env} {s : State} {m : MethodId} {args : Array Value} {below : List Frame} {meth : Method} {c : Code} {dC : Nat → ClassId} {dI : Nat → Nat → Nat} {cA cZ : ClassId} {n b L : Nat} {xs : Nat → Int32} {ad : Nat → Nat} (hi : Inj n ad) (hn : 82 ≤ n) (hne : ∀ k, k < n → ad k ≠ b) (C0 : Cx cL_bits RL wsL_bits 3 (some .int) p s m args meth c) (hK : KK dC dI cA cZ s) (hX : va_X b L xs s s.heap) (hbl : b < s.heap.size) (a0 : Int32) (Q : Int32 → St → Prop) (Y : Nat → List Int32 → List Int64 → St → Prop) (hY : ∀ P xs ys σ, Y P xs ys σ → XX p l e ({ frames := 0, cells := 0, slots := 0, locals := 0 } : Room) s m args below meth c (dC, dI) n ad (celL ad cA) 3 (ZI below args s (dC, dI) n ad (celL ad cA) Q) (lay_L_bits ad b a0) P xs ys σ)  (s0 : St) (hv : B_L_bits_e a0 Q Y  s0) {H : Heap} {locs : List Loc} {ls : Array Slot} (hP : va_P (dC, dI) vwCl (wd n ad (celL ad cA) s0) H) (hS : va_S (AA n ad s.heap.size) s.heap H locs) (hl : lv_has ls 3 [(0, .int a0)]) : W p l e ({ frames := 0, cells := 0, slots := 0, locals := 0 } : Room) s m args below meth c H locs 0 0 (ZI below args s (dC, dI) n ad (celL ad cA) Q) (F0 m 0 ls []) := by
  obtain ⟨hx, hb, hml, hown, hts, hr, hlocks⟩ := C0
  have hbA : ¬ AA n ad s.heap.size b := AA_b hbl hne
  have hA2 : ∀ q, s.heap.size ≤ q → AA n ad s.heap.size q := AA_2
  have hD := wd_Dg (A := AA n ad s.heap.size) (cel := celL ad cA) (σ := s0) hi AA_1
  unfold B_L_bits_e at hv
  refine lv_iconst (v := 0) hx hb dL_bits_0 (by decide) ?_
  refine lv_istore_n (lv' := [(1, .int 0), (0, .int a0)]) hx hb dL_bits_1 rfl hl (by decide) rfl (fun ls hl => ?_)
  refine lv_iload_n hx hb dL_bits_2 rfl (lv_at hl 1 rfl) ?_
  refine lv_istore_n (lv' := [(2, .int a0), (1, .int 0), (0, .int a0)]) hx hb dL_bits_3 rfl hl (by decide) rfl (fun ls hl => ?_)
  exact hY 4 [0, a0] [] s0 hv _ _ rfl H locs ls hP hS (lv_sub hl [1, 0] rfl)
set_option maxHeartbeats 4000000 in
set_option maxRecDepth 100000 in
theorem w_L_bits_4 {p : Program} {l : Launch} {e : Env} {s : State} {m : MethodId} {args : Array Value} {below : List Frame} {meth : Method} {c : Code} {dC : Nat → ClassId} {dI : Nat → Nat → Nat} {cA cZ : ClassId} {n b L : Nat} {xs : Nat → Int32} {ad : Nat → Nat} (hi : Inj n ad) (hn : 82 ≤ n) (hne : ∀ k, k < n → ad k ≠ b) (C0 : Cx cL_bits RL wsL_bits 3 (some .int) p s m args meth c) (hK : KK dC dI cA cZ s) (hX : va_X b L xs s s.heap) (hbl : b < s.heap.size) (a0 : Int32) (Q : Int32 → St → Prop) (Y : Nat → List Int32 → List Int64 → St → Prop) (hY : ∀ P xs ys σ, Y P xs ys σ → XX p l e ({ frames := 0, cells := 0, slots := 0, locals := 0 } : Room) s m args below meth c (dC, dI) n ad (celL ad cA) 3 (ZI below args s (dC, dI) n ad (celL ad cA) Q) (lay_L_bits ad b a0) P xs ys σ) (x1 : Int32) (x2 : Int32) (s0 : St) (hv : B_L_bits_4 a0 Q Y x1 x2 s0) {H : Heap} {locs : List Loc} {ls : Array Slot} (hP : va_P (dC, dI) vwCl (wd n ad (celL ad cA) s0) H) (hS : va_S (AA n ad s.heap.size) s.heap H locs) (hl : lv_has ls 3 [(1, .int x1), (2, .int x2)]) : W p l e ({ frames := 0, cells := 0, slots := 0, locals := 0 } : Room) s m args below meth c H locs 0 0 (ZI below args s (dC, dI) n ad (celL ad cA) Q) (F0 m 4 ls []) := by
  obtain ⟨hx, hb, hml, hown, hts, hr, hlocks⟩ := C0
  have hbA : ¬ AA n ad s.heap.size b := AA_b hbl hne
  have hA2 : ∀ q, s.heap.size ≤ q → AA n ad s.heap.size q := AA_2
  have hD := wd_Dg (A := AA n ad s.heap.size) (cel := celL ad cA) (σ := s0) hi AA_1
  unfold B_L_bits_4 at hv
  refine lv_iload_n hx hb dL_bits_4 rfl (lv_at hl 1 rfl) ?_
  refine lv_if_le (tgt := 21) hx hb dL_bits_5 (by decide) (fun c5 => ?_) (fun c5 => ?_)
  · have hv := hv.1 c5
    refine lv_iload_n hx hb dL_bits_21 rfl (lv_at hl 0 rfl) ?_
    exact r_iret hx hb hr hlocks hv hP hS dL_bits_22
  · have hv := hv.2 c5
    refine lv_iload_n hx hb dL_bits_8 rfl (lv_at hl 0 rfl) ?_
    refine lv_iload_n hx hb dL_bits_9 rfl (lv_at hl 1 rfl) ?_
    refine lv_iconst (v := 1) hx hb dL_bits_10 (by decide) ?_
    refine lv_iand hx hb dL_bits_11 ?_
    refine lv_iadd hx hb dL_bits_12 ?_
    refine lv_istore_n (lv' := [(1, .int (x1 + (x2 &&& 1))), (2, .int x2)]) hx hb dL_bits_13 rfl hl (by decide) rfl (fun ls hl => ?_)
    refine lv_iload_n hx hb dL_bits_14 rfl (lv_at hl 1 rfl) ?_
    refine lv_iconst (v := 1) hx hb dL_bits_15 (by decide) ?_
    refine lv_ishr hx hb dL_bits_16 ?_
    refine lv_topi (fun v1 ev1 => ?_)
    have hv := hv v1 ev1
    refine lv_istore_n (lv' := [(2, .int v1), (1, .int (x1 + (x2 &&& 1)))]) hx hb dL_bits_17 rfl hl (by decide) rfl (fun ls hl => ?_)
    refine lv_goto (tgt := 4) hx hb dL_bits_18 (by decide) ?_
    exact hY 4 [x1 + (x2 &&& 1), v1] [] s0 hv _ _ rfl H locs ls hP hS (lv_sub hl [1, 0] rfl)
set_option maxHeartbeats 4000000 in
theorem y_L_bits {p : Program} {l : Launch} {e : Env} {s : State} {m : MethodId} {args : Array Value} {below : List Frame} {meth : Method} {c : Code} {dC : Nat → ClassId} {dI : Nat → Nat → Nat} {cA cZ : ClassId} {n b L : Nat} {xs : Nat → Int32} {ad : Nat → Nat} (hi : Inj n ad) (hn : 82 ≤ n) (hne : ∀ k, k < n → ad k ≠ b) (C0 : Cx cL_bits RL wsL_bits 3 (some .int) p s m args meth c) (hK : KK dC dI cA cZ s) (hX : va_X b L xs s s.heap) (hbl : b < s.heap.size) (a0 : Int32) (Q : Int32 → St → Prop) : ∀ P xs' ys σ, R_L_bits a0 Q P xs' ys σ → XX p l e ({ frames := 0, cells := 0, slots := 0, locals := 0 } : Room) s m args below meth c (dC, dI) n ad (celL ad cA) 3 (ZI below args s (dC, dI) n ad (celL ad cA) Q) (lay_L_bits ad b a0) P xs' ys σ := by
  refine Fx.elim _ (fun P xs' ys σ Y hY hB => ?_)
  rcases hB with ⟨rfl, x1, x2, rfl, rfl, hB⟩
  · intro lv st he H locs ls hP hS hl
    cases he
    exact w_L_bits_4 hi hn hne C0 hK hX hbl a0 Q Y hY x1 x2 σ hB hP hS hl
set_option maxHeartbeats 4000000 in
theorem c_L_bits {l : Launch} {dC : Nat → ClassId} {dI : Nat → Nat → Nat} {cA cZ : ClassId} {n b L : Nat} {xs : Nat → Int32} {ad : Nat → Nat} (hi : Inj n ad) (hn : 82 ≤ n) (hne : ∀ k, k < n → ad k ≠ b) (a0 : Int32) (s0 : St) (Q : Int32 → St → Prop) (hv : V_L_bits a0 s0 Q) (sz : Nat) (hbz : b < sz) : Met l yL_bits wsL_bits ({ frames := 0, cells := 0, slots := 0, locals := 0 } : Room) (va_Pc [.int a0] (PL dC dI cA cZ n ad b L xs sz s0)) (va_Qi Q (fun u t => va_P (dC, dI) vwCl (wd n ad (celL ad cA) u) t.heap) (AA n ad sz)) 0 0 (AA n ad sz) := by
  refine Met.ofW (cc := cL_bits) (maxL := 3) (ret := (some .int)) (by decide) rfl ?_
  intro p e s m args below meth c s₁ B hml hv0
  obtain ⟨rfl, hsz, hP, hK, hX⟩ := hv0
  subst hsz
  have C0 : Cx cL_bits RL wsL_bits 3 (some .int) p s m ([.int a0] : List Value).toArray meth c := ⟨B.exec, B.bytes, hml, findClass_of_methodNamed B.named, atoms_spec (ws := wsL_bits) B.pre, B.returns, B.notSynchronized⟩
  have hl := lv_entry ([.int a0]) (n := 3) (Nat.le_of_ble_eq_true rfl)
  rw [lg_entry_eq]
  generalize (lg_sl ([.int a0]) ++ List.replicate (3 - (lg_sl ([.int a0])).length) Slot.unset).toArray = ls at hl ⊢
  have hl : lv_has ls 3 [(0, .int a0)] := hl
  exact w_L_bits_e hi hn hne C0 hK hX hbz a0 Q (R_L_bits a0 Q) (y_L_bits hi hn hne C0 hK hX hbz a0 Q)  s0 hv hP va_S.rf hl
def lay_L_lay (ad : Nat → Nat) (b : Nat)  : Nat → List Int32 → List Int64 → Option (List (Nat × Value) × List Value) := fun P xs ys => match P, xs, ys with
  | 2, [x2], [] => some ([(0, .ref b), (1, .ref (ad 81)), (2, .int x2)], [])
  | 20, [x2], [] => some ([(0, .ref b), (1, .ref (ad 81)), (2, .int x2)], [])
  | 59, [x2, t0, t1, t2], [] => some ([(0, .ref b), (1, .ref (ad 81)), (2, .int x2)], [.int t0, .int t1, .int t2, .ref (ad 81)])
  | 98, [x2], [] => some ([(0, .ref b), (1, .ref (ad 81)), (2, .int x2)], [])
  | 168, [x2, t0, t1, t2], [] => some ([(0, .ref b), (1, .ref (ad 81)), (2, .int x2)], [.int t0, .int t1, .int t2, .ref (ad 81)])
  | 180, [x2], [] => some ([(0, .ref b), (1, .ref (ad 81)), (2, .int x2)], [])
  | 232, [x2, t0, t1, t2, t3], [] => some ([(0, .ref b), (1, .ref (ad 81)), (2, .int x2)], [.int t0, .int t1, .int t2, .int t3, .ref (ad 81)])
  | _, _, _ => none
set_option maxHeartbeats 4000000 in
set_option maxRecDepth 100000 in
theorem w_L_lay_e {p : Program} {l : Launch} {e : Env} {s : State} {m : MethodId} {args : Array Value} {below : List Frame} {meth : Method} {c : Code} {dC : Nat → ClassId} {dI : Nat → Nat → Nat} {cA cZ : ClassId} {n b L : Nat} {xs : Nat → Int32} {ad : Nat → Nat} (hi : Inj n ad) (hn : 82 ≤ n) (hne : ∀ k, k < n → ad k ≠ b) (C0 : Cx cL_lay RL wsL_lay 4 none p s m args meth c) (hK : KK dC dI cA cZ s) (hX : va_X b L xs s s.heap) (hbl : b < s.heap.size)  (Q : St → Prop) (Y : Nat → List Int32 → List Int64 → St → Prop) (hY : ∀ P xs ys σ, Y P xs ys σ → XX p l e ({ frames := 1, cells := 0, slots := 0, locals := 21 } : Room) s m args below meth c (dC, dI) n ad (celL ad cA) 4 (ZV below args s (dC, dI) n ad (celL ad cA) Q) (lay_L_lay ad b ) P xs ys σ)  (s0 : St) (hv : B_L_lay_e L xs  Q Y  s0) {H : Heap} {locs : List Loc} {ls : Array Slot} (hP : va_P (dC, dI) vwCl (wd n ad (celL ad cA) s0) H) (hS : va_S (AA n ad s.heap.size) s.heap H locs) (hl : lv_has ls 4 [(0, .ref b), (1, .ref (ad 81))]) : W p l e ({ frames := 1, cells := 0, slots := 0, locals := 21 } : Room) s m args below meth c H locs 0 0 (ZV below args s (dC, dI) n ad (celL ad cA) Q) (F0 m 0 ls []) := by
  obtain ⟨hx, hb, hml, hown, hts, hr, hlocks⟩ := C0
  have hbA : ¬ AA n ad s.heap.size b := AA_b hbl hne
  have hA2 : ∀ q, s.heap.size ≤ q → AA n ad s.heap.size q := AA_2
  have hD := wd_Dg (A := AA n ad s.heap.size) (cel := celL ad cA) (σ := s0) hi AA_1
  unfold B_L_lay_e at hv
  refine lv_iconst (v := 0) hx hb dL_lay_0 (by decide) ?_
  refine lv_istore_n (lv' := [(2, .int 0), (0, .ref b), (1, .ref (ad 81))]) hx hb dL_lay_1 rfl hl (by decide) rfl (fun ls hl => ?_)
  exact hY 2 [0] [] s0 hv _ _ rfl H locs ls hP hS (lv_sub hl [1, 2, 0] rfl)
set_option maxHeartbeats 4000000 in
set_option maxRecDepth 100000 in
theorem w_L_lay_2 {p : Program} {l : Launch} {e : Env} {s : State} {m : MethodId} {args : Array Value} {below : List Frame} {meth : Method} {c : Code} {dC : Nat → ClassId} {dI : Nat → Nat → Nat} {cA cZ : ClassId} {n b L : Nat} {xs : Nat → Int32} {ad : Nat → Nat} (hi : Inj n ad) (hn : 82 ≤ n) (hne : ∀ k, k < n → ad k ≠ b) (C0 : Cx cL_lay RL wsL_lay 4 none p s m args meth c) (hK : KK dC dI cA cZ s) (hX : va_X b L xs s s.heap) (hbl : b < s.heap.size)  (Q : St → Prop) (Y : Nat → List Int32 → List Int64 → St → Prop) (hY : ∀ P xs ys σ, Y P xs ys σ → XX p l e ({ frames := 1, cells := 0, slots := 0, locals := 21 } : Room) s m args below meth c (dC, dI) n ad (celL ad cA) 4 (ZV below args s (dC, dI) n ad (celL ad cA) Q) (lay_L_lay ad b ) P xs ys σ) (x2 : Int32) (s0 : St) (hv : B_L_lay_2 L xs  Q Y x2 s0) {H : Heap} {locs : List Loc} {ls : Array Slot} (hP : va_P (dC, dI) vwCl (wd n ad (celL ad cA) s0) H) (hS : va_S (AA n ad s.heap.size) s.heap H locs) (hl : lv_has ls 4 [(0, .ref b), (1, .ref (ad 81)), (2, .int x2)]) : W p l e ({ frames := 1, cells := 0, slots := 0, locals := 21 } : Room) s m args below meth c H locs 0 0 (ZV below args s (dC, dI) n ad (celL ad cA) Q) (F0 m 2 ls []) := by
  obtain ⟨hx, hb, hml, hown, hts, hr, hlocks⟩ := C0
  have hbA : ¬ AA n ad s.heap.size b := AA_b hbl hne
  have hA2 : ∀ q, s.heap.size ≤ q → AA n ad s.heap.size q := AA_2
  have hD := wd_Dg (A := AA n ad s.heap.size) (cel := celL ad cA) (σ := s0) hi AA_1
  unfold B_L_lay_2 at hv
  refine lv_iload_n hx hb dL_lay_2 rfl (lv_at hl 2 rfl) ?_
  refine lv_bipush (v := 39) hx hb dL_lay_3 (by decide) ?_
  refine lv_icmp_ge (tgt := 18) hx hb dL_lay_5 (by decide) (fun c5 => ?_) (fun c5 => ?_)
  · have hv := hv.1 c5
    refine lv_iconst (v := 0) hx hb dL_lay_18 (by decide) ?_
    refine lv_istore_n (lv' := [(2, .int 0), (0, .ref b), (1, .ref (ad 81))]) hx hb dL_lay_19 rfl hl (by decide) rfl (fun ls hl => ?_)
    exact hY 20 [0] [] s0 hv _ _ rfl H locs ls hP hS (lv_sub hl [1, 2, 0] rfl)
  · have hv := hv.2 c5
    refine lv_aload_n hx hb dL_lay_8 rfl (lv_at hl 1 rfl) ?_
    refine lv_iload_n hx hb dL_lay_9 rfl (lv_at hl 2 rfl) ?_
    refine lv_iconst (v := 0) hx hb dL_lay_10 (by decide) ?_
    obtain ⟨hin, hv⟩ := hv
    refine r_iast hx hb hK.1 hP hD hS 81 (Nat.lt_of_lt_of_le (by decide : 81 < 82) hn) (ceL_81 (s0 81)) (ceL_81 _) hin dL_lay_11 (fun H locs s1 es1 hP hD hS => ?_)
    have hv := hv s1 es1
    refine lv_iinc (v := x2 + 1) (lv' := [(2, .int (x2 + 1)), (0, .ref b), (1, .ref (ad 81))]) hx hb dL_lay_12 hl (k := 2) rfl rfl (by decide) rfl (fun ls hl => ?_)
    refine lv_goto (tgt := 2) hx hb dL_lay_15 (by decide) ?_
    exact hY 2 [x2 + 1] [] s1 hv _ _ rfl H locs ls hP hS (lv_sub hl [1, 2, 0] rfl)
set_option maxHeartbeats 4000000 in
set_option maxRecDepth 100000 in
theorem w_L_lay_20 {p : Program} {l : Launch} {e : Env} {s : State} {m : MethodId} {args : Array Value} {below : List Frame} {meth : Method} {c : Code} {dC : Nat → ClassId} {dI : Nat → Nat → Nat} {cA cZ : ClassId} {n b L : Nat} {xs : Nat → Int32} {ad : Nat → Nat} (hi : Inj n ad) (hn : 82 ≤ n) (hne : ∀ k, k < n → ad k ≠ b) (C0 : Cx cL_lay RL wsL_lay 4 none p s m args meth c) (hK : KK dC dI cA cZ s) (hX : va_X b L xs s s.heap) (hbl : b < s.heap.size)  (Q : St → Prop) (Y : Nat → List Int32 → List Int64 → St → Prop) (hY : ∀ P xs ys σ, Y P xs ys σ → XX p l e ({ frames := 1, cells := 0, slots := 0, locals := 21 } : Room) s m args below meth c (dC, dI) n ad (celL ad cA) 4 (ZV below args s (dC, dI) n ad (celL ad cA) Q) (lay_L_lay ad b ) P xs ys σ) (x2 : Int32) (s0 : St) (hv : B_L_lay_20 L xs  Q Y x2 s0) {H : Heap} {locs : List Loc} {ls : Array Slot} (hP : va_P (dC, dI) vwCl (wd n ad (celL ad cA) s0) H) (hS : va_S (AA n ad s.heap.size) s.heap H locs) (hl : lv_has ls 4 [(0, .ref b), (1, .ref (ad 81)), (2, .int x2)]) : W p l e ({ frames := 1, cells := 0, slots := 0, locals := 21 } : Room) s m args below meth c H locs 0 0 (ZV below args s (dC, dI) n ad (celL ad cA) Q) (F0 m 20 ls []) := by
  obtain ⟨hx, hb, hml, hown, hts, hr, hlocks⟩ := C0
  have hbA : ¬ AA n ad s.heap.size b := AA_b hbl hne
  have hA2 : ∀ q, s.heap.size ≤ q → AA n ad s.heap.size q := AA_2
  have hD := wd_Dg (A := AA n ad s.heap.size) (cel := celL ad cA) (σ := s0) hi AA_1
  unfold B_L_lay_20 at hv
  refine lv_iload_n hx hb dL_lay_20 rfl (lv_at hl 2 rfl) ?_
  refine lv_bipush (v := 6) hx hb dL_lay_21 (by decide) ?_
  refine lv_icmp_ge (tgt := 69) hx hb dL_lay_23 (by decide) (fun c23 => ?_) (fun c23 => ?_)
  · have hv := hv.1 c23
    refine lv_aload_n hx hb dL_lay_69 rfl (lv_at hl 1 rfl) ?_
    refine lv_iconst (v := 1) hx hb dL_lay_70 (by decide) ?_
    refine lv_aload_n hx hb dL_lay_71 rfl (lv_at hl 0 rfl) ?_
    refine lv_iconst (v := 1) hx hb dL_lay_72 (by decide) ?_
    refine r_hci hS (aa_A (Nat.le_refl _) AA_1 hA2 hS) (va_runS (As := [.ref b, .int 1]) (rest := [.int 1, .ref (ad 81)]) ⟨hx, hb, hml, hown, hts⟩ (c_L_cell (b := b) (L := L) (xs := xs) hi hn (fun k hk e => hbA (e ▸ AA_1 k hk)) 1 _ _ hv H.size (Nat.lt_of_lt_of_le hbl hS.1)) (va_cwS 2 hts gL_lay_L_cell rfl rfl rfl (by decide +kernel) ⟨(Nat.le_of_ble_eq_true rfl), (Nat.le_of_ble_eq_true rfl)⟩) ⟨preL_blind, preL_of hP hK (hX.kept (hS.2.1 b hbl hbA))⟩ rfl rfl hl.1 rfl (lv_room (Nat.le_of_ble_eq_true rfl)) dL_lay_73 ⟨Nat.zero_le _, Nat.zero_le _⟩) (fun r1 s1 H locs hv hP hS => ?_)
    have hD := wd_Dg (A := AA n ad s.heap.size) (cel := celL ad cA) (σ := s1) hi AA_1
    refine lv_bipush (v := 8) hx hb dL_lay_76 (by decide) ?_
    refine r_hci hS (aa_A (Nat.le_refl _) AA_1 hA2 hS) (va_runS (As := [.int r1, .int 8]) (rest := [.int 1, .ref (ad 81)]) ⟨hx, hb, hml, hown, hts⟩ (c_L_up (b := b) (L := L) (xs := xs) hi hn (fun k hk e => hbA (e ▸ AA_1 k hk)) r1 8 _ _ hv H.size (Nat.lt_of_lt_of_le hbl hS.1)) (va_cwS 2 hts gL_lay_L_up rfl rfl rfl (by decide +kernel) ⟨(Nat.le_of_ble_eq_true rfl), (Nat.le_of_ble_eq_true rfl)⟩) ⟨preL_blind, preL_of hP hK (hX.kept (hS.2.1 b hbl hbA))⟩ rfl rfl hl.1 rfl (lv_room (Nat.le_of_ble_eq_true rfl)) dL_lay_78 ⟨Nat.zero_le _, Nat.zero_le _⟩) (fun r2 s2 H locs hv hP hS => ?_)
    have hD := wd_Dg (A := AA n ad s.heap.size) (cel := celL ad cA) (σ := s2) hi AA_1
    refine r_iast hx hb hK.1 hP hD hS 81 (Nat.lt_of_lt_of_le (by decide : 81 < 82) hn) (ceL_81 (s2 81)) (ceL_81 _) (vp_in_of_dec (by decide)) dL_lay_81 (fun H locs s3 es3 hP hD hS => ?_)
    have hv := hv s3 es3
    refine lv_aload_n hx hb dL_lay_82 rfl (lv_at hl 1 rfl) ?_
    refine lv_iconst (v := 2) hx hb dL_lay_83 (by decide) ?_
    refine lv_aload_n hx hb dL_lay_84 rfl (lv_at hl 0 rfl) ?_
    refine lv_iconst (v := 1) hx hb dL_lay_85 (by decide) ?_
    refine r_hci hS (aa_A (Nat.le_refl _) AA_1 hA2 hS) (va_runS (As := [.ref b, .int 1]) (rest := [.int 2, .ref (ad 81)]) ⟨hx, hb, hml, hown, hts⟩ (c_L_cell (b := b) (L := L) (xs := xs) hi hn (fun k hk e => hbA (e ▸ AA_1 k hk)) 1 _ _ hv H.size (Nat.lt_of_lt_of_le hbl hS.1)) (va_cwS 2 hts gL_lay_L_cell rfl rfl rfl (by decide +kernel) ⟨(Nat.le_of_ble_eq_true rfl), (Nat.le_of_ble_eq_true rfl)⟩) ⟨preL_blind, preL_of hP hK (hX.kept (hS.2.1 b hbl hbA))⟩ rfl rfl hl.1 rfl (lv_room (Nat.le_of_ble_eq_true rfl)) dL_lay_86 ⟨Nat.zero_le _, Nat.zero_le _⟩) (fun r4 s4 H locs hv hP hS => ?_)
    have hD := wd_Dg (A := AA n ad s.heap.size) (cel := celL ad cA) (σ := s4) hi AA_1
    refine lv_iconst (v := 4) hx hb dL_lay_89 (by decide) ?_
    refine lv_ishr hx hb dL_lay_90 ?_
    refine lv_iconst (v := 4) hx hb dL_lay_91 (by decide) ?_
    refine r_hci hS (aa_A (Nat.le_refl _) AA_1 hA2 hS) (va_runS (As := [.int (r4 >>> ((4 : Int32) &&& 31)), .int 4]) (rest := [.int 2, .ref (ad 81)]) ⟨hx, hb, hml, hown, hts⟩ (c_L_up (b := b) (L := L) (xs := xs) hi hn (fun k hk e => hbA (e ▸ AA_1 k hk)) (r4 >>> ((4 : Int32) &&& 31)) 4 _ _ hv H.size (Nat.lt_of_lt_of_le hbl hS.1)) (va_cwS 2 hts gL_lay_L_up rfl rfl rfl (by decide +kernel) ⟨(Nat.le_of_ble_eq_true rfl), (Nat.le_of_ble_eq_true rfl)⟩) ⟨preL_blind, preL_of hP hK (hX.kept (hS.2.1 b hbl hbA))⟩ rfl rfl hl.1 rfl (lv_room (Nat.le_of_ble_eq_true rfl)) dL_lay_92 ⟨Nat.zero_le _, Nat.zero_le _⟩) (fun r5 s5 H locs hv hP hS => ?_)
    have hD := wd_Dg (A := AA n ad s.heap.size) (cel := celL ad cA) (σ := s5) hi AA_1
    refine r_iast hx hb hK.1 hP hD hS 81 (Nat.lt_of_lt_of_le (by decide : 81 < 82) hn) (ceL_81 (s5 81)) (ceL_81 _) (vp_in_of_dec (by decide)) dL_lay_95 (fun H locs s6 es6 hP hD hS => ?_)
    have hv := hv s6 es6
    refine lv_iconst (v := 0) hx hb dL_lay_96 (by decide) ?_
    refine lv_istore_n (lv' := [(2, .int 0), (0, .ref b), (1, .ref (ad 81))]) hx hb dL_lay_97 rfl hl (by decide) rfl (fun ls hl => ?_)
    exact hY 98 [0] [] s6 hv _ _ rfl H locs ls hP hS (lv_sub hl [1, 2, 0] rfl)
  · have hv := hv.2 c23
    refine lv_aload_n hx hb dL_lay_26 rfl (lv_at hl 1 rfl) ?_
    refine lv_iconst (v := 4) hx hb dL_lay_27 (by decide) ?_
    refine lv_iload_n hx hb dL_lay_28 rfl (lv_at hl 2 rfl) ?_
    refine lv_iadd hx hb dL_lay_29 ?_
    refine lv_aload_n hx hb dL_lay_30 rfl (lv_at hl 0 rfl) ?_
    refine lv_iconst (v := 0) hx hb dL_lay_31 (by decide) ?_
    refine r_hci hS (aa_A (Nat.le_refl _) AA_1 hA2 hS) (va_runS (As := [.ref b, .int 0]) (rest := [.int (4 + x2), .ref (ad 81)]) ⟨hx, hb, hml, hown, hts⟩ (c_L_cell (b := b) (L := L) (xs := xs) hi hn (fun k hk e => hbA (e ▸ AA_1 k hk)) 0 _ _ hv H.size (Nat.lt_of_lt_of_le hbl hS.1)) (va_cwS 2 hts gL_lay_L_cell rfl rfl rfl (by decide +kernel) ⟨(Nat.le_of_ble_eq_true rfl), (Nat.le_of_ble_eq_true rfl)⟩) ⟨preL_blind, preL_of hP hK (hX.kept (hS.2.1 b hbl hbA))⟩ rfl rfl hl.1 rfl (lv_room (Nat.le_of_ble_eq_true rfl)) dL_lay_32 ⟨Nat.zero_le _, Nat.zero_le _⟩) (fun r7 s7 H locs hv hP hS => ?_)
    have hD := wd_Dg (A := AA n ad s.heap.size) (cel := celL ad cA) (σ := s7) hi AA_1
    refine lv_iconst (v := 3) hx hb dL_lay_35 (by decide) ?_
    refine lv_iload_n hx hb dL_lay_36 rfl (lv_at hl 2 rfl) ?_
    refine lv_imul hx hb dL_lay_37 ?_
    refine lv_ishr hx hb dL_lay_38 ?_
    refine lv_aload_n hx hb dL_lay_39 rfl (lv_at hl 0 rfl) ?_
    refine lv_iconst (v := 0) hx hb dL_lay_40 (by decide) ?_
    refine r_hci hS (aa_A (Nat.le_refl _) AA_1 hA2 hS) (va_runS (As := [.ref b, .int 0]) (rest := [.int (r7 >>> ((3 * x2) &&& 31)), .int (4 + x2), .ref (ad 81)]) ⟨hx, hb, hml, hown, hts⟩ (c_L_cell (b := b) (L := L) (xs := xs) hi hn (fun k hk e => hbA (e ▸ AA_1 k hk)) 0 _ _ hv H.size (Nat.lt_of_lt_of_le hbl hS.1)) (va_cwS 2 hts gL_lay_L_cell rfl rfl rfl (by decide +kernel) ⟨(Nat.le_of_ble_eq_true rfl), (Nat.le_of_ble_eq_true rfl)⟩) ⟨preL_blind, preL_of hP hK (hX.kept (hS.2.1 b hbl hbA))⟩ rfl rfl hl.1 rfl (lv_room (Nat.le_of_ble_eq_true rfl)) dL_lay_41 ⟨Nat.zero_le _, Nat.zero_le _⟩) (fun r8 s8 H locs hv hP hS => ?_)
    have hD := wd_Dg (A := AA n ad s.heap.size) (cel := celL ad cA) (σ := s8) hi AA_1
    refine lv_bipush (v := 20) hx hb dL_lay_44 (by decide) ?_
    refine lv_ishr hx hb dL_lay_46 ?_
    refine lv_iconst (v := 3) hx hb dL_lay_47 (by decide) ?_
    refine r_hci hS (aa_A (Nat.le_refl _) AA_1 hA2 hS) (va_runS (As := [.int (r8 >>> ((20 : Int32) &&& 31)), .int 3]) (rest := [.int (r7 >>> ((3 * x2) &&& 31)), .int (4 + x2), .ref (ad 81)]) ⟨hx, hb, hml, hown, hts⟩ (c_L_up (b := b) (L := L) (xs := xs) hi hn (fun k hk e => hbA (e ▸ AA_1 k hk)) (r8 >>> ((20 : Int32) &&& 31)) 3 _ _ hv H.size (Nat.lt_of_lt_of_le hbl hS.1)) (va_cwS 2 hts gL_lay_L_up rfl rfl rfl (by decide +kernel) ⟨(Nat.le_of_ble_eq_true rfl), (Nat.le_of_ble_eq_true rfl)⟩) ⟨preL_blind, preL_of hP hK (hX.kept (hS.2.1 b hbl hbA))⟩ rfl rfl hl.1 rfl (lv_room (Nat.le_of_ble_eq_true rfl)) dL_lay_48 ⟨Nat.zero_le _, Nat.zero_le _⟩) (fun r9 s9 H locs hv hP hS => ?_)
    have hD := wd_Dg (A := AA n ad s.heap.size) (cel := celL ad cA) (σ := s9) hi AA_1
    refine lv_if_ne (tgt := 58) hx hb dL_lay_51 (by decide) (fun c51 => ?_) (fun c51 => ?_)
    · have hv := hv.1 c51
      refine lv_iconst (v := 2) hx hb dL_lay_58 (by decide) ?_
      exact hY 59 [x2, 2, r7 >>> ((3 * x2) &&& 31), 4 + x2] [] s9 hv _ _ rfl H locs ls hP hS (lv_sub hl [0, 1, 2] rfl)
    · have hv := hv.2 c51
      refine lv_iconst (v := 5) hx hb dL_lay_54 (by decide) ?_
      refine lv_goto (tgt := 59) hx hb dL_lay_55 (by decide) ?_
      exact hY 59 [x2, 5, r7 >>> ((3 * x2) &&& 31), 4 + x2] [] s9 hv _ _ rfl H locs ls hP hS (lv_sub hl [0, 1, 2] rfl)
set_option maxHeartbeats 4000000 in
set_option maxRecDepth 100000 in
theorem w_L_lay_59 {p : Program} {l : Launch} {e : Env} {s : State} {m : MethodId} {args : Array Value} {below : List Frame} {meth : Method} {c : Code} {dC : Nat → ClassId} {dI : Nat → Nat → Nat} {cA cZ : ClassId} {n b L : Nat} {xs : Nat → Int32} {ad : Nat → Nat} (hi : Inj n ad) (hn : 82 ≤ n) (hne : ∀ k, k < n → ad k ≠ b) (C0 : Cx cL_lay RL wsL_lay 4 none p s m args meth c) (hK : KK dC dI cA cZ s) (hX : va_X b L xs s s.heap) (hbl : b < s.heap.size)  (Q : St → Prop) (Y : Nat → List Int32 → List Int64 → St → Prop) (hY : ∀ P xs ys σ, Y P xs ys σ → XX p l e ({ frames := 1, cells := 0, slots := 0, locals := 21 } : Room) s m args below meth c (dC, dI) n ad (celL ad cA) 4 (ZV below args s (dC, dI) n ad (celL ad cA) Q) (lay_L_lay ad b ) P xs ys σ) (x2 : Int32) (t0 : Int32) (t1 : Int32) (t2 : Int32) (s0 : St) (hv : B_L_lay_59 L xs  Q Y x2 t0 t1 t2 s0) {H : Heap} {locs : List Loc} {ls : Array Slot} (hP : va_P (dC, dI) vwCl (wd n ad (celL ad cA) s0) H) (hS : va_S (AA n ad s.heap.size) s.heap H locs) (hl : lv_has ls 4 [(0, .ref b), (1, .ref (ad 81)), (2, .int x2)]) : W p l e ({ frames := 1, cells := 0, slots := 0, locals := 21 } : Room) s m args below meth c H locs 0 0 (ZV below args s (dC, dI) n ad (celL ad cA) Q) (F0 m 59 ls [.int t0, .int t1, .int t2, .ref (ad 81)]) := by
  obtain ⟨hx, hb, hml, hown, hts, hr, hlocks⟩ := C0
  have hbA : ¬ AA n ad s.heap.size b := AA_b hbl hne
  have hA2 : ∀ q, s.heap.size ≤ q → AA n ad s.heap.size q := AA_2
  have hD := wd_Dg (A := AA n ad s.heap.size) (cel := celL ad cA) (σ := s0) hi AA_1
  unfold B_L_lay_59 at hv
  refine r_hci hS (aa_A (Nat.le_refl _) AA_1 hA2 hS) (va_runS (As := [.int t1, .int t0]) (rest := [.int t2, .ref (ad 81)]) ⟨hx, hb, hml, hown, hts⟩ (c_L_up (b := b) (L := L) (xs := xs) hi hn (fun k hk e => hbA (e ▸ AA_1 k hk)) t1 t0 _ _ hv H.size (Nat.lt_of_lt_of_le hbl hS.1)) (va_cwS 2 hts gL_lay_L_up rfl rfl rfl (by decide +kernel) ⟨(Nat.le_of_ble_eq_true rfl), (Nat.le_of_ble_eq_true rfl)⟩) ⟨preL_blind, preL_of hP hK (hX.kept (hS.2.1 b hbl hbA))⟩ rfl rfl hl.1 rfl (lv_room (Nat.le_of_ble_eq_true rfl)) dL_lay_59 ⟨Nat.zero_le _, Nat.zero_le _⟩) (fun r1 s1 H locs hv hP hS => ?_)
  have hD := wd_Dg (A := AA n ad s.heap.size) (cel := celL ad cA) (σ := s1) hi AA_1
  obtain ⟨hin, hv⟩ := hv
  refine r_iast hx hb hK.1 hP hD hS 81 (Nat.lt_of_lt_of_le (by decide : 81 < 82) hn) (ceL_81 (s1 81)) (ceL_81 _) hin dL_lay_62 (fun H locs s2 es2 hP hD hS => ?_)
  have hv := hv s2 es2
  refine lv_iinc (v := x2 + 1) (lv' := [(2, .int (x2 + 1)), (0, .ref b), (1, .ref (ad 81))]) hx hb dL_lay_63 hl (k := 2) rfl rfl (by decide) rfl (fun ls hl => ?_)
  refine lv_goto (tgt := 20) hx hb dL_lay_66 (by decide) ?_
  exact hY 20 [x2 + 1] [] s2 hv _ _ rfl H locs ls hP hS (lv_sub hl [1, 2, 0] rfl)
set_option maxHeartbeats 4000000 in
set_option maxRecDepth 100000 in
theorem w_L_lay_98 {p : Program} {l : Launch} {e : Env} {s : State} {m : MethodId} {args : Array Value} {below : List Frame} {meth : Method} {c : Code} {dC : Nat → ClassId} {dI : Nat → Nat → Nat} {cA cZ : ClassId} {n b L : Nat} {xs : Nat → Int32} {ad : Nat → Nat} (hi : Inj n ad) (hn : 82 ≤ n) (hne : ∀ k, k < n → ad k ≠ b) (C0 : Cx cL_lay RL wsL_lay 4 none p s m args meth c) (hK : KK dC dI cA cZ s) (hX : va_X b L xs s s.heap) (hbl : b < s.heap.size)  (Q : St → Prop) (Y : Nat → List Int32 → List Int64 → St → Prop) (hY : ∀ P xs ys σ, Y P xs ys σ → XX p l e ({ frames := 1, cells := 0, slots := 0, locals := 21 } : Room) s m args below meth c (dC, dI) n ad (celL ad cA) 4 (ZV below args s (dC, dI) n ad (celL ad cA) Q) (lay_L_lay ad b ) P xs ys σ) (x2 : Int32) (s0 : St) (hv : B_L_lay_98 L xs  Q Y x2 s0) {H : Heap} {locs : List Loc} {ls : Array Slot} (hP : va_P (dC, dI) vwCl (wd n ad (celL ad cA) s0) H) (hS : va_S (AA n ad s.heap.size) s.heap H locs) (hl : lv_has ls 4 [(0, .ref b), (1, .ref (ad 81)), (2, .int x2)]) : W p l e ({ frames := 1, cells := 0, slots := 0, locals := 21 } : Room) s m args below meth c H locs 0 0 (ZV below args s (dC, dI) n ad (celL ad cA) Q) (F0 m 98 ls []) := by
  obtain ⟨hx, hb, hml, hown, hts, hr, hlocks⟩ := C0
  have hbA : ¬ AA n ad s.heap.size b := AA_b hbl hne
  have hA2 : ∀ q, s.heap.size ≤ q → AA n ad s.heap.size q := AA_2
  have hD := wd_Dg (A := AA n ad s.heap.size) (cel := celL ad cA) (σ := s0) hi AA_1
  unfold B_L_lay_98 at hv
  refine lv_iload_n hx hb dL_lay_98 rfl (lv_at hl 2 rfl) ?_
  refine lv_aload_n hx hb dL_lay_99 rfl (lv_at hl 1 rfl) ?_
  refine lv_iconst (v := 1) hx hb dL_lay_100 (by decide) ?_
  refine r_iald hx hb hK.1 hP 81 (Nat.lt_of_lt_of_le (by decide : 81 < 82) hn) (ceL_81 (s0 81)) (vp_in_of_dec (by decide)) dL_lay_101 ?_
  refine lv_icmp_ge (tgt := 178) hx hb dL_lay_102 (by decide) (fun c102 => ?_) (fun c102 => ?_)
  · have hv := hv.1 c102
    refine lv_iconst (v := 0) hx hb dL_lay_178 (by decide) ?_
    refine lv_istore_n (lv' := [(2, .int 0), (0, .ref b), (1, .ref (ad 81))]) hx hb dL_lay_179 rfl hl (by decide) rfl (fun ls hl => ?_)
    exact hY 180 [0] [] s0 hv _ _ rfl H locs ls hP hS (lv_sub hl [1, 2, 0] rfl)
  · have hv := hv.2 c102
    refine lv_aload_n hx hb dL_lay_105 rfl (lv_at hl 0 rfl) ?_
    refine lv_iconst (v := 2) hx hb dL_lay_106 (by decide) ?_
    refine lv_iload_n hx hb dL_lay_107 rfl (lv_at hl 2 rfl) ?_
    refine lv_iadd hx hb dL_lay_108 ?_
    refine r_hci hS (aa_A (Nat.le_refl _) AA_1 hA2 hS) (va_runS (As := [.ref b, .int (2 + x2)]) (rest := []) ⟨hx, hb, hml, hown, hts⟩ (c_L_cell (b := b) (L := L) (xs := xs) hi hn (fun k hk e => hbA (e ▸ AA_1 k hk)) (2 + x2) _ _ hv H.size (Nat.lt_of_lt_of_le hbl hS.1)) (va_cwS 2 hts gL_lay_L_cell rfl rfl rfl (by decide +kernel) ⟨(Nat.le_of_ble_eq_true rfl), (Nat.le_of_ble_eq_true rfl)⟩) ⟨preL_blind, preL_of hP hK (hX.kept (hS.2.1 b hbl hbA))⟩ rfl rfl hl.1 rfl (lv_room (Nat.le_of_ble_eq_true rfl)) dL_lay_109 ⟨Nat.zero_le _, Nat.zero_le _⟩) (fun r1 s1 H locs hv hP hS => ?_)
    have hD := wd_Dg (A := AA n ad s.heap.size) (cel := celL ad cA) (σ := s1) hi AA_1
    refine lv_istore_n (lv' := [(3, .int r1), (0, .ref b), (1, .ref (ad 81)), (2, .int x2)]) hx hb dL_lay_112 rfl hl (by decide) rfl (fun ls hl => ?_)
    refine lv_aload_n hx hb dL_lay_113 rfl (lv_at hl 2 rfl) ?_
    refine lv_bipush (v := 10) hx hb dL_lay_114 (by decide) ?_
    refine lv_iload_n hx hb dL_lay_116 rfl (lv_at hl 3 rfl) ?_
    refine lv_iadd hx hb dL_lay_117 ?_
    refine lv_iload_n hx hb dL_lay_118 rfl (lv_at hl 0 rfl) ?_
    refine lv_bipush (v := 6) hx hb dL_lay_119 (by decide) ?_
    refine r_hci hS (aa_A (Nat.le_refl _) AA_1 hA2 hS) (va_runS (As := [.int r1, .int 6]) (rest := [.int (10 + x2), .ref (ad 81)]) ⟨hx, hb, hml, hown, hts⟩ (c_L_up (b := b) (L := L) (xs := xs) hi hn (fun k hk e => hbA (e ▸ AA_1 k hk)) r1 6 _ _ hv H.size (Nat.lt_of_lt_of_le hbl hS.1)) (va_cwS 2 hts gL_lay_L_up rfl rfl rfl (by decide +kernel) ⟨(Nat.le_of_ble_eq_true rfl), (Nat.le_of_ble_eq_true rfl)⟩) ⟨preL_blind, preL_of hP hK (hX.kept (hS.2.1 b hbl hbA))⟩ rfl rfl hl.1 rfl (lv_room (Nat.le_of_ble_eq_true rfl)) dL_lay_121 ⟨Nat.zero_le _, Nat.zero_le _⟩) (fun r2 s2 H locs hv hP hS => ?_)
    have hD := wd_Dg (A := AA n ad s.heap.size) (cel := celL ad cA) (σ := s2) hi AA_1
    obtain ⟨hin, hv⟩ := hv
    refine r_iast hx hb hK.1 hP hD hS 81 (Nat.lt_of_lt_of_le (by decide : 81 < 82) hn) (ceL_81 (s2 81)) (ceL_81 _) hin dL_lay_124 (fun H locs s3 es3 hP hD hS => ?_)
    have hv := hv s3 es3
    refine lv_aload_n hx hb dL_lay_125 rfl (lv_at hl 2 rfl) ?_
    refine lv_bipush (v := 18) hx hb dL_lay_126 (by decide) ?_
    refine lv_iload_n hx hb dL_lay_128 rfl (lv_at hl 3 rfl) ?_
    refine lv_iadd hx hb dL_lay_129 ?_
    refine lv_iconst (v := 1) hx hb dL_lay_130 (by decide) ?_
    refine lv_iload_n hx hb dL_lay_131 rfl (lv_at hl 0 rfl) ?_
    refine lv_iconst (v := 4) hx hb dL_lay_132 (by decide) ?_
    refine lv_ishr hx hb dL_lay_133 ?_
    refine lv_bipush (v := 9) hx hb dL_lay_134 (by decide) ?_
    refine r_hci hS (aa_A (Nat.le_refl _) AA_1 hA2 hS) (va_runS (As := [.int (r1 >>> ((4 : Int32) &&& 31)), .int 9]) (rest := [.int 1, .int (18 + x2), .ref (ad 81)]) ⟨hx, hb, hml, hown, hts⟩ (c_L_up (b := b) (L := L) (xs := xs) hi hn (fun k hk e => hbA (e ▸ AA_1 k hk)) (r1 >>> ((4 : Int32) &&& 31)) 9 _ _ hv H.size (Nat.lt_of_lt_of_le hbl hS.1)) (va_cwS 2 hts gL_lay_L_up rfl rfl rfl (by decide +kernel) ⟨(Nat.le_of_ble_eq_true rfl), (Nat.le_of_ble_eq_true rfl)⟩) ⟨preL_blind, preL_of hP hK (hX.kept (hS.2.1 b hbl hbA))⟩ rfl rfl hl.1 rfl (lv_room (Nat.le_of_ble_eq_true rfl)) dL_lay_136 ⟨Nat.zero_le _, Nat.zero_le _⟩) (fun r4 s4 H locs hv hP hS => ?_)
    have hD := wd_Dg (A := AA n ad s.heap.size) (cel := celL ad cA) (σ := s4) hi AA_1
    refine lv_iadd hx hb dL_lay_139 ?_
    obtain ⟨hin, hv⟩ := hv
    refine r_iast hx hb hK.1 hP hD hS 81 (Nat.lt_of_lt_of_le (by decide : 81 < 82) hn) (ceL_81 (s4 81)) (ceL_81 _) hin dL_lay_140 (fun H locs s5 es5 hP hD hS => ?_)
    have hv := hv s5 es5
    refine lv_aload_n hx hb dL_lay_141 rfl (lv_at hl 2 rfl) ?_
    refine lv_bipush (v := 25) hx hb dL_lay_142 (by decide) ?_
    refine lv_iload_n hx hb dL_lay_144 rfl (lv_at hl 3 rfl) ?_
    refine lv_iadd hx hb dL_lay_145 ?_
    refine lv_iload_n hx hb dL_lay_146 rfl (lv_at hl 0 rfl) ?_
    refine lv_bipush (v := 8) hx hb dL_lay_147 (by decide) ?_
    refine lv_ishr hx hb dL_lay_149 ?_
    refine lv_iload_n hx hb dL_lay_150 rfl (lv_at hl 0 rfl) ?_
    refine lv_bipush (v := 20) hx hb dL_lay_151 (by decide) ?_
    refine lv_ishr hx hb dL_lay_153 ?_
    refine lv_iconst (v := 4) hx hb dL_lay_154 (by decide) ?_
    refine r_hci hS (aa_A (Nat.le_refl _) AA_1 hA2 hS) (va_runS (As := [.int (r1 >>> ((20 : Int32) &&& 31)), .int 4]) (rest := [.int (r1 >>> ((8 : Int32) &&& 31)), .int (25 + x2), .ref (ad 81)]) ⟨hx, hb, hml, hown, hts⟩ (c_L_up (b := b) (L := L) (xs := xs) hi hn (fun k hk e => hbA (e ▸ AA_1 k hk)) (r1 >>> ((20 : Int32) &&& 31)) 4 _ _ hv H.size (Nat.lt_of_lt_of_le hbl hS.1)) (va_cwS 2 hts gL_lay_L_up rfl rfl rfl (by decide +kernel) ⟨(Nat.le_of_ble_eq_true rfl), (Nat.le_of_ble_eq_true rfl)⟩) ⟨preL_blind, preL_of hP hK (hX.kept (hS.2.1 b hbl hbA))⟩ rfl rfl hl.1 rfl (lv_room (Nat.le_of_ble_eq_true rfl)) dL_lay_155 ⟨Nat.zero_le _, Nat.zero_le _⟩) (fun r6 s6 H locs hv hP hS => ?_)
    have hD := wd_Dg (A := AA n ad s.heap.size) (cel := celL ad cA) (σ := s6) hi AA_1
    refine lv_if_ne (tgt := 166) hx hb dL_lay_158 (by decide) (fun c158 => ?_) (fun c158 => ?_)
    · have hv := hv.1 c158
      refine lv_bipush (v := 10) hx hb dL_lay_166 (by decide) ?_
      exact hY 168 [x2, 10, r1 >>> ((8 : Int32) &&& 31), 25 + x2] [] s6 hv _ _ rfl H locs ls hP hS (lv_sub hl [1, 2, 3] rfl)
    · have hv := hv.2 c158
      refine lv_bipush (v := 24) hx hb dL_lay_161 (by decide) ?_
      refine lv_goto (tgt := 168) hx hb dL_lay_163 (by decide) ?_
      exact hY 168 [x2, 24, r1 >>> ((8 : Int32) &&& 31), 25 + x2] [] s6 hv _ _ rfl H locs ls hP hS (lv_sub hl [1, 2, 3] rfl)
set_option maxHeartbeats 4000000 in
set_option maxRecDepth 100000 in
theorem w_L_lay_168 {p : Program} {l : Launch} {e : Env} {s : State} {m : MethodId} {args : Array Value} {below : List Frame} {meth : Method} {c : Code} {dC : Nat → ClassId} {dI : Nat → Nat → Nat} {cA cZ : ClassId} {n b L : Nat} {xs : Nat → Int32} {ad : Nat → Nat} (hi : Inj n ad) (hn : 82 ≤ n) (hne : ∀ k, k < n → ad k ≠ b) (C0 : Cx cL_lay RL wsL_lay 4 none p s m args meth c) (hK : KK dC dI cA cZ s) (hX : va_X b L xs s s.heap) (hbl : b < s.heap.size)  (Q : St → Prop) (Y : Nat → List Int32 → List Int64 → St → Prop) (hY : ∀ P xs ys σ, Y P xs ys σ → XX p l e ({ frames := 1, cells := 0, slots := 0, locals := 21 } : Room) s m args below meth c (dC, dI) n ad (celL ad cA) 4 (ZV below args s (dC, dI) n ad (celL ad cA) Q) (lay_L_lay ad b ) P xs ys σ) (x2 : Int32) (t0 : Int32) (t1 : Int32) (t2 : Int32) (s0 : St) (hv : B_L_lay_168 L xs  Q Y x2 t0 t1 t2 s0) {H : Heap} {locs : List Loc} {ls : Array Slot} (hP : va_P (dC, dI) vwCl (wd n ad (celL ad cA) s0) H) (hS : va_S (AA n ad s.heap.size) s.heap H locs) (hl : lv_has ls 4 [(0, .ref b), (1, .ref (ad 81)), (2, .int x2)]) : W p l e ({ frames := 1, cells := 0, slots := 0, locals := 21 } : Room) s m args below meth c H locs 0 0 (ZV below args s (dC, dI) n ad (celL ad cA) Q) (F0 m 168 ls [.int t0, .int t1, .int t2, .ref (ad 81)]) := by
  obtain ⟨hx, hb, hml, hown, hts, hr, hlocks⟩ := C0
  have hbA : ¬ AA n ad s.heap.size b := AA_b hbl hne
  have hA2 : ∀ q, s.heap.size ≤ q → AA n ad s.heap.size q := AA_2
  have hD := wd_Dg (A := AA n ad s.heap.size) (cel := celL ad cA) (σ := s0) hi AA_1
  unfold B_L_lay_168 at hv
  refine r_hci hS (aa_A (Nat.le_refl _) AA_1 hA2 hS) (va_runS (As := [.int t1, .int t0]) (rest := [.int t2, .ref (ad 81)]) ⟨hx, hb, hml, hown, hts⟩ (c_L_up (b := b) (L := L) (xs := xs) hi hn (fun k hk e => hbA (e ▸ AA_1 k hk)) t1 t0 _ _ hv H.size (Nat.lt_of_lt_of_le hbl hS.1)) (va_cwS 2 hts gL_lay_L_up rfl rfl rfl (by decide +kernel) ⟨(Nat.le_of_ble_eq_true rfl), (Nat.le_of_ble_eq_true rfl)⟩) ⟨preL_blind, preL_of hP hK (hX.kept (hS.2.1 b hbl hbA))⟩ rfl rfl hl.1 rfl (lv_room (Nat.le_of_ble_eq_true rfl)) dL_lay_168 ⟨Nat.zero_le _, Nat.zero_le _⟩) (fun r1 s1 H locs hv hP hS => ?_)
  have hD := wd_Dg (A := AA n ad s.heap.size) (cel := celL ad cA) (σ := s1) hi AA_1
  obtain ⟨hin, hv⟩ := hv
  refine r_iast hx hb hK.1 hP hD hS 81 (Nat.lt_of_lt_of_le (by decide : 81 < 82) hn) (ceL_81 (s1 81)) (ceL_81 _) hin dL_lay_171 (fun H locs s2 es2 hP hD hS => ?_)
  have hv := hv s2 es2
  refine lv_iinc (v := x2 + 1) (lv' := [(2, .int (x2 + 1)), (0, .ref b), (1, .ref (ad 81))]) hx hb dL_lay_172 hl (k := 2) rfl rfl (by decide) rfl (fun ls hl => ?_)
  refine lv_goto (tgt := 98) hx hb dL_lay_175 (by decide) ?_
  exact hY 98 [x2 + 1] [] s2 hv _ _ rfl H locs ls hP hS (lv_sub hl [1, 2, 0] rfl)
set_option maxHeartbeats 4000000 in
set_option maxRecDepth 100000 in
theorem w_L_lay_180 {p : Program} {l : Launch} {e : Env} {s : State} {m : MethodId} {args : Array Value} {below : List Frame} {meth : Method} {c : Code} {dC : Nat → ClassId} {dI : Nat → Nat → Nat} {cA cZ : ClassId} {n b L : Nat} {xs : Nat → Int32} {ad : Nat → Nat} (hi : Inj n ad) (hn : 82 ≤ n) (hne : ∀ k, k < n → ad k ≠ b) (C0 : Cx cL_lay RL wsL_lay 4 none p s m args meth c) (hK : KK dC dI cA cZ s) (hX : va_X b L xs s s.heap) (hbl : b < s.heap.size)  (Q : St → Prop) (Y : Nat → List Int32 → List Int64 → St → Prop) (hY : ∀ P xs ys σ, Y P xs ys σ → XX p l e ({ frames := 1, cells := 0, slots := 0, locals := 21 } : Room) s m args below meth c (dC, dI) n ad (celL ad cA) 4 (ZV below args s (dC, dI) n ad (celL ad cA) Q) (lay_L_lay ad b ) P xs ys σ) (x2 : Int32) (s0 : St) (hv : B_L_lay_180 L xs  Q Y x2 s0) {H : Heap} {locs : List Loc} {ls : Array Slot} (hP : va_P (dC, dI) vwCl (wd n ad (celL ad cA) s0) H) (hS : va_S (AA n ad s.heap.size) s.heap H locs) (hl : lv_has ls 4 [(0, .ref b), (1, .ref (ad 81)), (2, .int x2)]) : W p l e ({ frames := 1, cells := 0, slots := 0, locals := 21 } : Room) s m args below meth c H locs 0 0 (ZV below args s (dC, dI) n ad (celL ad cA) Q) (F0 m 180 ls []) := by
  obtain ⟨hx, hb, hml, hown, hts, hr, hlocks⟩ := C0
  have hbA : ¬ AA n ad s.heap.size b := AA_b hbl hne
  have hA2 : ∀ q, s.heap.size ≤ q → AA n ad s.heap.size q := AA_2
  have hD := wd_Dg (A := AA n ad s.heap.size) (cel := celL ad cA) (σ := s0) hi AA_1
  unfold B_L_lay_180 at hv
  refine lv_iload_n hx hb dL_lay_180 rfl (lv_at hl 2 rfl) ?_
  refine lv_aload_n hx hb dL_lay_181 rfl (lv_at hl 1 rfl) ?_
  refine lv_iconst (v := 2) hx hb dL_lay_182 (by decide) ?_
  refine r_iald hx hb hK.1 hP 81 (Nat.lt_of_lt_of_le (by decide : 81 < 82) hn) (ceL_81 (s0 81)) (vp_in_of_dec (by decide)) dL_lay_183 ?_
  refine lv_icmp_ge (tgt := 243) hx hb dL_lay_184 (by decide) (fun c184 => ?_) (fun c184 => ?_)
  · have hv := hv.1 c184
    exact r_vret hx hb hr hlocks hv hP hS dL_lay_243
  · have hv := hv.2 c184
    refine lv_aload_n hx hb dL_lay_187 rfl (lv_at hl 0 rfl) ?_
    refine lv_bipush (v := 9) hx hb dL_lay_188 (by decide) ?_
    refine lv_iload_n hx hb dL_lay_190 rfl (lv_at hl 2 rfl) ?_
    refine lv_iadd hx hb dL_lay_191 ?_
    refine r_hci hS (aa_A (Nat.le_refl _) AA_1 hA2 hS) (va_runS (As := [.ref b, .int (9 + x2)]) (rest := []) ⟨hx, hb, hml, hown, hts⟩ (c_L_cell (b := b) (L := L) (xs := xs) hi hn (fun k hk e => hbA (e ▸ AA_1 k hk)) (9 + x2) _ _ hv H.size (Nat.lt_of_lt_of_le hbl hS.1)) (va_cwS 2 hts gL_lay_L_cell rfl rfl rfl (by decide +kernel) ⟨(Nat.le_of_ble_eq_true rfl), (Nat.le_of_ble_eq_true rfl)⟩) ⟨preL_blind, preL_of hP hK (hX.kept (hS.2.1 b hbl hbA))⟩ rfl rfl hl.1 rfl (lv_room (Nat.le_of_ble_eq_true rfl)) dL_lay_192 ⟨Nat.zero_le _, Nat.zero_le _⟩) (fun r1 s1 H locs hv hP hS => ?_)
    have hD := wd_Dg (A := AA n ad s.heap.size) (cel := celL ad cA) (σ := s1) hi AA_1
    refine lv_istore_n (lv' := [(3, .int r1), (0, .ref b), (1, .ref (ad 81)), (2, .int x2)]) hx hb dL_lay_195 rfl hl (by decide) rfl (fun ls hl => ?_)
    refine lv_aload_n hx hb dL_lay_196 rfl (lv_at hl 2 rfl) ?_
    refine lv_bipush (v := 33) hx hb dL_lay_197 (by decide) ?_
    refine lv_iload_n hx hb dL_lay_199 rfl (lv_at hl 3 rfl) ?_
    refine lv_iadd hx hb dL_lay_200 ?_
    refine lv_iload_n hx hb dL_lay_201 rfl (lv_at hl 0 rfl) ?_
    refine lv_bipush (v := 6) hx hb dL_lay_202 (by decide) ?_
    refine r_hci hS (aa_A (Nat.le_refl _) AA_1 hA2 hS) (va_runS (As := [.int r1, .int 6]) (rest := [.int (33 + x2), .ref (ad 81)]) ⟨hx, hb, hml, hown, hts⟩ (c_L_up (b := b) (L := L) (xs := xs) hi hn (fun k hk e => hbA (e ▸ AA_1 k hk)) r1 6 _ _ hv H.size (Nat.lt_of_lt_of_le hbl hS.1)) (va_cwS 2 hts gL_lay_L_up rfl rfl rfl (by decide +kernel) ⟨(Nat.le_of_ble_eq_true rfl), (Nat.le_of_ble_eq_true rfl)⟩) ⟨preL_blind, preL_of hP hK (hX.kept (hS.2.1 b hbl hbA))⟩ rfl rfl hl.1 rfl (lv_room (Nat.le_of_ble_eq_true rfl)) dL_lay_204 ⟨Nat.zero_le _, Nat.zero_le _⟩) (fun r2 s2 H locs hv hP hS => ?_)
    have hD := wd_Dg (A := AA n ad s.heap.size) (cel := celL ad cA) (σ := s2) hi AA_1
    obtain ⟨hin, hv⟩ := hv
    refine r_iast hx hb hK.1 hP hD hS 81 (Nat.lt_of_lt_of_le (by decide : 81 < 82) hn) (ceL_81 (s2 81)) (ceL_81 _) hin dL_lay_207 (fun H locs s3 es3 hP hD hS => ?_)
    have hv := hv s3 es3
    refine lv_aload_n hx hb dL_lay_208 rfl (lv_at hl 2 rfl) ?_
    refine lv_bipush (v := 36) hx hb dL_lay_209 (by decide) ?_
    refine lv_iload_n hx hb dL_lay_211 rfl (lv_at hl 3 rfl) ?_
    refine lv_iadd hx hb dL_lay_212 ?_
    refine lv_bipush (v := 8) hx hb dL_lay_213 (by decide) ?_
    refine lv_iload_n hx hb dL_lay_215 rfl (lv_at hl 3 rfl) ?_
    refine lv_imul hx hb dL_lay_216 ?_
    refine lv_iload_n hx hb dL_lay_217 rfl (lv_at hl 0 rfl) ?_
    refine lv_iconst (v := 4) hx hb dL_lay_218 (by decide) ?_
    refine lv_ishr hx hb dL_lay_219 ?_
    refine lv_iload_n hx hb dL_lay_220 rfl (lv_at hl 3 rfl) ?_
    refine lv_iconst (v := 2) hx hb dL_lay_221 (by decide) ?_
    refine lv_icmp_ne (tgt := 230) hx hb dL_lay_222 (by decide) (fun c222 => ?_) (fun c222 => ?_)
    · have hv := hv.1 c222
      refine lv_bipush (v := 8) hx hb dL_lay_230 (by decide) ?_
      exact hY 232 [x2, 8, r1 >>> ((4 : Int32) &&& 31), 8 * x2, 36 + x2] [] s3 hv _ _ rfl H locs ls hP hS (lv_sub hl [1, 2, 3] rfl)
    · have hv := hv.2 c222
      refine lv_bipush (v := 7) hx hb dL_lay_225 (by decide) ?_
      refine lv_goto (tgt := 232) hx hb dL_lay_227 (by decide) ?_
      exact hY 232 [x2, 7, r1 >>> ((4 : Int32) &&& 31), 8 * x2, 36 + x2] [] s3 hv _ _ rfl H locs ls hP hS (lv_sub hl [1, 2, 3] rfl)
set_option maxHeartbeats 4000000 in
set_option maxRecDepth 100000 in
theorem w_L_lay_232 {p : Program} {l : Launch} {e : Env} {s : State} {m : MethodId} {args : Array Value} {below : List Frame} {meth : Method} {c : Code} {dC : Nat → ClassId} {dI : Nat → Nat → Nat} {cA cZ : ClassId} {n b L : Nat} {xs : Nat → Int32} {ad : Nat → Nat} (hi : Inj n ad) (hn : 82 ≤ n) (hne : ∀ k, k < n → ad k ≠ b) (C0 : Cx cL_lay RL wsL_lay 4 none p s m args meth c) (hK : KK dC dI cA cZ s) (hX : va_X b L xs s s.heap) (hbl : b < s.heap.size)  (Q : St → Prop) (Y : Nat → List Int32 → List Int64 → St → Prop) (hY : ∀ P xs ys σ, Y P xs ys σ → XX p l e ({ frames := 1, cells := 0, slots := 0, locals := 21 } : Room) s m args below meth c (dC, dI) n ad (celL ad cA) 4 (ZV below args s (dC, dI) n ad (celL ad cA) Q) (lay_L_lay ad b ) P xs ys σ) (x2 : Int32) (t0 : Int32) (t1 : Int32) (t2 : Int32) (t3 : Int32) (s0 : St) (hv : B_L_lay_232 L xs  Q Y x2 t0 t1 t2 t3 s0) {H : Heap} {locs : List Loc} {ls : Array Slot} (hP : va_P (dC, dI) vwCl (wd n ad (celL ad cA) s0) H) (hS : va_S (AA n ad s.heap.size) s.heap H locs) (hl : lv_has ls 4 [(0, .ref b), (1, .ref (ad 81)), (2, .int x2)]) : W p l e ({ frames := 1, cells := 0, slots := 0, locals := 21 } : Room) s m args below meth c H locs 0 0 (ZV below args s (dC, dI) n ad (celL ad cA) Q) (F0 m 232 ls [.int t0, .int t1, .int t2, .int t3, .ref (ad 81)]) := by
  obtain ⟨hx, hb, hml, hown, hts, hr, hlocks⟩ := C0
  have hbA : ¬ AA n ad s.heap.size b := AA_b hbl hne
  have hA2 : ∀ q, s.heap.size ≤ q → AA n ad s.heap.size q := AA_2
  have hD := wd_Dg (A := AA n ad s.heap.size) (cel := celL ad cA) (σ := s0) hi AA_1
  unfold B_L_lay_232 at hv
  refine r_hci hS (aa_A (Nat.le_refl _) AA_1 hA2 hS) (va_runS (As := [.int t1, .int t0]) (rest := [.int t2, .int t3, .ref (ad 81)]) ⟨hx, hb, hml, hown, hts⟩ (c_L_up (b := b) (L := L) (xs := xs) hi hn (fun k hk e => hbA (e ▸ AA_1 k hk)) t1 t0 _ _ hv H.size (Nat.lt_of_lt_of_le hbl hS.1)) (va_cwS 2 hts gL_lay_L_up rfl rfl rfl (by decide +kernel) ⟨(Nat.le_of_ble_eq_true rfl), (Nat.le_of_ble_eq_true rfl)⟩) ⟨preL_blind, preL_of hP hK (hX.kept (hS.2.1 b hbl hbA))⟩ rfl rfl hl.1 rfl (lv_room (Nat.le_of_ble_eq_true rfl)) dL_lay_232 ⟨Nat.zero_le _, Nat.zero_le _⟩) (fun r1 s1 H locs hv hP hS => ?_)
  have hD := wd_Dg (A := AA n ad s.heap.size) (cel := celL ad cA) (σ := s1) hi AA_1
  refine lv_iadd hx hb dL_lay_235 ?_
  obtain ⟨hin, hv⟩ := hv
  refine r_iast hx hb hK.1 hP hD hS 81 (Nat.lt_of_lt_of_le (by decide : 81 < 82) hn) (ceL_81 (s1 81)) (ceL_81 _) hin dL_lay_236 (fun H locs s2 es2 hP hD hS => ?_)
  have hv := hv s2 es2
  refine lv_iinc (v := x2 + 1) (lv' := [(2, .int (x2 + 1)), (0, .ref b), (1, .ref (ad 81))]) hx hb dL_lay_237 hl (k := 2) rfl rfl (by decide) rfl (fun ls hl => ?_)
  refine lv_goto (tgt := 180) hx hb dL_lay_240 (by decide) ?_
  exact hY 180 [x2 + 1] [] s2 hv _ _ rfl H locs ls hP hS (lv_sub hl [1, 2, 0] rfl)
set_option maxHeartbeats 4000000 in
theorem y_L_lay {p : Program} {l : Launch} {e : Env} {s : State} {m : MethodId} {args : Array Value} {below : List Frame} {meth : Method} {c : Code} {dC : Nat → ClassId} {dI : Nat → Nat → Nat} {cA cZ : ClassId} {n b L : Nat} {xs : Nat → Int32} {ad : Nat → Nat} (hi : Inj n ad) (hn : 82 ≤ n) (hne : ∀ k, k < n → ad k ≠ b) (C0 : Cx cL_lay RL wsL_lay 4 none p s m args meth c) (hK : KK dC dI cA cZ s) (hX : va_X b L xs s s.heap) (hbl : b < s.heap.size)  (Q : St → Prop) : ∀ P xs' ys σ, R_L_lay L xs  Q P xs' ys σ → XX p l e ({ frames := 1, cells := 0, slots := 0, locals := 21 } : Room) s m args below meth c (dC, dI) n ad (celL ad cA) 4 (ZV below args s (dC, dI) n ad (celL ad cA) Q) (lay_L_lay ad b ) P xs' ys σ := by
  refine Fx.elim _ (fun P xs' ys σ Y hY hB => ?_)
  rcases hB with ⟨rfl, x2, rfl, rfl, hB⟩ | ⟨rfl, x2, rfl, rfl, hB⟩ | ⟨rfl, x2, t0, t1, t2, rfl, rfl, hB⟩ | ⟨rfl, x2, rfl, rfl, hB⟩ | ⟨rfl, x2, t0, t1, t2, rfl, rfl, hB⟩ | ⟨rfl, x2, rfl, rfl, hB⟩ | ⟨rfl, x2, t0, t1, t2, t3, rfl, rfl, hB⟩
  · intro lv st he H locs ls hP hS hl
    cases he
    exact w_L_lay_2 hi hn hne C0 hK hX hbl  Q Y hY x2 σ hB hP hS hl
  · intro lv st he H locs ls hP hS hl
    cases he
    exact w_L_lay_20 hi hn hne C0 hK hX hbl  Q Y hY x2 σ hB hP hS hl
  · intro lv st he H locs ls hP hS hl
    cases he
    exact w_L_lay_59 hi hn hne C0 hK hX hbl  Q Y hY x2 t0 t1 t2 σ hB hP hS hl
  · intro lv st he H locs ls hP hS hl
    cases he
    exact w_L_lay_98 hi hn hne C0 hK hX hbl  Q Y hY x2 σ hB hP hS hl
  · intro lv st he H locs ls hP hS hl
    cases he
    exact w_L_lay_168 hi hn hne C0 hK hX hbl  Q Y hY x2 t0 t1 t2 σ hB hP hS hl
  · intro lv st he H locs ls hP hS hl
    cases he
    exact w_L_lay_180 hi hn hne C0 hK hX hbl  Q Y hY x2 σ hB hP hS hl
  · intro lv st he H locs ls hP hS hl
    cases he
    exact w_L_lay_232 hi hn hne C0 hK hX hbl  Q Y hY x2 t0 t1 t2 t3 σ hB hP hS hl
set_option maxHeartbeats 4000000 in
theorem c_L_lay {l : Launch} {dC : Nat → ClassId} {dI : Nat → Nat → Nat} {cA cZ : ClassId} {n b L : Nat} {xs : Nat → Int32} {ad : Nat → Nat} (hi : Inj n ad) (hn : 82 ≤ n) (hne : ∀ k, k < n → ad k ≠ b)  (s0 : St) (Q : St → Prop) (hv : V_L_lay L xs  s0 Q) (sz : Nat) (hbz : b < sz) : Met l yL_lay wsL_lay ({ frames := 1, cells := 0, slots := 0, locals := 21 } : Room) (va_Pc [.ref b, .ref (ad 81)] (PL dC dI cA cZ n ad b L xs sz s0)) (va_Qv Q (fun u t => va_P (dC, dI) vwCl (wd n ad (celL ad cA) u) t.heap) (AA n ad sz)) 0 0 (AA n ad sz) := by
  refine Met.ofW (cc := cL_lay) (maxL := 4) (ret := none) (by decide) rfl ?_
  intro p e s m args below meth c s₁ B hml hv0
  obtain ⟨rfl, hsz, hP, hK, hX⟩ := hv0
  subst hsz
  have C0 : Cx cL_lay RL wsL_lay 4 none p s m ([.ref b, .ref (ad 81)] : List Value).toArray meth c := ⟨B.exec, B.bytes, hml, findClass_of_methodNamed B.named, atoms_spec (ws := wsL_lay) B.pre, B.returns, B.notSynchronized⟩
  have hl := lv_entry ([.ref b, .ref (ad 81)]) (n := 4) (Nat.le_of_ble_eq_true rfl)
  rw [lg_entry_eq]
  generalize (lg_sl ([.ref b, .ref (ad 81)]) ++ List.replicate (4 - (lg_sl ([.ref b, .ref (ad 81)])).length) Slot.unset).toArray = ls at hl ⊢
  have hl : lv_has ls 4 [(0, .ref b), (1, .ref (ad 81))] := hl
  exact w_L_lay_e hi hn hne C0 hK hX hbz  Q (R_L_lay L xs  Q) (y_L_lay hi hn hne C0 hK hX hbz  Q)  s0 hv hP va_S.rf hl
def lay_L_made (ad : Nat → Nat) (b : Nat)  : Nat → List Int32 → List Int64 → Option (List (Nat × Value) × List Value) := fun P xs ys => match P, xs, ys with
  | 15, [x2, x3], [] => some ([(0, .ref (ad 0)), (1, .ref (ad 81)), (2, .int x2), (3, .int x3)], [])
  | 52, [x2, x3], [] => some ([(0, .ref (ad 0)), (1, .ref (ad 81)), (2, .int x2), (3, .int x3)], [])
  | 103, [x2, x3], [] => some ([(0, .ref (ad 0)), (1, .ref (ad 81)), (2, .int x2), (3, .int x3)], [])
  | _, _, _ => none
set_option maxHeartbeats 4000000 in
set_option maxRecDepth 100000 in
theorem w_L_made_e {p : Program} {l : Launch} {e : Env} {s : State} {m : MethodId} {args : Array Value} {below : List Frame} {meth : Method} {c : Code} {dC : Nat → ClassId} {dI : Nat → Nat → Nat} {cA cZ : ClassId} {n b L : Nat} {xs : Nat → Int32} {ad : Nat → Nat} (hi : Inj n ad) (hn : 82 ≤ n) (hne : ∀ k, k < n → ad k ≠ b) (C0 : Cx cL_made RL wsL_made 4 (some .boolean) p s m args meth c) (hK : KK dC dI cA cZ s) (hX : va_X b L xs s s.heap) (hbl : b < s.heap.size)  (Q : Int32 → St → Prop) (Y : Nat → List Int32 → List Int64 → St → Prop) (hY : ∀ P xs ys σ, Y P xs ys σ → XX p l e ({ frames := 3, cells := 0, slots := 0, locals := 65 } : Room) s m args below meth c (dC, dI) n ad (celL ad cA) 4 (ZZ below args s (dC, dI) n ad (celL ad cA) Q) (lay_L_made ad b ) P xs ys σ)  (s0 : St) (hv : B_L_made_e  Q Y  s0) {H : Heap} {locs : List Loc} {ls : Array Slot} (hP : va_P (dC, dI) vwCl (wd n ad (celL ad cA) s0) H) (hS : va_S (AA n ad s.heap.size) s.heap H locs) (hl : lv_has ls 4 [(0, .ref (ad 0)), (1, .ref (ad 81))]) : W p l e ({ frames := 3, cells := 0, slots := 0, locals := 65 } : Room) s m args below meth c H locs 0 0 (ZZ below args s (dC, dI) n ad (celL ad cA) Q) (F0 m 0 ls []) := by
  obtain ⟨hx, hb, hml, hown, hts, hr, hlocks⟩ := C0
  have hbA : ¬ AA n ad s.heap.size b := AA_b hbl hne
  have hA2 : ∀ q, s.heap.size ≤ q → AA n ad s.heap.size q := AA_2
  have hD := wd_Dg (A := AA n ad s.heap.size) (cel := celL ad cA) (σ := s0) hi AA_1
  unfold B_L_made_e at hv
  refine lv_aload_n hx hb dL_made_0 rfl (lv_at hl 0 rfl) ?_
  refine r_lci hi hP hS (aa_A (Nat.le_trans (by decide) hn) AA_1 hA2 hS) (va_runV (As := []) (rest := []) ⟨hx, hb, hml, hown, hts⟩ (c_X10_street (inj_le (Nat.le_trans (by decide) hn) hi)  _ _ hv H.size) (cwV 0 hts gL_made_X10_street rfl rfl rfl (by decide +kernel) ⟨(Nat.le_of_ble_eq_true rfl), (Nat.le_of_ble_eq_true rfl)⟩) ⟨pre_blind, r_recv hK.1 (wd_cls (Nat.le_trans (by decide) hn) hP) 0 (by decide) (ceGR_0 (s0 0)) rfl, pre_of (wd_cls (Nat.le_trans (by decide) hn) hP) hK⟩ rfl rfl hl.1 rfl (lv_room (Nat.le_of_ble_eq_true rfl)) dL_made_1 ⟨Nat.zero_le _, Nat.zero_le _⟩) (fun r1 s1 H locs hv hP hS => ?_)
  have hD := wd_Dg (A := AA n ad s.heap.size) (cel := celL ad cA) (σ := s1) hi AA_1
  refine lv_if_ne (tgt := 11) hx hb dL_made_4 (by decide) (fun c4 => ?_) (fun c4 => ?_)
  · have hv := hv.1 c4
    refine lv_iconst (v := 0) hx hb dL_made_11 (by decide) ?_
    refine lv_istore_n (lv' := [(2, .int 0), (0, .ref (ad 0)), (1, .ref (ad 81))]) hx hb dL_made_12 rfl hl (by decide) rfl (fun ls hl => ?_)
    refine lv_iconst (v := 0) hx hb dL_made_13 (by decide) ?_
    refine lv_istore_n (lv' := [(3, .int 0), (2, .int 0), (0, .ref (ad 0)), (1, .ref (ad 81))]) hx hb dL_made_14 rfl hl (by decide) rfl (fun ls hl => ?_)
    exact hY 15 [0, 0] [] s1 hv _ _ rfl H locs ls hP hS (lv_sub hl [2, 3, 1, 0] rfl)
  · have hv := hv.2 c4
    refine lv_iconst (v := 1) hx hb dL_made_7 (by decide) ?_
    refine lv_goto (tgt := 12) hx hb dL_made_8 (by decide) ?_
    refine lv_istore_n (lv' := [(2, .int 1), (0, .ref (ad 0)), (1, .ref (ad 81))]) hx hb dL_made_12 rfl hl (by decide) rfl (fun ls hl => ?_)
    refine lv_iconst (v := 0) hx hb dL_made_13 (by decide) ?_
    refine lv_istore_n (lv' := [(3, .int 0), (2, .int 1), (0, .ref (ad 0)), (1, .ref (ad 81))]) hx hb dL_made_14 rfl hl (by decide) rfl (fun ls hl => ?_)
    exact hY 15 [1, 0] [] s1 hv _ _ rfl H locs ls hP hS (lv_sub hl [2, 3, 1, 0] rfl)
set_option maxHeartbeats 4000000 in
set_option maxRecDepth 100000 in
theorem w_L_made_15 {p : Program} {l : Launch} {e : Env} {s : State} {m : MethodId} {args : Array Value} {below : List Frame} {meth : Method} {c : Code} {dC : Nat → ClassId} {dI : Nat → Nat → Nat} {cA cZ : ClassId} {n b L : Nat} {xs : Nat → Int32} {ad : Nat → Nat} (hi : Inj n ad) (hn : 82 ≤ n) (hne : ∀ k, k < n → ad k ≠ b) (C0 : Cx cL_made RL wsL_made 4 (some .boolean) p s m args meth c) (hK : KK dC dI cA cZ s) (hX : va_X b L xs s s.heap) (hbl : b < s.heap.size)  (Q : Int32 → St → Prop) (Y : Nat → List Int32 → List Int64 → St → Prop) (hY : ∀ P xs ys σ, Y P xs ys σ → XX p l e ({ frames := 3, cells := 0, slots := 0, locals := 65 } : Room) s m args below meth c (dC, dI) n ad (celL ad cA) 4 (ZZ below args s (dC, dI) n ad (celL ad cA) Q) (lay_L_made ad b ) P xs ys σ) (x2 : Int32) (x3 : Int32) (s0 : St) (hv : B_L_made_15  Q Y x2 x3 s0) {H : Heap} {locs : List Loc} {ls : Array Slot} (hP : va_P (dC, dI) vwCl (wd n ad (celL ad cA) s0) H) (hS : va_S (AA n ad s.heap.size) s.heap H locs) (hl : lv_has ls 4 [(0, .ref (ad 0)), (1, .ref (ad 81)), (2, .int x2), (3, .int x3)]) : W p l e ({ frames := 3, cells := 0, slots := 0, locals := 65 } : Room) s m args below meth c H locs 0 0 (ZZ below args s (dC, dI) n ad (celL ad cA) Q) (F0 m 15 ls []) := by
  obtain ⟨hx, hb, hml, hown, hts, hr, hlocks⟩ := C0
  have hbA : ¬ AA n ad s.heap.size b := AA_b hbl hne
  have hA2 : ∀ q, s.heap.size ≤ q → AA n ad s.heap.size q := AA_2
  have hD := wd_Dg (A := AA n ad s.heap.size) (cel := celL ad cA) (σ := s0) hi AA_1
  unfold B_L_made_15 at hv
  refine lv_iload_n hx hb dL_made_15 rfl (lv_at hl 3 rfl) ?_
  refine lv_bipush (v := 6) hx hb dL_made_16 (by decide) ?_
  refine lv_icmp_ge (tgt := 50) hx hb dL_made_18 (by decide) (fun c18 => ?_) (fun c18 => ?_)
  · have hv := hv.1 c18
    refine lv_iconst (v := 0) hx hb dL_made_50 (by decide) ?_
    refine lv_istore_n (lv' := [(3, .int 0), (0, .ref (ad 0)), (1, .ref (ad 81)), (2, .int x2)]) hx hb dL_made_51 rfl hl (by decide) rfl (fun ls hl => ?_)
    exact hY 52 [x2, 0] [] s0 hv _ _ rfl H locs ls hP hS (lv_sub hl [1, 2, 3, 0] rfl)
  · have hv := hv.2 c18
    refine lv_iload_n hx hb dL_made_21 rfl (lv_at hl 2 rfl) ?_
    refine lv_if_eq (tgt := 42) hx hb dL_made_22 (by decide) (fun c22 => ?_) (fun c22 => ?_)
    · have hv := hv.1 c22
      refine lv_iconst (v := 0) hx hb dL_made_42 (by decide) ?_
      refine lv_istore_n (lv' := [(2, .int 0), (0, .ref (ad 0)), (1, .ref (ad 81)), (3, .int x3)]) hx hb dL_made_43 rfl hl (by decide) rfl (fun ls hl => ?_)
      refine lv_iinc (v := x3 + 1) (lv' := [(3, .int (x3 + 1)), (2, .int 0), (0, .ref (ad 0)), (1, .ref (ad 81))]) hx hb dL_made_44 hl (k := 3) rfl rfl (by decide) rfl (fun ls hl => ?_)
      refine lv_goto (tgt := 15) hx hb dL_made_47 (by decide) ?_
      exact hY 15 [0, x3 + 1] [] s0 hv _ _ rfl H locs ls hP hS (lv_sub hl [2, 3, 1, 0] rfl)
    · have hv := hv.2 c22
      refine lv_aload_n hx hb dL_made_25 rfl (lv_at hl 0 rfl) ?_
      refine lv_iload_n hx hb dL_made_26 rfl (lv_at hl 3 rfl) ?_
      refine lv_aload_n hx hb dL_made_27 rfl (lv_at hl 1 rfl) ?_
      refine lv_iconst (v := 4) hx hb dL_made_28 (by decide) ?_
      refine lv_iload_n hx hb dL_made_29 rfl (lv_at hl 3 rfl) ?_
      refine lv_iadd hx hb dL_made_30 ?_
      obtain ⟨hin, hv⟩ := hv
      refine r_iald hx hb hK.1 hP 81 (Nat.lt_of_lt_of_le (by decide : 81 < 82) hn) (ceL_81 (s0 81)) hin dL_made_31 ?_
      refine r_lci hi hP hS (aa_A (Nat.le_trans (by decide) hn) AA_1 hA2 hS) (va_runV (As := [.int x3, .int (s0 81 (4 + x3).toNatClampNeg)]) (rest := []) ⟨hx, hb, hml, hown, hts⟩ (c_X10_wet (inj_le (Nat.le_trans (by decide) hn) hi) x3 (s0 81 (4 + x3).toNatClampNeg) _ _ hv H.size) (cwV 2 hts gL_made_X10_wet rfl rfl rfl (by decide +kernel) ⟨(Nat.le_of_ble_eq_true rfl), (Nat.le_of_ble_eq_true rfl)⟩) ⟨pre_blind, r_recv hK.1 (wd_cls (Nat.le_trans (by decide) hn) hP) 0 (by decide) (ceGR_0 (s0 0)) rfl, pre_of (wd_cls (Nat.le_trans (by decide) hn) hP) hK⟩ rfl rfl hl.1 rfl (lv_room (Nat.le_of_ble_eq_true rfl)) dL_made_32 ⟨Nat.zero_le _, Nat.zero_le _⟩) (fun r1 s1 H locs hv hP hS => ?_)
      have hD := wd_Dg (A := AA n ad s.heap.size) (cel := celL ad cA) (σ := s1) hi AA_1
      refine lv_if_ne (tgt := 42) hx hb dL_made_35 (by decide) (fun c35 => ?_) (fun c35 => ?_)
      · have hv := hv.1 c35
        refine lv_iconst (v := 0) hx hb dL_made_42 (by decide) ?_
        refine lv_istore_n (lv' := [(2, .int 0), (0, .ref (ad 0)), (1, .ref (ad 81)), (3, .int x3)]) hx hb dL_made_43 rfl hl (by decide) rfl (fun ls hl => ?_)
        refine lv_iinc (v := x3 + 1) (lv' := [(3, .int (x3 + 1)), (2, .int 0), (0, .ref (ad 0)), (1, .ref (ad 81))]) hx hb dL_made_44 hl (k := 3) rfl rfl (by decide) rfl (fun ls hl => ?_)
        refine lv_goto (tgt := 15) hx hb dL_made_47 (by decide) ?_
        exact hY 15 [0, x3 + 1] [] s1 hv _ _ rfl H locs ls hP hS (lv_sub hl [2, 3, 1, 0] rfl)
      · have hv := hv.2 c35
        refine lv_iconst (v := 1) hx hb dL_made_38 (by decide) ?_
        refine lv_goto (tgt := 43) hx hb dL_made_39 (by decide) ?_
        refine lv_istore_n (lv' := [(2, .int 1), (0, .ref (ad 0)), (1, .ref (ad 81)), (3, .int x3)]) hx hb dL_made_43 rfl hl (by decide) rfl (fun ls hl => ?_)
        refine lv_iinc (v := x3 + 1) (lv' := [(3, .int (x3 + 1)), (2, .int 1), (0, .ref (ad 0)), (1, .ref (ad 81))]) hx hb dL_made_44 hl (k := 3) rfl rfl (by decide) rfl (fun ls hl => ?_)
        refine lv_goto (tgt := 15) hx hb dL_made_47 (by decide) ?_
        exact hY 15 [1, x3 + 1] [] s1 hv _ _ rfl H locs ls hP hS (lv_sub hl [2, 3, 1, 0] rfl)
set_option maxHeartbeats 4000000 in
set_option maxRecDepth 100000 in
theorem w_L_made_52 {p : Program} {l : Launch} {e : Env} {s : State} {m : MethodId} {args : Array Value} {below : List Frame} {meth : Method} {c : Code} {dC : Nat → ClassId} {dI : Nat → Nat → Nat} {cA cZ : ClassId} {n b L : Nat} {xs : Nat → Int32} {ad : Nat → Nat} (hi : Inj n ad) (hn : 82 ≤ n) (hne : ∀ k, k < n → ad k ≠ b) (C0 : Cx cL_made RL wsL_made 4 (some .boolean) p s m args meth c) (hK : KK dC dI cA cZ s) (hX : va_X b L xs s s.heap) (hbl : b < s.heap.size)  (Q : Int32 → St → Prop) (Y : Nat → List Int32 → List Int64 → St → Prop) (hY : ∀ P xs ys σ, Y P xs ys σ → XX p l e ({ frames := 3, cells := 0, slots := 0, locals := 65 } : Room) s m args below meth c (dC, dI) n ad (celL ad cA) 4 (ZZ below args s (dC, dI) n ad (celL ad cA) Q) (lay_L_made ad b ) P xs ys σ) (x2 : Int32) (x3 : Int32) (s0 : St) (hv : B_L_made_52  Q Y x2 x3 s0) {H : Heap} {locs : List Loc} {ls : Array Slot} (hP : va_P (dC, dI) vwCl (wd n ad (celL ad cA) s0) H) (hS : va_S (AA n ad s.heap.size) s.heap H locs) (hl : lv_has ls 4 [(0, .ref (ad 0)), (1, .ref (ad 81)), (2, .int x2), (3, .int x3)]) : W p l e ({ frames := 3, cells := 0, slots := 0, locals := 65 } : Room) s m args below meth c H locs 0 0 (ZZ below args s (dC, dI) n ad (celL ad cA) Q) (F0 m 52 ls []) := by
  obtain ⟨hx, hb, hml, hown, hts, hr, hlocks⟩ := C0
  have hbA : ¬ AA n ad s.heap.size b := AA_b hbl hne
  have hA2 : ∀ q, s.heap.size ≤ q → AA n ad s.heap.size q := AA_2
  have hD := wd_Dg (A := AA n ad s.heap.size) (cel := celL ad cA) (σ := s0) hi AA_1
  unfold B_L_made_52 at hv
  refine lv_iload_n hx hb dL_made_52 rfl (lv_at hl 3 rfl) ?_
  refine lv_aload_n hx hb dL_made_53 rfl (lv_at hl 1 rfl) ?_
  refine lv_iconst (v := 1) hx hb dL_made_54 (by decide) ?_
  refine r_iald hx hb hK.1 hP 81 (Nat.lt_of_lt_of_le (by decide : 81 < 82) hn) (ceL_81 (s0 81)) (vp_in_of_dec (by decide)) dL_made_55 ?_
  refine lv_icmp_ge (tgt := 101) hx hb dL_made_56 (by decide) (fun c56 => ?_) (fun c56 => ?_)
  · have hv := hv.1 c56
    refine lv_iconst (v := 0) hx hb dL_made_101 (by decide) ?_
    refine lv_istore_n (lv' := [(3, .int 0), (0, .ref (ad 0)), (1, .ref (ad 81)), (2, .int x2)]) hx hb dL_made_102 rfl hl (by decide) rfl (fun ls hl => ?_)
    exact hY 103 [x2, 0] [] s0 hv _ _ rfl H locs ls hP hS (lv_sub hl [1, 2, 3, 0] rfl)
  · have hv := hv.2 c56
    refine lv_iload_n hx hb dL_made_59 rfl (lv_at hl 2 rfl) ?_
    refine lv_if_eq (tgt := 93) hx hb dL_made_60 (by decide) (fun c60 => ?_) (fun c60 => ?_)
    · have hv := hv.1 c60
      refine lv_iconst (v := 0) hx hb dL_made_93 (by decide) ?_
      refine lv_istore_n (lv' := [(2, .int 0), (0, .ref (ad 0)), (1, .ref (ad 81)), (3, .int x3)]) hx hb dL_made_94 rfl hl (by decide) rfl (fun ls hl => ?_)
      refine lv_iinc (v := x3 + 1) (lv' := [(3, .int (x3 + 1)), (2, .int 0), (0, .ref (ad 0)), (1, .ref (ad 81))]) hx hb dL_made_95 hl (k := 3) rfl rfl (by decide) rfl (fun ls hl => ?_)
      refine lv_goto (tgt := 52) hx hb dL_made_98 (by decide) ?_
      exact hY 52 [0, x3 + 1] [] s0 hv _ _ rfl H locs ls hP hS (lv_sub hl [2, 3, 1, 0] rfl)
    · have hv := hv.2 c60
      refine lv_aload_n hx hb dL_made_63 rfl (lv_at hl 0 rfl) ?_
      refine lv_aload_n hx hb dL_made_64 rfl (lv_at hl 1 rfl) ?_
      refine lv_bipush (v := 10) hx hb dL_made_65 (by decide) ?_
      refine lv_iload_n hx hb dL_made_67 rfl (lv_at hl 3 rfl) ?_
      refine lv_iadd hx hb dL_made_68 ?_
      obtain ⟨hin, hv⟩ := hv
      refine r_iald hx hb hK.1 hP 81 (Nat.lt_of_lt_of_le (by decide : 81 < 82) hn) (ceL_81 (s0 81)) hin dL_made_69 ?_
      refine lv_aload_n hx hb dL_made_70 rfl (lv_at hl 1 rfl) ?_
      refine lv_bipush (v := 18) hx hb dL_made_71 (by decide) ?_
      refine lv_iload_n hx hb dL_made_73 rfl (lv_at hl 3 rfl) ?_
      refine lv_iadd hx hb dL_made_74 ?_
      obtain ⟨hin, hv⟩ := hv
      refine r_iald hx hb hK.1 hP 81 (Nat.lt_of_lt_of_le (by decide : 81 < 82) hn) (ceL_81 (s0 81)) hin dL_made_75 ?_
      refine lv_aload_n hx hb dL_made_76 rfl (lv_at hl 1 rfl) ?_
      refine lv_bipush (v := 25) hx hb dL_made_77 (by decide) ?_
      refine lv_iload_n hx hb dL_made_79 rfl (lv_at hl 3 rfl) ?_
      refine lv_iadd hx hb dL_made_80 ?_
      obtain ⟨hin, hv⟩ := hv
      refine r_iald hx hb hK.1 hP 81 (Nat.lt_of_lt_of_le (by decide : 81 < 82) hn) (ceL_81 (s0 81)) hin dL_made_81 ?_
      refine r_lci hi hP hS (aa_A (Nat.le_trans (by decide) hn) AA_1 hA2 hS) (va_runV (As := [.int (s0 81 (10 + x3).toNatClampNeg), .int (s0 81 (18 + x3).toNatClampNeg), .int (s0 81 (25 + x3).toNatClampNeg)]) (rest := []) ⟨hx, hb, hml, hown, hts⟩ (c_X10_glove (inj_le (Nat.le_trans (by decide) hn) hi) (s0 81 (10 + x3).toNatClampNeg) (s0 81 (18 + x3).toNatClampNeg) (s0 81 (25 + x3).toNatClampNeg) _ _ hv H.size) (cwV 3 hts gL_made_X10_glove rfl rfl rfl (by decide +kernel) ⟨(Nat.le_of_ble_eq_true rfl), (Nat.le_of_ble_eq_true rfl)⟩) ⟨pre_blind, r_recv hK.1 (wd_cls (Nat.le_trans (by decide) hn) hP) 0 (by decide) (ceGR_0 (s0 0)) rfl, pre_of (wd_cls (Nat.le_trans (by decide) hn) hP) hK⟩ rfl rfl hl.1 rfl (lv_room (Nat.le_of_ble_eq_true rfl)) dL_made_82 ⟨Nat.zero_le _, Nat.zero_le _⟩) (fun r1 s1 H locs hv hP hS => ?_)
      have hD := wd_Dg (A := AA n ad s.heap.size) (cel := celL ad cA) (σ := s1) hi AA_1
      refine lv_iload_n hx hb dL_made_85 rfl (lv_at hl 3 rfl) ?_
      refine lv_icmp_ne (tgt := 93) hx hb dL_made_86 (by decide) (fun c86 => ?_) (fun c86 => ?_)
      · have hv := hv.1 c86
        refine lv_iconst (v := 0) hx hb dL_made_93 (by decide) ?_
        refine lv_istore_n (lv' := [(2, .int 0), (0, .ref (ad 0)), (1, .ref (ad 81)), (3, .int x3)]) hx hb dL_made_94 rfl hl (by decide) rfl (fun ls hl => ?_)
        refine lv_iinc (v := x3 + 1) (lv' := [(3, .int (x3 + 1)), (2, .int 0), (0, .ref (ad 0)), (1, .ref (ad 81))]) hx hb dL_made_95 hl (k := 3) rfl rfl (by decide) rfl (fun ls hl => ?_)
        refine lv_goto (tgt := 52) hx hb dL_made_98 (by decide) ?_
        exact hY 52 [0, x3 + 1] [] s1 hv _ _ rfl H locs ls hP hS (lv_sub hl [2, 3, 1, 0] rfl)
      · have hv := hv.2 c86
        refine lv_iconst (v := 1) hx hb dL_made_89 (by decide) ?_
        refine lv_goto (tgt := 94) hx hb dL_made_90 (by decide) ?_
        refine lv_istore_n (lv' := [(2, .int 1), (0, .ref (ad 0)), (1, .ref (ad 81)), (3, .int x3)]) hx hb dL_made_94 rfl hl (by decide) rfl (fun ls hl => ?_)
        refine lv_iinc (v := x3 + 1) (lv' := [(3, .int (x3 + 1)), (2, .int 1), (0, .ref (ad 0)), (1, .ref (ad 81))]) hx hb dL_made_95 hl (k := 3) rfl rfl (by decide) rfl (fun ls hl => ?_)
        refine lv_goto (tgt := 52) hx hb dL_made_98 (by decide) ?_
        exact hY 52 [1, x3 + 1] [] s1 hv _ _ rfl H locs ls hP hS (lv_sub hl [2, 3, 1, 0] rfl)
set_option maxHeartbeats 4000000 in
set_option maxRecDepth 100000 in
theorem w_L_made_103 {p : Program} {l : Launch} {e : Env} {s : State} {m : MethodId} {args : Array Value} {below : List Frame} {meth : Method} {c : Code} {dC : Nat → ClassId} {dI : Nat → Nat → Nat} {cA cZ : ClassId} {n b L : Nat} {xs : Nat → Int32} {ad : Nat → Nat} (hi : Inj n ad) (hn : 82 ≤ n) (hne : ∀ k, k < n → ad k ≠ b) (C0 : Cx cL_made RL wsL_made 4 (some .boolean) p s m args meth c) (hK : KK dC dI cA cZ s) (hX : va_X b L xs s s.heap) (hbl : b < s.heap.size)  (Q : Int32 → St → Prop) (Y : Nat → List Int32 → List Int64 → St → Prop) (hY : ∀ P xs ys σ, Y P xs ys σ → XX p l e ({ frames := 3, cells := 0, slots := 0, locals := 65 } : Room) s m args below meth c (dC, dI) n ad (celL ad cA) 4 (ZZ below args s (dC, dI) n ad (celL ad cA) Q) (lay_L_made ad b ) P xs ys σ) (x2 : Int32) (x3 : Int32) (s0 : St) (hv : B_L_made_103  Q Y x2 x3 s0) {H : Heap} {locs : List Loc} {ls : Array Slot} (hP : va_P (dC, dI) vwCl (wd n ad (celL ad cA) s0) H) (hS : va_S (AA n ad s.heap.size) s.heap H locs) (hl : lv_has ls 4 [(0, .ref (ad 0)), (1, .ref (ad 81)), (2, .int x2), (3, .int x3)]) : W p l e ({ frames := 3, cells := 0, slots := 0, locals := 65 } : Room) s m args below meth c H locs 0 0 (ZZ below args s (dC, dI) n ad (celL ad cA) Q) (F0 m 103 ls []) := by
  obtain ⟨hx, hb, hml, hown, hts, hr, hlocks⟩ := C0
  have hbA : ¬ AA n ad s.heap.size b := AA_b hbl hne
  have hA2 : ∀ q, s.heap.size ≤ q → AA n ad s.heap.size q := AA_2
  have hD := wd_Dg (A := AA n ad s.heap.size) (cel := celL ad cA) (σ := s0) hi AA_1
  unfold B_L_made_103 at hv
  refine lv_iload_n hx hb dL_made_103 rfl (lv_at hl 3 rfl) ?_
  refine lv_aload_n hx hb dL_made_104 rfl (lv_at hl 1 rfl) ?_
  refine lv_iconst (v := 2) hx hb dL_made_105 (by decide) ?_
  refine r_iald hx hb hK.1 hP 81 (Nat.lt_of_lt_of_le (by decide : 81 < 82) hn) (ceL_81 (s0 81)) (vp_in_of_dec (by decide)) dL_made_106 ?_
  refine lv_icmp_ge (tgt := 146) hx hb dL_made_107 (by decide) (fun c107 => ?_) (fun c107 => ?_)
  · have hv := hv.1 c107
    refine lv_iload_n hx hb dL_made_146 rfl (lv_at hl 2 rfl) ?_
    obtain ⟨hz, hv⟩ := hv
    exact r_zret hx hb hr hlocks hz hv hP hS dL_made_147
  · have hv := hv.2 c107
    refine lv_iload_n hx hb dL_made_110 rfl (lv_at hl 2 rfl) ?_
    refine lv_if_eq (tgt := 138) hx hb dL_made_111 (by decide) (fun c111 => ?_) (fun c111 => ?_)
    · have hv := hv.1 c111
      refine lv_iconst (v := 0) hx hb dL_made_138 (by decide) ?_
      refine lv_istore_n (lv' := [(2, .int 0), (0, .ref (ad 0)), (1, .ref (ad 81)), (3, .int x3)]) hx hb dL_made_139 rfl hl (by decide) rfl (fun ls hl => ?_)
      refine lv_iinc (v := x3 + 1) (lv' := [(3, .int (x3 + 1)), (2, .int 0), (0, .ref (ad 0)), (1, .ref (ad 81))]) hx hb dL_made_140 hl (k := 3) rfl rfl (by decide) rfl (fun ls hl => ?_)
      refine lv_goto (tgt := 103) hx hb dL_made_143 (by decide) ?_
      exact hY 103 [0, x3 + 1] [] s0 hv _ _ rfl H locs ls hP hS (lv_sub hl [2, 3, 1, 0] rfl)
    · have hv := hv.2 c111
      refine lv_aload_n hx hb dL_made_114 rfl (lv_at hl 0 rfl) ?_
      refine lv_aload_n hx hb dL_made_115 rfl (lv_at hl 1 rfl) ?_
      refine lv_bipush (v := 33) hx hb dL_made_116 (by decide) ?_
      refine lv_iload_n hx hb dL_made_118 rfl (lv_at hl 3 rfl) ?_
      refine lv_iadd hx hb dL_made_119 ?_
      obtain ⟨hin, hv⟩ := hv
      refine r_iald hx hb hK.1 hP 81 (Nat.lt_of_lt_of_le (by decide : 81 < 82) hn) (ceL_81 (s0 81)) hin dL_made_120 ?_
      refine lv_aload_n hx hb dL_made_121 rfl (lv_at hl 1 rfl) ?_
      refine lv_bipush (v := 36) hx hb dL_made_122 (by decide) ?_
      refine lv_iload_n hx hb dL_made_124 rfl (lv_at hl 3 rfl) ?_
      refine lv_iadd hx hb dL_made_125 ?_
      obtain ⟨hin, hv⟩ := hv
      refine r_iald hx hb hK.1 hP 81 (Nat.lt_of_lt_of_le (by decide : 81 < 82) hn) (ceL_81 (s0 81)) hin dL_made_126 ?_
      refine r_lci hi hP hS (aa_A (Nat.le_trans (by decide) hn) AA_1 hA2 hS) (va_runV (As := [.int (s0 81 (33 + x3).toNatClampNeg), .int (s0 81 (36 + x3).toNatClampNeg)]) (rest := []) ⟨hx, hb, hml, hown, hts⟩ (c_X10_crossing (inj_le (Nat.le_trans (by decide) hn) hi) (s0 81 (33 + x3).toNatClampNeg) (s0 81 (36 + x3).toNatClampNeg) _ _ hv H.size) (cwV 2 hts gL_made_X10_crossing rfl rfl rfl (by decide +kernel) ⟨(Nat.le_of_ble_eq_true rfl), (Nat.le_of_ble_eq_true rfl)⟩) ⟨pre_blind, r_recv hK.1 (wd_cls (Nat.le_trans (by decide) hn) hP) 0 (by decide) (ceGR_0 (s0 0)) rfl, pre_of (wd_cls (Nat.le_trans (by decide) hn) hP) hK⟩ rfl rfl hl.1 rfl (lv_room (Nat.le_of_ble_eq_true rfl)) dL_made_127 ⟨Nat.zero_le _, Nat.zero_le _⟩) (fun r1 s1 H locs hv hP hS => ?_)
      have hD := wd_Dg (A := AA n ad s.heap.size) (cel := celL ad cA) (σ := s1) hi AA_1
      refine lv_iload_n hx hb dL_made_130 rfl (lv_at hl 3 rfl) ?_
      refine lv_icmp_ne (tgt := 138) hx hb dL_made_131 (by decide) (fun c131 => ?_) (fun c131 => ?_)
      · have hv := hv.1 c131
        refine lv_iconst (v := 0) hx hb dL_made_138 (by decide) ?_
        refine lv_istore_n (lv' := [(2, .int 0), (0, .ref (ad 0)), (1, .ref (ad 81)), (3, .int x3)]) hx hb dL_made_139 rfl hl (by decide) rfl (fun ls hl => ?_)
        refine lv_iinc (v := x3 + 1) (lv' := [(3, .int (x3 + 1)), (2, .int 0), (0, .ref (ad 0)), (1, .ref (ad 81))]) hx hb dL_made_140 hl (k := 3) rfl rfl (by decide) rfl (fun ls hl => ?_)
        refine lv_goto (tgt := 103) hx hb dL_made_143 (by decide) ?_
        exact hY 103 [0, x3 + 1] [] s1 hv _ _ rfl H locs ls hP hS (lv_sub hl [2, 3, 1, 0] rfl)
      · have hv := hv.2 c131
        refine lv_iconst (v := 1) hx hb dL_made_134 (by decide) ?_
        refine lv_goto (tgt := 139) hx hb dL_made_135 (by decide) ?_
        refine lv_istore_n (lv' := [(2, .int 1), (0, .ref (ad 0)), (1, .ref (ad 81)), (3, .int x3)]) hx hb dL_made_139 rfl hl (by decide) rfl (fun ls hl => ?_)
        refine lv_iinc (v := x3 + 1) (lv' := [(3, .int (x3 + 1)), (2, .int 1), (0, .ref (ad 0)), (1, .ref (ad 81))]) hx hb dL_made_140 hl (k := 3) rfl rfl (by decide) rfl (fun ls hl => ?_)
        refine lv_goto (tgt := 103) hx hb dL_made_143 (by decide) ?_
        exact hY 103 [1, x3 + 1] [] s1 hv _ _ rfl H locs ls hP hS (lv_sub hl [2, 3, 1, 0] rfl)
set_option maxHeartbeats 4000000 in
theorem y_L_made {p : Program} {l : Launch} {e : Env} {s : State} {m : MethodId} {args : Array Value} {below : List Frame} {meth : Method} {c : Code} {dC : Nat → ClassId} {dI : Nat → Nat → Nat} {cA cZ : ClassId} {n b L : Nat} {xs : Nat → Int32} {ad : Nat → Nat} (hi : Inj n ad) (hn : 82 ≤ n) (hne : ∀ k, k < n → ad k ≠ b) (C0 : Cx cL_made RL wsL_made 4 (some .boolean) p s m args meth c) (hK : KK dC dI cA cZ s) (hX : va_X b L xs s s.heap) (hbl : b < s.heap.size)  (Q : Int32 → St → Prop) : ∀ P xs' ys σ, R_L_made  Q P xs' ys σ → XX p l e ({ frames := 3, cells := 0, slots := 0, locals := 65 } : Room) s m args below meth c (dC, dI) n ad (celL ad cA) 4 (ZZ below args s (dC, dI) n ad (celL ad cA) Q) (lay_L_made ad b ) P xs' ys σ := by
  refine Fx.elim _ (fun P xs' ys σ Y hY hB => ?_)
  rcases hB with ⟨rfl, x2, x3, rfl, rfl, hB⟩ | ⟨rfl, x2, x3, rfl, rfl, hB⟩ | ⟨rfl, x2, x3, rfl, rfl, hB⟩
  · intro lv st he H locs ls hP hS hl
    cases he
    exact w_L_made_15 hi hn hne C0 hK hX hbl  Q Y hY x2 x3 σ hB hP hS hl
  · intro lv st he H locs ls hP hS hl
    cases he
    exact w_L_made_52 hi hn hne C0 hK hX hbl  Q Y hY x2 x3 σ hB hP hS hl
  · intro lv st he H locs ls hP hS hl
    cases he
    exact w_L_made_103 hi hn hne C0 hK hX hbl  Q Y hY x2 x3 σ hB hP hS hl
set_option maxHeartbeats 4000000 in
theorem c_L_made {l : Launch} {dC : Nat → ClassId} {dI : Nat → Nat → Nat} {cA cZ : ClassId} {n b L : Nat} {xs : Nat → Int32} {ad : Nat → Nat} (hi : Inj n ad) (hn : 82 ≤ n) (hne : ∀ k, k < n → ad k ≠ b)  (s0 : St) (Q : Int32 → St → Prop) (hv : V_L_made  s0 Q) (sz : Nat) (hbz : b < sz) : Met l yL_made wsL_made ({ frames := 3, cells := 0, slots := 0, locals := 65 } : Room) (va_Pc [.ref (ad 0), .ref (ad 81)] (PL dC dI cA cZ n ad b L xs sz s0)) (va_Qi (fun r u => (r = 0 ∨ r = 1) ∧ Q r u) (fun u t => va_P (dC, dI) vwCl (wd n ad (celL ad cA) u) t.heap) (AA n ad sz)) 0 0 (AA n ad sz) := by
  refine Met.ofW (cc := cL_made) (maxL := 4) (ret := (some .boolean)) (by decide) rfl ?_
  intro p e s m args below meth c s₁ B hml hv0
  obtain ⟨rfl, hsz, hP, hK, hX⟩ := hv0
  subst hsz
  have C0 : Cx cL_made RL wsL_made 4 (some .boolean) p s m ([.ref (ad 0), .ref (ad 81)] : List Value).toArray meth c := ⟨B.exec, B.bytes, hml, findClass_of_methodNamed B.named, atoms_spec (ws := wsL_made) B.pre, B.returns, B.notSynchronized⟩
  have hl := lv_entry ([.ref (ad 0), .ref (ad 81)]) (n := 4) (Nat.le_of_ble_eq_true rfl)
  rw [lg_entry_eq]
  generalize (lg_sl ([.ref (ad 0), .ref (ad 81)]) ++ List.replicate (4 - (lg_sl ([.ref (ad 0), .ref (ad 81)])).length) Slot.unset).toArray = ls at hl ⊢
  have hl : lv_has ls 4 [(0, .ref (ad 0)), (1, .ref (ad 81))] := hl
  exact w_L_made_e hi hn hne C0 hK hX hbz  Q (R_L_made  Q) (y_L_made hi hn hne C0 hK hX hbz  Q)  s0 hv hP va_S.rf hl
