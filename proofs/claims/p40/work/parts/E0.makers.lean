/-! the makers -/
def zr : Nat → Int32 := fun _ => 0
def sh (u : Nat → Nat) (k : Nat) : Nat → Nat := fun j => u (k + j)
def wX6 (u : Nat → Nat) (cA : ClassId) (a b : Int32) : va_W := [(u 0, .inr (5, [.ref (u 1), .int a, .int b, .int 0])), (u 1, .inl (cA, 24, .inl zr))]
def wX4 (u : Nat → Nat) (cA : ClassId) : va_W := [(u 0, .inr (3, [.ref (u 1), .int 0])), (u 1, .inl (cA, 72, .inl zr))]
def wX8 (u : Nat → Nat) (cA : ClassId) : va_W := [(u 0, .inr (7, [.ref (u 1), .ref (u 2), .ref (u 3), .ref (u 4), .ref (u 5), .ref (u 6), .ref (u 7), .ref (u 8), .int 0, .int 0, .int 0, .int 0])), (u 1, .inl (cA, 6, .inl zr)), (u 2, .inl (cA, 8, .inl zr)), (u 3, .inl (cA, 8, .inl zr)), (u 4, .inl (cA, 8, .inl zr)), (u 5, .inl (cA, 3, .inl zr)), (u 6, .inl (cA, 3, .inl zr)), (u 7, .inl (cA, 24, .inl zr)), (u 8, .inl (cA, 3, .inl zr))]
def wX3 (u : Nat → Nat) (cA : ClassId) : va_W := [(u 0, .inr (2, [.ref (u 1), .int 0, .int 0, .int 0])), (u 1, .inl (cA, 24, .inl zr))]
def wX2 (u : Nat → Nat) (cA : ClassId) : va_W := [(u 0, .inr (1, [.ref (u 1), .int 0])), (u 1, .inl (cA, 128, .inl zr))]
def wX9 (u : Nat → Nat) (cA : ClassId) : va_W := [(u 0, .inr (8, [.ref (u 1), .int 0, .int 0, .int 0, .int 0, .int 0])), (u 1, .inl (cA, 150, .inl zr))]
def wX7 (u : Nat → Nat) (cA : ClassId) : va_W := (u 0, .inr (6, [.ref (u 1), .ref (u 10), .ref (u 12), .ref (u 14), .ref (u 16)])) :: ((((([] ++ wX8 (sh u 1) cA) ++ wX4 (sh u 10) cA) ++ wX6 (sh u 12) cA 5 2) ++ wX6 (sh u 14) cA 6 4) ++ wX6 (sh u 16) cA 6 4)
def wX0 (u : Nat → Nat) (cA : ClassId) : va_W := (u 0, .inr (0, [.ref (u 1), .int 0, .int 0, .int 0])) :: ([] ++ wX8 (sh u 1) cA)
def wX5 (u : Nat → Nat) (cA : ClassId) : va_W := (u 0, .inr (4, [.ref (u 1), .ref (u 3)])) :: (([] ++ wX9 (sh u 1) cA) ++ wX8 (sh u 3) cA)
def wX10 (u : Nat → Nat) (cA : ClassId) : va_W := (u 0, .inr (9, [.ref (u 1), .ref (u 19), .ref (u 37), .ref (u 55), .ref (u 65), .ref (u 67), .ref (u 69), .int 0, .int 0, .int 1, .int 0, .int 0, .int 0])) :: ((((((([] ++ wX7 (sh u 1) cA) ++ wX7 (sh u 19) cA) ++ wX7 (sh u 37) cA) ++ wX0 (sh u 55) cA) ++ wX2 (sh u 65) cA) ++ wX3 (sh u 67) cA) ++ wX5 (sh u 69) cA)

def NN (U : State) : Prop := va_Nw (.methodLinkNest RX10 9 yX7_init "GloveRail") U ∧ va_Nw (.methodLinkNest RX10 24 yX0_init "GloveRail") U ∧ va_Nw (.methodLinkNest RX10 31 yX2_init "GloveRail") U ∧ va_Nw (.methodLinkNest RX10 38 yX3_init "GloveRail") U ∧ va_Nw (.methodLinkNest RX10 45 yX5_init "GloveRail") U ∧ va_Nw (.methodLinkNest RX0 11 yX8_init "GloveRail") U ∧ va_Nw (.methodLinkNest RX5 11 yX9_init "GloveRail") U ∧ va_Nw (.methodLinkNest RX5 20 yX8_init "GloveRail") U ∧ va_Nw (.methodLinkNest RX7 9 yX8_init "GloveRail") U ∧ va_Nw (.methodLinkNest RX7 18 yX4_init "GloveRail") U
theorem NN.warm {s U : State} (hW : s.WarmedH U.vm) (h : NN s) : NN U := by
  obtain ⟨n0, n1, n2, n3, n4, n5, n6, n7, n8, n9⟩ := h
  exact ⟨va_Nw.warmM hW n0, va_Nw.warmM hW n1, va_Nw.warmM hW n2, va_Nw.warmM hW n3, va_Nw.warmM hW n4, va_Nw.warmM hW n5, va_Nw.warmM hW n6, va_Nw.warmM hW n7, va_Nw.warmM hW n8, va_Nw.warmM hW n9⟩
theorem NN.call {U : State} {g : JFrame} {mk : MethodId} {a : Array Value} (h : NN U) : NN (U.calling g mk a) := by
  obtain ⟨n0, n1, n2, n3, n4, n5, n6, n7, n8, n9⟩ := h
  exact ⟨va_Nw.same rfl (u := U) (U := U.calling g mk a) rfl n0, va_Nw.same rfl (u := U) (U := U.calling g mk a) rfl n1, va_Nw.same rfl (u := U) (U := U.calling g mk a) rfl n2, va_Nw.same rfl (u := U) (U := U.calling g mk a) rfl n3, va_Nw.same rfl (u := U) (U := U.calling g mk a) rfl n4, va_Nw.same rfl (u := U) (U := U.calling g mk a) rfl n5, va_Nw.same rfl (u := U) (U := U.calling g mk a) rfl n6, va_Nw.same rfl (u := U) (U := U.calling g mk a) rfl n7, va_Nw.same rfl (u := U) (U := U.calling g mk a) rfl n8, va_Nw.same rfl (u := U) (U := U.calling g mk a) rfl n9⟩
def KN (dC : Nat → ClassId) (dI : Nat → Nat → Nat) (cA cZ : ClassId) (U : State) : Prop := KK dC dI cA cZ U ∧ NN U
def PC (dC : Nat → ClassId) (dI : Nat → Nat → Nat) (cA cZ : ClassId) (ws : va_W) (sz : Nat) : State → Prop := fun U => U.heap.size = sz ∧ va_P (dC, dI) vwCl ws U.heap ∧ KN dC dI cA cZ U
theorem preC_blind {dC : Nat → ClassId} {dI : Nat → Nat → Nat} {cA cZ : ClassId} {ws : va_W} {sz : Nat} {av : List Value} : FrameBlind (va_Pc av (PC dC dI cA cZ ws sz)) := fun a U g mk q => by
  obtain ⟨q0, q1, q2, q3, q4⟩ := q
  exact ⟨q0, q1, q2, q3.call, q4.call⟩
theorem preC_of {dC : Nat → ClassId} {dI : Nat → Nat → Nat} {cA cZ : ClassId} {ws : va_W} {H : Heap} {s : State} {av : List Value} (hP : va_P (dC, dI) vwCl ws H) (hN : KN dC dI cA cZ s) : ∀ U : State, U.heap = H → s.WarmedH U.vm → va_Pc av (PC dC dI cA cZ ws H.size) av.toArray U := fun U hU hW => ⟨rfl, by rw [hU], by rw [hU]; exact hP, hN.1.warm hW, hN.2.warm hW⟩
theorem vP1 {D : va_G} {cl : List vw_C} {ws : va_W} {q : Nat × va_E} {H : Heap} (h : va_P D cl (ws ++ [q]) H) : va_P D cl [q] H := fun k x hx => by
  have hz : k < 1 := (List.getElem?_eq_some_iff.mp hx).1
  rw [show k = 0 by omega] at hx
  cases hx
  exact h ws.length _ (by simp)
theorem vF1 {A : Nat → Prop} {ws : va_W} {q : Nat × va_E} {H0 H : Heap} {locs : List Loc} (hD : va_D A (ws ++ [q])) (hS : va_S A H0 H locs) (hA : ∀ x, H0.size ≤ x → A x) : ∀ x, va_A [q] H.size x → A x := fun x hx => by
  rcases hx with ⟨k, e, h⟩ | h
  · have hz : k < 1 := (List.getElem?_eq_some_iff.mp h).1
    rw [show k = 0 by omega] at h
    cases h
    exact hD.2 ws.length (x, e) (by simp)
  · exact hA x (Nat.le_trans hS.1 h)
theorem vJ {A : Nat → Prop} {D : va_G} {cl : List vw_C} {ws w1 : va_W} {q : Nat × va_E} {H H1 : Heap} (hP : va_P D cl (ws ++ [q]) H) (hD : va_D A (ws ++ [q])) (hk : ∀ x : Nat, x < H.size → ¬ va_A [q] H.size x → H1[x]? = H[x]?) (hF : ∀ x, va_A [q] H.size x → A x) (hP1 : va_P D cl w1 H1) (hD1 : va_D (va_A [q] H.size) w1) : va_P D cl (ws ++ w1) H1 ∧ va_D A (ws ++ w1) := by
  have at1 : ∀ {k : Nat} {x : Nat × va_E}, ws[k]? = some x → (ws ++ [q])[k]? = some x := fun {k x} h => by
    rw [List.getElem?_append_left (List.getElem?_eq_some_iff.mp h).1]; exact h
  have hlt : ∀ (k : Nat) (x : Nat × va_E), ws[k]? = some x → x.1 < H.size := fun k x h => (hP k x (at1 h)).lt
  have hne : ∀ (k : Nat) (x : Nat × va_E), ws[k]? = some x → x.1 ≠ q.1 := fun k x h e => by
    have hl := (List.getElem?_eq_some_iff.mp h).1
    have := hD.1 k ws.length x q (at1 h) (by simp) e
    omega
  have hno : ∀ (k : Nat) (x : Nat × va_E), ws[k]? = some x → ¬ va_A [q] H.size x.1 := fun k x h c => by
    rcases c with ⟨j, e, c⟩ | c
    · have hz : j < 1 := (List.getElem?_eq_some_iff.mp c).1
      rw [show j = 0 by omega] at c
      have c2 : q = (x.1, e) := Option.some.inj c
      exact hne k x h (by rw [c2])
    · have := hlt k x h
      omega
  have hPw : va_P D cl ws H := fun k x h => hP k x (at1 h)
  refine ⟨(hPw.kept (fun k x h => hk x.1 (hlt k x h) (hno k x h))).app hP1, fun i j x y hx hy e => ?_, fun k x hx => ?_⟩
  · by_cases ci : i < ws.length
    · rw [List.getElem?_append_left ci] at hx
      by_cases cj : j < ws.length
      · rw [List.getElem?_append_left cj] at hy
        exact hD.1 i j x y (at1 hx) (at1 hy) e
      · rw [List.getElem?_append_right (by omega)] at hy
        exact absurd (e ▸ hD1.2 _ y hy) (hno i x hx)
    · rw [List.getElem?_append_right (by omega)] at hx
      by_cases cj : j < ws.length
      · rw [List.getElem?_append_left cj] at hy
        exact absurd (e ▸ hD1.2 _ x hx) (hno j y hy)
      · rw [List.getElem?_append_right (by omega)] at hy
        have := hD1.1 _ _ x y hx hy e
        omega
  · by_cases ci : k < ws.length
    · rw [List.getElem?_append_left ci] at hx
      exact hD.2 k x (at1 hx)
    · rw [List.getElem?_append_right (by omega)] at hx
      exact hF _ (hD1.2 _ x hx)
theorem vD1 {A : Nat → Prop} {q : Nat × va_E} (h : A q.1) : va_D A [q] := ⟨fun i j x y hx hy _ => by
  have h1 : i < 1 := (List.getElem?_eq_some_iff.mp hx).1
  have h2 : j < 1 := (List.getElem?_eq_some_iff.mp hy).1
  omega, fun k x hx => by
  have h1 : k < 1 := (List.getElem?_eq_some_iff.mp hx).1
  rw [show k = 0 by omega] at hx
  cases hx
  exact h⟩
section NA
variable {p : Program} {l : Launch} {e : Env} {R : Room} {s : State} {m : MethodId} {args : Array Value} {below : List Frame} {meth : Method} {c : Code} {H : Heap} {locs : List Loc} {cells slots : Nat} {Q : State → Prop} {cc : ByteArray} {pc : Nat} {ls : Array Slot} {rest : List Value} {D : va_G} {cl : List vw_C} {ws : va_W} {A : Nat → Prop} {H0 : Heap} {cA cZ : ClassId}
theorem r_newI (hx : p.tables.exec = Jvm.exec) (hb : c.code = cc) (harr : (Cond.arrayClass .int).before args s = true) (hK : va_K D cl [(cA, .int)] s) (hP : va_P D cl ws H) (hD : va_D A ws) (hS : va_S A H0 H locs) (hA : ∀ q, H0.size ≤ q → A q) {n : Int32} {N : Nat} (hn : ¬ n < 0) (hN : n.toNatClampNeg = N) (hbytes : N * componentBytes .int ≤ 536870912) (hcells : cells + 1 ≤ R.cells) (hslots : slots + N ≤ R.slots) (hdg : decode cc pc = .ok (.newarray .int, 2)) (kk : ∀ (q : Nat) (H1 : Heap), va_P D cl (ws ++ [(q, .inl (cA, N, .inl zr))]) H1 → va_D A (ws ++ [(q, .inl (cA, N, .inl zr))]) → va_S A H0 H1 locs → W p l e R s m args below meth c H1 locs (cells + 1) (slots + N) Q (F0 m (pc + 2) ls (.ref q :: rest))) : W p l e R s m args below meth c H locs cells slots Q (F0 m pc ls (.int n :: rest)) := by
  refine va_newa (atype := .int) (ty := .int) (a0 := (N, .inl zr)) hx hb harr rfl hK hP hD hS hA (fun _ => rfl) hn hN hbytes hcells hslots hdg (fun q c2 H1 hK2 hP2 hD2 hS2 => ?_)
  have e1 := (hK.2 0 _ rfl).2
  have e2 := (hK2.2 1 _ rfl).2
  have e3 : cA = c2 := Option.some.inj (Eq.trans (Eq.symm e1) e2)
  subst e3
  exact kk q H1 hP2 hD2 hS2
end NA
section CT
variable {l : Launch} {dC : Nat → ClassId} {dI : Nat → Nat → Nat} {cA cZ : ClassId}
set_option maxHeartbeats 4000000 in
set_option maxRecDepth 100000 in
theorem k_X6 {a b a2 b2 : Int32} (ea : (if 6 < a then 6 else a) = a2) (eb : (if 4 < b then 4 else b) = b2) (h0 sz : Nat) : Met l yX6_init wsX6_init ({ frames := 1, cells := 1, slots := 24, locals := 21 } : Room) (va_Pc [.ref h0, .int a, .int b] (PC dC dI cA cZ [(h0, .inr (5, [.null, .int 0, .int 0, .int 0]))] sz)) (va_Qv (fun u : Nat → Nat => u 0 = h0) (fun u t => va_P (dC, dI) vwCl (wX6 u cA a2 b2) t.heap ∧ va_D (va_A [(h0, .inr (5, [.null, .int 0, .int 0, .int 0]))] sz) (wX6 u cA a2 b2)) (va_A [(h0, .inr (5, [.null, .int 0, .int 0, .int 0]))] sz)) 1 24 (va_A [(h0, .inr (5, [.null, .int 0, .int 0, .int 0]))] sz) := by
  refine Met.ofW (cc := cX6_init) (maxL := 3) (ret := none) (by decide) rfl ?_
  intro p e s m args below meth c s₁ B hml hv0
  obtain ⟨rfl, hsz, hP, hN⟩ := hv0
  have hin : meth.name = "<init>" := (name_of_methodNamed B.named B.method).1
  obtain ⟨hx, hb, hml, hown, hts, hr, hlocks⟩ : Cx cX6_init RX6 wsX6_init 3 none p s m ([.ref h0, .int a, .int b] : List Value).toArray meth c := ⟨B.exec, B.bytes, hml, findClass_of_methodNamed B.named, atoms_spec (ws := wsX6_init) B.pre, B.returns, B.notSynchronized⟩
  subst hsz
  have hD : va_D (va_A [(h0, .inr (5, [.null, .int 0, .int 0, .int 0]))] s.heap.size) [(h0, .inr (5, [.null, .int 0, .int 0, .int 0]))] := vD1 (Or.inl ⟨0, _, rfl⟩)
  generalize hAe : va_A [(h0, .inr (5, [.null, .int 0, .int 0, .int 0]))] s.heap.size = A at hD ⊢
  have hA : ∀ q : Nat, s.heap.size ≤ q → A q := fun q h => by rw [← hAe]; exact Or.inr h
  have hS : va_S A s.heap s.heap [] := va_S.rf
  have hK := hN.1.1
  have hl := lv_entry ([.ref h0, .int a, .int b]) (n := 3) (Nat.le_of_ble_eq_true rfl)
  rw [lg_entry_eq]
  generalize (lg_sl ([.ref h0, .int a, .int b]) ++ List.replicate (3 - (lg_sl ([.ref h0, .int a, .int b])).length) Slot.unset).toArray = ls at hl ⊢
  have hl : lv_has ls 3 [(0, .ref h0), (1, .int a), (2, .int b)] := hl
  refine lv_aload_n hx hb dX6_init_0 rfl (lv_at hl 0 rfl) ?_
  refine W.objInit hx hb hown (hts _ (List.mem_of_getElem? (i := 1) rfl)) (hts _ (List.mem_of_getElem? (i := 2) rfl)) (hts _ (List.mem_of_getElem? (i := 3) rfl)) rfl (by rw [hml]; exact hl.1) rfl dX6_init_1 (Nat.le_of_ble_eq_true rfl) (Nat.le_of_ble_eq_true rfl) ?_
  refine W.eq (g2 := F0 m 4 ls []) rfl ?_
  refine lv_aload_n hx hb dX6_init_4 rfl (lv_at hl 0 rfl) ?_
  refine lv_bipush (v := 24) hx hb dX6_init_5 (by decide) ?_
  refine r_newI (N := 24) hx hb (hts _ (List.mem_of_getElem? (i := 4) rfl)) hK hP hD hS hA (by decide) (by decide) (Nat.le_of_ble_eq_true rfl) (Nat.le_of_ble_eq_true rfl) (Nat.le_of_ble_eq_true rfl) dX6_init_7 (fun q1 H hP hD hS => ?_)
  have hP : va_P (dC, dI) vwCl ((h0, .inr (5, [.null, .int 0, .int 0, .int 0])) :: ([] ++ [(q1, .inl (cA, 24, .inl zr))])) H := hP
  have hD : va_D A ((h0, .inr (5, [.null, .int 0, .int 0, .int 0])) :: ([] ++ [(q1, .inl (cA, 24, .inl zr))])) := hD
  refine va_putF (D := (dC, dI)) (ci := 5) (v := .ref q1) (ty := .array .int) (C := RX6) (T := TX6) (N := 4) hx hb hts (fun _ h => List.mem_cons_of_mem _ (List.mem_append_right _ h)) tyX6 tyX6_ok nmX6 hown hK hP hD hS 0 rfl rfl 0 (by decide) (hts _ (List.mem_of_getElem? (i := 5) rfl)) (fun _ h9 => h9) rfl hin rfl (by decide +kernel) rfl rfl (Nat.le_of_ble_eq_true rfl) dX6_init_9 (fun H locs hP hD hS => ?_)
  have hP : va_P (dC, dI) vwCl ((h0, .inr (5, [.ref q1, .int 0, .int 0, .int 0])) :: ([] ++ [(q1, .inl (cA, 24, .inl zr))])) H := hP
  have hD : va_D A ((h0, .inr (5, [.ref q1, .int 0, .int 0, .int 0])) :: ([] ++ [(q1, .inl (cA, 24, .inl zr))])) := hD
  refine lv_aload_n hx hb dX6_init_12 rfl (lv_at hl 0 rfl) ?_
  refine lv_iload_n hx hb dX6_init_13 rfl (lv_at hl 1 rfl) ?_
  refine lv_bipush (v := 6) hx hb dX6_init_14 (by decide) ?_
  refine va_mmin hx hb (hml.trans hl.1.symm) hown (hts _ (List.mem_of_getElem? (i := 6) rfl)) (hts _ (List.mem_of_getElem? (i := 7) rfl)) (hts _ (List.mem_of_getElem? (i := 8) rfl)) (hts _ (List.mem_of_getElem? (i := 9) rfl)) (Nat.le_of_ble_eq_true rfl) (Nat.le_of_ble_eq_true rfl) (Nat.le_of_ble_eq_true rfl) (Nat.le_of_ble_eq_true rfl) dX6_init_16 ?_
  rw [ea]
  refine va_putF (D := (dC, dI)) (ci := 5) (v := .int a2) (ty := .int) (C := RX6) (T := TX6) (N := 4) hx hb hts (fun _ h => List.mem_cons_of_mem _ (List.mem_append_right _ h)) tyX6 tyX6_ok nmX6 hown hK hP hD hS 0 rfl rfl 1 (by decide) (hts _ (List.mem_of_getElem? (i := 10) rfl)) (fun _ h9 => h9) rfl hin rfl (by decide +kernel) rfl rfl (Nat.le_of_ble_eq_true rfl) dX6_init_19 (fun H locs hP hD hS => ?_)
  have hP : va_P (dC, dI) vwCl ((h0, .inr (5, [.ref q1, .int a2, .int 0, .int 0])) :: ([] ++ [(q1, .inl (cA, 24, .inl zr))])) H := hP
  have hD : va_D A ((h0, .inr (5, [.ref q1, .int a2, .int 0, .int 0])) :: ([] ++ [(q1, .inl (cA, 24, .inl zr))])) := hD
  refine lv_aload_n hx hb dX6_init_22 rfl (lv_at hl 0 rfl) ?_
  refine lv_iload_n hx hb dX6_init_23 rfl (lv_at hl 2 rfl) ?_
  refine lv_iconst (v := 4) hx hb dX6_init_24 (by decide) ?_
  refine va_mmin hx hb (hml.trans hl.1.symm) hown (hts _ (List.mem_of_getElem? (i := 6) rfl)) (hts _ (List.mem_of_getElem? (i := 7) rfl)) (hts _ (List.mem_of_getElem? (i := 8) rfl)) (hts _ (List.mem_of_getElem? (i := 9) rfl)) (Nat.le_of_ble_eq_true rfl) (Nat.le_of_ble_eq_true rfl) (Nat.le_of_ble_eq_true rfl) (Nat.le_of_ble_eq_true rfl) dX6_init_25 ?_
  rw [eb]
  refine va_putF (D := (dC, dI)) (ci := 5) (v := .int b2) (ty := .int) (C := RX6) (T := TX6) (N := 4) hx hb hts (fun _ h => List.mem_cons_of_mem _ (List.mem_append_right _ h)) tyX6 tyX6_ok nmX6 hown hK hP hD hS 0 rfl rfl 2 (by decide) (hts _ (List.mem_of_getElem? (i := 11) rfl)) (fun _ h9 => h9) rfl hin rfl (by decide +kernel) rfl rfl (Nat.le_of_ble_eq_true rfl) dX6_init_28 (fun H locs hP hD hS => ?_)
  have hP : va_P (dC, dI) vwCl ((h0, .inr (5, [.ref q1, .int a2, .int b2, .int 0])) :: ([] ++ [(q1, .inl (cA, 24, .inl zr))])) H := hP
  have hD : va_D A ((h0, .inr (5, [.ref q1, .int a2, .int b2, .int 0])) :: ([] ++ [(q1, .inl (cA, 24, .inl zr))])) := hD
  have hP9 : va_P (dC, dI) vwCl (wX6 (fun k => if k = 0 then h0 else q1) cA a2 b2) H := hP
  have hD9 : va_D A (wX6 (fun k => if k = 0 then h0 else q1) cA a2 b2) := hD
  refine W.widen (k := 1) (n := 24) (Nat.le_of_ble_eq_true rfl) (Nat.le_of_ble_eq_true rfl) ?_
  exact W.vret hx hb hr (fun t ht _ => ⟨⟨_, rfl, rfl, by rw [ht]; exact hP9, hD9⟩, hS.F ht⟩) hS.2.2 dX6_init_31 hlocks
set_option maxHeartbeats 4000000 in
set_option maxRecDepth 100000 in
theorem k_X4 (h0 sz : Nat) : Met l yX4_init wsX4_init ({ frames := 1, cells := 1, slots := 72, locals := 20 } : Room) (va_Pc [.ref h0] (PC dC dI cA cZ [(h0, .inr (3, [.null, .int 0]))] sz)) (va_Qv (fun u : Nat → Nat => u 0 = h0) (fun u t => va_P (dC, dI) vwCl (wX4 u cA) t.heap ∧ va_D (va_A [(h0, .inr (3, [.null, .int 0]))] sz) (wX4 u cA)) (va_A [(h0, .inr (3, [.null, .int 0]))] sz)) 1 72 (va_A [(h0, .inr (3, [.null, .int 0]))] sz) := by
  refine Met.ofW (cc := cX4_init) (maxL := 1) (ret := none) (by decide) rfl ?_
  intro p e s m args below meth c s₁ B hml hv0
  obtain ⟨rfl, hsz, hP, hN⟩ := hv0
  have hin : meth.name = "<init>" := (name_of_methodNamed B.named B.method).1
  obtain ⟨hx, hb, hml, hown, hts, hr, hlocks⟩ : Cx cX4_init RX4 wsX4_init 1 none p s m ([.ref h0] : List Value).toArray meth c := ⟨B.exec, B.bytes, hml, findClass_of_methodNamed B.named, atoms_spec (ws := wsX4_init) B.pre, B.returns, B.notSynchronized⟩
  subst hsz
  have hD : va_D (va_A [(h0, .inr (3, [.null, .int 0]))] s.heap.size) [(h0, .inr (3, [.null, .int 0]))] := vD1 (Or.inl ⟨0, _, rfl⟩)
  generalize hAe : va_A [(h0, .inr (3, [.null, .int 0]))] s.heap.size = A at hD ⊢
  have hA : ∀ q : Nat, s.heap.size ≤ q → A q := fun q h => by rw [← hAe]; exact Or.inr h
  have hS : va_S A s.heap s.heap [] := va_S.rf
  have hK := hN.1.1
  have hl := lv_entry ([.ref h0]) (n := 1) (Nat.le_of_ble_eq_true rfl)
  rw [lg_entry_eq]
  generalize (lg_sl ([.ref h0]) ++ List.replicate (1 - (lg_sl ([.ref h0])).length) Slot.unset).toArray = ls at hl ⊢
  have hl : lv_has ls 1 [(0, .ref h0)] := hl
  refine lv_aload_n hx hb dX4_init_0 rfl (lv_at hl 0 rfl) ?_
  refine W.objInit hx hb hown (hts _ (List.mem_of_getElem? (i := 1) rfl)) (hts _ (List.mem_of_getElem? (i := 2) rfl)) (hts _ (List.mem_of_getElem? (i := 3) rfl)) rfl (by rw [hml]; exact hl.1) rfl dX4_init_1 (Nat.le_of_ble_eq_true rfl) (Nat.le_of_ble_eq_true rfl) ?_
  refine W.eq (g2 := F0 m 4 ls []) rfl ?_
  refine lv_aload_n hx hb dX4_init_4 rfl (lv_at hl 0 rfl) ?_
  refine lv_bipush (v := 72) hx hb dX4_init_5 (by decide) ?_
  refine r_newI (N := 72) hx hb (hts _ (List.mem_of_getElem? (i := 4) rfl)) hK hP hD hS hA (by decide) (by decide) (Nat.le_of_ble_eq_true rfl) (Nat.le_of_ble_eq_true rfl) (Nat.le_of_ble_eq_true rfl) dX4_init_7 (fun q1 H hP hD hS => ?_)
  have hP : va_P (dC, dI) vwCl ((h0, .inr (3, [.null, .int 0])) :: ([] ++ [(q1, .inl (cA, 72, .inl zr))])) H := hP
  have hD : va_D A ((h0, .inr (3, [.null, .int 0])) :: ([] ++ [(q1, .inl (cA, 72, .inl zr))])) := hD
  refine va_putF (D := (dC, dI)) (ci := 3) (v := .ref q1) (ty := .array .int) (C := RX4) (T := TX4) (N := 2) hx hb hts (fun _ h => List.mem_cons_of_mem _ (List.mem_append_right _ h)) tyX4 tyX4_ok nmX4 hown hK hP hD hS 0 rfl rfl 0 (by decide) (hts _ (List.mem_of_getElem? (i := 5) rfl)) (fun _ h9 => h9) rfl hin rfl (by decide +kernel) rfl rfl (Nat.le_of_ble_eq_true rfl) dX4_init_9 (fun H locs hP hD hS => ?_)
  have hP : va_P (dC, dI) vwCl ((h0, .inr (3, [.ref q1, .int 0])) :: ([] ++ [(q1, .inl (cA, 72, .inl zr))])) H := hP
  have hD : va_D A ((h0, .inr (3, [.ref q1, .int 0])) :: ([] ++ [(q1, .inl (cA, 72, .inl zr))])) := hD
  have hP9 : va_P (dC, dI) vwCl (wX4 (fun k => if k = 0 then h0 else q1) cA) H := hP
  have hD9 : va_D A (wX4 (fun k => if k = 0 then h0 else q1) cA) := hD
  refine W.widen (k := 1) (n := 72) (Nat.le_of_ble_eq_true rfl) (Nat.le_of_ble_eq_true rfl) ?_
  exact W.vret hx hb hr (fun t ht _ => ⟨⟨_, rfl, rfl, by rw [ht]; exact hP9, hD9⟩, hS.F ht⟩) hS.2.2 dX4_init_12 hlocks
set_option maxHeartbeats 4000000 in
set_option maxRecDepth 100000 in
theorem k_X8 (h0 sz : Nat) : Met l yX8_init wsX8_init ({ frames := 1, cells := 8, slots := 63, locals := 20 } : Room) (va_Pc [.ref h0] (PC dC dI cA cZ [(h0, .inr (7, [.null, .null, .null, .null, .null, .null, .null, .null, .int 0, .int 0, .int 0, .int 0]))] sz)) (va_Qv (fun u : Nat → Nat => u 0 = h0) (fun u t => va_P (dC, dI) vwCl (wX8 u cA) t.heap ∧ va_D (va_A [(h0, .inr (7, [.null, .null, .null, .null, .null, .null, .null, .null, .int 0, .int 0, .int 0, .int 0]))] sz) (wX8 u cA)) (va_A [(h0, .inr (7, [.null, .null, .null, .null, .null, .null, .null, .null, .int 0, .int 0, .int 0, .int 0]))] sz)) 8 63 (va_A [(h0, .inr (7, [.null, .null, .null, .null, .null, .null, .null, .null, .int 0, .int 0, .int 0, .int 0]))] sz) := by
  refine Met.ofW (cc := cX8_init) (maxL := 1) (ret := none) (by decide) rfl ?_
  intro p e s m args below meth c s₁ B hml hv0
  obtain ⟨rfl, hsz, hP, hN⟩ := hv0
  have hin : meth.name = "<init>" := (name_of_methodNamed B.named B.method).1
  obtain ⟨hx, hb, hml, hown, hts, hr, hlocks⟩ : Cx cX8_init RX8 wsX8_init 1 none p s m ([.ref h0] : List Value).toArray meth c := ⟨B.exec, B.bytes, hml, findClass_of_methodNamed B.named, atoms_spec (ws := wsX8_init) B.pre, B.returns, B.notSynchronized⟩
  subst hsz
  have hD : va_D (va_A [(h0, .inr (7, [.null, .null, .null, .null, .null, .null, .null, .null, .int 0, .int 0, .int 0, .int 0]))] s.heap.size) [(h0, .inr (7, [.null, .null, .null, .null, .null, .null, .null, .null, .int 0, .int 0, .int 0, .int 0]))] := vD1 (Or.inl ⟨0, _, rfl⟩)
  generalize hAe : va_A [(h0, .inr (7, [.null, .null, .null, .null, .null, .null, .null, .null, .int 0, .int 0, .int 0, .int 0]))] s.heap.size = A at hD ⊢
  have hA : ∀ q : Nat, s.heap.size ≤ q → A q := fun q h => by rw [← hAe]; exact Or.inr h
  have hS : va_S A s.heap s.heap [] := va_S.rf
  have hK := hN.1.1
  have hl := lv_entry ([.ref h0]) (n := 1) (Nat.le_of_ble_eq_true rfl)
  rw [lg_entry_eq]
  generalize (lg_sl ([.ref h0]) ++ List.replicate (1 - (lg_sl ([.ref h0])).length) Slot.unset).toArray = ls at hl ⊢
  have hl : lv_has ls 1 [(0, .ref h0)] := hl
  refine lv_aload_n hx hb dX8_init_0 rfl (lv_at hl 0 rfl) ?_
  refine W.objInit hx hb hown (hts _ (List.mem_of_getElem? (i := 1) rfl)) (hts _ (List.mem_of_getElem? (i := 2) rfl)) (hts _ (List.mem_of_getElem? (i := 3) rfl)) rfl (by rw [hml]; exact hl.1) rfl dX8_init_1 (Nat.le_of_ble_eq_true rfl) (Nat.le_of_ble_eq_true rfl) ?_
  refine W.eq (g2 := F0 m 4 ls []) rfl ?_
  refine lv_aload_n hx hb dX8_init_4 rfl (lv_at hl 0 rfl) ?_
  refine lv_bipush (v := 6) hx hb dX8_init_5 (by decide) ?_
  refine r_newI (N := 6) hx hb (hts _ (List.mem_of_getElem? (i := 4) rfl)) hK hP hD hS hA (by decide) (by decide) (Nat.le_of_ble_eq_true rfl) (Nat.le_of_ble_eq_true rfl) (Nat.le_of_ble_eq_true rfl) dX8_init_7 (fun q1 H hP hD hS => ?_)
  have hP : va_P (dC, dI) vwCl ((h0, .inr (7, [.null, .null, .null, .null, .null, .null, .null, .null, .int 0, .int 0, .int 0, .int 0])) :: ([] ++ [(q1, .inl (cA, 6, .inl zr))])) H := hP
  have hD : va_D A ((h0, .inr (7, [.null, .null, .null, .null, .null, .null, .null, .null, .int 0, .int 0, .int 0, .int 0])) :: ([] ++ [(q1, .inl (cA, 6, .inl zr))])) := hD
  refine va_putF (D := (dC, dI)) (ci := 7) (v := .ref q1) (ty := .array .int) (C := RX8) (T := TX8) (N := 12) hx hb hts (fun _ h => List.mem_cons_of_mem _ (List.mem_append_right _ h)) tyX8 tyX8_ok nmX8 hown hK hP hD hS 0 rfl rfl 0 (by decide) (hts _ (List.mem_of_getElem? (i := 5) rfl)) (fun _ h9 => h9) rfl hin rfl (by decide +kernel) rfl rfl (Nat.le_of_ble_eq_true rfl) dX8_init_9 (fun H locs hP hD hS => ?_)
  have hP : va_P (dC, dI) vwCl ((h0, .inr (7, [.ref q1, .null, .null, .null, .null, .null, .null, .null, .int 0, .int 0, .int 0, .int 0])) :: ([] ++ [(q1, .inl (cA, 6, .inl zr))])) H := hP
  have hD : va_D A ((h0, .inr (7, [.ref q1, .null, .null, .null, .null, .null, .null, .null, .int 0, .int 0, .int 0, .int 0])) :: ([] ++ [(q1, .inl (cA, 6, .inl zr))])) := hD
  refine lv_aload_n hx hb dX8_init_12 rfl (lv_at hl 0 rfl) ?_
  refine lv_bipush (v := 8) hx hb dX8_init_13 (by decide) ?_
  refine r_newI (N := 8) hx hb (hts _ (List.mem_of_getElem? (i := 4) rfl)) hK hP hD hS hA (by decide) (by decide) (Nat.le_of_ble_eq_true rfl) (Nat.le_of_ble_eq_true rfl) (Nat.le_of_ble_eq_true rfl) dX8_init_15 (fun q2 H hP hD hS => ?_)
  have hP : va_P (dC, dI) vwCl ((h0, .inr (7, [.ref q1, .null, .null, .null, .null, .null, .null, .null, .int 0, .int 0, .int 0, .int 0])) :: (([] ++ [(q1, .inl (cA, 6, .inl zr))]) ++ [(q2, .inl (cA, 8, .inl zr))])) H := hP
  have hD : va_D A ((h0, .inr (7, [.ref q1, .null, .null, .null, .null, .null, .null, .null, .int 0, .int 0, .int 0, .int 0])) :: (([] ++ [(q1, .inl (cA, 6, .inl zr))]) ++ [(q2, .inl (cA, 8, .inl zr))])) := hD
  refine va_putF (D := (dC, dI)) (ci := 7) (v := .ref q2) (ty := .array .int) (C := RX8) (T := TX8) (N := 12) hx hb hts (fun _ h => List.mem_cons_of_mem _ (List.mem_append_right _ h)) tyX8 tyX8_ok nmX8 hown hK hP hD hS 0 rfl rfl 1 (by decide) (hts _ (List.mem_of_getElem? (i := 6) rfl)) (fun _ h9 => h9) rfl hin rfl (by decide +kernel) rfl rfl (Nat.le_of_ble_eq_true rfl) dX8_init_17 (fun H locs hP hD hS => ?_)
  have hP : va_P (dC, dI) vwCl ((h0, .inr (7, [.ref q1, .ref q2, .null, .null, .null, .null, .null, .null, .int 0, .int 0, .int 0, .int 0])) :: (([] ++ [(q1, .inl (cA, 6, .inl zr))]) ++ [(q2, .inl (cA, 8, .inl zr))])) H := hP
  have hD : va_D A ((h0, .inr (7, [.ref q1, .ref q2, .null, .null, .null, .null, .null, .null, .int 0, .int 0, .int 0, .int 0])) :: (([] ++ [(q1, .inl (cA, 6, .inl zr))]) ++ [(q2, .inl (cA, 8, .inl zr))])) := hD
  refine lv_aload_n hx hb dX8_init_20 rfl (lv_at hl 0 rfl) ?_
  refine lv_bipush (v := 8) hx hb dX8_init_21 (by decide) ?_
  refine r_newI (N := 8) hx hb (hts _ (List.mem_of_getElem? (i := 4) rfl)) hK hP hD hS hA (by decide) (by decide) (Nat.le_of_ble_eq_true rfl) (Nat.le_of_ble_eq_true rfl) (Nat.le_of_ble_eq_true rfl) dX8_init_23 (fun q3 H hP hD hS => ?_)
  have hP : va_P (dC, dI) vwCl ((h0, .inr (7, [.ref q1, .ref q2, .null, .null, .null, .null, .null, .null, .int 0, .int 0, .int 0, .int 0])) :: ((([] ++ [(q1, .inl (cA, 6, .inl zr))]) ++ [(q2, .inl (cA, 8, .inl zr))]) ++ [(q3, .inl (cA, 8, .inl zr))])) H := hP
  have hD : va_D A ((h0, .inr (7, [.ref q1, .ref q2, .null, .null, .null, .null, .null, .null, .int 0, .int 0, .int 0, .int 0])) :: ((([] ++ [(q1, .inl (cA, 6, .inl zr))]) ++ [(q2, .inl (cA, 8, .inl zr))]) ++ [(q3, .inl (cA, 8, .inl zr))])) := hD
  refine va_putF (D := (dC, dI)) (ci := 7) (v := .ref q3) (ty := .array .int) (C := RX8) (T := TX8) (N := 12) hx hb hts (fun _ h => List.mem_cons_of_mem _ (List.mem_append_right _ h)) tyX8 tyX8_ok nmX8 hown hK hP hD hS 0 rfl rfl 2 (by decide) (hts _ (List.mem_of_getElem? (i := 7) rfl)) (fun _ h9 => h9) rfl hin rfl (by decide +kernel) rfl rfl (Nat.le_of_ble_eq_true rfl) dX8_init_25 (fun H locs hP hD hS => ?_)
  have hP : va_P (dC, dI) vwCl ((h0, .inr (7, [.ref q1, .ref q2, .ref q3, .null, .null, .null, .null, .null, .int 0, .int 0, .int 0, .int 0])) :: ((([] ++ [(q1, .inl (cA, 6, .inl zr))]) ++ [(q2, .inl (cA, 8, .inl zr))]) ++ [(q3, .inl (cA, 8, .inl zr))])) H := hP
  have hD : va_D A ((h0, .inr (7, [.ref q1, .ref q2, .ref q3, .null, .null, .null, .null, .null, .int 0, .int 0, .int 0, .int 0])) :: ((([] ++ [(q1, .inl (cA, 6, .inl zr))]) ++ [(q2, .inl (cA, 8, .inl zr))]) ++ [(q3, .inl (cA, 8, .inl zr))])) := hD
  refine lv_aload_n hx hb dX8_init_28 rfl (lv_at hl 0 rfl) ?_
  refine lv_bipush (v := 8) hx hb dX8_init_29 (by decide) ?_
  refine r_newI (N := 8) hx hb (hts _ (List.mem_of_getElem? (i := 4) rfl)) hK hP hD hS hA (by decide) (by decide) (Nat.le_of_ble_eq_true rfl) (Nat.le_of_ble_eq_true rfl) (Nat.le_of_ble_eq_true rfl) dX8_init_31 (fun q4 H hP hD hS => ?_)
  have hP : va_P (dC, dI) vwCl ((h0, .inr (7, [.ref q1, .ref q2, .ref q3, .null, .null, .null, .null, .null, .int 0, .int 0, .int 0, .int 0])) :: (((([] ++ [(q1, .inl (cA, 6, .inl zr))]) ++ [(q2, .inl (cA, 8, .inl zr))]) ++ [(q3, .inl (cA, 8, .inl zr))]) ++ [(q4, .inl (cA, 8, .inl zr))])) H := hP
  have hD : va_D A ((h0, .inr (7, [.ref q1, .ref q2, .ref q3, .null, .null, .null, .null, .null, .int 0, .int 0, .int 0, .int 0])) :: (((([] ++ [(q1, .inl (cA, 6, .inl zr))]) ++ [(q2, .inl (cA, 8, .inl zr))]) ++ [(q3, .inl (cA, 8, .inl zr))]) ++ [(q4, .inl (cA, 8, .inl zr))])) := hD
  refine va_putF (D := (dC, dI)) (ci := 7) (v := .ref q4) (ty := .array .int) (C := RX8) (T := TX8) (N := 12) hx hb hts (fun _ h => List.mem_cons_of_mem _ (List.mem_append_right _ h)) tyX8 tyX8_ok nmX8 hown hK hP hD hS 0 rfl rfl 3 (by decide) (hts _ (List.mem_of_getElem? (i := 8) rfl)) (fun _ h9 => h9) rfl hin rfl (by decide +kernel) rfl rfl (Nat.le_of_ble_eq_true rfl) dX8_init_33 (fun H locs hP hD hS => ?_)
  have hP : va_P (dC, dI) vwCl ((h0, .inr (7, [.ref q1, .ref q2, .ref q3, .ref q4, .null, .null, .null, .null, .int 0, .int 0, .int 0, .int 0])) :: (((([] ++ [(q1, .inl (cA, 6, .inl zr))]) ++ [(q2, .inl (cA, 8, .inl zr))]) ++ [(q3, .inl (cA, 8, .inl zr))]) ++ [(q4, .inl (cA, 8, .inl zr))])) H := hP
  have hD : va_D A ((h0, .inr (7, [.ref q1, .ref q2, .ref q3, .ref q4, .null, .null, .null, .null, .int 0, .int 0, .int 0, .int 0])) :: (((([] ++ [(q1, .inl (cA, 6, .inl zr))]) ++ [(q2, .inl (cA, 8, .inl zr))]) ++ [(q3, .inl (cA, 8, .inl zr))]) ++ [(q4, .inl (cA, 8, .inl zr))])) := hD
  refine lv_aload_n hx hb dX8_init_36 rfl (lv_at hl 0 rfl) ?_
  refine lv_iconst (v := 3) hx hb dX8_init_37 (by decide) ?_
  refine r_newI (N := 3) hx hb (hts _ (List.mem_of_getElem? (i := 4) rfl)) hK hP hD hS hA (by decide) (by decide) (Nat.le_of_ble_eq_true rfl) (Nat.le_of_ble_eq_true rfl) (Nat.le_of_ble_eq_true rfl) dX8_init_38 (fun q5 H hP hD hS => ?_)
  have hP : va_P (dC, dI) vwCl ((h0, .inr (7, [.ref q1, .ref q2, .ref q3, .ref q4, .null, .null, .null, .null, .int 0, .int 0, .int 0, .int 0])) :: ((((([] ++ [(q1, .inl (cA, 6, .inl zr))]) ++ [(q2, .inl (cA, 8, .inl zr))]) ++ [(q3, .inl (cA, 8, .inl zr))]) ++ [(q4, .inl (cA, 8, .inl zr))]) ++ [(q5, .inl (cA, 3, .inl zr))])) H := hP
  have hD : va_D A ((h0, .inr (7, [.ref q1, .ref q2, .ref q3, .ref q4, .null, .null, .null, .null, .int 0, .int 0, .int 0, .int 0])) :: ((((([] ++ [(q1, .inl (cA, 6, .inl zr))]) ++ [(q2, .inl (cA, 8, .inl zr))]) ++ [(q3, .inl (cA, 8, .inl zr))]) ++ [(q4, .inl (cA, 8, .inl zr))]) ++ [(q5, .inl (cA, 3, .inl zr))])) := hD
  refine va_putF (D := (dC, dI)) (ci := 7) (v := .ref q5) (ty := .array .int) (C := RX8) (T := TX8) (N := 12) hx hb hts (fun _ h => List.mem_cons_of_mem _ (List.mem_append_right _ h)) tyX8 tyX8_ok nmX8 hown hK hP hD hS 0 rfl rfl 4 (by decide) (hts _ (List.mem_of_getElem? (i := 9) rfl)) (fun _ h9 => h9) rfl hin rfl (by decide +kernel) rfl rfl (Nat.le_of_ble_eq_true rfl) dX8_init_40 (fun H locs hP hD hS => ?_)
  have hP : va_P (dC, dI) vwCl ((h0, .inr (7, [.ref q1, .ref q2, .ref q3, .ref q4, .ref q5, .null, .null, .null, .int 0, .int 0, .int 0, .int 0])) :: ((((([] ++ [(q1, .inl (cA, 6, .inl zr))]) ++ [(q2, .inl (cA, 8, .inl zr))]) ++ [(q3, .inl (cA, 8, .inl zr))]) ++ [(q4, .inl (cA, 8, .inl zr))]) ++ [(q5, .inl (cA, 3, .inl zr))])) H := hP
  have hD : va_D A ((h0, .inr (7, [.ref q1, .ref q2, .ref q3, .ref q4, .ref q5, .null, .null, .null, .int 0, .int 0, .int 0, .int 0])) :: ((((([] ++ [(q1, .inl (cA, 6, .inl zr))]) ++ [(q2, .inl (cA, 8, .inl zr))]) ++ [(q3, .inl (cA, 8, .inl zr))]) ++ [(q4, .inl (cA, 8, .inl zr))]) ++ [(q5, .inl (cA, 3, .inl zr))])) := hD
  refine lv_aload_n hx hb dX8_init_43 rfl (lv_at hl 0 rfl) ?_
  refine lv_iconst (v := 3) hx hb dX8_init_44 (by decide) ?_
  refine r_newI (N := 3) hx hb (hts _ (List.mem_of_getElem? (i := 4) rfl)) hK hP hD hS hA (by decide) (by decide) (Nat.le_of_ble_eq_true rfl) (Nat.le_of_ble_eq_true rfl) (Nat.le_of_ble_eq_true rfl) dX8_init_45 (fun q6 H hP hD hS => ?_)
  have hP : va_P (dC, dI) vwCl ((h0, .inr (7, [.ref q1, .ref q2, .ref q3, .ref q4, .ref q5, .null, .null, .null, .int 0, .int 0, .int 0, .int 0])) :: (((((([] ++ [(q1, .inl (cA, 6, .inl zr))]) ++ [(q2, .inl (cA, 8, .inl zr))]) ++ [(q3, .inl (cA, 8, .inl zr))]) ++ [(q4, .inl (cA, 8, .inl zr))]) ++ [(q5, .inl (cA, 3, .inl zr))]) ++ [(q6, .inl (cA, 3, .inl zr))])) H := hP
  have hD : va_D A ((h0, .inr (7, [.ref q1, .ref q2, .ref q3, .ref q4, .ref q5, .null, .null, .null, .int 0, .int 0, .int 0, .int 0])) :: (((((([] ++ [(q1, .inl (cA, 6, .inl zr))]) ++ [(q2, .inl (cA, 8, .inl zr))]) ++ [(q3, .inl (cA, 8, .inl zr))]) ++ [(q4, .inl (cA, 8, .inl zr))]) ++ [(q5, .inl (cA, 3, .inl zr))]) ++ [(q6, .inl (cA, 3, .inl zr))])) := hD
  refine va_putF (D := (dC, dI)) (ci := 7) (v := .ref q6) (ty := .array .int) (C := RX8) (T := TX8) (N := 12) hx hb hts (fun _ h => List.mem_cons_of_mem _ (List.mem_append_right _ h)) tyX8 tyX8_ok nmX8 hown hK hP hD hS 0 rfl rfl 5 (by decide) (hts _ (List.mem_of_getElem? (i := 10) rfl)) (fun _ h9 => h9) rfl hin rfl (by decide +kernel) rfl rfl (Nat.le_of_ble_eq_true rfl) dX8_init_47 (fun H locs hP hD hS => ?_)
  have hP : va_P (dC, dI) vwCl ((h0, .inr (7, [.ref q1, .ref q2, .ref q3, .ref q4, .ref q5, .ref q6, .null, .null, .int 0, .int 0, .int 0, .int 0])) :: (((((([] ++ [(q1, .inl (cA, 6, .inl zr))]) ++ [(q2, .inl (cA, 8, .inl zr))]) ++ [(q3, .inl (cA, 8, .inl zr))]) ++ [(q4, .inl (cA, 8, .inl zr))]) ++ [(q5, .inl (cA, 3, .inl zr))]) ++ [(q6, .inl (cA, 3, .inl zr))])) H := hP
  have hD : va_D A ((h0, .inr (7, [.ref q1, .ref q2, .ref q3, .ref q4, .ref q5, .ref q6, .null, .null, .int 0, .int 0, .int 0, .int 0])) :: (((((([] ++ [(q1, .inl (cA, 6, .inl zr))]) ++ [(q2, .inl (cA, 8, .inl zr))]) ++ [(q3, .inl (cA, 8, .inl zr))]) ++ [(q4, .inl (cA, 8, .inl zr))]) ++ [(q5, .inl (cA, 3, .inl zr))]) ++ [(q6, .inl (cA, 3, .inl zr))])) := hD
  refine lv_aload_n hx hb dX8_init_50 rfl (lv_at hl 0 rfl) ?_
  refine lv_bipush (v := 24) hx hb dX8_init_51 (by decide) ?_
  refine r_newI (N := 24) hx hb (hts _ (List.mem_of_getElem? (i := 4) rfl)) hK hP hD hS hA (by decide) (by decide) (Nat.le_of_ble_eq_true rfl) (Nat.le_of_ble_eq_true rfl) (Nat.le_of_ble_eq_true rfl) dX8_init_53 (fun q7 H hP hD hS => ?_)
  have hP : va_P (dC, dI) vwCl ((h0, .inr (7, [.ref q1, .ref q2, .ref q3, .ref q4, .ref q5, .ref q6, .null, .null, .int 0, .int 0, .int 0, .int 0])) :: ((((((([] ++ [(q1, .inl (cA, 6, .inl zr))]) ++ [(q2, .inl (cA, 8, .inl zr))]) ++ [(q3, .inl (cA, 8, .inl zr))]) ++ [(q4, .inl (cA, 8, .inl zr))]) ++ [(q5, .inl (cA, 3, .inl zr))]) ++ [(q6, .inl (cA, 3, .inl zr))]) ++ [(q7, .inl (cA, 24, .inl zr))])) H := hP
  have hD : va_D A ((h0, .inr (7, [.ref q1, .ref q2, .ref q3, .ref q4, .ref q5, .ref q6, .null, .null, .int 0, .int 0, .int 0, .int 0])) :: ((((((([] ++ [(q1, .inl (cA, 6, .inl zr))]) ++ [(q2, .inl (cA, 8, .inl zr))]) ++ [(q3, .inl (cA, 8, .inl zr))]) ++ [(q4, .inl (cA, 8, .inl zr))]) ++ [(q5, .inl (cA, 3, .inl zr))]) ++ [(q6, .inl (cA, 3, .inl zr))]) ++ [(q7, .inl (cA, 24, .inl zr))])) := hD
  refine va_putF (D := (dC, dI)) (ci := 7) (v := .ref q7) (ty := .array .int) (C := RX8) (T := TX8) (N := 12) hx hb hts (fun _ h => List.mem_cons_of_mem _ (List.mem_append_right _ h)) tyX8 tyX8_ok nmX8 hown hK hP hD hS 0 rfl rfl 6 (by decide) (hts _ (List.mem_of_getElem? (i := 11) rfl)) (fun _ h9 => h9) rfl hin rfl (by decide +kernel) rfl rfl (Nat.le_of_ble_eq_true rfl) dX8_init_55 (fun H locs hP hD hS => ?_)
  have hP : va_P (dC, dI) vwCl ((h0, .inr (7, [.ref q1, .ref q2, .ref q3, .ref q4, .ref q5, .ref q6, .ref q7, .null, .int 0, .int 0, .int 0, .int 0])) :: ((((((([] ++ [(q1, .inl (cA, 6, .inl zr))]) ++ [(q2, .inl (cA, 8, .inl zr))]) ++ [(q3, .inl (cA, 8, .inl zr))]) ++ [(q4, .inl (cA, 8, .inl zr))]) ++ [(q5, .inl (cA, 3, .inl zr))]) ++ [(q6, .inl (cA, 3, .inl zr))]) ++ [(q7, .inl (cA, 24, .inl zr))])) H := hP
  have hD : va_D A ((h0, .inr (7, [.ref q1, .ref q2, .ref q3, .ref q4, .ref q5, .ref q6, .ref q7, .null, .int 0, .int 0, .int 0, .int 0])) :: ((((((([] ++ [(q1, .inl (cA, 6, .inl zr))]) ++ [(q2, .inl (cA, 8, .inl zr))]) ++ [(q3, .inl (cA, 8, .inl zr))]) ++ [(q4, .inl (cA, 8, .inl zr))]) ++ [(q5, .inl (cA, 3, .inl zr))]) ++ [(q6, .inl (cA, 3, .inl zr))]) ++ [(q7, .inl (cA, 24, .inl zr))])) := hD
  refine lv_aload_n hx hb dX8_init_58 rfl (lv_at hl 0 rfl) ?_
  refine lv_iconst (v := 3) hx hb dX8_init_59 (by decide) ?_
  refine r_newI (N := 3) hx hb (hts _ (List.mem_of_getElem? (i := 4) rfl)) hK hP hD hS hA (by decide) (by decide) (Nat.le_of_ble_eq_true rfl) (Nat.le_of_ble_eq_true rfl) (Nat.le_of_ble_eq_true rfl) dX8_init_60 (fun q8 H hP hD hS => ?_)
  have hP : va_P (dC, dI) vwCl ((h0, .inr (7, [.ref q1, .ref q2, .ref q3, .ref q4, .ref q5, .ref q6, .ref q7, .null, .int 0, .int 0, .int 0, .int 0])) :: (((((((([] ++ [(q1, .inl (cA, 6, .inl zr))]) ++ [(q2, .inl (cA, 8, .inl zr))]) ++ [(q3, .inl (cA, 8, .inl zr))]) ++ [(q4, .inl (cA, 8, .inl zr))]) ++ [(q5, .inl (cA, 3, .inl zr))]) ++ [(q6, .inl (cA, 3, .inl zr))]) ++ [(q7, .inl (cA, 24, .inl zr))]) ++ [(q8, .inl (cA, 3, .inl zr))])) H := hP
  have hD : va_D A ((h0, .inr (7, [.ref q1, .ref q2, .ref q3, .ref q4, .ref q5, .ref q6, .ref q7, .null, .int 0, .int 0, .int 0, .int 0])) :: (((((((([] ++ [(q1, .inl (cA, 6, .inl zr))]) ++ [(q2, .inl (cA, 8, .inl zr))]) ++ [(q3, .inl (cA, 8, .inl zr))]) ++ [(q4, .inl (cA, 8, .inl zr))]) ++ [(q5, .inl (cA, 3, .inl zr))]) ++ [(q6, .inl (cA, 3, .inl zr))]) ++ [(q7, .inl (cA, 24, .inl zr))]) ++ [(q8, .inl (cA, 3, .inl zr))])) := hD
  refine va_putF (D := (dC, dI)) (ci := 7) (v := .ref q8) (ty := .array .int) (C := RX8) (T := TX8) (N := 12) hx hb hts (fun _ h => List.mem_cons_of_mem _ (List.mem_append_right _ h)) tyX8 tyX8_ok nmX8 hown hK hP hD hS 0 rfl rfl 7 (by decide) (hts _ (List.mem_of_getElem? (i := 12) rfl)) (fun _ h9 => h9) rfl hin rfl (by decide +kernel) rfl rfl (Nat.le_of_ble_eq_true rfl) dX8_init_62 (fun H locs hP hD hS => ?_)
  have hP : va_P (dC, dI) vwCl ((h0, .inr (7, [.ref q1, .ref q2, .ref q3, .ref q4, .ref q5, .ref q6, .ref q7, .ref q8, .int 0, .int 0, .int 0, .int 0])) :: (((((((([] ++ [(q1, .inl (cA, 6, .inl zr))]) ++ [(q2, .inl (cA, 8, .inl zr))]) ++ [(q3, .inl (cA, 8, .inl zr))]) ++ [(q4, .inl (cA, 8, .inl zr))]) ++ [(q5, .inl (cA, 3, .inl zr))]) ++ [(q6, .inl (cA, 3, .inl zr))]) ++ [(q7, .inl (cA, 24, .inl zr))]) ++ [(q8, .inl (cA, 3, .inl zr))])) H := hP
  have hD : va_D A ((h0, .inr (7, [.ref q1, .ref q2, .ref q3, .ref q4, .ref q5, .ref q6, .ref q7, .ref q8, .int 0, .int 0, .int 0, .int 0])) :: (((((((([] ++ [(q1, .inl (cA, 6, .inl zr))]) ++ [(q2, .inl (cA, 8, .inl zr))]) ++ [(q3, .inl (cA, 8, .inl zr))]) ++ [(q4, .inl (cA, 8, .inl zr))]) ++ [(q5, .inl (cA, 3, .inl zr))]) ++ [(q6, .inl (cA, 3, .inl zr))]) ++ [(q7, .inl (cA, 24, .inl zr))]) ++ [(q8, .inl (cA, 3, .inl zr))])) := hD
  have hP9 : va_P (dC, dI) vwCl (wX8 (fun k => if k = 0 then h0 else if k < 2 then q1 else if k < 3 then q2 else if k < 4 then q3 else if k < 5 then q4 else if k < 6 then q5 else if k < 7 then q6 else if k < 8 then q7 else q8) cA) H := hP
  have hD9 : va_D A (wX8 (fun k => if k = 0 then h0 else if k < 2 then q1 else if k < 3 then q2 else if k < 4 then q3 else if k < 5 then q4 else if k < 6 then q5 else if k < 7 then q6 else if k < 8 then q7 else q8) cA) := hD
  refine W.widen (k := 8) (n := 63) (Nat.le_of_ble_eq_true rfl) (Nat.le_of_ble_eq_true rfl) ?_
  exact W.vret hx hb hr (fun t ht _ => ⟨⟨_, rfl, rfl, by rw [ht]; exact hP9, hD9⟩, hS.F ht⟩) hS.2.2 dX8_init_65 hlocks
set_option maxHeartbeats 4000000 in
set_option maxRecDepth 100000 in
theorem k_X3 (h0 sz : Nat) : Met l yX3_init wsX3_init ({ frames := 1, cells := 1, slots := 24, locals := 20 } : Room) (va_Pc [.ref h0] (PC dC dI cA cZ [(h0, .inr (2, [.null, .int 0, .int 0, .int 0]))] sz)) (va_Qv (fun u : Nat → Nat => u 0 = h0) (fun u t => va_P (dC, dI) vwCl (wX3 u cA) t.heap ∧ va_D (va_A [(h0, .inr (2, [.null, .int 0, .int 0, .int 0]))] sz) (wX3 u cA)) (va_A [(h0, .inr (2, [.null, .int 0, .int 0, .int 0]))] sz)) 1 24 (va_A [(h0, .inr (2, [.null, .int 0, .int 0, .int 0]))] sz) := by
  refine Met.ofW (cc := cX3_init) (maxL := 1) (ret := none) (by decide) rfl ?_
  intro p e s m args below meth c s₁ B hml hv0
  obtain ⟨rfl, hsz, hP, hN⟩ := hv0
  have hin : meth.name = "<init>" := (name_of_methodNamed B.named B.method).1
  obtain ⟨hx, hb, hml, hown, hts, hr, hlocks⟩ : Cx cX3_init RX3 wsX3_init 1 none p s m ([.ref h0] : List Value).toArray meth c := ⟨B.exec, B.bytes, hml, findClass_of_methodNamed B.named, atoms_spec (ws := wsX3_init) B.pre, B.returns, B.notSynchronized⟩
  subst hsz
  have hD : va_D (va_A [(h0, .inr (2, [.null, .int 0, .int 0, .int 0]))] s.heap.size) [(h0, .inr (2, [.null, .int 0, .int 0, .int 0]))] := vD1 (Or.inl ⟨0, _, rfl⟩)
  generalize hAe : va_A [(h0, .inr (2, [.null, .int 0, .int 0, .int 0]))] s.heap.size = A at hD ⊢
  have hA : ∀ q : Nat, s.heap.size ≤ q → A q := fun q h => by rw [← hAe]; exact Or.inr h
  have hS : va_S A s.heap s.heap [] := va_S.rf
  have hK := hN.1.1
  have hl := lv_entry ([.ref h0]) (n := 1) (Nat.le_of_ble_eq_true rfl)
  rw [lg_entry_eq]
  generalize (lg_sl ([.ref h0]) ++ List.replicate (1 - (lg_sl ([.ref h0])).length) Slot.unset).toArray = ls at hl ⊢
  have hl : lv_has ls 1 [(0, .ref h0)] := hl
  refine lv_aload_n hx hb dX3_init_0 rfl (lv_at hl 0 rfl) ?_
  refine W.objInit hx hb hown (hts _ (List.mem_of_getElem? (i := 1) rfl)) (hts _ (List.mem_of_getElem? (i := 2) rfl)) (hts _ (List.mem_of_getElem? (i := 3) rfl)) rfl (by rw [hml]; exact hl.1) rfl dX3_init_1 (Nat.le_of_ble_eq_true rfl) (Nat.le_of_ble_eq_true rfl) ?_
  refine W.eq (g2 := F0 m 4 ls []) rfl ?_
  refine lv_aload_n hx hb dX3_init_4 rfl (lv_at hl 0 rfl) ?_
  refine lv_bipush (v := 24) hx hb dX3_init_5 (by decide) ?_
  refine r_newI (N := 24) hx hb (hts _ (List.mem_of_getElem? (i := 4) rfl)) hK hP hD hS hA (by decide) (by decide) (Nat.le_of_ble_eq_true rfl) (Nat.le_of_ble_eq_true rfl) (Nat.le_of_ble_eq_true rfl) dX3_init_7 (fun q1 H hP hD hS => ?_)
  have hP : va_P (dC, dI) vwCl ((h0, .inr (2, [.null, .int 0, .int 0, .int 0])) :: ([] ++ [(q1, .inl (cA, 24, .inl zr))])) H := hP
  have hD : va_D A ((h0, .inr (2, [.null, .int 0, .int 0, .int 0])) :: ([] ++ [(q1, .inl (cA, 24, .inl zr))])) := hD
  refine va_putF (D := (dC, dI)) (ci := 2) (v := .ref q1) (ty := .array .int) (C := RX3) (T := TX3) (N := 4) hx hb hts (fun _ h => List.mem_cons_of_mem _ (List.mem_append_right _ h)) tyX3 tyX3_ok nmX3 hown hK hP hD hS 0 rfl rfl 0 (by decide) (hts _ (List.mem_of_getElem? (i := 5) rfl)) (fun _ h9 => h9) rfl hin rfl (by decide +kernel) rfl rfl (Nat.le_of_ble_eq_true rfl) dX3_init_9 (fun H locs hP hD hS => ?_)
  have hP : va_P (dC, dI) vwCl ((h0, .inr (2, [.ref q1, .int 0, .int 0, .int 0])) :: ([] ++ [(q1, .inl (cA, 24, .inl zr))])) H := hP
  have hD : va_D A ((h0, .inr (2, [.ref q1, .int 0, .int 0, .int 0])) :: ([] ++ [(q1, .inl (cA, 24, .inl zr))])) := hD
  have hP9 : va_P (dC, dI) vwCl (wX3 (fun k => if k = 0 then h0 else q1) cA) H := hP
  have hD9 : va_D A (wX3 (fun k => if k = 0 then h0 else q1) cA) := hD
  refine W.widen (k := 1) (n := 24) (Nat.le_of_ble_eq_true rfl) (Nat.le_of_ble_eq_true rfl) ?_
  exact W.vret hx hb hr (fun t ht _ => ⟨⟨_, rfl, rfl, by rw [ht]; exact hP9, hD9⟩, hS.F ht⟩) hS.2.2 dX3_init_12 hlocks
set_option maxHeartbeats 4000000 in
set_option maxRecDepth 100000 in
theorem k_X2 (h0 sz : Nat) : Met l yX2_init wsX2_init ({ frames := 1, cells := 1, slots := 128, locals := 20 } : Room) (va_Pc [.ref h0] (PC dC dI cA cZ [(h0, .inr (1, [.null, .int 0]))] sz)) (va_Qv (fun u : Nat → Nat => u 0 = h0) (fun u t => va_P (dC, dI) vwCl (wX2 u cA) t.heap ∧ va_D (va_A [(h0, .inr (1, [.null, .int 0]))] sz) (wX2 u cA)) (va_A [(h0, .inr (1, [.null, .int 0]))] sz)) 1 128 (va_A [(h0, .inr (1, [.null, .int 0]))] sz) := by
  refine Met.ofW (cc := cX2_init) (maxL := 1) (ret := none) (by decide) rfl ?_
  intro p e s m args below meth c s₁ B hml hv0
  obtain ⟨rfl, hsz, hP, hN⟩ := hv0
  have hin : meth.name = "<init>" := (name_of_methodNamed B.named B.method).1
  obtain ⟨hx, hb, hml, hown, hts, hr, hlocks⟩ : Cx cX2_init RX2 wsX2_init 1 none p s m ([.ref h0] : List Value).toArray meth c := ⟨B.exec, B.bytes, hml, findClass_of_methodNamed B.named, atoms_spec (ws := wsX2_init) B.pre, B.returns, B.notSynchronized⟩
  subst hsz
  have hD : va_D (va_A [(h0, .inr (1, [.null, .int 0]))] s.heap.size) [(h0, .inr (1, [.null, .int 0]))] := vD1 (Or.inl ⟨0, _, rfl⟩)
  generalize hAe : va_A [(h0, .inr (1, [.null, .int 0]))] s.heap.size = A at hD ⊢
  have hA : ∀ q : Nat, s.heap.size ≤ q → A q := fun q h => by rw [← hAe]; exact Or.inr h
  have hS : va_S A s.heap s.heap [] := va_S.rf
  have hK := hN.1.1
  have hl := lv_entry ([.ref h0]) (n := 1) (Nat.le_of_ble_eq_true rfl)
  rw [lg_entry_eq]
  generalize (lg_sl ([.ref h0]) ++ List.replicate (1 - (lg_sl ([.ref h0])).length) Slot.unset).toArray = ls at hl ⊢
  have hl : lv_has ls 1 [(0, .ref h0)] := hl
  refine lv_aload_n hx hb dX2_init_0 rfl (lv_at hl 0 rfl) ?_
  refine W.objInit hx hb hown (hts _ (List.mem_of_getElem? (i := 1) rfl)) (hts _ (List.mem_of_getElem? (i := 2) rfl)) (hts _ (List.mem_of_getElem? (i := 3) rfl)) rfl (by rw [hml]; exact hl.1) rfl dX2_init_1 (Nat.le_of_ble_eq_true rfl) (Nat.le_of_ble_eq_true rfl) ?_
  refine W.eq (g2 := F0 m 4 ls []) rfl ?_
  refine lv_aload_n hx hb dX2_init_4 rfl (lv_at hl 0 rfl) ?_
  refine lv_sipush (v := 128) hx hb dX2_init_5 (by decide) ?_
  refine r_newI (N := 128) hx hb (hts _ (List.mem_of_getElem? (i := 4) rfl)) hK hP hD hS hA (by decide) (by decide) (Nat.le_of_ble_eq_true rfl) (Nat.le_of_ble_eq_true rfl) (Nat.le_of_ble_eq_true rfl) dX2_init_8 (fun q1 H hP hD hS => ?_)
  have hP : va_P (dC, dI) vwCl ((h0, .inr (1, [.null, .int 0])) :: ([] ++ [(q1, .inl (cA, 128, .inl zr))])) H := hP
  have hD : va_D A ((h0, .inr (1, [.null, .int 0])) :: ([] ++ [(q1, .inl (cA, 128, .inl zr))])) := hD
  refine va_putF (D := (dC, dI)) (ci := 1) (v := .ref q1) (ty := .array .int) (C := RX2) (T := TX2) (N := 2) hx hb hts (fun _ h => List.mem_cons_of_mem _ (List.mem_append_right _ h)) tyX2 tyX2_ok nmX2 hown hK hP hD hS 0 rfl rfl 0 (by decide) (hts _ (List.mem_of_getElem? (i := 5) rfl)) (fun _ h9 => h9) rfl hin rfl (by decide +kernel) rfl rfl (Nat.le_of_ble_eq_true rfl) dX2_init_10 (fun H locs hP hD hS => ?_)
  have hP : va_P (dC, dI) vwCl ((h0, .inr (1, [.ref q1, .int 0])) :: ([] ++ [(q1, .inl (cA, 128, .inl zr))])) H := hP
  have hD : va_D A ((h0, .inr (1, [.ref q1, .int 0])) :: ([] ++ [(q1, .inl (cA, 128, .inl zr))])) := hD
  have hP9 : va_P (dC, dI) vwCl (wX2 (fun k => if k = 0 then h0 else q1) cA) H := hP
  have hD9 : va_D A (wX2 (fun k => if k = 0 then h0 else q1) cA) := hD
  refine W.widen (k := 1) (n := 128) (Nat.le_of_ble_eq_true rfl) (Nat.le_of_ble_eq_true rfl) ?_
  exact W.vret hx hb hr (fun t ht _ => ⟨⟨_, rfl, rfl, by rw [ht]; exact hP9, hD9⟩, hS.F ht⟩) hS.2.2 dX2_init_13 hlocks
set_option maxHeartbeats 4000000 in
set_option maxRecDepth 100000 in
theorem k_X9 (h0 sz : Nat) : Met l yX9_init wsX9_init ({ frames := 1, cells := 1, slots := 150, locals := 20 } : Room) (va_Pc [.ref h0] (PC dC dI cA cZ [(h0, .inr (8, [.null, .int 0, .int 0, .int 0, .int 0, .int 0]))] sz)) (va_Qv (fun u : Nat → Nat => u 0 = h0) (fun u t => va_P (dC, dI) vwCl (wX9 u cA) t.heap ∧ va_D (va_A [(h0, .inr (8, [.null, .int 0, .int 0, .int 0, .int 0, .int 0]))] sz) (wX9 u cA)) (va_A [(h0, .inr (8, [.null, .int 0, .int 0, .int 0, .int 0, .int 0]))] sz)) 1 150 (va_A [(h0, .inr (8, [.null, .int 0, .int 0, .int 0, .int 0, .int 0]))] sz) := by
  refine Met.ofW (cc := cX9_init) (maxL := 1) (ret := none) (by decide) rfl ?_
  intro p e s m args below meth c s₁ B hml hv0
  obtain ⟨rfl, hsz, hP, hN⟩ := hv0
  have hin : meth.name = "<init>" := (name_of_methodNamed B.named B.method).1
  obtain ⟨hx, hb, hml, hown, hts, hr, hlocks⟩ : Cx cX9_init RX9 wsX9_init 1 none p s m ([.ref h0] : List Value).toArray meth c := ⟨B.exec, B.bytes, hml, findClass_of_methodNamed B.named, atoms_spec (ws := wsX9_init) B.pre, B.returns, B.notSynchronized⟩
  subst hsz
  have hD : va_D (va_A [(h0, .inr (8, [.null, .int 0, .int 0, .int 0, .int 0, .int 0]))] s.heap.size) [(h0, .inr (8, [.null, .int 0, .int 0, .int 0, .int 0, .int 0]))] := vD1 (Or.inl ⟨0, _, rfl⟩)
  generalize hAe : va_A [(h0, .inr (8, [.null, .int 0, .int 0, .int 0, .int 0, .int 0]))] s.heap.size = A at hD ⊢
  have hA : ∀ q : Nat, s.heap.size ≤ q → A q := fun q h => by rw [← hAe]; exact Or.inr h
  have hS : va_S A s.heap s.heap [] := va_S.rf
  have hK := hN.1.1
  have hl := lv_entry ([.ref h0]) (n := 1) (Nat.le_of_ble_eq_true rfl)
  rw [lg_entry_eq]
  generalize (lg_sl ([.ref h0]) ++ List.replicate (1 - (lg_sl ([.ref h0])).length) Slot.unset).toArray = ls at hl ⊢
  have hl : lv_has ls 1 [(0, .ref h0)] := hl
  refine lv_aload_n hx hb dX9_init_0 rfl (lv_at hl 0 rfl) ?_
  refine W.objInit hx hb hown (hts _ (List.mem_of_getElem? (i := 1) rfl)) (hts _ (List.mem_of_getElem? (i := 2) rfl)) (hts _ (List.mem_of_getElem? (i := 3) rfl)) rfl (by rw [hml]; exact hl.1) rfl dX9_init_1 (Nat.le_of_ble_eq_true rfl) (Nat.le_of_ble_eq_true rfl) ?_
  refine W.eq (g2 := F0 m 4 ls []) rfl ?_
  refine lv_aload_n hx hb dX9_init_4 rfl (lv_at hl 0 rfl) ?_
  refine lv_sipush (v := 150) hx hb dX9_init_5 (by decide) ?_
  refine r_newI (N := 150) hx hb (hts _ (List.mem_of_getElem? (i := 4) rfl)) hK hP hD hS hA (by decide) (by decide) (Nat.le_of_ble_eq_true rfl) (Nat.le_of_ble_eq_true rfl) (Nat.le_of_ble_eq_true rfl) dX9_init_8 (fun q1 H hP hD hS => ?_)
  have hP : va_P (dC, dI) vwCl ((h0, .inr (8, [.null, .int 0, .int 0, .int 0, .int 0, .int 0])) :: ([] ++ [(q1, .inl (cA, 150, .inl zr))])) H := hP
  have hD : va_D A ((h0, .inr (8, [.null, .int 0, .int 0, .int 0, .int 0, .int 0])) :: ([] ++ [(q1, .inl (cA, 150, .inl zr))])) := hD
  refine va_putF (D := (dC, dI)) (ci := 8) (v := .ref q1) (ty := .array .int) (C := RX9) (T := TX9) (N := 6) hx hb hts (fun _ h => List.mem_cons_of_mem _ (List.mem_append_right _ h)) tyX9 tyX9_ok nmX9 hown hK hP hD hS 0 rfl rfl 0 (by decide) (hts _ (List.mem_of_getElem? (i := 5) rfl)) (fun _ h9 => h9) rfl hin rfl (by decide +kernel) rfl rfl (Nat.le_of_ble_eq_true rfl) dX9_init_10 (fun H locs hP hD hS => ?_)
  have hP : va_P (dC, dI) vwCl ((h0, .inr (8, [.ref q1, .int 0, .int 0, .int 0, .int 0, .int 0])) :: ([] ++ [(q1, .inl (cA, 150, .inl zr))])) H := hP
  have hD : va_D A ((h0, .inr (8, [.ref q1, .int 0, .int 0, .int 0, .int 0, .int 0])) :: ([] ++ [(q1, .inl (cA, 150, .inl zr))])) := hD
  have hP9 : va_P (dC, dI) vwCl (wX9 (fun k => if k = 0 then h0 else q1) cA) H := hP
  have hD9 : va_D A (wX9 (fun k => if k = 0 then h0 else q1) cA) := hD
  refine W.widen (k := 1) (n := 150) (Nat.le_of_ble_eq_true rfl) (Nat.le_of_ble_eq_true rfl) ?_
  exact W.vret hx hb hr (fun t ht _ => ⟨⟨_, rfl, rfl, by rw [ht]; exact hP9, hD9⟩, hS.F ht⟩) hS.2.2 dX9_init_13 hlocks
end CT
