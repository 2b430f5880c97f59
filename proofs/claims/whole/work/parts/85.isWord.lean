/-! a word of the text -/
theorem iwX9_isWord_X9 : ∀ w ∈ wsX90, w ∈ wsX9_isWord := fun _ h => List.mem_cons_of_mem _ (List.mem_append_right _ h)
def isWf (i : Nat) (σ : St) : Nat → Nat → Int32
  | 0, _ => 1
  | d + 1, k => if σ 71 (σ 70 3 + nI k).toNatClampNeg = chJ i k then isWf i σ d (k + 1) else 0
def isW (i : Nat) (σ : St) : Int32 := if σ 70 2 = 1 ∧ σ 70 5 - σ 70 3 = nI (lenJ.getD i 0) then isWf i σ (lenJ.getD i 0) 0 else 0
def V_X9_isWord (i : Nat) (σ : St) (Q : Int32 → St → Prop) : Prop := (σ 70 2 = 1 → σ 70 5 - σ 70 3 = nI (lenJ.getD i 0) → ∀ k, k < lenJ.getD i 0 → vp_in (σ 70 3 + nI k) 150) ∧ Q (isW i σ) σ
theorem isWf_z {i : Nat} {σ : St} : ∀ d k, isWf i σ d k = 0 ∨ isWf i σ d k = 1
  | 0, _ => Or.inr rfl
  | d + 1, k => by
    unfold isWf
    split
    · exact isWf_z d (k + 1)
    · exact Or.inl rfl
theorem isW_z {i : Nat} {σ : St} : isW i σ = 0 ∨ isW i σ = 1 := by
  unfold isW
  split
  · exact isWf_z _ _
  · exact Or.inl rfl
section IW
variable {l : Launch} {dC : Nat → ClassId} {dI : Nat → Nat → Nat} {ad : Nat → Nat} {cA cZ : ClassId} {adK adV : Nat → Nat}
abbrev QZ (dC : Nat → ClassId) (dI : Nat → Nat → Nat) (ad : Nat → Nat) (cA : ClassId) (sz : Nat) (Q : Int32 → St → Prop) : Array Value → State → Outcome → State → Prop := va_Qi (fun r u => (r = 0 ∨ r = 1) ∧ Q r u) (fun u t => va_P (dC, dI) vwCl (wd 81 ad (celC ad cA) u) t.heap) (AA 81 ad sz)
set_option maxHeartbeats 4000000 in
set_option maxRecDepth 100000 in
theorem c_X9_isWord (hi : Inj 81 ad) {i : Nat} (hi6 : i < 6) (s0 : St) (Q : Int32 → St → Prop) (hv : V_X9_isWord i s0 Q) (sz : Nat) : Met l yX9_isWord wsX9_isWord ({ frames := 4, cells := 0, slots := 0, locals := 85 } : Room) (va_Pc [.ref (ad 70), .ref (adK i)] (PS dC dI ad cA cZ adK adV sz s0)) (QZ dC dI ad cA sz Q) 0 0 (AA 81 ad sz) := by
  refine Met.ofW (cc := cX9_isWord) (maxL := 3) (ret := (some .boolean)) (by decide) rfl ?_
  intro p e s m args below meth c s₁ B hml hv0
  obtain ⟨rfl, ⟨hsz, hP, hK⟩, hZ, hR⟩ := hv0
  subst hsz
  obtain ⟨hx, hb, hml, hown, hts, hr, hlocks⟩ : Cx cX9_isWord RX9 wsX9_isWord 3 (some .boolean) p s m ([.ref (ad 70), .ref (adK i)] : List Value).toArray meth c := ⟨B.exec, B.bytes, hml, findClass_of_methodNamed B.named, atoms_spec (ws := wsX9_isWord) B.pre, B.returns, B.notSynchronized⟩
  have hl := lv_entry ([.ref (ad 70), .ref (adK i)]) (n := 3) (Nat.le_of_ble_eq_true rfl)
  rw [lg_entry_eq]
  generalize (lg_sl ([.ref (ad 70), .ref (adK i)]) ++ List.replicate (3 - (lg_sl ([.ref (ad 70), .ref (adK i)])).length) Slot.unset).toArray = ls at hl ⊢
  have hl : lv_has ls 3 [(0, .ref (ad 70)), (1, .ref (adK i))] := hl
  have hS : va_S (AA 81 ad s.heap.size) s.heap s.heap [] := va_S.rf
  obtain ⟨hin, hv⟩ := hv
  have h8 := ln_8 ⟨i, hi6⟩
  dsimp only at h8
  have hno : ∀ (H : Heap) (locs : List Loc) (ls : Array Slot), ¬ (s0 70 2 = 1 ∧ s0 70 5 - s0 70 3 = nI (lenJ.getD i 0)) → va_P (dC, dI) vwCl (wd 81 ad (celC ad cA) s0) H → va_S (AA 81 ad s.heap.size) s.heap H locs → W p l e ({ frames := 4, cells := 0, slots := 0, locals := 85 } : Room) s m ([.ref (ad 70), .ref (adK i)] : List Value).toArray below meth c H locs 0 0 (ZZ below ([.ref (ad 70), .ref (adK i)] : List Value).toArray s (dC, dI) 81 ad (celC ad cA) Q) (F0 m 24 ls []) := fun H locs ls hn hP hS => by
    unfold isW at hv
    rw [if_neg hn] at hv
    refine lv_iconst (v := 0) hx hb dX9_isWord_24 (by decide) ?_
    exact r_zret hx hb hr hlocks (Or.inl rfl) hv hP hS dX9_isWord_25
  have loop : ∀ (d k : Nat) (H : Heap) (locs : List Loc) (ls : Array Slot), s0 70 2 = 1 → s0 70 5 - s0 70 3 = nI (lenJ.getD i 0) → k + d = lenJ.getD i 0 → isW i s0 = isWf i s0 d k → va_P (dC, dI) vwCl (wd 81 ad (celC ad cA) s0) H → va_S (AA 81 ad s.heap.size) s.heap H locs → lv_has ls 3 [(2, .int (nI k)), (0, .ref (ad 70)), (1, .ref (adK i))] → W p l e ({ frames := 4, cells := 0, slots := 0, locals := 85 } : Room) s m ([.ref (ad 70), .ref (adK i)] : List Value).toArray below meth c H locs 0 0 (ZZ below ([.ref (ad 70), .ref (adK i)] : List Value).toArray s (dC, dI) 81 ad (celC ad cA) Q) (F0 m 28 ls []) := by
    intro d
    induction d with
    | zero =>
      intro k H locs ls t1 t2 hk hw hP hS hl
      refine lv_iload_n hx hb dX9_isWord_28 rfl (lv_at hl 0 rfl) ?_
      refine lv_aload_n hx hb dX9_isWord_29 rfl (lv_at hl 2 rfl) ?_
      refine r_ci (va_runV (As := []) (rest := [.int (nI k)]) ⟨hx, hb, hml, hown, hts⟩ (c_length hi hi6 s0 (fun r u => r = nI (lenJ.getD i 0) ∧ u = s0) ⟨rfl, rfl⟩ H.size) (cwV 0 hts gX9_isWord_J0_length_8abf5 rfl rfl rfl (by decide +kernel) ⟨Nat.le_of_ble_eq_true rfl, Nat.le_of_ble_eq_true rfl⟩) ⟨preS_blind, vk_recv hZ.1 hi6 hS, preS_of hP hK hZ hR hS⟩ rfl rfl hl.1 rfl (lv_room (Nat.le_of_ble_eq_true rfl)) dX9_isWord_30 ⟨Nat.zero_le _, Nat.zero_le _⟩) hS (fun r u H locs hv2 hP1 hS1 => ?_)
      obtain ⟨rfl, hu⟩ := hv2
      rw [hu] at hP1
      refine lv_icmp_ge (tgt := 63) hx hb dX9_isWord_33 (by decide) (fun _ => ?_) (fun c => absurd (by rw [q_le (by omega) (by omega)]; omega) c)
      refine lv_iconst (v := 1) hx hb dX9_isWord_63 (by decide) ?_
      rw [hw] at hv
      exact r_zret hx hb hr hlocks (Or.inr rfl) hv hP1 hS1 dX9_isWord_64
    | succ d ih =>
      intro k H locs ls t1 t2 hk hw hP hS hl
      have ew : isWf i s0 (d + 1) k = if s0 71 (s0 70 3 + nI k).toNatClampNeg = chJ i k then isWf i s0 d (k + 1) else 0 := rfl
      refine lv_iload_n hx hb dX9_isWord_28 rfl (lv_at hl 0 rfl) ?_
      refine lv_aload_n hx hb dX9_isWord_29 rfl (lv_at hl 2 rfl) ?_
      refine r_ci (va_runV (As := []) (rest := [.int (nI k)]) ⟨hx, hb, hml, hown, hts⟩ (c_length hi hi6 s0 (fun r u => r = nI (lenJ.getD i 0) ∧ u = s0) ⟨rfl, rfl⟩ H.size) (cwV 0 hts gX9_isWord_J0_length_8abf5 rfl rfl rfl (by decide +kernel) ⟨Nat.le_of_ble_eq_true rfl, Nat.le_of_ble_eq_true rfl⟩) ⟨preS_blind, vk_recv hZ.1 hi6 hS, preS_of hP hK hZ hR hS⟩ rfl rfl hl.1 rfl (lv_room (Nat.le_of_ble_eq_true rfl)) dX9_isWord_30 ⟨Nat.zero_le _, Nat.zero_le _⟩) hS (fun r u H locs hv2 hP1 hS1 => ?_)
      obtain ⟨rfl, hu⟩ := hv2
      rw [hu] at hP1
      refine lv_icmp_ge (tgt := 63) hx hb dX9_isWord_33 (by decide) (fun c => absurd (by rw [q_le (by omega) (by omega)] at c; exact c) (by omega)) (fun _ => ?_)
      refine lv_aload_n hx hb dX9_isWord_36 rfl (lv_at hl 1 rfl) ?_
      refine r_get hx hb hts iwX9_isWord_X9 hown hK.1 hP1 70 (by decide) (ceTo_0 (s0 70)) rfl 0 (by decide) (hts _ (List.mem_of_getElem? (i := 4) rfl)) (v := .ref (ad 71)) rfl dX9_isWord_37 ?_
      refine lv_aload_n hx hb dX9_isWord_40 rfl (lv_at hl 1 rfl) ?_
      refine r_get hx hb hts iwX9_isWord_X9 hown hK.1 hP1 70 (by decide) (ceTo_0 (s0 70)) rfl 3 (by decide) (hts _ (List.mem_of_getElem? (i := 3) rfl)) (v := .int (s0 70 3)) rfl dX9_isWord_41 ?_
      refine lv_iload_n hx hb dX9_isWord_44 rfl (lv_at hl 0 rfl) ?_
      refine lv_iadd hx hb dX9_isWord_45 ?_
      refine r_iald hx hb hK.1 hP1 71 (by decide) (ceTo_1 (s0 71)) (hin t1 t2 k (by omega)) dX9_isWord_46 ?_
      refine lv_aload_n hx hb dX9_isWord_47 rfl (lv_at hl 2 rfl) ?_
      refine lv_iload_n hx hb dX9_isWord_48 rfl (lv_at hl 0 rfl) ?_
      refine r_ci (va_runV (As := [.int (nI k)]) (rest := [.int (s0 71 (s0 70 3 + nI k).toNatClampNeg)]) ⟨hx, hb, hml, hown, hts⟩ (c_charAt hi hi6 (k := k) (by omega) s0 (fun r u => r = chJ i k ∧ u = s0) ⟨rfl, rfl⟩ H.size) (cwV 1 hts gX9_isWord_J0_charAt_5068e rfl rfl rfl (by decide +kernel) ⟨Nat.le_of_ble_eq_true rfl, Nat.le_of_ble_eq_true rfl⟩) ⟨preS_blind, vk_recv hZ.1 hi6 hS1, preS_of hP1 hK hZ hR hS1⟩ rfl rfl hl.1 rfl (lv_room (Nat.le_of_ble_eq_true rfl)) dX9_isWord_49 ⟨Nat.zero_le _, Nat.zero_le _⟩) hS1 (fun r u2 H locs hv2 hP2 hS2 => ?_)
      obtain ⟨rfl, hu2⟩ := hv2
      rw [hu2] at hP2
      refine lv_icmp_eq (tgt := 57) hx hb dX9_isWord_52 (by decide) (fun c => ?_) (fun c => ?_)
      · refine lv_iinc (v := nI (k + 1)) (lv' := [(2, .int (nI (k + 1))), (0, .ref (ad 70)), (1, .ref (adK i))]) hx hb dX9_isWord_57 hl (k := 0) rfl (nI_1 k) (by decide) rfl (fun ls hl => ?_)
        refine lv_goto (tgt := 28) hx hb dX9_isWord_60 (by decide) ?_
        exact ih (k + 1) H locs ls t1 t2 (by omega) (by rw [hw, ew, if_pos c]) hP2 hS2 hl
      · refine lv_iconst (v := 0) hx hb dX9_isWord_55 (by decide) ?_
        rw [hw, ew, if_neg c] at hv
        exact r_zret hx hb hr hlocks (Or.inl rfl) hv hP2 hS2 dX9_isWord_56
  refine lv_aload_n hx hb dX9_isWord_0 rfl (lv_at hl 0 rfl) ?_
  refine r_get hx hb hts iwX9_isWord_X9 hown hK.1 hP 70 (by decide) (ceTo_0 (s0 70)) rfl 2 (by decide) (hts _ (List.mem_of_getElem? (i := 1) rfl)) (v := .int (s0 70 2)) rfl dX9_isWord_1 ?_
  refine lv_iconst (v := 1) hx hb dX9_isWord_4 (by decide) ?_
  refine lv_icmp_ne (tgt := 24) hx hb dX9_isWord_5 (by decide) (fun c => ?_) (fun c => ?_)
  · exact hno s.heap [] ls (fun q => c q.1) hP hS
  · have t1 : s0 70 2 = 1 := c
    refine lv_aload_n hx hb dX9_isWord_8 rfl (lv_at hl 0 rfl) ?_
    refine r_get hx hb hts iwX9_isWord_X9 hown hK.1 hP 70 (by decide) (ceTo_0 (s0 70)) rfl 5 (by decide) (hts _ (List.mem_of_getElem? (i := 2) rfl)) (v := .int (s0 70 5)) rfl dX9_isWord_9 ?_
    refine lv_aload_n hx hb dX9_isWord_12 rfl (lv_at hl 0 rfl) ?_
    refine r_get hx hb hts iwX9_isWord_X9 hown hK.1 hP 70 (by decide) (ceTo_0 (s0 70)) rfl 3 (by decide) (hts _ (List.mem_of_getElem? (i := 3) rfl)) (v := .int (s0 70 3)) rfl dX9_isWord_13 ?_
    refine lv_isub hx hb dX9_isWord_16 ?_
    refine lv_aload_n hx hb dX9_isWord_17 rfl (lv_at hl 1 rfl) ?_
    refine r_ci (va_runV (As := []) (rest := [.int (s0 70 5 - s0 70 3)]) ⟨hx, hb, hml, hown, hts⟩ (c_length hi hi6 s0 (fun r u => r = nI (lenJ.getD i 0) ∧ u = s0) ⟨rfl, rfl⟩ s.heap.size) (cwV 0 hts gX9_isWord_J0_length_8abf5 rfl rfl rfl (by decide +kernel) ⟨Nat.le_of_ble_eq_true rfl, Nat.le_of_ble_eq_true rfl⟩) ⟨preS_blind, vk_recv hZ.1 hi6 hS, preS_of hP hK hZ hR hS⟩ rfl rfl hl.1 rfl (lv_room (Nat.le_of_ble_eq_true rfl)) dX9_isWord_18 ⟨Nat.zero_le _, Nat.zero_le _⟩) hS (fun r u H locs hv2 hP1 hS1 => ?_)
    obtain ⟨rfl, hu⟩ := hv2
    rw [hu] at hP1
    refine lv_icmp_eq (tgt := 26) hx hb dX9_isWord_21 (by decide) (fun c2 => ?_) (fun c2 => ?_)
    · refine lv_iconst (v := 0) hx hb dX9_isWord_26 (by decide) ?_
      refine lv_istore_n (lv' := [(2, .int (nI 0)), (0, .ref (ad 70)), (1, .ref (adK i))]) hx hb dX9_isWord_27 rfl hl (by decide) rfl (fun ls hl => ?_)
      refine loop (lenJ.getD i 0) 0 H locs ls t1 c2 (by omega) ?_ hP1 hS1 hl
      unfold isW
      rw [if_pos ⟨t1, c2⟩]
    · exact hno H locs ls (fun q => c2 q.2) hP1 hS1
end IW
