section PR
variable {σ τ : St}
theorem zst_b {T : Nat → Nat} {n q : Nat} {D : Nat → Nat} (hq : q ≤ n) : (zst T n q D).1 ≤ n := by
  have := zte_l (T := T) hq
  unfold zst
  split
  · exact this.2
  · exact hq
theorem zw_b {T : Nat → Nat} {n : Nat} : ∀ d h p D, p ≤ n → (zw T n d h p D).1 ≤ n
  | 0, _, p, D, hp => zst_b hp
  | d + 1, h, p, D, hp => by
    have := zte_l (T := T) hp
    unfold zw
    split
    · exact this.2
    · split
      · exact zw_b d _ _ _ this.2
      · exact hp
theorem zit_b {T : Nat → Nat} {n p : Nat} {D : Nat → Nat} (hp : p ≤ n) : (zit T n p D).1 ≤ n := by
  have e0 := (zte_l (T := T) hp).2
  have e1 := (zte_l (T := T) e0).2
  have e2 := (zte_l (T := T) e1).2
  have e3 := (zte_l (T := T) e2).2
  have e4 := (zte_l (T := T) e3).2
  unfold zit
  split
  · exact zw_b _ _ _ _ e0
  · split
    · unfold zgl
      split
      · exact hp
      · unfold zg1
        split
        · unfold zg2
          split
          · unfold zg3
            split
            · exact zst_b e3
            · exact e2
          · exact e1
        · exact e0
    · split
      · unfold zcr
        split
        · exact hp
        · unfold zc1
          split
          · unfold zc2
            split
            · exact zst_b e2
            · exact e1
          · exact e0
      · split
        · unfold zsh
          split
          · exact zst_b e1
          · exact e0
        · split
          · unfold zho
            split
            · exact zst_b e1
            · exact e0
          · exact hp
theorem zrd_b {T : Nat → Nat} {n : Nat} {A0 : Nat → Nat} (hn : n ≤ 150) : ∀ d x p D, n < p + d → p ≤ n → x ≤ p → DI A0 D p → ((zrd T n d x p D).2 = none → ¬ (0 : Int32) ≤ (zrd T n d x p D).1) ∧ ((zrd T n d x p D).2 ≠ none → (0 : Int32) ≤ (zrd T n d x p D).1)
  | 0, x, p, D, h1, h2, _, _ => absurd h1 (by omega)
  | d + 1, x, p, D, h1, h2, h3, hD => by
    have bb := zit_b (T := T) (D := D) h2
    have b2 := zts_b (T := T) bb
    unfold zrd
    by_cases c : ztk T n p = 0
    · rw [if_pos c]
      exact ⟨fun h => absurd h (by intro x; cases x), fun _ => by rw [show (0 : Int32) = nI 0 from rfl, q_le (by omega) (by omega)]; omega⟩
    · rw [if_neg c]
      cases e : (zit T n p D).2 with
      | none => exact ⟨fun _ => q_neg ⟨zts T n (zit T n p D).1, by omega⟩, fun h => absurd rfl h⟩
      | some D2 =>
        obtain ⟨r1, r2, r3⟩ := zit_D hn h2 hD (Prod.ext rfl e : zit T n p D = ((zit T n p D).1, some D2))
        exact zrd_b hn d (x + 1) _ D2 (by omega) r3 (by omega) r1
theorem zread_b {T : Nat → Nat} {n : Nat} {A0 : Nat → Nat} (hn : n ≤ 150) (hA : DI A0 A0 0) : ((zread T n A0).2 = none → ¬ (0 : Int32) ≤ (zread T n A0).1) ∧ ((zread T n A0).2 ≠ none → (0 : Int32) ≤ (zread T n A0).1) := by
  have e0 := zte_l (T := T) (n := n) (p := 0) (by omega)
  have e1 := zte_l (T := T) e0.2
  have b0 := zts_b (T := T) (n := n) (p := 0) (by omega)
  have b1 := zts_b (T := T) e0.2
  unfold zread
  split
  · split
    · rename_i c3
      have z := zte_p (T := T) e0.2 (by omega : ztk T n (zte T n 0) ≠ 0)
      exact zrd_b hn (n + 1) 1 _ A0 (by omega) e1.2 (by omega) (hA.mono (by omega))
    · exact ⟨fun _ => q_neg ⟨zts T n (zte T n 0), by omega⟩, fun h => absurd rfl h⟩
  · exact ⟨fun _ => q_neg ⟨zts T n 0, by omega⟩, fun h => absurd rfl h⟩
theorem zrd_D {T : Nat → Nat} {n : Nat} {A0 : Nat → Nat} (hn : n ≤ 150) : ∀ d x p D D', n < p + d → p ≤ n → DI A0 D p → (zrd T n d x p D).2 = some D' → DI A0 D' n
  | 0, x, p, D, D', h1, h2, _, _ => absurd h1 (by omega)
  | d + 1, x, p, D, D', h1, h2, hD, h => by
    unfold zrd at h
    by_cases c : ztk T n p = 0
    · rw [if_pos c] at h
      exact Option.some.inj h ▸ hD.mono h2
    · rw [if_neg c] at h
      split at h
      · exact absurd h (by intro x; cases x)
      · rename_i D2 e
        obtain ⟨r1, r2, r3⟩ := zit_D hn h2 hD (Prod.ext rfl e : zit T n p D = ((zit T n p D).1, some D2))
        exact zrd_D hn d (x + 1) _ D2 D' (by omega) r3 r1 h
theorem zread_D {T : Nat → Nat} {n : Nat} {A0 D : Nat → Nat} (hn : n ≤ 150) (hA : DI A0 A0 0) (h : (zread T n A0).2 = some D) : DI A0 D n := by
  have e0 := zte_l (T := T) (n := n) (p := 0) (by omega)
  have e1 := zte_l (T := T) e0.2
  unfold zread at h
  split at h
  · split at h
    · exact zrd_D hn (n + 1) 1 _ A0 D (by omega) e1.2 (hA.mono (by omega)) h
    · exact absurd h (by intro x; cases x)
  · exact absurd h (by intro x; cases x)
theorem DI_z {A : Nat → Nat} (h : Sm A) : DI (zA A) (zA A) 0 := by
  have w := WFA_z h
  refine ⟨w.1, w.2.1, fun g hg => w.2.2.2.2.2.2.2.2.2.2.2 g hg, ?_, fun _ _ => rfl⟩
  rw [zA_lo (by omega)]
  omega
theorem DI_W {A D : Nat → Nat} {p : Nat} (h : DI (zA A) D p) (hp : p ≤ 150) : WFA D := by
  obtain ⟨d1, d2, d3, d4, d5⟩ := h
  have z : ∀ i, (2 ≤ i ∧ i < 6) ∨ (43 ≤ i ∧ i < 101) → D i = 0 := fun i hi => by rw [d5 i (by omega)]; exact zA_lo (by omega)
  have z2 := z 2 (by omega)
  have z3 := z 3 (by omega)
  have z4 := z 4 (by omega)
  have z5 := z 5 (by omega)
  exact ⟨d1, d2, by omega, by omega, by omega, by omega, by omega, fun i hi => absurd hi (by omega), fun i hi => absurd hi (by omega), fun i hi => absurd hi (by omega), fun r hr => absurd hr (by omega), d3⟩
set_option maxHeartbeats 4000000 in
set_option maxRecDepth 100000 in
theorem p_read (hJ : J σ τ) : V_X10_read σ (fun r σ' => V_X11_read τ (fun r' τ' => r = r' ∧ J σ' τ')) := by
  obtain ⟨S, B, HC, HM, HW⟩ := hJ
  unfold V_X10_read B_X10_read_e
  obtain ⟨hW0, hW1, hW2, h30, h31, h40, h41, h6, h5⟩ := id HW
  obtain ⟨c0, c1, c2, crow, c7, c8, c9, c10, c11, c12, c70, c71⟩ := id HC
  obtain ⟨m1, m2, m3, m4, m5, m6, m28, m30, m11, m9⟩ := id HM
  have hT : TB (S 5) (S 6 0) := ⟨h6, h5⟩
  have hA := DI_z HW.1.sm
  have hb := zread_b (T := S 5) h6 hA
  refine c_readStreet hT ⟨c70, c71⟩ (fun i hi => zA_lo (by omega)) hA (fun σ1 f1 t1 hs1 => ?_)
  have HC1 : CR σ1 S B := HC.c70 (fun q hq => f1 q (by omega)) (by rw [t1.1]; exact c70.symm)
  cases e : (zread (S 5) (S 6 0) (zA (S 0))).2 with
  | none =>
    refine br_f (hb.1 e) (m_read hT ⟨m11, m9⟩ m1 (fun i hi => zA_lo hi) hA (fun i hi => if_neg (by omega)) (fun τ1 g1 g2 g3 g4 => ⟨rfl, S, B, HC1, HM.c0 (fun q hq => ?_) g2, HW⟩))
    by_cases q1 : q = 1
    · rw [q1]; exact g3 e
    · exact g1 q (by omega)
  | some D =>
    have hsD := hs1 D e
    refine br_t (hb.2 (by rw [e]; intro x; cases x)) (c_empty HC1 (A' := zA (S 0)) (fun i hi => zA_lo hi) (fun σ2 HC2 f2 => ?_))
    have hsD2 : StR σ2 72 D := hsD.congr (fun q h1 h2 => f2 q (by omega))
    have hDI := zread_D h6 hA e
    have hWD := DI_W hDI h6
    refine s_copy hsD2 hDI.2.1 hDI.1.2.1 (by omega) (fun σ3 hs3 f3 => ?_)
    refine m_read hT ⟨m11, m9⟩ m1 (fun i hi => zA_lo hi) hA (fun i hi => if_neg (by omega)) (fun τ1 g1 g2 g3 g4 => ⟨rfl, sA S D, B, ?_, ?_, HW.sA hWD⟩)
    · have z : ∀ i, (2 ≤ i ∧ i < 6) ∨ (43 ≤ i ∧ i < 101) → D i = 0 := fun i hi => by rw [hDI.2.2.2.2 i (by omega)]; exact zA_lo (by omega)
      have := HC2.street (A' := D) (σ' := σ3) (by rw [sA_0]; exact WFA_z HW.1.sm) (fun q hq => f3 q (by omega)) hs3 (by rw [f3 11 (by omega), show σ2 11 1 = nI (sA S (zA (S 0)) 0 5) from HC2.1.2.1.1, sA_0, zA_lo (by omega)]) (z 5 (by omega)) (by rw [sA_0, zA_lo (by omega)]; exact z 2 (by omega)) (by rw [sA_0, zA_lo (by omega)]; exact z 3 (by omega)) (by rw [sA_0, zA_lo (by omega)]; exact z 4 (by omega)) (fun i h1 h2 => by rw [sA_0, zA_lo h2]; exact z i (by omega))
      rw [sA_sA] at this
      exact this
    · have hr := (g4 D e).2
      refine MR.c0 (HM.row (A' := D) (row := τ1 1) hr) (fun q hq => ?_) (fun j hj => by rw [us_ne (by omega)]; exact g2 j hj)
      by_cases q1 : q = 1
      · rw [q1, us_same]
      · rw [us_ne q1]; exact g1 q (by omega)
end PR
