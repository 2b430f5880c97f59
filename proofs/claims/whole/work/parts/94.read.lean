theorem CR.c70 {σ σ' : St} {S : SS} {B : CB} (H : CR σ S B) (e : ∀ q, q < 55 ∨ q = 71 → σ' q = σ q) (e1 : σ' 70 1 = σ 70 1) : CR σ' S B := by
  obtain ⟨h1, h2, h3, h4, h7, h8, h9, h10, h11, h12, h70, h71⟩ := H
  unfold CR RowC at *
  rw [e 0 (by omega), e 13 (by omega), e 15 (by omega), e 17 (by omega), e1, e 71 (by omega)]
  exact ⟨h1.congr (fun q _ _ => e q (by omega)), fun c => (h2 c).congr (fun q _ _ => e q (by omega)), fun c => (h3 c).congr (fun q _ _ => e q (by omega)), h4, h7, h8, h9, h10, h11, h12, h70, h71⟩
theorem MR.c0 {τ τ' : St} {S : SS} {B : CB} (H : MR τ S B) (e : ∀ q, (1 ≤ q ∧ q < 5) ∨ q = 9 → τ' q = τ q) (e0 : ∀ j, j < 12 ∨ 15 < j → τ' 0 j = τ 0 j) : MR τ' S B := by
  unfold MR at *
  have er : RowN τ' 1 181 (S 0) ↔ RowN τ 1 181 (S 0) := by unfold RowN; rw [e 1 (by omega)]
  rw [er, e0 28 (by omega), e0 29 (by omega), e0 30 (by omega), e0 31 (by omega), e0 11 (by omega), e 2 (by omega), e 3 (by omega), e 4 (by omega), e 9 (by omega)]
  exact H
theorem q_neg : ∀ q : Fin 151, ¬ (0 : Int32) ≤ -10 - nI q.val := by decide +kernel
section RR4
variable {σ τ : St} {T : Nat → Nat} {n : Nat}
set_option maxHeartbeats 4000000 in
set_option maxRecDepth 100000 in
theorem c_readStreet {A0 : Nat → Nat} (hT : TB T n) (h : TxC σ T n) (h0 : ∀ i, i < 43 → A0 i = 0) (hA : DI A0 A0 0) {Q : Int32 → St → Prop} (hq : ∀ σ', FC σ σ' → TxC σ' T n → (∀ D, (zread T n A0).2 = some D → StR σ' 72 D) → Q (zread T n A0).1 σ') : V_X5_readStreet σ Q := by
  unfold V_X5_readStreet B_X5_readStreet_e
  refine s_empty (a' := A0) (h0 0 (by omega)) (h0 1 (by omega)) (h0 14 (by omega)) (h0 15 (by omega)) (fun i hi => h0 _ (by omega)) (fun s1 hs1 f1 => ?_)
  unfold V_X9_begin B_X9_begin_e
  intro s2 es2
  have t2 : TxC s2 T n := by
    unfold TxC at *
    rw [es2, us_same, pk_un (by omega), us_ne (j := 71) (by omega), f1 70 (by omega), f1 71 (by omega)]
    exact h
  refine c_advance (p := 0) t2 hT.1 hT.2 (by rw [es2, us_same, pk_us]; rfl) (by omega) (fun s3 a3 f3 => ?_)
  have hf3 : FC σ s3 := fun q hq => by rw [f3 q (by omega), es2, us_ne (by omega), f1 q (by omega)]
  have hs3 : StR s3 72 A0 := hs1.congr (fun q h1 h2 => by rw [f3 q (by omega), es2, us_ne (by omega)])
  have fault : ∀ (s : St) (p : Nat), FC σ s → AtC s T n p → zread T n A0 = (-10 - nI (zts T n p), none) → V_X5_fault s Q := fun s p hf ha hz => by
    unfold V_X5_fault B_X5_fault_e
    have := hq s hf ha.1 (fun D hD => by rw [hz] at hD; exact absurd hD (by intro x; cases x))
    rw [hz] at this
    rw [ha.2.1]
    exact this
  have e0 := zte_l (T := T) (n := n) (p := 0) (by omega)
  have e1 := zte_l (T := T) e0.2
  have loop : ∀ d x p D (s : St), n < p + d → p ≤ n → x ≤ p → FC σ s → AtC s T n p → StR s 72 D → DI A0 D p → zread T n A0 = zrd T n d x p D → R_X5_readStreet Q 52 [nI x] [] s := by
    intro d
    induction d with
    | zero => intro x p D s h1 h2; omega
    | succ d ih =>
      intro x p D s h1 h2 h3 hf ha hs hD hz
      have hn := hT.1
      have hk4 := ztk_b (T := T) (n := n) (p := p)
      refine i_X5_readStreet_52 _ _ _ ?_
      unfold B_X5_readStreet_52
      unfold zrd at hz
      refine br_f (by rw [show (150 : Int32) = nI 150 from rfl, q_lt (by omega) (by omega)]; omega) ?_
      rw [ha.2.2.1, show (0 : Int32) = nI 0 from rfl, q_eq (by omega) (by omega)]
      by_cases c0 : ztk T n p = 0
      · rw [if_pos c0] at hz
        have := hq s hf ha.1 (fun D' hD' => by rw [hz] at hD'; exact Option.some.inj hD' ▸ hs)
        rw [hz] at this
        exact br_t c0 this
      · rw [if_neg c0] at hz
        refine br_f c0 ?_
        have good : ∀ s' p' D', zit T n p D = (p', some D') → FC σ s' → AtC s' T n p' → StR s' 72 D' → R_X5_readStreet Q 52 [nI x + 1] [] s' := fun s' p' D' ez hf' ha' hs' => by
          obtain ⟨r1, r2, r3⟩ := zit_D hT.1 h2 hD ez
          rw [ez] at hz
          rw [nI_1]
          exact ih (x + 1) p' D' s' (by omega) r3 (by omega) hf' ha' hs' r1 hz
        have K : V_X5_readItem s (KC (fun s3 => R_X5_readStreet Q 52 [nI x + 1] [] s3) (fun s3 => V_X5_fault s3 Q)) := by
          refine c_item hT h2 ha hs (hD.db (by omega)) (fun s' f' a' => ⟨fun D' eD hs' => ?_, fun eN => ?_⟩)
          · exact good s' _ D' (Prod.ext rfl eD) (fun q hq => by rw [f' q hq, hf q hq]) a' hs'
          · refine fault s' _ (fun q hq => by rw [f' q hq, hf q hq]) a' ?_
            rw [hz]
            split
            · rfl
            · rename_i D' eD
              rw [eN] at eD
              exact absurd eD (by intro x; cases x)
        exact K
  have hw := w_isWord (i := 0) (σ := s3) (by omega) a3 hT.1 hT.2 (by omega) (Q := fun r3 s3 => (¬ r3 = 0 → (V_X9_advance s3 (fun s4 => V_X5_takeStop s4 (fun r5 s5 => (¬ r5 = 0 → (R_X5_readStreet Q 52 [1] [] s5)) ∧ (r5 = 0 → (V_X5_fault s5 (fun r6 s6 => Q r6 s6))))))) ∧ (r3 = 0 → (V_X5_fault s3 (fun r7 s7 => Q r7 s7))))
  refine hw ?_
  have ez : zread T n A0 = if wm T n 0 0 = true then (if ztk T n (zte T n 0) = 3 then zrd T n (n + 1) 1 (zte T n (zte T n 0)) A0 else (-10 - nI (zts T n (zte T n 0)), none)) else (-10 - nI (zts T n 0), none) := rfl
  by_cases c1 : wm T n 0 0 = true
  · rw [if_pos c1] at ez
    rw [c1]
    refine fr_t (by decide) (c_advance a3.1 hT.1 hT.2 a3.2.2.2.1 e0.2 (fun s4 a4 f4 => ?_))
    have hf4 : FC σ s4 := fun q hq => by rw [f4 q (by omega), hf3 q hq]
    have hs4 : StR s4 72 A0 := hs3.congr (fun q h1 h2 => f4 q (by omega))
    have hk4 := ztk_b (T := T) (n := n) (p := zte T n 0)
    unfold V_X5_takeStop B_X5_takeStop_e
    rw [a4.2.2.1, show (3 : Int32) = nI 3 from rfl, q_eq (by omega) (by omega)]
    by_cases c3 : ztk T n (zte T n 0) = 3
    · rw [if_pos c3] at ez
      refine br_t c3 (c_advance a4.1 hT.1 hT.2 a4.2.2.2.1 e1.2 (fun s5 a5 f5 => fr_t (by decide) ?_))
      have b0 := zte_p (T := T) e0.2 (by omega : ztk T n (zte T n 0) ≠ 0)
      have b1 := zts_b (T := T) e0.2
      exact loop (n + 1) 1 _ A0 s5 (by omega) e1.2 (by omega) (fun q hq => by rw [f5 q (by omega), hf4 q hq]) a5 (hs4.congr (fun q h1 h2 => f5 q (by omega))) (hA.mono (by omega)) ez
    · rw [if_neg c3] at ez
      exact br_f c3 (fr_f rfl (fault s4 _ hf4 a4 ez))
  · rw [if_neg c1] at ez
    rw [Bool.eq_false_iff.mpr c1]
    exact fr_f rfl (fault s3 _ hf3 a3 ez)
set_option maxHeartbeats 4000000 in
set_option maxRecDepth 100000 in
theorem m_read {A0 : Nat → Nat} {A : Nat → Nat} (hT : TB T n) (h : TxM τ T n) (hR : RowN τ 1 181 A) (h0 : ∀ i, i < 101 → A0 i = 0) (hA : DI A0 A0 0) (hAA : ∀ i, 101 ≤ i → A0 i = A i) {Q : Int32 → St → Prop} (hq : ∀ τ', (∀ q, (2 ≤ q ∧ q < 5) ∨ q = 9 → τ' q = τ q) → (∀ j, j < 12 ∨ 15 < j → τ' 0 j = τ 0 j) → ((zread T n A0).2 = none → τ' 1 = τ 1) → (∀ D, (zread T n A0).2 = some D → DI A0 D n ∧ RowN τ' 1 181 D) → Q (zread T n A0).1 τ') : V_X11_read τ Q := by
  unfold V_X11_read B_X11_read_e
  have fault : ∀ (s : St) (p : Nat), FR τ s → AtM s T n p → zread T n A0 = (-10 - nI (zts T n p), none) → Q (-10 - s 0 12) s := fun s p hf ha hz => by
    have := hq s (fun q hq => hf.1 q (by omega) (by omega) (by omega)) hf.2 (fun _ => hf.1 1 (by omega) (by omega) (by omega)) (fun D hD => by rw [hz] at hD; exact absurd hD (by intro x; cases x))
    rw [hz] at this
    rw [ha.2.1]
    exact this
  have e0 := zte_l (T := T) (n := n) (p := 0) (by omega)
  have e1 := zte_l (T := T) e0.2
  have hf0 : FR τ τ := ⟨fun _ _ _ _ => rfl, fun _ _ => rfl⟩
  have copy : ∀ d i x (D : Nat → Nat) (s : St), i + d = 101 → (∀ q, q ≠ 0 → q ≠ 1 → q ≠ 10 → q ≠ 11 → s q = τ q) → (∀ j, j < 12 ∨ 15 < j → s 0 j = τ 0 j) → RowN s 10 101 D → (∀ j, j < i → s 1 j = nI (D j)) → (∀ j, i ≤ j → s 1 j = τ 1 j) → DI A0 D n → zread T n A0 = (nI x, some D) → R_X11_read Q 109 [nI x, nI i] [] s := by
    intro d
    induction d with
    | zero =>
      intro i x D s hi hf hf0 hs hlo hhi hD hz
      refine i_X11_read_109 _ _ _ _ ?_
      unfold B_X11_read_109
      have := hq s (fun q hq => hf q (by omega) (by omega) (by omega) (by omega)) hf0 (fun c => by rw [hz] at c; exact absurd c (by intro x; cases x)) (fun D' eD => by
        rw [hz] at eD
        have e := Option.some.inj eD
        subst e
        refine ⟨hD, fun j hj => ?_⟩
        by_cases c : j < i
        · exact hlo j c
        · rw [hhi j (by omega), hR j hj, hD.2.2.2.2 j (by omega), hAA j (by omega)])
      rw [hz] at this
      refine ⟨fun _ => this, fun c => absurd (by rw [show (101 : Int32) = nI 101 from rfl, q_le (by omega) (by omega)]; omega) c⟩
    | succ d ih =>
      intro i x D s hi hf hf0 hs hlo hhi hD hz
      refine i_X11_read_109 _ _ _ _ ?_
      unfold B_X11_read_109
      refine ⟨fun c => absurd (by rw [show (101 : Int32) = nI 101 from rfl, q_le (by omega) (by omega)] at c; exact c) (by omega), fun _ => ⟨vp_in_nI (by omega) (by omega), vp_in_nI (by omega) (by omega), fun s1 es1 => ?_⟩⟩
      rw [nI_clamp (by omega), hs i (by omega)] at es1
      rw [nI_1]
      refine ih (i + 1) x D s1 (by omega) (fun q h0 h1 h2 h3 => by rw [es1, us_ne h1]; exact hf q h0 h1 h2 h3) (fun j hj => by rw [es1, us_ne (by omega)]; exact hf0 j hj) (fun j hj => by rw [es1, us_ne (by omega)]; exact hs j hj) (fun j hj => ?_) (fun j hj => by rw [es1, us_same, pk_un (by omega)]; exact hhi j (by omega)) hD hz
      rw [es1, us_same]
      unfold upd
      by_cases c : j = i
      · rw [if_pos c, c]
      · rw [if_neg c]; exact hlo j (by omega)
  have loop : ∀ d x p D (s : St), n < p + d → p ≤ n → x ≤ p → FR τ s → AtM s T n p → RowN s 10 101 D → DI A0 D p → zread T n A0 = zrd T n d x p D → R_X11_read Q 67 [nI x] [] s := by
    intro d
    induction d with
    | zero => intro x p D s h1 h2; omega
    | succ d ih =>
      intro x p D s h1 h2 h3 hf ha hs hD hz
      have hn := hT.1
      have hk4 := zrk_b (T := T) (n := n) (p := p)
      refine i_X11_read_67 _ _ _ ?_
      unfold B_X11_read_67
      unfold zrd at hz
      rw [ha.2.2.2.1, show (0 : Int32) = nI 0 from rfl, q_eq (by omega) (by omega), zrk_0]
      by_cases c0 : ztk T n p = 0
      · rw [if_pos c0] at hz
        exact br_t c0 (copy 101 0 x D s (by omega) (fun q h0 _ h2 h3 => hf.1 q h0 h2 h3) hf.2 hs (fun j hj => absurd hj (by omega)) (fun j _ => by rw [hf.1 1 (by omega) (by omega) (by omega)]) (hD.mono h2) hz)
      · rw [if_neg c0] at hz
        refine br_f c0 ?_
        have K : V_X11_takesItem s (KM (fun s3 => R_X11_read Q 67 [nI x + 1] [] s3) (fun s3 => Q (-10 - s3 0 12) s3)) := by
          refine m_item hT h2 ha hs (hD.db (by omega)) (fun s' f' a' => ⟨fun D' eD hs' => ?_, fun eN => ?_⟩)
          · have ez : zit T n p D = ((zit T n p D).1, some D') := Prod.ext rfl eD
            obtain ⟨r1, r2, r3⟩ := zit_D hT.1 h2 hD ez
            rw [ez] at hz
            rw [nI_1]
            exact ih (x + 1) _ D' s' (by omega) r3 (by omega) ⟨fun q q0 q1 q2 => by rw [f'.1 q q0 q1 q2, hf.1 q q0 q1 q2], fun j hj => by rw [f'.2 j hj, hf.2 j hj]⟩ a' hs' r1 hz
          · refine fault s' _ ⟨fun q q0 q1 q2 => by rw [f'.1 q q0 q1 q2, hf.1 q q0 q1 q2], fun j hj => by rw [f'.2 j hj, hf.2 j hj]⟩ a' ?_
            rw [hz]
            split
            · rfl
            · rename_i D' eD
              rw [eN] at eD
              exact absurd eD (by intro x; cases x)
        exact K
  refine m_lookAt (p := 0) h hT.1 hT.2 (by omega) (fun s1 a1 f1 => ?_)
  have hf1 := hf0.ofM f1
  refine m_spells (i := 0) (by omega) (by omega) a1 hT.1 hT.2 (by omega) ?_
  have ez : zread T n A0 = if wm T n 0 0 = true then (if ztk T n (zte T n 0) = 3 then zrd T n (n + 1) 1 (zte T n (zte T n 0)) A0 else (-10 - nI (zts T n (zte T n 0)), none)) else (-10 - nI (zts T n 0), none) := rfl
  by_cases c1 : wm T n 0 0 = true
  · rw [if_pos c1] at ez
    rw [c1]
    refine fr_t (by decide) (m_goBehind a1 hT.1 hT.2 (by omega) (fun s2 a2 f2 => ?_))
    have hf2 := hf1.ofM f2
    have hk4 := zrk_b (T := T) (n := n) (p := zte T n 0)
    rw [a2.2.2.2.1, show (3 : Int32) = nI 3 from rfl, q_eq (by omega) (by omega), zrk_3]
    by_cases c3 : ztk T n (zte T n 0) = 3
    · rw [if_pos c3] at ez
      refine br_t c3 (m_goBehind a2 hT.1 hT.2 e0.2 (fun s3 a3 f3 => m_begin (h := 10) (n := 101) (a := A0) (by omega) (by omega) (fun row hrow _ => ?_)))
      have hf3 := hf2.ofM f3
      have b0 := zte_p (T := T) e0.2 (by omega : ztk T n (zte T n 0) ≠ 0)
      have b1 := zts_b (T := T) e0.2
      exact loop (n + 1) 1 _ A0 _ (by omega) e1.2 (by omega) (hf3.us (Or.inl rfl)) (a3.us (Or.inl rfl)) (fun i hi => by rw [us_same, hrow i hi, h0 i hi]; rfl) (hA.mono (by omega)) ez
    · rw [if_neg c3] at ez
      exact br_f c3 (fault s2 _ hf2 a2 ez)
  · rw [if_neg c1] at ez
    rw [Bool.eq_false_iff.mpr c1]
    exact fr_f rfl (fault s1 _ hf1 a1 ez)
end RR4
