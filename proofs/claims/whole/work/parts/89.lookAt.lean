def zrk (T : Nat → Nat) (n p : Nat) : Nat := if ztk T n p = 2 ∧ 2 < zte T n p - zts T n p then 4 else ztk T n p
def TxM (τ : St) (T : Nat → Nat) (n : Nat) : Prop := τ 0 11 = nI n ∧ ∀ i, i < n → τ 9 i = nI (T i)
def AtM (τ : St) (T : Nat → Nat) (n p : Nat) : Prop := TxM τ T n ∧ τ 0 12 = nI (zts T n p) ∧ τ 0 13 = nI (zte T n p - zts T n p) ∧ τ 0 14 = nI (zrk T n p) ∧ (ztk T n p = 2 → zte T n p - zts T n p ≤ 2 → τ 0 15 = nI (ztv T n p))
/-- nothing has changed but the token -/
def FM (τ s : St) : Prop := (∀ q, q ≠ 0 → s q = τ q) ∧ ∀ j, j < 12 ∨ 15 < j → s 0 j = τ 0 j
theorem FM.put {τ s : St} {j : Nat} {v : Int32} (h : FM τ s) (h1 : 12 ≤ j) (h2 : j ≤ 15) : FM τ (us s 0 (upd (s 0) j v)) := ⟨fun q hq => by rw [us_ne hq]; exact h.1 q hq, fun i hi => by rw [us_same, pk_un (by omega)]; exact h.2 i hi⟩
section LA
variable {σ τ : St} {T : Nat → Nat} {n : Nat}
set_option maxHeartbeats 4000000 in
set_option maxRecDepth 100000 in
theorem v_small {b : Nat} (hb : b ≤ 127) {Q : Int32 → St → Prop} (h1 : 97 ≤ b ∧ b ≤ 122 → Q 1 τ) (h0 : ¬ (97 ≤ b ∧ b ≤ 122) → Q 0 τ) : V_X11_isSmall (nI b) τ Q := by
  unfold V_X11_isSmall B_X11_isSmall_e
  have e : okI (nI b) 97 122 ↔ 97 ≤ b ∧ b ≤ 122 := by
    unfold okI
    rw [nI_toInt (by omega)]
    omega
  by_cases c : 97 ≤ b ∧ b ≤ 122
  · exact mw1 (e.mpr c) (by decide) (by decide) (h1 c)
  · exact mw0 (fun k => c (e.mp k)) (by decide) (by decide) (h0 c)
set_option maxHeartbeats 4000000 in
set_option maxRecDepth 100000 in
theorem v_figure {b : Nat} (hb : b ≤ 127) {Q : Int32 → St → Prop} (h1 : 48 ≤ b ∧ b ≤ 57 → Q 1 τ) (h0 : ¬ (48 ≤ b ∧ b ≤ 57) → Q 0 τ) : V_X11_isFigure (nI b) τ Q := by
  unfold V_X11_isFigure B_X11_isFigure_e
  have e : okI (nI b) 48 57 ↔ 48 ≤ b ∧ b ≤ 57 := by
    unfold okI
    rw [nI_toInt (by omega)]
    omega
  by_cases c : 48 ≤ b ∧ b ≤ 57
  · exact mw1 (e.mpr c) (by decide) (by decide) (h1 c)
  · exact mw0 (fun k => c (e.mp k)) (by decide) (by decide) (h0 c)
theorem kdb_1i {b : Nat} : kdb b = 1 ↔ 97 ≤ b ∧ b ≤ 122 := by
  unfold kdb
  repeat' split
  all_goals omega
theorem kdb_2i {b : Nat} : kdb b = 2 ↔ 48 ≤ b ∧ b ≤ 57 := by
  unfold kdb
  repeat' split
  all_goals omega
theorem kdb_3i {b : Nat} : kdb b = 3 ↔ b = 59 := by
  unfold kdb
  repeat' split
  all_goals omega
set_option maxHeartbeats 4000000 in
set_option maxRecDepth 100000 in
theorem m_lookAt {p : Nat} (h : TxM τ T n) (hn : n ≤ 150) (hT : ∀ i, i < n → T i ≤ 127) (hpn : p ≤ n) {Q : St → Prop} (hq : ∀ τ', AtM τ' T n p → FM τ τ' → Q τ') : V_X11_lookAt (nI p) τ Q := by
  unfold V_X11_lookAt B_X11_lookAt_e
  obtain ⟨hb1, hb2⟩ := zts_b (T := T) hpn
  obtain ⟨he1, he2⟩ := zte_b (T := T) hpn
  have hk4 := ztk_b (T := T) (n := n) (p := p)
  have tx : ∀ s : St, FM τ s → ∀ i, i < n → s 9 i = nI (T i) := fun s hf i hi => by rw [hf.1 9 (by omega)]; exact h.2 i hi
  have t11 : ∀ s : St, FM τ s → s 0 11 = nI n := fun s hf => by rw [hf.2 11 (by omega)]; exact h.1
  have k274 : ∀ s : St, FM τ s → s 0 12 = nI (zts T n p) → s 0 13 = nI (zte T n p - zts T n p) → s 0 14 = nI (ztk T n p) → (ztk T n p = 2 → zte T n p - zts T n p ≤ 2 → s 0 15 = nI (ztv T n p)) → R_X11_lookAt (nI p) Q 274 [] [] s := fun s hf e2 e3 e4 e5 => by
    refine i_X11_lookAt_274 _ _ _ ?_
    unfold B_X11_lookAt_274
    have fin : ∀ s1 : St, s1 = us s 0 (upd (s 0) 14 (nI (zrk T n p))) → Q s1 := fun s1 es1 => by
      have hf1 : FM τ s1 := es1 ▸ hf.put (by omega) (by omega)
      exact hq s1 ⟨⟨t11 s1 hf1, tx s1 hf1⟩, by rw [es1, us_same, pk_un (by omega)]; exact e2, by rw [es1, us_same, pk_un (by omega)]; exact e3, by rw [es1, us_same, pk_us], fun c1 c2 => by rw [es1, us_same, pk_un (by omega)]; exact e5 c1 c2⟩ hf1
    rw [e3, e4, show (2 : Int32) = nI 2 from rfl, q_eq (by omega) (by omega), q_le (by omega) (by omega)]
    unfold zrk at fin
    by_cases c : ztk T n p = 2
    · refine fr_f c ?_
      by_cases c2 : zte T n p - zts T n p ≤ 2
      · rw [if_neg (by omega)] at fin
        exact br_t c2 fin
      · rw [if_pos (by omega)] at fin
        exact br_f c2 fin
    · rw [if_neg (fun q => c q.1)] at fin
      exact fr_t c fin
  have k218 : ∀ s : St, FM τ s → s 0 12 = nI (zts T n p) → s 0 13 = nI (zte T n p - zts T n p) → s 0 14 = nI (ztk T n p) → s 0 15 = nI 0 → R_X11_lookAt (nI p) Q 218 [0] [] s := fun s hf e2 e3 e4 e5 => by
    refine i_X11_lookAt_218 _ _ _ _ ?_
    unfold B_X11_lookAt_218
    rw [e2, e3, e4, show (2 : Int32) = nI 2 from rfl, show (0 : Int32) = nI 0 from rfl, q_eq (by omega) (by omega), q_le (by omega) (by omega)]
    refine ⟨fun c => k274 s hf e2 e3 e4 (fun c1 c2 => by have := zte_p hpn (by omega : ztk T n p ≠ 0); omega), fun c => br_f (by decide) ?_⟩
    by_cases c2 : ztk T n p = 2
    · have hlt := zte_p hpn (by omega : ztk T n p ≠ 0)
      have a0 := kdb_2 ((zte_a hpn (by omega) (by omega) (Nat.le_refl _) hlt).trans c2)
      refine fr_f c2 ?_
      rw [nI_add, nI_clamp (by omega), tx s hf _ (by omega), e5]
      refine ⟨vp_in_nI (by omega) (by omega), fun s1 es1 => ?_⟩
      rw [Nat.add_zero, show (10 : Int32) = nI 10 from rfl, pk_mul, nI_add, show (48 : Int32) = nI 48 from rfl, pk_sub (by omega)] at es1
      have hf1 : FM τ s1 := es1 ▸ hf.put (by omega) (by omega)
      have g2 : s1 0 12 = nI (zts T n p) := by rw [es1, us_same, pk_un (by omega)]; exact e2
      have g3 : s1 0 13 = nI (zte T n p - zts T n p) := by rw [es1, us_same, pk_un (by omega)]; exact e3
      have g4 : s1 0 14 = nI (ztk T n p) := by rw [es1, us_same, pk_un (by omega)]; exact e4
      have g5 : s1 0 15 = nI (10 * 0 + T (zts T n p) - 48) := by rw [es1, us_same, pk_us]
      rw [nI_1]
      refine i_X11_lookAt_218 _ _ _ _ ?_
      unfold B_X11_lookAt_218
      rw [g2, g3, g4, show (2 : Int32) = nI 2 from rfl, q_eq (by omega) (by omega), q_le (by omega) (by omega)]
      refine ⟨fun c3 => k274 s1 hf1 g2 g3 g4 (fun _ _ => ?_), fun c3 => br_f (by decide) (fr_f c2 ?_)⟩
      · rw [g5]
        unfold ztv
        rw [if_neg (by omega)]
        exact congrArg nI (by omega)
      · have a1 := kdb_2 ((zte_a (j := zts T n p + 1) hpn (by omega) (by omega) (by omega) (by omega)).trans c2)
        rw [nI_add, nI_clamp (by omega), tx s1 hf1 _ (by omega), g5]
        refine ⟨vp_in_nI (by omega) (by omega), fun s2 es2 => ?_⟩
        rw [show zts T n p + (0 + 1) = zts T n p + 1 from rfl, show (10 : Int32) = nI 10 from rfl, pk_mul, nI_add, show (48 : Int32) = nI 48 from rfl, pk_sub (by omega)] at es2
        have hf2 : FM τ s2 := es2 ▸ hf1.put (by omega) (by omega)
        have f2 : s2 0 12 = nI (zts T n p) := by rw [es2, us_same, pk_un (by omega)]; exact g2
        have f3 : s2 0 13 = nI (zte T n p - zts T n p) := by rw [es2, us_same, pk_un (by omega)]; exact g3
        have f4 : s2 0 14 = nI (ztk T n p) := by rw [es2, us_same, pk_un (by omega)]; exact g4
        have f5 : ztk T n p = 2 → zte T n p - zts T n p ≤ 2 → s2 0 15 = nI (ztv T n p) := fun _ c4 => by
          rw [es2, us_same, pk_us]
          unfold ztv
          rw [if_pos (by omega)]
          exact congrArg nI (by omega)
        rw [nI_1]
        refine i_X11_lookAt_218 _ _ _ _ ?_
        unfold B_X11_lookAt_218
        exact ⟨fun _ => k274 s2 hf2 f2 f3 f4 f5, fun _ => br_t (by decide) (k274 s2 hf2 f2 f3 f4 f5)⟩
    · exact fr_t c2 (k274 s hf e2 e3 e4 (fun c1 _ => absurd c1 c2))
  have k136z : ∀ s : St, FM τ s → s 0 12 = nI (zts T n p) → s 0 13 = nI (zte T n p - zts T n p) → s 0 14 = nI (ztk T n p) → s 0 15 = nI 0 → R_X11_lookAt (nI p) Q 136 [0] [] s := fun s hf e2 e3 e4 e5 => by
    refine i_X11_lookAt_136 _ _ _ _ ?_
    unfold B_X11_lookAt_136
    exact br_t rfl (k218 s hf e2 e3 e4 e5)
  have k136 : ∀ d q (s : St), q + d = n → zts T n p < q → (ztk T n p = 1 ∨ ztk T n p = 2) → FM τ s → s 0 12 = nI (zts T n p) → s 0 13 = nI (q - zts T n p) → s 0 14 = nI (ztk T n p) → s 0 15 = nI 0 → zte T n p = rnk T (ztk T n p) d q → R_X11_lookAt (nI p) Q 136 [1] [] s := by
    intro d
    induction d with
    | zero =>
      intro q s hd hz k12 hf e2 e3 e4 e5 er
      refine i_X11_lookAt_136 _ _ _ _ ?_
      unfold B_X11_lookAt_136
      have ez : zte T n p = q := er
      refine br_f (by decide) ?_
      rw [t11 s hf, e2, e3, nI_add]
      refine ⟨fun _ => k218 s hf e2 (by rw [e3, ez]) e4 e5, fun c => absurd (by rw [q_le (by omega) (by omega)]; omega) c⟩
    | succ d ih =>
      intro q s hd hz k12 hf e2 e3 e4 e5 er
      refine i_X11_lookAt_136 _ _ _ _ ?_
      unfold B_X11_lookAt_136
      have ers : rnk T (ztk T n p) (d + 1) q = if kdb (T q) = ztk T n p then rnk T (ztk T n p) d (q + 1) else q := rfl
      have hTq := hT q (by omega)
      refine br_f (by decide) ?_
      rw [t11 s hf, e2, e3, e4, nI_add, nI_clamp (by omega), show zts T n p + (q - zts T n p) = q by omega, tx s hf q (by omega), show (1 : Int32) = nI 1 from rfl, q_eq (by omega) (by omega)]
      refine ⟨fun c => absurd (by rw [q_le (by omega) (by omega)] at c; exact c) (by omega), fun _ => ⟨vp_in_nI (by omega) (by omega), fun v1 ev1 => ?_⟩⟩
      have k193 : ∀ (y : Bool) (s' : St), s' = s → (y = true ↔ kdb (T q) = ztk T n p) → R_X11_lookAt (nI p) Q 193 [if y = true then 1 else 0] [] s' := fun y s' es' hy => by
        subst es'
        refine i_X11_lookAt_193 _ _ _ _ ?_
        unfold B_X11_lookAt_193
        rw [e3]
        by_cases c : y = true
        · rw [if_pos c]
          rw [if_pos (hy.mp c)] at ers
          refine br_f (by decide) (fun s2 es2 => ?_)
          rw [nI_1] at es2
          exact ih (q + 1) s2 (by omega) (by omega) k12 (es2 ▸ hf.put (by omega) (by omega)) (by rw [es2, us_same, pk_un (by omega)]; exact e2) (by rw [es2, us_same, pk_us]; exact congrArg nI (by omega)) (by rw [es2, us_same, pk_un (by omega)]; exact e4) (by rw [es2, us_same, pk_un (by omega)]; exact e5) (by rw [er, ers])
        · rw [if_neg c]
          rw [if_neg (fun q => c (hy.mpr q))] at ers
          refine br_t rfl (fun s2 es2 => ?_)
          rw [show (0 : Int32) = nI 0 from rfl, nI_add] at es2
          exact k136z s2 (es2 ▸ hf.put (by omega) (by omega)) (by rw [es2, us_same, pk_un (by omega)]; exact e2) (by rw [es2, us_same, pk_us, er, ers]; rfl) (by rw [es2, us_same, pk_un (by omega)]; exact e4) (by rw [es2, us_same, pk_un (by omega)]; exact e5)
      rw [ev1]
      rcases k12 with k1 | k2
      · refine fr_f k1 (v_small hTq (fun c => k193 true s rfl ⟨fun _ => (kdb_1i.mpr c).trans k1.symm, fun _ => rfl⟩) (fun c => k193 false s rfl ⟨fun x => absurd x (by decide), fun x => absurd (kdb_1i.mp (x.trans k1)) c⟩))
      · refine fr_t (by omega) (v_figure hTq (fun c => k193 true s rfl ⟨fun _ => (kdb_2i.mpr c).trans k2.symm, fun _ => rfl⟩) (fun c => k193 false s rfl ⟨fun x => absurd x (by decide), fun x => absurd (kdb_2i.mp (x.trans k2)) c⟩))
  have k114 : zts T n p < n → ∀ s : St, FM τ s → s 0 12 = nI (zts T n p) → s 0 15 = nI 0 → R_X11_lookAt (nI p) Q 114 [nI (kdb (T (zts T n p)))] [] s := fun hlt s hf e2 e5 => by
    refine i_X11_lookAt_114 _ _ _ _ ?_
    unfold B_X11_lookAt_114
    have hk : ztk T n p = kdb (T (zts T n p)) := by unfold ztk; rw [if_pos hlt]
    have hkb := kdb_b (b := T (zts T n p))
    rw [← hk]
    intro s1 es1 s2 es2
    have hf2 : FM τ s2 := es2 ▸ (es1 ▸ hf.put (by omega) (by omega)).put (by omega) (by omega)
    have g2 : s2 0 12 = nI (zts T n p) := by rw [es2, us_same, pk_un (by omega), es1, us_same, pk_un (by omega)]; exact e2
    have g3 : s2 0 13 = nI 1 := by rw [es2, us_same, pk_us]; rfl
    have g4 : s2 0 14 = nI (ztk T n p) := by rw [es2, us_same, pk_un (by omega), es1, us_same, pk_us]
    have g5 : s2 0 15 = nI 0 := by rw [es2, us_same, pk_un (by omega), es1, us_same, pk_un (by omega)]; exact e5
    rw [g4, show (3 : Int32) = nI 3 from rfl, q_le (by omega) (by omega)]
    by_cases c : 3 ≤ ztk T n p
    · have ez : zte T n p = zts T n p + 1 := by unfold zte; rw [if_pos hlt, if_pos (by omega)]
      exact br_t c (k136z s2 hf2 g2 (by rw [g3, ez]; exact congrArg nI (by omega)) g4 g5)
    · refine br_f c (k136 (n - (zts T n p + 1)) (zts T n p + 1) s2 (by omega) (by omega) (by omega) hf2 g2 (by rw [g3]; exact congrArg nI (by omega)) g4 g5 ?_)
      unfold zte
      rw [if_pos hlt, if_neg (by omega), ← hk]
      obtain ⟨d, hd⟩ : ∃ d, n - zts T n p = d + 1 := ⟨n - zts T n p - 1, by omega⟩
      rw [hd, show n - (zts T n p + 1) = d by omega]
      show (if kdb (T (zts T n p)) = ztk T n p then rnk T (ztk T n p) d (zts T n p + 1) else zts T n p) = _
      rw [if_pos hk.symm]
  have k43 : ∀ s : St, FM τ s → s 0 12 = nI (zts T n p) → R_X11_lookAt (nI p) Q 43 [] [] s := fun s hf e2 => by
    refine i_X11_lookAt_43 _ _ _ ?_
    unfold B_X11_lookAt_43
    intro s1 es1 s2 es2 s3 es3
    have hf3 : FM τ s3 := es3 ▸ (es2 ▸ (es1 ▸ hf.put (by omega) (by omega)).put (by omega) (by omega)).put (by omega) (by omega)
    have g2 : s3 0 12 = nI (zts T n p) := by rw [es3, us_same, pk_un (by omega), es2, us_same, pk_un (by omega), es1, us_same, pk_un (by omega)]; exact e2
    have g3 : s3 0 13 = nI 0 := by rw [es3, us_same, pk_un (by omega), es2, us_same, pk_un (by omega), es1, us_same, pk_us]; rfl
    have g4 : s3 0 14 = nI 0 := by rw [es3, us_same, pk_un (by omega), es2, us_same, pk_us]; rfl
    have g5 : s3 0 15 = nI 0 := by rw [es3, us_same, pk_us]; rfl
    rw [g2, t11 s3 hf3, q_eq (by omega) (by omega)]
    by_cases c : zts T n p = n
    · have hk : ztk T n p = 0 := (ztk_0 hpn).mpr c
      have ez : zte T n p = zts T n p := by unfold zte; rw [if_neg (by omega)]
      refine fr_f c (hq s3 ⟨⟨t11 s3 hf3, tx s3 hf3⟩, g2, by rw [g3, ez, Nat.sub_self], ?_, fun c1 => absurd c1 (by omega)⟩ hf3)
      rw [g4]
      unfold zrk
      rw [if_neg (by omega), hk]
    · have nx := k114 (by omega) s3 hf3 g2 g5
      have hTq := hT (zts T n p) (by omega)
      refine fr_t c ?_
      rw [nI_clamp (by omega), tx s3 hf3 _ (by omega)]
      refine ⟨vp_in_nI (by omega) (by omega), fun v4 ev4 => ?_⟩
      rw [ev4]
      unfold kdb at nx
      refine v_small hTq (fun c1 => ?_) (fun c1 => ?_)
      · rw [if_pos c1] at nx
        exact br_f (by decide) nx
      · rw [if_neg c1] at nx
        refine br_t rfl (v_figure hTq (fun c2 => ?_) (fun c2 => ?_))
        · rw [if_pos c2] at nx
          exact br_f (by decide) nx
        · rw [if_neg c2] at nx
          refine br_t rfl ?_
          rw [show (59 : Int32) = nI 59 from rfl, q_eq (by omega) (by omega)]
          by_cases c3 : T (zts T n p) = 59
          · rw [if_pos c3] at nx
            exact fr_f c3 nx
          · rw [if_neg c3] at nx
            exact fr_t c3 nx
  have k5 : ∀ d q (s : St), q + d = n → FM τ s → s 0 12 = nI q → zts T n p = skp T d q → R_X11_lookAt (nI p) Q 5 [] [] s := by
    intro d
    induction d with
    | zero =>
      intro q s hd hf e2 hz
      refine i_X11_lookAt_5 _ _ _ ?_
      unfold B_X11_lookAt_5
      rw [t11 s hf, e2]
      exact ⟨fun _ => k43 s hf (by rw [e2, hz]; rfl), fun c => absurd (by rw [q_le (by omega) (by omega)]; omega) c⟩
    | succ d ih =>
      intro q s hd hf e2 hz
      refine i_X11_lookAt_5 _ _ _ ?_
      unfold B_X11_lookAt_5
      have es : skp T (d + 1) q = if T q = 32 then skp T d (q + 1) else q := rfl
      have hTq := hT q (by omega)
      rw [t11 s hf, e2, nI_clamp (by omega), tx s hf q (by omega), nI_1, show (32 : Int32) = nI 32 from rfl, q_eq (by omega) (by omega)]
      refine ⟨fun c => absurd (by rw [q_le (by omega) (by omega)] at c; exact c) (by omega), fun _ => ⟨vp_in_nI (by omega) (by omega), ?_⟩⟩
      by_cases c : T q = 32
      · rw [if_pos c] at es
        exact fr_f c (fun s2 es2 => ih (q + 1) s2 (by omega) (es2 ▸ hf.put (by omega) (by omega)) (by rw [es2, us_same, pk_us]) (by rw [hz, es]))
      · rw [if_neg c] at es
        exact fr_t c (k43 s hf (by rw [e2, hz, es]))
  intro s1 es1
  exact k5 (n - p) p s1 (by omega) (es1 ▸ FM.put ⟨fun _ _ => rfl, fun _ _ => rfl⟩ (by omega) (by omega)) (by rw [es1, us_same, pk_us]) rfl
set_option maxHeartbeats 4000000 in
set_option maxRecDepth 100000 in
theorem m_goBehind {p : Nat} (h : AtM τ T n p) (hn : n ≤ 150) (hT : ∀ i, i < n → T i ≤ 127) (hpn : p ≤ n) {Q : St → Prop} (hq : ∀ τ', AtM τ' T n (zte T n p) → FM τ τ' → Q τ') : V_X11_goBehind τ Q := by
  unfold V_X11_goBehind B_X11_goBehind_e
  obtain ⟨h1, h2, h3, -⟩ := h
  obtain ⟨he1, he2⟩ := zte_b (T := T) hpn
  rw [h2, h3, nI_add, show zts T n p + (zte T n p - zts T n p) = zte T n p by omega]
  exact m_lookAt h1 hn hT he2 hq
end LA
