abbrev FR (τ s : St) : Prop := (∀ q, q ≠ 0 → q ≠ 10 → q ≠ 11 → s q = τ q) ∧ ∀ j, j < 12 ∨ 15 < j → s 0 j = τ 0 j
theorem FR.ofM {τ s s' : St} (h : FR τ s) (hm : FM s s') : FR τ s' := ⟨fun q h0 h1 h2 => by rw [hm.1 q h0, h.1 q h0 h1 h2], fun j hj => by rw [hm.2 j hj, h.2 j hj]⟩
theorem FR.us {τ s : St} {c : Nat} {f : Nat → Int32} (h : FR τ s) (hc : c = 10 ∨ c = 11) : FR τ (us s c f) := ⟨fun q h0 h1 h2 => by rw [us_ne (by omega), h.1 q h0 h1 h2], fun j hj => by rw [us_ne (by omega), h.2 j hj]⟩
theorem AtM.us {T : Nat → Nat} {n p : Nat} {s : St} {c : Nat} {f : Nat → Int32} (h : AtM s T n p) (hc : c = 10 ∨ c = 11) : AtM (us s c f) T n p := by
  unfold AtM TxM at *
  rw [us_ne (j := 0) (by omega), us_ne (j := 9) (by omega)]
  exact h
theorem RowN.M {s s' : St} {D : Nat → Nat} (h : RowN s 10 101 D) (hm : FM s s') : RowN s' 10 101 D := fun i hi => by rw [hm.1 10 (by omega)]; exact h i hi
def OM (T : Nat → Nat) (n : Nat) (good bad : St → Prop) (r : ZQ) (τ : St) : Prop := ∀ τ', FR τ τ' → AtM τ' T n r.1 → (∀ D', r.2 = some D' → RowN τ' 10 101 D' → good τ') ∧ (r.2 = none → bad τ')
def KM (good bad : St → Prop) : Int32 → St → Prop := fun r s => (r = 0 → bad s) ∧ (¬ r = 0 → (((s 0 14) = 3 → V_X11_goBehind s good) ∧ (¬ (s 0 14) = 3 → bad s)))
theorem zrk_3 {T : Nat → Nat} {n p : Nat} : (zrk T n p = 3) = (ztk T n p = 3) := by
  unfold zrk
  by_cases c : ztk T n p = 2 ∧ 2 < zte T n p - zts T n p
  · rw [if_pos c]; exact propext ⟨fun h => absurd h (by omega), fun h => absurd h (by omega)⟩
  · rw [if_neg c]
theorem zrk_0 {T : Nat → Nat} {n p : Nat} : (zrk T n p = 0) = (ztk T n p = 0) := by
  unfold zrk
  by_cases c : ztk T n p = 2 ∧ 2 < zte T n p - zts T n p
  · rw [if_pos c]; exact propext ⟨fun h => absurd h (by omega), fun h => absurd h (by omega)⟩
  · rw [if_neg c]
theorem zrk_2 {T : Nat → Nat} {n p : Nat} : (zrk T n p = 2) = (ztk T n p = 2 ∧ zte T n p - zts T n p ≤ 2) := by
  unfold zrk
  by_cases c : ztk T n p = 2 ∧ 2 < zte T n p - zts T n p
  · rw [if_pos c]; exact propext ⟨fun h => absurd h (by omega), fun h => absurd h.2 (by omega)⟩
  · rw [if_neg c]; exact propext ⟨fun h => ⟨h, by omega⟩, fun h => h.1⟩
section IM
variable {σ τ : St} {T : Nat → Nat} {n : Nat}
set_option maxHeartbeats 4000000 in
set_option maxRecDepth 100000 in
theorem m_takes {a2 a3 : Int32} {l u : Int} {j p : Nat} (hj : j < 3) (el : a2.toInt = l) (eu : a3.toInt = u) (h : AtM τ T n p) (hT : TB T n) (hpn : p ≤ n) {Q : Int32 → St → Prop} (h1 : zn T n p l u → ∀ τ', AtM τ' T n (zte T n p) → FM (us τ 11 (upd (τ 11) j (nI (ztv T n p)))) τ' → Q 1 τ') (h0 : ¬ zn T n p l u → Q 0 τ) : V_X11_takes (nI j) a2 a3 τ Q := by
  unfold V_X11_takes B_X11_takes_e
  have hk4 := zrk_b (T := T) (n := n) (p := p)
  rw [h.2.2.2.1, show (2 : Int32) = nI 2 from rfl, q_eq (by omega) (by omega), zrk_2]
  by_cases c : ztk T n p = 2 ∧ zte T n p - zts T n p ≤ 2
  · have hv := ztv_b hpn c.1
    have ev : τ 0 15 = nI (ztv T n p) := h.2.2.2.2 c.1 c.2
    refine fr_f c ?_
    rw [ev]
    have ke : okI (nI (ztv T n p)) l u ↔ zn T n p l u := by
      unfold okI
      rw [nI_toInt (by omega)]
      exact ⟨fun q => ⟨c.1, c.2, q⟩, fun q => q.2.2⟩
    by_cases k : zn T n p l u
    · refine mw1 (ke.mpr k) (by rw [Int32.toInt_toInt64]; exact el) (by rw [Int32.toInt_toInt64]; exact eu) (fr_t (by decide) ⟨vp_in_nI (by omega) (by omega), fun s2 es2 => ?_⟩)
      rw [nI_clamp (by omega), ev] at es2
      refine m_goBehind (es2 ▸ h.us (Or.inr rfl)) hT.1 hT.2 hpn (fun τ' a f => h1 k τ' a (es2 ▸ f))
    · exact mw0 (fun q => k (ke.mp q)) (by rw [Int32.toInt_toInt64]; exact el) (by rw [Int32.toInt_toInt64]; exact eu) (fr_f rfl (h0 k))
  · exact fr_t c (h0 (fun q => c ⟨q.1, q.2.1⟩))
theorem m_fail {good bad : St → Prop} {s : St} {p : Nat} (hf : FR τ s) (h : AtM s T n p) (hq : OM T n good bad (p, none) τ) : KM good bad 0 s := br_t rfl ((hq s hf h).2 rfl)
set_option maxHeartbeats 4000000 in
set_option maxRecDepth 100000 in
theorem m_stop {good bad : St → Prop} {s : St} {p : Nat} {D : Nat → Nat} {r : Int32} (hr : ¬ r = 0) (hT : TB T n) (hpn : p ≤ n) (hf : FR τ s) (h : AtM s T n p) (hs : RowN s 10 101 D) (hq : OM T n good bad (zst T n p D) τ) : KM good bad r s := by
  refine br_f hr ?_
  have hk4 := zrk_b (T := T) (n := n) (p := p)
  rw [h.2.2.2.1, show (3 : Int32) = nI 3 from rfl, q_eq (by omega) (by omega), zrk_3]
  unfold zst at hq
  by_cases c : ztk T n p = 3
  · rw [if_pos c] at hq
    exact br_t c (m_goBehind h hT.1 hT.2 hpn (fun τ' a f => (hq τ' (hf.ofM f) a).1 D rfl (hs.M f)))
  · rw [if_neg c] at hq
    exact br_f c ((hq s hf h).2 rfl)
set_option maxHeartbeats 4000000 in
set_option maxRecDepth 100000 in
theorem m_stop3 {good bad : St → Prop} {s : St} {p : Nat} {D : Nat → Nat} {r : Int32} (hr : ¬ r = 0) (hT : TB T n) (hpn : p ≤ n) (hf : FR τ s) (h : AtM s T n p) (hs : RowN s 10 101 D) (c3 : ztk T n p = 3) (hq : OM T n good bad (zte T n p, some D) τ) : KM good bad r s := by
  refine m_stop hr hT hpn hf h hs ?_
  unfold zst
  rw [if_pos c3]
  exact hq
set_option maxHeartbeats 4000000 in
set_option maxRecDepth 100000 in
theorem m_wets {good bad : St → Prop} {s : St} {p : Nat} {D : Nat → Nat} (hT : TB T n) (hpn : p ≤ n) (hf : FR τ s) (h : AtM s T n p) (hs : RowN s 10 101 D) (hq : OM T n good bad (zw T n 6 0 (zte T n p) D) τ) : V_X11_takesWet s (KM good bad) := by
  unfold V_X11_takesWet B_X11_takesWet_e
  have e0 := zte_b (T := T) hpn
  have loop : ∀ d h p (s : St) (D : Nat → Nat), h + d = 6 → p ≤ n → FR τ s → AtM s T n p → RowN s 10 101 D → OM T n good bad (zw T n d h p D) τ → R_X11_takesWet (KM good bad) 6 [nI h] [] s := by
    intro d
    induction d with
    | zero =>
      intro h p s D h1 hpn hf ha hs hq
      have h6 : h = 6 := by omega
      subst h6
      have hk4 := zrk_b (T := T) (n := n) (p := p)
      refine i_X11_takesWet_6 _ _ _ ?_
      unfold B_X11_takesWet_6
      rw [ha.2.2.2.1, show (3 : Int32) = nI 3 from rfl, q_eq (by omega) (by omega), zrk_3]
      refine br_f (by decide) ?_
      have hq' : OM T n good bad (zst T n p D) τ := hq
      by_cases c3 : ztk T n p = 3
      · exact br_t c3 (m_stop (by decide) hT hpn hf ha hs hq')
      · refine br_f c3 (i_X11_takesWet_18 _ _ _ ?_)
        unfold B_X11_takesWet_18
        unfold zst at hq'
        rw [if_neg c3] at hq'
        exact br_t rfl (m_fail hf ha hq')
    | succ d ih =>
      intro h p s D h1 hpn hf ha hs hq
      have hk4 := zrk_b (T := T) (n := n) (p := p)
      have he := zte_b (T := T) hpn
      have ew : zw T n (d + 1) h p D = if h ≠ 0 ∧ ztk T n p = 3 then (zte T n p, some D) else if zn T n p 0 4 then zw T n d (h + 1) (zte T n p) (upN D (16 + h) (ztv T n p)) else (p, none) := rfl
      have k18 : ¬ (h ≠ 0 ∧ ztk T n p = 3) → R_X11_takesWet (KM good bad) 18 [nI h] [] s := fun c => by
        rw [if_neg c] at ew
        refine i_X11_takesWet_18 _ _ _ ?_
        unfold B_X11_takesWet_18
        rw [show (6 : Int32) = nI 6 from rfl, q_eq (by omega) (by omega)]
        refine br_f (by omega) (m_takes (j := 0) (l := 0) (u := 4) (by omega) (by decide) (by decide) ha hT hpn (fun z τ' a f => fr_t (by decide) ?_) (fun z => ?_))
        · rw [if_pos z] at ew
          rw [ew] at hq
          have hv := ztv_b hpn z.1
          have e11 : τ' 11 0 = nI (ztv T n p) := by rw [f.1 11 (by omega), us_same, pk_us]
          rw [show (16 : Int32) = nI 16 from rfl, nI_add, nI_clamp (by omega), e11]
          refine ⟨vp_in_nI (by omega) (by omega), fun s2 es2 => ?_⟩
          rw [nI_1]
          refine ih (h + 1) _ s2 _ (by omega) he.2 (es2 ▸ ((hf.us (Or.inr rfl)).ofM f).us (Or.inl rfl)) (es2 ▸ a.us (Or.inl rfl)) (fun i hi => ?_) hq
          rw [es2, us_same]
          unfold upd upN
          by_cases y : i = 16 + h
          · rw [if_pos y, if_pos y]
          · rw [if_neg y, if_neg y, f.1 10 (by omega), us_ne (by omega)]
            exact hs i hi
        · rw [if_neg z] at ew
          rw [ew] at hq
          exact fr_f rfl (m_fail hf ha hq)
      refine i_X11_takesWet_6 _ _ _ ?_
      unfold B_X11_takesWet_6
      rw [ha.2.2.2.1, show (3 : Int32) = nI 3 from rfl, show (0 : Int32) = nI 0 from rfl, q_eq (by omega) (by omega), q_eq (by omega) (by omega), zrk_3]
      by_cases c0 : h = 0
      · exact br_t c0 (k18 (fun q => q.1 c0))
      · refine br_f c0 ?_
        by_cases c3 : ztk T n p = 3
        · rw [if_pos ⟨c0, c3⟩] at ew
          rw [ew] at hq
          exact br_t c3 (m_stop3 (by decide) hT hpn hf ha hs c3 hq)
        · exact br_f c3 (k18 (fun q => c3 q.2))
  exact m_goBehind h hT.1 hT.2 hpn (fun s1 a f => loop 6 0 _ s1 D (by omega) e0.2 (hf.ofM f) a (hs.M f) hq)
set_option maxHeartbeats 4000000 in
set_option maxRecDepth 100000 in
theorem m_glove {good bad : St → Prop} {s : St} {p : Nat} {D : Nat → Nat} (hT : TB T n) (hpn : p ≤ n) (hf : FR τ s) (h : AtM s T n p) (hs : RowN s 10 101 D) (hD : DB D) (hq : OM T n good bad (zgl T n p D) τ) : V_X11_takesGlove s (KM good bad) := by
  unfold V_X11_takesGlove B_X11_takesGlove_e
  have e0 := zte_b (T := T) hpn
  have hd7 := hD.2.1
  rw [hs 0 (by omega), show (7 : Int32) = nI 7 from rfl, q_eq (by omega) (by omega)]
  unfold zgl at hq
  by_cases c7 : D 0 = 7
  · rw [if_pos c7] at hq
    exact fr_f c7 (m_fail hf h hq)
  · rw [if_neg c7] at hq
    refine fr_t c7 (m_goBehind h hT.1 hT.2 hpn (fun s1 a1 f1 => ?_))
    have hf1 := hf.ofM f1
    have hs1 := hs.M f1
    have e1 := zte_b (T := T) e0.2
    unfold zg1 at hq
    refine m_takes (j := 0) (l := 0) (u := 5) (by omega) (by decide) (by decide) a1 hT e0.2 (fun z1 s2 a2 f2 => br_f (by decide) ?_) (fun z1 => ?_)
    · rw [if_pos z1] at hq
      have v1 := ztv_b e0.2 z1.1
      have hf2 := (hf1.us (c := 11) (f := upd (s1 11) 0 (nI (ztv T n (zte T n p)))) (Or.inr rfl)).ofM f2
      have hs2 : RowN s2 10 101 D := fun i hi => by rw [f2.1 10 (by omega), us_ne (by omega)]; exact hs1 i hi
      have w2 : s2 11 0 = nI (ztv T n (zte T n p)) := by rw [f2.1 11 (by omega), us_same, pk_us]
      have e2 := zte_b (T := T) e1.2
      unfold zg2 at hq
      refine m_takes (j := 1) (l := 1) (u := 9) (by omega) (by decide) (by decide) a2 hT e1.2 (fun z2 s3 a3 f3 => br_f (by decide) ?_) (fun z2 => ?_)
      · rw [if_pos z2] at hq
        have v2 := ztv_b e1.2 z2.1
        have hf3 := (hf2.us (c := 11) (f := upd (s2 11) 1 (nI (ztv T n (zte T n (zte T n p))))) (Or.inr rfl)).ofM f3
        have hs3 : RowN s3 10 101 D := fun i hi => by rw [f3.1 10 (by omega), us_ne (by omega)]; exact hs2 i hi
        have w3 : s3 11 0 = nI (ztv T n (zte T n p)) := by rw [f3.1 11 (by omega), us_same, pk_un (by omega)]; exact w2
        have w3b : s3 11 1 = nI (ztv T n (zte T n (zte T n p))) := by rw [f3.1 11 (by omega), us_same, pk_us]
        have e3 := zte_b (T := T) e2.2
        unfold zg3 at hq
        refine m_takes (j := 2) (l := 0) (u := 23) (by omega) (by decide) (by decide) a3 hT e2.2 (fun z3 s4 a4 f4 => fr_t (by decide) ?_) (fun z3 => ?_)
        · rw [if_pos z3] at hq
          have hf4 := (hf3.us (c := 11) (f := upd (s3 11) 2 (nI (ztv T n (zte T n (zte T n (zte T n p)))))) (Or.inr rfl)).ofM f4
          have hs4 : RowN s4 10 101 D := fun i hi => by rw [f4.1 10 (by omega), us_ne (by omega)]; exact hs3 i hi
          have w4 : s4 11 0 = nI (ztv T n (zte T n p)) := by rw [f4.1 11 (by omega), us_same, pk_un (by omega)]; exact w3
          have w4b : s4 11 1 = nI (ztv T n (zte T n (zte T n p))) := by rw [f4.1 11 (by omega), us_same, pk_un (by omega)]; exact w3b
          have w4c : s4 11 2 = nI (ztv T n (zte T n (zte T n (zte T n p)))) := by rw [f4.1 11 (by omega), us_same, pk_us]
          rw [w4, w4b, w4c]
          exact m_layGlove hs4 (by omega) (by omega) (by omega) (fun row hrow => m_stop (by decide) hT e3.2 (hf4.us (Or.inl rfl)) (a4.us (Or.inl rfl)) (fun i hi => by rw [us_same]; exact hrow i hi) hq)
        · rw [if_neg z3] at hq
          exact fr_f rfl (m_fail hf3 a3 hq)
      · rw [if_neg z2] at hq
        exact br_t rfl (m_fail hf2 a2 hq)
    · rw [if_neg z1] at hq
      exact br_t rfl (m_fail hf1 a1 hq)
set_option maxHeartbeats 4000000 in
set_option maxRecDepth 100000 in
theorem m_crossing {good bad : St → Prop} {s : St} {p : Nat} {D : Nat → Nat} (hT : TB T n) (hpn : p ≤ n) (hf : FR τ s) (h : AtM s T n p) (hs : RowN s 10 101 D) (hD : DB D) (hq : OM T n good bad (zcr T n p D) τ) : V_X11_takesCrossing s (KM good bad) := by
  unfold V_X11_takesCrossing B_X11_takesCrossing_e
  have e0 := zte_b (T := T) hpn
  have hd3 := hD.1.2.1
  have hsm : Sm D := hD.1.2.2.2.2.2.2.2.2
  rw [hs 1 (by omega), show (3 : Int32) = nI 3 from rfl, q_eq (by omega) (by omega)]
  unfold zcr at hq
  by_cases c3 : D 1 = 3
  · rw [if_pos c3] at hq
    exact fr_f c3 (m_fail hf h hq)
  · rw [if_neg c3] at hq
    refine fr_t c3 (m_goBehind h hT.1 hT.2 hpn (fun s1 a1 f1 => ?_))
    have hf1 := hf.ofM f1
    have hs1 := hs.M f1
    have e1 := zte_b (T := T) e0.2
    unfold zc1 at hq
    refine m_takes (j := 0) (l := 0) (u := 5) (by omega) (by decide) (by decide) a1 hT e0.2 (fun z1 s2 a2 f2 => br_f (by decide) ?_) (fun z1 => ?_)
    · rw [if_pos z1] at hq
      have v1 := ztv_b e0.2 z1.1
      have hf2 := (hf1.us (c := 11) (f := upd (s1 11) 0 (nI (ztv T n (zte T n p)))) (Or.inr rfl)).ofM f2
      have hs2 : RowN s2 10 101 D := fun i hi => by rw [f2.1 10 (by omega), us_ne (by omega)]; exact hs1 i hi
      have w2 : s2 11 0 = nI (ztv T n (zte T n p)) := by rw [f2.1 11 (by omega), us_same, pk_us]
      have e2 := zte_b (T := T) e1.2
      generalize hp2 : zte T n (zte T n p) = p2 at *
      have hk4 := zrk_b (T := T) (n := n) (p := p2)
      rw [a2.2.2.2.1, show (2 : Int32) = nI 2 from rfl, q_eq (by omega) (by omega), zrk_2]
      unfold zc2 at hq
      by_cases c2 : ztk T n p2 = 2 ∧ zte T n p2 - zts T n p2 ≤ 2
      · refine fr_f c2 ?_
        have ev : s2 0 15 = nI (ztv T n p2) := a2.2.2.2.2 c2.1 c2.2
        have hv := ztv_b e1.2 c2.1
        have hbl := bh_le (s := ztv T n p2) hD.1
        rw [ev]
        refine m_behind hs2 (by omega) (by omega) hD.1.2.1 hsm (by omega) ?_
        by_cases cb : bh D (ztv T n p2) = 0
        · rw [cb]
          refine fr_f (by decide) (m_takes (j := 1) (l := 0) (u := 22) (by omega) (by decide) (by decide) a2 hT e1.2 (fun z2 s4 a4 f4 => fr_t (by decide) ?_) (fun z2 => ?_))
          · rw [if_pos ⟨z2, cb⟩] at hq
            have hf4 := (hf2.us (c := 11) (f := upd (s2 11) 1 (nI (ztv T n p2))) (Or.inr rfl)).ofM f4
            have hs4 : RowN s4 10 101 D := fun i hi => by rw [f4.1 10 (by omega), us_ne (by omega)]; exact hs2 i hi
            have w4 : s4 11 0 = nI (ztv T n (zte T n p)) := by rw [f4.1 11 (by omega), us_same, pk_un (by omega)]; exact w2
            have w4b : s4 11 1 = nI (ztv T n p2) := by rw [f4.1 11 (by omega), us_same, pk_us]
            rw [w4, w4b]
            exact m_layCrossing hs4 (by omega) (by omega) (by omega) (fun row hrow => m_stop (by decide) hT (by have := zte_b (T := T) e1.2; omega) (hf4.us (Or.inl rfl)) (a4.us (Or.inl rfl)) (fun i hi => by rw [us_same]; exact hrow i hi) hq)
          · rw [if_neg (fun q => z2 q.1)] at hq
            exact fr_f rfl (m_fail hf2 a2 hq)
        · rw [if_neg (fun q => cb q.2)] at hq
          exact fr_t (fun c => cb ((Eq.mp (q_m1 (by omega)) c))) (m_fail hf2 a2 hq)
      · rw [if_neg (fun q => c2 ⟨q.1.1, q.1.2.1⟩)] at hq
        exact fr_t c2 (m_fail hf2 a2 hq)
    · rw [if_neg z1] at hq
      exact br_t rfl (m_fail hf1 a1 hq)
set_option maxHeartbeats 4000000 in
set_option maxRecDepth 100000 in
theorem m_shut {good bad : St → Prop} {s : St} {p : Nat} {D : Nat → Nat} (hT : TB T n) (hpn : p ≤ n) (hf : FR τ s) (h : AtM s T n p) (hs : RowN s 10 101 D) (hD : DB D) (hq : OM T n good bad (zsh T n (zte T n p) D) τ) : V_X11_takesShut s (KM good bad) := by
  unfold V_X11_takesShut B_X11_takesShut_e
  have e0 := zte_b (T := T) hpn
  have hd3 := hD.1.2.1
  refine m_goBehind h hT.1 hT.2 hpn (fun s1 a1 f1 => ?_)
  have hf1 := hf.ofM f1
  have hs1 := hs.M f1
  have e1 := zte_b (T := T) e0.2
  rw [hs1 1 (by omega)]
  unfold zsh at hq
  refine m_takes (j := 0) (l := 0) (u := (D 1 : Int) - 1) (by omega) (by decide) (lessI (by omega)) a1 hT e0.2 (fun z s2 a2 f2 => fr_t (by decide) (fun s3 es3 => ?_)) (fun z => ?_)
  · rw [if_pos z] at hq
    have zb := z.2.2
    have hf2 := (hf1.us (c := 11) (f := upd (s1 11) 0 (nI (ztv T n (zte T n p)))) (Or.inr rfl)).ofM f2
    have hs2 : RowN s2 10 101 D := fun i hi => by rw [f2.1 10 (by omega), us_ne (by omega)]; exact hs1 i hi
    have w2 : s2 11 0 = nI (ztv T n (zte T n p)) := by rw [f2.1 11 (by omega), us_same, pk_us]
    obtain ⟨ex, ey⟩ := q_xor (D 14) hD.1.2.2.1 (ztv T n (zte T n p)) (by omega)
    rw [hs2 14 (by omega), w2, q_shl (by omega), ex] at es3
    refine m_stop (by decide) hT e1.2 (es3 ▸ hf2.us (Or.inl rfl)) (es3 ▸ a2.us (Or.inl rfl)) (fun i hi => ?_) hq
    rw [es3, us_same]
    unfold upd upN
    by_cases y : i = 14
    · rw [if_pos y, if_pos y]
    · rw [if_neg y, if_neg y]; exact hs2 i hi
  · rw [if_neg z] at hq
    exact fr_f rfl (m_fail hf1 a1 hq)
set_option maxHeartbeats 4000000 in
set_option maxRecDepth 100000 in
theorem m_goHoursA {a : Nat → Nat} {h n : Nat} (hn : 43 ≤ n) (hn2 : n < 2147483648) (hR : RowN τ h n a) (hB : Bd a) {m : Nat} (hm : m < 1000) (h15 : a 15 + m ≤ 9999) {Q : St → Prop} (hq : ∀ row : Nat → Int32, (∀ i, i < n → row i = nI (it m a i)) → Q (us τ h row)) : V_X11_goHours h n (nI m) τ Q := by
  unfold V_X11_goHours B_X11_goHours_e
  have loop : ∀ d i (row : Nat → Int32), i + d = m → (∀ j, j < n → row j = nI (it i a j)) → R_X11_goHours h n (nI m) Q 2 [nI i] [] (us τ h row) := by
    intro d
    induction d with
    | zero =>
      intro i row hi hr
      refine i_X11_goHours_2 _ _ _ _ _ _ ?_
      unfold B_X11_goHours_2
      refine ⟨fun _ => hq row ?_, fun c => absurd (by rw [q_le (by omega) (by omega)]; omega) c⟩
      rw [(by omega : m = i)]
      exact hr
    | succ d ih =>
      intro i row hi hr
      refine i_X11_goHours_2 _ _ _ _ _ _ ?_
      unfold B_X11_goHours_2
      refine ⟨fun c => absurd (by rw [q_le (by omega) (by omega)] at c; exact c) (by omega), fun _ => ⟨by rw [show (15 : Int32) = nI 15 from rfl]; exact vp_in_nI (by omega) (by omega), ?_⟩⟩
      rw [us_same, hr 15 (by omega), it_15 hB.1]
      refine ⟨fun c => ?_, fun c => ?_⟩
      · rw [show (9999 : Int32) = nI 9999 from rfl, q_le (by omega) (by omega)] at c
        omega
      · refine m_goHour (a := it i a) (fun j hj => by rw [us_same]; exact hr j hj) (by omega) (by omega) (Bd_it hB i (by omega)) (fun row' hr' => ?_)
        rw [us_us, nI_1]
        exact ih (i + 1) row' (by omega) (fun j hj => by rw [hr' j hj, it_succ])
  have := loop m 0 (τ h) (by omega) hR
  rw [us_self] at this
  exact this
set_option maxHeartbeats 4000000 in
set_option maxRecDepth 100000 in
theorem m_hoursI {good bad : St → Prop} {K : Int32 → St → Prop} (hK : ∀ r s, KM good bad r s → K r s) {s : St} {p : Nat} {D : Nat → Nat} (hT : TB T n) (hpn : p ≤ n) (hf : FR τ s) (h : AtM s T n p) (hs : RowN s 10 101 D) (hD : DB D) (hq : OM T n good bad (zho T n (zte T n p) D) τ) : V_X11_takesHours s K := by
  unfold V_X11_takesHours B_X11_takesHours_e
  have e0 := zte_b (T := T) hpn
  refine m_goBehind h hT.1 hT.2 hpn (fun s1 a1 f1 => ?_)
  have hf1 := hf.ofM f1
  have hs1 := hs.M f1
  have e1 := zte_b (T := T) e0.2
  unfold zho at hq
  refine m_takes (j := 0) (l := 1) (u := 99) (by omega) (by decide) (by decide) a1 hT e0.2 (fun z s2 a2 f2 => fr_t (by decide) ?_) (fun z => ?_)
  · rw [if_pos z] at hq
    have hv := ztv_b e0.2 z.1
    have hD3 := hD.2.2
    have hf2 := (hf1.us (c := 11) (f := upd (s1 11) 0 (nI (ztv T n (zte T n p)))) (Or.inr rfl)).ofM f2
    have hs2 : RowN s2 10 101 D := fun i hi => by rw [f2.1 10 (by omega), us_ne (by omega)]; exact hs1 i hi
    have w2 : s2 11 0 = nI (ztv T n (zte T n p)) := by rw [f2.1 11 (by omega), us_same, pk_us]
    rw [w2]
    exact m_goHoursA (by omega) (by omega) hs2 hD.1 (by omega) (by omega) (fun row hrow => hK _ _ (m_stop (by decide) hT e1.2 (hf2.us (Or.inl rfl)) (a2.us (Or.inl rfl)) (fun i hi => by rw [us_same]; exact hrow i hi) hq))
  · rw [if_neg z] at hq
    exact fr_f rfl (hK _ _ (m_fail hf1 a1 hq))
set_option maxHeartbeats 4000000 in
set_option maxRecDepth 100000 in
theorem m_item {good bad : St → Prop} {p : Nat} {D : Nat → Nat} (hT : TB T n) (hpn : p ≤ n) (h : AtM τ T n p) (hs : RowN τ 10 101 D) (hD : DB D) (hq : OM T n good bad (zit T n p D) τ) : V_X11_takesItem τ (KM good bad) := by
  unfold V_X11_takesItem B_X11_takesItem_e
  have hf : FR τ τ := ⟨fun _ _ _ _ => rfl, fun _ _ => rfl⟩
  unfold zit at hq
  refine m_spells (i := 1) (by omega) (by omega) h hT.1 hT.2 hpn ?_
  by_cases c1 : wm T n p 1 = true
  · rw [if_pos c1] at hq
    rw [c1]
    exact br_f (by decide) (m_wets hT hpn hf h hs hq)
  · rw [if_neg c1] at hq
    rw [Bool.eq_false_iff.mpr c1]
    refine br_t rfl (m_spells (i := 2) (by omega) (by omega) h hT.1 hT.2 hpn ?_)
    by_cases c2 : wm T n p 2 = true
    · rw [if_pos c2] at hq
      rw [c2]
      exact br_f (by decide) (m_glove hT hpn hf h hs hD hq)
    · rw [if_neg c2] at hq
      rw [Bool.eq_false_iff.mpr c2]
      refine br_t rfl (m_spellsC h hT.1 hT.2 hpn ?_)
      by_cases c3 : wm T n p 3 = true
      · rw [if_pos c3] at hq
        rw [c3]
        exact br_f (by decide) (m_crossing hT hpn hf h hs hD hq)
      · rw [if_neg c3] at hq
        rw [Bool.eq_false_iff.mpr c3]
        refine br_t rfl (m_spells (i := 4) (by omega) (by omega) h hT.1 hT.2 hpn ?_)
        by_cases c4 : wm T n p 4 = true
        · rw [if_pos c4] at hq
          rw [c4]
          exact br_f (by decide) (m_shut hT hpn hf h hs hD hq)
        · rw [if_neg c4] at hq
          rw [Bool.eq_false_iff.mpr c4]
          refine br_t rfl (m_spells (i := 5) (by omega) (by omega) h hT.1 hT.2 hpn ?_)
          by_cases c5 : wm T n p 5 = true
          · rw [if_pos c5] at hq
            rw [c5]
            exact br_f (by decide) (m_hoursI (fun r s hk => ⟨fun r0 => by rw [r0] at hk; exact hk, fun r0 => br_f (by decide) (hk.2 r0)⟩) hT hpn hf h hs hD hq)
          · rw [if_neg c5] at hq
            rw [Bool.eq_false_iff.mpr c5]
            exact br_t rfl (m_fail hf h hq)
end IM
