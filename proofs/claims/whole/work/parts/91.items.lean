/-! what a text tells, item by item: where it goes on and the street behind it, or where it stops short -/
abbrev ZQ : Type := Nat × Option (Nat → Nat)
abbrev zn (T : Nat → Nat) (n p : Nat) (l u : Int) : Prop := ztk T n p = 2 ∧ zte T n p - zts T n p ≤ 2 ∧ l ≤ (ztv T n p : Int) ∧ (ztv T n p : Int) ≤ u
def zst (T : Nat → Nat) (n p : Nat) (D : Nat → Nat) : ZQ := if ztk T n p = 3 then (zte T n p, some D) else (p, none)
def zw (T : Nat → Nat) (n : Nat) : Nat → Nat → Nat → (Nat → Nat) → ZQ
  | 0, _, p, D => zst T n p D
  | d + 1, h, p, D => if h ≠ 0 ∧ ztk T n p = 3 then (zte T n p, some D) else if zn T n p 0 4 then zw T n d (h + 1) (zte T n p) (upN D (16 + h) (ztv T n p)) else (p, none)
def zg3 (T : Nat → Nat) (n a b p : Nat) (D : Nat → Nat) : ZQ := if zn T n p 0 23 then zst T n (zte T n p) (ag D a b (ztv T n p)) else (p, none)
def zg2 (T : Nat → Nat) (n a p : Nat) (D : Nat → Nat) : ZQ := if zn T n p 1 9 then zg3 T n a (ztv T n p) (zte T n p) D else (p, none)
def zg1 (T : Nat → Nat) (n p : Nat) (D : Nat → Nat) : ZQ := if zn T n p 0 5 then zg2 T n (ztv T n p) (zte T n p) D else (p, none)
def zgl (T : Nat → Nat) (n p : Nat) (D : Nat → Nat) : ZQ := if D 0 = 7 then (p, none) else zg1 T n (zte T n p) D
def zc2 (T : Nat → Nat) (n a p : Nat) (D : Nat → Nat) : ZQ := if zn T n p 0 22 ∧ bh D (ztv T n p) = 0 then zst T n (zte T n p) (ac D a (ztv T n p)) else (p, none)
def zc1 (T : Nat → Nat) (n p : Nat) (D : Nat → Nat) : ZQ := if zn T n p 0 5 then zc2 T n (ztv T n p) (zte T n p) D else (p, none)
def zcr (T : Nat → Nat) (n p : Nat) (D : Nat → Nat) : ZQ := if D 1 = 3 then (p, none) else zc1 T n (zte T n p) D
def zsh (T : Nat → Nat) (n p : Nat) (D : Nat → Nat) : ZQ := if zn T n p 0 ((D 1 : Int) - 1) then zst T n (zte T n p) (upN D 14 (D 14 ^^^ 2 ^ ztv T n p)) else (p, none)
def zho (T : Nat → Nat) (n p : Nat) (D : Nat → Nat) : ZQ := if zn T n p 1 99 then zst T n (zte T n p) (it (ztv T n p) D) else (p, none)
def zit (T : Nat → Nat) (n p : Nat) (D : Nat → Nat) : ZQ := if wm T n p 1 = true then zw T n 6 0 (zte T n p) D else if wm T n p 2 = true then zgl T n p D else if wm T n p 3 = true then zcr T n p D else if wm T n p 4 = true then zsh T n (zte T n p) D else if wm T n p 5 = true then zho T n (zte T n p) D else (p, none)
abbrev DB (D : Nat → Nat) : Prop := Bd D ∧ D 0 ≤ 7 ∧ D 15 + 99 ≤ 9999
abbrev TB (T : Nat → Nat) (n : Nat) : Prop := n ≤ 150 ∧ ∀ i, i < n → T i ≤ 127
abbrev FC (σ σ' : St) : Prop := ∀ q, (q < 70 ∨ q = 71 ∨ 80 < q) → σ' q = σ q
def OC (T : Nat → Nat) (n : Nat) (good bad : St → Prop) (r : ZQ) (σ : St) : Prop := ∀ σ', FC σ σ' → AtC σ' T n r.1 → (∀ D', r.2 = some D' → StR σ' 72 D' → good σ') ∧ (r.2 = none → bad σ')
def KC (good bad : St → Prop) : Int32 → St → Prop := fun r s => (r = 0 → bad s) ∧ (¬ r = 0 → V_X5_takeStop s (fun r3 s3 => (¬ r3 = 0 → good s3) ∧ (r3 = 0 → bad s3)))
theorem ne_m1 {v : Nat} (hv : v < 1000) : ¬ nI v = -1 := fun h => by rw [show (-1 : Int32) = -nI 1 from rfl, q_m1n (by omega)] at h; exact h
theorem Bd_wet {D : Nat → Nat} {h x : Nat} (hB : Bd D) (hh : h < 6) (hx : x ≤ 4) : Bd (upN D (16 + h) x) := by
  obtain ⟨b0, b1, b14, b15, bw, bg, bc, bd, bs⟩ := hB
  unfold Bd
  rw [upN_n (j := 0) (by omega), upN_n (j := 1) (by omega), upN_n (j := 14) (by omega), upN_n (j := 15) (by omega)]
  refine ⟨b0, b1, b14, b15, fun i hi => ?_, fun g hg => by rw [upN_n (by omega), upN_n (by omega)]; exact bg g hg, fun j hj => by rw [upN_n (by omega), upN_n (by omega)]; exact bc j hj, fun i j hi hj => by rw [upN_n (by omega), upN_n (by omega)]; exact bd i j hi hj, fun i => ?_⟩
  · by_cases e : i = h
    · rw [e, upN_s]; exact hx
    · rw [upN_n (by omega)]; exact bw i hi
  · unfold upN
    split
    · omega
    · exact bs i
section IT
variable {σ τ : St} {T : Nat → Nat} {n : Nat}
theorem StR.wet {h : Nat} {a : Nat → Nat} {i x : Nat} (H : StR σ h a) (hi : i < 6) (h7 : a 0 ≤ 7) : StR (us σ (h + 1) (upd (σ (h + 1)) i (nI x))) h (upN a (16 + i) x) := by
  obtain ⟨r0, r1, r14, r15, rw_, rk, rm, rs, rg, rb, rh⟩ := H
  have eb : ∀ s, bh (upN a (16 + i) x) s = bh a s := fun s => by
    unfold bh
    rw [upN_n (j := 1) (by omega), upN_n (j := 40) (by omega), upN_n (j := 41) (by omega), upN_n (j := 42) (by omega)]
  unfold StR
  rw [us_ne (j := h) (by omega), us_same, us_ne (j := h + 2) (by omega), us_ne (j := h + 3) (by omega), us_ne (j := h + 4) (by omega), us_ne (j := h + 5) (by omega), us_ne (j := h + 6) (by omega), us_ne (j := h + 7) (by omega)]
  rw [upN_n (j := 0) (by omega), upN_n (j := 1) (by omega), upN_n (j := 14) (by omega), upN_n (j := 15) (by omega)]
  refine ⟨r0, r1, r14, r15, fun j hj => ?_, fun j hj => by rw [upN_n (by omega)]; exact rk j hj, fun j hj h7 => by rw [upN_n (by omega)]; exact rm j hj h7, fun j hj => by rw [upN_n (by omega)]; exact rs j hj, fun k hk => by rw [upN_n (by omega)]; exact rg k hk, fun k hk => by rw [upN_n (by omega)]; exact rb k hk, fun s hs => by rw [eb]; exact rh s hs⟩
  unfold upd
  by_cases e : j = i
  · subst e
    rw [if_pos rfl, upN_s]
  · rw [if_neg e, upN_n (by omega)]
    exact rw_ j hj
theorem s_hasN {h : Nat} {x : Int32} {Q : Int32 → St → Prop} (hx : ¬ okI x 0 23) (q : Q 0 σ) : V_X8_hasCrossing h x σ Q := by
  unfold V_X8_hasCrossing B_X8_hasCrossing_e
  exact cw0 (l := 0) (u := 23) hx rfl rfl (br_t rfl q)
set_option maxHeartbeats 4000000 in
set_option maxRecDepth 100000 in
theorem c_takeNumber {a1 a2 : Int32} {l u : Int} {p : Nat} (el : a1.toInt = l) (eu : a2.toInt = u) (hl : 0 ≤ l) (h : AtC σ T n p) (hT : TB T n) (hpn : p ≤ n) {Q : Int32 → St → Prop} (h1 : zn T n p l u → ∀ σ', AtC σ' T n (zte T n p) → (∀ q, q ≠ 70 → σ' q = σ q) → Q (nI (ztv T n p)) σ') (h0 : ¬ zn T n p l u → Q (-1) σ) : V_X5_takeNumber a1 a2 σ Q := by
  unfold V_X5_takeNumber B_X5_takeNumber_e
  obtain ⟨x1, x3, x2, x5, x4⟩ := h
  obtain ⟨he1, he2⟩ := zte_b (T := T) hpn
  by_cases c : zn T n p l u
  · have hv := ztv_b hpn c.1
    have ev : σ 70 4 = nI (ztv T n p) := by rw [x4]; unfold vC; rw [if_pos ⟨c.1, c.2.1⟩]
    have ko : okI (nI (ztv T n p)) l u := by
      unfold okI
      rw [nI_toInt (by omega)]
      exact c.2.2
    rw [ev]
    exact cw1 ko el eu (fr_t (by decide) (c_advance x1 hT.1 hT.2 x5 he2 (fun σ' a f => h1 c σ' a f)))
  · have ko : ¬ okI (σ 70 4) l u := fun k => by
      rw [x4] at k
      unfold vC at k
      by_cases c2 : ztk T n p = 2 ∧ zte T n p - zts T n p ≤ 2
      · rw [if_pos c2] at k
        have hv := ztv_b hpn c2.1
        unfold okI at k
        rw [nI_toInt (by omega)] at k
        exact c ⟨c2.1, c2.2, k⟩
      · rw [if_neg c2] at k
        have k1 := k.1
        rw [show (-1 : Int32).toInt = -1 from by decide] at k1
        omega
    exact cw0 ko el eu (fr_f rfl (h0 c))
theorem c_fail {good bad : St → Prop} {s : St} {p : Nat} (hf : FC σ s) (h : AtC s T n p) (hq : OC T n good bad (p, none) σ) : KC good bad 0 s := br_t rfl ((hq s hf h).2 rfl)
set_option maxHeartbeats 4000000 in
set_option maxRecDepth 100000 in
theorem c_stop {good bad : St → Prop} {s : St} {p : Nat} {D : Nat → Nat} {r : Int32} (hr : ¬ r = 0) (hT : TB T n) (hpn : p ≤ n) (hf : FC σ s) (h : AtC s T n p) (hs : StR s 72 D) (hq : OC T n good bad (zst T n p D) σ) : KC good bad r s := by
  refine br_f hr ?_
  unfold V_X5_takeStop B_X5_takeStop_e
  have hk4 := ztk_b (T := T) (n := n) (p := p)
  obtain ⟨he1, he2⟩ := zte_b (T := T) hpn
  rw [h.2.2.1, show (3 : Int32) = nI 3 from rfl, q_eq (by omega) (by omega)]
  unfold zst at hq
  by_cases c : ztk T n p = 3
  · rw [if_pos c] at hq
    exact br_t c (c_advance h.1 hT.1 hT.2 h.2.2.2.1 he2 (fun σ' a f => fr_t (by decide) ((hq σ' (fun q hq => by rw [f q (by omega), hf q hq]) a).1 D rfl (hs.congr (fun q h1 h2 => f q (by omega))))))
  · rw [if_neg c] at hq
    exact br_f c (fr_f rfl ((hq s hf h).2 rfl))
set_option maxHeartbeats 4000000 in
set_option maxRecDepth 100000 in
theorem c_wets {good bad : St → Prop} {s : St} {p : Nat} {D : Nat → Nat} (hT : TB T n) (hpn : p ≤ n) (hf : FC σ s) (h : AtC s T n p) (hs : StR s 72 D) (hD : DB D) (hq : OC T n good bad (zw T n 6 0 (zte T n p) D) σ) : V_X5_readWets s (KC good bad) := by
  unfold V_X5_readWets B_X5_readWets_e
  have e0 := zte_b (T := T) hpn
  have loop : ∀ d h p (s : St) (D : Nat → Nat), h + d = 6 → 0 < d → (h = 0 ∨ ztk T n p = 2) → p ≤ n → FC σ s → AtC s T n p → StR s 72 D → DB D → OC T n good bad (zw T n d h p D) σ → R_X5_readWets (KC good bad) 9 [nI h] [] s := by
    intro d
    induction d with
    | zero => intro h p s D h1 h2; omega
    | succ d ih =>
      intro h p s D h1 h2 h3 hpn hf ha hs hD hq
      refine i_X5_readWets_9 _ _ _ ?_
      unfold B_X5_readWets_9
      have he := zte_b (T := T) hpn
      have ew : zw T n (d + 1) h p D = if h ≠ 0 ∧ ztk T n p = 3 then (zte T n p, some D) else if zn T n p 0 4 then zw T n d (h + 1) (zte T n p) (upN D (16 + h) (ztv T n p)) else (p, none) := rfl
      rw [if_neg (by omega)] at ew
      refine c_takeNumber (l := 0) (u := 4) (by decide) (by decide) (by decide) ha hT hpn (fun z σ' a f => ?_) (fun z => ?_)
      · rw [if_pos z] at ew
        rw [ew] at hq
        have hv := ztv_b hpn z.1
        have hk4 := ztk_b (T := T) (n := n) (p := zte T n p)
        refine fr_t (ne_m1 (by omega)) ⟨vp_in_nI (by omega) (by omega), fun s2 es2 => ?_⟩
        rw [nI_clamp (by omega)] at es2
        have hs2 : StR s2 72 (upN D (16 + h) (ztv T n p)) := by
          rw [es2]
          exact StR.wet (hs.congr (fun q h1 h2 => f q (by omega))) (by omega) hD.2.1
        have hf2 : FC σ s2 := fun q hq => by rw [es2, us_ne (by omega), f q (by omega), hf q hq]
        have ha2 : AtC s2 T n (zte T n p) := by
          unfold AtC TxC at *
          rw [es2, us_ne (j := 70) (by omega), us_ne (j := 71) (by omega)]
          exact a
        have hD2 : DB (upN D (16 + h) (ztv T n p)) := ⟨Bd_wet hD.1 (by omega) (by have := z.2.2; omega), by rw [upN_n (by omega)]; exact hD.2.1, by rw [upN_n (by omega)]; exact hD.2.2⟩
        rw [nI_1, show (6 : Int32) = nI 6 from rfl, q_le (by omega) (by omega)]
        by_cases c6 : 6 ≤ h + 1
        · have d0 : d = 0 := by omega
          subst d0
          exact br_t c6 (c_stop (by decide) hT he.2 hf2 ha2 hs2 hq)
        · refine br_f c6 ?_
          rw [ha2.2.2.1, show (2 : Int32) = nI 2 from rfl, q_eq (by omega) (by omega)]
          by_cases c2 : ztk T n (zte T n p) = 2
          · exact br_t c2 (ih (h + 1) _ s2 _ (by omega) (by omega) (Or.inr c2) he.2 hf2 ha2 hs2 hD2 hq)
          · refine br_f c2 (c_stop (by decide) hT he.2 hf2 ha2 hs2 ?_)
            obtain ⟨d', rfl⟩ : ∃ d', d = d' + 1 := ⟨d - 1, by omega⟩
            unfold zw at hq
            unfold zst
            by_cases c3 : ztk T n (zte T n p) = 3
            · rw [if_pos ⟨by omega, c3⟩] at hq
              rw [if_pos c3]; exact hq
            · rw [if_neg (fun q => c3 q.2), if_neg (fun q => c2 q.1)] at hq
              rw [if_neg c3]; exact hq
      · rw [if_neg z] at ew
        rw [ew] at hq
        exact fr_f rfl (c_fail hf ha hq)
  exact c_advance h.1 hT.1 hT.2 h.2.2.2.1 e0.2 (fun s1 a f => loop 6 0 _ s1 D (by omega) (by omega) (Or.inl rfl) e0.2 (fun q hq => by rw [f q (by omega), hf q hq]) a (hs.congr (fun q h1 h2 => f q (by omega))) hD hq)
set_option maxHeartbeats 4000000 in
set_option maxRecDepth 100000 in
theorem c_glove {good bad : St → Prop} {s : St} {p : Nat} {D : Nat → Nat} (hT : TB T n) (hpn : p ≤ n) (hf : FC σ s) (h : AtC s T n p) (hs : StR s 72 D) (hD : DB D) (hq : OC T n good bad (zgl T n p D) σ) : V_X5_readGlove s (KC good bad) := by
  unfold V_X5_readGlove B_X5_readGlove_e
  have e0 := zte_b (T := T) hpn
  have hd7 := hD.2.1
  rw [hs.1, show (7 : Int32) = nI 7 from rfl, q_lt (by omega) (by omega)]
  unfold zgl at hq
  by_cases c7 : D 0 = 7
  · rw [if_pos c7] at hq
    exact br_f (by omega) (c_fail hf h hq)
  · rw [if_neg c7] at hq
    have no61 : ∀ (x1 x2 : Int32) (p : Nat) (s : St), FC σ s → AtC s T n p → OC T n good bad (p, none) σ → R_X5_readGlove (KC good bad) 61 [x1, x2, -1] [] s := fun x1 x2 p s hf ha hq => by
      refine i_X5_readGlove_61 _ _ _ _ _ ?_
      unfold B_X5_readGlove_61
      exact br_t rfl (c_fail hf ha hq)
    have no44 : ∀ (x1 : Int32) (p : Nat) (s : St), FC σ s → AtC s T n p → OC T n good bad (p, none) σ → R_X5_readGlove (KC good bad) 44 [x1, -1] [] s := fun x1 p s hf ha hq => by
      refine i_X5_readGlove_44 _ _ _ _ ?_
      unfold B_X5_readGlove_44
      exact fr_f rfl (no61 x1 (-1) p s hf ha hq)
    refine br_t (by omega) (c_advance h.1 hT.1 hT.2 h.2.2.2.1 e0.2 (fun s1 a1 f1 => ?_))
    have hf1 : FC σ s1 := fun q hq => by rw [f1 q (by omega), hf q hq]
    have hs1 : StR s1 72 D := hs.congr (fun q h1 h2 => f1 q (by omega))
    have e1 := zte_b (T := T) e0.2
    unfold zg1 at hq
    refine c_takeNumber (l := 0) (u := 5) (by decide) (by decide) (by decide) a1 hT e0.2 (fun z1 s2 a2 f2 => ?_) (fun z1 => ?_)
    · rw [if_pos z1] at hq
      have v1 := ztv_b e0.2 z1.1
      refine fr_t (ne_m1 (by omega)) ?_
      have hf2 : FC σ s2 := fun q hq => by rw [f2 q (by omega), hf1 q hq]
      have hs2 : StR s2 72 D := hs1.congr (fun q h1 h2 => f2 q (by omega))
      have e2 := zte_b (T := T) e1.2
      unfold zg2 at hq
      refine c_takeNumber (l := 1) (u := 9) (by decide) (by decide) (by decide) a2 hT e1.2 (fun z2 s3 a3 f3 => ?_) (fun z2 => ?_)
      · rw [if_pos z2] at hq
        have v2 := ztv_b e1.2 z2.1
        have hf3 : FC σ s3 := fun q hq => by rw [f3 q (by omega), hf2 q hq]
        have hs3 : StR s3 72 D := hs2.congr (fun q h1 h2 => f3 q (by omega))
        have e3 := zte_b (T := T) e2.2
        refine i_X5_readGlove_44 _ _ _ _ ?_
        unfold B_X5_readGlove_44
        refine fr_t (ne_m1 (by omega)) ?_
        unfold zg3 at hq
        refine c_takeNumber (l := 0) (u := 23) (by decide) (by decide) (by decide) a3 hT e2.2 (fun z3 s4 a4 f4 => ?_) (fun z3 => ?_)
        · rw [if_pos z3] at hq
          have v3 := ztv_b e2.2 z3.1
          have hf4 : FC σ s4 := fun q hq => by rw [f4 q (by omega), hf3 q hq]
          have hs4 : StR s4 72 D := hs3.congr (fun q h1 h2 => f4 q (by omega))
          refine i_X5_readGlove_61 _ _ _ _ _ ?_
          unfold B_X5_readGlove_61
          refine br_f (ne_m1 (by omega)) (s_addGlove hs4 (by omega) (fun s5 hs5 f5 => ?_))
          refine br_f (nI_pos (by omega)) (c_stop (by decide) hT e3.2 (fun q hq => by rw [f5 q (by omega), hf4 q hq]) ?_ hs5 hq)
          unfold AtC TxC at *
          rw [f5 70 (by omega), f5 71 (by omega)]
          exact a4
        · rw [if_neg z3] at hq
          exact no61 _ _ _ s3 hf3 a3 hq
      · rw [if_neg z2] at hq
        exact no44 _ _ s2 hf2 a2 hq
    · rw [if_neg z1] at hq
      exact fr_f rfl (no44 _ _ s1 hf1 a1 hq)
set_option maxHeartbeats 4000000 in
set_option maxRecDepth 100000 in
theorem c_crossing {good bad : St → Prop} {s : St} {p : Nat} {D : Nat → Nat} (hT : TB T n) (hpn : p ≤ n) (hf : FC σ s) (h : AtC s T n p) (hs : StR s 72 D) (hD : DB D) (hq : OC T n good bad (zcr T n p D) σ) : V_X5_readCrossing s (KC good bad) := by
  unfold V_X5_readCrossing B_X5_readCrossing_e
  have e0 := zte_b (T := T) hpn
  have hd3 := hD.1.2.1
  rw [hs.2.1, show (3 : Int32) = nI 3 from rfl, q_lt (by omega) (by omega)]
  unfold zcr at hq
  by_cases c3 : D 1 = 3
  · rw [if_pos c3] at hq
    exact br_f (by omega) (c_fail hf h hq)
  · rw [if_neg c3] at hq
    refine br_t (by omega) (c_advance h.1 hT.1 hT.2 h.2.2.2.1 e0.2 (fun s1 a1 f1 => ?_))
    have hf1 : FC σ s1 := fun q hq => by rw [f1 q (by omega), hf q hq]
    have hs1 : StR s1 72 D := hs.congr (fun q h1 h2 => f1 q (by omega))
    have e1 := zte_b (T := T) e0.2
    unfold zc1 at hq
    refine c_takeNumber (l := 0) (u := 5) (by decide) (by decide) (by decide) a1 hT e0.2 (fun z1 s2 a2 f2 => ?_) (fun z1 => ?_)
    · rw [if_pos z1] at hq
      have v1 := ztv_b e0.2 z1.1
      have z1b := z1.2.2
      refine br_f (ne_m1 (by omega)) ?_
      have hf2 : FC σ s2 := fun q hq => by rw [f2 q (by omega), hf1 q hq]
      have hs2 : StR s2 72 D := hs1.congr (fun q h1 h2 => f2 q (by omega))
      have e2 := zte_b (T := T) e1.2
      generalize hp2 : zte T n (zte T n p) = p2 at *
      have ex : s2 70 4 = vC T n p2 := a2.2.2.2.2
      unfold zc2 at hq
      by_cases z2 : zn T n p2 0 22
      · have ev : s2 70 4 = nI (ztv T n p2) := by rw [ex]; unfold vC; rw [if_pos ⟨z2.1, z2.2.1⟩]
        have z2b := z2.2.2
        rw [ev]
        by_cases cb : bh D (ztv T n p2) = 0
        · rw [if_pos ⟨z2, cb⟩] at hq
          refine s_has0 hs2 (by omega) cb (br_t rfl (c_takeNumber (l := 0) (u := 22) (by decide) (by decide) (by decide) a2 hT e1.2 (fun _ s4 a4 f4 => ?_) (fun z => absurd z2 z)))
          have hf4 : FC σ s4 := fun q hq => by rw [f4 q (by omega), hf2 q hq]
          have hs4 : StR s4 72 D := hs2.congr (fun q h1 h2 => f4 q (by omega))
          refine br_f (ne_m1 (by omega)) (s_addCrossing hs4 hD.1 (by omega) (by omega) (by omega) cb (fun s5 hs5 f5 => ?_))
          refine br_f (nI_pos (by omega)) (c_stop (by decide) hT (by have := zte_b (T := T) e1.2; omega) (fun q hq => by rw [f5 q (by omega), hf4 q hq]) ?_ hs5 hq)
          unfold AtC TxC at *
          rw [f5 70 (by omega), f5 71 (by omega)]
          exact a4
        · rw [if_neg (fun q => cb q.2)] at hq
          exact s_has1 hs2 (by omega) cb (br_f (by decide) (c_fail hf2 a2 hq))
      · rw [if_neg (fun q => z2 q.1)] at hq
        have tail : (0 = 0 → V_X5_takeNumber 0 22 s2 (fun r4 s4 => (r4 = -1 → KC good bad 0 s4) ∧ (¬ r4 = -1 → V_X8_addCrossing 72 (nI (ztv T n (zte T n p))) r4 s4 (fun r5 s5 => (r5 < 0 → KC good bad 0 s5) ∧ (¬ r5 < 0 → KC good bad 1 s5))))) := fun _ => c_takeNumber (l := 0) (u := 22) (by decide) (by decide) (by decide) a2 hT e1.2 (fun z => absurd z z2) (fun _ => br_t rfl (c_fail hf2 a2 hq))
        by_cases k23 : okI (s2 70 4) 0 23
        · rw [ex] at k23 ⊢
          unfold vC at k23 ⊢
          by_cases c2 : ztk T n p2 = 2 ∧ zte T n p2 - zts T n p2 ≤ 2
          · rw [if_pos c2] at k23 ⊢
            have hv := ztv_b e1.2 c2.1
            unfold okI at k23
            rw [nI_toInt (by omega)] at k23
            have : ztv T n p2 = 23 := by
              have : ¬ (ztv T n p2 : Int) ≤ 22 := fun q => z2 ⟨c2.1, c2.2, by omega, q⟩
              omega
            rw [this]
            exact s_has0 hs2 (by omega) (bh_23 hD.1) (br_t rfl (tail rfl))
          · rw [if_neg c2] at k23
            have k1 := k23.1
            rw [show (-1 : Int32).toInt = -1 from by decide] at k1
            omega
        · exact s_hasN k23 (br_t rfl (tail rfl))
    · rw [if_neg z1] at hq
      exact br_t rfl (c_fail hf1 a1 hq)
set_option maxHeartbeats 4000000 in
set_option maxRecDepth 100000 in
theorem c_shut {good bad : St → Prop} {s : St} {p : Nat} {D : Nat → Nat} (hT : TB T n) (hpn : p ≤ n) (hf : FC σ s) (h : AtC s T n p) (hs : StR s 72 D) (hD : DB D) (hq : OC T n good bad (zsh T n (zte T n p) D) σ) : V_X5_readShut s (KC good bad) := by
  unfold V_X5_readShut B_X5_readShut_e
  have e0 := zte_b (T := T) hpn
  have hd3 := hD.1.2.1
  refine c_advance h.1 hT.1 hT.2 h.2.2.2.1 e0.2 (fun s1 a1 f1 => ?_)
  have hf1 : FC σ s1 := fun q hq => by rw [f1 q (by omega), hf q hq]
  have hs1 : StR s1 72 D := hs.congr (fun q h1 h2 => f1 q (by omega))
  have e1 := zte_b (T := T) e0.2
  rw [hs1.2.1]
  unfold zsh at hq
  refine c_takeNumber (l := 0) (u := (D 1 : Int) - 1) (by decide) (lessI (by omega)) (by decide) a1 hT e0.2 (fun z s2 a2 f2 => ?_) (fun z => ?_)
  · rw [if_pos z] at hq
    have hv := ztv_b e0.2 z.1
    have zb := z.2.2
    have hf2 : FC σ s2 := fun q hq => by rw [f2 q (by omega), hf1 q hq]
    have hs2 : StR s2 72 D := hs1.congr (fun q h1 h2 => f2 q (by omega))
    refine fr_t (ne_m1 (by omega)) ?_
    unfold V_X8_turn B_X8_turn_e
    intro s3 es3
    obtain ⟨ex, ey⟩ := q_xor (D 14) hD.1.2.2.1 (ztv T n (zte T n p)) (by omega)
    rw [hs2.2.2.1, q_shl (by omega), ex] at es3
    refine c_stop (by decide) hT e1.2 (fun q hq => by rw [es3, us_ne (by omega)]; exact hf2 q hq) ?_ (es3 ▸ hs2.shut hD.2.1) hq
    unfold AtC TxC at *
    rw [es3, us_ne (j := 70) (by omega), us_ne (j := 71) (by omega)]
    exact a2
  · rw [if_neg z] at hq
    exact fr_f rfl (c_fail hf1 a1 hq)
set_option maxHeartbeats 4000000 in
set_option maxRecDepth 100000 in
theorem c_hoursI {good bad : St → Prop} {K : Int32 → St → Prop} (hK : ∀ r s, KC good bad r s → K r s) {s : St} {p : Nat} {D : Nat → Nat} (hT : TB T n) (hpn : p ≤ n) (hf : FC σ s) (h : AtC s T n p) (hs : StR s 72 D) (hD : DB D) (hq : OC T n good bad (zho T n (zte T n p) D) σ) : V_X5_readHours s K := by
  unfold V_X5_readHours B_X5_readHours_e
  have e0 := zte_b (T := T) hpn
  refine c_advance h.1 hT.1 hT.2 h.2.2.2.1 e0.2 (fun s1 a1 f1 => ?_)
  have hf1 : FC σ s1 := fun q hq => by rw [f1 q (by omega), hf q hq]
  have hs1 : StR s1 72 D := hs.congr (fun q h1 h2 => f1 q (by omega))
  have e1 := zte_b (T := T) e0.2
  unfold zho at hq
  refine c_takeNumber (l := 1) (u := 99) (by decide) (by decide) (by decide) a1 hT e0.2 (fun z s2 a2 f2 => ?_) (fun z => ?_)
  · rw [if_pos z] at hq
    have hv := ztv_b e0.2 z.1
    have hf2 : FC σ s2 := fun q hq => by rw [f2 q (by omega), hf1 q hq]
    have hs2 : StR s2 72 D := hs1.congr (fun q h1 h2 => f2 q (by omega))
    have hD3 := hD.2.2
    refine fr_t (ne_m1 (by omega)) ?_
    have loop : ∀ d i (s : St), i + d = ztv T n (zte T n p) → FC σ s → AtC s T n (zte T n (zte T n p)) → StR s 72 (it i D) → R_X5_readHours K 24 [nI (ztv T n (zte T n p)), nI i] [] s := by
      intro d
      induction d with
      | zero =>
        intro i s hi hf ha hs
        refine i_X5_readHours_24 _ _ _ _ ?_
        unfold B_X5_readHours_24
        rw [(by omega : i = ztv T n (zte T n p))] at *
        exact ⟨fun _ => hK _ _ (c_stop (by decide) hT e1.2 hf ha hs hq), fun c => absurd (by rw [q_le (by omega) (by omega)]; omega) c⟩
      | succ d ih =>
        intro i s hi hf ha hs
        refine i_X5_readHours_24 _ _ _ _ ?_
        unfold B_X5_readHours_24
        refine ⟨fun c => absurd (by rw [q_le (by omega) (by omega)] at c; exact c) (by omega), fun _ => s_passHour hs (Bd_it hD.1 i (by omega)) (fun s3 hs3 f3 => ?_)⟩
        rw [nI_1]
        refine ih (i + 1) s3 (by omega) (fun q hq => by rw [f3 q (by omega)]; exact hf q hq) ?_ (by rw [it_succ]; exact hs3)
        unfold AtC TxC at *
        rw [f3 70 (by omega), f3 71 (by omega)]
        exact ha
    exact loop (ztv T n (zte T n p)) 0 s2 (by omega) hf2 a2 hs2
  · rw [if_neg z] at hq
    exact fr_f rfl (hK _ _ (c_fail hf1 a1 hq))
set_option maxHeartbeats 4000000 in
set_option maxRecDepth 100000 in
theorem c_item {good bad : St → Prop} {p : Nat} {D : Nat → Nat} (hT : TB T n) (hpn : p ≤ n) (h : AtC σ T n p) (hs : StR σ 72 D) (hD : DB D) (hq : OC T n good bad (zit T n p D) σ) : V_X5_readItem σ (KC good bad) := by
  unfold V_X5_readItem B_X5_readItem_e
  have hf : FC σ σ := fun _ _ => rfl
  unfold zit at hq
  refine w_isWord (i := 1) (by omega) h hT.1 hT.2 hpn ?_
  by_cases c1 : wm T n p 1 = true
  · rw [if_pos c1] at hq
    rw [c1]
    exact br_f (by decide) (c_wets hT hpn hf h hs hD hq)
  · rw [if_neg c1] at hq
    rw [Bool.eq_false_iff.mpr c1]
    refine br_t rfl (w_isWord (i := 2) (by omega) h hT.1 hT.2 hpn ?_)
    by_cases c2 : wm T n p 2 = true
    · rw [if_pos c2] at hq
      rw [c2]
      exact br_f (by decide) (c_glove hT hpn hf h hs hD hq)
    · rw [if_neg c2] at hq
      rw [Bool.eq_false_iff.mpr c2]
      refine br_t rfl (w_isWord (i := 3) (by omega) h hT.1 hT.2 hpn ?_)
      by_cases c3 : wm T n p 3 = true
      · rw [if_pos c3] at hq
        rw [c3]
        exact br_f (by decide) (c_crossing hT hpn hf h hs hD hq)
      · rw [if_neg c3] at hq
        rw [Bool.eq_false_iff.mpr c3]
        refine br_t rfl (w_isWord (i := 4) (by omega) h hT.1 hT.2 hpn ?_)
        by_cases c4 : wm T n p 4 = true
        · rw [if_pos c4] at hq
          rw [c4]
          exact br_f (by decide) (c_shut hT hpn hf h hs hD hq)
        · rw [if_neg c4] at hq
          rw [Bool.eq_false_iff.mpr c4]
          refine br_t rfl (w_isWord (i := 5) (by omega) h hT.1 hT.2 hpn ?_)
          by_cases c5 : wm T n p 5 = true
          · rw [if_pos c5] at hq
            rw [c5]
            exact br_f (by decide) (c_hoursI (fun r s hk => ⟨fun r0 => by rw [r0] at hk; exact hk, fun r0 => br_f (by decide) (hk.2 r0)⟩) hT hpn hf h hs hD hq)
          · rw [if_neg c5] at hq
            rw [Bool.eq_false_iff.mpr c5]
            exact br_t rfl (c_fail hf h hq)
end IT
