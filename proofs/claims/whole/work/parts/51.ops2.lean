theorem WFA.upd {A A' : Nat → Nat} (h : WFA A) (hB : Bd A') (h0 : A' 0 ≤ 7) (h15 : A' 15 ≤ 9999) (hse : A' 2 = A 2 ∧ ∀ i, 43 ≤ i → i < 53 → A' i = A i) (hno : A' 3 = A 3 ∧ ∀ i, 53 ≤ i → i < 77 → A' i = A i) (hma : A' 4 = A 4 ∧ ∀ i, 77 ≤ i → i < 101 → A' i = A i) (hpa : A' 5 = 0 ∨ (A' 5 = A 5 ∧ A' 0 = A 0 ∧ ∀ i, 101 ≤ i → A' i = A i)) (hmk : ∀ g, g < A' 0 → A' (30 + g) ≤ 9) : WFA A' := by
  obtain ⟨wB, w0, w15, w2, w3, w4, w5, wse, wno, wma, wpa, wmk⟩ := h
  refine ⟨hB, h0, h15, by rw [hse.1]; exact w2, by rw [hno.1]; exact w3, by rw [hma.1]; exact w4, ?_, fun i hi => ?_, fun i hi => ?_, fun i hi => ?_, fun r hr => ?_, hmk⟩
  · rcases hpa with e | ⟨e, -⟩
    · omega
    · rw [e]; exact w5
  · rw [hse.1] at hi
    rw [hse.2 _ (by omega) (by omega), hse.2 _ (by omega) (by omega)]
    exact wse i hi
  · rw [hno.1] at hi
    rw [hno.2 _ (by omega) (by omega), hno.2 _ (by omega) (by omega)]
    exact wno i hi
  · rw [hma.1] at hi
    rw [hma.2 _ (by omega) (by omega), hma.2 _ (by omega) (by omega)]
    exact wma i hi
  · rcases hpa with e | ⟨e5, e0, e⟩
    · omega
    · rw [e5] at hr
      rw [e0, e _ (by omega), e _ (by omega)]
      refine ⟨fun g hg => ?_, (wpa r hr).2⟩
      rw [e _ (by omega)]
      exact (wpa r hr).1 g hg
/-- one more glove -/
def ag (a : Nat → Nat) (k m s : Nat) : Nat → Nat := upN (upN (if a 0 < 7 then upN (upN a (22 + a 0) k) (30 + a 0) m else upN a (22 + a 0) k) (6 + a 0) s) 0 (a 0 + 1)
theorem ag_0 {a : Nat → Nat} {k m s : Nat} : ag a k m s 0 = a 0 + 1 := upN_s
theorem ag_sp {a : Nat → Nat} {k m s : Nat} : ag a k m s (6 + a 0) = s := by unfold ag; rw [upN_n (by omega), upN_s]
theorem ag_kd {a : Nat → Nat} {k m s : Nat} : ag a k m s (22 + a 0) = k := by
  unfold ag
  rw [upN_n (by omega), upN_n (by omega)]
  split
  · rw [upN_n (by omega), upN_s]
  · exact upN_s
theorem ag_mk {a : Nat → Nat} {k m s : Nat} (h : a 0 < 7) : ag a k m s (30 + a 0) = m := by
  unfold ag
  rw [upN_n (by omega), upN_n (by omega), if_pos h, upN_s]
theorem ag_o {a : Nat → Nat} {k m s i : Nat} (h0 : i ≠ 0) (h1 : i ≠ 6 + a 0) (h2 : i ≠ 22 + a 0) (h3 : i ≠ 30 + a 0 ∨ 7 ≤ a 0) : ag a k m s i = a i := by
  unfold ag
  rw [upN_n h0, upN_n h1]
  split
  · rw [upN_n (by omega), upN_n h2]
  · rw [upN_n h2]
theorem bh_ag {a : Nat → Nat} {k m s t : Nat} (h7 : a 0 ≤ 7) : bh (ag a k m s) t = bh a t := by
  unfold bh
  rw [ag_o (i := 1) (by omega) (by omega) (by omega) (by omega), ag_o (i := 40) (by omega) (by omega) (by omega) (by omega), ag_o (i := 41) (by omega) (by omega) (by omega) (by omega), ag_o (i := 42) (by omega) (by omega) (by omega) (by omega)]
theorem Bd_ag {a : Nat → Nat} {k m s : Nat} (h : Bd a) (h7 : a 0 ≤ 7) (hk : k ≤ 5) (hm : m ≤ 9) (hs : s ≤ 23) : Bd (ag a k m s) := by
  obtain ⟨b0, b1, b14, b15, bw, bg, bc, bd, bs⟩ := h
  have o : ∀ i, i ≠ 0 → (i < 6 ∨ 14 ≤ i) → (i < 22 ∨ 37 ≤ i) → ag a k m s i = a i := fun i h1 h2 h3 => ag_o h1 (by omega) (by omega) (by omega)
  unfold Bd
  rw [ag_0, o 1 (by omega) (by omega) (by omega), o 14 (by omega) (by omega) (by omega), o 15 (by omega) (by omega) (by omega)]
  refine ⟨by omega, b1, b14, b15, fun i hi => ?_, fun g hg => ?_, fun j hj => ?_, fun i j hi hj => ?_, fun i => ?_⟩
  · rw [o _ (by omega) (by omega) (by omega)]; exact bw i hi
  · by_cases e : g = a 0
    · subst e; rw [ag_kd, ag_sp]; exact ⟨hk, hs⟩
    · rw [ag_o (by omega) (by omega) (by omega) (by omega), ag_o (by omega) (by omega) (by omega) (by omega)]
      exact bg g (by omega)
  · rw [o _ (by omega) (by omega) (by omega), o _ (by omega) (by omega) (by omega)]; exact bc j hj
  · rw [o _ (by omega) (by omega) (by omega), o _ (by omega) (by omega) (by omega)]; exact bd i j hi hj
  · unfold ag upN
    split
    · omega
    · split
      · omega
      · split
        · dsimp only
          split
          · omega
          · split
            · omega
            · exact bs i
        · dsimp only
          split
          · omega
          · exact bs i
section O2
variable {σ τ : St} {h : Nat} {a : Nat → Nat}
set_option maxHeartbeats 4000000 in
set_option maxRecDepth 100000 in
theorem s_addGlove {k m s : Nat} (H : StR σ h a) (h7 : a 0 ≤ 7) {Q : Int32 → St → Prop} (hq : ∀ σ', StR σ' h (ag a k m s) → Fr σ σ' h → Q (nI (a 0)) σ') : V_X8_addGlove h (nI k) (nI m) (nI s) σ Q := by
  obtain ⟨r0, r1, r14, r15, rw_, rk, rm, rs, rg, rb, rh⟩ := H
  unfold V_X8_addGlove B_X8_addGlove_e
  rw [r0]
  refine br_t (by rw [show (7 : Int32) = nI 7 from rfl, q_le (by omega) (by omega)]; exact h7) ⟨vp_in_nI (by omega) (by omega), fun s1 e1 => ?_⟩
  rw [nI_clamp (by omega)] at e1
  subst e1
  rw [us_ne (j := h) (by omega), r0]
  refine ⟨vp_in_nI (by omega) (by omega), fun s2 e2 => ?_⟩
  rw [nI_clamp (by omega), us_ne (j := h + 3) (by omega)] at e2
  subst e2
  rw [us_ne (j := h) (by omega), us_ne (j := h) (by omega), r0]
  refine ⟨vp_in_nI (by omega) (by omega), fun s3 e3 => ?_⟩
  rw [nI_clamp (by omega), us_ne (j := h + 4) (by omega), us_ne (j := h + 4) (by omega)] at e3
  subst e3
  intro s4 e4
  rw [us_ne (j := h) (by omega), us_ne (j := h) (by omega), us_ne (j := h) (by omega), r0, nI_1] at e4
  subst e4
  rw [us_same, pk_us, nI_pred]
  refine hq _ ?_ (fun q hqq => by simp (disch := omega) only [us_ne])
  unfold StR
  simp (disch := omega) only [us_same, us_ne, pk_us, pk_un]
  have o : ∀ i, i ≠ 0 → (i < 6 ∨ 14 ≤ i) → (i < 22 ∨ 37 ≤ i) → ag a k m s i = a i := fun i h1 h2 h3 => ag_o h1 (by omega) (by omega) (by omega)
  rw [ag_0, o 1 (by omega) (by omega) (by omega), o 14 (by omega) (by omega) (by omega), o 15 (by omega) (by omega) (by omega)]
  refine ⟨rfl, r1, r14, r15, fun i hi => by rw [o _ (by omega) (by omega) (by omega)]; exact rw_ i hi, fun j hj => ?_, fun j hj h7 => ?_, fun j hj => ?_, fun j hj => by rw [o _ (by omega) (by omega) (by omega)]; exact rg j hj, fun j hj => by rw [o _ (by omega) (by omega) (by omega)]; exact rb j hj, fun t ht => by rw [bh_ag h7]; exact rh t ht⟩
  · unfold upd
    by_cases e : j = a 0
    · subst e; rw [if_pos rfl, ag_kd]
    · rw [if_neg e, ag_o (by omega) (by omega) (by omega) (by omega)]; exact rk j (by omega)
  · unfold upd
    by_cases e : j = a 0
    · subst e; rw [if_pos rfl, ag_mk (by omega)]
    · rw [if_neg e, ag_o (by omega) (by omega) (by omega) (by omega)]; exact rm j (by omega) h7
  · unfold upd
    by_cases e : j = a 0
    · subst e; rw [if_pos rfl, ag_sp]
    · rw [if_neg e, ag_o (by omega) (by omega) (by omega) (by omega)]; exact rs j (by omega)
/-- one more crossing -/
def ac (a : Nat → Nat) (k s : Nat) : Nat → Nat := upN (upN (upN a (37 + a 1) k) (40 + a 1) s) 1 (a 1 + 1)
theorem ac_o {a : Nat → Nat} {k s i : Nat} (h1 : i ≠ 1) (h2 : i ≠ 37 + a 1) (h3 : i ≠ 40 + a 1) : ac a k s i = a i := by
  unfold ac
  rw [upN_n h1, upN_n h3, upN_n h2]
theorem ac_1 {a : Nat → Nat} {k s : Nat} : ac a k s 1 = a 1 + 1 := upN_s
theorem ac_k {a : Nat → Nat} {k s : Nat} : ac a k s (37 + a 1) = k := by unfold ac; rw [upN_n (by omega), upN_n (by omega), upN_s]
theorem ac_b {a : Nat → Nat} {k s : Nat} : ac a k s (40 + a 1) = s := by unfold ac; rw [upN_n (by omega), upN_s]
theorem bh_ne {a : Nat → Nat} {s k : Nat} (hB : Bd a) (h : bh a s = 0) (hk : k < a 1) : a (40 + k) ≠ s := fun e => by
  have := bh_of hB hk
  rw [e] at this
  omega
theorem Bd_ac {a : Nat → Nat} {k s : Nat} (h : Bd a) (h3 : a 1 < 3) (hk : k ≤ 5) (hs : s ≤ 22) (hb : bh a s = 0) : Bd (ac a k s) := by
  have h' := h
  obtain ⟨b0, b1, b14, b15, bw, bg, bc, bd, bs⟩ := h
  unfold Bd
  rw [ac_1, ac_o (i := 0) (by omega) (by omega) (by omega), ac_o (i := 14) (by omega) (by omega) (by omega), ac_o (i := 15) (by omega) (by omega) (by omega)]
  refine ⟨b0, by omega, b14, b15, fun i hi => ?_, fun g hg => ?_, fun j hj => ?_, fun i j hi hj => ?_, fun i => ?_⟩
  · rw [ac_o (by omega) (by omega) (by omega)]; exact bw i hi
  · rw [ac_o (by omega) (by omega) (by omega), ac_o (by omega) (by omega) (by omega)]; exact bg g hg
  · by_cases e : j = a 1
    · subst e; rw [ac_k, ac_b]; exact ⟨hk, hs⟩
    · rw [ac_o (by omega) (by omega) (by omega), ac_o (by omega) (by omega) (by omega)]; exact bc j (by omega)
  · by_cases e : i = a 1
    · by_cases e2 : j = a 1
      · omega
      · rw [e, ac_b, ac_o (by omega) (by omega) (by omega)]
        exact fun q => absurd q.symm (bh_ne h' hb (by omega))
    · by_cases e2 : j = a 1
      · rw [e2, ac_b, ac_o (by omega) (by omega) (by omega)]
        exact fun q => absurd q (bh_ne h' hb (by omega))
      · rw [ac_o (by omega) (by omega) (by omega), ac_o (by omega) (by omega) (by omega)]
        exact bd i j (by omega) (by omega)
  · unfold ac upN
    split
    · omega
    · split
      · omega
      · split
        · omega
        · exact bs i
theorem bh_ac {a : Nat → Nat} {k s t : Nat} (h : Bd a) (h3 : a 1 < 3) (hk : k ≤ 5) (hs : s ≤ 22) (hb : bh a s = 0) : bh (ac a k s) t = if t = s then a 1 + 1 else bh a t := by
  have hB := Bd_ac h h3 hk hs hb
  by_cases e : t = s
  · subst e
    rw [if_pos rfl]
    have := bh_of (a := ac a k t) (k := a 1) hB (by rw [ac_1]; omega)
    rw [ac_b] at this
    exact this
  · rw [if_neg e]
    by_cases z : bh a t = 0
    · rw [z]
      refine bh_none hB.2.1 (fun j hj => ?_)
      rw [ac_1] at hj
      by_cases e2 : j = a 1
      · rw [e2, ac_b]; exact fun q => e q.symm
      · rw [ac_o (by omega) (by omega) (by omega)]
        exact bh_ne h z (by omega)
    · have hl := bh_le (s := t) h
      have ha := bh_at z
      have := bh_of (a := ac a k s) (k := bh a t - 1) hB (by rw [ac_1]; omega)
      rw [ac_o (by omega) (by omega) (by omega), ha] at this
      omega
set_option maxHeartbeats 4000000 in
set_option maxRecDepth 100000 in
theorem s_addCrossing {k s : Nat} (H : StR σ h a) (hB : Bd a) (h3 : a 1 < 3) (hk : k ≤ 5) (hs : s ≤ 22) (hb : bh a s = 0) {Q : Int32 → St → Prop} (hq : ∀ σ', StR σ' h (ac a k s) → Fr σ σ' h → Q (nI (a 1)) σ') : V_X8_addCrossing h (nI k) (nI s) σ Q := by
  obtain ⟨r0, r1, r14, r15, rw_, rk, rm, rs, rg, rb, rh⟩ := H
  have h8 := hB.1
  unfold V_X8_addCrossing B_X8_addCrossing_e
  rw [r1]
  refine br_t (by rw [show (3 : Int32) = nI 3 from rfl, q_lt (by omega) (by omega)]; exact h3) ⟨vp_in_nI (by omega) (by omega), fun s1 e1 => ?_⟩
  rw [nI_clamp (by omega)] at e1
  subst e1
  rw [us_ne (j := h) (by omega), r1]
  refine ⟨vp_in_nI (by omega) (by omega), fun s2 e2 => ?_⟩
  rw [nI_clamp (by omega), us_ne (j := h + 6) (by omega)] at e2
  subst e2
  intro s3 e3
  rw [us_ne (j := h) (by omega), us_ne (j := h) (by omega), r1, nI_1] at e3
  subst e3
  refine ⟨vp_in_nI (by omega) (by omega), fun s4 e4 => ?_⟩
  rw [nI_clamp (by omega), us_same, pk_us, us_ne (j := h + 7) (by omega), us_ne (j := h + 7) (by omega), us_ne (j := h + 7) (by omega)] at e4
  subst e4
  rw [us_ne (j := h) (by omega), us_same, pk_us, nI_pred]
  refine hq _ ?_ (fun q hqq => by simp (disch := omega) only [us_ne])
  unfold StR
  simp (disch := omega) only [us_same, us_ne, pk_us, pk_un]
  rw [ac_1, ac_o (i := 0) (by omega) (by omega) (by omega), ac_o (i := 14) (by omega) (by omega) (by omega), ac_o (i := 15) (by omega) (by omega) (by omega)]
  refine ⟨r0, rfl, r14, r15, fun i hi => by rw [ac_o (by omega) (by omega) (by omega)]; exact rw_ i hi, fun j hj => by rw [ac_o (by omega) (by omega) (by omega)]; exact rk j hj, fun j hj h7 => by rw [ac_o (by omega) (by omega) (by omega)]; exact rm j hj h7, fun j hj => by rw [ac_o (by omega) (by omega) (by omega)]; exact rs j hj, fun j hj => ?_, fun j hj => ?_, fun t ht => ?_⟩
  · unfold upd
    by_cases e : j = a 1
    · subst e; rw [if_pos rfl, ac_k]
    · rw [if_neg e, ac_o (by omega) (by omega) (by omega)]; exact rg j (by omega)
  · unfold upd
    by_cases e : j = a 1
    · subst e; rw [if_pos rfl, ac_b]
    · rw [if_neg e, ac_o (by omega) (by omega) (by omega)]; exact rb j (by omega)
  · rw [bh_ac hB h3 hk hs hb]
    unfold upd
    split
    · rfl
    · exact rh t ht
end O2
