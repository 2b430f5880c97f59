theorem WF.sA {S : SS} {A : Nat → Nat} (h : WF S) (hA : WFA A) : WF (sA S A) := by
  obtain ⟨h1, h2⟩ := h
  unfold WF
  rw [sA_0, sA_n (i := 1) (by omega), sA_n (i := 2) (by omega), sA_n (i := 3) (by omega), sA_n (i := 4) (by omega), sA_n (i := 5) (by omega), sA_n (i := 6) (by omega)]
  exact ⟨hA, h2⟩
theorem WFA.bd {A : Nat → Nat} (h : WFA A) : Bd A := h.1
theorem WFA.sm {A : Nat → Nat} (h : WFA A) : Sm A := h.1.2.2.2.2.2.2.2.2
section O1
variable {σ τ : St} {a1 a2 a3 a4 : Int32}
end O1

theorem WFA.upd {A A' : Nat → Nat} (h : WFA A) (hB : Bd A') (h0 : A' 0 ≤ 7) (h15 : A' 15 ≤ 9999) (hse : A' 2 = A 2 ∧ ∀ i, 43 ≤ i → i < 53 → A' i = A i) (hno : A' 3 = A 3 ∧ ∀ i, 53 ≤ i → i < 77 → A' i = A i) (hma : A' 4 = A 4 ∧ ∀ i, 77 ≤ i → i < 101 → A' i = A i) (hpa : A' 5 = 0 ∨ (A' 5 = A 5 ∧ A' 0 = A 0 ∧ ∀ i, 101 ≤ i → A' i = A i)) (hmk : ∀ g, g < A' 0 → A' (30 + g) ≤ 9) : WFA A' := by
  obtain ⟨wB, w0, w15, w2, w3, w4, w5, wse, wno, wma, wpa, wmk⟩ := h
  refine ⟨hB, h0, h15, by rw [hse.1]; exact w2, by rw [hno.1]; exact w3, by rw [hma.1]; exact w4, ?_, fun i hi => ?_, fun i hi => ?_, fun i hi => ?_, fun r hr => ?_, hmk⟩
  · rcases hpa with e | ⟨e, -⟩
    · omega
    · rw [e]; exact w5
  · rw [hse.1] at hi
    rw [hse.2 _ (by omega) (by omega), hse.2 _ (by omega) (by omega)]
    exact wse i hi
  · rw [hno.1] at hi
    rw [hno.2 _ (by omega) (by omega), hno.2 _ (by omega) (by omega)]
    exact wno i hi
  · rw [hma.1] at hi
    rw [hma.2 _ (by omega) (by omega), hma.2 _ (by omega) (by omega)]
    exact wma i hi
  · rcases hpa with e | ⟨e5, e0, e⟩
    · omega
    · rw [e5] at hr
      rw [e0, e _ (by omega), e _ (by omega)]
      refine ⟨fun g hg => ?_, (wpa r hr).2⟩
      rw [e _ (by omega)]
      exact (wpa r hr).1 g hg
/-- one more glove -/
def ag (a : Nat → Nat) (k m s : Nat) : Nat → Nat := upN (upN (if a 0 < 7 then upN (upN a (22 + a 0) k) (30 + a 0) m else upN a (22 + a 0) k) (6 + a 0) s) 0 (a 0 + 1)
theorem ag_0 {a : Nat → Nat} {k m s : Nat} : ag a k m s 0 = a 0 + 1 := upN_s
theorem ag_sp {a : Nat → Nat} {k m s : Nat} : ag a k m s (6 + a 0) = s := by unfold ag; rw [upN_n (by omega), upN_s]
theorem ag_kd {a : Nat → Nat} {k m s : Nat} : ag a k m s (22 + a 0) = k := by
  unfold ag
  rw [upN_n (by omega), upN_n (by omega)]
  split
  · rw [upN_n (by omega), upN_s]
  · exact upN_s
theorem ag_mk {a : Nat → Nat} {k m s : Nat} (h : a 0 < 7) : ag a k m s (30 + a 0) = m := by
  unfold ag
  rw [upN_n (by omega), upN_n (by omega), if_pos h, upN_s]
theorem ag_o {a : Nat → Nat} {k m s i : Nat} (h0 : i ≠ 0) (h1 : i ≠ 6 + a 0) (h2 : i ≠ 22 + a 0) (h3 : i ≠ 30 + a 0 ∨ 7 ≤ a 0) : ag a k m s i = a i := by
  unfold ag
  rw [upN_n h0, upN_n h1]
  split
  · rw [upN_n (by omega), upN_n h2]
  · rw [upN_n h2]
theorem bh_ag {a : Nat → Nat} {k m s t : Nat} (h7 : a 0 ≤ 7) : bh (ag a k m s) t = bh a t := by
  unfold bh
  rw [ag_o (i := 1) (by omega) (by omega) (by omega) (by omega), ag_o (i := 40) (by omega) (by omega) (by omega) (by omega), ag_o (i := 41) (by omega) (by omega) (by omega) (by omega), ag_o (i := 42) (by omega) (by omega) (by omega) (by omega)]
theorem Bd_ag {a : Nat → Nat} {k m s : Nat} (h : Bd a) (h7 : a 0 ≤ 7) (hk : k ≤ 5) (hm : m ≤ 9) (hs : s ≤ 23) : Bd (ag a k m s) := by
  obtain ⟨b0, b1, b14, b15, bw, bg, bc, bd, bs⟩ := h
  have o : ∀ i, i ≠ 0 → (i < 6 ∨ 14 ≤ i) → (i < 22 ∨ 37 ≤ i) → ag a k m s i = a i := fun i h1 h2 h3 => ag_o h1 (by omega) (by omega) (by omega)
  unfold Bd
  rw [ag_0, o 1 (by omega) (by omega) (by omega), o 14 (by omega) (by omega) (by omega), o 15 (by omega) (by omega) (by omega)]
  refine ⟨by omega, b1, b14, b15, fun i hi => ?_, fun g hg => ?_, fun j hj => ?_, fun i j hi hj => ?_, fun i => ?_⟩
  · rw [o _ (by omega) (by omega) (by omega)]; exact bw i hi
  · by_cases e : g = a 0
    · subst e; rw [ag_kd, ag_sp]; exact ⟨hk, hs⟩
    · rw [ag_o (by omega) (by omega) (by omega) (by omega), ag_o (by omega) (by omega) (by omega) (by omega)]
      exact bg g (by omega)
  · rw [o _ (by omega) (by omega) (by omega), o _ (by omega) (by omega) (by omega)]; exact bc j hj
  · rw [o _ (by omega) (by omega) (by omega), o _ (by omega) (by omega) (by omega)]; exact bd i j hi hj
  · unfold ag upN
    split
    · omega
    · split
      · omega
      · split
        · dsimp only
          split
          · omega
          · split
            · omega
            · exact bs i
        · dsimp only
          split
          · omega
          · exact bs i
section O2
variable {σ τ : St} {h : Nat} {a : Nat → Nat}
set_option maxHeartbeats 4000000 in
set_option maxRecDepth 100000 in
theorem s_addGlove {k m s : Nat} (H : StR σ h a) (h7 : a 0 ≤ 7) {Q : Int32 → St → Prop} (hq : ∀ σ', StR σ' h (ag a k m s) → Fr σ σ' h → Q (nI (a 0)) σ') : V_X8_addGlove h (nI k) (nI m) (nI s) σ Q := by
  obtain ⟨r0, r1, r14, r15, rw_, rk, rm, rs, rg, rb, rh⟩ := H
  unfold V_X8_addGlove B_X8_addGlove_e
  rw [r0]
  refine br_t (by rw [show (7 : Int32) = nI 7 from rfl, q_le (by omega) (by omega)]; exact h7) ⟨vp_in_nI (by omega) (by omega), fun s1 e1 => ?_⟩
  rw [nI_clamp (by omega)] at e1
  subst e1
  rw [us_ne (j := h) (by omega), r0]
  refine ⟨vp_in_nI (by omega) (by omega), fun s2 e2 => ?_⟩
  rw [nI_clamp (by omega), us_ne (j := h + 3) (by omega)] at e2
  subst e2
  rw [us_ne (j := h) (by omega), us_ne (j := h) (by omega), r0]
  refine ⟨vp_in_nI (by omega) (by omega), fun s3 e3 => ?_⟩
  rw [nI_clamp (by omega), us_ne (j := h + 4) (by omega), us_ne (j := h + 4) (by omega)] at e3
  subst e3
  intro s4 e4
  rw [us_ne (j := h) (by omega), us_ne (j := h) (by omega), us_ne (j := h) (by omega), r0, nI_1] at e4
  subst e4
  rw [us_same, pk_us, nI_pred]
  refine hq _ ?_ (fun q hqq => by simp (disch := omega) only [us_ne])
  unfold StR
  simp (disch := omega) only [us_same, us_ne, pk_us, pk_un]
  have o : ∀ i, i ≠ 0 → (i < 6 ∨ 14 ≤ i) → (i < 22 ∨ 37 ≤ i) → ag a k m s i = a i := fun i h1 h2 h3 => ag_o h1 (by omega) (by omega) (by omega)
  rw [ag_0, o 1 (by omega) (by omega) (by omega), o 14 (by omega) (by omega) (by omega), o 15 (by omega) (by omega) (by omega)]
  refine ⟨rfl, r1, r14, r15, fun i hi => by rw [o _ (by omega) (by omega) (by omega)]; exact rw_ i hi, fun j hj => ?_, fun j hj h7 => ?_, fun j hj => ?_, fun j hj => by rw [o _ (by omega) (by omega) (by omega)]; exact rg j hj, fun j hj => by rw [o _ (by omega) (by omega) (by omega)]; exact rb j hj, fun t ht => by rw [bh_ag h7]; exact rh t ht⟩
  · unfold upd
    by_cases e : j = a 0
    · subst e; rw [if_pos rfl, ag_kd]
    · rw [if_neg e, ag_o (by omega) (by omega) (by omega) (by omega)]; exact rk j (by omega)
  · unfold upd
    by_cases e : j = a 0
    · subst e; rw [if_pos rfl, ag_mk (by omega)]
    · rw [if_neg e, ag_o (by omega) (by omega) (by omega) (by omega)]; exact rm j (by omega) h7
  · unfold upd
    by_cases e : j = a 0
    · subst e; rw [if_pos rfl, ag_sp]
    · rw [if_neg e, ag_o (by omega) (by omega) (by omega) (by omega)]; exact rs j (by omega)
/-- one more crossing -/
def ac (a : Nat → Nat) (k s : Nat) : Nat → Nat := upN (upN (upN a (37 + a 1) k) (40 + a 1) s) 1 (a 1 + 1)
theorem ac_o {a : Nat → Nat} {k s i : Nat} (h1 : i ≠ 1) (h2 : i ≠ 37 + a 1) (h3 : i ≠ 40 + a 1) : ac a k s i = a i := by
  unfold ac
  rw [upN_n h1, upN_n h3, upN_n h2]
theorem ac_1 {a : Nat → Nat} {k s : Nat} : ac a k s 1 = a 1 + 1 := upN_s
theorem ac_k {a : Nat → Nat} {k s : Nat} : ac a k s (37 + a 1) = k := by unfold ac; rw [upN_n (by omega), upN_n (by omega), upN_s]
theorem ac_b {a : Nat → Nat} {k s : Nat} : ac a k s (40 + a 1) = s := by unfold ac; rw [upN_n (by omega), upN_s]
theorem bh_ne {a : Nat → Nat} {s k : Nat} (hB : Bd a) (h : bh a s = 0) (hk : k < a 1) : a (40 + k) ≠ s := fun e => by
  have := bh_of hB hk
  rw [e] at this
  omega
theorem Bd_ac {a : Nat → Nat} {k s : Nat} (h : Bd a) (h3 : a 1 < 3) (hk : k ≤ 5) (hs : s ≤ 22) (hb : bh a s = 0) : Bd (ac a k s) := by
  have h' := h
  obtain ⟨b0, b1, b14, b15, bw, bg, bc, bd, bs⟩ := h
  unfold Bd
  rw [ac_1, ac_o (i := 0) (by omega) (by omega) (by omega), ac_o (i := 14) (by omega) (by omega) (by omega), ac_o (i := 15) (by omega) (by omega) (by omega)]
  refine ⟨b0, by omega, b14, b15, fun i hi => ?_, fun g hg => ?_, fun j hj => ?_, fun i j hi hj => ?_, fun i => ?_⟩
  · rw [ac_o (by omega) (by omega) (by omega)]; exact bw i hi
  · rw [ac_o (by omega) (by omega) (by omega), ac_o (by omega) (by omega) (by omega)]; exact bg g hg
  · by_cases e : j = a 1
    · subst e; rw [ac_k, ac_b]; exact ⟨hk, hs⟩
    · rw [ac_o (by omega) (by omega) (by omega), ac_o (by omega) (by omega) (by omega)]; exact bc j (by omega)
  · by_cases e : i = a 1
    · by_cases e2 : j = a 1
      · omega
      · rw [e, ac_b, ac_o (by omega) (by omega) (by omega)]
        exact fun q => absurd q.symm (bh_ne h' hb (by omega))
    · by_cases e2 : j = a 1
      · rw [e2, ac_b, ac_o (by omega) (by omega) (by omega)]
        exact fun q => absurd q (bh_ne h' hb (by omega))
      · rw [ac_o (by omega) (by omega) (by omega), ac_o (by omega) (by omega) (by omega)]
        exact bd i j (by omega) (by omega)
  · unfold ac upN
    split
    · omega
    · split
      · omega
      · split
        · omega
        · exact bs i
theorem bh_ac {a : Nat → Nat} {k s t : Nat} (h : Bd a) (h3 : a 1 < 3) (hk : k ≤ 5) (hs : s ≤ 22) (hb : bh a s = 0) : bh (ac a k s) t = if t = s then a 1 + 1 else bh a t := by
  have hB := Bd_ac h h3 hk hs hb
  by_cases e : t = s
  · subst e
    rw [if_pos rfl]
    have := bh_of (a := ac a k t) (k := a 1) hB (by rw [ac_1]; omega)
    rw [ac_b] at this
    exact this
  · rw [if_neg e]
    by_cases z : bh a t = 0
    · rw [z]
      refine bh_none hB.2.1 (fun j hj => ?_)
      rw [ac_1] at hj
      by_cases e2 : j = a 1
      · rw [e2, ac_b]; exact fun q => e q.symm
      · rw [ac_o (by omega) (by omega) (by omega)]
        exact bh_ne h z (by omega)
    · have hl := bh_le (s := t) h
      have ha := bh_at z
      have := bh_of (a := ac a k s) (k := bh a t - 1) hB (by rw [ac_1]; omega)
      rw [ac_o (by omega) (by omega) (by omega), ha] at this
      omega
set_option maxHeartbeats 4000000 in
set_option maxRecDepth 100000 in
theorem s_addCrossing {k s : Nat} (H : StR σ h a) (hB : Bd a) (h3 : a 1 < 3) (hk : k ≤ 5) (hs : s ≤ 22) (hb : bh a s = 0) {Q : Int32 → St → Prop} (hq : ∀ σ', StR σ' h (ac a k s) → Fr σ σ' h → Q (nI (a 1)) σ') : V_X8_addCrossing h (nI k) (nI s) σ Q := by
  obtain ⟨r0, r1, r14, r15, rw_, rk, rm, rs, rg, rb, rh⟩ := H
  have h8 := hB.1
  unfold V_X8_addCrossing B_X8_addCrossing_e
  rw [r1]
  refine br_t (by rw [show (3 : Int32) = nI 3 from rfl, q_lt (by omega) (by omega)]; exact h3) ⟨vp_in_nI (by omega) (by omega), fun s1 e1 => ?_⟩
  rw [nI_clamp (by omega)] at e1
  subst e1
  rw [us_ne (j := h) (by omega), r1]
  refine ⟨vp_in_nI (by omega) (by omega), fun s2 e2 => ?_⟩
  rw [nI_clamp (by omega), us_ne (j := h + 6) (by omega)] at e2
  subst e2
  intro s3 e3
  rw [us_ne (j := h) (by omega), us_ne (j := h) (by omega), r1, nI_1] at e3
  subst e3
  refine ⟨vp_in_nI (by omega) (by omega), fun s4 e4 => ?_⟩
  rw [nI_clamp (by omega), us_same, pk_us, us_ne (j := h + 7) (by omega), us_ne (j := h + 7) (by omega), us_ne (j := h + 7) (by omega)] at e4
  subst e4
  rw [us_ne (j := h) (by omega), us_same, pk_us, nI_pred]
  refine hq _ ?_ (fun q hqq => by simp (disch := omega) only [us_ne])
  unfold StR
  simp (disch := omega) only [us_same, us_ne, pk_us, pk_un]
  rw [ac_1, ac_o (i := 0) (by omega) (by omega) (by omega), ac_o (i := 14) (by omega) (by omega) (by omega), ac_o (i := 15) (by omega) (by omega) (by omega)]
  refine ⟨r0, rfl, r14, r15, fun i hi => by rw [ac_o (by omega) (by omega) (by omega)]; exact rw_ i hi, fun j hj => by rw [ac_o (by omega) (by omega) (by omega)]; exact rk j hj, fun j hj h7 => by rw [ac_o (by omega) (by omega) (by omega)]; exact rm j hj h7, fun j hj => by rw [ac_o (by omega) (by omega) (by omega)]; exact rs j hj, fun j hj => ?_, fun j hj => ?_, fun t ht => ?_⟩
  · unfold upd
    by_cases e : j = a 1
    · subst e; rw [if_pos rfl, ac_k]
    · rw [if_neg e, ac_o (by omega) (by omega) (by omega)]; exact rg j (by omega)
  · unfold upd
    by_cases e : j = a 1
    · subst e; rw [if_pos rfl, ac_b]
    · rw [if_neg e, ac_o (by omega) (by omega) (by omega)]; exact rb j (by omega)
  · rw [bh_ac hB h3 hk hs hb]
    unfold upd
    split
    · rfl
    · exact rh t ht
end O2

section O3
variable {σ τ : St} {a1 a2 a3 a4 : Int32}
/-- a change of the street alone, with nothing to undo behind it -/
theorem CR.street {σ σ' : St} {S : SS} {B : CB} {A' : Nat → Nat} (H : CR σ S B) (hW : WFA (S 0)) (e : ∀ q, ¬ (2 ≤ q ∧ q ≤ 11) → σ' q = σ q) (hs : StR σ' 2 A') (h11 : σ' 11 1 = nI 0) (h5 : A' 5 = 0) (f2 : A' 2 = S 0 2) (f3 : A' 3 = S 0 3) (f4 : A' 4 = S 0 4) (f : ∀ i, 43 ≤ i → i < 101 → A' i = S 0 i) : CR σ' (sA S A') B := by
  obtain ⟨-, -, -, w2, w3, w4, -⟩ := hW
  refine H.sc (fun q hq => e q (by omega)) ⟨hs, PaR.z h11 h5, H.1.2.2.1.c (e _ (by omega)) (e _ (by omega)) w2 f2 (fun i h1 h2 => f i h1 (by omega)), H.1.2.2.2.1.c (e _ (by omega)) (e _ (by omega)) w3 f3 (fun i h1 h2 => f i (by omega) (by omega)), H.1.2.2.2.2.c (e _ (by omega)) (e _ (by omega)) w4 f4 (fun i h1 h2 => f i (by omega) (by omega))⟩ ?_
  obtain ⟨-, -, -, h4, -⟩ := H
  unfold RowC at *
  rw [e 13 (by omega), e 15 (by omega), e 17 (by omega)]
  exact h4
theorem s_has1 {h s : Nat} {a : Nat → Nat} (H : StR σ h a) (hs : s ≤ 23) (hb : bh a s ≠ 0) {Q : Int32 → St → Prop} (q : Q 1 σ) : V_X8_hasCrossing h (nI s) σ Q := by
  unfold V_X8_hasCrossing B_X8_hasCrossing_e
  have h3 := bh_sm (a := a) (s := s)
  refine cw1 (l := 0) (u := 23) ((okI_nI (n := 23) (by omega)).mpr hs) rfl rfl (br_f (by decide) ⟨vp_in_nI (by omega) (by omega), ?_⟩)
  rw [nI_clamp (by omega), H.2.2.2.2.2.2.2.2.2.2 s (by omega)]
  exact br_f (by rw [show (0 : Int32) = nI 0 from rfl, q_eq (by omega) (by omega)]; exact hb) q
theorem s_has0 {h s : Nat} {a : Nat → Nat} (H : StR σ h a) (hs : s ≤ 23) (hb : bh a s = 0) {Q : Int32 → St → Prop} (q : Q 0 σ) : V_X8_hasCrossing h (nI s) σ Q := by
  unfold V_X8_hasCrossing B_X8_hasCrossing_e
  refine cw1 (l := 0) (u := 23) ((okI_nI (n := 23) (by omega)).mpr hs) rfl rfl (br_f (by decide) ⟨vp_in_nI (by omega) (by omega), ?_⟩)
  rw [nI_clamp (by omega), H.2.2.2.2.2.2.2.2.2.2 s (by omega), hb]
  exact br_t rfl q
end O3

section O4
variable {σ τ : St} {a1 a2 a3 a4 : Int32}
def zA (A : Nat → Nat) : Nat → Nat := fun i => if i < 101 then 0 else A i
theorem zA_lo {A : Nat → Nat} {i : Nat} (h : i < 101) : zA A i = 0 := if_pos h
theorem WFA_z {A : Nat → Nat} (h : Sm A) : WFA (zA A) := by
  have z : ∀ i, i < 101 → zA A i = 0 := fun i hi => zA_lo hi
  have z0 := z 0 (by omega)
  have z1 := z 1 (by omega)
  have z2 := z 2 (by omega)
  have z3 := z 3 (by omega)
  have z4 := z 4 (by omega)
  have z5 := z 5 (by omega)
  have z14 := z 14 (by omega)
  have z15 := z 15 (by omega)
  have hs : ∀ i, zA A i < 2147483648 := fun i => by
    unfold zA
    split
    · omega
    · exact h i
  refine ⟨⟨by omega, by omega, by omega, by omega, fun i hi => by rw [z _ (by omega)]; omega, fun g hg => absurd hg (by omega), fun g hg => absurd hg (by omega), fun g j hg => absurd hg (by omega), hs⟩, by omega, by omega, by omega, by omega, by omega, by omega, fun g hg => absurd hg (by omega), fun g hg => absurd hg (by omega), fun g hg => absurd hg (by omega), fun g hg => absurd hg (by omega), fun g hg => absurd hg (by omega)⟩
theorem RowC.c {σ σ' : St} (h : RowC σ) (e : ∀ q, q = 13 ∨ q = 15 ∨ q = 17 → σ' q 1 = σ q 1 ∧ σ' q 2 = σ q 2) : RowC σ' := by
  unfold RowC at *
  rw [(e 13 (by omega)).1, (e 13 (by omega)).2, (e 15 (by omega)).1, (e 15 (by omega)).2, (e 17 (by omega)).1, (e 17 (by omega)).2]
  exact h
end O4

section O4b
variable {σ τ : St} {a1 a2 a3 a4 : Int32}
set_option maxHeartbeats 4000000 in
set_option maxRecDepth 100000 in
theorem c_empty {S : SS} {B : CB} {A' : Nat → Nat} (HC : CR σ S B) (hz : ∀ i, i < 101 → A' i = 0) {Q : St → Prop} (hq : ∀ σ', CR σ' (sA S A') B → (∀ q, 18 < q → σ' q = σ q) → Q σ') : V_X7_empty 1 σ Q := by
  unfold V_X7_empty B_X7_empty_e
  refine s_empty (a' := A') (hz 0 (by omega)) (hz 1 (by omega)) (hz 14 (by omega)) (hz 15 (by omega)) (fun i hi => hz _ (by omega)) (fun σ1 H1 hf => ?_)
  intro s2 e2
  unfold V_X6_empty B_X6_empty_e
  intro s3 e3 s4 e4 s5 e5
  subst e2; subst e3; subst e4; subst e5
  refine hq _ (HC.sc (fun q hq => ?_) ⟨?_, PaR.z ?_ (hz 5 (by omega)), ⟨?_, fun i hi => absurd hi (by rw [hz 2 (by omega)]; omega)⟩, ⟨?_, fun i hi => absurd hi (by rw [hz 3 (by omega)]; omega)⟩, ⟨?_, fun i hi => absurd hi (by rw [hz 4 (by omega)]; omega)⟩⟩ (HC.2.2.2.1.c (fun q hq => ?_))) (fun q hq => ?_)
  · rw [us_ne (by omega), us_ne (by omega), us_ne (by omega), us_ne (by omega)]; exact hf q (by omega)
  · exact H1.congr (fun q _ _ => by rw [us_ne (by omega), us_ne (by omega), us_ne (by omega), us_ne (by omega)])
  · simp (disch := omega) only [us_same, us_ne, pk_us]; rfl
  · simp (disch := omega) only [us_same, us_ne, pk_us]; rw [hz 2 (by omega)]; rfl
  · simp (disch := omega) only [us_same, us_ne, pk_us]; rw [hz 3 (by omega)]; rfl
  · simp (disch := omega) only [us_same, us_ne, pk_us]; rw [hz 4 (by omega)]; rfl
  · rcases hq with rfl | rfl | rfl
    · simp (disch := omega) only [us_same, us_ne, pk_un]
      rw [hf 13 (by omega)]; exact ⟨rfl, rfl⟩
    · simp (disch := omega) only [us_same, us_ne, pk_un]
      rw [hf 15 (by omega)]; exact ⟨rfl, rfl⟩
    · simp (disch := omega) only [us_same, us_ne, pk_un]
      rw [hf 17 (by omega)]; exact ⟨rfl, rfl⟩
  · rw [us_ne (by omega), us_ne (by omega), us_ne (by omega), us_ne (by omega)]; exact hf q (by omega)
end O4b

section O6
variable {σ τ : St} {a1 a2 a3 a4 : Int32}
theorem okG {n : Nat} {x : Int32} (k : okI x 0 ((n : Int) - 1)) : ∃ g, g < n ∧ x = nI g := by
  rcases Nat.eq_zero_or_pos n with z | z
  · have := k.1; have := k.2; omega
  · obtain ⟨g, -, hg, e⟩ := okI_ex (a := 0) (b := n - 1) (x := x) ⟨k.1, by have := k.2; omega⟩
    exact ⟨g, by omega, e⟩
/-! what was told -/
/-- a row of numbers that is no part of the street is changed -/
theorem WFA.tail {A A' : Nat → Nat} (h : WFA A) (f : ∀ i, (i < 2 ∨ 5 ≤ i) → (i < 43 ∨ 101 ≤ i) → A' i = A i) (h2 : A' 2 ≤ 5) (h3 : A' 3 ≤ 6) (h4 : A' 4 ≤ 6) (hse : ∀ i, i < A' 2 → A' (43 + 2 * i) ≤ 60 ∧ A' (43 + 2 * i + 1) ≤ 23) (hno : ∀ i, i < A' 3 → A' (53 + 4 * i + 1) ≤ 99 ∧ A' (53 + 4 * i + 2) ≤ 4) (hma : ∀ i, i < A' 4 → A' (77 + 4 * i + 1) ≤ 99 ∧ A' (77 + 4 * i + 2) ≤ 7) (hs : ∀ i, A' i < 2147483648) : WFA A' := by
  obtain ⟨⟨b0, b1, b14, b15, bw, bg, bc, bd, bs⟩, w0, w15, w2, w3, w4, w5, wse, wno, wma, wpa, wmk⟩ := h
  have f0 := f 0 (by omega) (by omega)
  have f1 := f 1 (by omega) (by omega)
  have f5 := f 5 (by omega) (by omega)
  have f14 := f 14 (by omega) (by omega)
  have f15 := f 15 (by omega) (by omega)
  refine ⟨⟨by omega, by omega, by omega, by omega, fun i hi => ?_, fun g hg => ?_, fun k hk => ?_, fun j k hj hk => ?_, hs⟩, by omega, by omega, h2, h3, h4, by omega, hse, hno, hma, fun r hr => ?_, fun g hg => ?_⟩
  · rw [f _ (by omega) (by omega)]; exact bw i hi
  · rw [f _ (by omega) (by omega), f _ (by omega) (by omega)]; exact bg g (by omega)
  · rw [f _ (by omega) (by omega), f _ (by omega) (by omega)]; exact bc k (by omega)
  · rw [f _ (by omega) (by omega), f _ (by omega) (by omega)]; exact bd j k (by omega) (by omega)
  · rw [f (101 + 10 * r + 8) (by omega) (by omega), f (101 + 10 * r + 9) (by omega) (by omega)]
    refine ⟨fun g hg => ?_, (wpa r (by omega)).2⟩
    rw [f _ (by omega) (by omega)]
    exact (wpa r (by omega)).1 g (by omega)
  · rw [f _ (by omega) (by omega)]; exact wmk g (by omega)
theorem SceR.tail {σ' : St} {c : Nat} {A A' : Nat → Nat} (H : SceR σ c A) (h7 : A 0 ≤ 7) (h3 : A 1 ≤ 3) (e : ∀ q, c + 1 ≤ q → q ≤ c + 11 → σ' q = σ q) (f : ∀ i, (i < 2 ∨ 5 ≤ i) → (i < 43 ∨ 101 ≤ i) → A' i = A i) (hs : SeR σ' (c + 12) A') (hn : FoR σ' (c + 14) A' 3 53) (hm : FoR σ' (c + 16) A' 4 77) : SceR σ' c A' :=
  ⟨(H.1.congr (fun q _ _ => e q (by omega) (by omega))).cA (fun i hi h => f i (by omega) (by omega)) h7 h3, H.2.1.c (e _ (by omega) (by omega)) (e _ (by omega) (by omega)) (f 5 (by omega) (by omega)) (f 0 (by omega) (by omega)) (fun i hi => f i (by omega) (by omega)), hs, hn, hm⟩
end O6

section O7
variable {σ τ : St} {a1 a2 a3 a4 : Int32}
set_option maxHeartbeats 4000000 in
set_option maxRecDepth 100000 in
theorem s_add {q n m : Nat} {b1 b2 b3 b4 : Int32} (e3 : σ q 3 = nI n) (e1 : σ q 1 = nI m) (hn : n ≤ m) (hm : m ≤ 6) {Q : Int32 → St → Prop} (hf : n = m → Q 0 σ) (hq : n < m → ∀ σ', (∀ p, p ≠ q → p ≠ q + 1 → σ' p = σ p) → (∀ j, j ≠ 3 → σ' q j = σ q j) → σ' q 3 = nI (n + 1) → (∀ i, i ≠ 4 * n → i ≠ 4 * n + 1 → i ≠ 4 * n + 2 → i ≠ 4 * n + 3 → σ' (q + 1) i = σ (q + 1) i) → σ' (q + 1) (4 * n) = b1 → σ' (q + 1) (4 * n + 1) = b2 → σ' (q + 1) (4 * n + 2) = b3 → σ' (q + 1) (4 * n + 3) = b4 → Q 1 σ') : V_X6_add q b1 b2 b3 b4 σ Q := by
  unfold V_X6_add B_X6_add_e
  rw [e3, e1]
  refine ⟨fun c => ?_, fun c => ?_⟩
  · rw [q_lt (by omega) (by omega)] at c
    have em : nI n * 4 = nI (n * 4) := pk_mul n 4
    have i0 : vp_in (nI n * 4) 24 := by rw [em]; exact vp_in_nI (by omega) (by omega)
    have i1 : vp_in (nI n * 4 + 1) 24 := by rw [em, show (1 : Int32) = nI 1 from rfl, nI_add]; exact vp_in_nI (by omega) (by omega)
    have i2 : vp_in (nI n * 4 + 2) 24 := by rw [em, show (2 : Int32) = nI 2 from rfl, nI_add]; exact vp_in_nI (by omega) (by omega)
    have i3 : vp_in (nI n * 4 + 3) 24 := by rw [em, show (3 : Int32) = nI 3 from rfl, nI_add]; exact vp_in_nI (by omega) (by omega)
    have c0 : (nI n * 4).toNatClampNeg = 4 * n := by rw [em, nI_clamp (by omega)]; omega
    have c1 : (nI n * 4 + 1).toNatClampNeg = 4 * n + 1 := by rw [em, show (1 : Int32) = nI 1 from rfl, nI_add, nI_clamp (by omega)]; omega
    have c2 : (nI n * 4 + 2).toNatClampNeg = 4 * n + 2 := by rw [em, show (2 : Int32) = nI 2 from rfl, nI_add, nI_clamp (by omega)]; omega
    have c3 : (nI n * 4 + 3).toNatClampNeg = 4 * n + 3 := by rw [em, show (3 : Int32) = nI 3 from rfl, nI_add, nI_clamp (by omega)]; omega
    rw [c0, c1, c2, c3]
    refine ⟨i0, fun s1 f1 => ⟨i1, fun s2 f2 => ⟨i2, fun s3 f3 => ⟨i3, fun s4 f4 => fun s5 f5 => ?_⟩⟩⟩⟩
    subst f1; subst f2; subst f3; subst f4; subst f5
    simp (disch := omega) only [us_us, us_same, us_ne]
    refine hq c _ (fun p h1 h2 => by rw [us_ne h1, us_ne h2]) (fun j hj => by rw [us_same, pk_un hj]) (by rw [us_same, pk_us, e3, nI_1]) (fun i h0 h1 h2 h3 => ?_) ?_ ?_ ?_ ?_
    all_goals simp (disch := omega) only [us_same, us_ne, pk_us, pk_un]
  · rw [q_lt (by omega) (by omega)] at c
    exact hf (by omega)
end O7

section O8
variable {σ τ : St} {a1 a2 a3 a4 : Int32}
def f4 (A : Nat → Nat) (cn b x1 x2 x3 x4 : Nat) : Nat → Nat := upN (upN (upN (upN (upN A (b + 4 * A cn) x1) (b + 4 * A cn + 1) x2) (b + 4 * A cn + 2) x3) (b + 4 * A cn + 3) x4) cn (A cn + 1)
set_option maxHeartbeats 4000000 in
set_option maxRecDepth 100000 in
theorem c_four {S : SS} {B : CB} {cn b q x1 x2 x3 x4 : Nat} {σ1 : St} (hc : (cn = 3 ∧ b = 53 ∧ q = 15) ∨ (cn = 4 ∧ b = 77 ∧ q = 17)) (HC : CR σ S B) (HW : WF S) (hn : S 0 cn < 6) (h2 : x2 ≤ 99) (h3 : x3 ≤ 7) (h3' : cn = 3 → x3 ≤ 4) (l1 : x1 < 2147483648) (l4 : x4 < 2147483648) (g1 : ∀ p, p ≠ q → p ≠ q + 1 → σ1 p = σ p) (g2 : ∀ j, j ≠ 3 → σ1 q j = σ q j) (g3 : σ1 q 3 = nI (S 0 cn + 1)) (g4 : ∀ i, i ≠ 4 * S 0 cn → i ≠ 4 * S 0 cn + 1 → i ≠ 4 * S 0 cn + 2 → i ≠ 4 * S 0 cn + 3 → σ1 (q + 1) i = σ (q + 1) i) (g5 : σ1 (q + 1) (4 * S 0 cn) = nI x1) (g6 : σ1 (q + 1) (4 * S 0 cn + 1) = nI x2) (g7 : σ1 (q + 1) (4 * S 0 cn + 2) = nI x3) (g8 : σ1 (q + 1) (4 * S 0 cn + 3) = nI x4) : CR σ1 (sA S (f4 (S 0) cn b x1 x2 x3 x4)) B ∧ WF (sA S (f4 (S 0) cn b x1 x2 x3 x4)) := by
  obtain ⟨wB, w0, w15, w2, w3, w4, w5, wse, wno, wma, wpa, wmk⟩ := HW.1
  have hsm : Sm (S 0) := wB.2.2.2.2.2.2.2.2
  obtain ⟨hst, hpa, hse, hno, hma⟩ := HC.1
  have o : ∀ i, i ≠ cn → (i < b + 4 * S 0 cn ∨ b + 4 * S 0 cn + 3 < i) → f4 (S 0) cn b x1 x2 x3 x4 i = S 0 i := fun i h1 h2 => by
    unfold f4
    rw [upN_n h1, upN_n (by omega), upN_n (by omega), upN_n (by omega), upN_n (by omega)]
  have oc : f4 (S 0) cn b x1 x2 x3 x4 cn = S 0 cn + 1 := upN_s
  have o0 : f4 (S 0) cn b x1 x2 x3 x4 (b + 4 * S 0 cn) = x1 := by unfold f4; rw [upN_n (by omega), upN_n (by omega), upN_n (by omega), upN_n (by omega), upN_s]
  have o1 : f4 (S 0) cn b x1 x2 x3 x4 (b + 4 * S 0 cn + 1) = x2 := by unfold f4; rw [upN_n (by omega), upN_n (by omega), upN_n (by omega), upN_s]
  have o2 : f4 (S 0) cn b x1 x2 x3 x4 (b + 4 * S 0 cn + 2) = x3 := by unfold f4; rw [upN_n (by omega), upN_n (by omega), upN_s]
  have o3 : f4 (S 0) cn b x1 x2 x3 x4 (b + 4 * S 0 cn + 3) = x4 := by unfold f4; rw [upN_n (by omega), upN_s]
  have hfo : FoR σ q (S 0) cn b := by
    rcases hc with ⟨rfl, rfl, rfl⟩ | ⟨rfl, rfl, rfl⟩
    · exact hno
    · exact hma
  have hfo1 : FoR σ1 q (f4 (S 0) cn b x1 x2 x3 x4) cn b := by
    refine ⟨by rw [oc]; exact g3, fun i hi j hj => ?_⟩
    rw [oc] at hi
    by_cases z : i = S 0 cn
    · subst z
      rcases (by omega : j = 0 ∨ j = 1 ∨ j = 2 ∨ j = 3) with rfl | rfl | rfl | rfl
      · show σ1 (q + 1) (4 * S 0 cn) = nI (f4 (S 0) cn b x1 x2 x3 x4 (b + 4 * S 0 cn))
        rw [o0]; exact g5
      · rw [o1]; exact g6
      · rw [o2]; exact g7
      · rw [o3]; exact g8
    · rw [o _ (by omega) (by omega), g4 _ (by omega) (by omega) (by omega) (by omega)]
      exact hfo.2 i (by omega) j hj
  refine ⟨HC.sc (fun p hp => g1 p (by omega) (by omega)) (SceR.tail HC.1 w0 wB.2.1 (fun p h1 h2 => g1 p (by omega) (by omega)) (fun i h1 h2 => o i (by omega) (by omega)) (hse.c (g1 _ (by omega) (by omega)) (g1 _ (by omega) (by omega)) w2 (o 2 (by omega) (by omega)) (fun i h1 h2 => o i (by omega) (by omega))) ?_ ?_) (HC.2.2.2.1.c (fun p hp => ?_)), HW.sA (HW.1.tail (fun i h1 h2 => o i (by omega) (by omega)) (by rw [o 2 (by omega) (by omega)]; exact w2) ?_ ?_ (fun i hi => ?_) (fun i hi => ?_) (fun i hi => ?_) (fun i => ?_))⟩
  · rcases hc with ⟨rfl, rfl, rfl⟩ | ⟨rfl, rfl, rfl⟩
    · exact hfo1
    · exact hno.c (g1 _ (by omega) (by omega)) (g1 _ (by omega) (by omega)) w3 (o 3 (by omega) (by omega)) (fun i h1 h2 => o i (by omega) (by omega))
  · rcases hc with ⟨rfl, rfl, rfl⟩ | ⟨rfl, rfl, rfl⟩
    · exact hma.c (g1 _ (by omega) (by omega)) (g1 _ (by omega) (by omega)) w4 (o 4 (by omega) (by omega)) (fun i h1 h2 => o i (by omega) (by omega))
    · exact hfo1
  · by_cases z : p = q
    · subst z; exact ⟨g2 1 (by omega), g2 2 (by omega)⟩
    · rw [g1 p z (by omega)]; exact ⟨rfl, rfl⟩
  · by_cases z : cn = 3
    · subst z; rw [oc]; omega
    · rw [o 3 (by omega) (by omega)]; exact w3
  · by_cases z : cn = 4
    · subst z; rw [oc]; omega
    · rw [o 4 (by omega) (by omega)]; exact w4
  · rw [o 2 (by omega) (by omega)] at hi
    rw [o _ (by omega) (by omega), o _ (by omega) (by omega)]
    exact wse i hi
  · rcases hc with ⟨rfl, rfl, rfl⟩ | ⟨rfl, rfl, rfl⟩
    · rw [oc] at hi
      by_cases z : i = S 0 3
      · subst z; rw [o1, o2]; exact ⟨h2, h3' rfl⟩
      · rw [o _ (by omega) (by omega), o _ (by omega) (by omega)]; exact wno i (by omega)
    · rw [o 3 (by omega) (by omega)] at hi
      rw [o _ (by omega) (by omega), o _ (by omega) (by omega)]; exact wno i hi
  · rcases hc with ⟨rfl, rfl, rfl⟩ | ⟨rfl, rfl, rfl⟩
    · rw [o 4 (by omega) (by omega)] at hi
      rw [o _ (by omega) (by omega), o _ (by omega) (by omega)]; exact wma i hi
    · rw [oc] at hi
      by_cases z : i = S 0 4
      · subst z; rw [o1, o2]; exact ⟨h2, h3⟩
      · rw [o _ (by omega) (by omega), o _ (by omega) (by omega)]; exact wma i (by omega)
  · unfold f4 upN
    split
    · omega
    · split
      · omega
      · split
        · omega
        · split
          · omega
          · split
            · omega
            · exact hsm i
end O8

