/-! what will be -/
def wn (p : Nat → Bool) : Nat → Nat → Int32
  | 0, _ => -1
  | d + 1, x => if p x = true then nI x else wn p d (x + 1)
theorem wn_t {p : Nat → Bool} {d x : Nat} (h : p x = true) : wn p (d + 1) x = nI x := if_pos h
theorem wn_f {p : Nat → Bool} {d x : Nat} (h : ¬ p x = true) : wn p (d + 1) x = wn p d (x + 1) := if_neg h
def vs (A : Nat → Nat) (g : Nat) : Nat → Int32
  | 0 => 0
  | x + 1 => vs A g x ||| ((1 : Int32) <<< (nI (it x A (6 + g)) &&& 31))
section O11
variable {σ τ : St} {a1 a2 a3 a4 : Int32}
theorem JJ {S : SS} {B : CB} (HC : CR σ S B) (HM : MR τ S B) (HW : WF S) {σ' τ' : St} (f : ∀ q, q < 55 ∨ q = 70 ∨ q = 71 → σ' q = σ q) (g : ∀ q, q < 5 ∨ q = 9 → τ' q = τ q) : J σ' τ' := ⟨S, B, HC.congr f, HM.congr g, HW⟩
set_option maxHeartbeats 4000000 in
set_option maxRecDepth 100000 in
theorem p_where (hJ : J σ τ) : V_X10_where a1 a2 σ (fun r σ' => V_X11_where a1 a2 τ (fun r' τ' => r = r' ∧ J σ' τ')) := by
  obtain ⟨S, B, HC, HM, HW⟩ := hJ
  unfold V_X10_where B_X10_where_e
  obtain ⟨wB, w0, w15, -⟩ := id HW.1
  have h3 := wB.2.1
  by_cases k1 : okI a1 0 ((S 0 0 : Int) - 1)
  · refine c_isG1 HC w0 k1 (br_f (by decide) ?_)
    obtain ⟨g, hg, rfl⟩ := okG k1
    by_cases k2 : okI a2 0 60
    · refine cw1 k2 rfl rfl (fr_t (by decide) ?_)
      obtain ⟨m, -, hm, rfl⟩ := okI_ex (a := 0) (b := 60) k2
      unfold V_X0_spikeThen B_X0_spikeThen_e
      refine s_copy HC.1.1 w0 h3 (by omega) (fun s1 hs1 f1 => s_pass hs1 wB (by omega) (fun s2 hs2 f2 => ⟨vp_in_nI (by omega) (by omega), ?_⟩))
      have e0 : it m (S 0) 0 = S 0 0 := it_lo (by omega) m
      rw [nI_clamp (by omega), show s2 60 g = nI (it m (S 0) (6 + g)) from hs2.2.2.2.2.2.2.2.1 g (by omega)]
      unfold V_X11_where B_X11_where_e
      refine m_isG1 HM w0 k1 (br_f (by decide) (mw1 k2 rfl rfl (fr_t (by decide) ?_)))
      refine m_layHand HM.1 (fun row hrow => m_goAhead (a := S 0) (fun j hj => by rw [us_same]; exact hrow j hj) wB (by omega) (fun row2 hrow2 => ?_))
      rw [us_us, show (6 : Int32) = nI 6 from rfl, nI_add, nI_clamp (by omega), us_same, hrow2 (6 + g) (by omega)]
      exact ⟨vp_in_nI (by omega) (by omega), rfl, JJ HC HM HW (fun q hq => by rw [f2 q (by omega), f1 q (by omega)]) (fun q hq => us_ne (by omega))⟩
    · refine cw0 k2 rfl rfl (fr_f (by decide) (c_bad HC (fun σ' HC' => ?_)))
      unfold V_X11_where B_X11_where_e
      exact m_isG1 HM w0 k1 (br_f (by decide) (mw0 k2 rfl rfl (fr_f (by decide) (i_X11_where_20 _ _ _ _ (m_bad HM (fun τ' HM' => ⟨rfl, S, bb B 0, HC', HM', HW⟩))))))
  · refine c_isG0 HC w0 k1 (br_t (by decide) (c_bad HC (fun σ' HC' => ?_)))
    unfold V_X11_where B_X11_where_e
    exact m_isG0 HM w0 k1 (br_t (by decide) (i_X11_where_20 _ _ _ _ (m_bad HM (fun τ' HM' => ⟨rfl, S, bb B 0, HC', HM', HW⟩))))
/-! hours till over -/
set_option maxHeartbeats 4000000 in
set_option maxRecDepth 100000 in
theorem c_till {A : Nat → Nat} {g : Nat} (hs : StR σ 2 A) (hW : WFA A) (hg : g < A 0) {Q : Int32 → St → Prop} (hq : ∀ σ', (∀ q, q < 56 ∨ 64 < q → σ' q = σ q) → Q (wn (fun x => decide (it x A (6 + g) = 23)) 61 0) σ') : V_X0_hoursTillOver 2 (nI g) σ Q := by
  unfold V_X0_hoursTillOver B_X0_hoursTillOver_e
  have h15 := hW.2.2.1
  have h7 := hW.2.1
  refine s_copy hs hW.2.1 hW.1.2.1 (by omega) (fun s1 hs1 f1 => ?_)
  have loop : ∀ d x (s : St), x + d = 61 → StR s 56 (it x A) → (∀ q, q < 56 ∨ 64 < q → s q = σ q) → wn (fun x => decide (it x A (6 + g) = 23)) 61 0 = wn (fun x => decide (it x A (6 + g) = 23)) d x → R_X0_hoursTillOver 2 (nI g) Q 10 [nI x] [] s := by
    intro d
    induction d with
    | zero =>
      intro x s hx hs hf hw
      refine i_X0_hoursTillOver_10 _ _ _ _ _ ?_
      unfold B_X0_hoursTillOver_10
      refine ⟨fun _ => ?_, fun c => absurd (by rw [show (60 : Int32) = nI 60 from rfl, q_lt (by omega) (by omega)]; omega) c⟩
      have := hq s hf
      rw [hw] at this
      exact this
    | succ d ih =>
      intro x s hx hs hf hw
      refine i_X0_hoursTillOver_10 _ _ _ _ _ ?_
      unfold B_X0_hoursTillOver_10
      have e0 : it x A 0 = A 0 := it_lo (by omega) x
      refine ⟨fun c => absurd (by rw [show (60 : Int32) = nI 60 from rfl, q_lt (by omega) (by omega)] at c; exact c) (by omega), fun _ => ⟨vp_in_nI (by omega) (by omega), ?_⟩⟩
      have hb23 := ((Bd_it hW.1 x (by omega)).2.2.2.2.2.1 g (by omega)).2
      rw [nI_clamp (by omega), show s 60 g = nI (it x A (6 + g)) from hs.2.2.2.2.2.2.2.1 g (by omega)]
      by_cases z : it x A (6 + g) = 23
      · rw [z]
        refine fr_f rfl ?_
        have := hq s hf
        rw [hw, wn_t (decide_eq_true z)] at this
        exact this
      · refine fr_t (by rw [show (23 : Int32) = nI 23 from rfl, q_eq (by omega) (by omega)]; exact z) (s_passHour hs (Bd_it hW.1 x (by omega)) (fun s2 hs2 f2 => ?_))
        rw [nI_1]
        rw [← it_succ] at hs2
        exact ih (x + 1) s2 (by omega) hs2 (fun q hq => by rw [f2 q (by omega)]; exact hf q hq) (by rw [hw, wn_f (fun c => z (of_decide_eq_true c))])
  exact loop 61 0 s1 (by omega) hs1 (fun q hq => f1 q (by omega)) rfl
set_option maxHeartbeats 4000000 in
set_option maxRecDepth 100000 in
theorem c_tillAll {A : Nat → Nat} (hs : StR σ 2 A) (hW : WFA A) {Q : Int32 → St → Prop} (hq : ∀ σ', (∀ q, q < 56 ∨ 64 < q → σ' q = σ q) → Q (wn (fun x => decide (cnt (it x A) 23 (A 0) = A 0)) 61 0) σ') : V_X0_hoursTillAllOver 2 σ Q := by
  unfold V_X0_hoursTillAllOver B_X0_hoursTillAllOver_e
  have h15 := hW.2.2.1
  have h7 := hW.2.1
  refine s_copy hs hW.2.1 hW.1.2.1 (by omega) (fun s1 hs1 f1 => ?_)
  have loop : ∀ d x (s : St), x + d = 61 → StR s 56 (it x A) → (∀ q, q < 56 ∨ 64 < q → s q = σ q) → wn (fun x => decide (cnt (it x A) 23 (A 0) = A 0)) 61 0 = wn (fun x => decide (cnt (it x A) 23 (A 0) = A 0)) d x → R_X0_hoursTillAllOver 2 Q 10 [nI x] [] s := by
    intro d
    induction d with
    | zero =>
      intro x s hx hs hf hw
      refine i_X0_hoursTillAllOver_10 _ _ _ _ ?_
      unfold B_X0_hoursTillAllOver_10
      refine ⟨fun _ => ?_, fun c => absurd (by rw [show (60 : Int32) = nI 60 from rfl, q_lt (by omega) (by omega)]; omega) c⟩
      have := hq s hf
      rw [hw] at this
      exact this
    | succ d ih =>
      intro x s hx hs hf hw
      refine i_X0_hoursTillAllOver_10 _ _ _ _ ?_
      unfold B_X0_hoursTillAllOver_10
      have e0 : it x A 0 = A 0 := it_lo (by omega) x
      have hB := Bd_it hW.1 x (by omega)
      have hc := cnt_le (a := it x A) (s := 23) (A 0)
      refine ⟨fun c => absurd (by rw [show (60 : Int32) = nI 60 from rfl, q_lt (by omega) (by omega)] at c; exact c) (by omega), fun _ => s_over hs hB.2.2.2.2.2.2.2.2 (by omega) ?_⟩
      rw [e0, show s 56 8 = nI (A 0) from by rw [hs.1, e0]]
      by_cases z : cnt (it x A) 23 (A 0) = A 0
      · refine fr_f (by rw [z]) ?_
        have := hq s hf
        rw [hw, wn_t (decide_eq_true z)] at this
        exact this
      · refine fr_t (by rw [q_eq (by omega) (by omega)]; exact z) (s_passHour hs hB (fun s2 hs2 f2 => ?_))
        rw [nI_1]
        rw [← it_succ] at hs2
        exact ih (x + 1) s2 (by omega) hs2 (fun q hq => by rw [f2 q (by omega)]; exact hf q hq) (by rw [hw, wn_f (fun c => z (of_decide_eq_true c))])
  exact loop 61 0 s1 (by omega) hs1 (fun q hq => f1 q (by omega)) rfl
set_option maxHeartbeats 4000000 in
set_option maxRecDepth 100000 in
theorem m_till {A : Nat → Nat} (hR : RowN τ 1 181 A) (hW : WFA A) {p : Nat → Bool} (hp : (a1 = -1 ∧ p = fun x => decide (cnt (it x A) 23 (A 0) = A 0)) ∨ (¬ a1 = -1 ∧ ∃ g, g < A 0 ∧ a1 = nI g ∧ p = fun x => decide (it x A (6 + g) = 23))) {Q : Int32 → St → Prop} (hq : ∀ τ', (∀ q, q ≠ 5 → τ' q = τ q) → Q (wn p 61 0) τ') : R_X11_when a1 Q 20 [] [] τ := by
  have h15 := hW.2.2.1
  have h7 := hW.2.1
  refine i_X11_when_20 _ _ _ ?_
  unfold B_X11_when_20
  refine m_layHand hR (fun row hrow => ?_)
  have loop : ∀ d x (row : Nat → Int32), x + d = 61 → (∀ j, j < 43 → row j = nI (it x A j)) → wn p 61 0 = wn p d x → R_X11_when a1 Q 26 [nI x] [] (us τ 5 row) := by
    intro d
    induction d with
    | zero =>
      intro x row hx hr hw
      refine i_X11_when_26 _ _ _ _ ?_
      unfold B_X11_when_26
      refine ⟨fun _ => ?_, fun c => absurd (by rw [show (60 : Int32) = nI 60 from rfl, q_lt (by omega) (by omega)]; omega) c⟩
      have := hq (us τ 5 row) (fun q hq => us_ne hq)
      rw [hw] at this
      exact this
    | succ d ih =>
      intro x row hx hr hw
      have e0 : it x A 0 = A 0 := it_lo (by omega) x
      have hB := Bd_it hW.1 x (by omega)
      have hc := cnt_le (a := it x A) (s := 23) (A 0)
      have hR5 : RowN (us τ 5 row) 5 43 (it x A) := fun j hj => by rw [us_same]; exact hr j hj
      have yes : p x = true → Q (nI x) (us τ 5 row) := fun c => by
        have := hq (us τ 5 row) (fun q hq => us_ne hq)
        rw [hw, wn_t c] at this
        exact this
      have no : ¬ p x = true → R_X11_when a1 Q 72 [nI x] [] (us τ 5 row) := fun c => by
        refine i_X11_when_72 _ _ _ _ ?_
        unfold B_X11_when_72
        refine m_goHour hR5 (by omega) (by omega) hB (fun row' hr' => ?_)
        rw [us_us, nI_1]
        exact ih (x + 1) row' (by omega) (fun j hj => by rw [hr' j hj, it_succ]) (by rw [hw, wn_f c])
      refine i_X11_when_26 _ _ _ _ ?_
      unfold B_X11_when_26
      refine ⟨fun c => absurd (by rw [show (60 : Int32) = nI 60 from rfl, q_lt (by omega) (by omega)] at c; exact c) (by omega), fun _ => ?_⟩
      rcases hp with ⟨z1, hp⟩ | ⟨z1, g, hg, zg, hp⟩
      · refine fr_f z1 (m_manyAt hR5 (by omega) (by omega) (by omega) hB.2.2.2.2.2.2.2.2 (s := 23) (by omega) ?_)
        unfold V_X11_many B_X11_many_e
        rw [us_ne (j := 1) (by omega), show τ 1 0 = nI (A 0) from hR 0 (by omega), e0]
        by_cases z : cnt (it x A) 23 (A 0) = A 0
        · exact fr_f (by rw [z]) (yes (by rw [hp]; exact decide_eq_true z))
        · exact fr_t (by rw [q_eq (by omega) (by omega)]; exact z) (no (by rw [hp]; exact fun c => z (of_decide_eq_true c)))
      · refine fr_t z1 ?_
        have hb23 := (hB.2.2.2.2.2.1 g (by omega)).2
        rw [zg, show (6 : Int32) = nI 6 from rfl, nI_add, nI_clamp (by omega), us_same, hr (6 + g) (by omega)]
        refine ⟨vp_in_nI (by omega) (by omega), ?_⟩
        rw [← zg]
        by_cases z : it x A (6 + g) = 23
        · exact fr_f (by rw [z]; rfl) (yes (by rw [hp]; exact decide_eq_true z))
        · exact fr_t (by rw [show (23 : Int32) = nI 23 from rfl, q_eq (by omega) (by omega)]; exact z) (no (by rw [hp]; exact fun c => z (of_decide_eq_true c)))
  exact loop 61 0 row (by omega) hrow rfl
set_option maxHeartbeats 4000000 in
set_option maxRecDepth 100000 in
theorem p_when (hJ : J σ τ) : V_X10_when a1 σ (fun r σ' => V_X11_when a1 τ (fun r' τ' => r = r' ∧ J σ' τ')) := by
  obtain ⟨S, B, HC, HM, HW⟩ := hJ
  unfold V_X10_when B_X10_when_e V_X11_when B_X11_when_e
  have w0 := HW.1.2.1
  by_cases z : a1 = -1
  · exact fr_f z (c_tillAll HC.1.1 HW.1 (fun σ' f => br_t z (m_till HM.1 HW.1 (Or.inl ⟨z, rfl⟩) (fun τ' g => ⟨rfl, JJ HC HM HW (fun q hq => f q (by omega)) (fun q hq => g q (by omega))⟩))))
  · refine fr_t z ?_
    by_cases k1 : okI a1 0 ((S 0 0 : Int) - 1)
    · obtain ⟨g, hg, e⟩ := okG k1
      refine c_isG1 HC w0 k1 (br_f (by decide) ?_)
      rw [e]
      refine c_till HC.1.1 HW.1 hg (fun σ' f => ?_)
      rw [← e]
      exact br_f z (m_isG1 HM w0 k1 (fr_t (by decide) (m_till HM.1 HW.1 (Or.inr ⟨z, g, hg, e, rfl⟩) (fun τ' g => ⟨rfl, JJ HC HM HW (fun q hq => f q (by omega)) (fun q hq => g q (by omega))⟩))))
    · exact c_isG0 HC w0 k1 (br_t (by decide) (c_badT HC (fun σ' HC' => br_f z (m_isG0 HM w0 k1 (fr_f (by decide) (m_bad HM (fun τ' HM' => ⟨rfl, S, bb B 0, HC', HM', HW⟩)))))))
end O11
