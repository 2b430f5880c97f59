/-! the lady, the winter -/
def hG (m r c : Int32) : Int32 := ((if ((m >>> (r &&& 31)) &&& 1) = 1 then (5 : Int32) else 0) - (r / 3)) - (if r = c then (3 : Int32) else 0)
def dG (r c : Int32) : Int32 := (if r = c then (3 : Int32) else 0) - (c / 3)
def rs (m r c : Int32) : Nat → Nat → Bool
  | 0, _ => true
  | d + 1, k => if hG m r c < hG m (nI k) c then false else if dG r c < dG r (nI k) then false else rs m r c d (k + 1)
def ld (m w : Int32) : Nat → Nat → Int32 → Int32
  | 0, _, c => if w = -1 then c else -5
  | d + 1, x, c => if rs m (nI x / 10) (nI x - nI x / 10 * 10) 10 0 = true then (if c = w then nI x else ld m w d (x + 1) (c + 1)) else ld m w d (x + 1) c
section O12
variable {σ τ : St} {a1 a2 a3 a4 : Int32}
theorem ltle {x y : Int32} : ¬ x < y ↔ y ≤ x := by rw [Int32.le_iff_toInt_le, Int32.lt_iff_toInt_lt]; omega
theorem c_lady {r c m : Int32} {Q : Int32 → St → Prop} (hq : Q (hG m r c) σ) : V_X10_ladyGets r c m σ Q := by
  unfold V_X10_ladyGets B_X10_ladyGets_e
  have k : ∀ t, t = (if ((m >>> (r &&& 31)) &&& 1) = 1 then (5 : Int32) else 0) → R_X10_ladyGets r c m Q 14 [t] [] σ := fun t et => by
    refine i_X10_ladyGets_14 _ _ _ _ _ _ ?_
    unfold B_X10_ladyGets_14
    unfold hG at hq
    rw [← et] at hq
    by_cases e : r = c
    · rw [if_pos e] at hq; exact fr_f e hq
    · rw [if_neg e] at hq; exact fr_t e hq
  by_cases e : ((m >>> (r &&& 31)) &&& 1) = 1
  · exact fr_f e (k 5 (by rw [if_pos e]))
  · exact fr_t e (k 0 (by rw [if_neg e]))
theorem m_her {r c m : Int32} {Q : Int32 → St → Prop} (hq : Q (hG m r c) σ) : V_X11_toHer m r c σ Q := by
  unfold V_X11_toHer B_X11_toHer_e V_X11_has B_X11_has_e
  have k : ∀ t, t = (if ((m >>> (r &&& 31)) &&& 1) = 1 then (5 : Int32) else 0) → R_X11_toHer m r c Q 13 [t] [] σ := fun t et => by
    refine i_X11_toHer_13 _ _ _ _ _ _ ?_
    unfold B_X11_toHer_13
    unfold hG at hq
    rw [← et] at hq
    by_cases e : r = c
    · rw [if_pos e] at hq; exact fr_f e hq
    · rw [if_neg e] at hq; exact fr_t e hq
  by_cases e : ((m >>> (r &&& 31)) &&& 1) = 1
  · exact fr_f e (br_f (by decide) (k 5 (by rw [if_pos e])))
  · exact fr_t e (br_t rfl (k 0 (by rw [if_neg e])))
theorem c_dG {r c : Int32} {Q : Int32 → St → Prop} (hq : Q (dG r c) σ) : V_X10_constableGets r c σ Q := by
  unfold V_X10_constableGets B_X10_constableGets_e
  unfold dG at hq
  by_cases e : r = c
  · rw [if_pos e] at hq; exact fr_f e hq
  · rw [if_neg e] at hq; exact fr_t e hq
theorem m_dG {r c : Int32} {Q : Int32 → St → Prop} (hq : Q (dG r c) σ) : V_X11_toHim r c σ Q := by
  unfold V_X11_toHim B_X11_toHim_e
  unfold dG at hq
  by_cases e : r = c
  · rw [if_pos e] at hq; exact fr_f e hq
  · rw [if_neg e] at hq; exact fr_t e hq
set_option maxHeartbeats 4000000 in
set_option maxRecDepth 100000 in
theorem c_rests {r c m : Int32} {Q : Int32 → St → Prop} (h1 : rs m r c 10 0 = true → Q 1 σ) (h0 : ¬ rs m r c 10 0 = true → Q 0 σ) : V_X10_rests r c m σ Q := by
  unfold V_X10_rests B_X10_rests_e
  have loop : ∀ d k, k + d = 10 → rs m r c 10 0 = rs m r c d k → R_X10_rests r c m Q 2 [nI k] [] σ := by
    intro d
    induction d with
    | zero =>
      intro k hk hw
      refine i_X10_rests_2 _ _ _ _ _ _ ?_
      unfold B_X10_rests_2
      exact ⟨fun _ => h1 hw, fun c => absurd (by rw [show (10 : Int32) = nI 10 from rfl, q_le (by omega) (by omega)]; omega) c⟩
    | succ d ih =>
      intro k hk hw
      refine i_X10_rests_2 _ _ _ _ _ _ ?_
      unfold B_X10_rests_2
      refine ⟨fun c => absurd (by rw [show (10 : Int32) = nI 10 from rfl, q_le (by omega) (by omega)] at c; exact c) (by omega), fun _ => c_lady (c_lady ?_)⟩
      have hw2 : rs m r c (d + 1) k = if hG m r c < hG m (nI k) c then false else if dG r c < dG r (nI k) then false else rs m r c d (k + 1) := rfl
      by_cases e : hG m r c < hG m (nI k) c
      · exact br_t e (h0 (by rw [hw, hw2, if_pos e]; decide))
      · refine br_f e (c_dG (c_dG ?_))
        by_cases f : dG r c < dG r (nI k)
        · exact br_f (fun c => ltle.mpr c f) (h0 (by rw [hw, hw2, if_neg e, if_pos f]; decide))
        · refine br_t (ltle.mp f) ?_
          rw [nI_1]
          exact ih (k + 1) (by omega) (by rw [hw, hw2, if_neg e, if_neg f])
  exact loop 10 0 rfl rfl
set_option maxHeartbeats 4000000 in
set_option maxRecDepth 100000 in
theorem m_rests {r c m : Int32} {Q : Int32 → St → Prop} (h1 : rs m r c 10 0 = true → Q 1 σ) (h0 : ¬ rs m r c 10 0 = true → Q 0 σ) : V_X11_rests m r c σ Q := by
  unfold V_X11_rests B_X11_rests_e
  have bad : ∀ d k, k + d = 10 → ¬ rs m r c 10 0 = true → R_X11_rests m r c Q 5 [0, nI k] [] σ := by
    intro d
    induction d with
    | zero =>
      intro k hk hw
      refine i_X11_rests_5 _ _ _ _ _ _ _ ?_
      unfold B_X11_rests_5
      exact ⟨fun _ => ⟨Or.inl rfl, h0 hw⟩, fun c => absurd (by rw [show (10 : Int32) = nI 10 from rfl, q_le (by omega) (by omega)]; omega) c⟩
    | succ d ih =>
      intro k hk hw
      refine i_X11_rests_5 _ _ _ _ _ _ _ ?_
      unfold B_X11_rests_5
      refine ⟨fun c => absurd (by rw [show (10 : Int32) = nI 10 from rfl, q_le (by omega) (by omega)] at c; exact c) (by omega), fun _ => br_t rfl ?_⟩
      rw [nI_1]
      exact ih (k + 1) (by omega) hw
  have loop : ∀ d k, k + d = 10 → rs m r c 10 0 = rs m r c d k → R_X11_rests m r c Q 5 [1, nI k] [] σ := by
    intro d
    induction d with
    | zero =>
      intro k hk hw
      refine i_X11_rests_5 _ _ _ _ _ _ _ ?_
      unfold B_X11_rests_5
      exact ⟨fun _ => ⟨Or.inr rfl, h1 hw⟩, fun c => absurd (by rw [show (10 : Int32) = nI 10 from rfl, q_le (by omega) (by omega)]; omega) c⟩
    | succ d ih =>
      intro k hk hw
      refine i_X11_rests_5 _ _ _ _ _ _ _ ?_
      unfold B_X11_rests_5
      refine ⟨fun c => absurd (by rw [show (10 : Int32) = nI 10 from rfl, q_le (by omega) (by omega)] at c; exact c) (by omega), fun _ => br_f (by decide) (m_her (m_her ?_))⟩
      have hw2 : rs m r c (d + 1) k = if hG m r c < hG m (nI k) c then false else if dG r c < dG r (nI k) then false else rs m r c d (k + 1) := rfl
      rw [nI_1]
      by_cases e : hG m r c < hG m (nI k) c
      · exact br_t e (bad d (k + 1) (by omega) (by rw [hw, hw2, if_pos e]; decide))
      · refine br_f e (m_dG (m_dG ?_))
        by_cases f : dG r c < dG r (nI k)
        · exact br_t f (bad d (k + 1) (by omega) (by rw [hw, hw2, if_neg e, if_pos f]; decide))
        · exact br_f f (ih (k + 1) (by omega) (by rw [hw, hw2, if_neg e, if_neg f]))
  exact loop 10 0 rfl rfl
set_option maxHeartbeats 4000000 in
set_option maxRecDepth 100000 in
theorem c_visited {A : Nat → Nat} {g : Nat} (hs : StR σ 2 A) (hW : WFA A) (hg : g < A 0) {Q : Int32 → St → Prop} (hq : ∀ σ', (∀ q, q < 56 ∨ 64 < q → σ' q = σ q) → Q (vs A g 31) σ') : V_X0_visited 2 (nI g) σ Q := by
  unfold V_X0_visited B_X0_visited_e
  have h15 := hW.2.2.1
  have h7 := hW.2.1
  refine s_copy hs hW.2.1 hW.1.2.1 (by omega) (fun s1 hs1 f1 => ?_)
  have loop : ∀ d x (s : St), x + d = 31 → StR s 56 (it x A) → (∀ q, q < 56 ∨ 64 < q → s q = σ q) → R_X0_visited 2 (nI g) Q 13 [vs A g x, nI x] [] s := by
    intro d
    induction d with
    | zero =>
      intro x s hx hs hf
      refine i_X0_visited_13 _ _ _ _ _ _ ?_
      unfold B_X0_visited_13
      refine ⟨fun _ => ?_, fun c => absurd (by rw [show (30 : Int32) = nI 30 from rfl, q_lt (by omega) (by omega)]; omega) c⟩
      rw [(by omega : x = 31)]
      exact hq s hf
    | succ d ih =>
      intro x s hx hs hf
      refine i_X0_visited_13 _ _ _ _ _ _ ?_
      unfold B_X0_visited_13
      have e0 : it x A 0 = A 0 := it_lo (by omega) x
      refine ⟨fun c => absurd (by rw [show (30 : Int32) = nI 30 from rfl, q_lt (by omega) (by omega)] at c; exact c) (by omega), fun _ => ⟨vp_in_nI (by omega) (by omega), fun v1 ev1 => ?_⟩⟩
      rw [nI_clamp (by omega), show s 60 g = nI (it x A (6 + g)) from hs.2.2.2.2.2.2.2.1 g (by omega)] at ev1
      subst ev1
      refine s_passHour hs (Bd_it hW.1 x (by omega)) (fun s2 hs2 f2 => ?_)
      rw [nI_1]
      rw [← it_succ] at hs2
      exact ih (x + 1) s2 (by omega) hs2 (fun q hq => by rw [f2 q (by omega)]; exact hf q hq)
  exact loop 31 0 s1 (by omega) hs1 (fun q hq => f1 q (by omega))
set_option maxHeartbeats 4000000 in
set_option maxRecDepth 100000 in
theorem m_visited {A : Nat → Nat} {g : Nat} (hR : RowN τ 1 181 A) (hW : WFA A) (hg : g < A 0) {Q : Int32 → St → Prop} (hq : ∀ τ', (∀ q, q ≠ 5 → τ' q = τ q) → Q (vs A g 31) τ') : V_X11_spikesOf (nI g) τ Q := by
  unfold V_X11_spikesOf B_X11_spikesOf_e
  have h15 := hW.2.2.1
  have h7 := hW.2.1
  refine m_layHand hR (fun row hrow => ?_)
  have loop : ∀ d x (row : Nat → Int32), x + d = 31 → (∀ j, j < 43 → row j = nI (it x A j)) → R_X11_spikesOf (nI g) Q 8 [vs A g x, nI x] [] (us τ 5 row) := by
    intro d
    induction d with
    | zero =>
      intro x row hx hr
      refine i_X11_spikesOf_8 _ _ _ _ _ ?_
      unfold B_X11_spikesOf_8
      refine ⟨fun _ => ?_, fun c => absurd (by rw [show (30 : Int32) = nI 30 from rfl, q_lt (by omega) (by omega)]; omega) c⟩
      rw [(by omega : x = 31)]
      exact hq _ (fun q hq => us_ne hq)
    | succ d ih =>
      intro x row hx hr
      have hB := Bd_it hW.1 x (by omega)
      refine i_X11_spikesOf_8 _ _ _ _ _ ?_
      unfold B_X11_spikesOf_8
      rw [show (6 : Int32) = nI 6 from rfl, nI_add, nI_clamp (by omega), us_same, hr (6 + g) (by omega)]
      refine ⟨fun c => absurd (by rw [show (30 : Int32) = nI 30 from rfl, q_lt (by omega) (by omega)] at c; exact c) (by omega), fun _ => ⟨vp_in_nI (by omega) (by omega), fun v1 ev1 => ?_⟩⟩
      subst ev1
      refine m_goHour (a := it x A) (fun j hj => by rw [us_same]; exact hr j hj) (by omega) (by omega) hB (fun row' hr' => ?_)
      rw [us_us, nI_1]
      exact ih (x + 1) row' (by omega) (fun j hj => by rw [hr' j hj, it_succ])
  exact loop 31 0 row (by omega) hrow
set_option maxHeartbeats 4000000 in
set_option maxRecDepth 100000 in
theorem p_lady (hJ : J σ τ) : V_X10_lady a1 a2 σ (fun r σ' => V_X11_lady a1 a2 τ (fun r' τ' => r = r' ∧ J σ' τ')) := by
  obtain ⟨S, B, HC, HM, HW⟩ := hJ
  unfold V_X10_lady B_X10_lady_e
  have w0 := HW.1.2.1
  by_cases k1 : okI a1 0 ((S 0 0 : Int) - 1)
  · refine c_isG1 HC w0 k1 (br_f (by decide) ?_)
    obtain ⟨g, hg, rfl⟩ := okG k1
    by_cases k2 : (-1 : Int32) ≤ a2
    · refine br_t k2 (c_visited HC.1.1 HW.1 hg (fun σ' f => ?_))
      have mm : ∀ {Qm : Int32 → St → Prop}, (∀ τ', (∀ q, q ≠ 5 → τ' q = τ q) → Qm (ld (vs (S 0) g 31) a2 100 0 0) τ') → V_X11_lady (nI g) a2 τ Qm := fun {Qm} hq => by
        unfold V_X11_lady B_X11_lady_e
        refine m_isG1 HM w0 k1 (br_f (by decide) (br_t k2 (m_visited HM.1 HW.1 hg (fun τ' h => ?_))))
        have loop : ∀ d x (c : Int32), x + d = 100 → ld (vs (S 0) g 31) a2 100 0 0 = ld (vs (S 0) g 31) a2 d x c → R_X11_lady (nI g) a2 Qm 32 [vs (S 0) g 31, c, nI x] [] τ' := by
          intro d
          induction d with
          | zero =>
            intro x c hx hw
            refine i_X11_lady_32 _ _ _ _ _ _ _ ?_
            unfold B_X11_lady_32
            refine ⟨fun _ => ?_, fun c => absurd (by rw [show (100 : Int32) = nI 100 from rfl, q_le (by omega) (by omega)]; omega) c⟩
            have := hq τ' h
            rw [hw] at this
            unfold ld at this
            by_cases e : a2 = -1
            · rw [if_pos e] at this; exact fr_f e this
            · rw [if_neg e] at this; exact fr_t e this
          | succ d ih =>
            intro x c hx hw
            refine i_X11_lady_32 _ _ _ _ _ _ _ ?_
            unfold B_X11_lady_32
            have hw2 : ld (vs (S 0) g 31) a2 (d + 1) x c = if rs (vs (S 0) g 31) (nI x / 10) (nI x - nI x / 10 * 10) 10 0 = true then (if c = a2 then nI x else ld (vs (S 0) g 31) a2 d (x + 1) (c + 1)) else ld (vs (S 0) g 31) a2 d (x + 1) c := rfl
            refine ⟨fun c => absurd (by rw [show (100 : Int32) = nI 100 from rfl, q_le (by omega) (by omega)] at c; exact c) (by omega), fun _ => m_rests (fun e => br_f (by decide) ?_) (fun e => br_t rfl ?_)⟩
            · by_cases z : c = a2
              · refine fr_f z ?_
                have := hq τ' h
                rw [hw, hw2, if_pos e, if_pos z] at this
                exact this
              · refine fr_t z ?_
                rw [nI_1]
                exact ih (x + 1) (c + 1) (by omega) (by rw [hw, hw2, if_pos e, if_neg z])
            · rw [nI_1]
              exact ih (x + 1) c (by omega) (by rw [hw, hw2, if_neg e])
        exact loop 100 0 0 rfl rfl
      have fin : ∀ v, v = ld (vs (S 0) g 31) a2 100 0 0 → V_X11_lady (nI g) a2 τ (fun r' τ' => v = r' ∧ J σ' τ') := fun v ev => mm (fun τ' h => ⟨ev, JJ HC HM HW (fun q hq => f q (by omega)) (fun q hq => h q (by omega))⟩)
      have loop : ∀ d x (c : Int32), x + d = 100 → ld (vs (S 0) g 31) a2 100 0 0 = ld (vs (S 0) g 31) a2 d x c → R_X10_lady (nI g) a2 (fun r σ' => V_X11_lady (nI g) a2 τ (fun r' τ' => r = r' ∧ J σ' τ')) 40 [vs (S 0) g 31, c, nI x] [] σ' := by
        intro d
        induction d with
        | zero =>
          intro x c hx hw
          refine i_X10_lady_40 _ _ _ _ _ _ _ ?_
          unfold B_X10_lady_40
          refine ⟨fun _ => ?_, fun c => absurd (by rw [show (100 : Int32) = nI 100 from rfl, q_le (by omega) (by omega)]; omega) c⟩
          unfold ld at hw
          by_cases e : a2 = -1
          · refine fr_f e (fin _ ?_)
            unfold ld
            rw [hw, if_pos e]
          · refine fr_t e (fin _ ?_)
            unfold ld
            rw [hw, if_neg e]
        | succ d ih =>
          intro x c hx hw
          refine i_X10_lady_40 _ _ _ _ _ _ _ ?_
          unfold B_X10_lady_40
          have hw2 : ld (vs (S 0) g 31) a2 (d + 1) x c = if rs (vs (S 0) g 31) (nI x / 10) (nI x - nI x / 10 * 10) 10 0 = true then (if c = a2 then nI x else ld (vs (S 0) g 31) a2 d (x + 1) (c + 1)) else ld (vs (S 0) g 31) a2 d (x + 1) c := rfl
          refine ⟨fun c => absurd (by rw [show (100 : Int32) = nI 100 from rfl, q_le (by omega) (by omega)] at c; exact c) (by omega), fun _ => c_rests (fun e => br_f (by decide) ?_) (fun e => br_t rfl ?_)⟩
          · by_cases z : c = a2
            · refine fr_f z (fin _ ?_)
              rw [hw, hw2, if_pos e, if_pos z]
            · refine fr_t z ?_
              rw [nI_1]
              exact ih (x + 1) (c + 1) (by omega) (by rw [hw, hw2, if_pos e, if_neg z])
          · rw [nI_1]
            exact ih (x + 1) c (by omega) (by rw [hw, hw2, if_neg e])
      exact loop 100 0 0 rfl rfl
    · refine br_f k2 (c_badT HC (fun σ' HC' => ?_))
      unfold V_X11_lady B_X11_lady_e
      exact m_isG1 HM w0 k1 (br_f (by decide) (br_f k2 (i_X11_lady_13 _ _ _ _ (m_bad HM (fun τ' HM' => ⟨rfl, S, bb B 0, HC', HM', HW⟩)))))
  · refine c_isG0 HC w0 k1 (br_t (by decide) (c_badT HC (fun σ' HC' => ?_)))
    unfold V_X11_lady B_X11_lady_e
    exact m_isG0 HM w0 k1 (br_t (by decide) (i_X11_lady_13 _ _ _ _ (m_bad HM (fun τ' HM' => ⟨rfl, S, bb B 0, HC', HM', HW⟩))))
end O12
