/-! a glove dropped: the marks are of no weight in an hour -/
def Em (a b : Nat → Nat) : Prop := ∀ i, (i < 30 ∨ 37 ≤ i) → a i = b i
theorem Em_bh {a b : Nat → Nat} (E : Em a b) (s : Nat) : bh a s = bh b s := by
  unfold bh
  rw [E 1 (by omega), E 40 (by omega), E 41 (by omega), E 42 (by omega)]
theorem Em_cnt {a b : Nat → Nat} (E : Em a b) (s : Nat) : ∀ n, n ≤ 24 → cnt a s n = cnt b s n
  | 0, _ => rfl
  | n + 1, h => by
    unfold cnt
    rw [Em_cnt E s n (by omega), E (6 + n) (by omega)]
theorem Em_lets {a b : Nat → Nat} (E : Em a b) (h0 : a 0 ≤ 8) (k : Nat) : lets a k = lets b k := by
  unfold lets
  rw [← E 1 (by omega), ← E 14 (by omega), ← E (40 + k) (by omega), ← E 0 (by omega), ← E (37 + k) (by omega), ← E 15 (by omega), Em_cnt E _ (a 0) (by omega)]
theorem Em_gon {a b : Nat → Nat} (E : Em a b) {g : Nat} (hg : g < 8) : gon a g = gon b g := by
  unfold gon
  have := Nat.mod_lt (a 15) (show 0 < 6 by omega)
  rw [← E (22 + g) (by omega), ← E 15 (by omega), ← E (16 + a 15 % 6) (by omega)]
theorem Em_wk {a b : Nat → Nat} (E : Em a b) : ∀ n s, wk a n s = wk b n s
  | 0, _ => rfl
  | n + 1, s => by
    unfold wk
    rw [Em_bh E s, Em_wk E n (s + 1)]
theorem Em_nsp {a b : Nat → Nat} (E : Em a b) (h0 : a 0 ≤ 8) {g : Nat} (hg : g < 8) : nsp a g = nsp b g := by
  unfold nsp
  rw [← E (6 + g) (by omega), Em_bh E, Em_gon E hg, Em_wk E, Em_cnt E _ g (by omega), Em_lets E h0]
theorem Em_hr {a b : Nat → Nat} (E : Em a b) (h0 : a 0 ≤ 8) : Em (hr a) (hr b) := fun i hi => by
  unfold hr
  rw [← E 0 (by omega), ← E 15 (by omega), ← E i hi]
  by_cases c : 6 ≤ i ∧ i < 6 + a 0
  · rw [if_pos c, if_pos c, Em_nsp E h0 (by omega)]
  · rw [if_neg c, if_neg c]
theorem Em_it {a b : Nat → Nat} (E : Em a b) (h0 : a 0 ≤ 8) : ∀ n, Em (it n a) (it n b)
  | 0 => E
  | n + 1 => by
    rw [it_succ, it_succ]
    exact Em_hr (Em_it E h0 n) (by rw [it_lo (by omega)]; exact h0)
theorem Em_ag {a : Nat → Nat} {k m m' s : Nat} : Em (ag a k m s) (ag a k m' s) := fun i hi => by
  unfold ag
  by_cases h : a 0 < 7
  · rw [if_pos h, if_pos h]
    unfold upN
    split
    · rfl
    · split
      · rfl
      · split
        · omega
        · rfl
  · rw [if_neg h, if_neg h]
def mt (A : Nat → Nat) (k g m : Nat) : Nat → Int32
  | 0 => 0
  | x + 1 => if it m (ag A k 1 x) (6 + A 0) = it m (ag A k 1 x) (6 + g) then mt A k g m x ||| ((1 : Int32) <<< (nI x &&& 31)) else mt A k g m x
section O18
variable {σ τ : St} {a1 a2 a3 a4 : Int32}
set_option maxHeartbeats 4000000 in
set_option maxRecDepth 100000 in
theorem c_drop {A : Nat → Nat} {k g m : Nat} (hs : StR σ 2 A) (hW : WFA A) (hk : k ≤ 5) (hg : g < A 0) (hm : m ≤ 30) {Q : Int32 → St → Prop} (hq : ∀ σ', (∀ q, q < 56 ∨ 64 < q → σ' q = σ q) → Q (mt A k g m 23) σ') : V_X0_meetings 2 (nI k) (nI g) (nI m) σ Q := by
  unfold V_X0_meetings B_X0_meetings_e
  have h15 := hW.2.2.1
  have h7 := hW.2.1
  have loop : ∀ d x (s : St), x + d = 23 → (∀ q, q < 56 ∨ 64 < q → s q = σ q) → R_X0_meetings 2 (nI k) (nI g) (nI m) Q 6 [mt A k g m x, nI x] [] s := by
    intro d
    induction d with
    | zero =>
      intro x s hx hf
      refine i_X0_meetings_6 _ _ _ _ _ _ _ _ ?_
      unfold B_X0_meetings_6
      refine ⟨fun _ => ?_, fun c => absurd (by rw [show (23 : Int32) = nI 23 from rfl, q_le (by omega) (by omega)]; omega) c⟩
      rw [(by omega : x = 23)]
      exact hq s hf
    | succ d ih =>
      intro x s hx hf
      refine i_X0_meetings_6 _ _ _ _ _ _ _ _ ?_
      unfold B_X0_meetings_6
      refine ⟨fun c => absurd (by rw [show (23 : Int32) = nI 23 from rfl, q_le (by omega) (by omega)] at c; exact c) (by omega), fun _ => ?_⟩
      have hB := Bd_ag (k := k) (m := 1) (s := x) hW.1 h7 hk (by omega) (by omega)
      have e15 : ag A k 1 x 15 = A 15 := ag_o (by omega) (by omega) (by omega) (by omega)
      have e0 : it m (ag A k 1 x) 0 = A 0 + 1 := by rw [it_lo (by omega), ag_0]
      have hB2 := Bd_it hB m (by omega)
      have q1 := (hB2.2.2.2.2.2.1 (A 0) (by omega)).2
      have q2 := (hB2.2.2.2.2.2.1 g (by omega)).2
      refine s_copy (hs.congr (fun q h1 h2 => hf q (by omega))) h7 hW.1.2.1 (by omega) (fun s1 hs1 f1 => s_addGlove (m := 1) hs1 h7 (fun s2 hs2 f2 => s_pass hs2 hB (by omega) (fun s3 hs3 f3 => ?_)))
      have fr : ∀ q, q < 56 ∨ 64 < q → s3 q = σ q := fun q hq => by rw [f3 q (by omega), f2 q (by omega), f1 q (by omega), hf q hq]
      rw [hs3.1, e0, show nI (A 0 + 1) - 1 = nI (A 0) from nI_pred _, nI_clamp (by omega), nI_clamp (by omega), show s3 60 (A 0) = nI (it m (ag A k 1 x) (6 + A 0)) from hs3.2.2.2.2.2.2.2.1 _ (by omega), show s3 60 g = nI (it m (ag A k 1 x) (6 + g)) from hs3.2.2.2.2.2.2.2.1 _ (by omega)]
      refine ⟨vp_in_nI (by omega) (by omega), vp_in_nI (by omega) (by omega), ?_⟩
      have em : mt A k g m (x + 1) = if it m (ag A k 1 x) (6 + A 0) = it m (ag A k 1 x) (6 + g) then mt A k g m x ||| ((1 : Int32) <<< (nI x &&& 31)) else mt A k g m x := rfl
      rw [nI_1]
      by_cases z : it m (ag A k 1 x) (6 + A 0) = it m (ag A k 1 x) (6 + g)
      · rw [if_pos z] at em
        refine fr_f (by rw [z]) (fun v4 e4 => ?_)
        rw [e4, ← em]
        exact ih (x + 1) s3 (by omega) fr
      · rw [if_neg z] at em
        refine fr_t (by rw [q_eq (by omega) (by omega)]; exact z) ?_
        rw [← em]
        exact ih (x + 1) s3 (by omega) fr
  exact loop 23 0 σ (by omega) (fun _ _ => rfl)
set_option maxHeartbeats 4000000 in
set_option maxRecDepth 100000 in
theorem m_drop {A : Nat → Nat} {k g m : Nat} (hR : RowN τ 1 181 A) (hW : WFA A) (hk : k ≤ 5) (hg : g < A 0) (hm : m ≤ 30) {Q : Int32 → St → Prop} (hq : ∀ τ', (∀ q, q ≠ 5 → τ' q = τ q) → Q (mt A k g m 23) τ') : R_X11_drop (nI k) (nI g) (nI m) Q 40 [0, 0] [] τ := by
  have h15 := hW.2.2.1
  have h7 := hW.2.1
  have hmk := hW.1.2.2.2.2.2.2.2.2
  have loop : ∀ d x (s : St), x + d = 23 → (∀ q, q ≠ 5 → s q = τ q) → R_X11_drop (nI k) (nI g) (nI m) Q 40 [mt A k g m x, nI x] [] s := by
    intro d
    induction d with
    | zero =>
      intro x s hx hf
      refine i_X11_drop_40 _ _ _ _ _ _ _ ?_
      unfold B_X11_drop_40
      refine ⟨fun _ => ?_, fun c => absurd (by rw [show (23 : Int32) = nI 23 from rfl, q_le (by omega) (by omega)]; omega) c⟩
      rw [(by omega : x = 23)]
      exact hq s hf
    | succ d ih =>
      intro x s hx hf
      refine i_X11_drop_40 _ _ _ _ _ _ _ ?_
      unfold B_X11_drop_40 V_X11_many B_X11_many_e
      refine ⟨fun c => absurd (by rw [show (23 : Int32) = nI 23 from rfl, q_le (by omega) (by omega)] at c; exact c) (by omega), fun _ => ?_⟩
      have hRs : RowN s 1 181 A := fun j hj => by rw [hf 1 (by omega)]; exact hR j hj
      refine m_layHand hRs (fun row hrow => ?_)
      have eA0 : ∀ r : Nat → Int32, (us s 5 r) 1 0 = nI (A 0) := fun r => by rw [us_ne (by omega)]; exact hRs 0 (by omega)
      have i6 : ∀ j, j ≤ 7 → vp_in (6 + nI j) 43 := fun j hj => by rw [show (6 : Int32) = nI 6 from rfl, nI_add]; exact vp_in_nI (by omega) (by omega)
      have e6 : ∀ j, j ≤ 7 → (6 + nI j).toNatClampNeg = 6 + j := fun j hj => by rw [show (6 : Int32) = nI 6 from rfl, nI_add, nI_clamp (by omega)]
      have i22 : vp_in (22 + nI (A 0)) 43 := by rw [show (22 : Int32) = nI 22 from rfl, nI_add]; exact vp_in_nI (by omega) (by omega)
      have e22 : (22 + nI (A 0)).toNatClampNeg = 22 + A 0 := by rw [show (22 : Int32) = nI 22 from rfl, nI_add, nI_clamp (by omega)]
      rw [eA0 row]
      try dsimp only
      rw [e6 _ h7]
      refine ⟨i6 _ h7, fun s3 e3 => ?_⟩
      rw [us_same, us_us] at e3
      subst e3
      rw [eA0]
      try dsimp only
      rw [e22]
      refine ⟨i22, fun s5 e5 s6 e6' => ?_⟩
      rw [us_same, us_us] at e5
      subst e5
      rw [us_same, us_us, pk_un (by omega), pk_un (by omega), hrow 0 (by omega), nI_1] at e6'
      subst e6'
      have hB := Bd_ag (k := k) (m := 1) (s := x) hW.1 h7 hk (by omega) (by omega)
      have hsm := hW.sm
      have hE : Em (ag A k 1 x) (ag A k (A (30 + A 0)) x) := Em_ag
      have hB' : Bd (ag A k (A (30 + A 0)) x) := by
        obtain ⟨b0, b1, b14, b15, bw, bg, bc, bd, bs⟩ := id hB
        have o := fun i hi => (hE i hi).symm
        refine ⟨by rw [o _ (by omega)]; exact b0, by rw [o _ (by omega)]; exact b1, by rw [o _ (by omega)]; exact b14, by rw [o _ (by omega)]; exact b15, fun i hi => by rw [o _ (by omega)]; exact bw i hi, fun g hg => ?_, fun j hj => ?_, fun i j hi hj => ?_, fun i => ?_⟩
        · rw [o _ (by omega)] at hg
          rw [o _ (by omega), o _ (by omega)]; exact bg g hg
        · rw [o _ (by omega)] at hj
          rw [o _ (by omega), o _ (by omega)]; exact bc j hj
        · rw [o _ (by omega)] at hi hj
          rw [o _ (by omega), o _ (by omega)]; exact bd i j hi hj
        · by_cases z : i < 30 ∨ 37 ≤ i
          · rw [o _ z]; exact bs i
          · by_cases y : i = 30 + A 0 ∧ A 0 < 7
            · rw [y.1, ag_mk y.2]; exact hsm _
            · rw [ag_o (by omega) (by omega) (by omega) (by omega)]; exact hsm _
      have e15 : ag A k (A (30 + A 0)) x 15 = A 15 := ag_o (by omega) (by omega) (by omega) (by omega)
      refine m_goAhead (a := ag A k (A (30 + A 0)) x) (fun j hj => ?_) hB' (by omega) (fun row2 hrow2 => ?_)
      · rw [us_same]
        unfold upd ag
        by_cases z0 : j = 0
        · subst z0; rw [if_pos rfl, upN_s]
        · rw [if_neg z0, upN_n z0]
          by_cases z1 : j = 22 + A 0
          · subst z1
            rw [if_pos rfl, upN_n (by omega)]
            by_cases h : A 0 < 7
            · rw [if_pos h, upN_n (by omega), upN_s]
            · rw [if_neg h, upN_s]
          · rw [if_neg z1]
            by_cases z2 : j = 6 + A 0
            · subst z2; rw [if_pos rfl, upN_s]
            · rw [if_neg z2, upN_n z2, hrow j hj]
              by_cases h : A 0 < 7
              · rw [if_pos h]
                by_cases z3 : j = 30 + A 0
                · subst z3; rw [upN_s]
                · rw [upN_n z3, upN_n z1]
              · rw [if_neg h, upN_n z1]
      rw [us_us, eA0]
      try dsimp only
      rw [e6 _ h7, e6 _ (by omega), us_same, hrow2 (6 + A 0) (by omega), hrow2 (6 + g) (by omega)]
      have hEi := Em_it hE (by rw [ag_0]; omega) m
      rw [← hEi (6 + A 0) (by omega), ← hEi (6 + g) (by omega)]
      have e0 : it m (ag A k 1 x) 0 = A 0 + 1 := by rw [it_lo (by omega), ag_0]
      have e15' : ag A k 1 x 15 = A 15 := ag_o (by omega) (by omega) (by omega) (by omega)
      have hB2 := Bd_it hB m (by omega)
      have q1 := (hB2.2.2.2.2.2.1 (A 0) (by omega)).2
      have q2 := (hB2.2.2.2.2.2.1 g (by omega)).2
      refine ⟨i6 _ h7, i6 _ (by omega), ?_⟩
      have fr : ∀ q, q ≠ 5 → (us s 5 row2) q = τ q := fun q hq => by rw [us_ne hq, hf q hq]
      have em : mt A k g m (x + 1) = if it m (ag A k 1 x) (6 + A 0) = it m (ag A k 1 x) (6 + g) then mt A k g m x ||| ((1 : Int32) <<< (nI x &&& 31)) else mt A k g m x := rfl
      rw [nI_1]
      by_cases z : it m (ag A k 1 x) (6 + A 0) = it m (ag A k 1 x) (6 + g)
      · rw [if_pos z] at em
        refine fr_f (by rw [z]) (fun v4 e4 => ?_)
        rw [e4, ← em]
        exact ih (x + 1) _ (by omega) fr
      · rw [if_neg z] at em
        refine fr_t (by rw [q_eq (by omega) (by omega)]; exact z) ?_
        rw [Int32.or_zero, ← em]
        exact ih (x + 1) _ (by omega) fr
  exact loop 23 0 τ (by omega) (fun _ _ => rfl)
set_option maxHeartbeats 4000000 in
set_option maxRecDepth 100000 in
theorem p_drop (hJ : J σ τ) : V_X10_drop a1 a2 a3 σ (fun r σ' => V_X11_drop a1 a2 a3 τ (fun r' τ' => r = r' ∧ J σ' τ')) := by
  obtain ⟨S, B, HC, HM, HW⟩ := hJ
  unfold V_X10_drop B_X10_drop_e V_X11_drop B_X11_drop_e V_X10_isKind B_X10_isKind_e V_X11_isKind B_X11_isKind_e
  have w0 := HW.1.2.1
  have mb : ∀ {σ' : St}, CR σ' S (bb B 0) → R_X11_drop a1 a2 a3 (fun r' τ' => -2 = r' ∧ J σ' τ') 27 [] [] τ := fun {σ'} HC' => i_X11_drop_27 _ _ _ _ _ (m_bad HM (fun τ' HM' => ⟨rfl, S, bb B 0, HC', HM', HW⟩))
  by_cases k1 : okI a1 0 5
  · refine cw1 k1 rfl rfl (br_f (by decide) ?_)
    by_cases k2 : okI a2 0 ((S 0 0 : Int) - 1)
    · refine c_isG1 HC w0 k2 (br_f (by decide) ?_)
      by_cases k3 : okI a3 1 30
      · refine cw1 k3 rfl rfl (fr_t (by decide) ?_)
        obtain ⟨k, -, hk, rfl⟩ := okI_ex (a := 0) (b := 5) k1
        obtain ⟨g, hg, rfl⟩ := okG k2
        obtain ⟨m, -, hm, rfl⟩ := okI_ex (a := 1) (b := 30) k3
        exact c_drop HC.1.1 HW.1 hk hg hm (fun σ' f => mw1 k1 rfl rfl (br_f (by decide) (m_isG1 HM w0 k2 (br_f (by decide) (mw1 k3 rfl rfl (fr_t (by decide) (m_drop HM.1 HW.1 hk hg hm (fun τ' g => ⟨rfl, JJ HC HM HW (fun q hq => f q (by omega)) (fun q hq => g q (by omega))⟩))))))))
      · exact cw0 k3 rfl rfl (fr_f (by decide) (c_bad HC (fun σ' HC' => mw1 k1 rfl rfl (br_f (by decide) (m_isG1 HM w0 k2 (br_f (by decide) (mw0 k3 rfl rfl (fr_f (by decide) (mb HC')))))))))
    · exact c_isG0 HC w0 k2 (br_t (by decide) (c_bad HC (fun σ' HC' => mw1 k1 rfl rfl (br_f (by decide) (m_isG0 HM w0 k2 (br_t (by decide) (mb HC')))))))
  · exact cw0 k1 rfl rfl (br_t (by decide) (c_bad HC (fun σ' HC' => mw0 k1 rfl rfl (br_t (by decide) (mb HC')))))
end O18
