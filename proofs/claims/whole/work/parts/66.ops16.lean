/-! the rain -/
def gi (A : Nat → Nat) (w : Nat) : Nat → Nat
  | 0 => 0
  | g + 1 => gi A w g + (if bh A (A (6 + g)) = 0 then gA (A (22 + g)) (A 15) w else 0)
theorem gi_le {A : Nat → Nat} {w : Nat} : ∀ n, gi A w n ≤ 4 * n
  | 0 => Nat.le_refl _
  | n + 1 => by
    have := gi_le (A := A) (w := w) n
    have := gA_le (k := A (22 + n)) (h := A 15) (w := w)
    unfold gi
    split <;> omega
theorem lg_eq0 {x y : Int64} : lg_cmp x y = 0 ↔ x.toInt = y.toInt := by
  have h1 := lg_lt0 (x := x) (y := y)
  have h2 := lg_gt0 (x := x) (y := y)
  rw [Int32.lt_iff_toInt_lt] at h1 h2
  have z : (0 : Int32).toInt = 0 := by decide
  have e : lg_cmp x y = 0 ↔ (lg_cmp x y).toInt = 0 := ⟨fun c => by rw [c]; exact z, fun c => Int32.toInt_inj.mp (c.trans z.symm)⟩
  rw [z] at h1 h2
  rw [e]
  omega
def fr4 (S : SS) (a b : Nat) : SS := fun i => if i = 4 then (fun j => if j = 0 then a else b) else S i
theorem fr4_o {S : SS} {a b i : Nat} (h : i ≠ 4) : fr4 S a b i = S i := if_neg h
section O16
variable {σ τ : St} {a1 a2 a3 a4 : Int32}
set_option maxHeartbeats 4000000 in
set_option maxRecDepth 100000 in
theorem s_goneAll {h : Nat} {a : Nat → Nat} {w : Nat} (H : StR σ h a) (hB : Bd a) (hw : w ≤ 4) {Q : Int32 → St → Prop} (hq : Q (nI (gi a w (a 0))) σ) : V_X8_goneInAll h (nI w) σ Q := by
  unfold V_X8_goneInAll B_X8_goneInAll_e
  have hs : Sm a := hB.2.2.2.2.2.2.2.2
  have h0 := hB.1
  have loop : ∀ d g, g + d = a 0 → R_X8_goneInAll h (nI w) Q 4 [nI (gi a w g), nI g] [] σ := by
    intro d
    induction d with
    | zero =>
      intro g hg
      refine i_X8_goneInAll_4 _ _ _ _ _ _ ?_
      unfold B_X8_goneInAll_4
      rw [H.1, (by omega : g = a 0)]
      exact ⟨fun _ => hq, fun c => absurd (by rw [q_le (by omega) (by omega)]; omega) c⟩
    | succ d ih =>
      intro g hg
      refine i_X8_goneInAll_4 _ _ _ _ _ _ ?_
      unfold B_X8_goneInAll_4
      obtain ⟨b1, b2⟩ := hB.2.2.2.2.2.1 g (by omega)
      have e : gi a w (g + 1) = gi a w g + (if bh a (a (6 + g)) = 0 then gA (a (22 + g)) (a 15) w else 0) := rfl
      rw [H.1]
      refine ⟨fun c => absurd (by rw [q_le (by omega) (by omega)] at c; exact c) (by omega), fun _ => s_waits H hs (by omega) h0 b2 (fun z => ?_) (fun z => ?_)⟩
      · refine fr_f rfl ⟨vp_in_nI (by omega) (by omega), ?_⟩
        rw [nI_clamp (by omega), H.2.2.2.2.2.1 g (by omega), H.2.2.2.1]
        refine v_spikesGone b1 (hs _) hw ?_
        rw [if_pos z] at e
        rw [nI_add, nI_1, ← e]
        exact ih (g + 1) (by omega)
      · refine fr_t (by decide) ?_
        rw [if_neg z] at e
        rw [nI_1, show gi a w g = gi a w (g + 1) from e.symm]
        exact ih (g + 1) (by omega)
  exact loop (a 0) 0 (by omega)
set_option maxHeartbeats 4000000 in
set_option maxRecDepth 100000 in
theorem c_kf {num den : Nat} (hn : num ≤ 1000) (hd : den ≤ 60) (h0 : 0 < den) {Q : St → Prop} (hq : Q (us σ 0 (upd (upd (σ 0) 8 (nI (num / Nat.gcd den num))) 9 (nI (den / Nat.gcd den num))))) : V_X10_keepFraction (nI num) (nI den) σ Q := by
  unfold V_X10_keepFraction B_X10_keepFraction_e
  have hg : 0 < Nat.gcd den num := Nat.gcd_pos_of_pos_left _ h0
  have hgl : Nat.gcd den num ≤ den := Nat.le_of_dvd h0 (Nat.gcd_dvd_left _ _)
  have fin : R_X10_keepFraction (nI num) (nI den) Q 39 [nI (Nat.gcd den num)] [] σ := by
    refine i_X10_keepFraction_39 _ _ _ _ _ ?_
    unfold B_X10_keepFraction_39
    have ne : ¬ nI (Nat.gcd den num) = 0 := by rw [show (0 : Int32) = nI 0 from rfl, q_eq (by omega) (by omega)]; omega
    refine ⟨fun c => absurd (by rw [show (0 : Int32) = nI 0 from rfl, q_le (by omega) (by omega)] at c; exact c) (by omega), fun _ => ⟨ne, fun s1 e1 => ⟨ne, fun s2 e2 => ?_⟩⟩⟩
    rw [pk_div (by omega) hg (by omega)] at e1 e2
    subst e1
    rw [us_same, us_us] at e2
    subst e2
    exact hq
  have loop : ∀ n a b x, b ≤ n → a ≤ 1000 → n ≤ 60 → x + n ≤ 60 → Nat.gcd b a = Nat.gcd den num → R_X10_keepFraction (nI num) (nI den) Q 8 [nI a, nI b, nI x] [] σ := by
    intro n
    induction n with
    | zero =>
      intro a b x hb ha hn hx hgc
      refine i_X10_keepFraction_8 _ _ _ _ _ _ _ ?_
      unfold B_X10_keepFraction_8
      have z : b = 0 := Nat.le_antisymm hb (Nat.zero_le _)
      subst z
      rw [Nat.gcd_zero_left] at hgc
      rw [hgc]
      exact ⟨fun c => absurd (by rw [show (64 : Int32) = nI 64 from rfl, q_le (by omega) (by omega)] at c; exact c) (by omega), fun _ => br_t rfl fin⟩
    | succ n ih =>
      intro a b x hb ha hn hx hgc
      refine i_X10_keepFraction_8 _ _ _ _ _ _ _ ?_
      unfold B_X10_keepFraction_8
      refine ⟨fun c => absurd (by rw [show (64 : Int32) = nI 64 from rfl, q_le (by omega) (by omega)] at c; exact c) (by omega), fun _ => ?_⟩
      by_cases z : b = 0
      · subst z
        rw [Nat.gcd_zero_left] at hgc
        rw [hgc]
        exact br_t rfl fin
      · have nb : ¬ nI b = 0 := by rw [show (0 : Int32) = nI 0 from rfl, q_eq (by omega) (by omega)]; exact z
        have hm : a % b < b := Nat.mod_lt _ (by omega)
        refine br_f nb ⟨nb, ?_⟩
        rw [pk_rem (by omega) (by omega) (by omega), nI_1]
        exact ih b (a % b) (x + 1) (by omega) (by omega) (by omega) (by omega) (by rw [← Nat.gcd_rec]; exact hgc)
  exact loop den num den 0 (Nat.le_refl _) hn hd (by omega) rfl
set_option maxHeartbeats 4000000 in
set_option maxRecDepth 100000 in
theorem m_frac {num den : Nat} (hn : num ≤ 1000) (hd : den ≤ 60) (h0 : 0 < den) {Q : St → Prop} (hq : Q (us τ 0 (upd (upd (upd (upd (τ 0) 28 (lgh (lN (num / Nat.gcd den num)))) 29 (lgl (lN (num / Nat.gcd den num)))) 30 (lgh (lN (den / Nat.gcd den num)))) 31 (lgl (lN (den / Nat.gcd den num)))))) : V_X11_fraction (lN num) (lN den) τ Q := by
  unfold V_X11_fraction B_X11_fraction_e
  have hg : 0 < Nat.gcd den num := Nat.gcd_pos_of_pos_left _ h0
  have hgl : Nat.gcd den num ≤ den := Nat.le_of_dvd h0 (Nat.gcd_dvd_left _ _)
  have ez : ∀ k, k < 2147483648 → (lg_cmp (lN k) 0 = 0 ↔ k = 0) := fun k hk => by
    rw [lg_eq0, lN_toInt (by omega), show (0 : Int64).toInt = 0 from by decide]
    omega
  have ne0 : ∀ k, 0 < k → k < 2147483648 → ¬ lN k = 0 := fun k h1 hk c => by
    have := (lN_eq (a := k) (b := 0) (by omega) (by omega)).mp c
    omega
  have fin : ∀ y7, lg_cmp y7 0 = 0 → B_X11_fraction_6 (lN num) (lN den) Q (R_X11_fraction (lN num) (lN den) Q) (lN (Nat.gcd den num)) y7 τ := fun y7 h7 => by
    unfold B_X11_fraction_6
    refine br_t h7 ⟨ne0 _ hg (by omega), fun s1 e1 => ⟨ne0 _ hg (by omega), fun s2 e2 => ?_⟩⟩
    rw [pk_lDiv (by omega) hg (by omega)] at e1 e2
    subst e1
    rw [us_same, us_us] at e2
    subst e2
    exact hq
  have loop : ∀ n a b, b ≤ n → a ≤ 1000 → n ≤ 60 → Nat.gcd b a = Nat.gcd den num → R_X11_fraction (lN num) (lN den) Q 6 [] [lN a, lN b] τ := by
    intro n
    induction n with
    | zero =>
      intro a b hb ha hn hgc
      refine i_X11_fraction_6 _ _ _ _ _ _ ?_
      have z : b = 0 := Nat.le_antisymm hb (Nat.zero_le _)
      subst z
      rw [Nat.gcd_zero_left] at hgc
      rw [hgc]
      exact fin _ ((ez 0 (by omega)).mpr rfl)
    | succ n ih =>
      intro a b hb ha hn hgc
      refine i_X11_fraction_6 _ _ _ _ _ _ ?_
      by_cases z : b = 0
      · subst z
        rw [Nat.gcd_zero_left] at hgc
        rw [hgc]
        exact fin _ ((ez 0 (by omega)).mpr rfl)
      · unfold B_X11_fraction_6
        have hm : a % b < b := Nat.mod_lt _ (by omega)
        refine br_f (fun c => z ((ez b (by omega)).mp c)) ⟨ne0 b (by omega) (by omega), ?_⟩
        rw [pk_lRem (by omega) (by omega) (by omega)]
        exact ih b (a % b) (by omega) (by omega) (by omega) (by rw [← Nat.gcd_rec]; exact hgc)
  exact loop den num den (Nat.le_refl _) hn hd rfl
set_option maxHeartbeats 4000000 in
set_option maxRecDepth 100000 in
theorem p_rain (hJ : J σ τ) : V_X10_rain a1 σ (fun r σ' => V_X11_rain a1 τ (fun r' τ' => r = r' ∧ J σ' τ')) := by
  obtain ⟨S, B, HC, HM, HW⟩ := hJ
  unfold V_X10_rain B_X10_rain_e
  by_cases k1 : okI a1 0 10
  · refine cw1 k1 rfl rfl (fr_t (by decide) ?_)
    obtain ⟨a, -, ha, rfl⟩ := okI_ex (a := 0) (b := 10) k1
    obtain ⟨wB, w0, w15, -⟩ := id HW.1
    obtain ⟨hW0, hW1, hW2, h30, h31, h40, h41, h6, h5⟩ := id HW
    obtain ⟨c0, c1, c2, crow, c7, c8, c9, c10, c11, c12, c70, c71⟩ := id HC
    obtain ⟨m1, m2, m3, m4, m5, m6, m28, m30, m11, m9⟩ := id HM
    have hs := HW.1.sm
    have bnd : ∀ w n, n ≤ 7 → ∀ b, b ≤ 10 → b * gi (S 0) w n ≤ 280 := fun w n hn b hb => by
      have := gi_le (A := S 0) (w := w) n
      exact Nat.le_trans (Nat.mul_le_mul hb (show gi (S 0) w n ≤ 28 by omega)) (by omega)
    have hN : ∀ n, n ≤ 7 → a * gi (S 0) 4 n + (10 - a) * gi (S 0) 0 n ≤ 560 := fun n hn => by
      have := bnd 4 n hn a ha
      have := bnd 0 n hn (10 - a) (by omega)
      omega
    refine s_goneAll (w := 0) c0.1 wB (by omega) (s_goneAll (w := 4) c0.1 wB (by omega) ?_)
    have en : (nI a * nI (gi (S 0) 4 (S 0 0))) + ((10 - nI a) * nI (gi (S 0) 0 (S 0 0))) = nI (a * gi (S 0) 4 (S 0 0) + (10 - a) * gi (S 0) 0 (S 0 0)) := by
      rw [show (10 : Int32) = nI 10 from rfl, pk_sub (by omega), pk_mul, pk_mul, nI_add]
    rw [en]
    have hNN := hN (S 0 0) w0
    refine c_kf (den := 10) (by omega) (by omega) (by omega) ?_
    unfold V_X11_rain B_X11_rain_e
    refine mw1 k1 rfl rfl (fr_t (by decide) ?_)
    have loop : ∀ d g, g + d = S 0 0 → R_X11_rain (nI a) (fun r' τ' => 1 = r' ∧ J (us σ 0 (upd (upd (σ 0) 8 (nI ((a * gi (S 0) 4 (S 0 0) + (10 - a) * gi (S 0) 0 (S 0 0)) / Nat.gcd 10 (a * gi (S 0) 4 (S 0 0) + (10 - a) * gi (S 0) 0 (S 0 0))))) 9 (nI (10 / Nat.gcd 10 (a * gi (S 0) 4 (S 0 0) + (10 - a) * gi (S 0) 0 (S 0 0)))))) τ') 24 [nI g] [lN (a * gi (S 0) 4 g + (10 - a) * gi (S 0) 0 g)] τ := by
      intro d
      induction d with
      | zero =>
        intro g hg
        refine i_X11_rain_24 _ _ _ _ _ ?_
        unfold B_X11_rain_24 V_X11_many B_X11_many_e
        rw [m1 0 (by omega), (by omega : g = S 0 0)]
        refine ⟨fun _ => m_frac (den := 10) (by omega) (by omega) (by omega) ?_, fun c => absurd (by rw [q_le (by omega) (by omega)]; omega) c⟩
        generalize a * gi (S 0) 4 (S 0 0) + (10 - a) * gi (S 0) 0 (S 0 0) = N at *
        have hg : 0 < Nat.gcd 10 N := Nat.gcd_pos_of_pos_left _ (by omega)
        have hd1 : N / Nat.gcd 10 N ≤ N := Nat.div_le_self _ _
        have hd2 : 10 / Nat.gcd 10 N ≤ 10 := Nat.div_le_self _ _
        generalize N / Nat.gcd 10 N = P at *
        generalize 10 / Nat.gcd 10 N = D at *
        refine ⟨rfl, fr4 S P D, B, ?_, ?_, ?_⟩
        · unfold CR RowC
          rw [fr4_o (i := 0) (by omega), fr4_o (i := 1) (by omega), fr4_o (i := 2) (by omega), fr4_o (i := 3) (by omega), fr4_o (i := 5) (by omega), fr4_o (i := 6) (by omega)]
          rw [show fr4 S P D 4 0 = P from rfl, show fr4 S P D 4 1 = D from rfl]
          rw [us_same, us_ne (j := 13) (by omega), us_ne (j := 15) (by omega), us_ne (j := 17) (by omega), us_ne (j := 70) (by omega), us_ne (j := 71) (by omega)]
          exact ⟨c0.congr (fun q h1 h2 => us_ne (by omega)), fun c => (c1 c).congr (fun q h1 h2 => us_ne (by omega)), fun c => (c2 c).congr (fun q h1 h2 => us_ne (by omega)), crow, by rw [pk_un (by omega), pk_un (by omega)]; exact c7, by rw [pk_un (by omega), pk_us], by rw [pk_us], by rw [pk_un (by omega), pk_un (by omega)]; exact c10, by rw [pk_un (by omega), pk_un (by omega)]; exact c11, by rw [pk_un (by omega), pk_un (by omega)]; exact c12, c70, c71⟩
        · unfold MR RowN
          rw [fr4_o (i := 0) (by omega), fr4_o (i := 1) (by omega), fr4_o (i := 2) (by omega), fr4_o (i := 3) (by omega), fr4_o (i := 5) (by omega), fr4_o (i := 6) (by omega)]
          rw [show fr4 S P D 4 0 = P from rfl, show fr4 S P D 4 1 = D from rfl]
          rw [us_same, us_ne (j := 1) (by omega), us_ne (j := 2) (by omega), us_ne (j := 3) (by omega), us_ne (j := 4) (by omega), us_ne (j := 9) (by omega)]
          exact ⟨m1, m2, m3, m4, m5, m6, by rw [pk_un (j := 28) (by omega), pk_un (j := 28) (by omega), pk_un (j := 28) (by omega), pk_us, pk_un (j := 29) (by omega), pk_un (j := 29) (by omega), pk_us, lg2_hl], by rw [pk_un (by omega), pk_us, pk_us, lg2_hl], by rw [pk_un (by omega), pk_un (by omega), pk_un (by omega), pk_un (by omega)]; exact m11, m9⟩
        · unfold WF
          rw [fr4_o (i := 0) (by omega), fr4_o (i := 1) (by omega), fr4_o (i := 2) (by omega), fr4_o (i := 3) (by omega), fr4_o (i := 5) (by omega), fr4_o (i := 6) (by omega)]
          rw [show fr4 S P D 4 0 = P from rfl, show fr4 S P D 4 1 = D from rfl]
          exact ⟨hW0, hW1, hW2, h30, h31, by omega, by omega, h6, h5⟩
      | succ d ih =>
        intro g hg
        refine i_X11_rain_24 _ _ _ _ _ ?_
        unfold B_X11_rain_24 V_X11_many B_X11_many_e
        obtain ⟨b1, b2⟩ := wB.2.2.2.2.2.1 g (by omega)
        have e : ∀ w, gi (S 0) w (g + 1) = gi (S 0) w g + (if bh (S 0) (S 0 (6 + g)) = 0 then gA (S 0 (22 + g)) (S 0 15) w else 0) := fun w => rfl
        have e22 : (22 + nI g).toNatClampNeg = 22 + g := by rw [show (22 : Int32) = nI 22 from rfl, nI_add, nI_clamp (by omega)]
        have i22 : vp_in (22 + nI g) 181 := by rw [show (22 : Int32) = nI 22 from rfl, nI_add]; exact vp_in_nI (by omega) (by omega)
        rw [m1 0 (by omega)]
        refine ⟨fun c => absurd (by rw [q_le (by omega) (by omega)] at c; exact c) (by omega), fun _ => m_waits m1 (by omega) (by omega) wB.2.1 hs (by omega) ?_⟩
        by_cases z : bh (S 0) (S 0 (6 + g)) = 0
        · rw [if_pos z]
          refine fr_f rfl ⟨i22, ?_⟩
          rw [e22, m1 (22 + g) (by omega), m1 15 (by omega)]
          refine v_goesAs (w := 4) b1 (hs 15) (by omega) ⟨i22, ?_⟩
          rw [m1 (22 + g) (by omega), m1 15 (by omega)]
          refine v_goesAs (w := 0) b1 (hs 15) (by omega) (fun v6 e6 => ?_)
          have x4 := gA_le (k := S 0 (22 + g)) (h := S 0 15) (w := 4)
          have x0 := gA_le (k := S 0 (22 + g)) (h := S 0 15) (w := 0)
          have y4 : a * gA (S 0 (22 + g)) (S 0 15) 4 ≤ 40 := Nat.mul_le_mul ha x4
          have y0 : (10 - a) * gA (S 0 (22 + g)) (S 0 15) 0 ≤ 40 := Nat.mul_le_mul (show 10 - a ≤ 10 by omega) x0
          rw [show (10 : Int32) = nI 10 from rfl, pk_sub (by omega), pk_mul, pk_mul, nI_add, nI_l (by omega), lN_add] at e6
          have z4 := e 4
          have z0 := e 0
          rw [if_pos z] at z4 z0
          rw [e6, nI_1, show a * gi (S 0) 4 g + (10 - a) * gi (S 0) 0 g + (a * gA (S 0 (22 + g)) (S 0 15) 4 + (10 - a) * gA (S 0 (22 + g)) (S 0 15) 0) = a * gi (S 0) 4 (g + 1) + (10 - a) * gi (S 0) 0 (g + 1) from by rw [z4, z0, Nat.mul_add, Nat.mul_add]; omega]
          exact ih (g + 1) (by omega)
        · rw [if_neg z]
          refine fr_t (by decide) ?_
          have z4 := e 4
          have z0 := e 0
          rw [if_neg z] at z4 z0
          rw [nI_1, show a * gi (S 0) 4 g + (10 - a) * gi (S 0) 0 g = a * gi (S 0) 4 (g + 1) + (10 - a) * gi (S 0) 0 (g + 1) from by rw [z4, z0]; rfl]
          exact ih (g + 1) (by omega)
    have := loop (S 0 0) 0 (by omega)
    exact this
  · unfold V_X11_rain B_X11_rain_e
    exact cw0 k1 rfl rfl (fr_f (by decide) (c_bad HC (fun σ' HC' => mw0 k1 rfl rfl (fr_f (by decide) (m_bad HM (fun τ' HM' => ⟨rfl, S, bb B 0, HC', HM', HW⟩))))))
end O16
