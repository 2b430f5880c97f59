/-! the tokens of a text: T the bytes, n how many; a token is named by the place p from which it is looked for -/
def kdb (b : Nat) : Nat := if 97 ≤ b ∧ b ≤ 122 then 1 else if 48 ≤ b ∧ b ≤ 57 then 2 else if b = 59 then 3 else 4
def skp (T : Nat → Nat) : Nat → Nat → Nat
  | 0, p => p
  | d + 1, p => if T p = 32 then skp T d (p + 1) else p
def rnk (T : Nat → Nat) (k : Nat) : Nat → Nat → Nat
  | 0, p => p
  | d + 1, p => if kdb (T p) = k then rnk T k d (p + 1) else p
def zts (T : Nat → Nat) (n p : Nat) : Nat := skp T (n - p) p
def ztk (T : Nat → Nat) (n p : Nat) : Nat := if zts T n p < n then kdb (T (zts T n p)) else 0
def zte (T : Nat → Nat) (n p : Nat) : Nat := if zts T n p < n then (if 3 ≤ kdb (T (zts T n p)) then zts T n p + 1 else rnk T (kdb (T (zts T n p))) (n - zts T n p) (zts T n p)) else zts T n p
def ztv (T : Nat → Nat) (n p : Nat) : Nat := if zte T n p - zts T n p = 2 then 10 * (T (zts T n p) - 48) + (T (zts T n p + 1) - 48) else T (zts T n p) - 48
theorem kdb_b {b : Nat} : 1 ≤ kdb b ∧ kdb b ≤ 4 := by
  unfold kdb
  repeat' split
  all_goals omega
theorem kdb_2 {b : Nat} (h : kdb b = 2) : 48 ≤ b ∧ b ≤ 57 := by
  unfold kdb at h
  split at h
  · omega
  · split at h
    · assumption
    · split at h <;> omega
theorem skp_b {T : Nat → Nat} : ∀ d p, p ≤ skp T d p ∧ skp T d p ≤ p + d
  | 0, _ => ⟨Nat.le_refl _, Nat.le_refl _⟩
  | d + 1, p => by
    have := skp_b (T := T) d (p + 1)
    unfold skp
    split <;> omega
theorem rnk_b {T : Nat → Nat} {k : Nat} : ∀ d p, p ≤ rnk T k d p ∧ rnk T k d p ≤ p + d
  | 0, _ => ⟨Nat.le_refl _, Nat.le_refl _⟩
  | d + 1, p => by
    have := rnk_b (T := T) (k := k) d (p + 1)
    unfold rnk
    split <;> omega
theorem rnk_all {T : Nat → Nat} {k j : Nat} : ∀ d p, p ≤ j → j < rnk T k d p → kdb (T j) = k
  | 0, p, h, h2 => by
    unfold rnk at h2
    omega
  | d + 1, p, h, h2 => by
    unfold rnk at h2
    by_cases c : kdb (T p) = k
    · rw [if_pos c] at h2
      by_cases e : j = p
      · rw [e]; exact c
      · exact rnk_all d (p + 1) (by omega) h2
    · rw [if_neg c] at h2; omega
theorem zts_b {T : Nat → Nat} {n p : Nat} (h : p ≤ n) : p ≤ zts T n p ∧ zts T n p ≤ n := by
  have := skp_b (T := T) (n - p) p
  unfold zts
  omega
theorem ztk_b {T : Nat → Nat} {n p : Nat} : ztk T n p ≤ 4 := by
  have := kdb_b (b := T (zts T n p))
  unfold ztk
  split <;> omega
theorem ztk_0 {T : Nat → Nat} {n p : Nat} (h : p ≤ n) : ztk T n p = 0 ↔ zts T n p = n := by
  have := kdb_b (b := T (zts T n p))
  have := zts_b (T := T) h
  unfold ztk
  by_cases c : zts T n p < n
  · rw [if_pos c]; omega
  · rw [if_neg c]; omega
theorem zte_b {T : Nat → Nat} {n p : Nat} (h : p ≤ n) : zts T n p ≤ zte T n p ∧ zte T n p ≤ n := by
  have h1 := zts_b (T := T) h
  have h2 := rnk_b (T := T) (k := kdb (T (zts T n p))) (n - zts T n p) (zts T n p)
  unfold zte
  split
  · split <;> omega
  · omega
theorem zte_p {T : Nat → Nat} {n p : Nat} (h : p ≤ n) (h0 : ztk T n p ≠ 0) : zts T n p < zte T n p := by
  have h1 := zts_b (T := T) h
  have c : zts T n p < n := by
    have := (ztk_0 (T := T) h)
    have : zts T n p ≠ n := fun e => h0 (this.mpr e)
    omega
  unfold zte
  rw [if_pos c]
  split
  · omega
  · obtain ⟨d, hd⟩ : ∃ d, n - zts T n p = d + 1 := ⟨n - zts T n p - 1, by omega⟩
    have h2 := rnk_b (T := T) (k := kdb (T (zts T n p))) d (zts T n p + 1)
    rw [hd]
    unfold rnk
    rw [if_pos rfl]
    omega
theorem ztk_s {T : Nat → Nat} {n p : Nat} (h : p ≤ n) (h0 : ztk T n p ≠ 0) : zts T n p < n ∧ ztk T n p = kdb (T (zts T n p)) := by
  have c : zts T n p < n := by
    have h1 := zts_b (T := T) h
    have h2 := (ztk_0 (T := T) h)
    have : zts T n p ≠ n := fun e => h0 (h2.mpr e)
    omega
  refine ⟨c, ?_⟩
  unfold ztk
  rw [if_pos c]
theorem zte_a {T : Nat → Nat} {n p j : Nat} (h : p ≤ n) (h0 : ztk T n p ≠ 0) (h3 : ztk T n p < 3) (h1 : zts T n p ≤ j) (h2 : j < zte T n p) : kdb (T j) = ztk T n p := by
  obtain ⟨c, e⟩ := ztk_s h h0
  unfold zte at h2
  rw [if_pos c, if_neg (by omega)] at h2
  rw [e]
  exact rnk_all _ _ h1 h2
theorem ztv_b {T : Nat → Nat} {n p : Nat} (h : p ≤ n) (h2 : ztk T n p = 2) : ztv T n p ≤ 99 := by
  have hp := zte_p h (by omega : ztk T n p ≠ 0)
  have a := kdb_2 ((zte_a h (by omega) (by omega) (Nat.le_refl _) hp).trans h2)
  unfold ztv
  by_cases c : zte T n p - zts T n p = 2
  · rw [if_pos c]
    have b := kdb_2 ((zte_a (j := zts T n p + 1) h (by omega) (by omega) (by omega) (by omega)).trans h2)
    omega
  · rw [if_neg c]
    omega
def TxC (σ : St) (T : Nat → Nat) (n : Nat) : Prop := σ 70 1 = nI n ∧ ∀ i, i < n → σ 71 i = nI (T i)
def vC (T : Nat → Nat) (n p : Nat) : Int32 := if ztk T n p = 2 ∧ zte T n p - zts T n p ≤ 2 then nI (ztv T n p) else -1
def AtC (σ : St) (T : Nat → Nat) (n p : Nat) : Prop := TxC σ T n ∧ σ 70 3 = nI (zts T n p) ∧ σ 70 2 = nI (ztk T n p) ∧ σ 70 5 = nI (zte T n p) ∧ σ 70 4 = vC T n p
section TK
variable {σ τ : St} {T : Nat → Nat} {n : Nat}
set_option maxHeartbeats 4000000 in
set_option maxRecDepth 100000 in
theorem v_kindOf {b : Nat} (hb : b ≤ 127) {Q : Int32 → St → Prop} (hq : Q (nI (kdb b)) σ) : V_X9_kindOf (nI b) σ Q := by
  unfold V_X9_kindOf B_X9_kindOf_e
  unfold kdb at hq
  have k14 : ¬ (97 ≤ b ∧ b ≤ 122) → R_X9_kindOf (nI b) Q 14 [] [] σ := fun c => by
    rw [if_neg c] at hq
    refine i_X9_kindOf_14 _ _ _ ?_
    unfold B_X9_kindOf_14
    have k28 : ¬ (48 ≤ b ∧ b ≤ 57) → R_X9_kindOf (nI b) Q 28 [] [] σ := fun c2 => by
      rw [if_neg c2] at hq
      refine i_X9_kindOf_28 _ _ _ ?_
      unfold B_X9_kindOf_28
      simp (disch := omega) only [q_m1, q_m1n, q_m1a, q_eq, q_le, q_lt, nI_add, pk_sub, pk_mul, pk_div, pk_rem, nI_clamp, q_in, zl0, zl1, zl2, zl3, zl4, zl5, zl6, zl7, zl8, zl9, zl10, zl11, zl12, zl13, zl14, zl15, zl16, zl17, zl18, zl19, zl20, zl21, zl22, zl23, zl24, zl25, zl26, zl27, zl28, zl29, zl30, zl31, zl32, zl36, zl37, zl38, zl40, zl42, zl43, zl44, zl48, zl53, zl54, zl57, zl59, zl60, zl61, zl63, zl64, zl70, zl71, zl72, zl77, zl78, zl90, zl97, zl98, zl99, zl100, zl101, zl102, zl106, zl111, zl122, zl127, zl128, zl150, zl181, zl256, zl362, zl9999, zl999999, zl1000000]
      refine ⟨fun c3 => ?_, fun c3 => ?_⟩
      · rw [if_neg c3] at hq; exact hq
      · rw [if_pos c3] at hq; exact hq
    simp (disch := omega) only [q_m1, q_m1n, q_m1a, q_eq, q_le, q_lt, nI_add, pk_sub, pk_mul, pk_div, pk_rem, nI_clamp, q_in, zl0, zl1, zl2, zl3, zl4, zl5, zl6, zl7, zl8, zl9, zl10, zl11, zl12, zl13, zl14, zl15, zl16, zl17, zl18, zl19, zl20, zl21, zl22, zl23, zl24, zl25, zl26, zl27, zl28, zl29, zl30, zl31, zl32, zl36, zl37, zl38, zl40, zl42, zl43, zl44, zl48, zl53, zl54, zl57, zl59, zl60, zl61, zl63, zl64, zl70, zl71, zl72, zl77, zl78, zl90, zl97, zl98, zl99, zl100, zl101, zl102, zl106, zl111, zl122, zl127, zl128, zl150, zl181, zl256, zl362, zl9999, zl999999, zl1000000]
    refine ⟨fun c2 => k28 (by omega), fun c2 => ⟨fun c3 => k28 (by omega), fun c3 => ?_⟩⟩
    rw [if_pos (by omega)] at hq
    exact hq
  simp (disch := omega) only [q_m1, q_m1n, q_m1a, q_eq, q_le, q_lt, nI_add, pk_sub, pk_mul, pk_div, pk_rem, nI_clamp, q_in, zl0, zl1, zl2, zl3, zl4, zl5, zl6, zl7, zl8, zl9, zl10, zl11, zl12, zl13, zl14, zl15, zl16, zl17, zl18, zl19, zl20, zl21, zl22, zl23, zl24, zl25, zl26, zl27, zl28, zl29, zl30, zl31, zl32, zl36, zl37, zl38, zl40, zl42, zl43, zl44, zl48, zl53, zl54, zl57, zl59, zl60, zl61, zl63, zl64, zl70, zl71, zl72, zl77, zl78, zl90, zl97, zl98, zl99, zl100, zl101, zl102, zl106, zl111, zl122, zl127, zl128, zl150, zl181, zl256, zl362, zl9999, zl999999, zl1000000]
  refine ⟨fun c => k14 (by omega), fun c => ⟨fun c2 => k14 (by omega), fun c2 => ?_⟩⟩
  rw [if_pos (by omega)] at hq
  exact hq
set_option maxHeartbeats 4000000 in
set_option maxRecDepth 100000 in
theorem c_advance {p : Nat} (h : TxC σ T n) (hn : n ≤ 150) (hT : ∀ i, i < n → T i ≤ 127) (hp : σ 70 5 = nI p) (hpn : p ≤ n) {Q : St → Prop} (hq : ∀ σ', AtC σ' T n p → (∀ q, q ≠ 70 → σ' q = σ q) → Q σ') : V_X9_advance σ Q := by
  unfold V_X9_advance B_X9_advance_e
  obtain ⟨hb1, hb2⟩ := zts_b (T := T) hpn
  obtain ⟨he1, he2⟩ := zte_b (T := T) hpn
  have hk4 := ztk_b (T := T) (n := n) (p := p)
  have tx : ∀ s : St, (∀ q, q ≠ 70 → s q = σ q) → ∀ i, i < n → s 71 i = nI (T i) := fun s hf i hi => by rw [hf 71 (by omega)]; exact h.2 i hi
  have hvn : vC T n p = -1 ∨ (ztk T n p = 2 ∧ zte T n p - zts T n p ≤ 2) := by
    unfold vC
    by_cases c : ztk T n p = 2 ∧ zte T n p - zts T n p ≤ 2
    · exact Or.inr c
    · rw [if_neg c]; exact Or.inl rfl
  have k160 : ∀ s : St, s 70 1 = nI n → s 70 2 = nI (ztk T n p) → s 70 3 = nI (zts T n p) → s 70 4 = -1 → s 70 5 = nI (zte T n p) → (∀ q, q ≠ 70 → s q = σ q) → R_X9_advance Q 160 [] [] s := fun s e1 e2 e3 e4 e5 hf => by
    refine i_X9_advance_160 _ _ ?_
    unfold B_X9_advance_160
    rw [e2, e3, e5, show (2 : Int32) = nI 2 from rfl, q_eq (by omega) (by omega)]
    by_cases c : ztk T n p = 2
    · refine fr_f c ?_
      have hlt := zte_p hpn (by omega : ztk T n p ≠ 0)
      rw [pk_sub (by omega), q_lt (by omega) (by omega)]
      by_cases c2 : 2 < zte T n p - zts T n p
      · refine br_t c2 (hq s ⟨⟨e1, tx s hf⟩, e3, e2, e5, ?_⟩ hf)
        rw [e4]
        rcases hvn with x | x
        · exact x.symm
        · omega
      · have ev : vC T n p = nI (ztv T n p) := by unfold vC; rw [if_pos ⟨c, by omega⟩]
        refine br_f c2 ?_
        have ee : nI (zte T n p) - 1 = nI (zte T n p - 1) := pk_sub (b := 1) (by omega)
        have a0 := kdb_2 ((zte_a hpn (by omega) (by omega) (Nat.le_refl _) hlt).trans c)
        have a1 := kdb_2 ((zte_a (j := zte T n p - 1) hpn (by omega) (by omega) (by omega) (by omega)).trans c)
        rw [ee, nI_clamp (by omega), nI_clamp (by omega), tx s hf _ (by omega), tx s hf _ (by omega)]
        refine ⟨vp_in_nI (by omega) (by omega), fun v1 ev1 => ?_⟩
        rw [show (48 : Int32) = nI 48 from rfl, pk_sub (by omega)] at ev1 ⊢
        rw [show (10 : Int32) = nI 10 from rfl, pk_mul, q_eq (by omega) (by omega)]
        have fin : ∀ (x : Nat) (s2 : St), s2 = us s 70 (upd (s 70) 4 (nI x)) → x = ztv T n p → Q s2 := fun x s2 es2 ex => by
          refine hq s2 ⟨⟨by rw [es2, us_same, pk_un (by omega)]; exact e1, fun i hi => by rw [es2, us_ne (by omega)]; exact tx s hf i hi⟩, by rw [es2, us_same, pk_un (by omega)]; exact e3, by rw [es2, us_same, pk_un (by omega)]; exact e2, by rw [es2, us_same, pk_un (by omega)]; exact e5, by rw [es2, us_same, pk_us, ev, ex]⟩ (fun q h70 => by rw [es2, us_ne h70]; exact hf q h70)
        by_cases c3 : zte T n p - zts T n p = 2
        · refine fr_f c3 ⟨vp_in_nI (by omega) (by omega), fun s2 es2 => ?_⟩
          rw [ev1, nI_add] at es2
          refine fin _ s2 es2 ?_
          unfold ztv
          rw [if_pos c3, show zte T n p - 1 = zts T n p + 1 by omega]
        · refine fr_t c3 (fun s2 es2 => ?_)
          rw [ev1] at es2
          refine fin _ s2 es2 ?_
          unfold ztv
          rw [if_neg c3, show zte T n p - 1 = zts T n p by omega]
    · refine fr_t c (hq s ⟨⟨e1, tx s hf⟩, e3, e2, e5, ?_⟩ hf)
      rw [e4]
      rcases hvn with x | x
      · exact x.symm
      · exact absurd x.1 c
  have k117 : ∀ d q (s : St), q + d = n → zts T n p ≤ q → s 70 1 = nI n → s 70 2 = nI (ztk T n p) → s 70 3 = nI (zts T n p) → s 70 4 = -1 → s 70 5 = nI q → (∀ q, q ≠ 70 → s q = σ q) → zte T n p = (if ztk T n p = 0 then q else rnk T (ztk T n p) d q) → R_X9_advance Q 117 [] [] s := by
    intro d
    induction d with
    | zero =>
      intro q s hd hzq e1 e2 e3 e4 e5 hf hz
      refine i_X9_advance_117 _ _ ?_
      unfold B_X9_advance_117
      have ez : zte T n p = q := by
        rw [hz]
        split <;> rfl
      rw [e1, e5]
      refine ⟨fun _ => k160 s e1 e2 e3 e4 (by rw [ez]; exact e5) hf, fun c => absurd (by rw [q_le (by omega) (by omega)]; omega) c⟩
    | succ d ih =>
      intro q s hd hzq e1 e2 e3 e4 e5 hf hz
      refine i_X9_advance_117 _ _ ?_
      unfold B_X9_advance_117
      have hk0 : ztk T n p ≠ 0 := fun c => by
        have := (ztk_0 hpn).mp c
        omega
      have hTq := hT q (by omega)
      have hkb := kdb_b (b := T q)
      rw [if_neg hk0] at hz
      have er : rnk T (ztk T n p) (d + 1) q = if kdb (T q) = ztk T n p then rnk T (ztk T n p) d (q + 1) else q := rfl
      rw [e1, e5, nI_clamp (by omega), tx s hf q (by omega)]
      refine ⟨fun c => absurd (by rw [q_le (by omega) (by omega)] at c; exact c) (by omega), fun _ => ⟨vp_in_nI (by omega) (by omega), v_kindOf hTq ?_⟩⟩
      rw [e2, q_eq (by omega) (by omega)]
      by_cases c : kdb (T q) = ztk T n p
      · rw [if_pos c] at er
        refine fr_f c (fun s2 es2 => ?_)
        rw [e5, nI_1] at es2
        refine ih (q + 1) s2 (by omega) (by omega) (by rw [es2, us_same, pk_un (by omega)]; exact e1) (by rw [es2, us_same, pk_un (by omega)]; exact e2) (by rw [es2, us_same, pk_un (by omega)]; exact e3) (by rw [es2, us_same, pk_un (by omega)]; exact e4) (by rw [es2, us_same, pk_us]) (fun j hj => by rw [es2, us_ne hj]; exact hf j hj) ?_
        rw [if_neg hk0, hz, er]
      · rw [if_neg c] at er
        exact fr_t c (k160 s e1 e2 e3 e4 (by rw [hz, er]; exact e5) hf)
  have k87 : ∀ s : St, s 70 1 = nI n → s 70 3 = nI (zts T n p) → s 70 4 = -1 → s 70 5 = nI (zts T n p) → (∀ q, q ≠ 70 → s q = σ q) → R_X9_advance Q 87 [nI (ztk T n p)] [] s := fun s e1 e3 e4 e5 hf => by
    refine i_X9_advance_87 _ _ _ ?_
    unfold B_X9_advance_87
    intro s1 es1
    have g1 : s1 70 1 = nI n := by rw [es1, us_same, pk_un (by omega)]; exact e1
    have g2 : s1 70 2 = nI (ztk T n p) := by rw [es1, us_same, pk_us]
    have g3 : s1 70 3 = nI (zts T n p) := by rw [es1, us_same, pk_un (by omega)]; exact e3
    have g4 : s1 70 4 = -1 := by rw [es1, us_same, pk_un (by omega)]; exact e4
    have g5 : s1 70 5 = nI (zts T n p) := by rw [es1, us_same, pk_un (by omega)]; exact e5
    have gf : ∀ q, q ≠ 70 → s1 q = σ q := fun q hq => by rw [es1, us_ne hq]; exact hf q hq
    rw [g2, g5, nI_1, show (3 : Int32) = nI 3 from rfl, show (4 : Int32) = nI 4 from rfl, q_eq (by omega) (by omega), q_eq (by omega) (by omega)]
    have fin : (ztk T n p = 3 ∨ ztk T n p = 4) → ∀ s2 : St, s2 = us s1 70 (upd (s1 70) 5 (nI (zts T n p + 1))) → Q s2 := fun c s2 es2 => by
      obtain ⟨x1, x2⟩ := ztk_s (T := T) hpn (by omega)
      have ez : zte T n p = zts T n p + 1 := by
        unfold zte
        rw [if_pos x1, if_pos (by omega)]
      refine hq s2 ⟨⟨by rw [es2, us_same, pk_un (by omega)]; exact g1, fun i hi => by rw [es2, us_ne (by omega)]; exact tx s1 gf i hi⟩, by rw [es2, us_same, pk_un (by omega)]; exact g3, by rw [es2, us_same, pk_un (by omega)]; exact g2, by rw [es2, us_same, pk_us, ez], ?_⟩ (fun q h70 => by rw [es2, us_ne h70]; exact gf q h70)
      rw [es2, us_same, pk_un (by omega), g4]
      rcases hvn with x | x
      · exact x.symm
      · omega
    by_cases c3 : ztk T n p = 3
    · exact br_t c3 (fun s2 es2 => fin (Or.inl c3) s2 es2)
    · refine br_f c3 ?_
      by_cases c4 : ztk T n p = 4
      · exact fr_f c4 (fun s2 es2 => fin (Or.inr c4) s2 es2)
      · refine fr_t c4 (k117 (n - zts T n p) (zts T n p) s1 (by omega) (Nat.le_refl _) g1 g2 g3 g4 g5 gf ?_)
        by_cases c0 : ztk T n p = 0
        · rw [if_pos c0]
          have := (ztk_0 hpn).mp c0
          unfold zte
          rw [if_neg (by omega)]
        · rw [if_neg c0]
          obtain ⟨x1, x2⟩ := ztk_s (T := T) hpn c0
          unfold zte
          rw [if_pos x1, if_neg (by omega), ← x2]
  have k46 : ∀ s : St, s 70 1 = nI n → s 70 3 = nI (zts T n p) → (∀ q, q ≠ 70 → s q = σ q) → R_X9_advance Q 46 [] [] s := fun s e1 e3 hf => by
    refine i_X9_advance_46 _ _ ?_
    unfold B_X9_advance_46
    intro s1 es1 s2 es2
    have g1 : s2 70 1 = nI n := by rw [es2, us_same, pk_un (by omega), es1, us_same, pk_un (by omega)]; exact e1
    have g3 : s2 70 3 = nI (zts T n p) := by rw [es2, us_same, pk_un (by omega), es1, us_same, pk_un (by omega)]; exact e3
    have g4 : s2 70 4 = -1 := by rw [es2, us_same, pk_us]
    have g5 : s2 70 5 = nI (zts T n p) := by rw [es2, us_same, pk_un (by omega), es1, us_same, pk_us, e3]
    have gf : ∀ q, q ≠ 70 → s2 q = σ q := fun q hq => by rw [es2, us_ne hq, es1, us_ne hq]; exact hf q hq
    have nx := k87 s2 g1 g3 g4 g5 gf
    rw [g1, g3, q_le (by omega) (by omega)]
    by_cases c : n ≤ zts T n p
    · have : ztk T n p = 0 := by unfold ztk; rw [if_neg (by omega)]
      rw [this] at nx
      exact br_t c nx
    · have : ztk T n p = kdb (T (zts T n p)) := by unfold ztk; rw [if_pos (by omega)]
      rw [this] at nx
      refine br_f c ⟨vp_in_nI (by omega) (by omega), ?_⟩
      rw [nI_clamp (by omega), tx s2 gf _ (by omega)]
      exact v_kindOf (hT _ (by omega)) nx
  have k8 : ∀ d q (s : St), q + d = n → s 70 1 = nI n → s 70 3 = nI q → (∀ q, q ≠ 70 → s q = σ q) → zts T n p = skp T d q → R_X9_advance Q 8 [] [] s := by
    intro d
    induction d with
    | zero =>
      intro q s hd e1 e3 hf hz
      refine i_X9_advance_8 _ _ ?_
      unfold B_X9_advance_8
      rw [e1, e3]
      exact ⟨fun _ => k46 s e1 (by rw [e3, hz]; rfl) hf, fun c => absurd (by rw [q_le (by omega) (by omega)]; omega) c⟩
    | succ d ih =>
      intro q s hd e1 e3 hf hz
      refine i_X9_advance_8 _ _ ?_
      unfold B_X9_advance_8
      have es : skp T (d + 1) q = if T q = 32 then skp T d (q + 1) else q := rfl
      have hTq := hT q (by omega)
      rw [e1, e3, nI_clamp (by omega), tx s hf q (by omega), nI_1, show (32 : Int32) = nI 32 from rfl, q_eq (by omega) (by omega)]
      refine ⟨fun c => absurd (by rw [q_le (by omega) (by omega)] at c; exact c) (by omega), fun _ => ⟨vp_in_nI (by omega) (by omega), ?_⟩⟩
      by_cases c : T q = 32
      · rw [if_pos c] at es
        refine fr_f c (fun s2 es2 => ih (q + 1) s2 (by omega) (by rw [es2, us_same, pk_un (by omega)]; exact e1) (by rw [es2, us_same, pk_us]) (fun j hj => by rw [es2, us_ne hj]; exact hf j hj) (by rw [hz, es]))
      · rw [if_neg c] at es
        exact fr_t c (k46 s e1 (by rw [e3, hz, es]) hf)
  intro s1 es1
  exact k8 (n - p) p s1 (by omega) (by rw [es1, us_same, pk_un (by omega)]; exact h.1) (by rw [es1, us_same, pk_us]; exact hp) (fun q hq => by rw [es1, us_ne hq]) rfl
end TK
