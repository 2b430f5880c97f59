/-! pairs that are told are pairs, and no two that are left would be one -/
def pc (A : Nat → Nat) (w : Nat) : Nat → Nat → Nat → Nat
  | 0, _, _ => 0
  | d + 1, g, s => if bi s g = true then (if g = w then fp A s g else if fp A s g = w + 1 then g + 1 else pc A w d (g + 1) (wo s g (fp A s g))) else pc A w d (g + 1) s
theorem pc_s {A : Nat → Nat} {w d g s : Nat} : pc A w (d + 1) g s = if bi s g = true then (if g = w then fp A s g else if fp A s g = w + 1 then g + 1 else pc A w d (g + 1) (wo s g (fp A s g))) else pc A w d (g + 1) s := rfl
theorem pt_pc {A : Nat → Nat} {w : Nat} : ∀ d g s, pt A w d g s = mi (pc A w d g s)
  | 0, _, _ => rfl
  | d + 1, g, s => by
    rw [pt_s, pc_s]
    by_cases c : bi s g = true
    · rw [if_pos c, if_pos c]
      by_cases e : g = w
      · rw [if_pos e, if_pos e]
      · rw [if_neg e, if_neg e]
        by_cases f : fp A s g = w + 1
        · rw [if_pos f, if_pos f]
          unfold mi
          rw [if_neg (by omega)]
          rfl
        · rw [if_neg f, if_neg f]
          exact pt_pc d (g + 1) _
    · rw [if_neg c, if_neg c]
      exact pt_pc d (g + 1) s
theorem isP_sy {A : Nat → Nat} {g o : Nat} (h : isP A g o = true) : isP A o g = true := by
  unfold isP at *
  have := of_decide_eq_true h
  exact decide_eq_true ⟨this.1.symm, this.2.2, this.2.1⟩
theorem fs_q {A : Nat → Nat} {s r g : Nat} : ∀ d o, fsr A s r g d o ≠ 0 → ∃ t, fsr A s r g d o = t + 1 ∧ o ≤ t ∧ t < o + d ∧ bi r t = true ∧ isP A g t = true ∧ 1 + tt A (cl r t) = tt A s
  | 0, _ => fun h => absurd rfl h
  | d + 1, o => fun h => by
    rw [fs_s] at *
    by_cases c : bi r o = true ∧ isP A g o = true ∧ 1 + tt A (cl r o) = tt A s
    · rw [if_pos c]
      exact ⟨o, rfl, Nat.le_refl _, by omega, c.1, c.2.1, c.2.2⟩
    · rw [if_neg c] at *
      obtain ⟨t, h1, h2, h3, h4⟩ := fs_q d (o + 1) h
      exact ⟨t, h1, by omega, by omega, h4⟩
theorem fs_z {A : Nat → Nat} {s r g : Nat} : ∀ d o, fsr A s r g d o = 0 → ∀ t, o ≤ t → t < o + d → ¬ (bi r t = true ∧ isP A g t = true ∧ 1 + tt A (cl r t) = tt A s)
  | 0, _ => fun _ t h1 h2 => absurd h2 (by omega)
  | d + 1, o => fun h t h1 h2 => by
    rw [fs_s] at h
    by_cases c : bi r o = true ∧ isP A g o = true ∧ 1 + tt A (cl r o) = tt A s
    · rw [if_pos c] at h; omega
    · rw [if_neg c] at h
      by_cases z : t = o
      · rw [z]; exact c
      · exact fs_z d (o + 1) h t (by omega) (by omega)
theorem tt_g {A : Nat → Nat} {s g : Nat} (hs : s < 128) (hb : bi s g = true) (hl : ∀ j, j < g → ¬ bi s j = true) : tt A s = vf A (tt A) g (cl s g) (A 0) := by
  have h0 : s ≠ 0 := fun e => by rw [e] at hb; exact bi_0 hb
  rw [tt_s hs h0]
  show vf A (tt A) (lowb s) (cl s (lowb s)) (A 0) = _
  rw [lowb_e hs hb hl]
theorem fp_0 {A : Nat → Nat} {s g : Nat} (hs : s < 128) (hb : bi s g = true) (hl : ∀ j, j < g → ¬ bi s j = true) (h : fp A s g = 0) : tt A (cl s g) = tt A s := by
  unfold fp at h
  by_cases c : tt A (cl s g) = tt A s
  · exact c
  · rw [if_neg c] at h
    have e := tt_g (A := A) hs hb hl
    rcases vf_w (A := A) (t := tt A) (g := g) (r := cl s g) (A 0) with h1 | ⟨o, h1, h2, h3, h4, h5⟩
    · exact (e.trans h1).symm
    · exact absurd ⟨h3, h4, by omega⟩ (fs_z _ _ h o (by omega) (by omega))
theorem fp_1 {A : Nat → Nat} {s g : Nat} (h : fp A s g ≠ 0) : ∃ o, fp A s g = o + 1 ∧ g < o ∧ bi (cl s g) o = true ∧ isP A g o = true ∧ 1 + tt A (cl (cl s g) o) = tt A s := by
  unfold fp at *
  by_cases c : tt A (cl s g) = tt A s
  · rw [if_pos c] at h; exact absurd rfl h
  · rw [if_neg c] at *
    obtain ⟨o, h1, h2, h3, h4⟩ := fs_q _ _ h
    exact ⟨o, h1, by omega, h4⟩
theorem cl_cm {s a b : Nat} : cl (cl s a) b = cl (cl s b) a := by
  unfold cl
  rw [Nat.and_assoc, Nat.and_comm (2 ^ a ^^^ (2 ^ 32 - 1)) (2 ^ b ^^^ (2 ^ 32 - 1)), ← Nat.and_assoc]
theorem bi_lt {s n j : Nat} (hs : s < 2 ^ n) (hb : bi s j = true) : j < n := by
  have := Nat.ge_two_pow_of_testBit (by rw [← bi_tb]; exact hb : s.testBit j = true)
  exact (Nat.pow_lt_pow_iff_right (show 1 < 2 by omega)).mp (by omega)
theorem wo_0 {s g : Nat} : wo s g 0 = cl s g := rfl
theorem wo_1 {s g o : Nat} : wo s g (o + 1) = cl (cl s g) o := by
  unfold wo
  rw [if_neg (by omega)]
  rfl
theorem pc_out {A : Nat → Nat} {w : Nat} (hw : w < 32) : ∀ d g s, ¬ bi s w = true → pc A w d g s = 0
  | 0, _, _ => fun _ => rfl
  | d + 1, g, s => fun h => by
    rw [pc_s]
    by_cases c : bi s g = true
    · rw [if_pos c, if_neg (fun (e : g = w) => h (by rw [← e]; exact c))]
      by_cases f : fp A s g = w + 1
      · obtain ⟨o, h1, h2, h3, h4⟩ := fp_1 (A := A) (s := s) (g := g) (by omega)
        have : o = w := by omega
        subst this
        exact absurd ((bi_cl hw).mp h3).1 h
      · rw [if_neg f]
        exact pc_out hw d (g + 1) _ (fun q => h ((bi_wo hw).mp q).1)
    · rw [if_neg c]
      exact pc_out hw d (g + 1) s h
/-- a place of the run: what is left, all from g on -/
def PS (n d g s : Nat) : Prop := n ≤ 7 ∧ g + d = n ∧ s < 2 ^ n ∧ ∀ j, j < g → ¬ bi s j = true
theorem PS_128 {n d g s : Nat} (h : PS n d g s) : s < 128 := Nat.lt_of_lt_of_le h.2.2.1 (p2_7 h.1)
theorem PS_no {n d g s : Nat} (h : PS n (d + 1) g s) (c : ¬ bi s g = true) : PS n d (g + 1) s := ⟨h.1, by have := h.2.1; omega, h.2.2.1, fun j hj => by
  by_cases z : j = g
  · rw [z]; exact c
  · exact h.2.2.2 j (by omega)⟩
theorem PS_wo {n d g s c : Nat} (h : PS n (d + 1) g s) : PS n d (g + 1) (wo s g c) := ⟨h.1, by have := h.2.1; omega, Nat.lt_of_le_of_lt wo_le h.2.2.1, fun j hj q => by
  have h1 := h.1
  have h2 := h.2.1
  have q := (bi_wo (by omega)).mp q
  exact h.2.2.2 j (by omega) q.1⟩
theorem pc_g {A : Nat → Nat} {d g s : Nat} (c : bi s g = true) : pc A g (d + 1) g s = fp A s g := by rw [pc_s, if_pos c, if_pos rfl]
theorem pc_o {A : Nat → Nat} {d g s o : Nat} (c : bi s g = true) (f : fp A s g = o + 1) (h : g ≠ o) : pc A o (d + 1) g s = g + 1 := by rw [pc_s, if_pos c, if_neg h, if_pos f]
theorem pc_w {A : Nat → Nat} {w d g s : Nat} (c : bi s g = true) (h : g ≠ w) (f : fp A s g ≠ w + 1) : pc A w (d + 1) g s = pc A w d (g + 1) (wo s g (fp A s g)) := by rw [pc_s, if_pos c, if_neg h, if_neg f]
theorem pc_n {A : Nat → Nat} {w d g s : Nat} (c : ¬ bi s g = true) : pc A w (d + 1) g s = pc A w d (g + 1) s := by rw [pc_s, if_neg c]
theorem pc_mate {A : Nat → Nat} {n : Nat} : ∀ d g s, PS n d g s → ∀ w, bi s w = true → pc A w d g s ≠ 0 → ∃ v, pc A w d g s = v + 1 ∧ v < n ∧ bi s v = true ∧ v ≠ w ∧ pc A v d g s = w + 1 ∧ isP A w v = true
  | 0, g, s => fun _ w _ h => absurd rfl h
  | d + 1, g, s => fun hP w hw h => by
    have hn := hP.1
    have hwn := bi_lt hP.2.2.1 hw
    by_cases c : bi s g = true
    · have hgn := bi_lt hP.2.2.1 c
      by_cases z : fp A s g = 0
      · by_cases e : g = w
        · subst e
          rw [pc_g c, z] at h
          exact absurd rfl h
        · rw [pc_w c e (by omega)] at h ⊢
          have hs : bi (wo s g (fp A s g)) w = true := (bi_wo (by omega)).mpr ⟨hw, fun q => e q.symm, fun q => absurd z q⟩
          obtain ⟨v, h1, h2, h3, h4, h5, h6⟩ := pc_mate d (g + 1) _ (PS_wo hP) w hs h
          have h3' := (bi_wo (by omega)).mp h3
          exact ⟨v, h1, h2, h3'.1, h4, by rw [pc_w c (fun q => h3'.2.1 q.symm) (by omega)]; exact h5, h6⟩
      · obtain ⟨o, f1, f2, f3, f4, f5⟩ := fp_1 z
        have hon := bi_lt (Nat.lt_of_le_of_lt cl_le hP.2.2.1) f3
        have f3' := (bi_cl (by omega)).mp f3
        by_cases e : g = w
        · subst e
          exact ⟨o, by rw [pc_g c, f1], hon, f3'.1, by omega, pc_o c f1 (by omega), f4⟩
        · by_cases e2 : w = o
          · subst e2
            exact ⟨g, pc_o c f1 (by omega), hgn, c, e, by rw [pc_g c, f1], isP_sy f4⟩
          · rw [pc_w c e (by omega)] at h ⊢
            have hs : bi (wo s g (fp A s g)) w = true := (bi_wo (by omega)).mpr ⟨hw, fun q => e q.symm, fun q => by omega⟩
            obtain ⟨v, h1, h2, h3, h4, h5, h6⟩ := pc_mate d (g + 1) _ (PS_wo hP) w hs h
            have h3' := (bi_wo (by omega)).mp h3
            have h3o := h3'.2.2 z
            exact ⟨v, h1, h2, h3'.1, h4, by rw [pc_w c (fun q => h3'.2.1 q.symm) (by omega)]; exact h5, h6⟩
    · rw [pc_n c] at h ⊢
      obtain ⟨v, h1, h2, h3, h4, h5, h6⟩ := pc_mate d (g + 1) s (PS_no hP c) w hw h
      exact ⟨v, h1, h2, h3, h4, by rw [pc_n c]; exact h5, h6⟩
/-- one that is left adds nothing -/
theorem pc_free {A : Nat → Nat} {n : Nat} (hA : A 0 = n) : ∀ d g s, PS n d g s → ∀ w, bi s w = true → pc A w d g s = 0 → tt A s ≤ tt A (cl s w)
  | 0, g, s => fun hP w hw _ => absurd hw (hP.2.2.2 w (by have := bi_lt hP.2.2.1 hw; have := hP.2.1; omega))
  | d + 1, g, s => fun hP w hw h => by
    have hn := hP.1
    have h128 := PS_128 hP
    have hwn := bi_lt hP.2.2.1 hw
    by_cases c : bi s g = true
    · have hgn := bi_lt hP.2.2.1 c
      by_cases e : g = w
      · subst e
        rw [pc_g c] at h
        rw [fp_0 h128 c hP.2.2.2 h]
        exact Nat.le_refl _
      · have cw : bi (cl s w) g = true := (bi_cl (by omega)).mpr ⟨c, e⟩
        have lw : ∀ j, j < g → ¬ bi (cl s w) j = true := fun j hj q => hP.2.2.2 j hj ((bi_cl (by omega)).mp q).1
        have tw := tt_g (A := A) (Nat.lt_of_le_of_lt cl_le h128) cw lw
        by_cases z : fp A s g = 0
        · rw [pc_w c e (by omega)] at h
          have hs : bi (wo s g (fp A s g)) w = true := (bi_wo (by omega)).mpr ⟨hw, fun q => e q.symm, fun q => absurd z q⟩
          have ih := pc_free hA d (g + 1) _ (PS_wo hP) w hs h
          rw [z, wo_0, fp_0 h128 c hP.2.2.2 z, cl_cm] at ih
          have := vf_t (A := A) (t := tt A) (g := g) (r := cl (cl s w) g) (A 0)
          omega
        · obtain ⟨o, f1, f2, f3, f4, f5⟩ := fp_1 z
          have hon := bi_lt (Nat.lt_of_le_of_lt cl_le hP.2.2.1) f3
          have f3' := (bi_cl (by omega)).mp f3
          have e2 : w ≠ o := fun q => by
            rw [q, pc_o c f1 (by omega)] at h
            omega
          rw [pc_w c e (by omega)] at h
          have hs : bi (wo s g (fp A s g)) w = true := (bi_wo (by omega)).mpr ⟨hw, fun q => e q.symm, fun q => by omega⟩
          have ih := pc_free hA d (g + 1) _ (PS_wo hP) w hs h
          rw [f1, wo_1, cl_cm (s := cl s g) (a := o), cl_cm (s := s) (a := g) (b := w)] at ih
          have ow : bi (cl (cl s w) g) o = true := (bi_cl (by omega)).mpr ⟨(bi_cl (by omega)).mpr ⟨f3'.1, fun q => e2 q.symm⟩, f3'.2⟩
          have := vf_ge (A := A) (t := tt A) f2 ow f4 (A 0) (by omega)
          omega
    · rw [pc_n c] at h
      exact pc_free hA d (g + 1) s (PS_no hP c) w hw h
/-- no two that are left would be a pair -/
theorem pc_left {A : Nat → Nat} {n : Nat} (hA : A 0 = n) : ∀ d g s, PS n d g s → ∀ a b, a < b → bi s a = true → bi s b = true → pc A a d g s = 0 → pc A b d g s = 0 → ¬ isP A a b = true
  | 0, g, s => fun hP a b _ ha _ _ _ => absurd ha (hP.2.2.2 a (by have := bi_lt hP.2.2.1 ha; have := hP.2.1; omega))
  | d + 1, g, s => fun hP a b hab ha hb h1 h2 => by
    have hn := hP.1
    have h128 := PS_128 hP
    have han := bi_lt hP.2.2.1 ha
    have hbn := bi_lt hP.2.2.1 hb
    by_cases c : bi s g = true
    · have hbg : b ≠ g := fun q => hP.2.2.2 a (by omega) ha
      by_cases z : fp A s g = 0
      · rw [pc_w c (fun q => hbg q.symm) (by omega)] at h2
        have hsb : bi (wo s g (fp A s g)) b = true := (bi_wo (by omega)).mpr ⟨hb, hbg, fun q => absurd z q⟩
        by_cases e : g = a
        · subst e
          intro hp
          have hf := pc_free hA d (g + 1) _ (PS_wo hP) b hsb h2
          rw [z, wo_0] at hf hsb
          have t0 := fp_0 h128 c hP.2.2.2 z
          have tg := tt_g (A := A) h128 c hP.2.2.2
          have := vf_ge (A := A) (t := tt A) hab hsb hp (A 0) (by omega)
          omega
        · rw [pc_w c e (by omega)] at h1
          exact pc_left hA d (g + 1) _ (PS_wo hP) a b hab ((bi_wo (by omega)).mpr ⟨ha, fun q => e q.symm, fun q => absurd z q⟩) hsb h1 h2
      · obtain ⟨o, f1, f2, f3, f4, f5⟩ := fp_1 z
        have e : g ≠ a := fun q => by
          subst q
          rw [pc_g c] at h1
          exact z h1
        have ea : a ≠ o := fun q => by
          rw [q, pc_o c f1 (by omega)] at h1
          omega
        have eb : b ≠ o := fun q => by
          rw [q, pc_o c f1 (by omega)] at h2
          omega
        rw [pc_w c e (by omega)] at h1
        rw [pc_w c (fun q => hbg q.symm) (by omega)] at h2
        exact pc_left hA d (g + 1) _ (PS_wo hP) a b hab ((bi_wo (by omega)).mpr ⟨ha, fun q => e q.symm, fun q => by omega⟩) ((bi_wo (by omega)).mpr ⟨hb, hbg, fun q => by omega⟩) h1 h2
    · rw [pc_n c] at h1 h2
      exact pc_left hA d (g + 1) s (PS_no hP c) a b hab ha hb h1 h2
/-- how many are told -/
def cf (f : Nat → Nat) : Nat → Nat
  | 0 => 0
  | n + 1 => cf f n + (if f n = 0 then 0 else 1)
theorem cf_c {f f' : Nat → Nat} : ∀ n, (∀ w, w < n → (f w = 0 ↔ f' w = 0)) → cf f n = cf f' n
  | 0, _ => rfl
  | n + 1, h => by
    unfold cf
    rw [cf_c n (fun w hw => h w (by omega))]
    by_cases z : f n = 0
    · rw [if_pos z, if_pos ((h n (by omega)).mp z)]
    · rw [if_neg z, if_neg (fun q => z ((h n (by omega)).mpr q))]
theorem cf_1 {f f' : Nat → Nat} {a : Nat} : ∀ n, a < n → (∀ w, w < n → w ≠ a → (f w = 0 ↔ f' w = 0)) → f a ≠ 0 → f' a = 0 → cf f n = cf f' n + 1
  | 0, h => absurd h (by omega)
  | n + 1, h => fun h1 h2 h3 => by
    unfold cf
    by_cases z : n = a
    · rw [cf_c n (fun w hw => h1 w (by omega) (by omega)), z, if_neg h2, if_pos h3]
    · rw [cf_1 n (by omega) (fun w hw => h1 w (by omega)) h2 h3]
      by_cases y : f n = 0
      · rw [if_pos y, if_pos ((h1 n (by omega) z).mp y)]
      · rw [if_neg y, if_neg (fun q => y ((h1 n (by omega) z).mpr q))]
theorem cf_le {f : Nat → Nat} : ∀ n, cf f n ≤ n
  | 0 => Nat.le_refl _
  | n + 1 => by
    have := cf_le (f := f) n
    unfold cf
    split <;> omega
theorem pc_many {A : Nat → Nat} {n : Nat} : ∀ d g s, PS n d g s → cf (fun w => pc A w d g s) n = 2 * tt A s
  | 0, g, s => fun hP => by
    have hz : s = 0 := Classical.byContradiction (fun q => by
      obtain ⟨i, hi⟩ := Nat.exists_testBit_of_ne_zero q
      have hb : bi s i = true := by rw [bi_tb]; exact hi
      exact hP.2.2.2 i (by have := bi_lt hP.2.2.1 hb; have := hP.2.1; omega) hb)
    subst hz
    have : ∀ k, cf (fun w => pc A w 0 g 0) k = 0 := fun k => by
      induction k with
      | zero => rfl
      | succ k ih =>
        unfold cf
        rw [ih]
        rfl
    rw [this]
    rfl
  | d + 1, g, s => fun hP => by
    have hn := hP.1
    have h128 := PS_128 hP
    by_cases c : bi s g = true
    · have hgn := bi_lt hP.2.2.1 c
      have ih := pc_many (A := A) d (g + 1) _ (PS_wo (c := fp A s g) hP)
      have gout : ∀ k, ¬ bi (wo s g k) g = true := fun k q => ((bi_wo (by omega)).mp q).2.1 rfl
      by_cases z : fp A s g = 0
      · have e : cf (fun w => pc A w (d + 1) g s) n = cf (fun w => pc A w d (g + 1) (wo s g (fp A s g))) n := cf_c n (fun w hw => by
          by_cases e : g = w
          · subst e
            rw [pc_g c, z, pc_out (by omega) _ _ _ (gout 0)]
          · rw [pc_w c e (by omega)])
        rw [e, ih, z, wo_0, fp_0 h128 c hP.2.2.2 z]
      · obtain ⟨o, f1, f2, f3, f4, f5⟩ := fp_1 z
        have hon := bi_lt (Nat.lt_of_le_of_lt cl_le hP.2.2.1) f3
        have oout : ¬ bi (wo s g (fp A s g)) o = true := fun q => by
          have := ((bi_wo (by omega)).mp q).2.2 z
          omega
        have e1 : cf (fun w => pc A w (d + 1) g s) n = cf (fun w => if w = g then 0 else pc A w (d + 1) g s) n + 1 := cf_1 (a := g) n hgn (fun w hw hwg => by rw [if_neg hwg]) (by rw [pc_g c]; exact z) (if_pos rfl)
        have e2 : cf (fun w => if w = g then 0 else pc A w (d + 1) g s) n = cf (fun w => pc A w d (g + 1) (wo s g (fp A s g))) n + 1 := cf_1 (a := o) n hon (fun w hw hwo => by
          by_cases e : w = g
          · rw [if_pos e, e, pc_out (by omega) _ _ _ (gout _)]
          · rw [if_neg e, pc_w c (fun q => e q.symm) (by omega)]) (by
          rw [if_neg (by omega), pc_o c f1 (by omega)]
          omega) (pc_out (by omega) _ _ _ oout)
        rw [e1, e2, ih, f1, wo_1]
        omega
    · have ih := pc_many (A := A) d (g + 1) s (PS_no hP c)
      rw [← ih]
      exact cf_c n (fun w hw => by rw [pc_n c])
