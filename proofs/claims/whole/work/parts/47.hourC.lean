section PH
variable {σ : St} {h : Nat} {a : Nat → Nat}
abbrev Fr (σ σ' : St) (h : Nat) : Prop := ∀ q, (q < h ∨ h + 8 < q) → σ' q = σ q
theorem st_of {g : Nat} : upN (st a g) (6 + g) (nsp a g) = st a (g + 1) := by
  funext i
  rw [st_step]
  rfl
set_option maxHeartbeats 4000000 in
set_option maxRecDepth 100000 in
theorem s_passHour (H : StR σ h a) (hB : Bd a) {Q : St → Prop} (hq : ∀ σ', StR σ' h (hr a) → Fr σ σ' h → Q σ') : V_X8_passHour h σ Q := by
  have hs : Sm a := hB.2.2.2.2.2.2.2.2
  have h0 := hB.1
  have h1 := hB.2.1
  have h14 := hB.2.2.1
  -- the second loop
  have loop2 : ∀ d g (σ1 : St), g + d = a 0 → StR σ1 h (st a g) → (∀ k, k < a 1 → σ1 (h + 8) k = nI (lets a k - cc a k g)) → Fr σ σ1 h → R_X8_passHour h Q 42 [nI g] [] σ1 := by
    intro d
    induction d with
    | zero =>
      intro g σ1 hg H1 hp hf
      refine i_X8_passHour_42 _ _ _ _ ?_
      unfold B_X8_passHour_42
      have e0 : st a g 0 = a 0 := st_lo (by omega)
      have H1' := H1
      obtain ⟨r0, r1, r14, r15, rw, rk, rm, rs, rg, rb, rh⟩ := H1
      rw [e0] at r0
      have e15 : st a g 15 = a 15 := st_hi (by omega)
      rw [e15] at r15
      have h15 := hB.2.2.2.1
      rw [r0, r15]
      refine ⟨fun _ s1 es1 => ?_, fun c => absurd (by rw [q_le (hs 0) (by omega)]; omega) c⟩
      subst es1
      have eg : g = a 0 := by omega
      subst eg
      refine hq _ ?_ (fun q hqq => by rw [us_ne (by omega)]; exact hf q hqq)
      unfold StR
      rw [us_same, us_ne (j := h + 1) (by omega), us_ne (j := h + 2) (by omega), us_ne (j := h + 3) (by omega), us_ne (j := h + 4) (by omega), us_ne (j := h + 5) (by omega), us_ne (j := h + 6) (by omega), us_ne (j := h + 7) (by omega)]
      have eh : ∀ i, i ≠ 15 → hr a i = st a (a 0) i := fun i hi => by rw [st_hr h0, if_neg hi]
      rw [eh 0 (by omega), eh 1 (by omega), eh 14 (by omega)]
      refine ⟨by rw [e0]; exact r0, r1, r14, ?_, fun i hi => by rw [eh _ (by omega)]; exact rw i hi, fun j hj => by rw [eh _ (by omega)]; exact rk j hj, fun j hj h7 => by rw [eh _ (by omega)]; exact rm j hj h7, fun j hj => by rw [eh _ (by rw [e0] at hj; omega)]; exact rs j hj, fun k hk => by rw [eh _ (by omega)]; exact rg k hk, fun k hk => by rw [eh _ (by omega)]; exact rb k hk, fun s hs2 => ?_⟩
      · rw [hr_15 h0, show nI (a 15) + 1 = nI (a 15 + 1) from nI_1 _]
        rfl
      · rw [bh_hr h0, ← st_bh (a := a) (g := a 0) h0]
        exact rh s hs2
    | succ d ih =>
      intro g σ1 hg H1 hp hf
      refine i_X8_passHour_42 _ _ _ _ ?_
      unfold B_X8_passHour_42
      have ht : Sm (st a g) := st_Sm hB (by omega)
      have e0 : st a g 0 = a 0 := st_lo (by omega)
      have e01 : st a g 1 = a 1 := st_lo (by omega)
      have eg : st a g (6 + g) = a (6 + g) := st_hi (by omega)
      have hgl := (hB.2.2.2.2.2.1 g (by omega))
      have hb3 := bh_sm (a := a) (s := a (6 + g))
      have hbl := bh_le (s := a (6 + g)) hB
      have H1' := H1
      obtain ⟨r0, r1, r14, r15, rw, rk, rm, rs, rg, rb, rh⟩ := H1
      have rsg : σ1 (h + 4) g = nI (a (6 + g)) := by rw [rs g (by omega), eg]
      have rhg : σ1 (h + 7) (a (6 + g)) = nI (bh a (a (6 + g))) := by rw [rh _ (by omega), st_bh (by omega)]
      rw [e0] at r0
      simp (disch := first | omega | exact hs _) only [q_m1, q_m1n, q_m1a, q_eq, q_le, q_lt, nI_add, pk_sub, pk_mul, pk_div, pk_rem, nI_clamp, q_in, zl0, zl1, zl2, zl3, zl4, zl5, zl6, zl7, zl8, zl9, zl10, zl11, zl12, zl13, zl14, zl15, zl16, zl17, zl18, zl19, zl20, zl21, zl22, zl23, zl24, zl25, zl26, zl27, zl28, zl29, zl30, zl31, zl32, zl36, zl37, zl38, zl40, zl42, zl43, zl44, zl48, zl53, zl54, zl57, zl59, zl60, zl61, zl63, zl64, zl70, zl71, zl72, zl77, zl78, zl90, zl97, zl98, zl99, zl100, zl101, zl102, zl106, zl111, zl122, zl127, zl128, zl150, zl181, zl256, zl362, zl9999, zl999999, zl1000000, r0, rsg, rhg]
      refine ⟨fun c => absurd c (by omega), fun _ => ⟨by omega, by omega, fun v ev => ⟨fun c => ?_, fun c => ?_⟩⟩⟩
      · subst ev
        have hb : bh a (a (6 + g)) ≠ 0 := fun q => c (by rw [q]; decide)
        obtain ⟨k, hk⟩ : ∃ k, bh a (a (6 + g)) = k + 1 := ⟨bh a (a (6 + g)) - 1, by omega⟩
        have hpk := hp k (by omega)
        have hlk := lets_le (k := k) hB
        have hrk := cc_rank hk hB
        have hck := cc_le (a := a) (k := k) (g := g)
        rw [hk, show nI (k + 1) - nI 1 = nI k from nI_pred k]
        have hnp : ∀ j, j < a 1 → j ≠ k → cc a j (g + 1) = cc a j g := fun j _ hj => cc_no (by omega) hB
        have hyes : cc a k (g + 1) = cc a k g + 1 := cc_yes hk hB
        simp (disch := first | omega | exact hs _) only [q_m1, q_m1n, q_m1a, q_eq, q_le, q_lt, nI_add, pk_sub, pk_mul, pk_div, pk_rem, nI_clamp, q_in, zl0, zl1, zl2, zl3, zl4, zl5, zl6, zl7, zl8, zl9, zl10, zl11, zl12, zl13, zl14, zl15, zl16, zl17, zl18, zl19, zl20, zl21, zl22, zl23, zl24, zl25, zl26, zl27, zl28, zl29, zl30, zl31, zl32, zl36, zl37, zl38, zl40, zl42, zl43, zl44, zl48, zl53, zl54, zl57, zl59, zl60, zl61, zl63, zl64, zl70, zl71, zl72, zl77, zl78, zl90, zl97, zl98, zl99, zl100, zl101, zl102, zl106, zl111, zl122, zl127, zl128, zl150, zl181, zl256, zl362, zl9999, zl999999, zl1000000, hpk]
        refine ⟨by omega, fun c2 => ?_, fun c2 => ⟨by omega, by omega, fun s3 es3 => ⟨by omega, by omega, fun s4 es4 => ?_⟩⟩⟩
        · have ens : nsp a g = a (6 + g) := by
            unfold nsp
            rw [if_neg hb, hk, show k + 1 - 1 = k from rfl, if_neg (by omega)]
            rfl
          refine ih (g + 1) σ1 (by omega) ?_ (fun j hj => ?_) hf
          · rw [← st_of, ens, ← eg, upN_self]
            exact H1'
          · by_cases e : j = k
            · subst e; rw [hp j hj, hyes]; congr 1; omega
            · rw [hp j hj, hnp j hj e]
        · have ens : nsp a g = a (6 + g) + 1 := by
            unfold nsp
            rw [if_neg hb, hk, show k + 1 - 1 = k from rfl, if_pos (by omega)]
          rw [show nI (lets a k - cc a k g) - nI 1 = nI (lets a k - cc a k g - 1) from pk_sub (by omega)] at es3
          subst es3
          rw [us_ne (j := h + 4) (by omega), rsg, show nI (a (6 + g)) + nI 1 = nI (a (6 + g) + 1) from nI_1 _] at es4
          have H3 : StR (us σ1 (h + 8) (upd (σ1 (h + 8)) k (nI (lets a k - cc a k g - 1)))) h (st a g) := H1'.congr (fun q _ _ => us_ne (by omega))
          have H4 := H3.spike (g := g) (v := a (6 + g) + 1) (by omega)
          rw [us_ne (j := h + 4) (by omega), ← ens, st_of] at H4
          rw [ens] at H4
          subst es4
          refine ih (g + 1) _ (by omega) H4 (fun j hj => ?_) (fun q hqq => by rw [us_ne (by omega), us_ne (by omega)]; exact hf q hqq)
          rw [us_ne (by omega), us_same]
          unfold upd
          by_cases e : j = k
          · subst e; rw [if_pos rfl, hyes]; congr 1
          · rw [if_neg e, hp j hj, hnp j hj e]
      · subst ev
        have hb : bh a (a (6 + g)) = 0 := by
          rw [← q_m1 (b := bh a (a (6 + g))) (by omega)]
          exact c
        have ens : wk a (gon a g) (a (6 + g)) = nsp a g := by unfold nsp; rw [if_pos hb]
        refine s_goesNow H1' ht (by omega) (by omega) (by rw [st_hi (by omega)]; exact hgl.1) (fun i hi => by rw [st_hi (by omega)]; exact hB.2.2.2.2.1 i hi) ?_
        refine s_walk H1' ht (by omega) (by omega) (by omega) (by rw [eg]; exact hgl.2) gon_le (fun σ2 H2 hf2 => ?_)
        rw [eg, st_wk (by omega), st_gon (by omega), ens, st_of] at H2
        refine ih (g + 1) σ2 (by omega) H2 (fun j hj => ?_) (fun q hqq => by rw [hf2 q (by omega)]; exact hf q hqq)
        rw [hf2 (h + 8) (by omega), hp j hj, cc_no (by omega) hB]
  have loop1 : ∀ d k (σ1 : St), k + d = a 1 → StR σ1 h a → (∀ j, j < k → σ1 (h + 8) j = nI (lets a j)) → Fr σ σ1 h → R_X8_passHour h Q 2 [nI k] [] σ1 := by
    intro d
    induction d with
    | zero =>
      intro k σ1 hk H1 hp hf
      refine i_X8_passHour_2 _ _ _ _ ?_
      unfold B_X8_passHour_2
      rw [H1.2.1]
      refine ⟨fun _ => loop2 (a 0) 0 σ1 (by omega) (by rw [st_0]; exact H1) (fun j hj => ?_) hf, fun c => absurd (by rw [q_le (hs 1) (by omega)]; omega) c⟩
      have cc0 : cc a j 0 = 0 := by unfold cc; split <;> rfl
      rw [cc0]
      exact hp j (by omega)
    | succ d ih =>
      intro k σ1 hk H1 hp hf
      refine i_X8_passHour_2 _ _ _ _ ?_
      unfold B_X8_passHour_2
      rw [H1.2.1]
      have nxt : ∀ v, v = lets a k → R_X8_passHour h Q 2 [nI k + 1] [] (us σ1 (h + 8) (upd (σ1 (h + 8)) k (nI v))) := fun v ev => by
        rw [nI_1]
        refine ih (k + 1) _ (by omega) (H1.congr (fun q _ _ => us_ne (by omega))) (fun j hj => ?_) (fun q hqq => by rw [us_ne (by omega)]; exact hf q hqq)
        rw [us_same]
        unfold upd
        by_cases e : j = k
        · subst e; rw [if_pos rfl, ev]
        · rw [if_neg e]; exact hp j (by omega)
      have hbit : a 14 / 2 ^ k % 2 < 2 := Nat.mod_lt _ (by omega)
      refine ⟨fun c => absurd (by rw [q_le (hs 1) (by omega)] at c; exact c) (by omega), fun _ => v_shutBit (hs 14) (by omega) H1.2.2.1 ?_⟩
      have ein : vp_in (nI k) 3 := vp_in_nI (by omega) (by omega)
      have ecl : (nI k).toNatClampNeg = k := nI_clamp (by omega)
      refine ⟨fun c => s_letsNow H1 hB (by omega) ⟨ein, fun s3 es3 => ?_⟩, fun c => ⟨ein, fun s3 es3 => ?_⟩⟩
      · rw [es3, ecl]
        refine nxt _ ?_
        unfold lets
        rw [if_neg (show ¬ a 1 ≤ k by omega), if_neg (show ¬ a 14 / 2 ^ k % 2 = 1 from fun q => c (by rw [q]; rfl))]
      · rw [es3, ecl]
        refine nxt 0 ?_
        unfold lets
        rw [if_neg (show ¬ a 1 ≤ k by omega), if_pos (show a 14 / 2 ^ k % 2 = 1 by
          have := c
          rw [show (1 : Int32) = nI 1 from rfl, q_eq (by omega) (by omega)] at this
          exact this)]
  exact loop1 (a 1) 0 σ (by omega) H (fun j hj => absurd hj (by omega)) (fun _ _ => rfl)
set_option maxHeartbeats 4000000 in
set_option maxRecDepth 100000 in
theorem s_pass (H : StR σ h a) (hB : Bd a) {m : Nat} (hm : a 15 + m < 1000000) {Q : St → Prop} (hq : ∀ σ', StR σ' h (it m a) → Fr σ σ' h → Q σ') : V_X8_pass h (nI m) σ Q := by
  unfold V_X8_pass B_X8_pass_e
  have loop : ∀ d i (σ1 : St), i + d = m → StR σ1 h (it i a) → Fr σ σ1 h → R_X8_pass h (nI m) Q 2 [nI i] [] σ1 := by
    intro d
    induction d with
    | zero =>
      intro i σ1 hi H1 hf
      refine i_X8_pass_2 _ _ _ _ _ ?_
      unfold B_X8_pass_2
      rw [(by omega : i = m)] at *
      exact ⟨fun _ => hq σ1 H1 hf, fun c => absurd (by rw [q_le (by omega) (by omega)]; omega) c⟩
    | succ d ih =>
      intro i σ1 hi H1 hf
      refine i_X8_pass_2 _ _ _ _ _ ?_
      unfold B_X8_pass_2
      refine ⟨fun c => absurd (by rw [q_le (by omega) (by omega)] at c; exact c) (by omega), fun _ => s_passHour H1 (Bd_it hB i (by omega)) (fun σ2 H2 hf2 => ?_)⟩
      rw [nI_1]
      rw [← it_succ] at H2
      exact ih (i + 1) σ2 (by omega) H2 (fun q hqq => by rw [hf2 q hqq]; exact hf q hqq)
  exact loop m 0 σ (by omega) H (fun _ _ => rfl)
end PH
