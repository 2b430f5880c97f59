section O6
variable {σ τ : St} {a1 a2 a3 a4 : Int32}
theorem okG {n : Nat} {x : Int32} (k : okI x 0 ((n : Int) - 1)) : ∃ g, g < n ∧ x = nI g := by
  rcases Nat.eq_zero_or_pos n with z | z
  · have := k.1; have := k.2; omega
  · obtain ⟨g, -, hg, e⟩ := okI_ex (a := 0) (b := n - 1) (x := x) ⟨k.1, by have := k.2; omega⟩
    exact ⟨g, by omega, e⟩
set_option maxHeartbeats 4000000 in
set_option maxRecDepth 100000 in
theorem p_about (hJ : J σ τ) : V_X10_about a1 a2 σ (fun r σ' => V_X11_about a1 a2 τ (fun r' τ' => r = r' ∧ J σ' τ')) := by
  obtain ⟨S, B, HC, HM, HW⟩ := hJ
  unfold V_X10_about B_X10_about_e V_X11_about B_X11_about_e
  obtain ⟨wB, w0, w15, w2, w3, w4, w5, wse, wno, wma, wpa, wmk⟩ := HW.1
  have hsm : Sm (S 0) := wB.2.2.2.2.2.2.2.2
  have h3 := wB.2.1
  have h14 := wB.2.2.1
  by_cases k1 : okI a1 0 ((S 0 1 : Int) - 1)
  · refine c_isC1 HC h3 k1 (fr_t (by decide) ?_)
    obtain ⟨k, hk, rfl⟩ := okG k1
    have hkl := wB.2.2.2.2.2.2.1 k hk
    have hc := cnt_le (a := S 0) (s := S 0 (40 + k)) (S 0 0)
    obtain ⟨r0, r1, r14, r15, rw_, rk, rm, rs, rg, rb, rh⟩ := HC.1.1
    have ein : vp_in (nI k) 3 := vp_in_nI (by omega) (by omega)
    have ecl : (nI k).toNatClampNeg = k := nI_clamp (by omega)
    have jj : J σ τ := ⟨S, B, HC, HM, HW⟩
    by_cases k2 : okI a2 0 4
    · obtain ⟨w, -, hw, rfl⟩ := okI_ex (a := 0) (b := 4) k2
      have mm : ∀ {Qm : Int32 → St → Prop}, ((w = 0 → Qm (nI (S 0 (37 + k))) τ) ∧ (w = 1 → Qm (nI (S 0 (40 + k))) τ) ∧ (w = 2 → Qm (nI (S 0 14 / 2 ^ k % 2)) τ) ∧ (w = 3 → Qm (nI (cnt (S 0) (S 0 (40 + k)) (S 0 0))) τ) ∧ (w = 4 → Qm (nI (if cnt (S 0) (S 0 (40 + k)) (S 0 0) = 0 then 0 else lA (S 0 (37 + k)) (S 0 15) (cnt (S 0) (S 0 (40 + k)) (S 0 0)))) τ)) → V_X11_isCrossing (nI k) τ (fun r1 s1 => (r1 = 0 → R_X11_about (nI k) (nI w) Qm 20 [] [] s1) ∧ (¬ r1 = 0 → V_X11_in (nI w).toInt64 0 4 s1 (fun r2 s2 => (¬ r2 = 0 → vp_in (40 + nI k) 181 ∧ V_X11_manyAt 1 181 (s2 1 (40 + nI k).toNatClampNeg) s2 (fun r3 s3 => (nI w = 0 → vp_in (37 + nI k) 181 ∧ Qm (s3 1 (37 + nI k).toNatClampNeg) s3) ∧ (¬ nI w = 0 → (nI w = 1 → vp_in (40 + nI k) 181 ∧ Qm (s3 1 (40 + nI k).toNatClampNeg) s3) ∧ (¬ nI w = 1 → (nI w = 2 → Qm (((s3 1 14) >>> (nI k &&& 31)) &&& 1) s3) ∧ (¬ nI w = 2 → (nI w = 3 → Qm r3 s3) ∧ (¬ nI w = 3 → (¬ r3 = 0 → vp_in (37 + nI k) 181 ∧ V_X11_letsAs (s3 1 (37 + nI k).toNatClampNeg) (s3 1 15) r3 s3 (fun r4 s4 => Qm r4 s4)) ∧ (r3 = 0 → Qm 0 s3))))))) ∧ (r2 = 0 → R_X11_about (nI k) (nI w) Qm 20 [] [] s2)))) := fun {Qm} q => by
        refine m_isC1 HM h3 k1 (br_f (by decide) (mw1 k2 rfl rfl (fr_t (by decide) ?_)))
        have e37 : (37 + nI k).toNatClampNeg = 37 + k := by rw [show (37 : Int32) = nI 37 from rfl, nI_add, nI_clamp (by omega)]
        have e40 : (40 + nI k).toNatClampNeg = 40 + k := by rw [show (40 : Int32) = nI 40 from rfl, nI_add, nI_clamp (by omega)]
        have i37 : vp_in (37 + nI k) 181 := by rw [show (37 : Int32) = nI 37 from rfl, nI_add]; exact vp_in_nI (by omega) (by omega)
        have i40 : vp_in (40 + nI k) 181 := by rw [show (40 : Int32) = nI 40 from rfl, nI_add]; exact vp_in_nI (by omega) (by omega)
        rw [e37, e40, HM.1 (40 + k) (by omega)]
        refine ⟨i40, m_manyAt HM.1 (by omega) (by omega) (by omega) hsm (hsm _) ?_⟩
        rw [HM.1 (37 + k) (by omega), HM.1 (40 + k) (by omega), HM.1 14 (by omega), HM.1 15 (by omega), q_bit (hsm 14) (by omega)]
        rcases (by omega : w = 0 ∨ w = 1 ∨ w = 2 ∨ w = 3 ∨ w = 4) with rfl | rfl | rfl | rfl | rfl
        · exact br_t rfl ⟨i37, q.1 rfl⟩
        · exact br_f (by decide) (br_t rfl ⟨i40, q.2.1 rfl⟩)
        · exact br_f (by decide) (br_f (by decide) (br_t rfl (q.2.2.1 rfl)))
        · exact br_f (by decide) (br_f (by decide) (br_f (by decide) (br_t rfl (q.2.2.2.1 rfl))))
        · refine br_f (by decide) (br_f (by decide) (br_f (by decide) (br_f (by decide) ?_)))
          have := q.2.2.2.2 rfl
          refine ⟨fun c => ⟨i37, v_letsAs hkl.1 (hsm 15) (by omega) ?_⟩, fun c => ?_⟩
          · rw [if_neg (fun z => c (by rw [z]; rfl))] at this; exact this
          · have z : cnt (S 0) (S 0 (40 + k)) (S 0 0) = 0 := by
              rw [show (0 : Int32) = nI 0 from rfl, q_eq (by omega) (by omega)] at c
              exact c
            rw [if_pos z] at this; exact this
      rw [ecl, show σ 7 k = nI (S 0 (37 + k)) from rg k hk, show σ 8 k = nI (S 0 (40 + k)) from rb k hk]
      rcases (by omega : w = 0 ∨ w = 1 ∨ w = 2 ∨ w = 3 ∨ w = 4) with rfl | rfl | rfl | rfl | rfl
      · exact br_t rfl ⟨ein, mm ⟨fun _ => ⟨rfl, jj⟩, fun c => absurd c (by decide), fun c => absurd c (by decide), fun c => absurd c (by decide), fun c => absurd c (by decide)⟩⟩
      · exact br_f (by decide) (br_t rfl ⟨ein, mm ⟨fun c => absurd c (by decide), fun _ => ⟨rfl, jj⟩, fun c => absurd c (by decide), fun c => absurd c (by decide), fun c => absurd c (by decide)⟩⟩)
      · exact br_f (by decide) (br_f (by decide) (br_t rfl (v_shutBit (hsm 14) (by omega) r14 (mm ⟨fun c => absurd c (by decide), fun c => absurd c (by decide), fun _ => ⟨rfl, jj⟩, fun c => absurd c (by decide), fun c => absurd c (by decide)⟩))))
      · exact br_f (by decide) (br_f (by decide) (br_f (by decide) (br_t rfl (s_waitingBehind HC.1.1 hsm (by omega) h3 hk (mm ⟨fun c => absurd c (by decide), fun c => absurd c (by decide), fun c => absurd c (by decide), fun _ => ⟨rfl, jj⟩, fun c => absurd c (by decide)⟩)))))
      · exact br_f (by decide) (br_f (by decide) (br_f (by decide) (br_f (by decide) (br_t rfl (s_letsNow HC.1.1 wB hk (mm ⟨fun c => absurd c (by decide), fun c => absurd c (by decide), fun c => absurd c (by decide), fun c => absurd c (by decide), fun _ => ⟨rfl, jj⟩⟩))))))
    · have n : ∀ j : Nat, j ≤ 4 → ¬ a2 = nI j := fun j hj e => k2 (by rw [e]; exact (okI_nI (n := 4) (by omega)).mpr hj)
      exact br_f (n 0 (by omega)) (br_f (n 1 (by omega)) (br_f (n 2 (by omega)) (br_f (n 3 (by omega)) (br_f (n 4 (by omega)) (c_bad HC (fun σ' HC' => m_isC1 HM h3 k1 (br_f (by decide) (mw0 k2 rfl rfl (fr_f (by decide) (i_X11_about_20 _ _ _ _ (m_bad HM (fun τ' HM' => ⟨rfl, S, bb B 0, HC', HM', HW⟩))))))))))))
  · exact c_isC0 HC h3 k1 (fr_f (by decide) (c_bad HC (fun σ' HC' => m_isC0 HM h3 k1 (br_t rfl (i_X11_about_20 _ _ _ _ (m_bad HM (fun τ' HM' => ⟨rfl, S, bb B 0, HC', HM', HW⟩)))))))
/-! what was told -/
/-- a row of numbers that is no part of the street is changed -/
theorem WFA.tail {A A' : Nat → Nat} (h : WFA A) (f : ∀ i, (i < 2 ∨ 5 ≤ i) → (i < 43 ∨ 101 ≤ i) → A' i = A i) (h2 : A' 2 ≤ 5) (h3 : A' 3 ≤ 6) (h4 : A' 4 ≤ 6) (hse : ∀ i, i < A' 2 → A' (43 + 2 * i) ≤ 60 ∧ A' (43 + 2 * i + 1) ≤ 23) (hno : ∀ i, i < A' 3 → A' (53 + 4 * i + 1) ≤ 99 ∧ A' (53 + 4 * i + 2) ≤ 4) (hma : ∀ i, i < A' 4 → A' (77 + 4 * i + 1) ≤ 99 ∧ A' (77 + 4 * i + 2) ≤ 7) (hs : ∀ i, A' i < 2147483648) : WFA A' := by
  obtain ⟨⟨b0, b1, b14, b15, bw, bg, bc, bd, bs⟩, w0, w15, w2, w3, w4, w5, wse, wno, wma, wpa, wmk⟩ := h
  have f0 := f 0 (by omega) (by omega)
  have f1 := f 1 (by omega) (by omega)
  have f5 := f 5 (by omega) (by omega)
  have f14 := f 14 (by omega) (by omega)
  have f15 := f 15 (by omega) (by omega)
  refine ⟨⟨by omega, by omega, by omega, by omega, fun i hi => ?_, fun g hg => ?_, fun k hk => ?_, fun j k hj hk => ?_, hs⟩, by omega, by omega, h2, h3, h4, by omega, hse, hno, hma, fun r hr => ?_, fun g hg => ?_⟩
  · rw [f _ (by omega) (by omega)]; exact bw i hi
  · rw [f _ (by omega) (by omega), f _ (by omega) (by omega)]; exact bg g (by omega)
  · rw [f _ (by omega) (by omega), f _ (by omega) (by omega)]; exact bc k (by omega)
  · rw [f _ (by omega) (by omega), f _ (by omega) (by omega)]; exact bd j k (by omega) (by omega)
  · rw [f (101 + 10 * r + 8) (by omega) (by omega), f (101 + 10 * r + 9) (by omega) (by omega)]
    refine ⟨fun g hg => ?_, (wpa r (by omega)).2⟩
    rw [f _ (by omega) (by omega)]
    exact (wpa r (by omega)).1 g (by omega)
  · rw [f _ (by omega) (by omega)]; exact wmk g (by omega)
theorem SceR.tail {σ' : St} {c : Nat} {A A' : Nat → Nat} (H : SceR σ c A) (h7 : A 0 ≤ 7) (h3 : A 1 ≤ 3) (e : ∀ q, c + 1 ≤ q → q ≤ c + 11 → σ' q = σ q) (f : ∀ i, (i < 2 ∨ 5 ≤ i) → (i < 43 ∨ 101 ≤ i) → A' i = A i) (hs : SeR σ' (c + 12) A') (hn : FoR σ' (c + 14) A' 3 53) (hm : FoR σ' (c + 16) A' 4 77) : SceR σ' c A' :=
  ⟨(H.1.congr (fun q _ _ => e q (by omega) (by omega))).cA (fun i hi h => f i (by omega) (by omega)) h7 h3, H.2.1.c (e _ (by omega) (by omega)) (e _ (by omega) (by omega)) (f 5 (by omega) (by omega)) (f 0 (by omega) (by omega)) (fun i hi => f i (by omega) (by omega)), hs, hn, hm⟩
set_option maxHeartbeats 4000000 in
set_option maxRecDepth 100000 in
theorem p_forget (hJ : J σ τ) : V_X10_forget a1 σ (fun r σ' => V_X11_forget a1 τ (fun r' τ' => r = r' ∧ J σ' τ')) := by
  obtain ⟨S, B, HC, HM, HW⟩ := hJ
  unfold V_X10_forget B_X10_forget_e V_X11_forget B_X11_forget_e V_X6_empty B_X6_empty_e
  obtain ⟨wB, w0, w15, w2, w3, w4, w5, wse, wno, wma, wpa, wmk⟩ := HW.1
  have hsm : Sm (S 0) := wB.2.2.2.2.2.2.2.2
  by_cases k1 : okI a1 0 2
  · obtain ⟨w, -, hw, rfl⟩ := okI_ex (a := 0) (b := 2) k1
    obtain ⟨hst, hpa, hse, hno, hma⟩ := HC.1
    have e2 : (2 + nI w).toNatClampNeg = 2 + w := by rw [show (2 : Int32) = nI 2 from rfl, nI_add, nI_clamp (by omega)]
    have i2 : vp_in (2 + nI w) 181 := by rw [show (2 : Int32) = nI 2 from rfl, nI_add]; exact vp_in_nI (by omega) (by omega)
    have hv : σ (13 + 2 * w) 3 = nI (S 0 (2 + w)) := by
      rcases (by omega : w = 0 ∨ w = 1 ∨ w = 2) with rfl | rfl | rfl
      · exact hse.1
      · exact hno.1
      · exact hma.1
    have fin : ∀ s1, s1 = us σ (13 + 2 * w) (upd (σ (13 + 2 * w)) 3 0) → V_X11_in (nI w).toInt64 0 2 τ (fun r1 s2 => (¬ r1 = 0 → vp_in (2 + nI w) 181 ∧ ∀ v2, v2 = s2 1 (2 + nI w).toNatClampNeg → vp_in (2 + nI w) 181 ∧ ∀ s3, s3 = us s2 1 (upd (s2 1) (2 + nI w).toNatClampNeg 0) → (σ (13 + 2 * w) 3 = v2 ∧ J s1 s3)) ∧ (r1 = 0 → V_X11_bad (-2) s2 (fun r4 s4 => σ (13 + 2 * w) 3 = r4 ∧ J s1 s4))) := fun s1 es1 => by
      refine mw1 k1 rfl rfl (fr_t (by decide) ⟨i2, fun v2 ev2 => ⟨i2, fun s3 es3 => ?_⟩⟩)
      rw [e2] at ev2 es3
      subst ev2; subst es3; subst es1
      refine ⟨by rw [hv]; exact (HM.1 _ (by omega)).symm, _, B, HC.sc (A' := upN (S 0) (2 + w) 0) (fun q hq => us_ne (by omega)) ?_ (HC.2.2.2.1.c (fun q hq => ?_)), HM.up (i := 2 + w) (v := 0), HW.sA (HW.1.tail (fun i h1 h2 => upN_n (by omega)) ?_ ?_ ?_ (fun i hi => ?_) (fun i hi => ?_) (fun i hi => ?_) (fun i => ?_))⟩
      · refine SceR.tail HC.1 w0 wB.2.1 (fun q h1 h2 => us_ne (by omega)) (fun i h1 h2 => upN_n (by omega)) ?_ ?_ ?_
        · by_cases z : w = 0
          · subst z
            exact ⟨by rw [us_same, pk_us]; exact (congrArg nI upN_s).symm, fun i hi => absurd hi (by rw [show upN (S 0) (2 + 0) 0 2 = 0 from upN_s]; omega)⟩
          · exact hse.c (us_ne (by omega)) (us_ne (by omega)) w2 (upN_n (by omega)) (fun i h1 h2 => upN_n (by omega))
        · by_cases z : w = 1
          · subst z
            exact ⟨by rw [us_same, pk_us]; exact (congrArg nI upN_s).symm, fun i hi => absurd hi (by rw [show upN (S 0) (2 + 1) 0 3 = 0 from upN_s]; omega)⟩
          · exact hno.c (us_ne (by omega)) (us_ne (by omega)) w3 (upN_n (by omega)) (fun i h1 h2 => upN_n (by omega))
        · by_cases z : w = 2
          · subst z
            exact ⟨by rw [us_same, pk_us]; exact (congrArg nI upN_s).symm, fun i hi => absurd hi (by rw [show upN (S 0) (2 + 2) 0 4 = 0 from upN_s]; omega)⟩
          · exact hma.c (us_ne (by omega)) (us_ne (by omega)) w4 (upN_n (by omega)) (fun i h1 h2 => upN_n (by omega))
      · by_cases z : q = 13 + 2 * w
        · subst z; rw [us_same, pk_un (by omega), pk_un (by omega)]; exact ⟨rfl, rfl⟩
        · rw [us_ne z]; exact ⟨rfl, rfl⟩
      · unfold upN; split <;> omega
      · unfold upN; split <;> omega
      · unfold upN; split <;> omega
      · rw [upN_n (by omega), upN_n (by omega)]
        refine wse i ?_
        unfold upN at hi
        split at hi
        · omega
        · exact hi
      · rw [upN_n (by omega), upN_n (by omega)]
        refine wno i ?_
        unfold upN at hi
        split at hi
        · omega
        · exact hi
      · rw [upN_n (by omega), upN_n (by omega)]
        refine wma i ?_
        unfold upN at hi
        split at hi
        · omega
        · exact hi
      · unfold upN
        split
        · omega
        · exact hsm i
    rcases (by omega : w = 0 ∨ w = 1 ∨ w = 2) with rfl | rfl | rfl
    · exact br_t rfl fin
    · exact br_f (by decide) (br_t rfl fin)
    · exact br_f (by decide) (br_f (by decide) (br_t rfl fin))
  · have n : ∀ j : Nat, j ≤ 2 → ¬ a1 = nI j := fun j hj e => k1 (by rw [e]; exact (okI_nI (n := 2) (by omega)).mpr hj)
    exact br_f (n 0 (by omega)) (br_f (n 1 (by omega)) (br_f (n 2 (by omega)) (c_bad HC (fun σ' HC' => mw0 k1 rfl rfl (fr_f (by decide) (m_bad HM (fun τ' HM' => ⟨rfl, S, bb B 0, HC', HM', HW⟩)))))))
end O6
