section O4b
variable {σ τ : St} {a1 a2 a3 a4 : Int32}
set_option maxHeartbeats 4000000 in
set_option maxRecDepth 100000 in
theorem c_empty {S : SS} {B : CB} {A' : Nat → Nat} (HC : CR σ S B) (hz : ∀ i, i < 101 → A' i = 0) {Q : St → Prop} (hq : ∀ σ', CR σ' (sA S A') B → (∀ q, 18 < q → σ' q = σ q) → Q σ') : V_X7_empty 1 σ Q := by
  unfold V_X7_empty B_X7_empty_e
  refine s_empty (a' := A') (hz 0 (by omega)) (hz 1 (by omega)) (hz 14 (by omega)) (hz 15 (by omega)) (fun i hi => hz _ (by omega)) (fun σ1 H1 hf => ?_)
  intro s2 e2
  unfold V_X6_empty B_X6_empty_e
  intro s3 e3 s4 e4 s5 e5
  subst e2; subst e3; subst e4; subst e5
  refine hq _ (HC.sc (fun q hq => ?_) ⟨?_, PaR.z ?_ (hz 5 (by omega)), ⟨?_, fun i hi => absurd hi (by rw [hz 2 (by omega)]; omega)⟩, ⟨?_, fun i hi => absurd hi (by rw [hz 3 (by omega)]; omega)⟩, ⟨?_, fun i hi => absurd hi (by rw [hz 4 (by omega)]; omega)⟩⟩ (HC.2.2.2.1.c (fun q hq => ?_))) (fun q hq => ?_)
  · rw [us_ne (by omega), us_ne (by omega), us_ne (by omega), us_ne (by omega)]; exact hf q (by omega)
  · exact H1.congr (fun q _ _ => by rw [us_ne (by omega), us_ne (by omega), us_ne (by omega), us_ne (by omega)])
  · simp (disch := omega) only [us_same, us_ne, pk_us]; rfl
  · simp (disch := omega) only [us_same, us_ne, pk_us]; rw [hz 2 (by omega)]; rfl
  · simp (disch := omega) only [us_same, us_ne, pk_us]; rw [hz 3 (by omega)]; rfl
  · simp (disch := omega) only [us_same, us_ne, pk_us]; rw [hz 4 (by omega)]; rfl
  · rcases hq with rfl | rfl | rfl
    · simp (disch := omega) only [us_same, us_ne, pk_un]
      rw [hf 13 (by omega)]; exact ⟨rfl, rfl⟩
    · simp (disch := omega) only [us_same, us_ne, pk_un]
      rw [hf 15 (by omega)]; exact ⟨rfl, rfl⟩
    · simp (disch := omega) only [us_same, us_ne, pk_un]
      rw [hf 17 (by omega)]; exact ⟨rfl, rfl⟩
  · rw [us_ne (by omega), us_ne (by omega), us_ne (by omega), us_ne (by omega)]; exact hf q (by omega)
end O4b
