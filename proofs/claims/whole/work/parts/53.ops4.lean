section O4
variable {σ τ : St} {a1 a2 a3 a4 : Int32}
def zA (A : Nat → Nat) : Nat → Nat := fun i => if i < 101 then 0 else A i
theorem zA_lo {A : Nat → Nat} {i : Nat} (h : i < 101) : zA A i = 0 := if_pos h
theorem WFA_z {A : Nat → Nat} (h : Sm A) : WFA (zA A) := by
  have z : ∀ i, i < 101 → zA A i = 0 := fun i hi => zA_lo hi
  have z0 := z 0 (by omega)
  have z1 := z 1 (by omega)
  have z2 := z 2 (by omega)
  have z3 := z 3 (by omega)
  have z4 := z 4 (by omega)
  have z5 := z 5 (by omega)
  have z14 := z 14 (by omega)
  have z15 := z 15 (by omega)
  have hs : ∀ i, zA A i < 2147483648 := fun i => by
    unfold zA
    split
    · omega
    · exact h i
  refine ⟨⟨by omega, by omega, by omega, by omega, fun i hi => by rw [z _ (by omega)]; omega, fun g hg => absurd hg (by omega), fun g hg => absurd hg (by omega), fun g j hg => absurd hg (by omega), hs⟩, by omega, by omega, by omega, by omega, by omega, by omega, fun g hg => absurd hg (by omega), fun g hg => absurd hg (by omega), fun g hg => absurd hg (by omega), fun g hg => absurd hg (by omega), fun g hg => absurd hg (by omega)⟩
theorem RowC.c {σ σ' : St} (h : RowC σ) (e : ∀ q, q = 13 ∨ q = 15 ∨ q = 17 → σ' q 1 = σ q 1 ∧ σ' q 2 = σ q 2) : RowC σ' := by
  unfold RowC at *
  rw [(e 13 (by omega)).1, (e 13 (by omega)).2, (e 15 (by omega)).1, (e 15 (by omega)).2, (e 17 (by omega)).1, (e 17 (by omega)).2]
  exact h
end O4
