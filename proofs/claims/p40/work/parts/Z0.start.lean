theorem mw_32 : Cond.instantiable RX10 13 ∈ lw_tbl := mt_1 (List.mem_of_getElem? (i := 16) rfl)
theorem mw_765 : Cond.methodLinkNest RX8 55 yX10_within "GloveRail" ∈ lw_tbl := mt_4 (List.mem_of_getElem? (i := 29) rfl)
theorem mw_41 : Cond.methodLinkNest RX10 9 yX7_init "GloveRail" ∈ lw_tbl := mt_1 (List.mem_of_getElem? (i := 25) rfl)
theorem mw_172 : Cond.methodLinkNest RX10 24 yX0_init "GloveRail" ∈ lw_tbl := mt_1 (List.mem_of_getElem? (i := 156) rfl)
theorem mw_196 : Cond.methodLinkNest RX10 31 yX2_init "GloveRail" ∈ lw_tbl := mt_1 (List.mem_of_getElem? (i := 180) rfl)
theorem mw_209 : Cond.methodLinkNest RX10 38 yX3_init "GloveRail" ∈ lw_tbl := mt_1 (List.mem_of_getElem? (i := 193) rfl)
theorem mw_230 : Cond.methodLinkNest RX10 45 yX5_init "GloveRail" ∈ lw_tbl := mt_1 (List.mem_of_getElem? (i := 214) rfl)
theorem mw_177 : Cond.methodLinkNest RX0 11 yX8_init "GloveRail" ∈ lw_tbl := mt_1 (List.mem_of_getElem? (i := 161) rfl)
theorem mw_236 : Cond.methodLinkNest RX5 11 yX9_init "GloveRail" ∈ lw_tbl := mt_1 (List.mem_of_getElem? (i := 220) rfl)
theorem mw_256 : Cond.methodLinkNest RX5 20 yX8_init "GloveRail" ∈ lw_tbl := mt_2 (List.mem_of_getElem? (i := 0) rfl)
theorem mw_47 : Cond.methodLinkNest RX7 9 yX8_init "GloveRail" ∈ lw_tbl := mt_1 (List.mem_of_getElem? (i := 31) rfl)
theorem mw_112 : Cond.methodLinkNest RX7 18 yX4_init "GloveRail" ∈ lw_tbl := mt_1 (List.mem_of_getElem? (i := 96) rfl)
theorem mw_31 : Cond.classLink RL 20 RX10 ∈ lw_tbl := mt_1 (List.mem_of_getElem? (i := 15) rfl)
theorem mw_33 : Cond.methodLink RL 35 yX10_init ∈ lw_tbl := mt_1 (List.mem_of_getElem? (i := 17) rfl)
theorem mw_34 : Cond.instanceMethod yX10_init ∈ lw_tbl := mt_1 (List.mem_of_getElem? (i := 18) rfl)
section LS
variable {s : State} {b : Nat}
set_option maxHeartbeats 4000000 in
set_option maxRecDepth 100000 in
theorem lf_K (hts : ∀ w ∈ lw_tbl, w.before #[Value.ref b] s = true) : ∃ (dC : Nat → ClassId) (dI : Nat → Nat → Nat) (cA cZ : ClassId), KN dC dI cA cZ s := by
  obtain ⟨c0, j0, h0⟩ := u_known (C := RX0) (T := TX0) (N := 4) (n := 4) hts ig_wsX00 (hts (.instantiable RX0 4) mw_171)
  obtain ⟨c1, j1, h1⟩ := u_known (C := RX2) (T := TX2) (N := 2) (n := 2) hts ig_wsX20 (hts (.instantiable RX2 2) mw_195)
  obtain ⟨c2, j2, h2⟩ := u_known (C := RX3) (T := TX3) (N := 4) (n := 4) hts ig_wsX30 (hts (.instantiable RX3 4) mw_208)
  obtain ⟨c3, j3, h3⟩ := u_known (C := RX4) (T := TX4) (N := 2) (n := 2) hts ig_wsX40 (hts (.instantiable RX4 2) mw_111)
  obtain ⟨c4, j4, h4⟩ := u_known (C := RX5) (T := TX5) (N := 2) (n := 2) hts ig_wsX50 (hts (.instantiable RX5 2) mw_229)
  obtain ⟨c5, j5, h5⟩ := u_known (C := RX6) (T := TX6) (N := 4) (n := 4) hts ig_wsX60 (hts (.instantiable RX6 4) mw_126)
  obtain ⟨c6, j6, h6⟩ := u_known (C := RX7) (T := TX7) (N := 5) (n := 5) hts ig_wsX70 (hts (.instantiable RX7 5) mw_40)
  obtain ⟨c7, j7, h7⟩ := u_known (C := RX8) (T := TX8) (N := 12) (n := 12) hts ig_wsX80 (hts (.instantiable RX8 12) mw_46)
  obtain ⟨c8, j8, h8⟩ := u_known (C := RX9) (T := TX9) (N := 6) (n := 6) hts ig_wsX90 (hts (.instantiable RX9 6) mw_235)
  obtain ⟨c9, j9, h9⟩ := u_known (C := RX10) (T := TX10) (N := 13) (n := 13) hts ig_wsX100 (hts (.instantiable RX10 13) mw_32)
  obtain ⟨cA, kA, pA, a1, a2, a3⟩ := Cond.arrayClass_spec (hts (.arrayClass .int) mw_109)
  refine ⟨fun k => [c0, c1, c2, c3, c4, c5, c6, c7, c8, c9].getD k c0, fun k => [j0, j1, j2, j3, j4, j5, j6, j7, j8, j9].getD k j0, cA, cA, ⟨⟨fun k q hq => ?_, fun k q hq => ?_⟩, va_Nw.of rfl (hts _ mw_765), trivial⟩, ⟨va_Nw.of rfl (hts _ mw_41), va_Nw.of rfl (hts _ mw_172), va_Nw.of rfl (hts _ mw_196), va_Nw.of rfl (hts _ mw_209), va_Nw.of rfl (hts _ mw_230), va_Nw.of rfl (hts _ mw_177), va_Nw.of rfl (hts _ mw_236), va_Nw.of rfl (hts _ mw_256), va_Nw.of rfl (hts _ mw_47), va_Nw.of rfl (hts _ mw_112)⟩⟩
  · match k, hq with
    | 0, hq => cases hq; exact h0
    | 1, hq => cases hq; exact h1
    | 2, hq => cases hq; exact h2
    | 3, hq => cases hq; exact h3
    | 4, hq => cases hq; exact h4
    | 5, hq => cases hq; exact h5
    | 6, hq => cases hq; exact h6
    | 7, hq => cases hq; exact h7
    | 8, hq => cases hq; exact h8
    | 9, hq => cases hq; exact h9
    | k + 10, hq => simp [vwCl] at hq
  · match k, hq with
    | 0, hq => cases hq; exact ⟨fun n z => ⟨fun k h => (by cases h), kA, a2, pA, a3⟩, a1⟩
    | k + 1, hq => simp at hq
end LS
/-! the start -/
def S00 : SS := fun i => if i = 4 then (fun j => if j = 1 then 1 else 0) else fun _ => 0
def B00 : CB := fun _ => 0
def s0C : St := fun c => if c = 0 then (fun j => if j = 9 then 1 else 0) else if c = 13 ∨ c = 31 ∨ c = 49 then (fun j => if j = 1 then 5 else if j = 2 then 2 else 0) else if c = 15 ∨ c = 17 ∨ c = 33 ∨ c = 35 ∨ c = 51 ∨ c = 53 then (fun j => if j = 1 then 6 else if j = 2 then 4 else 0) else zr
theorem w10_wd (u : Nat → Nat) (cA : ClassId) : wX10 u cA = wd 81 u (celC u cA) s0C := rfl
theorem WFA_00 : WFA (fun _ => 0) := by
  have bd : Bd (fun _ => 0) := ⟨Nat.zero_le _, Nat.zero_le _, (by decide), (by decide), fun i hi => Nat.zero_le _, fun g hg => absurd hg (Nat.not_lt_zero _), fun g hg => absurd hg (Nat.not_lt_zero _), fun g j hg => absurd hg (Nat.not_lt_zero _), fun _ => show (0:Nat) < 2147483648 by decide⟩
  exact ⟨bd, Nat.zero_le _, Nat.zero_le _, Nat.zero_le _, Nat.zero_le _, Nat.zero_le _, Nat.zero_le _, fun g hg => absurd hg (Nat.not_lt_zero _), fun g hg => absurd hg (Nat.not_lt_zero _), fun g hg => absurd hg (Nat.not_lt_zero _), fun g hg => absurd hg (Nat.not_lt_zero _), fun g hg => absurd hg (Nat.not_lt_zero _)⟩
theorem WF_00 : WF S00 := ⟨WFA_00, fun _ => WFA_00, fun _ => WFA_00, by decide, by decide, by decide, by decide, by decide, fun i hi => absurd hi (by show ¬ i < 0; omega)⟩
theorem CR_00 : CR s0C S00 B00 := by
  have bz : ∀ s, bh (fun _ => 0) s = 0 := fun s => bh_none (by decide) (fun k hk => absurd hk (Nat.not_lt_zero _))
  have st : StR s0C 2 (fun _ => 0) := ⟨rfl, rfl, rfl, rfl, fun i hi => rfl, fun g hg => absurd hg (Nat.not_lt_zero _), fun g hg => absurd hg (Nat.not_lt_zero _), fun g hg => absurd hg (Nat.not_lt_zero _), fun g hg => absurd hg (Nat.not_lt_zero _), fun g hg => absurd hg (Nat.not_lt_zero _), fun s hs => by rw [bz]; rfl⟩
  exact ⟨⟨st, ⟨rfl, fun r hr => absurd hr (Nat.not_lt_zero _)⟩, ⟨rfl, fun r hr => absurd hr (Nat.not_lt_zero _)⟩, ⟨rfl, fun r hr => absurd hr (Nat.not_lt_zero _)⟩, ⟨rfl, fun r hr => absurd hr (Nat.not_lt_zero _)⟩⟩, fun c => absurd c (by decide), fun c => absurd c (by decide), ⟨rfl, rfl, rfl, rfl, rfl, rfl⟩, rfl, rfl, rfl, rfl, rfl, rfl, rfl, fun i hi => absurd hi (by show ¬ i < 0; omega)⟩
