theorem mw_80 : Cond.instantiable RX10 13 ∈ lw_tbl := mt_1 (List.mem_of_getElem? (i := 21) rfl)
theorem mw_970 : Cond.instantiable RX11 18 ∈ lw_tbl := mt_4 (List.mem_of_getElem? (i := 191) rfl)
theorem mw_415 : Cond.methodLinkNest RX8 55 yX10_within "GloveRail" ∈ lw_tbl := mt_2 (List.mem_of_getElem? (i := 116) rfl)
theorem mw_527 : Cond.methodLinkNest RX5 86 yX10_within "GloveRail" ∈ lw_tbl := mt_2 (List.mem_of_getElem? (i := 228) rfl)
theorem mw_89 : Cond.methodLinkNest RX10 9 yX7_init "GloveRail" ∈ lw_tbl := mt_1 (List.mem_of_getElem? (i := 30) rfl)
theorem mw_223 : Cond.methodLinkNest RX10 24 yX0_init "GloveRail" ∈ lw_tbl := mt_1 (List.mem_of_getElem? (i := 164) rfl)
theorem mw_247 : Cond.methodLinkNest RX10 31 yX2_init "GloveRail" ∈ lw_tbl := mt_1 (List.mem_of_getElem? (i := 188) rfl)
theorem mw_260 : Cond.methodLinkNest RX10 38 yX3_init "GloveRail" ∈ lw_tbl := mt_1 (List.mem_of_getElem? (i := 201) rfl)
theorem mw_281 : Cond.methodLinkNest RX10 45 yX5_init "GloveRail" ∈ lw_tbl := mt_1 (List.mem_of_getElem? (i := 222) rfl)
theorem mw_228 : Cond.methodLinkNest RX0 11 yX8_init "GloveRail" ∈ lw_tbl := mt_1 (List.mem_of_getElem? (i := 169) rfl)
theorem mw_287 : Cond.methodLinkNest RX5 11 yX9_init "GloveRail" ∈ lw_tbl := mt_1 (List.mem_of_getElem? (i := 228) rfl)
theorem mw_315 : Cond.methodLinkNest RX5 20 yX8_init "GloveRail" ∈ lw_tbl := mt_2 (List.mem_of_getElem? (i := 16) rfl)
theorem mw_95 : Cond.methodLinkNest RX7 9 yX8_init "GloveRail" ∈ lw_tbl := mt_1 (List.mem_of_getElem? (i := 36) rfl)
theorem mw_163 : Cond.methodLinkNest RX7 18 yX4_init "GloveRail" ∈ lw_tbl := mt_1 (List.mem_of_getElem? (i := 104) rfl)
theorem mw_466 : Cond.laysStatic "java/lang/String" "COMPACT_STRINGS" "Z" ∈ lw_tbl := mt_2 (List.mem_of_getElem? (i := 167) rfl)
theorem mw_482 : Cond.laysStatic "jdk/internal/util/Preconditions" "SIOOBE_FORMATTER" "Ljava/util/function/BiFunction;" ∈ lw_tbl := mt_2 (List.mem_of_getElem? (i := 183) rfl)
theorem mw_452 : Cond.stringRef RX5 31 "street" ∈ lw_tbl := mt_2 (List.mem_of_getElem? (i := 153) rfl)
theorem mw_518 : Cond.stringRef RX5 58 "wet" ∈ lw_tbl := mt_2 (List.mem_of_getElem? (i := 219) rfl)
theorem mw_528 : Cond.stringRef RX5 63 "glove" ∈ lw_tbl := mt_2 (List.mem_of_getElem? (i := 229) rfl)
theorem mw_534 : Cond.stringRef RX5 68 "crossing" ∈ lw_tbl := mt_2 (List.mem_of_getElem? (i := 235) rfl)
theorem mw_541 : Cond.stringRef RX5 73 "shut" ∈ lw_tbl := mt_3 (List.mem_of_getElem? (i := 2) rfl)
theorem mw_550 : Cond.stringRef RX5 78 "hours" ∈ lw_tbl := mt_3 (List.mem_of_getElem? (i := 11) rfl)
theorem mw_79 : Cond.classLink RL 7 RX10 ∈ lw_tbl := mt_1 (List.mem_of_getElem? (i := 20) rfl)
theorem mw_969 : Cond.classLink RL 10 RX11 ∈ lw_tbl := mt_4 (List.mem_of_getElem? (i := 190) rfl)
theorem mw_81 : Cond.methodLink RL 9 yX10_init ∈ lw_tbl := mt_1 (List.mem_of_getElem? (i := 22) rfl)
theorem mw_971 : Cond.methodLink RL 12 yX11_init ∈ lw_tbl := mt_4 (List.mem_of_getElem? (i := 192) rfl)
theorem mw_82 : Cond.instanceMethod yX10_init ∈ lw_tbl := mt_1 (List.mem_of_getElem? (i := 23) rfl)
theorem mw_972 : Cond.instanceMethod yX11_init ∈ lw_tbl := mt_4 (List.mem_of_getElem? (i := 193) rfl)
section LS
variable {s : State} {b : Nat}
set_option maxHeartbeats 4000000 in
set_option maxRecDepth 100000 in
theorem lf_K (hts : ∀ w ∈ lw_tbl, w.before #[Value.ref b] s = true) : ∃ (dC : Nat → ClassId) (dI : Nat → Nat → Nat) (cA cZ : ClassId), KN dC dI cA cZ s := by
  obtain ⟨c0, j0, h0⟩ := u_known (C := RX0) (T := TX0) (N := 4) (n := 4) hts ig_wsX00 (hts (.instantiable RX0 4) mw_222)
  obtain ⟨c1, j1, h1⟩ := u_known (C := RX2) (T := TX2) (N := 2) (n := 2) hts ig_wsX20 (hts (.instantiable RX2 2) mw_246)
  obtain ⟨c2, j2, h2⟩ := u_known (C := RX3) (T := TX3) (N := 4) (n := 4) hts ig_wsX30 (hts (.instantiable RX3 4) mw_259)
  obtain ⟨c3, j3, h3⟩ := u_known (C := RX4) (T := TX4) (N := 2) (n := 2) hts ig_wsX40 (hts (.instantiable RX4 2) mw_162)
  obtain ⟨c4, j4, h4⟩ := u_known (C := RX5) (T := TX5) (N := 2) (n := 2) hts ig_wsX50 (hts (.instantiable RX5 2) mw_280)
  obtain ⟨c5, j5, h5⟩ := u_known (C := RX6) (T := TX6) (N := 4) (n := 4) hts ig_wsX60 (hts (.instantiable RX6 4) mw_177)
  obtain ⟨c6, j6, h6⟩ := u_known (C := RX7) (T := TX7) (N := 5) (n := 5) hts ig_wsX70 (hts (.instantiable RX7 5) mw_88)
  obtain ⟨c7, j7, h7⟩ := u_known (C := RX8) (T := TX8) (N := 12) (n := 12) hts ig_wsX80 (hts (.instantiable RX8 12) mw_94)
  obtain ⟨c8, j8, h8⟩ := u_known (C := RX9) (T := TX9) (N := 6) (n := 6) hts ig_wsX90 (hts (.instantiable RX9 6) mw_286)
  obtain ⟨c9, j9, h9⟩ := u_known (C := RX10) (T := TX10) (N := 13) (n := 13) hts ig_wsX100 (hts (.instantiable RX10 13) mw_80)
  obtain ⟨c10, j10, h10⟩ := u_known (C := RX11) (T := TX11) (N := 18) (n := 18) hts ig_wsX110 (hts (.instantiable RX11 18) mw_970)
  obtain ⟨cA, kA, pA, a1, a2, a3⟩ := Cond.arrayClass_spec (hts (.arrayClass .int) mw_160)
  obtain ⟨cZ, kZ, pZ, z1, z2, z3⟩ := Cond.arrayClass_spec (hts (.arrayClass .boolean) mw_1033)
  refine ⟨fun k => [c0, c1, c2, c3, c4, c5, c6, c7, c8, c9, c10].getD k c0, fun k => [j0, j1, j2, j3, j4, j5, j6, j7, j8, j9, j10].getD k j0, cA, cZ, ⟨⟨fun k q hq => ?_, fun k q hq => ?_⟩, va_Nw.of rfl (hts _ mw_415), va_Nw.of rfl (hts _ mw_527)⟩, ⟨va_Nw.of rfl (hts _ mw_89), va_Nw.of rfl (hts _ mw_223), va_Nw.of rfl (hts _ mw_247), va_Nw.of rfl (hts _ mw_260), va_Nw.of rfl (hts _ mw_281), va_Nw.of rfl (hts _ mw_228), va_Nw.of rfl (hts _ mw_287), va_Nw.of rfl (hts _ mw_315), va_Nw.of rfl (hts _ mw_95), va_Nw.of rfl (hts _ mw_163)⟩⟩
  · match k, hq with
    | 0, hq => cases hq; exact h0
    | 1, hq => cases hq; exact h1
    | 2, hq => cases hq; exact h2
    | 3, hq => cases hq; exact h3
    | 4, hq => cases hq; exact h4
    | 5, hq => cases hq; exact h5
    | 6, hq => cases hq; exact h6
    | 7, hq => cases hq; exact h7
    | 8, hq => cases hq; exact h8
    | 9, hq => cases hq; exact h9
    | 10, hq => cases hq; exact h10
    | k + 11, hq => simp [vwCl] at hq
  · match k, hq with
    | 0, hq => cases hq; exact ⟨fun n z => ⟨fun k h => (by cases h), kA, a2, pA, a3⟩, a1⟩
    | 1, hq => cases hq; exact ⟨fun n z => ⟨fun k h => (by cases h), kZ, z2, pZ, z3⟩, z1⟩
    | k + 2, hq => simp at hq
set_option maxHeartbeats 4000000 in
set_option maxRecDepth 100000 in
theorem lf_S (hts : ∀ w ∈ lw_tbl, w.before #[Value.ref b] s = true) (hgv : (Jvm.Cond.and given_1 narrow_1).before #[Value.ref b] s = true) : ∃ adK adV : Nat → Nat, SK adK adV (La s) s s.heap ∧ SR adK s := by
  have hs := flat_of_before _ hgv
  have hA : ∀ a : Nat, a < s.heap.size → ¬ La s a := fun a h => Nat.not_le.mpr h
  obtain ⟨adK, adV, hk, hT⟩ := vk_Sof (args := #[Value.ref b]) (s := s) (N := 6) (tm := fun i => Term.string "GloveRail$Reader" (idJ.getD i 0)) (len := lenJ) (byt := bytJ) (A := La s) (fun i hi => by
      rcases (by omega : i = 0 ∨ i = 1 ∨ i = 2 ∨ i = 3 ∨ i = 4 ∨ i = 5) with rfl | rfl | rfl | rfl | rfl | rfl <;> decide) (fun i hi => by
      rcases (by omega : i = 0 ∨ i = 1 ∨ i = 2 ∨ i = 3 ∨ i = 4 ∨ i = 5) with rfl | rfl | rfl | rfl | rfl | rfl <;> exact hs _ (by decide +kernel)) (fun i hi => by
      rcases (by omega : i = 0 ∨ i = 1 ∨ i = 2 ∨ i = 3 ∨ i = 4 ∨ i = 5) with rfl | rfl | rfl | rfl | rfl | rfl <;> exact hs _ (by decide +kernel)) (fun i hi => by
      rcases (by omega : i = 0 ∨ i = 1 ∨ i = 2 ∨ i = 3 ∨ i = 4 ∨ i = 5) with rfl | rfl | rfl | rfl | rfl | rfl <;> exact hs _ (by decide +kernel)) (fun i hi => by
      rcases (by omega : i = 0 ∨ i = 1 ∨ i = 2 ∨ i = 3 ∨ i = 4 ∨ i = 5) with rfl | rfl | rfl | rfl | rfl | rfl <;> exact hs _ (by decide +kernel)) (fun i hi j hj => by
      have hj8 := ln_8 ⟨i, hi⟩
      dsimp only at hj8
      rcases (by omega : j = 0 ∨ j = 1 ∨ j = 2 ∨ j = 3 ∨ j = 4 ∨ j = 5 ∨ j = 6 ∨ j = 7) with rfl | rfl | rfl | rfl | rfl | rfl | rfl | rfl <;> rcases (by omega : i = 0 ∨ i = 1 ∨ i = 2 ∨ i = 3 ∨ i = 4 ∨ i = 5) with rfl | rfl | rfl | rfl | rfl | rfl <;> first | exact hs _ (by decide +kernel) | exact absurd hj (by decide)) (fun i j hi hj hn => by
      rcases (by omega : i = 0 ∨ i = 1 ∨ i = 2 ∨ i = 3 ∨ i = 4 ∨ i = 5) with rfl | rfl | rfl | rfl | rfl | rfl <;> rcases (by omega : j = 0 ∨ j = 1 ∨ j = 2 ∨ j = 3 ∨ j = 4 ∨ j = 5) with rfl | rfl | rfl | rfl | rfl | rfl <;> first | exact absurd rfl hn | exact Or.inl (hs _ (by decide +kernel)) | exact Or.inr (hs _ (by decide +kernel))) hA
  refine ⟨adK, adV, ⟨hk, va_Zof (hts _ mw_466) (hts _ mw_72) (va_eqi (hs _ (by decide +kernel))) hA, va_Zqof (hts _ mw_482) (hts _ mw_74) (hs _ (by decide +kernel)) hA⟩, fun i hi => ?_⟩
  rcases (by omega : i = 0 ∨ i = 1 ∨ i = 2 ∨ i = 3 ∨ i = 4 ∨ i = 5) with rfl | rfl | rfl | rfl | rfl | rfl
  · exact vk_R.of (hts _ mw_452) (hT 0 (by omega))
  · exact vk_R.of (hts _ mw_518) (hT 1 (by omega))
  · exact vk_R.of (hts _ mw_528) (hT 2 (by omega))
  · exact vk_R.of (hts _ mw_534) (hT 3 (by omega))
  · exact vk_R.of (hts _ mw_541) (hT 4 (by omega))
  · exact vk_R.of (hts _ mw_550) (hT 5 (by omega))
end LS
