set_option maxHeartbeats 8000000 in
theorem y_L_law {p : Program} {l : Launch} {e : Env} {s : State} {m : MethodId} {below : List Frame} {meth : Method} {c : Code} {dC : Nat → ClassId} {dI : Nat → Nat → Nat} {cA cZ : ClassId} {b L : Nat} {xs : Nat → Int32} (C0 : LC p s m meth c b L xs dC dI cA cZ) : ∀ P zs ys σ, R_L_law L xs P zs ys σ → XW p l e s m below meth c b dC dI cA P zs ys σ := by
  refine Fx.elim _ (fun P zs ys σ Y hY hB => ?_)
  rcases hB with ⟨rfl, x3, x4, x5, rfl, rfl, hB⟩ | ⟨rfl, x3, x4, x5, rfl, rfl, hB⟩ | ⟨rfl, x3, x4, x5, x10, x11, rfl, rfl, hB⟩ | ⟨rfl, x3, x4, x5, x11, rfl, rfl, hB⟩ | ⟨rfl, x3, x4, x5, x11, x12, rfl, rfl, hB⟩ | ⟨rfl, x3, x4, x5, x11, x12, x13, rfl, rfl, hB⟩ | ⟨rfl, x3, x4, rfl, rfl, hB⟩ | ⟨rfl, x3, x4, x5, x6, x7, x8, x9, x10, x13, rfl, rfl, hB⟩ | ⟨rfl, x3, x4, x5, x6, x7, x8, x9, x10, x13, x15, x16, rfl, rfl, hB⟩ | ⟨rfl, x3, x4, x5, x6, x7, x8, x9, x13, x15, x16, t0, t1, rfl, rfl, hB⟩ | ⟨rfl, x3, x4, x5, x6, x7, x8, x9, x10, x13, x16, t0, rfl, rfl, hB⟩ | ⟨rfl, x3, x4, x5, x6, x7, x8, x9, x10, x13, x15, x16, t0, rfl, rfl, hB⟩ | ⟨rfl, x3, x4, x5, x6, x7, x8, x9, x10, x13, x15, x16, t0, t1, rfl, rfl, hB⟩ | ⟨rfl, x3, x4, x5, x6, x7, x8, x9, x10, x13, x15, x16, rfl, rfl, hB⟩ | ⟨rfl, x3, x4, x5, x6, x7, x8, x13, rfl, rfl, hB⟩ | ⟨rfl, x3, x4, x5, x6, x7, x8, x13, x16, x17, x18, rfl, rfl, hB⟩ | ⟨rfl, x3, x4, x5, x6, x7, x8, x13, x16, x18, t0, t1, rfl, rfl, hB⟩ | ⟨rfl, x3, x4, x5, x6, x7, x8, rfl, rfl, hB⟩ | ⟨rfl, x3, x4, x5, x6, x7, x8, x18, x19, x20, rfl, rfl, hB⟩ | ⟨rfl, x3, x4, x5, x6, x7, x8, x18, x20, x21, t0, t1, rfl, rfl, hB⟩ | ⟨rfl, x3, x4, x5, x6, x7, x8, x18, x19, x20, x21, x22, rfl, rfl, hB⟩ | ⟨rfl, x3, x4, x5, x6, x7, x8, x18, x19, x20, x21, x22, t0, rfl, rfl, hB⟩ | ⟨rfl, x3, x4, x5, x6, x7, x8, rfl, rfl, hB⟩ | ⟨rfl, x3, x4, x5, x6, x7, x8, x20, x21, x22, t0, t1, rfl, rfl, hB⟩ | ⟨rfl, x3, x4, x5, x6, x7, x8, x20, x21, x22, t0, rfl, rfl, hB⟩ | ⟨rfl, x3, x4, x5, x6, x7, x8, x20, x21, x22, t0, t1, rfl, rfl, hB⟩ | ⟨rfl, x3, x4, x5, x6, x7, x8, x20, x22, x23, x24, rfl, rfl, hB⟩ | ⟨rfl, x3, x4, x5, x6, x7, x8, x20, x22, x24, x25, t0, t1, rfl, rfl, hB⟩ | ⟨rfl, x3, x4, x5, x6, x7, x8, rfl, rfl, hB⟩ | ⟨rfl, x3, x4, x5, x6, x7, x8, x24, x25, x26, rfl, rfl, hB⟩ | ⟨rfl, x3, x4, x5, x6, x7, x8, x24, x25, rfl, rfl, hB⟩ | ⟨rfl, x3, x4, x5, x6, x7, x8, rfl, rfl, hB⟩ | ⟨rfl, x3, x4, x5, x6, x7, x8, rfl, rfl, hB⟩ | ⟨rfl, x3, x4, x5, x6, x7, x8, x26, x27, x28, x29, x30, x31, rfl, rfl, hB⟩ | ⟨rfl, x3, x4, x5, x6, x7, x8, x26, x27, x28, x29, x30, rfl, rfl, hB⟩ | ⟨rfl, x3, x4, x5, x6, x7, x8, x29, x30, t0, rfl, rfl, hB⟩ | ⟨rfl, x3, x4, x5, x6, x7, x8, t0, t1, rfl, rfl, hB⟩ | ⟨rfl, x3, x4, x5, x6, x7, x8, rfl, rfl, hB⟩ | ⟨rfl, x3, x4, x5, x6, x7, x8, x26, x27, x28, rfl, rfl, hB⟩ | ⟨rfl, x3, x4, x5, x6, x7, x8, x26, rfl, rfl, hB⟩ | ⟨rfl, x3, x4, x5, x6, x7, x8, x26, rfl, rfl, hB⟩ | ⟨rfl, x3, x4, x5, x6, x7, x8, rfl, rfl, hB⟩ | ⟨rfl, x3, x4, x5, x6, x7, x8, x26, rfl, rfl, hB⟩ | ⟨rfl, x3, x5, x6, x7, x8, rfl, rfl, hB⟩ | ⟨rfl, x3, x5, x6, x7, x8, rfl, rfl, hB⟩ | ⟨rfl, x3, x5, x6, x7, x8, rfl, rfl, hB⟩ | ⟨rfl, x3, x5, x6, x7, x8, x27, x28, x29, rfl, rfl, hB⟩ | ⟨rfl, x3, x5, x6, x7, x8, x27, x28, x29, t0, rfl, rfl, hB⟩ | ⟨rfl, x3, x5, x6, x7, x8, x28, rfl, rfl, hB⟩ | ⟨rfl, x3, x5, x6, x7, x8, x28, x29, rfl, rfl, hB⟩ | ⟨rfl, x3, x5, x6, x7, x8, rfl, rfl, hB⟩ | ⟨rfl, x3, x5, x6, x7, x8, x29, rfl, rfl, hB⟩ | ⟨rfl, x3, x5, x6, x7, x8, rfl, rfl, hB⟩
  · intro n kc kz lv st he ad H locs ls hi hda hP hS hl
    cases he
    exact w_L_law_40 C0 Y hY x3 x4 x5 σ hB hi hda hP hS hl
  · intro n kc kz lv st he ad H locs ls hi hda hP hS hl
    cases he
    exact w_L_law_89 C0 Y hY x3 x4 x5 σ hB hi hda hP hS hl
  · intro n kc kz lv st he ad H locs ls hi hda hP hS hl
    cases he
    exact w_L_law_117 C0 Y hY x3 x4 x5 x10 x11 σ hB hi hda hP hS hl
  · intro n kc kz lv st he ad H locs ls hi hda hP hS hl
    cases he
    exact w_L_law_180 C0 Y hY x3 x4 x5 x11 σ hB hi hda hP hS hl
  · intro n kc kz lv st he ad H locs ls hi hda hP hS hl
    cases he
    exact w_L_law_233 C0 Y hY x3 x4 x5 x11 x12 σ hB hi hda hP hS hl
  · intro n kc kz lv st he ad H locs ls hi hda hP hS hl
    cases he
    exact w_L_law_296 C0 Y hY x3 x4 x5 x11 x12 x13 σ hB hi hda hP hS hl
  · intro n kc kz lv st he ad H locs ls hi hda hP hS hl
    cases he
    exact w_L_law_350 C0 Y hY x3 x4 σ hB hi hda hP hS hl
  · intro n kc kz lv st he ad H locs ls hi hda hP hS hl
    cases he
    exact w_L_law_410 C0 Y hY x3 x4 x5 x6 x7 x8 x9 x10 x13 σ hB hi hda hP hS hl
  · intro n kc kz lv st he ad H locs ls hi hda hP hS hl
    cases he
    exact w_L_law_462 C0 Y hY x3 x4 x5 x6 x7 x8 x9 x10 x13 x15 x16 σ hB hi hda hP hS hl
  · intro n kc kz lv st he ad H locs ls hi hda hP hS hl
    cases he
    exact w_L_law_521 C0 Y hY x3 x4 x5 x6 x7 x8 x9 x13 x15 x16 t0 t1 σ hB hi hda hP hS hl
  · intro n kc kz lv st he ad H locs ls hi hda hP hS hl
    cases he
    exact w_L_law_561 C0 Y hY x3 x4 x5 x6 x7 x8 x9 x10 x13 x16 t0 σ hB hi hda hP hS hl
  · intro n kc kz lv st he ad H locs ls hi hda hP hS hl
    cases he
    exact w_L_law_604 C0 Y hY x3 x4 x5 x6 x7 x8 x9 x10 x13 x15 x16 t0 σ hB hi hda hP hS hl
  · intro n kc kz lv st he ad H locs ls hi hda hP hS hl
    cases he
    exact w_L_law_619 C0 Y hY x3 x4 x5 x6 x7 x8 x9 x10 x13 x15 x16 t0 t1 σ hB hi hda hP hS hl
  · intro n kc kz lv st he ad H locs ls hi hda hP hS hl
    cases he
    exact w_L_law_665 C0 Y hY x3 x4 x5 x6 x7 x8 x9 x10 x13 x15 x16 σ hB hi hda hP hS hl
  · intro n kc kz lv st he ad H locs ls hi hda hP hS hl
    cases he
    exact w_L_law_727 C0 Y hY x3 x4 x5 x6 x7 x8 x13 σ hB hi hda hP hS hl
  · intro n kc kz lv st he ad H locs ls hi hda hP hS hl
    cases he
    exact w_L_law_741 C0 Y hY x3 x4 x5 x6 x7 x8 x13 x16 x17 x18 σ hB hi hda hP hS hl
  · intro n kc kz lv st he ad H locs ls hi hda hP hS hl
    cases he
    exact w_L_law_764 C0 Y hY x3 x4 x5 x6 x7 x8 x13 x16 x18 t0 t1 σ hB hi hda hP hS hl
  · intro n kc kz lv st he ad H locs ls hi hda hP hS hl
    cases he
    exact w_L_law_831 C0 Y hY x3 x4 x5 x6 x7 x8 σ hB hi hda hP hS hl
  · intro n kc kz lv st he ad H locs ls hi hda hP hS hl
    cases he
    exact w_L_law_844 C0 Y hY x3 x4 x5 x6 x7 x8 x18 x19 x20 σ hB hi hda hP hS hl
  · intro n kc kz lv st he ad H locs ls hi hda hP hS hl
    cases he
    exact w_L_law_870 C0 Y hY x3 x4 x5 x6 x7 x8 x18 x20 x21 t0 t1 σ hB hi hda hP hS hl
  · intro n kc kz lv st he ad H locs ls hi hda hP hS hl
    cases he
    exact w_L_law_965 C0 Y hY x3 x4 x5 x6 x7 x8 x18 x19 x20 x21 x22 σ hB hi hda hP hS hl
  · intro n kc kz lv st he ad H locs ls hi hda hP hS hl
    cases he
    exact w_L_law_991 C0 Y hY x3 x4 x5 x6 x7 x8 x18 x19 x20 x21 x22 t0 σ hB hi hda hP hS hl
  · intro n kc kz lv st he ad H locs ls hi hda hP hS hl
    cases he
    exact w_L_law_1066 C0 Y hY x3 x4 x5 x6 x7 x8 σ hB hi hda hP hS hl
  · intro n kc kz lv st he ad H locs ls hi hda hP hS hl
    cases he
    exact w_L_law_1110 C0 Y hY x3 x4 x5 x6 x7 x8 x20 x21 x22 t0 t1 σ hB hi hda hP hS hl
  · intro n kc kz lv st he ad H locs ls hi hda hP hS hl
    cases he
    exact w_L_law_1123 C0 Y hY x3 x4 x5 x6 x7 x8 x20 x21 x22 t0 σ hB hi hda hP hS hl
  · intro n kc kz lv st he ad H locs ls hi hda hP hS hl
    cases he
    exact w_L_law_1134 C0 Y hY x3 x4 x5 x6 x7 x8 x20 x21 x22 t0 t1 σ hB hi hda hP hS hl
  · intro n kc kz lv st he ad H locs ls hi hda hP hS hl
    cases he
    exact w_L_law_1175 C0 Y hY x3 x4 x5 x6 x7 x8 x20 x22 x23 x24 σ hB hi hda hP hS hl
  · intro n kc kz lv st he ad H locs ls hi hda hP hS hl
    cases he
    exact w_L_law_1211 C0 Y hY x3 x4 x5 x6 x7 x8 x20 x22 x24 x25 t0 t1 σ hB hi hda hP hS hl
  · intro n kc kz lv st he ad H locs ls hi hda hP hS hl
    cases he
    exact w_L_law_1247 C0 Y hY x3 x4 x5 x6 x7 x8 σ hB hi hda hP hS hl
  · intro n kc kz lv st he ad H locs ls hi hda hP hS hl
    cases he
    exact w_L_law_1290 C0 Y hY x3 x4 x5 x6 x7 x8 x24 x25 x26 σ hB hi hda hP hS hl
  · intro n kc kz lv st he ad H locs ls hi hda hP hS hl
    cases he
    exact w_L_law_1343 C0 Y hY x3 x4 x5 x6 x7 x8 x24 x25 σ hB hi hda hP hS hl
  · intro n kc kz lv st he ad H locs ls hi hda hP hS hl
    cases he
    exact w_L_law_1372 C0 Y hY x3 x4 x5 x6 x7 x8 σ hB hi hda hP hS hl
  · intro n kc kz lv st he ad H locs ls hi hda hP hS hl
    cases he
    exact w_L_law_1383 C0 Y hY x3 x4 x5 x6 x7 x8 σ hB hi hda hP hS hl
  · intro n kc kz lv st he ad H locs ls hi hda hP hS hl
    cases he
    exact w_L_law_1461 C0 Y hY x3 x4 x5 x6 x7 x8 x26 x27 x28 x29 x30 x31 σ hB hi hda hP hS hl
  · intro n kc kz lv st he ad H locs ls hi hda hP hS hl
    cases he
    exact w_L_law_1506 C0 Y hY x3 x4 x5 x6 x7 x8 x26 x27 x28 x29 x30 σ hB hi hda hP hS hl
  · intro n kc kz lv st he ad H locs ls hi hda hP hS hl
    cases he
    exact w_L_law_1554 C0 Y hY x3 x4 x5 x6 x7 x8 x29 x30 t0 σ hB hi hda hP hS hl
  · intro n kc kz lv st he ad H locs ls hi hda hP hS hl
    cases he
    exact w_L_law_1570 C0 Y hY x3 x4 x5 x6 x7 x8 t0 t1 σ hB hi hda hP hS hl
  · intro n kc kz lv st he ad H locs ls hi hda hP hS hl
    cases he
    exact w_L_law_1584 C0 Y hY x3 x4 x5 x6 x7 x8 σ hB hi hda hP hS hl
  · intro n kc kz lv st he ad H locs ls hi hda hP hS hl
    cases he
    exact w_L_law_1616 C0 Y hY x3 x4 x5 x6 x7 x8 x26 x27 x28 σ hB hi hda hP hS hl
  · intro n kc kz lv st he ad H locs ls hi hda hP hS hl
    cases he
    exact w_L_law_1719 C0 Y hY x3 x4 x5 x6 x7 x8 x26 σ hB hi hda hP hS hl
  · intro n kc kz lv st he ad H locs ls hi hda hP hS hl
    cases he
    exact w_L_law_1790 C0 Y hY x3 x4 x5 x6 x7 x8 x26 σ hB hi hda hP hS hl
  · intro n kc kz lv st he ad H locs ls hi hda hP hS hl
    cases he
    exact w_L_law_1876 C0 Y hY x3 x4 x5 x6 x7 x8 σ hB hi hda hP hS hl
  · intro n kc kz lv st he ad H locs ls hi hda hP hS hl
    cases he
    exact w_L_law_1879 C0 Y hY x3 x4 x5 x6 x7 x8 x26 σ hB hi hda hP hS hl
  · intro n kc kz lv st he ad H locs ls hi hda hP hS hl
    cases he
    exact w_L_law_1971 C0 Y hY x3 x5 x6 x7 x8 σ hB hi hda hP hS hl
  · intro n kc kz lv st he ad H locs ls hi hda hP hS hl
    cases he
    exact w_L_law_2064 C0 Y hY x3 x5 x6 x7 x8 σ hB hi hda hP hS hl
  · intro n kc kz lv st he ad H locs ls hi hda hP hS hl
    cases he
    exact w_L_law_2109 C0 Y hY x3 x5 x6 x7 x8 σ hB hi hda hP hS hl
  · intro n kc kz lv st he ad H locs ls hi hda hP hS hl
    cases he
    exact w_L_law_2128 C0 Y hY x3 x5 x6 x7 x8 x27 x28 x29 σ hB hi hda hP hS hl
  · intro n kc kz lv st he ad H locs ls hi hda hP hS hl
    cases he
    exact w_L_law_2183 C0 Y hY x3 x5 x6 x7 x8 x27 x28 x29 t0 σ hB hi hda hP hS hl
  · intro n kc kz lv st he ad H locs ls hi hda hP hS hl
    cases he
    exact w_L_law_2206 C0 Y hY x3 x5 x6 x7 x8 x28 σ hB hi hda hP hS hl
  · intro n kc kz lv st he ad H locs ls hi hda hP hS hl
    cases he
    exact w_L_law_2209 C0 Y hY x3 x5 x6 x7 x8 x28 x29 σ hB hi hda hP hS hl
  · intro n kc kz lv st he ad H locs ls hi hda hP hS hl
    cases he
    exact w_L_law_2231 C0 Y hY x3 x5 x6 x7 x8 σ hB hi hda hP hS hl
  · intro n kc kz lv st he ad H locs ls hi hda hP hS hl
    cases he
    exact w_L_law_2234 C0 Y hY x3 x5 x6 x7 x8 x29 σ hB hi hda hP hS hl
  · intro n kc kz lv st he ad H locs ls hi hda hP hS hl
    cases he
    exact w_L_law_2263 C0 Y hY x3 x5 x6 x7 x8 σ hB hi hda hP hS hl
