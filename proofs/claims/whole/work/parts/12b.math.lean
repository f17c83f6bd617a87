theorem tm_max : Cond.code Lib.Math.max.name Lib.Math.max.code 2 (some .int) ∈ am_tb := am_in 607 (by decide +kernel) rfl
set_option maxRecDepth 20000 in
theorem ok_max {mt : Nat → AmMd} {Ls : Nat} {xs : Nat → Int32} {d : AmMd} {pc index : Nat} (hdg : decode d.1 pc = .ok (.invokestatic index, 3)) (hl0 : Cond.methodLink d.2.2.1 index Lib.Math.max.name ∈ am_tb) (hst : Cond.static Lib.Math.max.name ∈ am_tb) (hini : Cond.initialized "java/lang/Math" ∈ am_tb) (hcode : Cond.code Lib.Math.max.name Lib.Math.max.code 2 (some .int) ∈ am_tb) (hfl : 1 ≤ d.2.2.2.2.1 ∧ 21 ≤ d.2.2.2.2.2.1) : am_Ok mt Ls xs d pc (o_mth (fun x y => if x < y then y else x)) := by
  intro L st M
  unfold o_mth; dsimp only
  split
  · split
    · rename_i hcs
      refine am_Nx.pu ?_
      intro p l e R s m args below meth c ad base D dA H locs cells slots Q ls C hl hW hS hc hs k
      obtain ⟨⟨hx, hb, hml, hown, hts⟩, hK, hbs, hin, ⟨hRf, hRl⟩, hX, had, hsc⟩ := C
      exact va_mmax hx hb (hml.trans hl.1.symm) hown (hts _ hl0) (hts _ hst) (hts _ hini) (hts _ hcode) (by rw [hRf]; exact hfl.1) (by rw [am_cs_map, hRl]; omega) hc hs hdg (k ls hl)
    · exact trivial
  · exact trivial
theorem tm_min : Cond.code Lib.Math.min.name Lib.Math.min.code 2 (some .int) ∈ am_tb := am_in 745 (by decide +kernel) rfl
set_option maxRecDepth 20000 in
theorem ok_min {mt : Nat → AmMd} {Ls : Nat} {xs : Nat → Int32} {d : AmMd} {pc index : Nat} (hdg : decode d.1 pc = .ok (.invokestatic index, 3)) (hl0 : Cond.methodLink d.2.2.1 index Lib.Math.min.name ∈ am_tb) (hst : Cond.static Lib.Math.min.name ∈ am_tb) (hini : Cond.initialized "java/lang/Math" ∈ am_tb) (hcode : Cond.code Lib.Math.min.name Lib.Math.min.code 2 (some .int) ∈ am_tb) (hfl : 1 ≤ d.2.2.2.2.1 ∧ 21 ≤ d.2.2.2.2.2.1) : am_Ok mt Ls xs d pc (o_mth (fun x y => if y < x then y else x)) := by
  intro L st M
  unfold o_mth; dsimp only
  split
  · split
    · rename_i hcs
      refine am_Nx.pu ?_
      intro p l e R s m args below meth c ad base D dA H locs cells slots Q ls C hl hW hS hc hs k
      obtain ⟨⟨hx, hb, hml, hown, hts⟩, hK, hbs, hin, ⟨hRf, hRl⟩, hX, had, hsc⟩ := C
      exact va_mmin hx hb (hml.trans hl.1.symm) hown (hts _ hl0) (hts _ hst) (hts _ hini) (hts _ hcode) (by rw [hRf]; exact hfl.1) (by rw [am_cs_map, hRl]; omega) hc hs hdg (k ls hl)
    · exact trivial
  · exact trivial
