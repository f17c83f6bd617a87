set_option maxRecDepth 20000 in
theorem ok_iconst {mt : Nat → AmMd} {Ls : Nat} {xs : Nat → Int32} {d : AmMd} {pc : Nat} {n : Int} {v : Int32} (hdg : decode d.1 pc = .ok (.iconst n, 1)) (hv : Int32.ofInt n = v) : am_Ok mt Ls xs d pc (o_push (.int v) 1) := by
  intro L st M
  unfold o_push; dsimp only
  refine am_Nx.pu ?_
  intro p l e R s m args below meth c ad base D dA H locs cells slots Q ls C hl hW hS hc hs k
  obtain ⟨⟨hx, hb, hml, hown, hts⟩, hK, hbs, hin, ⟨hRf, hRl⟩, hX, had, hsc⟩ := C
  exact lv_iconst hx hb hdg hv (k ls hl)
set_option maxRecDepth 20000 in
theorem ok_bipush {mt : Nat → AmMd} {Ls : Nat} {xs : Nat → Int32} {d : AmMd} {pc : Nat} {n : Int} {v : Int32} (hdg : decode d.1 pc = .ok (.bipush n, 2)) (hv : (Int8.ofInt n).toInt32 = v) : am_Ok mt Ls xs d pc (o_push (.int v) 2) := by
  intro L st M
  unfold o_push; dsimp only
  refine am_Nx.pu ?_
  intro p l e R s m args below meth c ad base D dA H locs cells slots Q ls C hl hW hS hc hs k
  obtain ⟨⟨hx, hb, hml, hown, hts⟩, hK, hbs, hin, ⟨hRf, hRl⟩, hX, had, hsc⟩ := C
  exact lv_bipush hx hb hdg hv (k ls hl)
set_option maxRecDepth 20000 in
theorem ok_sipush {mt : Nat → AmMd} {Ls : Nat} {xs : Nat → Int32} {d : AmMd} {pc : Nat} {n : Int} {v : Int32} (hdg : decode d.1 pc = .ok (.sipush n, 3)) (hv : (Int16.ofInt n).toInt32 = v) : am_Ok mt Ls xs d pc (o_push (.int v) 3) := by
  intro L st M
  unfold o_push; dsimp only
  refine am_Nx.pu ?_
  intro p l e R s m args below meth c ad base D dA H locs cells slots Q ls C hl hW hS hc hs k
  obtain ⟨⟨hx, hb, hml, hown, hts⟩, hK, hbs, hin, ⟨hRf, hRl⟩, hX, had, hsc⟩ := C
  exact lv_sipush hx hb hdg hv (k ls hl)
set_option maxRecDepth 20000 in
theorem ok_lconst {mt : Nat → AmMd} {Ls : Nat} {xs : Nat → Int32} {d : AmMd} {pc : Nat} {n : Fin 2} {v : Int64} (hdg : decode d.1 pc = .ok (.lconst n, 1)) (hv : Int64.ofNat (n : Nat) = v) : am_Ok mt Ls xs d pc (o_push (.long v) 1) := by
  intro L st M
  unfold o_push; dsimp only
  refine am_Nx.pu ?_
  intro p l e R s m args below meth c ad base D dA H locs cells slots Q ls C hl hW hS hc hs k
  obtain ⟨⟨hx, hb, hml, hown, hts⟩, hK, hbs, hin, ⟨hRf, hRl⟩, hX, had, hsc⟩ := C
  exact lv_lconst hx hb hdg hv (k ls hl)
set_option maxRecDepth 20000 in
theorem ok_ldc {mt : Nat → AmMd} {Ls : Nat} {xs : Nat → Int32} {d : AmMd} {pc : Nat} {index : Nat} {v : Int32} (hdg : decode d.1 pc = .ok (.ldc index, 2)) (hw : Cond.constant d.2.2.1 index v ∈ am_tb) : am_Ok mt Ls xs d pc (o_push (.int v) 2) := by
  intro L st M
  unfold o_push; dsimp only
  refine am_Nx.pu ?_
  intro p l e R s m args below meth c ad base D dA H locs cells slots Q ls C hl hW hS hc hs k
  obtain ⟨⟨hx, hb, hml, hown, hts⟩, hK, hbs, hin, ⟨hRf, hRl⟩, hX, had, hsc⟩ := C
  exact lv_ldc hx hb hown (hts _ hw) hdg (k ls hl)
set_option maxRecDepth 20000 in
theorem ok_ldcw {mt : Nat → AmMd} {Ls : Nat} {xs : Nat → Int32} {d : AmMd} {pc : Nat} {index : Nat} {v : Int32} (hdg : decode d.1 pc = .ok (.ldc_w index, 3)) (hw : Cond.constant d.2.2.1 index v ∈ am_tb) : am_Ok mt Ls xs d pc (o_push (.int v) 3) := by
  intro L st M
  unfold o_push; dsimp only
  refine am_Nx.pu ?_
  intro p l e R s m args below meth c ad base D dA H locs cells slots Q ls C hl hW hS hc hs k
  obtain ⟨⟨hx, hb, hml, hown, hts⟩, hK, hbs, hin, ⟨hRf, hRl⟩, hX, had, hsc⟩ := C
  exact lv_ldcw hx hb hown (hts _ hw) hdg (k ls hl)
set_option maxRecDepth 20000 in
theorem ok_ldc2 {mt : Nat → AmMd} {Ls : Nat} {xs : Nat → Int32} {d : AmMd} {pc : Nat} {index : Nat} {v : Int64} (hdg : decode d.1 pc = .ok (.ldc2_w index, 3)) (hw : Cond.constantLong d.2.2.1 index v ∈ am_tb) : am_Ok mt Ls xs d pc (o_push (.long v) 3) := by
  intro L st M
  unfold o_push; dsimp only
  refine am_Nx.pu ?_
  intro p l e R s m args below meth c ad base D dA H locs cells slots Q ls C hl hW hS hc hs k
  obtain ⟨⟨hx, hb, hml, hown, hts⟩, hK, hbs, hin, ⟨hRf, hRl⟩, hX, had, hsc⟩ := C
  exact lv_ldc2 hx hb hown (hts _ hw) hdg (k ls hl)
set_option maxRecDepth 20000 in
theorem ok_ldcS {mt : Nat → AmMd} {Ls : Nat} {xs : Nat → Int32} {d : AmMd} {pc : Nat} {index i : Nat} {tx : String} (hdg : decode d.1 pc = .ok (.ldc index, 2)) (ho : d.2.2.1 = "ShadowTax$Reading") (hi : am_ldk[i]? = some (index, tx)) : am_Ok mt Ls xs d pc (o_push (.ref (1000000 + i)) 2) := by
  intro L st M
  unfold o_push; dsimp only
  refine am_Nx.pu ?_
  intro p l e R s m args below meth c ad base D dA H locs cells slots Q ls C hl hW hS hc hs k
  obtain ⟨⟨hx, hb, hml, hown, hts⟩, hK, hbs, hin, ⟨hRf, hRl⟩, hX, had, hsc⟩ := C
  exact va_ldcS hx hb hown (by rw [ho]; exact hX.1 i _ hi) hdg (k ls hl)
set_option maxRecDepth 20000 in
theorem ok_iload_n {mt : Nat → AmMd} {Ls : Nat} {xs : Nat → Int32} {d : AmMd} {pc : Nat} {n : Fin 4} {i : Nat} (hdg : decode d.1 pc = .ok (.iload_n n, 1)) (hi : (n : Nat) = i) : am_Ok mt Ls xs d pc (o_iload i 1) := by
  intro L st M
  unfold o_iload; dsimp only
  split
  · rename_i x hg
    refine am_Nx.pu ?_
    intro p l e R s m args below meth c ad base D dA H locs cells slots Q ls C hl hW hS hc hs k
    obtain ⟨⟨hx, hb, hml, hown, hts⟩, hK, hbs, hin, ⟨hRf, hRl⟩, hX, had, hsc⟩ := C
    obtain ⟨j, hj⟩ := am_get_at ad hg
    exact lv_iload_n hx hb hdg hi (lv_at hl j hj) (k ls hl)
  · exact trivial
set_option maxRecDepth 20000 in
theorem ok_iload {mt : Nat → AmMd} {Ls : Nat} {xs : Nat → Int32} {d : AmMd} {pc : Nat} {i : Nat} (hdg : decode d.1 pc = .ok (.iload i, 2)) : am_Ok mt Ls xs d pc (o_iload i 2) := by
  intro L st M
  unfold o_iload; dsimp only
  split
  · rename_i x hg
    refine am_Nx.pu ?_
    intro p l e R s m args below meth c ad base D dA H locs cells slots Q ls C hl hW hS hc hs k
    obtain ⟨⟨hx, hb, hml, hown, hts⟩, hK, hbs, hin, ⟨hRf, hRl⟩, hX, had, hsc⟩ := C
    obtain ⟨j, hj⟩ := am_get_at ad hg
    exact lv_iload hx hb hdg (lv_at hl j hj) (k ls hl)
  · exact trivial
set_option maxRecDepth 20000 in
theorem ok_istore_n {mt : Nat → AmMd} {Ls : Nat} {xs : Nat → Int32} {d : AmMd} {pc : Nat} {n : Fin 4} {i : Nat} (hdg : decode d.1 pc = .ok (.istore_n n, 1)) (hi : (n : Nat) = i) (hn : i < d.2.1) : am_Ok mt Ls xs d pc (o_istore i 1) := by
  intro L st M
  unfold o_istore; dsimp only
  split
  · refine am_Nx.pu ?_
    intro p l e R s m args below meth c ad base D dA H locs cells slots Q ls C hl hW hS hc hs k
    obtain ⟨⟨hx, hb, hml, hown, hts⟩, hK, hbs, hin, ⟨hRf, hRl⟩, hX, had, hsc⟩ := C
    exact lv_istore_n hx hb hdg hi hl hn (am_L_s1 ad L i (.int _)) k
  · exact trivial
set_option maxRecDepth 20000 in
theorem ok_istore {mt : Nat → AmMd} {Ls : Nat} {xs : Nat → Int32} {d : AmMd} {pc : Nat} {i : Nat} (hdg : decode d.1 pc = .ok (.istore i, 2)) (hn : i < d.2.1) : am_Ok mt Ls xs d pc (o_istore i 2) := by
  intro L st M
  unfold o_istore; dsimp only
  split
  · refine am_Nx.pu ?_
    intro p l e R s m args below meth c ad base D dA H locs cells slots Q ls C hl hW hS hc hs k
    obtain ⟨⟨hx, hb, hml, hown, hts⟩, hK, hbs, hin, ⟨hRf, hRl⟩, hX, had, hsc⟩ := C
    exact lv_istore hx hb hdg hl hn (am_L_s1 ad L i (.int _)) k
  · exact trivial
set_option maxRecDepth 20000 in
theorem ok_lload_n {mt : Nat → AmMd} {Ls : Nat} {xs : Nat → Int32} {d : AmMd} {pc : Nat} {n : Fin 4} {i : Nat} (hdg : decode d.1 pc = .ok (.lload_n n, 1)) (hi : (n : Nat) = i) : am_Ok mt Ls xs d pc (o_lload i 1) := by
  intro L st M
  unfold o_lload; dsimp only
  split
  · rename_i x hg
    refine am_Nx.pu ?_
    intro p l e R s m args below meth c ad base D dA H locs cells slots Q ls C hl hW hS hc hs k
    obtain ⟨⟨hx, hb, hml, hown, hts⟩, hK, hbs, hin, ⟨hRf, hRl⟩, hX, had, hsc⟩ := C
    obtain ⟨j, hj⟩ := am_get_at ad hg
    exact lv_lload_n hx hb hdg hi (lv_at hl j hj) (k ls hl)
  · exact trivial
set_option maxRecDepth 20000 in
theorem ok_lload {mt : Nat → AmMd} {Ls : Nat} {xs : Nat → Int32} {d : AmMd} {pc : Nat} {i : Nat} (hdg : decode d.1 pc = .ok (.lload i, 2)) : am_Ok mt Ls xs d pc (o_lload i 2) := by
  intro L st M
  unfold o_lload; dsimp only
  split
  · rename_i x hg
    refine am_Nx.pu ?_
    intro p l e R s m args below meth c ad base D dA H locs cells slots Q ls C hl hW hS hc hs k
    obtain ⟨⟨hx, hb, hml, hown, hts⟩, hK, hbs, hin, ⟨hRf, hRl⟩, hX, had, hsc⟩ := C
    obtain ⟨j, hj⟩ := am_get_at ad hg
    exact lv_lload hx hb hdg (lv_at hl j hj) (k ls hl)
  · exact trivial
set_option maxRecDepth 20000 in
theorem ok_lstore_n {mt : Nat → AmMd} {Ls : Nat} {xs : Nat → Int32} {d : AmMd} {pc : Nat} {n : Fin 4} {i : Nat} (hdg : decode d.1 pc = .ok (.lstore_n n, 1)) (hi : (n : Nat) = i) (hn : i + 1 < d.2.1) : am_Ok mt Ls xs d pc (o_lstore i 1) := by
  intro L st M
  unfold o_lstore; dsimp only
  split
  · refine am_Nx.pu ?_
    intro p l e R s m args below meth c ad base D dA H locs cells slots Q ls C hl hW hS hc hs k
    obtain ⟨⟨hx, hb, hml, hown, hts⟩, hK, hbs, hin, ⟨hRf, hRl⟩, hX, had, hsc⟩ := C
    exact lv_lstore_n hx hb hdg hi hl hn (am_L_s2 ad L i (.long _)) k
  · exact trivial
set_option maxRecDepth 20000 in
theorem ok_lstore {mt : Nat → AmMd} {Ls : Nat} {xs : Nat → Int32} {d : AmMd} {pc : Nat} {i : Nat} (hdg : decode d.1 pc = .ok (.lstore i, 2)) (hn : i + 1 < d.2.1) : am_Ok mt Ls xs d pc (o_lstore i 2) := by
  intro L st M
  unfold o_lstore; dsimp only
  split
  · refine am_Nx.pu ?_
    intro p l e R s m args below meth c ad base D dA H locs cells slots Q ls C hl hW hS hc hs k
    obtain ⟨⟨hx, hb, hml, hown, hts⟩, hK, hbs, hin, ⟨hRf, hRl⟩, hX, had, hsc⟩ := C
    exact lv_lstore hx hb hdg hl hn (am_L_s2 ad L i (.long _)) k
  · exact trivial
set_option maxRecDepth 20000 in
theorem ok_aload_n {mt : Nat → AmMd} {Ls : Nat} {xs : Nat → Int32} {d : AmMd} {pc : Nat} {n : Fin 4} {i : Nat} (hdg : decode d.1 pc = .ok (.aload_n n, 1)) (hi : (n : Nat) = i) : am_Ok mt Ls xs d pc (o_aload i 1) := by
  intro L st M
  unfold o_aload; dsimp only
  split
  · rename_i x hg
    refine am_Nx.pu ?_
    intro p l e R s m args below meth c ad base D dA H locs cells slots Q ls C hl hW hS hc hs k
    obtain ⟨⟨hx, hb, hml, hown, hts⟩, hK, hbs, hin, ⟨hRf, hRl⟩, hX, had, hsc⟩ := C
    obtain ⟨j, hj⟩ := am_get_at ad hg
    exact lv_aload_n hx hb hdg hi (lv_at hl j hj) (k ls hl)
  · exact trivial
set_option maxRecDepth 20000 in
theorem ok_aload {mt : Nat → AmMd} {Ls : Nat} {xs : Nat → Int32} {d : AmMd} {pc : Nat} {i : Nat} (hdg : decode d.1 pc = .ok (.aload i, 2)) : am_Ok mt Ls xs d pc (o_aload i 2) := by
  intro L st M
  unfold o_aload; dsimp only
  split
  · rename_i x hg
    refine am_Nx.pu ?_
    intro p l e R s m args below meth c ad base D dA H locs cells slots Q ls C hl hW hS hc hs k
    obtain ⟨⟨hx, hb, hml, hown, hts⟩, hK, hbs, hin, ⟨hRf, hRl⟩, hX, had, hsc⟩ := C
    obtain ⟨j, hj⟩ := am_get_at ad hg
    exact lv_aload hx hb hdg (lv_at hl j hj) (k ls hl)
  · exact trivial
set_option maxRecDepth 20000 in
theorem ok_astore_n {mt : Nat → AmMd} {Ls : Nat} {xs : Nat → Int32} {d : AmMd} {pc : Nat} {n : Fin 4} {i : Nat} (hdg : decode d.1 pc = .ok (.astore_n n, 1)) (hi : (n : Nat) = i) (hn : i < d.2.1) : am_Ok mt Ls xs d pc (o_astore i 1) := by
  intro L st M
  unfold o_astore; dsimp only
  split
  · refine am_Nx.pu ?_
    intro p l e R s m args below meth c ad base D dA H locs cells slots Q ls C hl hW hS hc hs k
    obtain ⟨⟨hx, hb, hml, hown, hts⟩, hK, hbs, hin, ⟨hRf, hRl⟩, hX, had, hsc⟩ := C
    exact lv_astore_n hx hb hdg hi hl hn (am_L_s1 ad L i (.ref _)) k
  · exact trivial
set_option maxRecDepth 20000 in
theorem ok_iinc {mt : Nat → AmMd} {Ls : Nat} {xs : Nat → Int32} {d : AmMd} {pc : Nat} {i : Nat} {n : Int} (hdg : decode d.1 pc = .ok (.iinc i n, 3)) (hn : i < d.2.1) : am_Ok mt Ls xs d pc (o_iinc i n) := by
  intro L st M
  unfold o_iinc; dsimp only
  split
  · rename_i x hg
    refine am_Nx.pu ?_
    intro p l e R s m args below meth c ad base D dA H locs cells slots Q ls C hl hW hS hc hs k
    obtain ⟨⟨hx, hb, hml, hown, hts⟩, hK, hbs, hin, ⟨hRf, hRl⟩, hX, had, hsc⟩ := C
    obtain ⟨j, hj⟩ := am_get_at ad hg
    exact lv_iinc hx hb hdg hl hj rfl hn (am_L_s1 ad L i (.int (x + Int32.ofInt n))) k
  · exact trivial
set_option maxRecDepth 20000 in
theorem ok_iadd {mt : Nat → AmMd} {Ls : Nat} {xs : Nat → Int32} {d : AmMd} {pc : Nat} (hdg : decode d.1 pc = .ok (.iadd, 1)) : am_Ok mt Ls xs d pc (o_ibin (fun x y => x + y)) := by
  intro L st M
  unfold o_ibin; dsimp only
  split
  · refine am_Nx.pu ?_
    intro p l e R s m args below meth c ad base D dA H locs cells slots Q ls C hl hW hS hc hs k
    obtain ⟨⟨hx, hb, hml, hown, hts⟩, hK, hbs, hin, ⟨hRf, hRl⟩, hX, had, hsc⟩ := C
    exact lv_iadd hx hb hdg (k ls hl)
  · exact trivial
set_option maxRecDepth 20000 in
theorem ok_isub {mt : Nat → AmMd} {Ls : Nat} {xs : Nat → Int32} {d : AmMd} {pc : Nat} (hdg : decode d.1 pc = .ok (.isub, 1)) : am_Ok mt Ls xs d pc (o_ibin (fun x y => x - y)) := by
  intro L st M
  unfold o_ibin; dsimp only
  split
  · refine am_Nx.pu ?_
    intro p l e R s m args below meth c ad base D dA H locs cells slots Q ls C hl hW hS hc hs k
    obtain ⟨⟨hx, hb, hml, hown, hts⟩, hK, hbs, hin, ⟨hRf, hRl⟩, hX, had, hsc⟩ := C
    exact lv_isub hx hb hdg (k ls hl)
  · exact trivial
set_option maxRecDepth 20000 in
theorem ok_imul {mt : Nat → AmMd} {Ls : Nat} {xs : Nat → Int32} {d : AmMd} {pc : Nat} (hdg : decode d.1 pc = .ok (.imul, 1)) : am_Ok mt Ls xs d pc (o_ibin (fun x y => x * y)) := by
  intro L st M
  unfold o_ibin; dsimp only
  split
  · refine am_Nx.pu ?_
    intro p l e R s m args below meth c ad base D dA H locs cells slots Q ls C hl hW hS hc hs k
    obtain ⟨⟨hx, hb, hml, hown, hts⟩, hK, hbs, hin, ⟨hRf, hRl⟩, hX, had, hsc⟩ := C
    exact lv_imul hx hb hdg (k ls hl)
  · exact trivial
set_option maxRecDepth 20000 in
theorem ok_iand {mt : Nat → AmMd} {Ls : Nat} {xs : Nat → Int32} {d : AmMd} {pc : Nat} (hdg : decode d.1 pc = .ok (.iand, 1)) : am_Ok mt Ls xs d pc (o_ibin (fun x y => x &&& y)) := by
  intro L st M
  unfold o_ibin; dsimp only
  split
  · refine am_Nx.pu ?_
    intro p l e R s m args below meth c ad base D dA H locs cells slots Q ls C hl hW hS hc hs k
    obtain ⟨⟨hx, hb, hml, hown, hts⟩, hK, hbs, hin, ⟨hRf, hRl⟩, hX, had, hsc⟩ := C
    exact lv_iand hx hb hdg (k ls hl)
  · exact trivial
set_option maxRecDepth 20000 in
theorem ok_ior {mt : Nat → AmMd} {Ls : Nat} {xs : Nat → Int32} {d : AmMd} {pc : Nat} (hdg : decode d.1 pc = .ok (.ior, 1)) : am_Ok mt Ls xs d pc (o_ibin (fun x y => x ||| y)) := by
  intro L st M
  unfold o_ibin; dsimp only
  split
  · refine am_Nx.pu ?_
    intro p l e R s m args below meth c ad base D dA H locs cells slots Q ls C hl hW hS hc hs k
    obtain ⟨⟨hx, hb, hml, hown, hts⟩, hK, hbs, hin, ⟨hRf, hRl⟩, hX, had, hsc⟩ := C
    exact lv_ior hx hb hdg (k ls hl)
  · exact trivial
set_option maxRecDepth 20000 in
theorem ok_ixor {mt : Nat → AmMd} {Ls : Nat} {xs : Nat → Int32} {d : AmMd} {pc : Nat} (hdg : decode d.1 pc = .ok (.ixor, 1)) : am_Ok mt Ls xs d pc (o_ibin (fun x y => x ^^^ y)) := by
  intro L st M
  unfold o_ibin; dsimp only
  split
  · refine am_Nx.pu ?_
    intro p l e R s m args below meth c ad base D dA H locs cells slots Q ls C hl hW hS hc hs k
    obtain ⟨⟨hx, hb, hml, hown, hts⟩, hK, hbs, hin, ⟨hRf, hRl⟩, hX, had, hsc⟩ := C
    exact lv_ixor hx hb hdg (k ls hl)
  · exact trivial
set_option maxRecDepth 20000 in
theorem ok_ishl {mt : Nat → AmMd} {Ls : Nat} {xs : Nat → Int32} {d : AmMd} {pc : Nat} (hdg : decode d.1 pc = .ok (.ishl, 1)) : am_Ok mt Ls xs d pc (o_ibin (fun x y => x <<< (y &&& 31))) := by
  intro L st M
  unfold o_ibin; dsimp only
  split
  · refine am_Nx.pu ?_
    intro p l e R s m args below meth c ad base D dA H locs cells slots Q ls C hl hW hS hc hs k
    obtain ⟨⟨hx, hb, hml, hown, hts⟩, hK, hbs, hin, ⟨hRf, hRl⟩, hX, had, hsc⟩ := C
    exact lv_ishl hx hb hdg (k ls hl)
  · exact trivial
set_option maxRecDepth 20000 in
theorem ok_ishr {mt : Nat → AmMd} {Ls : Nat} {xs : Nat → Int32} {d : AmMd} {pc : Nat} (hdg : decode d.1 pc = .ok (.ishr, 1)) : am_Ok mt Ls xs d pc (o_ibin (fun x y => x >>> (y &&& 31))) := by
  intro L st M
  unfold o_ibin; dsimp only
  split
  · refine am_Nx.pu ?_
    intro p l e R s m args below meth c ad base D dA H locs cells slots Q ls C hl hW hS hc hs k
    obtain ⟨⟨hx, hb, hml, hown, hts⟩, hK, hbs, hin, ⟨hRf, hRl⟩, hX, had, hsc⟩ := C
    exact lv_ishr hx hb hdg (k ls hl)
  · exact trivial
set_option maxRecDepth 20000 in
theorem ok_idiv {mt : Nat → AmMd} {Ls : Nat} {xs : Nat → Int32} {d : AmMd} {pc : Nat} (hdg : decode d.1 pc = .ok (.idiv, 1)) : am_Ok mt Ls xs d pc (o_idv (fun x y => x / y)) := by
  intro L st M
  unfold o_idv; dsimp only
  split
  · split
    · exact trivial
    · rename_i hne
      refine am_Nx.pu ?_
      intro p l e R s m args below meth c ad base D dA H locs cells slots Q ls C hl hW hS hc hs k
      obtain ⟨⟨hx, hb, hml, hown, hts⟩, hK, hbs, hin, ⟨hRf, hRl⟩, hX, had, hsc⟩ := C
      exact lv_idiv hx hb hdg hne (k ls hl)
  · exact trivial
set_option maxRecDepth 20000 in
theorem ok_irem {mt : Nat → AmMd} {Ls : Nat} {xs : Nat → Int32} {d : AmMd} {pc : Nat} (hdg : decode d.1 pc = .ok (.irem, 1)) : am_Ok mt Ls xs d pc (o_idv (fun x y => x - x / y * y)) := by
  intro L st M
  unfold o_idv; dsimp only
  split
  · split
    · exact trivial
    · rename_i hne
      refine am_Nx.pu ?_
      intro p l e R s m args below meth c ad base D dA H locs cells slots Q ls C hl hW hS hc hs k
      obtain ⟨⟨hx, hb, hml, hown, hts⟩, hK, hbs, hin, ⟨hRf, hRl⟩, hX, had, hsc⟩ := C
      exact lv_irem hx hb hdg hne (k ls hl)
  · exact trivial
set_option maxRecDepth 20000 in
theorem ok_ladd {mt : Nat → AmMd} {Ls : Nat} {xs : Nat → Int32} {d : AmMd} {pc : Nat} (hdg : decode d.1 pc = .ok (.ladd, 1)) : am_Ok mt Ls xs d pc (o_lbin (fun x y => x + y)) := by
  intro L st M
  unfold o_lbin; dsimp only
  split
  · refine am_Nx.pu ?_
    intro p l e R s m args below meth c ad base D dA H locs cells slots Q ls C hl hW hS hc hs k
    obtain ⟨⟨hx, hb, hml, hown, hts⟩, hK, hbs, hin, ⟨hRf, hRl⟩, hX, had, hsc⟩ := C
    exact lv_ladd hx hb hdg (k ls hl)
  · exact trivial
set_option maxRecDepth 20000 in
theorem ok_lsub {mt : Nat → AmMd} {Ls : Nat} {xs : Nat → Int32} {d : AmMd} {pc : Nat} (hdg : decode d.1 pc = .ok (.lsub, 1)) : am_Ok mt Ls xs d pc (o_lbin (fun x y => x - y)) := by
  intro L st M
  unfold o_lbin; dsimp only
  split
  · refine am_Nx.pu ?_
    intro p l e R s m args below meth c ad base D dA H locs cells slots Q ls C hl hW hS hc hs k
    obtain ⟨⟨hx, hb, hml, hown, hts⟩, hK, hbs, hin, ⟨hRf, hRl⟩, hX, had, hsc⟩ := C
    exact lv_lsub hx hb hdg (k ls hl)
  · exact trivial
set_option maxRecDepth 20000 in
theorem ok_lmul {mt : Nat → AmMd} {Ls : Nat} {xs : Nat → Int32} {d : AmMd} {pc : Nat} (hdg : decode d.1 pc = .ok (.lmul, 1)) : am_Ok mt Ls xs d pc (o_lbin (fun x y => x * y)) := by
  intro L st M
  unfold o_lbin; dsimp only
  split
  · refine am_Nx.pu ?_
    intro p l e R s m args below meth c ad base D dA H locs cells slots Q ls C hl hW hS hc hs k
    obtain ⟨⟨hx, hb, hml, hown, hts⟩, hK, hbs, hin, ⟨hRf, hRl⟩, hX, had, hsc⟩ := C
    exact lv_lmul hx hb hdg (k ls hl)
  · exact trivial
set_option maxRecDepth 20000 in
theorem ok_land {mt : Nat → AmMd} {Ls : Nat} {xs : Nat → Int32} {d : AmMd} {pc : Nat} (hdg : decode d.1 pc = .ok (.land, 1)) : am_Ok mt Ls xs d pc (o_lbin (fun x y => x &&& y)) := by
  intro L st M
  unfold o_lbin; dsimp only
  split
  · refine am_Nx.pu ?_
    intro p l e R s m args below meth c ad base D dA H locs cells slots Q ls C hl hW hS hc hs k
    obtain ⟨⟨hx, hb, hml, hown, hts⟩, hK, hbs, hin, ⟨hRf, hRl⟩, hX, had, hsc⟩ := C
    exact lv_land hx hb hdg (k ls hl)
  · exact trivial
set_option maxRecDepth 20000 in
theorem ok_lor {mt : Nat → AmMd} {Ls : Nat} {xs : Nat → Int32} {d : AmMd} {pc : Nat} (hdg : decode d.1 pc = .ok (.lor, 1)) : am_Ok mt Ls xs d pc (o_lbin (fun x y => x ||| y)) := by
  intro L st M
  unfold o_lbin; dsimp only
  split
  · refine am_Nx.pu ?_
    intro p l e R s m args below meth c ad base D dA H locs cells slots Q ls C hl hW hS hc hs k
    obtain ⟨⟨hx, hb, hml, hown, hts⟩, hK, hbs, hin, ⟨hRf, hRl⟩, hX, had, hsc⟩ := C
    exact lv_lor hx hb hdg (k ls hl)
  · exact trivial
set_option maxRecDepth 20000 in
theorem ok_lxor {mt : Nat → AmMd} {Ls : Nat} {xs : Nat → Int32} {d : AmMd} {pc : Nat} (hdg : decode d.1 pc = .ok (.lxor, 1)) : am_Ok mt Ls xs d pc (o_lbin (fun x y => x ^^^ y)) := by
  intro L st M
  unfold o_lbin; dsimp only
  split
  · refine am_Nx.pu ?_
    intro p l e R s m args below meth c ad base D dA H locs cells slots Q ls C hl hW hS hc hs k
    obtain ⟨⟨hx, hb, hml, hown, hts⟩, hK, hbs, hin, ⟨hRf, hRl⟩, hX, had, hsc⟩ := C
    exact lv_lxor hx hb hdg (k ls hl)
  · exact trivial
set_option maxRecDepth 20000 in
theorem ok_lrem {mt : Nat → AmMd} {Ls : Nat} {xs : Nat → Int32} {d : AmMd} {pc : Nat} (hdg : decode d.1 pc = .ok (.lrem, 1)) : am_Ok mt Ls xs d pc (o_ldv (fun x y => x - x / y * y)) := by
  intro L st M
  unfold o_ldv; dsimp only
  split
  · split
    · exact trivial
    · rename_i hne
      refine am_Nx.pu ?_
      intro p l e R s m args below meth c ad base D dA H locs cells slots Q ls C hl hW hS hc hs k
      obtain ⟨⟨hx, hb, hml, hown, hts⟩, hK, hbs, hin, ⟨hRf, hRl⟩, hX, had, hsc⟩ := C
      exact lv_lrem hx hb hdg hne (k ls hl)
  · exact trivial
set_option maxRecDepth 20000 in
theorem ok_lshl {mt : Nat → AmMd} {Ls : Nat} {xs : Nat → Int32} {d : AmMd} {pc : Nat} (hdg : decode d.1 pc = .ok (.lshl, 1)) : am_Ok mt Ls xs d pc (o_lsh (fun x y => x <<< (y.toInt64 &&& 63))) := by
  intro L st M
  unfold o_lsh; dsimp only
  split
  · refine am_Nx.pu ?_
    intro p l e R s m args below meth c ad base D dA H locs cells slots Q ls C hl hW hS hc hs k
    obtain ⟨⟨hx, hb, hml, hown, hts⟩, hK, hbs, hin, ⟨hRf, hRl⟩, hX, had, hsc⟩ := C
    exact lv_lshl hx hb hdg rfl (k ls hl)
  · exact trivial
set_option maxRecDepth 20000 in
theorem ok_lshr {mt : Nat → AmMd} {Ls : Nat} {xs : Nat → Int32} {d : AmMd} {pc : Nat} (hdg : decode d.1 pc = .ok (.lshr, 1)) : am_Ok mt Ls xs d pc (o_lsh (fun x y => x >>> (y.toInt64 &&& 63))) := by
  intro L st M
  unfold o_lsh; dsimp only
  split
  · refine am_Nx.pu ?_
    intro p l e R s m args below meth c ad base D dA H locs cells slots Q ls C hl hW hS hc hs k
    obtain ⟨⟨hx, hb, hml, hown, hts⟩, hK, hbs, hin, ⟨hRf, hRl⟩, hX, had, hsc⟩ := C
    exact lv_lshr hx hb hdg rfl (k ls hl)
  · exact trivial
set_option maxRecDepth 20000 in
theorem ok_lushr {mt : Nat → AmMd} {Ls : Nat} {xs : Nat → Int32} {d : AmMd} {pc : Nat} (hdg : decode d.1 pc = .ok (.lushr, 1)) : am_Ok mt Ls xs d pc (o_lsh (fun x y => (x.toUInt64 >>> (y.toInt64.toUInt64 &&& Int64.toUInt64 63)).toInt64)) := by
  intro L st M
  unfold o_lsh; dsimp only
  split
  · refine am_Nx.pu ?_
    intro p l e R s m args below meth c ad base D dA H locs cells slots Q ls C hl hW hS hc hs k
    obtain ⟨⟨hx, hb, hml, hown, hts⟩, hK, hbs, hin, ⟨hRf, hRl⟩, hX, had, hsc⟩ := C
    exact lv_lushr hx hb hdg rfl (k ls hl)
  · exact trivial
set_option maxRecDepth 20000 in
theorem ok_lcmp {mt : Nat → AmMd} {Ls : Nat} {xs : Nat → Int32} {d : AmMd} {pc : Nat} (hdg : decode d.1 pc = .ok (.lcmp, 1)) : am_Ok mt Ls xs d pc (o_lcmp) := by
  intro L st M
  unfold o_lcmp; dsimp only
  split
  · refine am_Nx.pu ?_
    intro p l e R s m args below meth c ad base D dA H locs cells slots Q ls C hl hW hS hc hs k
    obtain ⟨⟨hx, hb, hml, hown, hts⟩, hK, hbs, hin, ⟨hRf, hRl⟩, hX, had, hsc⟩ := C
    exact W.lcmp hx hb hdg (k ls hl)
  · exact trivial
set_option maxRecDepth 20000 in
theorem ok_i2l {mt : Nat → AmMd} {Ls : Nat} {xs : Nat → Int32} {d : AmMd} {pc : Nat} (hdg : decode d.1 pc = .ok (.i2l, 1)) : am_Ok mt Ls xs d pc (o_i2l) := by
  intro L st M
  unfold o_i2l; dsimp only
  split
  · refine am_Nx.pu ?_
    intro p l e R s m args below meth c ad base D dA H locs cells slots Q ls C hl hW hS hc hs k
    obtain ⟨⟨hx, hb, hml, hown, hts⟩, hK, hbs, hin, ⟨hRf, hRl⟩, hX, had, hsc⟩ := C
    exact lv_i2l hx hb hdg rfl (k ls hl)
  · exact trivial
set_option maxRecDepth 20000 in
theorem ok_l2i {mt : Nat → AmMd} {Ls : Nat} {xs : Nat → Int32} {d : AmMd} {pc : Nat} (hdg : decode d.1 pc = .ok (.l2i, 1)) : am_Ok mt Ls xs d pc (o_l2i) := by
  intro L st M
  unfold o_l2i; dsimp only
  split
  · refine am_Nx.pu ?_
    intro p l e R s m args below meth c ad base D dA H locs cells slots Q ls C hl hW hS hc hs k
    obtain ⟨⟨hx, hb, hml, hown, hts⟩, hK, hbs, hin, ⟨hRf, hRl⟩, hX, had, hsc⟩ := C
    exact lv_l2i hx hb hdg rfl (k ls hl)
  · exact trivial
set_option maxRecDepth 20000 in
theorem ok_i2b {mt : Nat → AmMd} {Ls : Nat} {xs : Nat → Int32} {d : AmMd} {pc : Nat} (hdg : decode d.1 pc = .ok (.i2b, 1)) : am_Ok mt Ls xs d pc (o_iun (fun x => x.toInt8.toInt32)) := by
  intro L st M
  unfold o_iun; dsimp only
  split
  · refine am_Nx.pu ?_
    intro p l e R s m args below meth c ad base D dA H locs cells slots Q ls C hl hW hS hc hs k
    obtain ⟨⟨hx, hb, hml, hown, hts⟩, hK, hbs, hin, ⟨hRf, hRl⟩, hX, had, hsc⟩ := C
    exact lv_i2b hx hb hdg rfl (k ls hl)
  · exact trivial
set_option maxRecDepth 20000 in
theorem ok_i2c {mt : Nat → AmMd} {Ls : Nat} {xs : Nat → Int32} {d : AmMd} {pc : Nat} (hdg : decode d.1 pc = .ok (.i2c, 1)) : am_Ok mt Ls xs d pc (o_iun (fun x => (x.toUInt32 % 65536).toInt32)) := by
  intro L st M
  unfold o_iun; dsimp only
  split
  · refine am_Nx.pu ?_
    intro p l e R s m args below meth c ad base D dA H locs cells slots Q ls C hl hW hS hc hs k
    obtain ⟨⟨hx, hb, hml, hown, hts⟩, hK, hbs, hin, ⟨hRf, hRl⟩, hX, had, hsc⟩ := C
    exact lv_i2c hx hb hdg rfl (k ls hl)
  · exact trivial
set_option maxRecDepth 20000 in
theorem ok_dup {mt : Nat → AmMd} {Ls : Nat} {xs : Nat → Int32} {d : AmMd} {pc : Nat} (hdg : decode d.1 pc = .ok (.dup, 1)) : am_Ok mt Ls xs d pc (o_dup) := by
  intro L st M
  unfold o_dup; dsimp only
  split
  · split
    · rename_i hcat
      refine am_Nx.pu ?_
      intro p l e R s m args below meth c ad base D dA H locs cells slots Q ls C hl hW hS hc hs k
      obtain ⟨⟨hx, hb, hml, hown, hts⟩, hK, hbs, hin, ⟨hRf, hRl⟩, hX, had, hsc⟩ := C
      exact lv_dup hx hb hdg (by rw [am_v_cat]; exact hcat) (k ls hl)
    · exact trivial
  · exact trivial
set_option maxRecDepth 20000 in
theorem ok_pop {mt : Nat → AmMd} {Ls : Nat} {xs : Nat → Int32} {d : AmMd} {pc : Nat} (hdg : decode d.1 pc = .ok (.pop, 1)) : am_Ok mt Ls xs d pc (o_pop) := by
  intro L st M
  unfold o_pop; dsimp only
  split
  · split
    · rename_i hcat
      refine am_Nx.pu ?_
      intro p l e R s m args below meth c ad base D dA H locs cells slots Q ls C hl hW hS hc hs k
      obtain ⟨⟨hx, hb, hml, hown, hts⟩, hK, hbs, hin, ⟨hRf, hRl⟩, hX, had, hsc⟩ := C
      exact lv_pop hx hb hdg (by rw [am_v_cat]; exact hcat) (k ls hl)
    · exact trivial
  · exact trivial
set_option maxRecDepth 20000 in
theorem ok_dup2 {mt : Nat → AmMd} {Ls : Nat} {xs : Nat → Int32} {d : AmMd} {pc : Nat} (hdg : decode d.1 pc = .ok (.dup2, 1)) : am_Ok mt Ls xs d pc (o_dup2) := by
  intro L st M
  unfold o_dup2; dsimp only
  split
  · split
    · rename_i hcat
      refine am_Nx.pu ?_
      intro p l e R s m args below meth c ad base D dA H locs cells slots Q ls C hl hW hS hc hs k
      obtain ⟨⟨hx, hb, hml, hown, hts⟩, hK, hbs, hin, ⟨hRf, hRl⟩, hX, had, hsc⟩ := C
      exact lv_dup2_11 hx hb hdg (by rw [am_v_cat]; exact hcat.1) (by rw [am_v_cat]; exact hcat.2) (k ls hl)
    · exact trivial
  · exact trivial
set_option maxRecDepth 20000 in
theorem ok_ifeq {mt : Nat → AmMd} {Ls : Nat} {xs : Nat → Int32} {d : AmMd} {pc : Nat} {tgt : Nat} {off : Int} (hdg : decode d.1 pc = .ok (.ifCond .eq off, 3)) (ht : (pc : Int) + off = (tgt : Int)) : am_Ok mt Ls xs d pc (o_if (fun x => decide (x = 0)) tgt) := by
  intro L st M
  unfold o_if; dsimp only
  split
  · refine am_Nx.pu ?_
    intro p l e R s m args below meth c ad base D dA H locs cells slots Q ls C hl hW hS hc hs k
    obtain ⟨⟨hx, hb, hml, hown, hts⟩, hK, hbs, hin, ⟨hRf, hRl⟩, hX, had, hsc⟩ := C
    have k2 := k ls hl
    refine lv_if_eq hx hb hdg ht (fun hcc => ?_) (fun hcc => ?_)
    · rw [if_pos (by simpa using hcc)] at k2; exact k2
    · rw [if_neg (by simpa using hcc)] at k2; exact k2
  · exact trivial
set_option maxRecDepth 20000 in
theorem ok_ifne {mt : Nat → AmMd} {Ls : Nat} {xs : Nat → Int32} {d : AmMd} {pc : Nat} {tgt : Nat} {off : Int} (hdg : decode d.1 pc = .ok (.ifCond .ne off, 3)) (ht : (pc : Int) + off = (tgt : Int)) : am_Ok mt Ls xs d pc (o_if (fun x => decide (x ≠ 0)) tgt) := by
  intro L st M
  unfold o_if; dsimp only
  split
  · refine am_Nx.pu ?_
    intro p l e R s m args below meth c ad base D dA H locs cells slots Q ls C hl hW hS hc hs k
    obtain ⟨⟨hx, hb, hml, hown, hts⟩, hK, hbs, hin, ⟨hRf, hRl⟩, hX, had, hsc⟩ := C
    have k2 := k ls hl
    refine lv_if_ne hx hb hdg ht (fun hcc => ?_) (fun hcc => ?_)
    · rw [if_pos (by simpa using hcc)] at k2; exact k2
    · rw [if_neg (by simpa using hcc)] at k2; exact k2
  · exact trivial
set_option maxRecDepth 20000 in
theorem ok_iflt {mt : Nat → AmMd} {Ls : Nat} {xs : Nat → Int32} {d : AmMd} {pc : Nat} {tgt : Nat} {off : Int} (hdg : decode d.1 pc = .ok (.ifCond .lt off, 3)) (ht : (pc : Int) + off = (tgt : Int)) : am_Ok mt Ls xs d pc (o_if (fun x => decide (x < 0)) tgt) := by
  intro L st M
  unfold o_if; dsimp only
  split
  · refine am_Nx.pu ?_
    intro p l e R s m args below meth c ad base D dA H locs cells slots Q ls C hl hW hS hc hs k
    obtain ⟨⟨hx, hb, hml, hown, hts⟩, hK, hbs, hin, ⟨hRf, hRl⟩, hX, had, hsc⟩ := C
    have k2 := k ls hl
    refine lv_if_lt hx hb hdg ht (fun hcc => ?_) (fun hcc => ?_)
    · rw [if_pos (by simpa using hcc)] at k2; exact k2
    · rw [if_neg (by simpa using hcc)] at k2; exact k2
  · exact trivial
set_option maxRecDepth 20000 in
theorem ok_ifge {mt : Nat → AmMd} {Ls : Nat} {xs : Nat → Int32} {d : AmMd} {pc : Nat} {tgt : Nat} {off : Int} (hdg : decode d.1 pc = .ok (.ifCond .ge off, 3)) (ht : (pc : Int) + off = (tgt : Int)) : am_Ok mt Ls xs d pc (o_if (fun x => decide (0 ≤ x)) tgt) := by
  intro L st M
  unfold o_if; dsimp only
  split
  · refine am_Nx.pu ?_
    intro p l e R s m args below meth c ad base D dA H locs cells slots Q ls C hl hW hS hc hs k
    obtain ⟨⟨hx, hb, hml, hown, hts⟩, hK, hbs, hin, ⟨hRf, hRl⟩, hX, had, hsc⟩ := C
    have k2 := k ls hl
    refine lv_if_ge hx hb hdg ht (fun hcc => ?_) (fun hcc => ?_)
    · rw [if_pos (by simpa using hcc)] at k2; exact k2
    · rw [if_neg (by simpa using hcc)] at k2; exact k2
  · exact trivial
set_option maxRecDepth 20000 in
theorem ok_ifgt {mt : Nat → AmMd} {Ls : Nat} {xs : Nat → Int32} {d : AmMd} {pc : Nat} {tgt : Nat} {off : Int} (hdg : decode d.1 pc = .ok (.ifCond .gt off, 3)) (ht : (pc : Int) + off = (tgt : Int)) : am_Ok mt Ls xs d pc (o_if (fun x => decide (0 < x)) tgt) := by
  intro L st M
  unfold o_if; dsimp only
  split
  · refine am_Nx.pu ?_
    intro p l e R s m args below meth c ad base D dA H locs cells slots Q ls C hl hW hS hc hs k
    obtain ⟨⟨hx, hb, hml, hown, hts⟩, hK, hbs, hin, ⟨hRf, hRl⟩, hX, had, hsc⟩ := C
    have k2 := k ls hl
    refine lv_if_gt hx hb hdg ht (fun hcc => ?_) (fun hcc => ?_)
    · rw [if_pos (by simpa using hcc)] at k2; exact k2
    · rw [if_neg (by simpa using hcc)] at k2; exact k2
  · exact trivial
set_option maxRecDepth 20000 in
theorem ok_ifle {mt : Nat → AmMd} {Ls : Nat} {xs : Nat → Int32} {d : AmMd} {pc : Nat} {tgt : Nat} {off : Int} (hdg : decode d.1 pc = .ok (.ifCond .le off, 3)) (ht : (pc : Int) + off = (tgt : Int)) : am_Ok mt Ls xs d pc (o_if (fun x => decide (x ≤ 0)) tgt) := by
  intro L st M
  unfold o_if; dsimp only
  split
  · refine am_Nx.pu ?_
    intro p l e R s m args below meth c ad base D dA H locs cells slots Q ls C hl hW hS hc hs k
    obtain ⟨⟨hx, hb, hml, hown, hts⟩, hK, hbs, hin, ⟨hRf, hRl⟩, hX, had, hsc⟩ := C
    have k2 := k ls hl
    refine lv_if_le hx hb hdg ht (fun hcc => ?_) (fun hcc => ?_)
    · rw [if_pos (by simpa using hcc)] at k2; exact k2
    · rw [if_neg (by simpa using hcc)] at k2; exact k2
  · exact trivial
set_option maxRecDepth 20000 in
theorem ok_iceq {mt : Nat → AmMd} {Ls : Nat} {xs : Nat → Int32} {d : AmMd} {pc : Nat} {tgt : Nat} {off : Int} (hdg : decode d.1 pc = .ok (.if_icmp .eq off, 3)) (ht : (pc : Int) + off = (tgt : Int)) : am_Ok mt Ls xs d pc (o_icmp (fun x y => decide (x = y)) tgt) := by
  intro L st M
  unfold o_icmp; dsimp only
  split
  · refine am_Nx.pu ?_
    intro p l e R s m args below meth c ad base D dA H locs cells slots Q ls C hl hW hS hc hs k
    obtain ⟨⟨hx, hb, hml, hown, hts⟩, hK, hbs, hin, ⟨hRf, hRl⟩, hX, had, hsc⟩ := C
    have k2 := k ls hl
    refine lv_icmp_eq hx hb hdg ht (fun hcc => ?_) (fun hcc => ?_)
    · rw [if_pos (by simpa using hcc)] at k2; exact k2
    · rw [if_neg (by simpa using hcc)] at k2; exact k2
  · exact trivial
set_option maxRecDepth 20000 in
theorem ok_icne {mt : Nat → AmMd} {Ls : Nat} {xs : Nat → Int32} {d : AmMd} {pc : Nat} {tgt : Nat} {off : Int} (hdg : decode d.1 pc = .ok (.if_icmp .ne off, 3)) (ht : (pc : Int) + off = (tgt : Int)) : am_Ok mt Ls xs d pc (o_icmp (fun x y => decide (x ≠ y)) tgt) := by
  intro L st M
  unfold o_icmp; dsimp only
  split
  · refine am_Nx.pu ?_
    intro p l e R s m args below meth c ad base D dA H locs cells slots Q ls C hl hW hS hc hs k
    obtain ⟨⟨hx, hb, hml, hown, hts⟩, hK, hbs, hin, ⟨hRf, hRl⟩, hX, had, hsc⟩ := C
    have k2 := k ls hl
    refine lv_icmp_ne hx hb hdg ht (fun hcc => ?_) (fun hcc => ?_)
    · rw [if_pos (by simpa using hcc)] at k2; exact k2
    · rw [if_neg (by simpa using hcc)] at k2; exact k2
  · exact trivial
set_option maxRecDepth 20000 in
theorem ok_iclt {mt : Nat → AmMd} {Ls : Nat} {xs : Nat → Int32} {d : AmMd} {pc : Nat} {tgt : Nat} {off : Int} (hdg : decode d.1 pc = .ok (.if_icmp .lt off, 3)) (ht : (pc : Int) + off = (tgt : Int)) : am_Ok mt Ls xs d pc (o_icmp (fun x y => decide (x < y)) tgt) := by
  intro L st M
  unfold o_icmp; dsimp only
  split
  · refine am_Nx.pu ?_
    intro p l e R s m args below meth c ad base D dA H locs cells slots Q ls C hl hW hS hc hs k
    obtain ⟨⟨hx, hb, hml, hown, hts⟩, hK, hbs, hin, ⟨hRf, hRl⟩, hX, had, hsc⟩ := C
    have k2 := k ls hl
    refine lv_icmp_lt hx hb hdg ht (fun hcc => ?_) (fun hcc => ?_)
    · rw [if_pos (by simpa using hcc)] at k2; exact k2
    · rw [if_neg (by simpa using hcc)] at k2; exact k2
  · exact trivial
set_option maxRecDepth 20000 in
theorem ok_icge {mt : Nat → AmMd} {Ls : Nat} {xs : Nat → Int32} {d : AmMd} {pc : Nat} {tgt : Nat} {off : Int} (hdg : decode d.1 pc = .ok (.if_icmp .ge off, 3)) (ht : (pc : Int) + off = (tgt : Int)) : am_Ok mt Ls xs d pc (o_icmp (fun x y => decide (y ≤ x)) tgt) := by
  intro L st M
  unfold o_icmp; dsimp only
  split
  · refine am_Nx.pu ?_
    intro p l e R s m args below meth c ad base D dA H locs cells slots Q ls C hl hW hS hc hs k
    obtain ⟨⟨hx, hb, hml, hown, hts⟩, hK, hbs, hin, ⟨hRf, hRl⟩, hX, had, hsc⟩ := C
    have k2 := k ls hl
    refine lv_icmp_ge hx hb hdg ht (fun hcc => ?_) (fun hcc => ?_)
    · rw [if_pos (by simpa using hcc)] at k2; exact k2
    · rw [if_neg (by simpa using hcc)] at k2; exact k2
  · exact trivial
set_option maxRecDepth 20000 in
theorem ok_icgt {mt : Nat → AmMd} {Ls : Nat} {xs : Nat → Int32} {d : AmMd} {pc : Nat} {tgt : Nat} {off : Int} (hdg : decode d.1 pc = .ok (.if_icmp .gt off, 3)) (ht : (pc : Int) + off = (tgt : Int)) : am_Ok mt Ls xs d pc (o_icmp (fun x y => decide (y < x)) tgt) := by
  intro L st M
  unfold o_icmp; dsimp only
  split
  · refine am_Nx.pu ?_
    intro p l e R s m args below meth c ad base D dA H locs cells slots Q ls C hl hW hS hc hs k
    obtain ⟨⟨hx, hb, hml, hown, hts⟩, hK, hbs, hin, ⟨hRf, hRl⟩, hX, had, hsc⟩ := C
    have k2 := k ls hl
    refine lv_icmp_gt hx hb hdg ht (fun hcc => ?_) (fun hcc => ?_)
    · rw [if_pos (by simpa using hcc)] at k2; exact k2
    · rw [if_neg (by simpa using hcc)] at k2; exact k2
  · exact trivial
set_option maxRecDepth 20000 in
theorem ok_icle {mt : Nat → AmMd} {Ls : Nat} {xs : Nat → Int32} {d : AmMd} {pc : Nat} {tgt : Nat} {off : Int} (hdg : decode d.1 pc = .ok (.if_icmp .le off, 3)) (ht : (pc : Int) + off = (tgt : Int)) : am_Ok mt Ls xs d pc (o_icmp (fun x y => decide (x ≤ y)) tgt) := by
  intro L st M
  unfold o_icmp; dsimp only
  split
  · refine am_Nx.pu ?_
    intro p l e R s m args below meth c ad base D dA H locs cells slots Q ls C hl hW hS hc hs k
    obtain ⟨⟨hx, hb, hml, hown, hts⟩, hK, hbs, hin, ⟨hRf, hRl⟩, hX, had, hsc⟩ := C
    have k2 := k ls hl
    refine lv_icmp_le hx hb hdg ht (fun hcc => ?_) (fun hcc => ?_)
    · rw [if_pos (by simpa using hcc)] at k2; exact k2
    · rw [if_neg (by simpa using hcc)] at k2; exact k2
  · exact trivial
set_option maxRecDepth 20000 in
theorem ok_goto {mt : Nat → AmMd} {Ls : Nat} {xs : Nat → Int32} {d : AmMd} {pc : Nat} {tgt : Nat} {off : Int} (hdg : decode d.1 pc = .ok (.goto off, 3)) (ht : (pc : Int) + off = (tgt : Int)) : am_Ok mt Ls xs d pc (o_goto tgt) := by
  intro L st M
  unfold o_goto; dsimp only
  refine am_Nx.pu ?_
  intro p l e R s m args below meth c ad base D dA H locs cells slots Q ls C hl hW hS hc hs k
  obtain ⟨⟨hx, hb, hml, hown, hts⟩, hK, hbs, hin, ⟨hRf, hRl⟩, hX, had, hsc⟩ := C
  exact lv_goto hx hb hdg ht (k ls hl)
theorem am_tswx {pc : Nat} {offs : Array Int} {tgts : List Nat} {j t : Nat} (ho : offs.toList.map (fun o => (pc : Int) + o) = tgts.map Int.ofNat) (ht : tgts[j]? = some t) : ∃ off : Int, offs[j]? = some off ∧ (pc : Int) + off = (t : Int) := by
  have h2 : (offs.toList.map (fun o => (pc : Int) + o))[j]? = some (t : Int) := by rw [ho, List.getElem?_map, ht]; rfl
  rw [List.getElem?_map] at h2
  obtain ⟨off, ho1, ho2⟩ := Option.map_eq_some_iff.mp h2
  exact ⟨off, by rw [← Array.getElem?_toList]; exact ho1, ho2⟩
set_option maxRecDepth 20000 in
theorem ok_tsw {mt : Nat → AmMd} {Ls : Nat} {xs : Nat → Int32} {d : AmMd} {pc : Nat} {lo hi df : Int} {offs : Array Int} {tgts : List Nat} {dflt len : Nat} (hdg : decode d.1 pc = .ok (.tableswitch df lo hi offs, len)) (hd : (pc : Int) + df = (dflt : Int)) (ho : offs.toList.map (fun o => (pc : Int) + o) = tgts.map Int.ofNat) : am_Ok mt Ls xs d pc (o_tsw lo hi tgts dflt) := by
  intro L st M
  unfold o_tsw; dsimp only
  split
  · split
    · rename_i hcc
      refine am_Nx.pu ?_
      intro p l e R s m args below meth c ad base D dA H locs cells slots Q ls C hl hW hS hc hs k
      obtain ⟨⟨hx, hb, hml, hown, hts⟩, hK, hbs, hin, ⟨hRf, hRl⟩, hX, had, hsc⟩ := C
      exact lv_tableOut hx hb hdg hcc hd (k ls hl)
    · rename_i hcc
      split
      · rename_i t ht
        refine am_Nx.pu ?_
        intro p l e R s m args below meth c ad base D dA H locs cells slots Q ls C hl hW hS hc hs k
        obtain ⟨⟨hx, hb, hml, hown, hts⟩, hK, hbs, hin, ⟨hRf, hRl⟩, hX, had, hsc⟩ := C
        rw [not_or] at hcc
        obtain ⟨off, ho1, ho2⟩ := am_tswx ho ht
        exact lv_tableIn hx hb hdg hcc.1 hcc.2 ho1 ho2 (k ls hl)
      · exact trivial
  · exact trivial
set_option maxRecDepth 20000 in
theorem ok_iret {mt : Nat → AmMd} {Ls : Nat} {xs : Nat → Int32} {d : AmMd} {pc : Nat} (hdg : decode d.1 pc = .ok (.ireturn, 1)) (hret : d.2.2.2.2.2.2.1 = some .int) : am_Ok mt Ls xs d pc (o_iret) := by
  intro L st M
  unfold o_iret; dsimp only
  split
  · refine ⟨rfl, ?_⟩
    intro p l e R s m args below meth c ad base D dA H locs cells slots ls Qc free C hr hlk hq hf
    obtain ⟨⟨hx, hb, hml, hown, hts⟩, hK, hbs, hin, ⟨hRf, hRl⟩, hX, had, hsc⟩ := C
    rw [hret] at hr
    exact W.iret hx hb hr hq hf hdg hlk
  · exact trivial
set_option maxRecDepth 20000 in
theorem ok_zret {mt : Nat → AmMd} {Ls : Nat} {xs : Nat → Int32} {d : AmMd} {pc : Nat} (hdg : decode d.1 pc = .ok (.ireturn, 1)) (hret : d.2.2.2.2.2.2.1 = some .boolean) : am_Ok mt Ls xs d pc (o_zret) := by
  intro L st M
  unfold o_zret; dsimp only
  split
  · split
    · rename_i hcc
      refine ⟨rfl, ?_⟩
      intro p l e R s m args below meth c ad base D dA H locs cells slots ls Qc free C hr hlk hq hf
      obtain ⟨⟨hx, hb, hml, hown, hts⟩, hK, hbs, hin, ⟨hRf, hRl⟩, hX, had, hsc⟩ := C
      rw [hret] at hr
      exact W.zret hx hb hr (by rcases hcc with h | h <;> rw [h] <;> rfl) hq hf hdg hlk
    · exact trivial
  · exact trivial
set_option maxRecDepth 20000 in
theorem ok_nret {mt : Nat → AmMd} {Ls : Nat} {xs : Nat → Int32} {d : AmMd} {pc : Nat} {ty : FieldType} (hdg : decode d.1 pc = .ok (.ireturn, 1)) (hret : d.2.2.2.2.2.2.1 = some ty) : am_Ok mt Ls xs d pc (o_nret ty) := by
  intro L st M
  unfold o_nret; dsimp only
  split
  · split
    · rename_i hcc
      refine ⟨rfl, ?_⟩
      intro p l e R s m args below meth c ad base D dA H locs cells slots ls Qc free C hr hlk hq hf
      obtain ⟨⟨hx, hb, hml, hown, hts⟩, hK, hbs, hin, ⟨hRf, hRl⟩, hX, had, hsc⟩ := C
      rw [hret] at hr
      exact W.zret hx hb hr hcc hq hf hdg hlk
    · exact trivial
  · exact trivial
set_option maxRecDepth 20000 in
theorem ok_lret {mt : Nat → AmMd} {Ls : Nat} {xs : Nat → Int32} {d : AmMd} {pc : Nat} (hdg : decode d.1 pc = .ok (.lreturn, 1)) (hret : d.2.2.2.2.2.2.1 = some .long) : am_Ok mt Ls xs d pc (o_lret) := by
  intro L st M
  unfold o_lret; dsimp only
  split
  · refine ⟨rfl, ?_⟩
    intro p l e R s m args below meth c ad base D dA H locs cells slots ls Qc free C hr hlk hq hf
    obtain ⟨⟨hx, hb, hml, hown, hts⟩, hK, hbs, hin, ⟨hRf, hRl⟩, hX, had, hsc⟩ := C
    rw [hret] at hr
    exact W.lret hx hb hr hq hf hdg hlk
  · exact trivial
set_option maxRecDepth 20000 in
theorem ok_aret {mt : Nat → AmMd} {Ls : Nat} {xs : Nat → Int32} {d : AmMd} {pc : Nat} {C : String} (hdg : decode d.1 pc = .ok (.areturn, 1)) (hret : d.2.2.2.2.2.2.1 = some (.object C)) : am_Ok mt Ls xs d pc (o_aret) := by
  intro L st M
  unfold o_aret; dsimp only
  split
  · refine ⟨rfl, ?_⟩
    intro p l e R s m args below meth c ad base D dA H locs cells slots ls Qc free C hr hlk hq hf
    obtain ⟨⟨hx, hb, hml, hown, hts⟩, hK, hbs, hin, ⟨hRf, hRl⟩, hX, had, hsc⟩ := C
    rw [hret] at hr
    exact W.aret hx hb hr (Or.inl ⟨_, rfl⟩) (Or.inr ⟨_, rfl⟩) hq hf hdg hlk
  · exact trivial
set_option maxRecDepth 20000 in
theorem ok_vret {mt : Nat → AmMd} {Ls : Nat} {xs : Nat → Int32} {d : AmMd} {pc : Nat} (hdg : decode d.1 pc = .ok (.return_, 1)) (hret : d.2.2.2.2.2.2.1 = none) : am_Ok mt Ls xs d pc (o_vret) := by
  intro L st M
  unfold o_vret; dsimp only
  split
  · refine ⟨rfl, ?_⟩
    intro p l e R s m args below meth c ad base D dA H locs cells slots ls Qc free C hr hlk hq hf
    obtain ⟨⟨hx, hb, hml, hown, hts⟩, hK, hbs, hin, ⟨hRf, hRl⟩, hX, had, hsc⟩ := C
    rw [hret] at hr
    exact W.vret hx hb hr hq hf hdg hlk
  · exact trivial
