theorem am_up2_ne {α : Type} (I : Nat → Nat → α) (r i : Nat) (x : α) {j : Nat} (h : j ≠ r) : am_up2 I r i x j = I j := by
  funext q
  simp [am_up2, h]
theorem am_up2_upd (I : Nat → Nat → Int32) (r i : Nat) (x : Int32) : am_up2 I r i x r = upd (I r) i x := by
  funext q
  simp [am_up2, upd]
theorem am_up2_updL (I : Nat → Nat → Int64) (r i : Nat) (x : Int64) : am_up2 I r i x r = vp_updL (I r) i x := by
  funext q
  simp [am_up2, vp_updL]
/-- a field's value, changed -/
theorem am_fs {ad : Nat → Nat} {I I' : Nat → Nat → Int32} {J J' : Nat → Nat → Int64} {r k : Nat} {rs rs' : List Int} {w : Value} (hlen : rs'.length = rs.length) (ho : ∀ (j : Nat) (z : Int), j ≠ k → rs[j]? = some z → rs'[j]? = some z ∧ am_fv I' J' r j z = am_fv I J r j z) (hk : ∃ z', rs'[k]? = some z' ∧ am_v ad (am_fv I' J' r k z') = w) : rs'.mapIdx (fun k z => am_v ad (am_fv I' J' r k z)) = (rs.mapIdx (fun k z => am_v ad (am_fv I J r k z))).set k w := by
  obtain ⟨z', hz', hw⟩ := hk
  have hl : k < rs.length := by rw [← hlen]; exact (List.getElem?_eq_some_iff.mp hz').1
  apply List.ext_getElem?
  intro j
  rw [List.getElem?_mapIdx, List.getElem?_set, List.getElem?_mapIdx, List.length_mapIdx]
  by_cases hj : k = j
  · subst hj
    rw [if_pos rfl, if_pos hl, hz', Option.map_some, hw]
  · rw [if_neg hj]
    cases h : rs[j]? with
    | none =>
      have : rs'[j]? = none := List.getElem?_eq_none (by rw [hlen]; exact List.getElem?_eq_none_iff.mp h)
      rw [this]; rfl
    | some z =>
      obtain ⟨h1, h2⟩ := ho j z (Ne.symm hj) h
      rw [h1, Option.map_some, Option.map_some, h2]
theorem am_fv_i {I : Nat → Nat → Int32} {J : Nat → Nat → Int64} {r k j : Nat} {x : Int32} {z : Int} (h : j ≠ k) : am_fv (am_up2 I r k x) J r j z = am_fv I J r j z := by
  simp [am_fv, am_up2, h]
theorem am_fv_l {I : Nat → Nat → Int32} {J : Nat → Nat → Int64} {r k j : Nat} {x : Int64} {z : Int} (h : j ≠ k) : am_fv I (am_up2 J r k x) r j z = am_fv I J r j z := by
  simp [am_fv, am_up2, h]
set_option maxRecDepth 20000 in
theorem ok_get {mt : Nat → AmMd} {Ls : Nat} {xs : Nat → Int32} {d : AmMd} {pc ci k index : Nat} {C : String} {T : u_T} {N : Nat} (hdg : decode d.1 pc = .ok (.getfield index, 3)) (hc : vwCl[ci]? = some (C, T, N)) (hk : k < N) (hlink : Cond.fieldLink d.2.2.1 index (T k).1 (T k).2.1 (T k).2.2.1 ∈ am_tb) : am_Ok mt Ls xs d pc (o_get ci k) := by
  intro L st M
  unfold o_get; dsimp only
  split
  · split
    · split
      · split
        · rename_i r st2 x1 c0 rs hsh hcc x2 z hz
          subst hcc
          refine am_Nx.pu ?_
          intro p l e R s m args below meth c ad base D dA H locs cells slots Q ls CC hl hW hS hcb hsb kk
          obtain ⟨⟨hx, hb, hml, hown, hts⟩, hK, hbs, hin, ⟨hRf, hRl⟩, hX, had, hsc⟩ := CC
          obtain ⟨hin1, -, -⟩ := am_cl _ _ hc
          exact va_get (own := d.2.2.1) (ref := (T k).1) hx hb hts hin1 hown hK hW.1 r (by rw [am_ws_get, hsh]; rfl) hc k hk (hts _ hlink) (fun _ h9 => h9) (v := am_v ad (am_fv M.2.1 M.2.2 r k z)) (by rw [List.getElem?_mapIdx, hz]; rfl) hdg (kk ls hl)
        · exact trivial
      · exact trivial
    · exact trivial
  · exact trivial
theorem am_Nx.wr {Ls : Nat} {xs : Nat → Int32} {d : AmMd} {pc pc' : Nat} {L : AmLs} {st st' : List Value} {M M' : AmM} (hlen : M'.1.length = M.1.length) (hsl : am_sl M'.1 = am_sl M.1) (h : ∀ (p : Program) (l : Launch) (e : Env) (R : Room) (s : State) (m : MethodId) (args : Array Value) (below : List Frame) (meth : Method) (c : Code) (ad : Nat → Nat) (base : Nat) (D : va_G) (dA : Nat → ClassId) (H : Heap) (locs : List Loc) (cells slots : Nat) (Q : State → Prop) (ls : Array Slot),
    am_C Ls xs ad base D dA d p R s m args meth c → am_Wd ad D dA M H → va_S (fun q => base ≤ q) s.heap H locs → (∀ (H' : Heap) (locs' : List Loc), va_P D vwCl (am_ws ad dA M') H' → va_S (fun q => base ≤ q) s.heap H' locs' → W p l e R s m args below meth c H' locs' cells slots Q (F0 m pc' ls (st'.map (am_v ad)))) →
    W p l e R s m args below meth c H locs cells slots Q (F0 m pc ls (st.map (am_v ad)))) : am_Nx Ls xs d (pc, L, st, M) (pc', L, st', M') := by
  refine ⟨⟨by show M.1.length ≤ M'.1.length; omega, by show am_sl M.1 ≤ am_sl M'.1; omega⟩, ?_⟩
  intro p l e R s m args below meth c ad base D dA H locs cells slots Q ls C hl hW hS _ hc hs k
  dsimp only at hc hs k hl hW ⊢
  rw [hlen, hsl, Nat.sub_self, Nat.sub_self, Nat.add_zero, Nat.add_zero] at k
  exact h p l e R s m args below meth c ad base D dA H locs cells slots Q ls C hW hS (fun H' locs' hP' hS' => k ls H' locs' hl ⟨hP', by rw [hlen]; exact hW.2⟩ hS')
set_option maxRecDepth 20000 in
theorem ok_puti {mt : Nat → AmMd} {Ls : Nat} {xs : Nat → Int32} {d : AmMd} {pc : Nat} {ci k index : Nat} {C : String} {T : u_T} {N : Nat} (hdg : decode d.1 pc = .ok (.putfield index, 3)) (hc : vwCl[ci]? = some (C, T, N)) (hk : k < N) (hlink : Cond.fieldLink d.2.2.1 index (T k).1 (T k).2.1 (T k).2.2.1 ∈ am_tb) (hfin : (T k).2.2.2 = false) (hd : parseFieldDescriptor (T k).2.2.1 = some .int) : am_Ok mt Ls xs d pc (o_puti ci k) := by
  intro L st M
  unfold o_puti; dsimp only
  split
  · split
    · split
      · rename_i x r st2 x1 c0 rs hsh hcc
        obtain ⟨hcc, hz⟩ := hcc
        subst hcc
        refine am_Nx.wr rfl rfl ?_
        intro p l e R s m args below meth c ad base D dA H locs cells slots Q ls CC hW hS kk
        obtain ⟨⟨hx, hb, hml, hown, hts⟩, hK, hbs, hin, ⟨hRf, hRl⟩, hX, had, hsc⟩ := CC
        obtain ⟨hin1, ⟨ty0, hty⟩, hnm⟩ := am_cl _ _ hc
        refine va_put (own := d.2.2.1) (ref := (T k).1) (v := .int x) hx hb hts hin1 ty0 hty hnm hown hK hW.1 (am_D had hW.2) hS r (by rw [am_ws_get, hsh]; rfl) hc k hk (hts _ hlink) (fun _ h9 => h9) hfin hd rfl rfl (by rw [List.length_mapIdx]; exact (List.getElem?_eq_some_iff.mp hz).1) hdg (fun H1 locs1 hP1 _ hS1 => kk H1 locs1 ?_ hS1)
        have e9 := am_set (ad := ad) (dA := dA) (M := M) (M' := (M.1, am_up2 M.2.1 r k x, M.2.2)) (k := r) (s' := (0, c0, rs)) (e1 := .inr (c0, (rs.mapIdx (fun k z => am_v ad (am_fv M.2.1 M.2.2 r k z))).set k (.int x))) (am_set0 hsh) (fun j hj => ⟨am_up2_ne _ _ _ _ hj, rfl⟩) (congrArg (fun z => (Sum.inr (c0, z) : va_E)) (am_fs (w := .int x) rfl (fun j z hj hz9 => ⟨hz9, am_fv_i hj⟩) ⟨_, hz, by simp [am_fv, am_up2, am_v]⟩))
        rw [← e9]
        exact hP1
      · exact trivial
    · exact trivial
  · exact trivial
set_option maxRecDepth 20000 in
theorem ok_putz {mt : Nat → AmMd} {Ls : Nat} {xs : Nat → Int32} {d : AmMd} {pc : Nat} {ci k index : Nat} {C : String} {T : u_T} {N : Nat} (hdg : decode d.1 pc = .ok (.putfield index, 3)) (hc : vwCl[ci]? = some (C, T, N)) (hk : k < N) (hlink : Cond.fieldLink d.2.2.1 index (T k).1 (T k).2.1 (T k).2.2.1 ∈ am_tb) (hfin : (T k).2.2.2 = false) (hd : parseFieldDescriptor (T k).2.2.1 = some .boolean) : am_Ok mt Ls xs d pc (o_putz ci k) := by
  intro L st M
  unfold o_putz; dsimp only
  split
  · split
    · split
      · rename_i x r st2 x1 c0 rs hsh hcc
        have hzb := hcc.2
        obtain ⟨hcc, hz⟩ := hcc.1
        subst hcc
        refine am_Nx.wr rfl rfl ?_
        intro p l e R s m args below meth c ad base D dA H locs cells slots Q ls CC hW hS kk
        obtain ⟨⟨hx, hb, hml, hown, hts⟩, hK, hbs, hin, ⟨hRf, hRl⟩, hX, had, hsc⟩ := CC
        obtain ⟨hin1, ⟨ty0, hty⟩, hnm⟩ := am_cl _ _ hc
        refine va_put (own := d.2.2.1) (ref := (T k).1) (v := .int x) hx hb hts hin1 ty0 hty hnm hown hK hW.1 (am_D had hW.2) hS r (by rw [am_ws_get, hsh]; rfl) hc k hk (hts _ hlink) (fun _ h9 => h9) hfin hd (by rcases hzb with h | h <;> rw [h] <;> rfl) (by rcases hzb with h | h <;> rw [h] <;> rfl) (by rw [List.length_mapIdx]; exact (List.getElem?_eq_some_iff.mp hz).1) hdg (fun H1 locs1 hP1 _ hS1 => kk H1 locs1 ?_ hS1)
        have e9 := am_set (ad := ad) (dA := dA) (M := M) (M' := (M.1, am_up2 M.2.1 r k x, M.2.2)) (k := r) (s' := (0, c0, rs)) (e1 := .inr (c0, (rs.mapIdx (fun k z => am_v ad (am_fv M.2.1 M.2.2 r k z))).set k (.int x))) (am_set0 hsh) (fun j hj => ⟨am_up2_ne _ _ _ _ hj, rfl⟩) (congrArg (fun z => (Sum.inr (c0, z) : va_E)) (am_fs (w := .int x) rfl (fun j z hj hz9 => ⟨hz9, am_fv_i hj⟩) ⟨_, hz, by simp [am_fv, am_up2, am_v]⟩))
        rw [← e9]
        exact hP1
      · exact trivial
    · exact trivial
  · exact trivial
set_option maxRecDepth 20000 in
theorem ok_putl {mt : Nat → AmMd} {Ls : Nat} {xs : Nat → Int32} {d : AmMd} {pc : Nat} {ci k index : Nat} {C : String} {T : u_T} {N : Nat} (hdg : decode d.1 pc = .ok (.putfield index, 3)) (hc : vwCl[ci]? = some (C, T, N)) (hk : k < N) (hlink : Cond.fieldLink d.2.2.1 index (T k).1 (T k).2.1 (T k).2.2.1 ∈ am_tb) (hfin : (T k).2.2.2 = false) (hd : parseFieldDescriptor (T k).2.2.1 = some .long) : am_Ok mt Ls xs d pc (o_putl ci k) := by
  intro L st M
  unfold o_putl; dsimp only
  split
  · split
    · split
      · rename_i x r st2 x1 c0 rs hsh hcc
        obtain ⟨hcc, hz⟩ := hcc
        subst hcc
        refine am_Nx.wr rfl rfl ?_
        intro p l e R s m args below meth c ad base D dA H locs cells slots Q ls CC hW hS kk
        obtain ⟨⟨hx, hb, hml, hown, hts⟩, hK, hbs, hin, ⟨hRf, hRl⟩, hX, had, hsc⟩ := CC
        obtain ⟨hin1, ⟨ty0, hty⟩, hnm⟩ := am_cl _ _ hc
        refine va_put (own := d.2.2.1) (ref := (T k).1) (v := .long x) hx hb hts hin1 ty0 hty hnm hown hK hW.1 (am_D had hW.2) hS r (by rw [am_ws_get, hsh]; rfl) hc k hk (hts _ hlink) (fun _ h9 => h9) hfin hd rfl rfl (by rw [List.length_mapIdx]; exact (List.getElem?_eq_some_iff.mp hz).1) hdg (fun H1 locs1 hP1 _ hS1 => kk H1 locs1 ?_ hS1)
        have e9 := am_set (ad := ad) (dA := dA) (M := M) (M' := (M.1, M.2.1, am_up2 M.2.2 r k x)) (k := r) (s' := (0, c0, rs)) (e1 := .inr (c0, (rs.mapIdx (fun k z => am_v ad (am_fv M.2.1 M.2.2 r k z))).set k (.long x))) (am_set0 hsh) (fun j hj => ⟨rfl, am_up2_ne _ _ _ _ hj⟩) (congrArg (fun z => (Sum.inr (c0, z) : va_E)) (am_fs (w := .long x) rfl (fun j z hj hz9 => ⟨hz9, am_fv_l hj⟩) ⟨_, hz, by simp [am_fv, am_up2, am_v]⟩))
        rw [← e9]
        exact hP1
      · exact trivial
    · exact trivial
  · exact trivial
set_option maxRecDepth 20000 in
theorem ok_putr {mt : Nat → AmMd} {Ls : Nat} {xs : Nat → Int32} {d : AmMd} {pc : Nat} {ci k index : Nat} {C : String} {T : u_T} {N : Nat} (hdg : decode d.1 pc = .ok (.putfield index, 3)) (hc : vwCl[ci]? = some (C, T, N)) (hk : k < N) (hlink : Cond.fieldLink d.2.2.1 index (T k).1 (T k).2.1 (T k).2.2.1 ∈ am_tb) (hfin : (T k).2.2.2 = true) (hini : d.2.2.2.1 = true) (hdecl : (T k).1 = d.2.2.1) {ty : FieldType} (hd : parseFieldDescriptor (T k).2.2.1 = some ty) (hn : ∀ a, narrow ty (.ref a) = .ref a) (hfit : ∀ a, fits ty (.ref a) = true) : am_Ok mt Ls xs d pc (o_putr ci k) := by
  intro L st M
  unfold o_putr; dsimp only
  split
  · split
    · split
      · rename_i v r st2 x1 c0 rs hsh hcc
        obtain ⟨hcc, hz⟩ := hcc
        subst hcc
        refine am_Nx.wr (by simp) (am_sl_set _ _ _ _ hsh (by simp [am_s1w])) ?_
        intro p l e R s m args below meth c ad base D dA H locs cells slots Q ls CC hW hS kk
        obtain ⟨⟨hx, hb, hml, hown, hts⟩, hK, hbs, hin, ⟨hRf, hRl⟩, hX, had, hsc⟩ := CC
        obtain ⟨hin1, ⟨ty0, hty⟩, hnm⟩ := am_cl _ _ hc
        refine va_putF (own := d.2.2.1) (ref := (T k).1) (v := .ref (ad v)) hx hb hts hin1 ty0 hty hnm hown hK hW.1 (am_D had hW.2) hS r (by rw [am_ws_get, hsh]; rfl) hc k hk (hts _ hlink) (fun _ h9 => h9) hfin (hin hini) hdecl hd (hn _) (hfit _) (by rw [List.length_mapIdx]; exact hz) hdg (fun H1 locs1 hP1 _ hS1 => kk H1 locs1 ?_ hS1)
        have e9 := am_set (ad := ad) (dA := dA) (M := M) (M' := (M.1.set r (0, c0, rs.set k (Int.ofNat v)), M.2.1, M.2.2)) (k := r) (s' := (0, c0, rs.set k (Int.ofNat v))) (e1 := .inr (c0, (rs.mapIdx (fun k z => am_v ad (am_fv M.2.1 M.2.2 r k z))).set k (.ref (ad v)))) rfl (fun j hj => ⟨rfl, rfl⟩) (congrArg (fun z => (Sum.inr (c0, z) : va_E)) (am_fs (w := .ref (ad v)) (by simp) (fun j z hj hz9 => ⟨by rw [List.getElem?_set_ne (Ne.symm hj)]; exact hz9, rfl⟩) ⟨Int.ofNat v, by rw [List.getElem?_set_self hz], by
          have h1 : ¬ (Int.ofNat v = -1) := by intro h; cases h
          have h2 : ¬ (Int.ofNat v = -2) := by intro h; cases h
          have h3 : ¬ (Int.ofNat v = -3) := by intro h; cases h
          simp only [am_fv, if_neg h1, if_neg h2, if_neg h3]; rfl⟩))
        rw [← e9]
        exact hP1
      · exact trivial
    · exact trivial
  · exact trivial
set_option maxRecDepth 20000 in
theorem ok_iald {mt : Nat → AmMd} {Ls : Nat} {xs : Nat → Int32} {d : AmMd} {pc : Nat} (hdg : decode d.1 pc = .ok (.iaload, 1)) : am_Ok mt Ls xs d pc (o_iald 1) := by
  intro L st M
  unfold o_iald; dsimp only
  split
  · split
    · split
      · rename_i i r st2 x1 u n rs hsh hcc
        obtain ⟨hcc, hi⟩ := hcc
        subst hcc
        refine am_Nx.pu ?_
        intro p l e R s m args below meth c ad base D dA H locs cells slots Q ls CC hl hW hS hcb hsb kk
        obtain ⟨⟨hx, hb, hml, hown, hts⟩, hK, hbs, hin, ⟨hRf, hRl⟩, hX, had, hsc⟩ := CC
        exact va_iald hx hb hK hW.1 r 1 (by rw [am_ws_get, hsh]; rfl) rfl hi hdg (kk ls hl)
      · exact trivial
    · exact trivial
  · exact trivial
set_option maxRecDepth 20000 in
theorem ok_bald {mt : Nat → AmMd} {Ls : Nat} {xs : Nat → Int32} {d : AmMd} {pc : Nat} (hdg : decode d.1 pc = .ok (.baload, 1)) : am_Ok mt Ls xs d pc (o_iald 2) := by
  intro L st M
  unfold o_iald; dsimp only
  split
  · split
    · split
      · rename_i i r st2 x1 u n rs hsh hcc
        obtain ⟨hcc, hi⟩ := hcc
        subst hcc
        refine am_Nx.pu ?_
        intro p l e R s m args below meth c ad base D dA H locs cells slots Q ls CC hl hW hS hcb hsb kk
        obtain ⟨⟨hx, hb, hml, hown, hts⟩, hK, hbs, hin, ⟨hRf, hRl⟩, hX, had, hsc⟩ := CC
        exact va_bald hx hb hK hW.1 r 2 (by rw [am_ws_get, hsh]; rfl) rfl hi hdg (kk ls hl)
      · exact trivial
    · exact trivial
  · exact trivial
set_option maxRecDepth 20000 in
theorem ok_zald {mt : Nat → AmMd} {Ls : Nat} {xs : Nat → Int32} {d : AmMd} {pc : Nat} (hdg : decode d.1 pc = .ok (.baload, 1)) : am_Ok mt Ls xs d pc (o_iald 3) := by
  intro L st M
  unfold o_iald; dsimp only
  split
  · split
    · split
      · rename_i i r st2 x1 u n rs hsh hcc
        obtain ⟨hcc, hi⟩ := hcc
        subst hcc
        refine am_Nx.pu ?_
        intro p l e R s m args below meth c ad base D dA H locs cells slots Q ls CC hl hW hS hcb hsb kk
        obtain ⟨⟨hx, hb, hml, hown, hts⟩, hK, hbs, hin, ⟨hRf, hRl⟩, hX, had, hsc⟩ := CC
        exact va_zald hx hb hK hW.1 r 3 (by rw [am_ws_get, hsh]; rfl) rfl hi hdg (kk ls hl)
      · exact trivial
    · exact trivial
  · exact trivial
set_option maxRecDepth 20000 in
theorem ok_lald {mt : Nat → AmMd} {Ls : Nat} {xs : Nat → Int32} {d : AmMd} {pc : Nat} (hdg : decode d.1 pc = .ok (.laload, 1)) : am_Ok mt Ls xs d pc (o_lald) := by
  intro L st M
  unfold o_lald; dsimp only
  split
  · split
    · split
      · rename_i i r st2 x1 u n rs hsh hcc
        obtain ⟨hcc, hi⟩ := hcc
        subst hcc
        refine am_Nx.pu ?_
        intro p l e R s m args below meth c ad base D dA H locs cells slots Q ls CC hl hW hS hcb hsb kk
        obtain ⟨⟨hx, hb, hml, hown, hts⟩, hK, hbs, hin, ⟨hRf, hRl⟩, hX, had, hsc⟩ := CC
        exact va_lald hx hb hK hW.1 r 4 (by rw [am_ws_get, hsh]; rfl) rfl hi hdg (kk ls hl)
      · exact trivial
    · exact trivial
  · exact trivial
set_option maxRecDepth 20000 in
theorem ok_iast {mt : Nat → AmMd} {Ls : Nat} {xs : Nat → Int32} {d : AmMd} {pc : Nat} (hdg : decode d.1 pc = .ok (.iastore, 1)) : am_Ok mt Ls xs d pc (o_iast 1 (fun x => x)) := by
  intro L st M
  unfold o_iast; dsimp only
  split
  · split
    · split
      · rename_i x i r st2 x1 u n rs hsh hcc
        obtain ⟨hcc, hi⟩ := hcc
        subst hcc
        refine am_Nx.wr rfl rfl ?_
        intro p l e R s m args below meth c ad base D dA H locs cells slots Q ls CC hW hS kk
        obtain ⟨⟨hx, hb, hml, hown, hts⟩, hK, hbs, hin, ⟨hRf, hRl⟩, hX, had, hsc⟩ := CC
        refine va_iast hx hb hK hW.1 (am_D had hW.2) hS r 1 (by rw [am_ws_get, hsh]; rfl) rfl hi hdg (fun H1 locs1 hP1 _ hS1 => kk H1 locs1 ?_ hS1)
        have e9 := am_set (ad := ad) (dA := dA) (M := M) (M' := (M.1, am_up2 M.2.1 r i.toNatClampNeg (x), M.2.2)) (k := r) (s' := (1, n, rs)) (e1 := .inl (dA 1, n, .inl (upd (M.2.1 r) i.toNatClampNeg (x)))) (am_set0 hsh) (fun j hj => ⟨am_up2_ne _ _ _ _ hj, rfl⟩) (congrArg (fun z => (Sum.inl (dA 1, n, .inl z) : va_E)) (am_up2_upd _ _ _ _))
        rw [← e9]
        exact hP1
      · exact trivial
    · exact trivial
  · exact trivial
set_option maxRecDepth 20000 in
theorem ok_bast {mt : Nat → AmMd} {Ls : Nat} {xs : Nat → Int32} {d : AmMd} {pc : Nat} (hdg : decode d.1 pc = .ok (.bastore, 1)) : am_Ok mt Ls xs d pc (o_iast 2 (fun x => vp_nar .byte x)) := by
  intro L st M
  unfold o_iast; dsimp only
  split
  · split
    · split
      · rename_i x i r st2 x1 u n rs hsh hcc
        obtain ⟨hcc, hi⟩ := hcc
        subst hcc
        refine am_Nx.wr rfl rfl ?_
        intro p l e R s m args below meth c ad base D dA H locs cells slots Q ls CC hW hS kk
        obtain ⟨⟨hx, hb, hml, hown, hts⟩, hK, hbs, hin, ⟨hRf, hRl⟩, hX, had, hsc⟩ := CC
        refine va_bast hx hb hK hW.1 (am_D had hW.2) hS r 2 (by rw [am_ws_get, hsh]; rfl) rfl hi hdg (fun H1 locs1 hP1 _ hS1 => kk H1 locs1 ?_ hS1)
        have e9 := am_set (ad := ad) (dA := dA) (M := M) (M' := (M.1, am_up2 M.2.1 r i.toNatClampNeg (vp_nar .byte x), M.2.2)) (k := r) (s' := (2, n, rs)) (e1 := .inl (dA 2, n, .inl (upd (M.2.1 r) i.toNatClampNeg (vp_nar .byte x)))) (am_set0 hsh) (fun j hj => ⟨am_up2_ne _ _ _ _ hj, rfl⟩) (congrArg (fun z => (Sum.inl (dA 2, n, .inl z) : va_E)) (am_up2_upd _ _ _ _))
        rw [← e9]
        exact hP1
      · exact trivial
    · exact trivial
  · exact trivial
set_option maxRecDepth 20000 in
theorem ok_zast {mt : Nat → AmMd} {Ls : Nat} {xs : Nat → Int32} {d : AmMd} {pc : Nat} (hdg : decode d.1 pc = .ok (.bastore, 1)) : am_Ok mt Ls xs d pc (o_iast 3 (fun x => vp_nar .boolean x)) := by
  intro L st M
  unfold o_iast; dsimp only
  split
  · split
    · split
      · rename_i x i r st2 x1 u n rs hsh hcc
        obtain ⟨hcc, hi⟩ := hcc
        subst hcc
        refine am_Nx.wr rfl rfl ?_
        intro p l e R s m args below meth c ad base D dA H locs cells slots Q ls CC hW hS kk
        obtain ⟨⟨hx, hb, hml, hown, hts⟩, hK, hbs, hin, ⟨hRf, hRl⟩, hX, had, hsc⟩ := CC
        refine va_zast hx hb hK hW.1 (am_D had hW.2) hS r 3 (by rw [am_ws_get, hsh]; rfl) rfl hi hdg (fun H1 locs1 hP1 _ hS1 => kk H1 locs1 ?_ hS1)
        have e9 := am_set (ad := ad) (dA := dA) (M := M) (M' := (M.1, am_up2 M.2.1 r i.toNatClampNeg (vp_nar .boolean x), M.2.2)) (k := r) (s' := (3, n, rs)) (e1 := .inl (dA 3, n, .inl (upd (M.2.1 r) i.toNatClampNeg (vp_nar .boolean x)))) (am_set0 hsh) (fun j hj => ⟨am_up2_ne _ _ _ _ hj, rfl⟩) (congrArg (fun z => (Sum.inl (dA 3, n, .inl z) : va_E)) (am_up2_upd _ _ _ _))
        rw [← e9]
        exact hP1
      · exact trivial
    · exact trivial
  · exact trivial
set_option maxRecDepth 20000 in
theorem ok_last {mt : Nat → AmMd} {Ls : Nat} {xs : Nat → Int32} {d : AmMd} {pc : Nat} (hdg : decode d.1 pc = .ok (.lastore, 1)) : am_Ok mt Ls xs d pc (o_last) := by
  intro L st M
  unfold o_last; dsimp only
  split
  · split
    · split
      · rename_i x i r st2 x1 u n rs hsh hcc
        obtain ⟨hcc, hi⟩ := hcc
        subst hcc
        refine am_Nx.wr rfl rfl ?_
        intro p l e R s m args below meth c ad base D dA H locs cells slots Q ls CC hW hS kk
        obtain ⟨⟨hx, hb, hml, hown, hts⟩, hK, hbs, hin, ⟨hRf, hRl⟩, hX, had, hsc⟩ := CC
        refine va_last hx hb hK hW.1 (am_D had hW.2) hS r 4 (by rw [am_ws_get, hsh]; rfl) rfl hi hdg (fun H1 locs1 hP1 _ hS1 => kk H1 locs1 ?_ hS1)
        have e9 := am_set (ad := ad) (dA := dA) (M := M) (M' := (M.1, M.2.1, am_up2 M.2.2 r i.toNatClampNeg x)) (k := r) (s' := (4, n, rs)) (e1 := .inl (dA 4, n, .inr (.inl (vp_updL (M.2.2 r) i.toNatClampNeg x)))) (am_set0 hsh) (fun j hj => ⟨rfl, am_up2_ne _ _ _ _ hj⟩) (congrArg (fun z => (Sum.inl (dA 4, n, .inr (.inl z)) : va_E)) (am_up2_updL _ _ _ _))
        rw [← e9]
        exact hP1
      · exact trivial
    · exact trivial
  · exact trivial
set_option maxRecDepth 20000 in
theorem ok_aald {mt : Nat → AmMd} {Ls : Nat} {xs : Nat → Int32} {d : AmMd} {pc : Nat} (hdg : decode d.1 pc = .ok (.aaload, 1)) : am_Ok mt Ls xs d pc o_aald := by
  intro L st M
  unfold o_aald; dsimp only
  split
  · split
    · split
      · split
        · rename_i i r st2 x1 u n rs hsh hcc x2 z hz
          obtain ⟨hcc, hi⟩ := hcc
          subst hcc
          refine am_Nx.pu ?_
          intro p l e R s m args below meth c ad base D dA H locs cells slots Q ls CC hl hW hS hcb hsb kk
          obtain ⟨⟨hx, hb, hml, hown, hts⟩, hK, hbs, hin, ⟨hRf, hRl⟩, hX, had, hsc⟩ := CC
          have hlt : i.toNatClampNeg < n := Nat.not_le.mp fun q => hi (Or.inr q)
          have hcell := hW.1 r (ad r, am_e ad dA M.2.1 M.2.2 r (5, n, rs)) (by rw [am_ws_get, hsh]; rfl)
          exact W.aald (v := .ref (ad z.toNat)) (ty := .array .int) hx hb hcell ((hK.2 5 _ rfl).1 n _) rfl (fun q => by cases q) (by show ¬ (i < 0 ∨ (arrV _ _ _).slots.size ≤ _); rw [arrV_size]; exact hi) (by show (arrV _ _ _).slots[_]? = _; rw [arrV_read _ _ hlt]; dsimp only; rw [hz]; rfl) rfl rfl hdg (kk ls hl)
        · exact trivial
      · exact trivial
    · exact trivial
  · exact trivial
set_option maxRecDepth 20000 in
theorem ok_alen {mt : Nat → AmMd} {Ls : Nat} {xs : Nat → Int32} {d : AmMd} {pc : Nat} (hdg : decode d.1 pc = .ok (.arraylength, 1)) : am_Ok mt Ls xs d pc o_alen := by
  intro L st M
  unfold o_alen; dsimp only
  split
  · split
    · split
      · rename_i r st2 x1 u n rs hsh hcc
        subst hcc
        refine am_Nx.pu ?_
        intro p l e R s m args below meth c ad base D dA H locs cells slots Q ls CC hl hW hS hcb hsb kk
        obtain ⟨⟨hx, hb, hml, hown, hts⟩, hK, hbs, hin, ⟨hRf, hRl⟩, hX, had, hsc⟩ := CC
        exact va_alen (x := (n, .inl (M.2.1 r))) hx hb hK hW.1 r 1 (by rw [am_ws_get, hsh]; rfl) rfl rfl hdg (kk ls hl)
      · exact trivial
    · exact trivial
  · exact trivial
