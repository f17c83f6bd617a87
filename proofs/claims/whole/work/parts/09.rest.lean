/-! THE REST OF THE INSTRUCTIONS: constructors' calls, static calls, new cells, what lies outside -/
theorem am_r5 {r : Nat} (h : 1000000 ≤ r ∧ r < 1000005) : r - 1000000 < 5 ∧ 1000000 + (r - 1000000) = r ∧ 1000010 + (r - 1000000) = r + 10 := by omega
theorem am_r10 {r : Nat} (h : 1000010 ≤ r ∧ r < 1000015) : r - 1000010 < 5 ∧ 1000010 + (r - 1000010) = r := by omega
set_option maxRecDepth 20000 in
theorem ok_calli {mt : Nat → AmMd} {Ls : Nat} {xs : Nat → Int32} {d : AmMd} {pc : Nat} {index y n ci nl : Nat} (hdg : decode d.1 pc = .ok (.invokespecial index, 3)) {dy : AmMd} (hy : mt y = dy) (hnl : dy.2.1 = nl) (hce : am_ce dy n) (hret : dy.2.2.2.2.2.2.1 = none) (hnm : dy.2.2.2.2.2.2.2.name = "<init>") (hl0 : Cond.methodLink d.2.2.1 index dy.2.2.2.2.2.2.2 ∈ am_tb) (hinst : Cond.instanceMethod dy.2.2.2.2.2.2.2 ∈ am_tb) {C : String} {T : u_T} {N : Nat} (hc : vwCl[ci]? = some (C, T, N)) (hfl : dy.2.2.2.2.1 + 1 ≤ d.2.2.2.2.1 ∧ 8 + (dy.2.1 + 11) + dy.2.2.2.2.2.1 ≤ d.2.2.2.2.2.1) : am_Ok mt Ls xs d pc (o_callv y n ci nl) := by
  subst hy
  intro L st M
  unfold o_callv; dsimp only
  split
  · split
    · split
      · rename_i x0 r st2 hdr x1 c0 rs hsh hcc
        obtain ⟨hcc, hcs, hln⟩ := hcc
        subst hcc
        refine ⟨⟨rfl, by rw [hnl]; exact hln, hce.2.2⟩, ?_⟩
        intro p l e R s m args below meth c ad base D dA H locs cells slots Q ls r1 mc ms CC hl hW hS hz hM hcb hsb kk
        obtain ⟨⟨hx, hb, hml, hown, hts⟩, hK, hbs, hin, ⟨hRf, hRl⟩, hX, had, hsc⟩ := CC
        dsimp only at hl hW hz hM kk ⊢
        obtain ⟨hstk, hlen⟩ := am_stk (ad := ad) hdr
        rw [hstk]
        refine am_sz (fun hsz => ?_)
        have hz2 := am_Hsz had hW hbs hS hz hsz
        have hBB := am_B (R := R) (mc := mc) (ms := ms) hts hce hl0 (by rw [hRf, hRl]; exact hfl)
        rw [hret] at hBB
        unfold am_Mt at hM
        rw [hret] at hM
        refine am_callg (va_runI (As := ((st.take n).reverse).map (am_v ad)) (rest := st2.map (am_v ad)) ⟨hx, hb, hml, hown, hts⟩ hM ⟨hBB, hnm, hts _ hinst⟩ ⟨am_Pc.blind, am_pre (as := .ref r :: (st.take n).reverse) hK hX hS hW hz2⟩ rfl hlen hl.1 rfl (lv_room (by rw [am_cs_map]; exact hcs)) hdg ⟨hcb, hsb⟩) hS (fun H' locs' hW' hS' => ?_)
        rw [am_res]
        exact kk H' locs' hW' hS' hl
      · exact trivial
    · exact trivial
  · exact trivial
set_option maxRecDepth 20000 in
theorem ok_calliN {mt : Nat → AmMd} {Ls : Nat} {xs : Nat → Int32} {d : AmMd} {pc : Nat} {index y n ci nl : Nat} (hdg : decode d.1 pc = .ok (.invokespecial index, 3)) {dy : AmMd} (hy : mt y = dy) (hnl : dy.2.1 = nl) (hce : am_ce dy n) (hret : dy.2.2.2.2.2.2.1 = none) (hnm : dy.2.2.2.2.2.2.2.name = "<init>") {host : String} (hl0 : Cond.methodLinkNest d.2.2.1 index dy.2.2.2.2.2.2.2 host ∈ am_nw) (hinst : Cond.instanceMethod dy.2.2.2.2.2.2.2 ∈ am_tb) {C : String} {T : u_T} {N : Nat} (hc : vwCl[ci]? = some (C, T, N)) (hfl : dy.2.2.2.2.1 + 1 ≤ d.2.2.2.2.1 ∧ 8 + (dy.2.1 + 11) + dy.2.2.2.2.2.1 ≤ d.2.2.2.2.2.1) : am_Ok mt Ls xs d pc (o_callv y n ci nl) := by
  subst hy
  intro L st M
  unfold o_callv; dsimp only
  split
  · split
    · split
      · rename_i x0 r st2 hdr x1 c0 rs hsh hcc
        obtain ⟨hcc, hcs, hln⟩ := hcc
        subst hcc
        refine ⟨⟨rfl, by rw [hnl]; exact hln, hce.2.2⟩, ?_⟩
        intro p l e R s m args below meth c ad base D dA H locs cells slots Q ls r1 mc ms CC hl hW hS hz hM hcb hsb kk
        obtain ⟨⟨hx, hb, hml, hown, hts⟩, hK, hbs, hin, ⟨hRf, hRl⟩, hX, had, hsc⟩ := CC
        dsimp only at hl hW hz hM kk ⊢
        obtain ⟨hstk, hlen⟩ := am_stk (ad := ad) hdr
        rw [hstk]
        refine am_sz (fun hsz => ?_)
        have hz2 := am_Hsz had hW hbs hS hz hsz
        have hBB := va_cnB (args := args) (R := R) (mc := mc) (ms := ms) (rm := am_rm (mt y) mc ms) n hts (am_wyG hce) rfl rfl rfl (hX.2.2.2.2.2 _ hl0) (hts _ hce.1.2) hce.2.1 (by rw [hRf, hRl]; exact hfl)
        rw [hret] at hBB
        unfold am_Mt at hM
        rw [hret] at hM
        refine am_callg (va_runIN (As := ((st.take n).reverse).map (am_v ad)) (rest := st2.map (am_v ad)) ⟨hx, hb, hml, hown, hts⟩ hM ⟨hBB, hnm, hts _ hinst⟩ ⟨am_Pc.blind, am_pre (as := .ref r :: (st.take n).reverse) hK hX hS hW hz2⟩ rfl hlen hl.1 rfl (lv_room (by rw [am_cs_map]; exact hcs)) hdg ⟨hcb, hsb⟩) hS (fun H' locs' hW' hS' => ?_)
        rw [am_res]
        exact kk H' locs' hW' hS' hl
      · exact trivial
    · exact trivial
  · exact trivial
set_option maxRecDepth 20000 in
theorem ok_calls {mt : Nat → AmMd} {Ls : Nat} {xs : Nat → Int32} {d : AmMd} {pc : Nat} {index y n nl : Nat} (hdg : decode d.1 pc = .ok (.invokestatic index, 3)) {dy : AmMd} (hy : mt y = dy) (hnl : dy.2.1 = nl) (hce : am_ce dy n) (hl0 : Cond.methodLink d.2.2.1 index dy.2.2.2.2.2.2.2 ∈ am_tb) (hstat : Cond.static dy.2.2.2.2.2.2.2 ∈ am_tb) (hfl : dy.2.2.2.2.1 + 1 ≤ d.2.2.2.2.1 ∧ 8 + (dy.2.1 + 11) + dy.2.2.2.2.2.1 ≤ d.2.2.2.2.2.1) : am_Ok mt Ls xs d pc (o_calls y n nl) := by
  subst hy
  intro L st M
  unfold o_calls; dsimp only
  split
  · rename_i hcc
    obtain ⟨hn, hcs, hln⟩ := hcc
    refine ⟨⟨rfl, by rw [hnl]; exact hln, hce.2.2⟩, ?_⟩
    intro p l e R s m args below meth c ad base D dA H locs cells slots Q ls r1 mc ms CC hl hW hS hz hM hcb hsb kk
    obtain ⟨⟨hx, hb, hml, hown, hts⟩, hK, hbs, hin, ⟨hRf, hRl⟩, hX, had, hsc⟩ := CC
    dsimp only at hl hW hz hM kk ⊢
    have hstk : st.map (am_v ad) = (((st.take n).reverse).map (am_v ad)).reverse ++ (st.drop n).map (am_v ad) := by
      conv => lhs; rw [← List.take_append_drop n st]
      simp
    rw [hstk]
    refine am_sz (fun hsz => ?_)
    have hz2 := am_Hsz had hW hbs hS hz hsz
    refine am_callg (va_runS (As := ((st.take n).reverse).map (am_v ad)) (rest := (st.drop n).map (am_v ad)) ⟨hx, hb, hml, hown, hts⟩ hM ⟨am_B hts hce hl0 (by rw [hRf, hRl]; exact hfl), hts _ hstat⟩ ⟨am_Pc.blind, am_pre (as := (st.take n).reverse) hK hX hS hW hz2⟩ rfl (by simp; omega) hl.1 rfl (lv_room (by rw [am_cs_map]; exact hcs)) hdg ⟨hcb, hsb⟩) hS (fun H' locs' hW' hS' => ?_)
    rw [am_res]
    exact kk H' locs' hW' hS' hl
  · exact trivial
set_option maxRecDepth 20000 in
theorem ok_callx {mt : Nat → AmMd} {Ls : Nat} {xs : Nat → Int32} {d : AmMd} {pc : Nat} {index y n nl : Nat} (hdg : decode d.1 pc = .ok (.invokevirtual index, 3)) {dy : AmMd} (hy : mt y = dy) (hnl : dy.2.1 = nl) (hce : am_ce dy n) (hl0 : Cond.methodLink d.2.2.1 index dy.2.2.2.2.2.2.2 ∈ am_tb) (hinst : Cond.instanceMethod dy.2.2.2.2.2.2.2 ∈ am_tb) (hsel : Cond.selects "java/lang/String" dy.2.2.2.2.2.2.2 dy.2.2.2.2.2.2.2 ∈ am_tb) (hfl : dy.2.2.2.2.1 + 1 ≤ d.2.2.2.2.1 ∧ 8 + (dy.2.1 + 11) + dy.2.2.2.2.2.1 ≤ d.2.2.2.2.2.1) : am_Ok mt Ls xs d pc (o_callx y n nl) := by
  subst hy
  intro L st M
  unfold o_callx; dsimp only
  split
  · split
    · rename_i x0 r st2 hdr hcc
      obtain ⟨⟨hr1, hr2⟩, hcs, hln⟩ := hcc
      refine ⟨⟨rfl, by rw [hnl]; exact hln, hce.2.2⟩, ?_⟩
      intro p l e R s m args below meth c ad base D dA H locs cells slots Q ls r1 mc ms CC hl hW hS hz hM hcb hsb kk
      obtain ⟨⟨hx, hb, hml, hown, hts⟩, hK, hbs, hin, ⟨hRf, hRl⟩, hX, had, hsc⟩ := CC
      dsimp only at hl hW hz hM kk ⊢
      obtain ⟨hstk, hlen⟩ := am_stk (ad := ad) hdr
      rw [hstk]
      refine am_sz (fun hsz => ?_)
      have hz2 := am_Hsz had hW hbs hS hz hsz
      obtain ⟨g1, g2, g3⟩ := am_r5 ⟨hr1, hr2⟩
      have hrec := vk_recv (i := r - 1000000) hX.2.1 g1 hS
      rw [g2] at hrec
      refine am_callg (va_runV (C := "java/lang/String") (As := ((st.take n).reverse).map (am_v ad)) (rest := st2.map (am_v ad)) ⟨hx, hb, hml, hown, hts⟩ hM ⟨am_B hts hce hl0 (by rw [hRf, hRl]; exact hfl), hts _ hinst, hts _ hsel⟩ ⟨am_Pc.blind, hrec, am_pre (as := .ref r :: (st.take n).reverse) hK hX hS hW hz2⟩ rfl hlen hl.1 rfl (lv_room (by rw [am_cs_map]; exact hcs)) hdg ⟨hcb, hsb⟩) hS (fun H' locs' hW' hS' => ?_)
      rw [am_res]
      exact kk H' locs' hW' hS' hl
    · exact trivial
  · exact trivial
set_option maxRecDepth 20000 in
theorem ok_oini {mt : Nat → AmMd} {Ls : Nat} {xs : Nat → Int32} {d : AmMd} {pc : Nat} {index : Nat} (hdg : decode d.1 pc = .ok (.invokespecial index, 3)) (hl0 : Cond.methodLink d.2.2.1 index objectInit ∈ am_tb) (hl1 : Cond.instanceMethod objectInit ∈ am_tb) (hl2 : Cond.code objectInit ⟨#[0xb1]⟩ 1 none ∈ am_tb) (hfl : 1 ≤ d.2.2.2.2.1 ∧ 20 ≤ d.2.2.2.2.2.1) : am_Ok mt Ls xs d pc o_oini := by
  intro L st M
  unfold o_oini; dsimp only
  split
  · split
    · rename_i hcs
      refine am_Nx.pu ?_
      intro p l e R s m args below meth c ad base D dA H locs cells slots Q ls CC hl hW hS hcb hsb kk
      obtain ⟨⟨hx, hb, hml, hown, hts⟩, hK, hbs, hin, ⟨hRf, hRl⟩, hX, had, hsc⟩ := CC
      refine W.objInit hx hb hown (hts _ hl0) (hts _ hl1) (hts _ hl2) rfl (by rw [hml]; exact hl.1) rfl hdg (by rw [hRf]; exact hfl.1) ?_ (W.eq rfl (kk ls hl))
      have h9 := lv_room (ls := ls) (pc := pc) (m := m) (rest := []) (st := (List.map (am_v ad) ‹List Value›)) (by rw [am_cs_map]; exact hcs)
      rw [hRl]
      have := hfl.2
      exact Nat.le_trans (Nat.add_le_add_right h9 12) this
    · exact trivial
  · exact trivial
set_option maxRecDepth 20000 in
theorem ok_sld {mt : Nat → AmMd} {Ls : Nat} {xs : Nat → Int32} {d : AmMd} {pc : Nat} (hRL : d.2.2.1 = RL) (hdg : decode d.1 pc = .ok (.iaload, 1)) : am_Ok mt Ls xs d pc (o_sld Ls xs) := by
  intro L st M
  unfold o_sld; dsimp only
  split
  · split
    · rename_i hcc
      obtain ⟨hr, hi⟩ := hcc
      subst hr
      refine am_Nx.pu ?_
      intro p l e R s m args below meth c ad base D dA H locs cells slots Q ls CC hl hW hS hcb hsb kk
      obtain ⟨⟨hx, hb, hml, hown, hts⟩, hK, hbs, hin, ⟨hRf, hRl⟩, hX, had, hsc⟩ := CC
      obtain ⟨h1, h2, h3⟩ := hsc hRL
      exact va_sld hx hb h1 h2 h3 hS hi hdg (kk ls hl)
    · exact trivial
  · exact trivial
set_option maxRecDepth 20000 in
theorem ok_slen {mt : Nat → AmMd} {Ls : Nat} {xs : Nat → Int32} {d : AmMd} {pc : Nat} (hRL : d.2.2.1 = RL) (hdg : decode d.1 pc = .ok (.arraylength, 1)) : am_Ok mt Ls xs d pc (o_slen Ls) := by
  intro L st M
  unfold o_slen; dsimp only
  split
  · split
    · rename_i hr
      subst hr
      refine am_Nx.pu ?_
      intro p l e R s m args below meth c ad base D dA H locs cells slots Q ls CC hl hW hS hcb hsb kk
      obtain ⟨⟨hx, hb, hml, hown, hts⟩, hK, hbs, hin, ⟨hRf, hRl⟩, hX, had, hsc⟩ := CC
      obtain ⟨h1, h2, h3⟩ := hsc hRL
      exact va_slen hx hb h1 h2 h3 hS hdg (kk ls hl)
    · exact trivial
  · exact trivial
set_option maxRecDepth 20000 in
theorem ok_xval {mt : Nat → AmMd} {Ls : Nat} {xs : Nat → Int32} {d : AmMd} {pc : Nat} {index : Nat} (hdg : decode d.1 pc = .ok (.getfield index, 3)) (hlink : Cond.fieldLink d.2.2.1 index "java/lang/String" "value" "[B" ∈ am_tb) : am_Ok mt Ls xs d pc o_xval := by
  intro L st M
  unfold o_xval; dsimp only
  split
  · split
    · rename_i r st2 hcc
      refine am_Nx.pu ?_
      intro p l e R s m args below meth c ad base D dA H locs cells slots Q ls CC hl hW hS hcb hsb kk
      obtain ⟨⟨hx, hb, hml, hown, hts⟩, hK, hbs, hin, ⟨hRf, hRl⟩, hX, had, hsc⟩ := CC
      obtain ⟨g1, g2, g3⟩ := am_r5 hcc
      have hE := (hX.2.1.1 (r - 1000000) g1).2.2.1
      dsimp only at hE
      rw [g2, g3] at hE
      exact vk_getf hx hb hE hS hown (hts _ hlink) (fun _ h => h) hdg (kk ls hl)
    · exact trivial
  · exact trivial
set_option maxRecDepth 20000 in
theorem ok_xcod {mt : Nat → AmMd} {Ls : Nat} {xs : Nat → Int32} {d : AmMd} {pc : Nat} {index : Nat} (hdg : decode d.1 pc = .ok (.getfield index, 3)) (hlink : Cond.fieldLink d.2.2.1 index "java/lang/String" "coder" "B" ∈ am_tb) : am_Ok mt Ls xs d pc o_xcod := by
  intro L st M
  unfold o_xcod; dsimp only
  split
  · split
    · rename_i r st2 hcc
      refine am_Nx.pu ?_
      intro p l e R s m args below meth c ad base D dA H locs cells slots Q ls CC hl hW hS hcb hsb kk
      obtain ⟨⟨hx, hb, hml, hown, hts⟩, hK, hbs, hin, ⟨hRf, hRl⟩, hX, had, hsc⟩ := CC
      obtain ⟨g1, g2, g3⟩ := am_r5 hcc
      have hE := (hX.2.1.1 (r - 1000000) g1).2.1
      dsimp only at hE
      rw [g2] at hE
      exact vk_getf hx hb hE hS hown (hts _ hlink) (fun _ h => h) hdg (kk ls hl)
    · exact trivial
  · exact trivial
set_option maxRecDepth 20000 in
theorem ok_xlen {mt : Nat → AmMd} {Ls : Nat} {xs : Nat → Int32} {d : AmMd} {pc : Nat} (hdg : decode d.1 pc = .ok (.arraylength, 1)) : am_Ok mt Ls xs d pc o_xlen := by
  intro L st M
  unfold o_xlen; dsimp only
  split
  · split
    · rename_i r st2 hcc
      refine am_Nx.pu ?_
      intro p l e R s m args below meth c ad base D dA H locs cells slots Q ls CC hl hW hS hcb hsb kk
      obtain ⟨⟨hx, hb, hml, hown, hts⟩, hK, hbs, hin, ⟨hRf, hRl⟩, hX, had, hsc⟩ := CC
      obtain ⟨g1, g2⟩ := am_r10 hcc
      have hE := (hX.2.1.1 (r - 1000010) g1).2.2.2
      dsimp only at hE
      rw [g2] at hE
      exact va_tlen hx hb hE hS (by simp [List.getD_eq_getElem?_getD, List.getElem?_map]; cases am_tx[r - 1000010]? <;> rfl) hdg (kk ls hl)
    · exact trivial
  · exact trivial
set_option maxRecDepth 20000 in
theorem ok_xald {mt : Nat → AmMd} {Ls : Nat} {xs : Nat → Int32} {d : AmMd} {pc : Nat} (hdg : decode d.1 pc = .ok (.baload, 1)) : am_Ok mt Ls xs d pc o_xald := by
  intro L st M
  unfold o_xald; dsimp only
  split
  · split
    · rename_i i r st2 hcc
      obtain ⟨hcc, hi⟩ := hcc
      refine am_Nx.pu ?_
      intro p l e R s m args below meth c ad base D dA H locs cells slots Q ls CC hl hW hS hcb hsb kk
      obtain ⟨⟨hx, hb, hml, hown, hts⟩, hK, hbs, hin, ⟨hRf, hRl⟩, hX, had, hsc⟩ := CC
      obtain ⟨g1, g2⟩ := am_r10 hcc
      have hE := (hX.2.1.1 (r - 1000010) g1).2.2.2
      dsimp only at hE
      rw [g2] at hE
      have hn : (List.map List.length am_tx).getD (r - 1000010) 0 = (am_tx.getD (r - 1000010) []).length := by
        simp [List.getD_eq_getElem?_getD, List.getElem?_map]; cases am_tx[r - 1000010]? <;> rfl
      rw [hn] at hE
      exact va_tb hx hb hE hS hi rfl hdg (kk ls hl)
    · exact trivial
  · exact trivial
set_option maxRecDepth 20000 in
theorem ok_gcs {mt : Nat → AmMd} {Ls : Nat} {xs : Nat → Int32} {d : AmMd} {pc : Nat} {index : Nat} (hdg : decode d.1 pc = .ok (.getstatic index, 3)) (hlink : Cond.fieldLink d.2.2.1 index "java/lang/String" "COMPACT_STRINGS" "Z" ∈ am_tb) : am_Ok mt Ls xs d pc (o_push (.int 1) 3) := by
  intro L st M
  unfold o_push; dsimp only
  refine am_Nx.pu ?_
  intro p l e R s m args below meth c ad base D dA H locs cells slots Q ls CC hl hW hS hcb hsb kk
  obtain ⟨⟨hx, hb, hml, hown, hts⟩, hK, hbs, hin, ⟨hRf, hRl⟩, hX, had, hsc⟩ := CC
  exact va_gets hx hb hX.2.2.1 hS hown (hts _ hlink) (fun _ h => h) hdg (kk ls hl)
set_option maxRecDepth 20000 in
theorem ok_gsf {mt : Nat → AmMd} {Ls : Nat} {xs : Nat → Int32} {d : AmMd} {pc : Nat} {index : Nat} (hdg : decode d.1 pc = .ok (.getstatic index, 3)) (hlink : Cond.fieldLink d.2.2.1 index "jdk/internal/util/Preconditions" "SIOOBE_FORMATTER" "Ljava/util/function/BiFunction;" ∈ am_tb) : am_Ok mt Ls xs d pc (o_push (.retAddr 0) 3) := by
  intro L st M
  unfold o_push; dsimp only
  refine am_Nx.pu ?_
  intro p l e R s m args below meth c ad base D dA H locs cells slots Q ls CC hl hW hS hcb hsb kk
  obtain ⟨⟨hx, hb, hml, hown, hts⟩, hK, hbs, hin, ⟨hRf, hRl⟩, hX, had, hsc⟩ := CC
  exact va_gets hx hb hX.2.2.2.1 hS hown (hts _ hlink) (fun _ h => h) hdg (kk ls hl)
