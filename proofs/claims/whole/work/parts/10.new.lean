/-! NEW CELLS -/
theorem am_push {ad : Nat → Nat} {dA : Nat → ClassId} {M M' : AmM} {s' : AmSh} (h1 : M'.1 = M.1 ++ [s']) (hoth : ∀ j, j < M.1.length → M'.2.1 j = M.2.1 j ∧ M'.2.2 j = M.2.2 j) : am_ws ad dA M' = am_ws ad dA M ++ [(ad M.1.length, am_e ad dA M'.2.1 M'.2.2 M.1.length s')] := by
  have hlen : (am_ws ad dA M).length = M.1.length := by simp [am_ws]
  apply List.ext_getElem?
  intro j
  rw [am_ws_get, h1]
  by_cases hj : j < M.1.length
  · rw [List.getElem?_append_left hj, List.getElem?_append_left (by rw [hlen]; exact hj), am_ws_get]
    have := hoth j hj
    cases M.1[j]? with
    | none => rfl
    | some s => rw [Option.map_some, Option.map_some]; unfold am_e am_fv; rw [this.1, this.2]
  · rw [List.getElem?_append_right (by omega), List.getElem?_append_right (by rw [hlen]; omega), hlen]
    by_cases hj2 : j = M.1.length
    · subst hj2
      rw [Nat.sub_self]; rfl
    · rw [List.getElem?_eq_none (by simp; omega), List.getElem?_eq_none (by simp; omega)]; rfl
theorem am_grow {ad : Nat → Nat} {D : va_G} {dA : Nat → ClassId} {M M' : AmM} {ns : List AmSh} {H H1 : Heap} (h1 : M'.1 = M.1 ++ ns) (hoth : ∀ j, j < M.1.length → M'.2.1 j = M.2.1 j ∧ M'.2.2 j = M.2.2 j) (hP : va_P D vwCl (am_ws ad dA M) H) (hold : ∀ q : Nat, q < H.size → H1[q]? = H[q]?) (hnew : ∀ (i : Nat) (s' : AmSh), ns[i]? = some s' → va_at D vwCl (ad (M.1.length + i), am_e ad dA M'.2.1 M'.2.2 (M.1.length + i) s') H1) : va_P D vwCl (am_ws ad dA M') H1 := by
  intro k q hk
  rw [am_ws_get, h1] at hk
  by_cases hj : k < M.1.length
  · rw [List.getElem?_append_left hj] at hk
    have := hoth k hj
    have hk2 : (am_ws ad dA M)[k]? = some q := by
      rw [am_ws_get, ← hk]
      cases M.1[k]? with
      | none => rfl
      | some s => rw [Option.map_some, Option.map_some]; unfold am_e am_fv; rw [this.1, this.2]
    have hat := hP k q hk2
    exact hat.kept (hold _ hat.lt)
  · rw [List.getElem?_append_right (by omega)] at hk
    cases hn : ns[k - M.1.length]? with
    | none => rw [hn] at hk; cases hk
    | some s' =>
      rw [hn] at hk
      cases hk
      have := hnew _ s' hn
      rw [show M.1.length + (k - M.1.length) = k by omega] at this
      exact this
theorem am_z2_ne {α : Type} (I : Nat → Nat → α) (r n : Nat) (x : α) {j : Nat} (h : j < r) : am_z2 I r n x j = I j := by
  funext q
  simp [am_z2]
  omega
theorem am_z2_eq {α : Type} (I : Nat → Nat → α) (r n i : Nat) (x : α) (h : i < n) : am_z2 I r n x (r + i) = fun _ => x := by
  funext q
  simp [am_z2, h]
theorem am_grS {A : Nat → Prop} {H0 H H1 : Heap} {locs : List Loc} (hS : va_S A H0 H locs) (hz : H.size ≤ H1.size) (hold : ∀ q : Nat, q < H.size → H1[q]? = H[q]?) : va_S A H0 H1 locs := ⟨Nat.le_trans hS.1 hz, fun q h1 h2 => (hold q (Nat.lt_of_lt_of_le h1 hS.1)).trans (hS.2.1 q h1 h2), hS.2.2⟩
def am_dz : FieldType → Int
  | .long => -2
  | .object _ => -3
  | .array _ => -3
  | _ => -1
def am_dk : FieldType → Bool
  | .float => false
  | .double => false
  | _ => true
theorem am_dv (ad : Nat → Nat) (I : Nat → Nat → Int32) (J : Nat → Nat → Int64) (r j : Nat) (hI : I r j = 0) (hJ : J r j = 0) (ty : FieldType) (h : am_dk ty = true) : am_v ad (am_fv I J r j (am_dz ty)) = defaultValue ty := by
  cases ty <;> first | (simp [am_dk] at h; done) | simp [am_dz, am_fv, hI, hJ, am_v, defaultValue]
set_option maxRecDepth 20000 in
theorem ok_newi {mt : Nat → AmMd} {Ls : Nat} {xs : Nat → Int32} {d : AmMd} {pc : Nat} (hdg : decode d.1 pc = .ok (.newarray .int, 2)) (harr : Cond.arrayClass .int ∈ am_tb) : am_Ok mt Ls xs d pc (o_newa 1) := by
  intro L st M
  unfold o_newa; dsimp only
  split
  · split
    · exact trivial
    · rename_i n st2 hcc
      rw [not_or, not_or] at hcc
      obtain ⟨hn, hn2, hlen⟩ := hcc
      have hsl : am_sl (M.1 ++ [(1, n.toNatClampNeg, [])]) = am_sl M.1 + n.toNatClampNeg := by rw [am_sl_app]; simp [am_sl, am_s1w]
      refine ⟨⟨by simp, by show am_sl M.1 ≤ am_sl (M.1 ++ _); rw [hsl]; omega⟩, ?_⟩
      intro p l e R s m args below meth c ad base D dA H locs cells slots Q ls CC hl hW hS hz hcb hsb kk
      obtain ⟨⟨hx, hb, hml, hown, hts⟩, hK, hbs, hin, ⟨hRf, hRl⟩, hX, had, hsc⟩ := CC
      dsimp only at hl hW hz hcb hsb kk ⊢
      rw [hsl] at hsb kk
      have e1 : (M.1 ++ [((1, n.toNatClampNeg, []) : AmSh)]).length - M.1.length = 1 := by simp
      have e2 : am_sl M.1 + n.toNatClampNeg - am_sl M.1 = n.toNatClampNeg := by omega
      rw [e1] at hcb kk
      rw [e2] at hsb kk
      refine am_sz (fun hsz => ?_)
      have hz2 := am_Hsz had hW hbs hS hz hsz
      have had2 := had M.1.length (by omega)
      refine va_newaK (atype := .int) (N := n.toNatClampNeg) hx hb (hts _ harr) rfl hdg rfl hn rfl (by show _ * componentBytes .int ≤ _; simp only [componentBytes]; omega) hcb hsb hz2 (fun H1 cA e1 z1 o1 hAr hNm => ?_)
      have hcA : cA = dA 1 := Option.some.inj (hNm.symm.trans (hK.2 1 _ rfl).2)
      subst hcA
      have hold : ∀ q : Nat, q < H.size → H1[q]? = H[q]? := fun q hq => o1 q (by omega)
      have k2 := kk ls H1 locs hl ⟨am_grow (M' := (M.1 ++ [(1, n.toNatClampNeg, [])], am_z2 M.2.1 M.1.length 1 0, am_z2 M.2.2 M.1.length 1 0)) rfl (fun j hj => ⟨am_z2_ne _ _ _ _ hj, am_z2_ne _ _ _ _ hj⟩) hW.1 hold (fun i s' hi => ?_), by simp; omega⟩ (am_grS hS (by omega) hold)
      · simp only [List.map_cons, am_v] at k2
        rw [had2] at k2
        exact k2
      · match i, hi with
        | 0, hi =>
          cases hi
          show H1[ad (M.1.length + 0)]? = some (vp_cell (dA 1) (n.toNatClampNeg, .inl (am_z2 M.2.1 M.1.length 1 0 M.1.length)))
          rw [Nat.add_zero, had2, e1]
          have h9 := am_z2_eq M.2.1 M.1.length 1 0 0 (by omega)
          rw [Nat.add_zero] at h9
          rw [h9]
          rfl
        | i + 1, hi => simp at hi
  · exact trivial
set_option maxRecDepth 20000 in
theorem ok_newb {mt : Nat → AmMd} {Ls : Nat} {xs : Nat → Int32} {d : AmMd} {pc : Nat} (hdg : decode d.1 pc = .ok (.newarray .byte, 2)) (harr : Cond.arrayClass .byte ∈ am_tb) : am_Ok mt Ls xs d pc (o_newa 2) := by
  intro L st M
  unfold o_newa; dsimp only
  split
  · split
    · exact trivial
    · rename_i n st2 hcc
      rw [not_or, not_or] at hcc
      obtain ⟨hn, hn2, hlen⟩ := hcc
      have hsl : am_sl (M.1 ++ [(2, n.toNatClampNeg, [])]) = am_sl M.1 + n.toNatClampNeg := by rw [am_sl_app]; simp [am_sl, am_s1w]
      refine ⟨⟨by simp, by show am_sl M.1 ≤ am_sl (M.1 ++ _); rw [hsl]; omega⟩, ?_⟩
      intro p l e R s m args below meth c ad base D dA H locs cells slots Q ls CC hl hW hS hz hcb hsb kk
      obtain ⟨⟨hx, hb, hml, hown, hts⟩, hK, hbs, hin, ⟨hRf, hRl⟩, hX, had, hsc⟩ := CC
      dsimp only at hl hW hz hcb hsb kk ⊢
      rw [hsl] at hsb kk
      have e1 : (M.1 ++ [((2, n.toNatClampNeg, []) : AmSh)]).length - M.1.length = 1 := by simp
      have e2 : am_sl M.1 + n.toNatClampNeg - am_sl M.1 = n.toNatClampNeg := by omega
      rw [e1] at hcb kk
      rw [e2] at hsb kk
      refine am_sz (fun hsz => ?_)
      have hz2 := am_Hsz had hW hbs hS hz hsz
      have had2 := had M.1.length (by omega)
      refine va_newaK (atype := .byte) (N := n.toNatClampNeg) hx hb (hts _ harr) rfl hdg rfl hn rfl (by show _ * componentBytes .byte ≤ _; simp only [componentBytes]; omega) hcb hsb hz2 (fun H1 cA e1 z1 o1 hAr hNm => ?_)
      have hcA : cA = dA 2 := Option.some.inj (hNm.symm.trans (hK.2 2 _ rfl).2)
      subst hcA
      have hold : ∀ q : Nat, q < H.size → H1[q]? = H[q]? := fun q hq => o1 q (by omega)
      have k2 := kk ls H1 locs hl ⟨am_grow (M' := (M.1 ++ [(2, n.toNatClampNeg, [])], am_z2 M.2.1 M.1.length 1 0, am_z2 M.2.2 M.1.length 1 0)) rfl (fun j hj => ⟨am_z2_ne _ _ _ _ hj, am_z2_ne _ _ _ _ hj⟩) hW.1 hold (fun i s' hi => ?_), by simp; omega⟩ (am_grS hS (by omega) hold)
      · simp only [List.map_cons, am_v] at k2
        rw [had2] at k2
        exact k2
      · match i, hi with
        | 0, hi =>
          cases hi
          show H1[ad (M.1.length + 0)]? = some (vp_cell (dA 2) (n.toNatClampNeg, .inl (am_z2 M.2.1 M.1.length 1 0 M.1.length)))
          rw [Nat.add_zero, had2, e1]
          have h9 := am_z2_eq M.2.1 M.1.length 1 0 0 (by omega)
          rw [Nat.add_zero] at h9
          rw [h9]
          rfl
        | i + 1, hi => simp at hi
  · exact trivial
set_option maxRecDepth 20000 in
theorem ok_newz {mt : Nat → AmMd} {Ls : Nat} {xs : Nat → Int32} {d : AmMd} {pc : Nat} (hdg : decode d.1 pc = .ok (.newarray .boolean, 2)) (harr : Cond.arrayClass .boolean ∈ am_tb) : am_Ok mt Ls xs d pc (o_newa 3) := by
  intro L st M
  unfold o_newa; dsimp only
  split
  · split
    · exact trivial
    · rename_i n st2 hcc
      rw [not_or, not_or] at hcc
      obtain ⟨hn, hn2, hlen⟩ := hcc
      have hsl : am_sl (M.1 ++ [(3, n.toNatClampNeg, [])]) = am_sl M.1 + n.toNatClampNeg := by rw [am_sl_app]; simp [am_sl, am_s1w]
      refine ⟨⟨by simp, by show am_sl M.1 ≤ am_sl (M.1 ++ _); rw [hsl]; omega⟩, ?_⟩
      intro p l e R s m args below meth c ad base D dA H locs cells slots Q ls CC hl hW hS hz hcb hsb kk
      obtain ⟨⟨hx, hb, hml, hown, hts⟩, hK, hbs, hin, ⟨hRf, hRl⟩, hX, had, hsc⟩ := CC
      dsimp only at hl hW hz hcb hsb kk ⊢
      rw [hsl] at hsb kk
      have e1 : (M.1 ++ [((3, n.toNatClampNeg, []) : AmSh)]).length - M.1.length = 1 := by simp
      have e2 : am_sl M.1 + n.toNatClampNeg - am_sl M.1 = n.toNatClampNeg := by omega
      rw [e1] at hcb kk
      rw [e2] at hsb kk
      refine am_sz (fun hsz => ?_)
      have hz2 := am_Hsz had hW hbs hS hz hsz
      have had2 := had M.1.length (by omega)
      refine va_newaK (atype := .boolean) (N := n.toNatClampNeg) hx hb (hts _ harr) rfl hdg rfl hn rfl (by show _ * componentBytes .boolean ≤ _; simp only [componentBytes]; omega) hcb hsb hz2 (fun H1 cA e1 z1 o1 hAr hNm => ?_)
      have hcA : cA = dA 3 := Option.some.inj (hNm.symm.trans (hK.2 3 _ rfl).2)
      subst hcA
      have hold : ∀ q : Nat, q < H.size → H1[q]? = H[q]? := fun q hq => o1 q (by omega)
      have k2 := kk ls H1 locs hl ⟨am_grow (M' := (M.1 ++ [(3, n.toNatClampNeg, [])], am_z2 M.2.1 M.1.length 1 0, am_z2 M.2.2 M.1.length 1 0)) rfl (fun j hj => ⟨am_z2_ne _ _ _ _ hj, am_z2_ne _ _ _ _ hj⟩) hW.1 hold (fun i s' hi => ?_), by simp; omega⟩ (am_grS hS (by omega) hold)
      · simp only [List.map_cons, am_v] at k2
        rw [had2] at k2
        exact k2
      · match i, hi with
        | 0, hi =>
          cases hi
          show H1[ad (M.1.length + 0)]? = some (vp_cell (dA 3) (n.toNatClampNeg, .inl (am_z2 M.2.1 M.1.length 1 0 M.1.length)))
          rw [Nat.add_zero, had2, e1]
          have h9 := am_z2_eq M.2.1 M.1.length 1 0 0 (by omega)
          rw [Nat.add_zero] at h9
          rw [h9]
          rfl
        | i + 1, hi => simp at hi
  · exact trivial
set_option maxRecDepth 20000 in
theorem ok_newl {mt : Nat → AmMd} {Ls : Nat} {xs : Nat → Int32} {d : AmMd} {pc : Nat} (hdg : decode d.1 pc = .ok (.newarray .long, 2)) (harr : Cond.arrayClass .long ∈ am_tb) : am_Ok mt Ls xs d pc (o_newa 4) := by
  intro L st M
  unfold o_newa; dsimp only
  split
  · split
    · exact trivial
    · rename_i n st2 hcc
      rw [not_or, not_or] at hcc
      obtain ⟨hn, hn2, hlen⟩ := hcc
      have hsl : am_sl (M.1 ++ [(4, n.toNatClampNeg, [])]) = am_sl M.1 + n.toNatClampNeg := by rw [am_sl_app]; simp [am_sl, am_s1w]
      refine ⟨⟨by simp, by show am_sl M.1 ≤ am_sl (M.1 ++ _); rw [hsl]; omega⟩, ?_⟩
      intro p l e R s m args below meth c ad base D dA H locs cells slots Q ls CC hl hW hS hz hcb hsb kk
      obtain ⟨⟨hx, hb, hml, hown, hts⟩, hK, hbs, hin, ⟨hRf, hRl⟩, hX, had, hsc⟩ := CC
      dsimp only at hl hW hz hcb hsb kk ⊢
      rw [hsl] at hsb kk
      have e1 : (M.1 ++ [((4, n.toNatClampNeg, []) : AmSh)]).length - M.1.length = 1 := by simp
      have e2 : am_sl M.1 + n.toNatClampNeg - am_sl M.1 = n.toNatClampNeg := by omega
      rw [e1] at hcb kk
      rw [e2] at hsb kk
      refine am_sz (fun hsz => ?_)
      have hz2 := am_Hsz had hW hbs hS hz hsz
      have had2 := had M.1.length (by omega)
      refine va_newaK (atype := .long) (N := n.toNatClampNeg) hx hb (hts _ harr) rfl hdg rfl hn rfl (by show _ * componentBytes .long ≤ _; simp only [componentBytes]; omega) hcb hsb hz2 (fun H1 cA e1 z1 o1 hAr hNm => ?_)
      have hcA : cA = dA 4 := Option.some.inj (hNm.symm.trans (hK.2 4 _ rfl).2)
      subst hcA
      have hold : ∀ q : Nat, q < H.size → H1[q]? = H[q]? := fun q hq => o1 q (by omega)
      have k2 := kk ls H1 locs hl ⟨am_grow (M' := (M.1 ++ [(4, n.toNatClampNeg, [])], am_z2 M.2.1 M.1.length 1 0, am_z2 M.2.2 M.1.length 1 0)) rfl (fun j hj => ⟨am_z2_ne _ _ _ _ hj, am_z2_ne _ _ _ _ hj⟩) hW.1 hold (fun i s' hi => ?_), by simp; omega⟩ (am_grS hS (by omega) hold)
      · simp only [List.map_cons, am_v] at k2
        rw [had2] at k2
        exact k2
      · match i, hi with
        | 0, hi =>
          cases hi
          show H1[ad (M.1.length + 0)]? = some (vp_cell (dA 4) (n.toNatClampNeg, .inr (.inl (am_z2 M.2.2 M.1.length 1 0 M.1.length))))
          rw [Nat.add_zero, had2, e1]
          have h9 := am_z2_eq M.2.2 M.1.length 1 0 0 (by omega)
          rw [Nat.add_zero] at h9
          rw [h9]
          rfl
        | i + 1, hi => simp at hi
  · exact trivial
set_option maxRecDepth 20000 in
theorem ok_new {mt : Nat → AmMd} {Ls : Nat} {xs : Nat → Int32} {d : AmMd} {pc : Nat} {index ci : Nat} {rs : List Int} {C : String} {T : u_T} {N : Nat} (hdg : decode d.1 pc = .ok (.new index, 3)) (hc : vwCl[ci]? = some (C, T, N)) (hcl : Cond.classLink d.2.2.1 index C ∈ am_tb) (hinst : Cond.instantiable C N ∈ am_tb) (hini : Cond.initialized C ∈ am_tb) (ty : Nat → FieldType) (hty : ∀ k, k < N → parseFieldDescriptor (T k).2.2.1 = some (ty k)) (hrs : rs = (List.range N).map (fun j => am_dz (ty j))) (hdk : ∀ j, j < N → am_dk (ty j) = true) : am_Ok mt Ls xs d pc (o_new ci rs) := by
  intro L st M
  unfold o_new; dsimp only
  split
  · exact trivial
  · rename_i hlen
    have hrl : rs.length = N := by rw [hrs]; simp
    have hsl : am_sl (M.1 ++ [(0, ci, rs)]) = am_sl M.1 + N := by rw [am_sl_app]; simp [am_sl, am_s1w, hrl]
    refine ⟨⟨by simp, by show am_sl M.1 ≤ am_sl (M.1 ++ _); rw [hsl]; omega⟩, ?_⟩
    intro p l e R s m args below meth c ad base D dA H locs cells slots Q ls CC hl hW hS hz hcb hsb kk
    obtain ⟨⟨hx, hb, hml, hown, hts⟩, hK, hbs, hin, ⟨hRf, hRl⟩, hX, had, hsc⟩ := CC
    dsimp only at hl hW hz hcb hsb kk ⊢
    rw [hsl] at hsb kk
    have e1 : (M.1 ++ [((0, ci, rs) : AmSh)]).length - M.1.length = 1 := by simp
    have e2 : am_sl M.1 + N - am_sl M.1 = N := by omega
    rw [e1] at hcb kk
    rw [e2] at hsb kk
    obtain ⟨hin1, -, -⟩ := am_cl _ _ hc
    have hfs : ∀ j, j < N → defaultValue (ty j) = vp_V (rs.mapIdx (fun k z => am_v ad (am_fv (am_z2 M.2.1 M.1.length 1 0) (am_z2 M.2.2 M.1.length 1 0) M.1.length k z))) j := by
      intro j hj
      have hz9 : rs[j]? = some (am_dz (ty j)) := by rw [hrs, List.getElem?_map, List.getElem?_range hj]; rfl
      unfold vp_V
      rw [List.getD_eq_getElem?_getD, List.getElem?_mapIdx, hz9]
      exact (am_dv ad _ _ _ _ (by simp [am_z2]) (by simp [am_z2]) _ (hdk j hj)).symm
    refine va_new hx hb hts hin1 ty hty hown (hts _ hcl) (hts _ hinst) (hts _ hini) hK hW.1 (am_D had hW.2) hS (fun q h => Nat.le_trans hbs h) hc hfs hcb hsb hdg (fun q H1 hP1 hD1 hS1 => ?_)
    refine am_sz (fun hsz => ?_)
    have had2 := had M.1.length (by omega)
    have hwl : (am_ws ad dA M).length = M.1.length := by simp [am_ws]
    have hlast : (am_ws ad dA M ++ [(q, (.inr (ci, rs.mapIdx (fun k z => am_v ad (am_fv (am_z2 M.2.1 M.1.length 1 0) (am_z2 M.2.2 M.1.length 1 0) M.1.length k z))) : va_E))])[M.1.length]? = some (q, .inr (ci, rs.mapIdx (fun k z => am_v ad (am_fv (am_z2 M.2.1 M.1.length 1 0) (am_z2 M.2.2 M.1.length 1 0) M.1.length k z)))) := by
      rw [List.getElem?_append_right (by omega), hwl, Nat.sub_self]; rfl
    have q1 : q < H1.size := (hP1 _ _ hlast).lt
    have q2 : base ≤ q := hD1.2 _ _ hlast
    have q3 : ¬ q < base + M.1.length := by
      intro hq
      have hj : q - base < M.1.length := by omega
      have h8 : (am_ws ad dA M ++ [(q, (.inr (ci, rs.mapIdx (fun k z => am_v ad (am_fv (am_z2 M.2.1 M.1.length 1 0) (am_z2 M.2.2 M.1.length 1 0) M.1.length k z))) : va_E))])[q - base]? = some (ad (q - base), am_e ad dA M.2.1 M.2.2 (q - base) (M.1[q - base]'hj)) := by
        rw [List.getElem?_append_left (by omega), am_ws_get, List.getElem?_eq_getElem hj]; rfl
      have h9 := hD1.1 _ _ _ _ h8 hlast (by show ad (q - base) = q; rw [had (q - base) (by omega)]; omega)
      omega
    have hq : q = ad M.1.length := by rw [had2]; omega
    subst hq
    have e9 := am_push (ad := ad) (dA := dA) (M := M) (M' := (M.1 ++ [(0, ci, rs)], am_z2 M.2.1 M.1.length 1 0, am_z2 M.2.2 M.1.length 1 0)) (s' := (0, ci, rs)) rfl (fun j hj => ⟨am_z2_ne _ _ _ _ hj, am_z2_ne _ _ _ _ hj⟩)
    exact kk ls H1 locs hl ⟨by rw [e9]; exact hP1, by simp; omega⟩ hS1
