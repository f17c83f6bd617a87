/-! LOCALS IN ONE ORDER where ways meet, without those that nobody reads any more -/
def am_keep (ks : List Nat) (L : AmLs) : AmLs := ks.filterMap (fun i => (am_get L i).map (fun v => (i, v)))
def o_nrm (ks : List Nat) (f : AmOp) : AmOp := fun σ => f (σ.1, am_keep ks σ.2.1, σ.2.2.1, σ.2.2.2)
theorem lv_keep {ls : Array Slot} {nL : Nat} {ad : Nat → Nat} {L : AmLs} (ks : List Nat) (h : lv_has ls nL (am_L ad L)) : lv_has ls nL (am_L ad (am_keep ks L)) := by
  refine ⟨h.1, h.2.1, fun q hq => ?_⟩
  unfold am_L am_keep at hq
  obtain ⟨q1, h1, rfl⟩ := List.mem_map.mp hq
  obtain ⟨i, -, h2⟩ := List.mem_filterMap.mp h1
  obtain ⟨v, hv, rfl⟩ := Option.map_eq_some_iff.mp h2
  obtain ⟨k, hk⟩ := am_get_at ad hv
  exact h.2.2 _ (List.mem_of_getElem? hk)
theorem ok_nrm {mt : Nat → AmMd} {Ls : Nat} {xs : Nat → Int32} {d : AmMd} {pc : Nat} {f : AmOp} {ks : List Nat} (h : am_Ok mt Ls xs d pc f) : am_Ok mt Ls xs d pc (o_nrm ks f) := by
  intro L st M
  have h1 := h (am_keep ks L) st M
  show am_Oc mt Ls xs d (pc, L, st, M) (f (pc, am_keep ks L, st, M))
  match hf : f (pc, am_keep ks L, st, M), h1 with
  | none, _ => trivial
  | some (.inl b), h1 =>
    have h1 : am_Nx Ls xs d (pc, am_keep ks L, st, M) b := h1
    exact ⟨h1.1, fun p l e R s m args below meth c ad base D dA H locs cells slots Q ls CC hl => h1.2 p l e R s m args below meth c ad base D dA H locs cells slots Q ls CC (lv_keep ks hl)⟩
  | some (.inr (.inl r)), h1 => exact h1
  | some (.inr (.inr q)), h1 =>
    have h1 : am_Ct mt Ls xs d (pc, am_keep ks L, st, M) q := h1
    exact ⟨h1.1, fun p l e R s m args below meth c ad base D dA H locs cells slots Q ls r mc ms CC hl => h1.2 p l e R s m args below meth c ad base D dA H locs cells slots Q ls r mc ms CC (lv_keep ks hl)⟩
def am_F2 (mt : Nat → AmMd) (Ls : Nat) (xs : Nat → Int32) : List AmMd → List (List (Nat × AmOp)) → Prop
  | d :: ds, o :: os => am_All mt Ls xs d o ∧ am_F2 mt Ls xs ds os
  | _, [] => True
  | [], _ :: _ => False
theorem am_F2.get {mt : Nat → AmMd} {Ls : Nat} {xs : Nat → Int32} {d0 : AmMd} : ∀ {ds : List AmMd} {os : List (List (Nat × AmOp))}, am_F2 mt Ls xs ds os → ∀ k, am_All mt Ls xs (ds.getD k d0) (os.getD k [])
  | d :: ds, o :: os, h, 0 => h.1
  | d :: ds, o :: os, h, k + 1 => by
    simpa using am_F2.get (d0 := d0) h.2 k
  | ds, [], _, k => by simp [am_All]
  | [], _ :: _, h, _ => False.elim h
