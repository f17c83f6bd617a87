/-! WITHOUT FUEL: what a method in progress comes to -/
theorem am_mono {tb : Nat → Nat → Option AmOp} : ∀ (n k : Nat) (σ : AmSt) (r : AmRes), am_run tb n k σ = some r → am_run tb (n + 1) k σ = some r := by
  intro n
  induction n with
  | zero => intro k σ r h; cases h
  | succ n ih =>
    intro k σ r h
    rw [am_run] at h
    rw [am_run]
    split at h
    · cases h
    · split at h
      · cases h
      · exact ih _ _ _ h
      · exact h
      · split at h
        · cases h
        · rename_i r1 h1
          rw [ih _ _ _ h1]
          exact ih _ _ _ h
theorem am_mono2 {tb : Nat → Nat → Option AmOp} {n m k : Nat} {σ : AmSt} {r : AmRes} (hm : n ≤ m) (h : am_run tb n k σ = some r) : am_run tb m k σ = some r := by
  induction m with
  | zero => rw [Nat.le_zero.mp hm] at h; exact h
  | succ m ih =>
    rcases Nat.lt_or_ge n (m + 1) with h1 | h1
    · exact am_mono _ _ _ _ (ih (by omega))
    · rw [show n = m + 1 by omega] at h; exact h
noncomputable def am_ev (tb : Nat → Nat → Option AmOp) (k : Nat) (σ : AmSt) : Option AmRes := @dite _ (∃ r, ∃ n, am_run tb n k σ = some r) (Classical.propDecidable _) (fun h => some h.choose) (fun _ => none)
theorem am_ev_iff {tb : Nat → Nat → Option AmOp} {k : Nat} {σ : AmSt} {r : AmRes} : am_ev tb k σ = some r ↔ ∃ n, am_run tb n k σ = some r := by
  unfold am_ev
  constructor
  · intro h
    split at h
    · rename_i hx
      cases h
      exact hx.choose_spec
    · cases h
  · rintro ⟨n, hn⟩
    have hx : ∃ r, ∃ n, am_run tb n k σ = some r := ⟨r, n, hn⟩
    rw [dif_pos hx]
    obtain ⟨m, hm⟩ := hx.choose_spec
    have h1 := am_mono2 (Nat.le_max_left n m) hn
    have h2 := am_mono2 (Nat.le_max_right n m) hm
    rw [h1] at h2
    exact h2.symm
/-- one instruction, then on -/
noncomputable def am_evo (tb : Nat → Nat → Option AmOp) (k : Nat) (f : AmOp) (σ : AmSt) : Option AmRes := match f σ with
  | none => none
  | some (.inl τ) => am_ev tb k τ
  | some (.inr (.inl r)) => some r
  | some (.inr (.inr q)) => (am_ev tb q.1 (0, lv_args 0 q.2.1, [], q.2.2.1)).bind fun r => am_ev tb k (q.2.2.2.1, q.2.2.2.2.1, r.1.toList ++ q.2.2.2.2.2, r.2)
theorem am_ext {α : Type} {a b : Option α} (h : ∀ r, a = some r ↔ b = some r) : a = b := by
  cases a with
  | some x => exact ((h x).mp rfl).symm
  | none =>
    cases b with
    | none => rfl
    | some y => exact (h y).mpr rfl
theorem ev_st {tb : Nat → Nat → Option AmOp} {k : Nat} {σ : AmSt} {f : AmOp} (h : tb k σ.1 = some f) : am_ev tb k σ = am_evo tb k f σ := by
  apply am_ext
  intro r
  rw [am_ev_iff]
  unfold am_evo
  constructor
  · rintro ⟨n, hn⟩
    cases n with
    | zero => cases hn
    | succ n =>
      rw [am_run, h] at hn
      dsimp only at hn
      split at hn
      · cases hn
      · rename_i τ hf
        rw [hf]
        exact am_ev_iff.mpr ⟨n, hn⟩
      · rename_i r1 hf
        rw [hf]
        exact hn
      · rename_i q hf
        rw [hf]
        dsimp only
        split at hn
        · cases hn
        · rename_i r1 h1
          rw [am_ev_iff.mpr ⟨n, h1⟩, Option.bind_some]
          exact am_ev_iff.mpr ⟨n, hn⟩
  · intro hr
    split at hr
    · cases hr
    · rename_i τ hf
      obtain ⟨n, hn⟩ := am_ev_iff.mp hr
      exact ⟨n + 1, by rw [am_run, h]; dsimp only; rw [hf]; exact hn⟩
    · rename_i r1 hf
      exact ⟨1, by rw [am_run, h]; dsimp only; rw [hf]; exact hr⟩
    · rename_i q hf
      cases hq : am_ev tb q.1 (0, lv_args 0 q.2.1, [], q.2.2.1) with
      | none => rw [hq] at hr; cases hr
      | some r1 =>
        rw [hq, Option.bind_some] at hr
        obtain ⟨n1, h1⟩ := am_ev_iff.mp hq
        obtain ⟨n2, h2⟩ := am_ev_iff.mp hr
        refine ⟨max n1 n2 + 1, ?_⟩
        rw [am_run, h]
        dsimp only
        rw [hf]
        dsimp only
        rw [am_mono2 (Nat.le_max_left n1 n2) h1]
        exact am_mono2 (Nat.le_max_right n1 n2) h2
theorem am_get_keep (L : AmLs) (i : Nat) : ∀ ks : List Nat, i ∈ ks → am_get (am_keep ks L) i = am_get L i := by
  intro ks
  induction ks with
  | nil => intro h; cases h
  | cons j ks ih =>
    intro h
    unfold am_keep
    by_cases hj : j = i
    · subst hj
      cases hg : am_get L j with
      | some v =>
        simp only [List.filterMap_cons, hg, Option.map_some]
        unfold am_get
        rw [List.find?_cons_of_pos (by simp)]
        rfl
      | none =>
        simp only [List.filterMap_cons, hg, Option.map_none]
        have hnot : ∀ (ks : List Nat), am_get (am_keep ks L) j = none := by
          intro ks
          induction ks with
          | nil => rfl
          | cons a ks ih2 =>
            unfold am_keep at ih2 ⊢
            cases ha : am_get L a with
            | none => simp only [List.filterMap_cons, ha, Option.map_none]; exact ih2
            | some v =>
              have hne : a ≠ j := by intro e; rw [e, hg] at ha; cases ha
              simp only [List.filterMap_cons, ha, Option.map_some]
              unfold am_get at ih2 ⊢
              rw [List.find?_cons_of_neg (by simpa using hne)]
              exact ih2
        exact hnot ks
    · have hi : i ∈ ks := by
        rcases List.mem_cons.mp h with e | e
        · exact absurd e.symm hj
        · exact e
      have h2 := ih hi
      unfold am_keep at h2
      cases ha : am_get L j with
      | none => simp only [List.filterMap_cons, ha, Option.map_none]; exact h2
      | some v =>
        simp only [List.filterMap_cons, ha, Option.map_some]
        unfold am_get at h2 ⊢
        rw [List.find?_cons_of_neg (by simpa using hj)]
        exact h2
theorem am_keep_keep (ks : List Nat) (L : AmLs) : am_keep ks (am_keep ks L) = am_keep ks L := by
  have h : ∀ ks2 : List Nat, (∀ i ∈ ks2, i ∈ ks) → ks2.filterMap (fun i => (am_get (am_keep ks L) i).map (fun v => (i, v))) = ks2.filterMap (fun i => (am_get L i).map (fun v => (i, v))) := by
    intro ks2
    induction ks2 with
    | nil => intro _; rfl
    | cons a t ih =>
      intro hk
      simp only [List.filterMap_cons]
      rw [am_get_keep L a ks (hk a List.mem_cons_self), ih (fun i hi => hk i (List.mem_cons_of_mem _ hi))]
  exact h ks (fun i hi => hi)
theorem st_pl {tb : Nat → Nat → Option AmOp} {k pc : Nat} {L : AmLs} {st : List Value} {M : AmM} {f : AmOp} (h : tb k pc = some f) : am_ev tb k (pc, L, st, M) = am_evo tb k f (pc, L, st, M) := ev_st h
theorem st_nr {tb : Nat → Nat → Option AmOp} {k pc : Nat} {L : AmLs} {st : List Value} {M : AmM} {f : AmOp} {ks : List Nat} (h : tb k pc = some (o_nrm ks f)) : am_ev tb k (pc, L, st, M) = am_evo tb k f (pc, am_keep ks L, st, M) := by
  rw [ev_st h]
  rfl
/-- where ways meet, the locals may be taken in their one order -/
theorem ev_nr {tb : Nat → Nat → Option AmOp} {k pc : Nat} {L : AmLs} {st : List Value} {M : AmM} {f : AmOp} {ks : List Nat} (h : tb k pc = some (o_nrm ks f)) : am_ev tb k (pc, L, st, M) = am_ev tb k (pc, am_keep ks L, st, M) := by
  rw [st_nr h, st_nr h, am_keep_keep]
