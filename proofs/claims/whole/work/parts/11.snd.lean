/-! WHAT THE ABSTRACT MACHINE RUNS, THE MACHINE RUNS -/
theorem am_le.tr {A B C : AmM} (h1 : am_le A B) (h2 : am_le B C) : am_le A C := ⟨Nat.le_trans h1.1 h2.1, Nat.le_trans h1.2 h2.2⟩
theorem am_L_args (ad : Nat → Nat) : ∀ (i : Nat) (as : List Value), am_L ad (lv_args i as) = lv_args i (as.map (am_v ad))
  | _, [] => rfl
  | i, v :: as => by
    simp only [lv_args, am_L, List.map_cons]
    rw [am_v_cat]
    congr 1
    exact am_L_args ad _ as
theorem am_sl_len (ad : Nat → Nat) (as : List Value) : (lg_sl (as.map (am_v ad))).length = (lg_sl as).length := by
  induction as with
  | nil => rfl
  | cons v as ih =>
    have e : ∀ (w : Value) (l : List Value), (lg_sl (w :: l)).length = (if w.category = 2 then 2 else 1) + (lg_sl l).length := by
      intro w l
      simp only [lg_sl, List.flatMap_cons, List.length_append]
      split <;> simp
    rw [List.map_cons, e, e, am_v_cat, ih]
/-- what a run of a method in progress says -/
def am_Sd (tb : Nat → Nat → Option AmOp) (mt : Nat → AmMd) (Ls : Nat) (xs : Nat → Int32) (k : Nat) (σ : AmSt) (r : AmRes) : Prop :=
  am_le σ.2.2.2 r.2 ∧ ∀ (p : Program) (l : Launch) (e : Env) (R : Room) (s : State) (m : MethodId) (args : Array Value) (below : List Frame) (meth : Method) (c : Code) (ad : Nat → Nat) (base : Nat) (D : va_G) (dA : Nat → ClassId) (H : Heap) (locs : List Loc) (cells slots : Nat) (Q : State → Prop) (ls : Array Slot),
    am_C Ls xs ad base D dA (mt k) p R s m args meth c → lv_has ls (mt k).2.1 (am_L ad σ.2.1) → am_Wd ad D dA σ.2.2.2 H → va_S (fun q => base ≤ q) s.heap H locs → s.heap.size + cells = base + σ.2.2.2.1.length →
    cells + (r.2.1.length - σ.2.2.2.1.length) ≤ R.cells → slots + (am_sl r.2.1 - am_sl σ.2.2.2.1) ≤ R.slots →
    (∀ (a : AmSt) (f : AmOp) (H' : Heap) (locs' : List Loc) (ls' : Array Slot), tb k a.1 = some f → f a = some (.inr (.inl r)) → am_Wd ad D dA r.2 H' → va_S (fun q => base ≤ q) s.heap H' locs' → W p l e R s m args below meth c H' locs' (cells + (r.2.1.length - σ.2.2.2.1.length)) (slots + (am_sl r.2.1 - am_sl σ.2.2.2.1)) Q (F0 m a.1 ls' (a.2.2.1.map (am_v ad)))) →
    W p l e R s m args below meth c H locs cells slots Q (F0 m σ.1 ls (σ.2.2.1.map (am_v ad)))
set_option maxHeartbeats 1000000 in
theorem am_met {tb : Nat → Nat → Option AmOp} {mt : Nat → AmMd} {Ls : Nat} {xs : Nat → Int32} (hall : ∀ (k pc : Nat) (f : AmOp), tb k pc = some f → am_Ok mt Ls xs (mt k) pc f) {k : Nat} {as : List Value} {M : AmM} {r : AmRes} (hs : am_Sd tb mt Ls xs k (0, lv_args 0 as, [], M) r) (hco : am_co (mt k)) (hlen : (lg_sl as).length ≤ (mt k).2.1) (l : Launch) {ad : Nat → Nat} {base : Nat} (D : va_G) (dA : Nat → ClassId) (had : ∀ k, k < 1000000 → ad k = base + k) :
    am_Mt l ad base D dA (mt k) as M r (r.2.1.length - M.1.length) (am_sl r.2.1 - am_sl M.1) := by
  refine Met.ofW (cc := (mt k).1) (maxL := (mt k).2.1) (ret := (mt k).2.2.2.2.2.2.1) hco.2.1 rfl ?_
  intro p e s m args below meth c s₁ B hml hv
  obtain ⟨rfl, hWd, hK, hX, hsz⟩ := hv
  have hts0 := atoms_spec (ws := am_wy (mt k).2.2.2.2.2.2.2 (mt k).1 (mt k).2.1 (mt k).2.2.2.2.2.2.1) B.pre
  have hts : ∀ w ∈ am_tb, w.before (as.map (am_v ad)).toArray s = true := fun w hw => hts0 w (List.mem_cons_of_mem _ hw)
  have hown : s.vm.findClass (mt k).2.2.1 = some m.cls := by rw [hco.2.2.1]; exact findClass_of_methodNamed B.named
  have CC : am_C Ls xs ad base D dA (mt k) p (headSpec (am_wy (mt k).2.2.2.2.2.2.2 (mt k).1 (mt k).2.1 (mt k).2.2.2.2.2.2.1) (am_rm (mt k) (r.2.1.length - M.1.length) (am_sl r.2.1 - am_sl M.1))).room s m (as.map (am_v ad)).toArray meth c :=
    ⟨⟨B.exec, B.bytes, hml, hown, hts⟩, hK, by omega, fun hi => (name_of_methodNamed B.named B.method).1.trans (hco.2.2.2 hi), ⟨rfl, rfl⟩, hX, had, fun h => absurd h hco.1⟩
  rw [lg_entry_eq]
  have hl := lv_entry (as.map (am_v ad)) (n := (mt k).2.1) (by rw [am_sl_len]; exact hlen)
  rw [← am_L_args] at hl
  refine hs.2 p l e _ s m _ below meth c ad base D dA s.heap [] 0 0 _ _ CC hl hWd va_S.rf (by rw [hsz]; rfl) (by rw [Nat.zero_add]; exact Nat.le_refl _) (by rw [Nat.zero_add]; exact Nat.le_refl _) ?_
  intro a f H' locs' ls' htb hf hWd' hS'
  rw [Nat.zero_add, Nat.zero_add]
  have hok := hall k a.1 f htb a.2.1 a.2.2.1 a.2.2.2
  have ea : ((a.1, a.2.1, a.2.2.1, a.2.2.2) : AmSt) = a := rfl
  rw [ea, hf] at hok
  exact hok.2 p l e _ s m _ below meth c ad base D dA H' locs' _ _ ls' (am_Qc ad base D dA r) (fun q => base ≤ q) CC B.returns B.notSynchronized (fun t ht _ => ⟨⟨rfl, by rw [ht]; exact hWd'⟩, hS'.F ht⟩) hS'.2.2
set_option maxHeartbeats 1000000 in
theorem am_snd {tb : Nat → Nat → Option AmOp} {mt : Nat → AmMd} {Ls : Nat} {xs : Nat → Int32} (hall : ∀ (k pc : Nat) (f : AmOp), tb k pc = some f → am_Ok mt Ls xs (mt k) pc f) : ∀ (n k : Nat) (σ : AmSt) (r : AmRes), am_run tb n k σ = some r → am_Sd tb mt Ls xs k σ r := by
  intro n
  induction n with
  | zero => intro k σ r h; cases h
  | succ n ih =>
    intro k σ r h
    unfold am_run at h
    split at h
    · cases h
    · rename_i f htb
      have hok := hall k σ.1 f htb σ.2.1 σ.2.2.1 σ.2.2.2
      have eσ : ((σ.1, σ.2.1, σ.2.2.1, σ.2.2.2) : AmSt) = σ := rfl
      rw [eσ] at hok
      split at h
      · cases h
      · rename_i τ hf
        rw [hf] at hok
        have i1 := ih k τ r h
        have hok : am_Nx Ls xs (mt k) σ τ := hok
        refine ⟨hok.1.tr i1.1, ?_⟩
        intro p l e R s m args below meth c ad base D dA H locs cells slots Q ls CC hl hW hS hz hcb hsb hret
        have hle1 := hok.1
        have hle2 := i1.1
        refine hok.2 p l e R s m args below meth c ad base D dA H locs cells slots Q ls CC hl hW hS hz (by have := hle2.1; omega) (by have := hle2.2; omega) ?_
        intro ls' H' locs' hl' hW' hS'
        refine i1.2 p l e R s m args below meth c ad base D dA H' locs' _ _ Q ls' CC hl' hW' hS' (by have := hle1.1; omega) (by have := hle1.1; have := hle2.1; omega) (by have := hle1.2; have := hle2.2; omega) ?_
        intro a f2 H2 locs2 ls2 g1 g2 g3 g4
        have e1 : cells + (τ.2.2.2.1.length - σ.2.2.2.1.length) + (r.2.1.length - τ.2.2.2.1.length) = cells + (r.2.1.length - σ.2.2.2.1.length) := by have := hle1.1; have := hle2.1; omega
        have e2 : slots + (am_sl τ.2.2.2.1 - am_sl σ.2.2.2.1) + (am_sl r.2.1 - am_sl τ.2.2.2.1) = slots + (am_sl r.2.1 - am_sl σ.2.2.2.1) := by have := hle1.2; have := hle2.2; omega
        rw [e1, e2]
        exact hret a f2 H2 locs2 ls2 g1 g2 g3 g4
      · rename_i r' hf
        cases h
        rw [hf] at hok
        have hok : am_Rt Ls xs (mt k) σ r := hok
        have hM := hok.1
        refine ⟨by rw [hM]; exact ⟨Nat.le_refl _, Nat.le_refl _⟩, ?_⟩
        intro p l e R s m args below meth c ad base D dA H locs cells slots Q ls CC hl hW hS hz hcb hsb hret
        have k2 := hret σ f H locs ls htb hf (by rw [hM]; exact hW) hS
        rw [hM, Nat.sub_self, Nat.sub_self, Nat.add_zero, Nat.add_zero] at k2
        exact k2
      · rename_i q hf
        rw [hf] at hok
        have hok : am_Ct mt Ls xs (mt k) σ q := hok
        split at h
        · cases h
        · rename_i r1 h1
          have i1 := ih q.1 _ r1 h1
          have i2 := ih k _ r h
          obtain ⟨⟨hM, hln, hco⟩, hok2⟩ := hok
          rw [hM] at i1
          have hle1 : am_le σ.2.2.2 r1.2 := i1.1
          have hle2 : am_le r1.2 r.2 := i2.1
          refine ⟨hle1.tr hle2, ?_⟩
          intro p l e R s m args below meth c ad base D dA H locs cells slots Q ls CC hl hW hS hz hcb hsb hret
          have hmet := am_met hall i1 hco hln l D dA CC.2.2.2.2.2.2.1
          refine hok2 p l e R s m args below meth c ad base D dA H locs cells slots Q ls r1 _ _ CC hl hW hS hz hmet (by have := hle1.1; have := hle2.1; omega) (by have := hle1.2; have := hle2.2; omega) ?_
          intro H' locs' hW' hS' hl'
          refine i2.2 p l e R s m args below meth c ad base D dA H' locs' _ _ Q ls CC hl' hW' hS' (by show _ = base + r1.2.1.length; have := hle1.1; omega) (by show _ + (r.2.1.length - r1.2.1.length) ≤ _; have := hle1.1; have := hle2.1; omega) (by show _ + (am_sl r.2.1 - am_sl r1.2.1) ≤ _; have := hle1.2; have := hle2.2; omega) ?_
          intro a f2 H2 locs2 ls2 g1 g2 g3 g4
          have e1 : cells + (r1.2.1.length - σ.2.2.2.1.length) + (r.2.1.length - r1.2.1.length) = cells + (r.2.1.length - σ.2.2.2.1.length) := by have := hle1.1; have := hle2.1; omega
          have e2 : slots + (am_sl r1.2.1 - am_sl σ.2.2.2.1) + (am_sl r.2.1 - am_sl r1.2.1) = slots + (am_sl r.2.1 - am_sl σ.2.2.2.1) := by have := hle1.2; have := hle2.2; omega
          show W p l e R s m args below meth c H2 locs2 (cells + (r1.2.1.length - σ.2.2.2.1.length) + (r.2.1.length - r1.2.1.length)) (slots + (am_sl r1.2.1 - am_sl σ.2.2.2.1) + (am_sl r.2.1 - am_sl r1.2.1)) Q _
          rw [e1, e2]
          exact hret a f2 H2 locs2 ls2 g1 g2 g3 g4
