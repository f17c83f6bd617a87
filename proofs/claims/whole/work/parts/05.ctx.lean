/-! WHAT THE ABSTRACT MACHINE SAYS OF THE MACHINE: worlds, contexts, and what an instruction owes -/
def am_tb : List Cond := lw_tbl.filter goodWord
def am_wy (y : MethodName) (b : ByteArray) (n : Nat) (r : Option FieldType) : List Cond := .code y b n r :: am_tb
theorem am_tb_good : GoodIn am_tb am_tb := fun w h => ⟨h, good_of_word (List.mem_filter.mp h).2⟩
theorem am_in {w : Cond} (i : Nat) (h : tables_1[i]? = some w) (hg : goodWord w = true) : w ∈ am_tb := List.mem_filter.mpr ⟨List.mem_append_right _ (List.mem_of_getElem? h), hg⟩
theorem am_inp {w : Cond} (h : w ∈ k2_sels lw_privs) (hg : goodWord w = true) : w ∈ am_tb := List.mem_filter.mpr ⟨List.mem_append_left _ h, hg⟩
def am_tys (dA : Nat → ClassId) : List (ClassId × FieldType) := [(dA 1, .int), (dA 1, .int), (dA 2, .byte), (dA 3, .boolean), (dA 4, .long), (dA 5, .array .int)]
def am_ldk : List (Nat × String) := [(81, "ground"), (57, "house"), (66, "sun"), (71, "person"), (76, "grey")]
def am_nw : List Cond := [.methodLinkNest "ShadowTax" 18 ⟨"ShadowTax$Plan", "<init>", "()V"⟩ "ShadowTax", .methodLinkNest "ShadowTax" 28 ⟨"ShadowTax$State", "<init>", "()V"⟩ "ShadowTax", .methodLinkNest "ShadowTax" 9 ⟨"ShadowTax$Reading", "<init>", "()V"⟩ "ShadowTax"]
/-- what lies outside: String constants, a static of String's, what is said of rows of rows, links to nest mates -/
def am_X (ad : Nat → Nat) (base : Nat) (U : State) (H : Heap) : Prop :=
  (∀ (i : Nat) (q : Nat × String), am_ldk[i]? = some q → vk_R "ShadowTax$Reading" q.1 q.2 (ad (1000000 + i)) U) ∧ vk_S 5 (am_tx.map List.length) am_tx (fun i => ad (1000000 + i)) (fun i => ad (1000010 + i)) (fun q => base ≤ q) U H ∧ va_Z "java/lang/String" "COMPACT_STRINGS" "Z" (.int 1) (fun q => base ≤ q) U H ∧ va_Z "jdk/internal/util/Preconditions" "SIOOBE_FORMATTER" "Ljava/util/function/BiFunction;" (am_v ad (.retAddr 0)) (fun q => base ≤ q) U H ∧ (Cond.arrayOver (.array .int)).before #[] U = true ∧ ∀ w ∈ am_nw, va_Nw w U
/-- the frame that runs -/
def am_C (Ls : Nat) (xs : Nat → Int32) (ad : Nat → Nat) (base : Nat) (D : va_G) (dA : Nat → ClassId) (d : AmMd) (p : Program) (R : Room) (s : State) (m : MethodId) (args : Array Value) (meth : Method) (c : Code) : Prop :=
  (p.tables.exec = Jvm.exec ∧ c.code = d.1 ∧ c.maxLocals = d.2.1 ∧ s.vm.findClass d.2.2.1 = some m.cls ∧ ∀ w ∈ am_tb, w.before args s = true) ∧ va_K D vwCl (am_tys dA) s ∧ base ≤ s.heap.size ∧ (d.2.2.2.1 = true → meth.name = "<init>") ∧ (R.frames = d.2.2.2.2.1 ∧ R.locals = d.2.2.2.2.2.1) ∧ am_X ad base s s.heap ∧ (∀ k, k < 1000000 → ad k = base + k) ∧ (d.2.2.1 = RL → va_X (ad 1000100) Ls xs s s.heap ∧ ad 1000100 < s.heap.size ∧ ¬ base ≤ ad 1000100)
def am_Wd (ad : Nat → Nat) (D : va_G) (dA : Nat → ClassId) (M : AmM) (H : Heap) : Prop := va_P D vwCl (am_ws ad dA M) H ∧ M.1.length ≤ 1000000
theorem am_ws_get (ad : Nat → Nat) (dA : Nat → ClassId) (M : AmM) (k : Nat) : (am_ws ad dA M)[k]? = (M.1[k]?).map (fun s => (ad k, am_e ad dA M.2.1 M.2.2 k s)) := by
  simp [am_ws, List.getElem?_mapIdx]
theorem am_D {ad : Nat → Nat} {base : Nat} {dA : Nat → ClassId} {M : AmM} (had : ∀ k, k < 1000000 → ad k = base + k) (hl : M.1.length ≤ 1000000) : va_D (fun q => base ≤ q) (am_ws ad dA M) := by
  have key : ∀ (k : Nat) (q : Nat × va_E), (am_ws ad dA M)[k]? = some q → q.1 = base + k := by
    intro k q hk
    rw [am_ws_get] at hk
    cases h : M.1[k]? with
    | none => rw [h] at hk; cases hk
    | some s =>
      rw [h] at hk
      cases hk
      exact had k (Nat.lt_of_lt_of_le (List.getElem?_eq_some_iff.mp h).1 hl)
  exact ⟨fun i j p q hi hj e => by have := key i p hi; have := key j q hj; omega, fun k q hk => by have := key k q hk; show base ≤ q.1; omega⟩
/-- a cell anew, in its place -/
theorem am_set {ad : Nat → Nat} {dA : Nat → ClassId} {M M' : AmM} {k : Nat} {s' : AmSh} {e1 : va_E} (h1 : M'.1 = M.1.set k s') (hoth : ∀ j, j ≠ k → M'.2.1 j = M.2.1 j ∧ M'.2.2 j = M.2.2 j) (he : am_e ad dA M'.2.1 M'.2.2 k s' = e1) : (am_ws ad dA M).set k (ad k, e1) = am_ws ad dA M' := by
  apply List.ext_getElem?
  intro j
  rw [List.getElem?_set, am_ws_get, am_ws_get, h1, List.getElem?_set]
  by_cases hj : k = j
  · subst hj
    rw [if_pos rfl, if_pos rfl]
    have hlen : (am_ws ad dA M).length = M.1.length := by simp [am_ws]
    rw [hlen]
    by_cases hl : k < M.1.length
    · rw [if_pos hl, if_pos hl, Option.map_some, he]
    · rw [if_neg hl, if_neg hl, Option.map_none]
  · rw [if_neg hj, if_neg hj]
    have := hoth j (Ne.symm hj)
    cases M.1[j]? with
    | none => rfl
    | some s => rw [Option.map_some, Option.map_some]; unfold am_e am_fv; rw [this.1, this.2]
theorem am_set0 {α : Type} {l : List α} {k : Nat} {s : α} (h : l[k]? = some s) : l = l.set k s := by
  apply List.ext_getElem?
  intro j
  rw [List.getElem?_set]
  by_cases hj : k = j
  · subst hj
    rw [if_pos rfl, if_pos (List.getElem?_eq_some_iff.mp h).1, h]
  · rw [if_neg hj]
theorem am_low {ad : Nat → Nat} {base : Nat} {D : va_G} {dA : Nat → ClassId} {M : AmM} {H : Heap} (had : ∀ k, k < 1000000 → ad k = base + k) (hW : am_Wd ad D dA M H) (hb : base ≤ H.size) : base + M.1.length ≤ H.size := by
  cases hn : M.1.length with
  | zero => omega
  | succ n =>
    have hl : n < M.1.length := by omega
    have h := (hW.1 n (ad n, am_e ad dA M.2.1 M.2.2 n M.1[n]) (by rw [am_ws_get, List.getElem?_eq_getElem hl]; rfl)).lt
    have := hW.2
    have e := had n (by omega)
    have h2 : ad n < H.size := h
    omega
theorem am_sz {p : Program} {l : Launch} {e : Env} {R : Room} {s : State} {m : MethodId} {args : Array Value} {below : List Frame} {meth : Method} {c : Code} {H : Heap} {locs : List Loc} {cells slots : Nat} {Q : State → Prop} {g : JFrame} (k : H.size ≤ s.heap.size + cells → W p l e R s m args below meth c H locs cells slots Q g) : W p l e R s m args below meth c H locs cells slots Q g := fun T hT X => k (by rw [← hT]; exact X.heapSize) T hT X
theorem am_v_cat (ad : Nat → Nat) (v : Value) : (am_v ad v).category = v.category := by
  cases v with
  | retAddr x => show (if ad 1000201 = 0 then Value.null else Value.ref (ad 1000200)).category = 1; split <;> rfl
  | _ => rfl
theorem am_get_at (ad : Nat → Nat) {L : AmLs} {i : Nat} {v : Value} (h : am_get L i = some v) : ∃ k : Nat, (am_L ad L)[k]? = some (i, am_v ad v) := by
  unfold am_get at h
  cases hf : L.find? (fun q => q.1 == i) with
  | none => rw [hf] at h; cases h
  | some q =>
    rw [hf] at h
    cases h
    have h1 := List.find?_some hf
    obtain ⟨k, hk⟩ := List.getElem?_of_mem (List.mem_of_find?_eq_some hf)
    refine ⟨k, ?_⟩
    simp only [beq_iff_eq] at h1
    simp [am_L, hk, h1]
theorem am_L_s1 (ad : Nat → Nat) (L : AmLs) (i : Nat) (v : Value) : (i, am_v ad v) :: (am_L ad L).filter (fun q => !(q.1 == i) && !(q.1 + 1 == i && q.2.category == 2)) = am_L ad (am_s1 L i v) := by
  simp only [am_L, am_s1, List.map_cons, List.filter_map]
  congr 2
  apply List.filter_congr
  intro q _
  simp [am_v_cat]
theorem am_L_s2 (ad : Nat → Nat) (L : AmLs) (i : Nat) (v : Value) : (i, am_v ad v) :: (am_L ad L).filter (fun q => !(q.1 == i) && (!(q.1 == i + 1) && !(q.1 + 1 == i && q.2.category == 2))) = am_L ad (am_s2 L i v) := by
  simp only [am_L, am_s2, List.map_cons, List.filter_map]
  congr 2
  apply List.filter_congr
  intro q _
  simp [am_v_cat]
theorem am_cs_map (ad : Nat → Nat) (st : List Value) : ((st.map (am_v ad)).map fun v => v.category).sum = am_cs st := by
  unfold am_cs
  rw [List.map_map]
  congr 1
  apply List.map_congr_left
  intro v _
  exact am_v_cat ad v
theorem am_sl_app (a b : List AmSh) : am_sl (a ++ b) = am_sl a + am_sl b := by
  induction a with
  | nil => simp [am_sl]
  | cons s r ih => simp only [List.cons_append, am_sl, ih]; omega
theorem am_sl_set : ∀ (l : List AmSh) (k : Nat) (s s' : AmSh), l[k]? = some s → am_s1w s' = am_s1w s → am_sl (l.set k s') = am_sl l
  | [], _, _, _, h, _ => by simp at h
  | a :: l, 0, s, s', h, e => by
    simp only [List.getElem?_cons_zero, Option.some.injEq] at h
    subst h
    simp only [List.set_cons_zero, am_sl, e]
  | a :: l, k + 1, s, s', h, e => by
    simp only [List.getElem?_cons_succ] at h
    simp only [List.set_cons_succ, am_sl, am_sl_set l k s s' h e]
/-- a step to the next state -/
def am_Nx (Ls : Nat) (xs : Nat → Int32) (d : AmMd) (a b : AmSt) : Prop :=
  am_le a.2.2.2 b.2.2.2 ∧ ∀ (p : Program) (l : Launch) (e : Env) (R : Room) (s : State) (m : MethodId) (args : Array Value) (below : List Frame) (meth : Method) (c : Code) (ad : Nat → Nat) (base : Nat) (D : va_G) (dA : Nat → ClassId) (H : Heap) (locs : List Loc) (cells slots : Nat) (Q : State → Prop) (ls : Array Slot),
    am_C Ls xs ad base D dA d p R s m args meth c → lv_has ls d.2.1 (am_L ad a.2.1) → am_Wd ad D dA a.2.2.2 H → va_S (fun q => base ≤ q) s.heap H locs → s.heap.size + cells = base + a.2.2.2.1.length →
    cells + (b.2.2.2.1.length - a.2.2.2.1.length) ≤ R.cells → slots + (am_sl b.2.2.2.1 - am_sl a.2.2.2.1) ≤ R.slots →
    (∀ (ls' : Array Slot) (H' : Heap) (locs' : List Loc), lv_has ls' d.2.1 (am_L ad b.2.1) → am_Wd ad D dA b.2.2.2 H' → va_S (fun q => base ≤ q) s.heap H' locs' → W p l e R s m args below meth c H' locs' (cells + (b.2.2.2.1.length - a.2.2.2.1.length)) (slots + (am_sl b.2.2.2.1 - am_sl a.2.2.2.1)) Q (F0 m b.1 ls' (b.2.2.1.map (am_v ad)))) →
    W p l e R s m args below meth c H locs cells slots Q (F0 m a.1 ls (a.2.2.1.map (am_v ad)))
/-- a return -/
def am_Rt (Ls : Nat) (xs : Nat → Int32) (d : AmMd) (a : AmSt) (r : AmRes) : Prop :=
  r.2 = a.2.2.2 ∧ ∀ (p : Program) (l : Launch) (e : Env) (R : Room) (s : State) (m : MethodId) (args : Array Value) (below : List Frame) (meth : Method) (c : Code) (ad : Nat → Nat) (base : Nat) (D : va_G) (dA : Nat → ClassId) (H : Heap) (locs : List Loc) (cells slots : Nat) (ls : Array Slot) (Qc : Array Value → State → Outcome → State → Prop) (free : Addr → Prop),
    am_C Ls xs ad base D dA d p R s m args meth c → meth.sig.returnType = d.2.2.2.2.2.2.1 → meth.locks = false → (∀ t : State, t.heap = H → s.WarmedH t.vm → Qc args s (.returned (r.1.map (am_v ad))) t) → (∀ q ∈ locs, free q.base) →
    W p l e R s m args below meth c H locs cells slots (MQ below Qc args s cells slots free) (F0 m a.1 ls (a.2.2.1.map (am_v ad)))
/-- what a method starts with, and what it leaves -/
def am_Pc (ad : Nat → Nat) (base : Nat) (D : va_G) (dA : Nat → ClassId) (as : List Value) (M : AmM) : Array Value → State → Prop :=
  va_Pc (as.map (am_v ad)) (fun U => am_Wd ad D dA M U.heap ∧ va_K D vwCl (am_tys dA) U ∧ am_X ad base U U.heap ∧ U.heap.size = base + M.1.length)
def am_Qc (ad : Nat → Nat) (base : Nat) (D : va_G) (dA : Nat → ClassId) (r : AmRes) : Array Value → State → Outcome → State → Prop := fun _ st oc t =>
  (oc = .returned (r.1.map (am_v ad)) ∧ am_Wd ad D dA r.2 t.heap) ∧ va_F (fun q => base ≤ q) st t
def am_rm (d : AmMd) (mc ms : Nat) : Room := { frames := d.2.2.2.2.1, cells := mc, slots := ms, locals := d.2.2.2.2.2.1 }
def am_Mt (l : Launch) (ad : Nat → Nat) (base : Nat) (D : va_G) (dA : Nat → ClassId) (d : AmMd) (as : List Value) (M : AmM) (r : AmRes) (mc ms : Nat) : Prop :=
  Met l d.2.2.2.2.2.2.2 (am_wy d.2.2.2.2.2.2.2 d.1 d.2.1 d.2.2.2.2.2.2.1) (am_rm d mc ms) (am_Pc ad base D dA as M) (am_Qc ad base D dA r) mc ms (fun q => base ≤ q)
/-- what is asked of a callee: not the law, of a plain class, its own -/
def am_co (d : AmMd) : Prop := d.2.2.1 ≠ RL ∧ plainName d.2.2.2.2.2.2.2.cls = true ∧ d.2.2.1 = d.2.2.2.2.2.2.2.cls ∧ (d.2.2.2.1 = true → d.2.2.2.2.2.2.2.name = "<init>")
/-- a call -/
def am_Ct (mt : Nat → AmMd) (Ls : Nat) (xs : Nat → Int32) (d : AmMd) (a : AmSt) (q : AmCall) : Prop :=
  (q.2.2.1 = a.2.2.2 ∧ (lg_sl q.2.1).length ≤ (mt q.1).2.1 ∧ am_co (mt q.1)) ∧ ∀ (p : Program) (l : Launch) (e : Env) (R : Room) (s : State) (m : MethodId) (args : Array Value) (below : List Frame) (meth : Method) (c : Code) (ad : Nat → Nat) (base : Nat) (D : va_G) (dA : Nat → ClassId) (H : Heap) (locs : List Loc) (cells slots : Nat) (Q : State → Prop) (ls : Array Slot) (r : AmRes) (mc ms : Nat),
    am_C Ls xs ad base D dA d p R s m args meth c → lv_has ls d.2.1 (am_L ad a.2.1) → am_Wd ad D dA a.2.2.2 H → va_S (fun q => base ≤ q) s.heap H locs → s.heap.size + cells = base + a.2.2.2.1.length →
    am_Mt l ad base D dA (mt q.1) q.2.1 a.2.2.2 r mc ms → cells + mc ≤ R.cells → slots + ms ≤ R.slots →
    (∀ (H' : Heap) (locs' : List Loc), am_Wd ad D dA r.2 H' → va_S (fun q => base ≤ q) s.heap H' locs' → lv_has ls d.2.1 (am_L ad q.2.2.2.2.1) → W p l e R s m args below meth c H' locs' (cells + mc) (slots + ms) Q (F0 m q.2.2.2.1 ls ((r.1.toList ++ q.2.2.2.2.2).map (am_v ad)))) →
    W p l e R s m args below meth c H locs cells slots Q (F0 m a.1 ls (a.2.2.1.map (am_v ad)))
def am_Oc (mt : Nat → AmMd) (Ls : Nat) (xs : Nat → Int32) (d : AmMd) (a : AmSt) : AmOut → Prop
  | none => True
  | some (.inl b) => am_Nx Ls xs d a b
  | some (.inr (.inl r)) => am_Rt Ls xs d a r
  | some (.inr (.inr q)) => am_Ct mt Ls xs d a q
def am_Ok (mt : Nat → AmMd) (Ls : Nat) (xs : Nat → Int32) (d : AmMd) (pc : Nat) (f : AmOp) : Prop := ∀ (L : AmLs) (st : List Value) (M : AmM), am_Oc mt Ls xs d (pc, L, st, M) (f (pc, L, st, M))
/-- a step that makes and changes no cell -/
theorem am_Nx.pu {Ls : Nat} {xs : Nat → Int32} {d : AmMd} {pc pc' : Nat} {L L' : AmLs} {st st' : List Value} {M : AmM} (h : ∀ (p : Program) (l : Launch) (e : Env) (R : Room) (s : State) (m : MethodId) (args : Array Value) (below : List Frame) (meth : Method) (c : Code) (ad : Nat → Nat) (base : Nat) (D : va_G) (dA : Nat → ClassId) (H : Heap) (locs : List Loc) (cells slots : Nat) (Q : State → Prop) (ls : Array Slot),
    am_C Ls xs ad base D dA d p R s m args meth c → lv_has ls d.2.1 (am_L ad L) → am_Wd ad D dA M H → va_S (fun q => base ≤ q) s.heap H locs → cells ≤ R.cells → slots ≤ R.slots → (∀ ls' : Array Slot, lv_has ls' d.2.1 (am_L ad L') → W p l e R s m args below meth c H locs cells slots Q (F0 m pc' ls' (st'.map (am_v ad)))) →
    W p l e R s m args below meth c H locs cells slots Q (F0 m pc ls (st.map (am_v ad)))) : am_Nx Ls xs d (pc, L, st, M) (pc', L', st', M) := by
  refine ⟨⟨Nat.le_refl _, Nat.le_refl _⟩, ?_⟩
  intro p l e R s m args below meth c ad base D dA H locs cells slots Q ls C hl hW hS _ hc hs k
  simp only [Nat.sub_self, Nat.add_zero] at hc hs k
  exact h p l e R s m args below meth c ad base D dA H locs cells slots Q ls C hl hW hS hc hs (fun ls' hl' => k ls' H locs hl' hW hS)
