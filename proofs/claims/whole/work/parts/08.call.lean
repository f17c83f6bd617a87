/-! CALLS -/
theorem am_ao {u U : State} (hvm : u.vm.Alike U.vm) (h : (Cond.arrayOver (.array .int)).before #[] u = true) : (Cond.arrayOver (.array .int)).before #[] U = true := by
  have hi : ∀ comp : ClassId, (U.vm.classes.findIdx? fun (x : Class) => match x.kind with | .array component _ => component == comp | _ => false) = (u.vm.classes.findIdx? fun (x : Class) => match x.kind with | .array component _ => component == comp | _ => false) := by
    intro comp
    have e1 := va_idx_bare U.vm comp
    have e2 := va_idx_bare u.vm comp
    have e3 : U.vm.bare = u.vm.bare := by first | exact hvm.bare_eq | exact hvm.bare_eq.symm
    rw [e3] at e1
    exact e1.symm.trans e2
  simp only [Cond.before, Cond.holds, Cond.value, beq_iff_eq] at h ⊢
  cases hc : u.vm.findClass (FieldType.array .int).toString with
  | none => simp [hc] at h
  | some comp =>
    have f1 : U.vm.findClass (FieldType.array .int).toString = some comp := by rw [hvm.findClass]; exact hc
    simp only [hc, Option.bind_some, Option.bind_eq_some_iff, Option.map_eq_some_iff] at h
    obtain ⟨c, hi2, k, hk, hb⟩ := h
    obtain ⟨k', hk', he⟩ := hvm.2.2 _ _ hk
    have hkind : k'.kind = k.kind := by rw [he]
    simp only [f1, Option.bind_some, Option.bind_eq_some_iff, Option.map_eq_some_iff]
    refine ⟨c, (hi comp).trans hi2, k', hk', ?_⟩
    rw [hkind, hvm.findClass]
    exact hb
theorem am_X.same {ad : Nat → Nat} {base : Nat} {u U : State} {H : Heap} (hv : U.vm = u.vm) (h : am_X ad base u H) : am_X ad base U H := by
  have ha : u.vm.Alike U.vm := by rw [hv]; exact Vm.Alike.refl _
  exact ⟨fun i q hq => (h.1 i q hq).same hv, h.2.1.moved ha, h.2.2.1.moved ha, h.2.2.2.1.moved ha, am_ao ha h.2.2.2.2.1, fun w hw => (show w.onTables = true by revert w; decide) |> fun ho => va_Nw.same ho hv.symm (h.2.2.2.2.2 w hw)⟩
theorem am_X.warm {ad : Nat → Nat} {base : Nat} {s U : State} {H : Heap} (hW : s.WarmedH U.vm) (hq : ∀ a : Nat, a < s.heap.size → ¬ base ≤ a → H[a]? = s.heap[a]?) (h : am_X ad base s s.heap) : am_X ad base U H := by
  refine ⟨fun i q hi => (h.1 i q hi).warm hW, (h.2.1.moved hW.alike).kept hq, (h.2.2.1.moved hW.alike).kept hq, (h.2.2.2.1.moved hW.alike).kept hq, am_ao hW.alike h.2.2.2.2.1, ?_⟩
  have hn := h.2.2.2.2.2
  intro w hw
  have h1 := hn w hw
  simp only [am_nw, List.mem_cons, List.not_mem_nil, or_false] at hw
  rcases hw with rfl | rfl | rfl <;> exact va_Nw.warmM hW h1
theorem am_Pc.blind {ad : Nat → Nat} {base : Nat} {D : va_G} {dA : Nat → ClassId} {as : List Value} {M : AmM} : FrameBlind (am_Pc ad base D dA as M) := fun a U g mk q => by
  obtain ⟨q0, qP, qK, qX, qz⟩ := q
  exact ⟨q0, qP, va_K.moved (u := U) (U := U.calling g mk a) (Vm.Alike.refl U.vm) qK, am_X.same (u := U) rfl qX, qz⟩
theorem am_callg {p : Program} {l : Launch} {e : Env} {R : Room} {s : State} {m : MethodId} {args : Array Value} {below : List Frame} {meth : Method} {c : Code} {H : Heap} {locs : List Loc} {cells slots mc ms : Nat} {Q : State → Prop} {pc : Nat} {ls : Array Slot} {rest st0 : List Value} {a : Array Value} {ad : Nat → Nat} {base : Nat} {D : va_G} {dA : Nat → ClassId} {r : AmRes}
    (hr : va_Run p l e R s m args below meth c H locs cells slots mc ms (F0 m pc ls st0) rest (am_Qc ad base D dA r a) (fun q => base ≤ q)) (hS : va_S (fun q => base ≤ q) s.heap H locs)
    (kk : ∀ (H' : Heap) (locs' : List Loc), am_Wd ad D dA r.2 H' → va_S (fun q => base ≤ q) s.heap H' locs' → W p l e R s m args below meth c H' locs' (cells + mc) (slots + ms) Q (F0 m (pc + 3) ls ((r.1.map (am_v ad)).toList ++ rest))) : W p l e R s m args below meth c H locs cells slots Q (F0 m pc ls st0) := by
  intro T hT X
  obtain ⟨v, st₀, t, T', L, h0, X', hL, e1, e2, ⟨⟨hv, hWd⟩, hz, hk⟩, st⟩ := hr T hT X
  cases hv
  rw [h0] at hz hk
  obtain ⟨t2, a1, b1⟩ := kk T'.heap (locs ++ L) (by rw [e1]; exact hWd) ⟨Nat.le_trans hS.1 (by rw [e1]; exact hz), fun q h1 h2 => by rw [e1, hk q (Nat.lt_of_lt_of_le h1 hS.1) h2]; exact hS.2.1 q h1 h2, fun q hq => by
      rcases List.mem_append.mp hq with h | h
      · exact hS.2.2 q h
      · exact hL q h⟩ T' rfl X'
  exact ⟨t2, st t2 a1, b1⟩
/-- what the tables say of a callee -/
def am_ce (dy : AmMd) (n : Nat) : Prop := (Cond.code dy.2.2.2.2.2.2.2 dy.1 dy.2.1 dy.2.2.2.2.2.2.1 ∈ am_tb ∧ Cond.initialized dy.2.2.2.2.2.2.2.cls ∈ am_tb) ∧ (dy.2.2.2.2.2.2.2.cls ≠ "java/lang/invoke/MethodHandle" ∧ dy.2.2.2.2.2.2.2.cls ≠ "java/lang/invoke/VarHandle" ∧ (parseMethodDescriptor dy.2.2.2.2.2.2.2.desc).map (fun d => d.parameters.length) = some n) ∧ am_co dy
theorem am_wyG {dy : AmMd} {n : Nat} (h : am_ce dy n) : GoodIn am_tb (am_wy dy.2.2.2.2.2.2.2 dy.1 dy.2.1 dy.2.2.2.2.2.2.1) := by
  intro w hw
  rcases List.mem_cons.mp hw with rfl | hw
  · exact am_tb_good _ h.1.1
  · exact am_tb_good _ hw
theorem am_B {s : State} {args : Array Value} {R : Room} {own : String} {index n mc ms : Nat} {dy : AmMd} (hts : ∀ w ∈ am_tb, w.before args s = true) (hce : am_ce dy n) (hl : Cond.methodLink own index dy.2.2.2.2.2.2.2 ∈ am_tb) (hR : dy.2.2.2.2.1 + 1 ≤ R.frames ∧ 8 + (dy.2.1 + 11) + dy.2.2.2.2.2.1 ≤ R.locals) :
    CallB R s args own index dy.2.2.2.2.2.2.2 dy.1 dy.2.1 dy.2.2.2.2.2.2.1 (am_wy dy.2.2.2.2.2.2.2 dy.1 dy.2.1 dy.2.2.2.2.2.2.1) (am_rm dy mc ms) mc ms n :=
  callB_of n hts (am_wyG hce) rfl rfl rfl (hts _ hce.1.2) (hts _ hl) hce.2.1 hR
theorem am_Hsz {ad : Nat → Nat} {base cells : Nat} {D : va_G} {dA : Nat → ClassId} {M : AmM} {H : Heap} {s : State} {locs : List Loc} (had : ∀ k, k < 1000000 → ad k = base + k) (hW : am_Wd ad D dA M H) (hbs : base ≤ s.heap.size) (hS : va_S (fun q => base ≤ q) s.heap H locs) (hz : s.heap.size + cells = base + M.1.length) (h : H.size ≤ s.heap.size + cells) : H.size = base + M.1.length := by
  have := am_low had hW (Nat.le_trans hbs hS.1)
  omega
theorem am_pre {ad : Nat → Nat} {base : Nat} {D : va_G} {dA : Nat → ClassId} {M : AmM} {H : Heap} {s : State} {locs : List Loc} {as : List Value} (hK : va_K D vwCl (am_tys dA) s) (hX : am_X ad base s s.heap) (hS : va_S (fun q => base ≤ q) s.heap H locs) (hW : am_Wd ad D dA M H) (hz : H.size = base + M.1.length) : ∀ U : State, U.heap = H → s.WarmedH U.vm → am_Pc ad base D dA as M (as.map (am_v ad)).toArray U := fun U hU hWm =>
  ⟨rfl, by rw [hU]; exact hW, va_K.moved hWm.alike hK, by rw [hU]; exact hX.warm hWm (fun a h1 h2 => hS.2.1 a h1 h2), by rw [hU]; exact hz⟩
theorem am_stk {ad : Nat → Nat} {st st2 : List Value} {n : Nat} {v : Value} (h : st.drop n = v :: st2) : st.map (am_v ad) = (((st.take n).reverse).map (am_v ad)).reverse ++ am_v ad v :: st2.map (am_v ad) ∧ (((st.take n).reverse).map (am_v ad)).length = n := by
  constructor
  · conv => lhs; rw [← List.take_append_drop n st, h]
    simp
  · have hl : n < st.length := by
      have := congrArg List.length h
      simp at this
      omega
    simp
    omega
theorem am_res (ad : Nat → Nat) (r : AmRes) (st2 : List Value) : (r.1.map (am_v ad)).toList ++ st2.map (am_v ad) = (r.1.toList ++ st2).map (am_v ad) := by
  cases r.1 <;> simp
set_option maxRecDepth 20000 in
theorem ok_callv {mt : Nat → AmMd} {Ls : Nat} {xs : Nat → Int32} {d : AmMd} {pc index y n ci nl : Nat} (hdg : decode d.1 pc = .ok (.invokevirtual index, 3)) {dy : AmMd} (hy : mt y = dy) (hnl : dy.2.1 = nl) (hce : am_ce dy n) (hl0 : Cond.methodLink d.2.2.1 index dy.2.2.2.2.2.2.2 ∈ am_tb) (hinst : Cond.instanceMethod dy.2.2.2.2.2.2.2 ∈ am_tb) {C : String} {T : u_T} {N : Nat} (hsel : Cond.selects C dy.2.2.2.2.2.2.2 dy.2.2.2.2.2.2.2 ∈ am_tb) (hc : vwCl[ci]? = some (C, T, N)) (hfl : dy.2.2.2.2.1 + 1 ≤ d.2.2.2.2.1 ∧ 8 + (dy.2.1 + 11) + dy.2.2.2.2.2.1 ≤ d.2.2.2.2.2.1) : am_Ok mt Ls xs d pc (o_callv y n ci nl) := by
  subst hy
  intro L st M
  unfold o_callv; dsimp only
  split
  · split
    · split
      · rename_i x0 r st2 hdr x1 c0 rs hsh hcc
        obtain ⟨hcc, hcs, hln⟩ := hcc
        subst hcc
        refine ⟨⟨rfl, by rw [hnl]; exact hln, hce.2.2⟩, ?_⟩
        intro p l e R s m args below meth c ad base D dA H locs cells slots Q ls r1 mc ms CC hl hW hS hz hM hcb hsb kk
        obtain ⟨⟨hx, hb, hml, hown, hts⟩, hK, hbs, hin, ⟨hRf, hRl⟩, hX, had, hsc⟩ := CC
        dsimp only at hl hW hz hM kk ⊢
        obtain ⟨hstk, hlen⟩ := am_stk (ad := ad) hdr
        rw [hstk]
        refine am_sz (fun hsz => ?_)
        have hz2 := am_Hsz had hW hbs hS hz hsz
        refine am_callg (va_runV (C := C) (As := ((st.take n).reverse).map (am_v ad)) (rest := st2.map (am_v ad)) ⟨hx, hb, hml, hown, hts⟩ hM ⟨am_B hts hce hl0 (by rw [hRf, hRl]; exact hfl), hts _ hinst, hts _ hsel⟩ ⟨am_Pc.blind, va_recv hK hW.1 hc (by rw [am_ws_get, hsh]; rfl), am_pre (as := .ref r :: (st.take n).reverse) hK hX hS hW hz2⟩ rfl hlen hl.1 rfl (lv_room (by rw [am_cs_map]; exact hcs)) hdg ⟨hcb, hsb⟩) hS (fun H' locs' hW' hS' => ?_)
        rw [am_res]
        exact kk H' locs' hW' hS' hl
      · exact trivial
    · exact trivial
  · exact trivial
