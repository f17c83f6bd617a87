/-! ROWS OF ROWS, and the tables' form -/
theorem vr_outer (c : ClassId) (N h0 : Nat) : ∀ i : Nat, Jvm.Free.Multi.outerC c N h0 i = arrV c N (fun j => va_rf (if j < i then some (h0 + 1 + j) else none))
  | 0 => by
    show ({ cls := c, slots := Array.replicate N .null, vm := .none } : Cell) = _
    rw [arrV_new]
    refine congrArg (arrV c N) (funext fun j => ?_)
    simp [va_rf]
  | i + 1 => by
    show (Jvm.Free.Multi.outerC c N h0 i).setSlot i (.ref (h0 + 1 + i)) = _
    rw [vr_outer c N h0 i, arrV_store]
    refine congrArg (arrV c N) (funext fun j => ?_)
    by_cases e : j = i
    · subst e
      simp [updV, va_rf]
    · by_cases h : j < i
      · simp [updV, e, h, Nat.lt_succ_of_lt h]
      · simp [updV, e, h, show ¬ j < i + 1 by omega]
set_option maxRecDepth 20000 in
theorem ok_mna {mt : Nat → AmMd} {Ls : Nat} {xs : Nat → Int32} {d : AmMd} {pc index : Nat} (hdg : decode d.1 pc = .ok (.multianewarray index 2, 4)) (hcl : Cond.classLink d.2.2.1 index "[[I" ∈ am_tb) (harr : Cond.arrayClass .int ∈ am_tb) : am_Ok mt Ls xs d pc o_mna := by
  intro L st M
  unfold o_mna; dsimp only
  split
  · split
    · exact trivial
    · rename_i k n st2 hcc
      simp only [not_or] at hcc
      obtain ⟨hn, hk, hn2, hk2, hlen⟩ := hcc
      generalize hNe : n.toNatClampNeg = N at *
      generalize hKe : k.toNatClampNeg = K at *
      generalize hns : ((5, N, (List.range N).map (fun i => Int.ofNat (M.1.length + 1 + i))) :: List.replicate N ((1, K, []) : AmSh)) = ns at *
      have hnl : ns.length = N + 1 := by rw [← hns]; simp
      have hsr : ∀ (q : Nat), am_sl (List.replicate q ((1, K, []) : AmSh)) = q * K := by
        intro q
        induction q with
        | zero => simp [am_sl]
        | succ q ih => rw [List.replicate_succ, am_sl, ih, Nat.succ_mul, Nat.add_comm]; rfl
      have hsl : am_sl (M.1 ++ ns) = am_sl M.1 + (N + N * K) := by rw [am_sl_app, ← hns, am_sl, hsr]; rfl
      refine ⟨⟨by simp, by show am_sl M.1 ≤ am_sl (M.1 ++ _); rw [hsl]; omega⟩, ?_⟩
      intro p l e R s m args below meth c ad base D dA H locs cells slots Q ls CC hl hW hS hz hcb hsb kk
      obtain ⟨⟨hx, hb, hml, hown, hts⟩, hKw, hbs, hin, ⟨hRf, hRl⟩, hX, had, hsc⟩ := CC
      dsimp only at hl hW hz hcb hsb kk ⊢
      rw [hsl] at hsb kk
      have e1 : (M.1 ++ ns).length - M.1.length = 1 + N := by simp [hnl]; omega
      have e2 : am_sl M.1 + (N + N * K) - am_sl M.1 = N + N * K := by omega
      rw [e1] at hcb kk
      rw [e2] at hsb kk
      refine am_sz (fun hsz => ?_)
      have hz2 := am_Hsz had hW hbs hS hz hsz
      have had2 : ∀ i, i ≤ N → ad (M.1.length + i) = H.size + i := fun i hi => by rw [had _ (by omega), hz2]; omega
      intro T hT Xs
      obtain ⟨vm₁, cA, comp, -, fA, fC, hO, -, X', step⟩ := Xs.multianewarray2F (ty := .int) hx hown (hts _ hcl) hX.2.2.2.2.1 (hts _ harr) (g := F0 m pc ls (.int k :: .int n :: st2.map (am_v ad))) rfl (by rw [hb]; exact hdg) rfl hn hk (by rw [hNe]; omega) (by rw [hKe]; show K * 4 ≤ _; omega) (by rw [hKe]; omega) rfl rfl (by rw [hNe]; omega) (by rw [hNe, hKe]; exact hsb)
      rw [hNe, hKe] at X' step
      have hcA : cA = dA 5 := Option.some.inj (fA.symm.trans (hKw.2 5 _ rfl).2)
      have hcomp : comp = dA 1 := Option.some.inj (fC.symm.trans (hKw.2 1 _ rfl).2)
      subst hcA
      subst hcomp
      generalize hF : Jvm.Free.Multi.fill (T.setVm vm₁) (dA 5) (dA 1) N K (defaultValue .int) N = F at X' step
      have hTh : (T.setVm vm₁).heap = H := hT
      obtain ⟨f1, f2, -, -⟩ := Jvm.Free.Multi.fill_facts (T.setVm vm₁) (dA 5) (dA 1) N K (defaultValue .int) N
      rw [hF, hTh] at f1 f2
      have hold : ∀ x : Nat, x < H.size → F.heap[x]? = H[x]? := fun x hx => by
        have := Jvm.Free.Multi.fill_old (T.setVm vm₁) (dA 5) (dA 1) N K (defaultValue .int) (a := x) (by rw [hTh]; exact hx) N
        rw [hF, hTh] at this
        exact this
      have hrow : ∀ j : Nat, j < N → F.heap[H.size + 1 + j]? = some (Jvm.Free.Multi.innerC (dA 1) K (defaultValue .int)) := fun j hj => by
        have := Jvm.Free.Multi.fill_inner (T.setVm vm₁) (dA 5) (dA 1) N K (defaultValue .int) N j hj
        rw [hF, hTh] at this
        exact this
      rw [vr_outer] at f2
      have hgr := am_grow (M' := (M.1 ++ ns, am_z2 M.2.1 M.1.length (N + 1) 0, am_z2 M.2.2 M.1.length (N + 1) 0)) (H1 := F.heap) rfl (fun j hj => ⟨am_z2_ne _ _ _ _ hj, am_z2_ne _ _ _ _ hj⟩) hW.1 hold (fun i s' hi => by
        have hil : i < N + 1 := by rw [← hnl]; exact (List.getElem?_eq_some_iff.mp hi).1
        rw [← hns] at hi
        match i, hi, hil with
        | 0, hi, _ =>
          cases hi
          show F.heap[ad (M.1.length + 0)]? = some (vp_cell (dA 5) (N, .inr (.inr (.inr (.inr (fun i => ((List.map (fun i => Int.ofNat (M.1.length + 1 + i)) (List.range N))[i]?).map (fun z => ad z.toNat)))))))
          rw [had2 0 (Nat.zero_le _), Nat.add_zero, f2, vp_cell_q]
          refine congrArg some ?_
          show arrV _ _ _ = arrV _ _ _
          refine congrArg (arrV (dA 5) N) ?_
          funext j
          by_cases hj : j < N
          · rw [if_pos hj, List.getElem?_map, List.getElem?_range hj]
            show va_rf (some _) = va_rf (some (ad (M.1.length + 1 + j)))
            rw [show M.1.length + 1 + j = M.1.length + (1 + j) by omega, had2 (1 + j) (by omega), Nat.add_assoc]
          · rw [if_neg hj, List.getElem?_map, List.getElem?_eq_none (by simp; omega)]
            rfl
        | i + 1, hi, hil =>
          rw [List.getElem?_cons_succ, List.getElem?_replicate, if_pos (by omega)] at hi
          cases hi
          show F.heap[ad (M.1.length + (i + 1))]? = some (vp_cell (dA 1) (K, .inl (am_z2 M.2.1 M.1.length (N + 1) 0 (M.1.length + (i + 1)))))
          rw [had2 (i + 1) (by omega), show H.size + (i + 1) = H.size + 1 + i by omega, hrow i (by omega), am_z2_eq _ _ _ _ _ hil, vp_cell_i, ← arrV_new]
          rfl)
      have k2 := kk ls F.heap locs hl ⟨hgr, by simp [hnl]; omega⟩ (am_grS hS (by rw [f1]; omega) hold)
      rw [← Nat.add_assoc, ← Nat.add_assoc] at k2
      obtain ⟨t, a1, b1⟩ := k2 F rfl X'
      refine ⟨t, step t ?_, b1⟩
      have e9 : T.heap.size = ad M.1.length := by rw [hT]; have := had2 0 (Nat.zero_le _); rw [Nat.add_zero, Nat.add_zero] at this; exact this.symm
      rw [e9]
      exact a1
  · exact trivial
/-- a method's table -/
def am_All (mt : Nat → AmMd) (Ls : Nat) (xs : Nat → Int32) (d : AmMd) : List (Nat × AmOp) → Prop
  | [] => True
  | q :: r => am_Ok mt Ls xs d q.1 q.2 ∧ am_All mt Ls xs d r
def am_lk : List (Nat × AmOp) → Nat → Option AmOp
  | [], _ => none
  | q :: r, pc => if q.1 = pc then some q.2 else am_lk r pc
theorem am_All.lk {mt : Nat → AmMd} {Ls : Nat} {xs : Nat → Int32} {d : AmMd} : ∀ {t : List (Nat × AmOp)}, am_All mt Ls xs d t → ∀ (pc : Nat) (f : AmOp), am_lk t pc = some f → am_Ok mt Ls xs d pc f
  | [], _, pc, f, h => by cases h
  | q :: r, ha, pc, f, h => by
    unfold am_lk at h
    split at h
    · rename_i hq
      cases h
      rw [← hq]
      exact ha.1
    · exact am_All.lk ha.2 pc f h
