/-! BOTH READ: the five kinds -/
section
variable {Ls : Nat} {xs : Nat → Int32} {g : Vg} {hs gr : Nat} {T : Nat → Nat} {n k a : Nat}
set_option maxHeartbeats 4000000 in
theorem lk_house (H : BD g hs gr) (hW : 1 ≤ gW g) (hk : k ≤ n) : LK Ls xs T n g hs gr a k 148 1 := by
  have q1 := bg_1 H.1.1
  obtain ⟨s0, e0⟩ : ∃ z, z = st (0, -1) (if 15 ≤ hs then 3 else 0) (nI a) := ⟨_, rfl⟩
  obtain ⟨s1, e1⟩ : ∃ z, z = st s0 (nF T n k 0 (gW g - 1)) (nI (nQ T n k)) := ⟨_, rfl⟩
  obtain ⟨x, yy1⟩ : ∃ z, z = if s1.1 = 0 then nV T n k else 0 := ⟨_, rfl⟩
  obtain ⟨s2, e2⟩ : ∃ z, z = st s1 (nF T n (nK T n k) 0 (gD g - 1)) (nI (nQ T n (nK T n k))) := ⟨_, rfl⟩
  obtain ⟨y, yy2⟩ : ∃ z, z = if s2.1 = 0 then nV T n (nK T n k) else 0 := ⟨_, rfl⟩
  obtain ⟨c, v0⟩ : ∃ z, z = cix g x y := ⟨_, rfl⟩
  obtain ⟨s3, e3⟩ : ∃ z, z = st s2 (if 0 < gH g c then 4 else 0) (nI (nQ T n (nK T n k))) := ⟨_, rfl⟩
  obtain ⟨s4, e4⟩ : ∃ z, z = st s3 (if anyb (fun p => decide (gA g p = c)) (gP g) = true then 4 else 0) (nI (nQ T n (nK T n k))) := ⟨_, rfl⟩
  obtain ⟨s5, e5⟩ : ∃ z, z = st s4 (nF T n (nK T n (nK T n k)) 1 9) (nI (nQ T n (nK T n (nK T n k)))) := ⟨_, rfl⟩
  obtain ⟨t, yy5⟩ : ∃ z, z = if s5.1 = 0 then nV T n (nK T n (nK T n k)) else 1 := ⟨_, rfl⟩
  obtain ⟨s6, e6⟩ : ∃ z, z = st s5 (eF T n (nK T n (nK T n (nK T n k)))) (nI (nQ T n (nK T n (nK T n (nK T n k))))) := ⟨_, rfl⟩
  by_cases c0 : 15 ≤ hs
  · have hne : 3 ≠ 0 := by omega
    have hlt : 3 < 100 := by omega
    have z0 : s0 = (3, (nI a)) := by rw [e0, if_pos c0, st_1 hne]
    have z1 : s1 = (3, (nI a)) := by rw [e1, z0, st_n (show (3, (nI a)).1 ≠ 0 from hne)]
    have z2 : s2 = (3, (nI a)) := by rw [e2, z1, st_n (show (3, (nI a)).1 ≠ 0 from hne)]
    have z3 : s3 = (3, (nI a)) := by rw [e3, z2, st_n (show (3, (nI a)).1 ≠ 0 from hne)]
    have z4 : s4 = (3, (nI a)) := by rw [e4, z3, st_n (show (3, (nI a)).1 ≠ 0 from hne)]
    have z5 : s5 = (3, (nI a)) := by rw [e5, z4, st_n (show (3, (nI a)).1 ≠ 0 from hne)]
    have z6 : s6 = (3, (nI a)) := by rw [e6, z5, st_n (show (3, (nI a)).1 ≠ 0 from hne)]
    exact Or.inl ⟨3, (nI a), hne, hlt, fun I J q X Dx => ⟨_, _, by
      have h := sx_house X Dx H.1.1 hW H.2.1 hk (s := (0, -1)) rfl (a := a) e0 e1 rfl yy1 e2 rfl yy2 v0 e3 e4 e5 rfl yy5 e6 rfl (Ls := Ls) (xs := xs) (J := J) (q := q)
      rw [z6, if_neg (show ¬ (3, (nI a)).1 = 0 from hne)] at h
      exact h⟩, mf_1f (by have := H.2.1; omega)⟩
  have z0 : s0 = (0, -1) := by rw [e0, if_neg c0, st_0]
  by_cases c1 : (nF T n k 0 (gW g - 1)) = 0
  rotate_left
  · have hne : (nF T n k 0 (gW g - 1)) ≠ 0 := c1
    have hlt : (nF T n k 0 (gW g - 1)) < 100 := Nat.lt_of_le_of_lt nF_le (by omega)
    have z1 : s1 = ((nF T n k 0 (gW g - 1)), (nI (nQ T n k))) := by rw [e1, z0, st_1 hne]
    have z2 : s2 = ((nF T n k 0 (gW g - 1)), (nI (nQ T n k))) := by rw [e2, z1, st_n (show ((nF T n k 0 (gW g - 1)), (nI (nQ T n k))).1 ≠ 0 from hne)]
    have z3 : s3 = ((nF T n k 0 (gW g - 1)), (nI (nQ T n k))) := by rw [e3, z2, st_n (show ((nF T n k 0 (gW g - 1)), (nI (nQ T n k))).1 ≠ 0 from hne)]
    have z4 : s4 = ((nF T n k 0 (gW g - 1)), (nI (nQ T n k))) := by rw [e4, z3, st_n (show ((nF T n k 0 (gW g - 1)), (nI (nQ T n k))).1 ≠ 0 from hne)]
    have z5 : s5 = ((nF T n k 0 (gW g - 1)), (nI (nQ T n k))) := by rw [e5, z4, st_n (show ((nF T n k 0 (gW g - 1)), (nI (nQ T n k))).1 ≠ 0 from hne)]
    have z6 : s6 = ((nF T n k 0 (gW g - 1)), (nI (nQ T n k))) := by rw [e6, z5, st_n (show ((nF T n k 0 (gW g - 1)), (nI (nQ T n k))).1 ≠ 0 from hne)]
    exact Or.inl ⟨(nF T n k 0 (gW g - 1)), (nI (nQ T n k)), hne, hlt, fun I J q X Dx => ⟨_, _, by
      have h := sx_house X Dx H.1.1 hW H.2.1 hk (s := (0, -1)) rfl (a := a) e0 e1 rfl yy1 e2 rfl yy2 v0 e3 e4 e5 rfl yy5 e6 rfl (Ls := Ls) (xs := xs) (J := J) (q := q)
      rw [z6, if_neg (show ¬ ((nF T n k 0 (gW g - 1)), (nI (nQ T n k))).1 = 0 from hne)] at h
      exact h⟩, mf_of (dk_1 (by omega)) (th_f1 H.1.1 hW hk c1) hne hlt⟩
  have z1 : s1 = (0, -1) := by rw [e1, z0, c1, st_0]
  have y1 : x = nV T n k := by rw [yy1, z1]; exact if_pos rfl
  by_cases c2 : (nF T n (nK T n k) 0 (gD g - 1)) = 0
  rotate_left
  · have hne : (nF T n (nK T n k) 0 (gD g - 1)) ≠ 0 := c2
    have hlt : (nF T n (nK T n k) 0 (gD g - 1)) < 100 := Nat.lt_of_le_of_lt nF_le (by omega)
    have z2 : s2 = ((nF T n (nK T n k) 0 (gD g - 1)), (nI (nQ T n (nK T n k)))) := by rw [e2, z1, st_1 hne]
    have z3 : s3 = ((nF T n (nK T n k) 0 (gD g - 1)), (nI (nQ T n (nK T n k)))) := by rw [e3, z2, st_n (show ((nF T n (nK T n k) 0 (gD g - 1)), (nI (nQ T n (nK T n k)))).1 ≠ 0 from hne)]
    have z4 : s4 = ((nF T n (nK T n k) 0 (gD g - 1)), (nI (nQ T n (nK T n k)))) := by rw [e4, z3, st_n (show ((nF T n (nK T n k) 0 (gD g - 1)), (nI (nQ T n (nK T n k)))).1 ≠ 0 from hne)]
    have z5 : s5 = ((nF T n (nK T n k) 0 (gD g - 1)), (nI (nQ T n (nK T n k)))) := by rw [e5, z4, st_n (show ((nF T n (nK T n k) 0 (gD g - 1)), (nI (nQ T n (nK T n k)))).1 ≠ 0 from hne)]
    have z6 : s6 = ((nF T n (nK T n k) 0 (gD g - 1)), (nI (nQ T n (nK T n k)))) := by rw [e6, z5, st_n (show ((nF T n (nK T n k) 0 (gD g - 1)), (nI (nQ T n (nK T n k)))).1 ≠ 0 from hne)]
    exact Or.inl ⟨(nF T n (nK T n k) 0 (gD g - 1)), (nI (nQ T n (nK T n k))), hne, hlt, fun I J q X Dx => ⟨_, _, by
      have h := sx_house X Dx H.1.1 hW H.2.1 hk (s := (0, -1)) rfl (a := a) e0 e1 rfl yy1 e2 rfl yy2 v0 e3 e4 e5 rfl yy5 e6 rfl (Ls := Ls) (xs := xs) (J := J) (q := q)
      rw [z6, if_neg (show ¬ ((nF T n (nK T n k) 0 (gD g - 1)), (nI (nQ T n (nK T n k)))).1 = 0 from hne)] at h
      exact h⟩, mf_of (dk_1 (by omega)) (th_f2 H.1.1 hW hk c1 c2) hne hlt⟩
  have z2 : s2 = (0, -1) := by rw [e2, z1, c2, st_0]
  have y2 : y = nV T n (nK T n k) := by rw [yy2, z2]; exact if_pos rfl
  have hc : c = cix g (nV T n k) (nV T n (nK T n k)) := by rw [v0, y1, y2]
  by_cases c3 : 0 < gH g c
  · have hne : 4 ≠ 0 := by omega
    have hlt : 4 < 100 := by omega
    have z3 : s3 = (4, (nI (nQ T n (nK T n k)))) := by rw [e3, z2, if_pos c3, st_1 hne]
    have z4 : s4 = (4, (nI (nQ T n (nK T n k)))) := by rw [e4, z3, st_n (show (4, (nI (nQ T n (nK T n k)))).1 ≠ 0 from hne)]
    have z5 : s5 = (4, (nI (nQ T n (nK T n k)))) := by rw [e5, z4, st_n (show (4, (nI (nQ T n (nK T n k)))).1 ≠ 0 from hne)]
    have z6 : s6 = (4, (nI (nQ T n (nK T n k)))) := by rw [e6, z5, st_n (show (4, (nI (nQ T n (nK T n k)))).1 ≠ 0 from hne)]
    exact Or.inl ⟨4, (nI (nQ T n (nK T n k))), hne, hlt, fun I J q X Dx => ⟨_, _, by
      have h := sx_house X Dx H.1.1 hW H.2.1 hk (s := (0, -1)) rfl (a := a) e0 e1 rfl yy1 e2 rfl yy2 v0 e3 e4 e5 rfl yy5 e6 rfl (Ls := Ls) (xs := xs) (J := J) (q := q)
      rw [z6, if_neg (show ¬ (4, (nI (nQ T n (nK T n k)))).1 = 0 from hne)] at h
      exact h⟩, mf_of (dk_1 (by omega)) (th_f4 H.1.1 hW hk c1 c2 hc (Or.inl c3)) hne hlt⟩
  have z3 : s3 = (0, -1) := by rw [e3, z2, if_neg c3, st_0]
  by_cases c4 : anyb (fun p => decide (gA g p = c)) (gP g) = true
  · have hne : 4 ≠ 0 := by omega
    have hlt : 4 < 100 := by omega
    have z4 : s4 = (4, (nI (nQ T n (nK T n k)))) := by rw [e4, z3, if_pos c4, st_1 hne]
    have z5 : s5 = (4, (nI (nQ T n (nK T n k)))) := by rw [e5, z4, st_n (show (4, (nI (nQ T n (nK T n k)))).1 ≠ 0 from hne)]
    have z6 : s6 = (4, (nI (nQ T n (nK T n k)))) := by rw [e6, z5, st_n (show (4, (nI (nQ T n (nK T n k)))).1 ≠ 0 from hne)]
    exact Or.inl ⟨4, (nI (nQ T n (nK T n k))), hne, hlt, fun I J q X Dx => ⟨_, _, by
      have h := sx_house X Dx H.1.1 hW H.2.1 hk (s := (0, -1)) rfl (a := a) e0 e1 rfl yy1 e2 rfl yy2 v0 e3 e4 e5 rfl yy5 e6 rfl (Ls := Ls) (xs := xs) (J := J) (q := q)
      rw [z6, if_neg (show ¬ (4, (nI (nQ T n (nK T n k)))).1 = 0 from hne)] at h
      exact h⟩, mf_of (dk_1 (by omega)) (th_f4 H.1.1 hW hk c1 c2 hc (Or.inr c4)) hne hlt⟩
  have z4 : s4 = (0, -1) := by rw [e4, z3, if_neg c4, st_0]
  by_cases c5 : (nF T n (nK T n (nK T n k)) 1 9) = 0
  rotate_left
  · have hne : (nF T n (nK T n (nK T n k)) 1 9) ≠ 0 := c5
    have hlt : (nF T n (nK T n (nK T n k)) 1 9) < 100 := Nat.lt_of_le_of_lt nF_le (by omega)
    have z5 : s5 = ((nF T n (nK T n (nK T n k)) 1 9), (nI (nQ T n (nK T n (nK T n k))))) := by rw [e5, z4, st_1 hne]
    have z6 : s6 = ((nF T n (nK T n (nK T n k)) 1 9), (nI (nQ T n (nK T n (nK T n k))))) := by rw [e6, z5, st_n (show ((nF T n (nK T n (nK T n k)) 1 9), (nI (nQ T n (nK T n (nK T n k))))).1 ≠ 0 from hne)]
    exact Or.inl ⟨(nF T n (nK T n (nK T n k)) 1 9), (nI (nQ T n (nK T n (nK T n k)))), hne, hlt, fun I J q X Dx => ⟨_, _, by
      have h := sx_house X Dx H.1.1 hW H.2.1 hk (s := (0, -1)) rfl (a := a) e0 e1 rfl yy1 e2 rfl yy2 v0 e3 e4 e5 rfl yy5 e6 rfl (Ls := Ls) (xs := xs) (J := J) (q := q)
      rw [z6, if_neg (show ¬ ((nF T n (nK T n (nK T n k)) 1 9), (nI (nQ T n (nK T n (nK T n k))))).1 = 0 from hne)] at h
      exact h⟩, mf_of (dk_1 (by omega)) (th_f5 H.1.1 hW hk c1 c2 hc (fun z => z.elim c3 c4) c5) hne hlt⟩
  have z5 : s5 = (0, -1) := by rw [e5, z4, c5, st_0]
  have y5 : t = nV T n (nK T n (nK T n k)) := by rw [yy5, z5]; exact if_pos rfl
  have hkE : (nK T n (nK T n (nK T n k))) ≤ n := nK_le (nK_le (nK_le (hk)))
  by_cases c6 : (eF T n (nK T n (nK T n (nK T n k)))) = 0
  rotate_left
  · have hne : (eF T n (nK T n (nK T n (nK T n k)))) ≠ 0 := c6
    have hlt : (eF T n (nK T n (nK T n (nK T n k)))) < 100 := by rw [(eF_1 hne).1]; omega
    have z6 : s6 = ((eF T n (nK T n (nK T n (nK T n k)))), (nI (nQ T n (nK T n (nK T n (nK T n k)))))) := by rw [e6, z5, st_1 hne]
    exact Or.inl ⟨(eF T n (nK T n (nK T n (nK T n k)))), (nI (nQ T n (nK T n (nK T n (nK T n k))))), hne, hlt, fun I J q X Dx => ⟨_, _, by
      have h := sx_house X Dx H.1.1 hW H.2.1 hk (s := (0, -1)) rfl (a := a) e0 e1 rfl yy1 e2 rfl yy2 v0 e3 e4 e5 rfl yy5 e6 rfl (Ls := Ls) (xs := xs) (J := J) (q := q)
      rw [z6, if_neg (show ¬ ((eF T n (nK T n (nK T n (nK T n k)))), (nI (nQ T n (nK T n (nK T n (nK T n k)))))).1 = 0 from hne)] at h
      exact h⟩, mf_end (dk_1 (by omega)) (th_o H.1.1 hW hk c1 c2 hc (fun z => z.elim c3 c4) c5) hkE hne⟩
  have z6 : s6 = (0, -1) := by rw [e6, z5, c6, st_0]
  have hlt2 : k < eK T n (nK T n (nK T n (nK T n k))) := by
    have w1 := (eF_0 c6).2.2
    have w2 := nQ_ge (T := T) (n := n) (k := (nK T n (nK T n (nK T n k))))
    have w30 := nK_ge (T := T) (n := n) (k := k)
    have w40 := nQ_ge (T := T) (n := n) (k := k)
    have w31 := nK_ge (T := T) (n := n) (k := (nK T n k))
    have w41 := nQ_ge (T := T) (n := n) (k := (nK T n k))
    have w32 := nK_ge (T := T) (n := n) (k := (nK T n (nK T n k)))
    have w42 := nQ_ge (T := T) (n := n) (k := (nK T n (nK T n k)))
    omega
  refine Or.inr ⟨eK T n (nK T n (nK T n (nK T n k))), (setH g (fset (gH g) c (nV T n (nK T n (nK T n k))))), (hs + 1), gr, hlt2, eK_le hkE, bd_house H (by omega) (nF_0 c5).2.2.2 (fun p hp hq => c4 (anyb_iff.mpr ⟨p, hp, decide_eq_true hq⟩)), fun I J q X Dx => ⟨am_up2 (am_up2 I 15 c (nI (nV T n (nK T n (nK T n k))))) 1 4 (nI (hs + 1)), _, by
    have h := sx_house X Dx H.1.1 hW H.2.1 hk (s := (0, -1)) rfl (a := a) e0 e1 rfl yy1 e2 rfl yy2 v0 e3 e4 e5 rfl yy5 e6 rfl (Ls := Ls) (xs := xs) (J := J) (q := q)
    rw [z6, if_pos (show ((0, -1) : Sf).1 = 0 from rfl), y5] at h
    exact h, dx_house H.1.1 Dx, fun r j hr => ?_⟩, mo_of (dk_1 (by omega)) (th_o H.1.1 hW hk c1 c2 hc (fun z => z.elim c3 c4) c5) hkE c6⟩
  rw [up_ne (by omega), up_ne (by omega)]
set_option maxHeartbeats 4000000 in
theorem lk_person (H : BD g hs gr) (hW : 1 ≤ gW g) (hk : k ≤ n) : LK Ls xs T n g hs gr a k 150 3 := by
  have q1 := bg_1 H.1.1
  obtain ⟨s0, e0⟩ : ∃ z, z = st (0, -1) (if 6 ≤ gP g then 3 else 0) (nI a) := ⟨_, rfl⟩
  obtain ⟨s1, e1⟩ : ∃ z, z = st s0 (nF T n k 0 (gW g - 1)) (nI (nQ T n k)) := ⟨_, rfl⟩
  obtain ⟨x, yy1⟩ : ∃ z, z = if s1.1 = 0 then nV T n k else 0 := ⟨_, rfl⟩
  obtain ⟨s2, e2⟩ : ∃ z, z = st s1 (nF T n (nK T n k) 0 (gD g - 1)) (nI (nQ T n (nK T n k))) := ⟨_, rfl⟩
  obtain ⟨y, yy2⟩ : ∃ z, z = if s2.1 = 0 then nV T n (nK T n k) else 0 := ⟨_, rfl⟩
  obtain ⟨c, v0⟩ : ∃ z, z = cix g x y := ⟨_, rfl⟩
  obtain ⟨s3, e3⟩ : ∃ z, z = st s2 (if 0 < gH g c then 4 else 0) (nI (nQ T n (nK T n k))) := ⟨_, rfl⟩
  obtain ⟨s4, e4⟩ : ∃ z, z = st s3 (nF T n (nK T n (nK T n k)) 1 9) (nI (nQ T n (nK T n (nK T n k)))) := ⟨_, rfl⟩
  obtain ⟨t, yy4⟩ : ∃ z, z = if s4.1 = 0 then nV T n (nK T n (nK T n k)) else 1 := ⟨_, rfl⟩
  obtain ⟨s5, e5⟩ : ∃ z, z = st s4 (eF T n (nK T n (nK T n (nK T n k)))) (nI (nQ T n (nK T n (nK T n (nK T n k))))) := ⟨_, rfl⟩
  by_cases c0 : 6 ≤ gP g
  · have hne : 3 ≠ 0 := by omega
    have hlt : 3 < 100 := by omega
    have z0 : s0 = (3, (nI a)) := by rw [e0, if_pos c0, st_1 hne]
    have z1 : s1 = (3, (nI a)) := by rw [e1, z0, st_n (show (3, (nI a)).1 ≠ 0 from hne)]
    have z2 : s2 = (3, (nI a)) := by rw [e2, z1, st_n (show (3, (nI a)).1 ≠ 0 from hne)]
    have z3 : s3 = (3, (nI a)) := by rw [e3, z2, st_n (show (3, (nI a)).1 ≠ 0 from hne)]
    have z4 : s4 = (3, (nI a)) := by rw [e4, z3, st_n (show (3, (nI a)).1 ≠ 0 from hne)]
    have z5 : s5 = (3, (nI a)) := by rw [e5, z4, st_n (show (3, (nI a)).1 ≠ 0 from hne)]
    exact Or.inl ⟨3, (nI a), hne, hlt, fun I J q X Dx => ⟨_, _, by
      have h := sx_person X Dx H.1.1 hW hk (s := (0, -1)) rfl (a := a) e0 e1 rfl yy1 e2 rfl yy2 v0 e3 e4 rfl yy4 e5 rfl (Ls := Ls) (xs := xs) (J := J) (q := q)
      rw [z5, if_neg (show ¬ (3, (nI a)).1 = 0 from hne)] at h
      exact h⟩, mf_3f (by have := bg_1 H.1.1; omega)⟩
  have z0 : s0 = (0, -1) := by rw [e0, if_neg c0, st_0]
  by_cases c1 : (nF T n k 0 (gW g - 1)) = 0
  rotate_left
  · have hne : (nF T n k 0 (gW g - 1)) ≠ 0 := c1
    have hlt : (nF T n k 0 (gW g - 1)) < 100 := Nat.lt_of_le_of_lt nF_le (by omega)
    have z1 : s1 = ((nF T n k 0 (gW g - 1)), (nI (nQ T n k))) := by rw [e1, z0, st_1 hne]
    have z2 : s2 = ((nF T n k 0 (gW g - 1)), (nI (nQ T n k))) := by rw [e2, z1, st_n (show ((nF T n k 0 (gW g - 1)), (nI (nQ T n k))).1 ≠ 0 from hne)]
    have z3 : s3 = ((nF T n k 0 (gW g - 1)), (nI (nQ T n k))) := by rw [e3, z2, st_n (show ((nF T n k 0 (gW g - 1)), (nI (nQ T n k))).1 ≠ 0 from hne)]
    have z4 : s4 = ((nF T n k 0 (gW g - 1)), (nI (nQ T n k))) := by rw [e4, z3, st_n (show ((nF T n k 0 (gW g - 1)), (nI (nQ T n k))).1 ≠ 0 from hne)]
    have z5 : s5 = ((nF T n k 0 (gW g - 1)), (nI (nQ T n k))) := by rw [e5, z4, st_n (show ((nF T n k 0 (gW g - 1)), (nI (nQ T n k))).1 ≠ 0 from hne)]
    exact Or.inl ⟨(nF T n k 0 (gW g - 1)), (nI (nQ T n k)), hne, hlt, fun I J q X Dx => ⟨_, _, by
      have h := sx_person X Dx H.1.1 hW hk (s := (0, -1)) rfl (a := a) e0 e1 rfl yy1 e2 rfl yy2 v0 e3 e4 rfl yy4 e5 rfl (Ls := Ls) (xs := xs) (J := J) (q := q)
      rw [z5, if_neg (show ¬ ((nF T n k 0 (gW g - 1)), (nI (nQ T n k))).1 = 0 from hne)] at h
      exact h⟩, mf_of (dk_3 (by omega)) (tq_f1 H.1.1 hW hk c1) hne hlt⟩
  have z1 : s1 = (0, -1) := by rw [e1, z0, c1, st_0]
  have y1 : x = nV T n k := by rw [yy1, z1]; exact if_pos rfl
  by_cases c2 : (nF T n (nK T n k) 0 (gD g - 1)) = 0
  rotate_left
  · have hne : (nF T n (nK T n k) 0 (gD g - 1)) ≠ 0 := c2
    have hlt : (nF T n (nK T n k) 0 (gD g - 1)) < 100 := Nat.lt_of_le_of_lt nF_le (by omega)
    have z2 : s2 = ((nF T n (nK T n k) 0 (gD g - 1)), (nI (nQ T n (nK T n k)))) := by rw [e2, z1, st_1 hne]
    have z3 : s3 = ((nF T n (nK T n k) 0 (gD g - 1)), (nI (nQ T n (nK T n k)))) := by rw [e3, z2, st_n (show ((nF T n (nK T n k) 0 (gD g - 1)), (nI (nQ T n (nK T n k)))).1 ≠ 0 from hne)]
    have z4 : s4 = ((nF T n (nK T n k) 0 (gD g - 1)), (nI (nQ T n (nK T n k)))) := by rw [e4, z3, st_n (show ((nF T n (nK T n k) 0 (gD g - 1)), (nI (nQ T n (nK T n k)))).1 ≠ 0 from hne)]
    have z5 : s5 = ((nF T n (nK T n k) 0 (gD g - 1)), (nI (nQ T n (nK T n k)))) := by rw [e5, z4, st_n (show ((nF T n (nK T n k) 0 (gD g - 1)), (nI (nQ T n (nK T n k)))).1 ≠ 0 from hne)]
    exact Or.inl ⟨(nF T n (nK T n k) 0 (gD g - 1)), (nI (nQ T n (nK T n k))), hne, hlt, fun I J q X Dx => ⟨_, _, by
      have h := sx_person X Dx H.1.1 hW hk (s := (0, -1)) rfl (a := a) e0 e1 rfl yy1 e2 rfl yy2 v0 e3 e4 rfl yy4 e5 rfl (Ls := Ls) (xs := xs) (J := J) (q := q)
      rw [z5, if_neg (show ¬ ((nF T n (nK T n k) 0 (gD g - 1)), (nI (nQ T n (nK T n k)))).1 = 0 from hne)] at h
      exact h⟩, mf_of (dk_3 (by omega)) (tq_f2 H.1.1 hW hk c1 c2) hne hlt⟩
  have z2 : s2 = (0, -1) := by rw [e2, z1, c2, st_0]
  have y2 : y = nV T n (nK T n k) := by rw [yy2, z2]; exact if_pos rfl
  have hc : c = cix g (nV T n k) (nV T n (nK T n k)) := by rw [v0, y1, y2]
  by_cases c3 : 0 < gH g c
  · have hne : 4 ≠ 0 := by omega
    have hlt : 4 < 100 := by omega
    have z3 : s3 = (4, (nI (nQ T n (nK T n k)))) := by rw [e3, z2, if_pos c3, st_1 hne]
    have z4 : s4 = (4, (nI (nQ T n (nK T n k)))) := by rw [e4, z3, st_n (show (4, (nI (nQ T n (nK T n k)))).1 ≠ 0 from hne)]
    have z5 : s5 = (4, (nI (nQ T n (nK T n k)))) := by rw [e5, z4, st_n (show (4, (nI (nQ T n (nK T n k)))).1 ≠ 0 from hne)]
    exact Or.inl ⟨4, (nI (nQ T n (nK T n k))), hne, hlt, fun I J q X Dx => ⟨_, _, by
      have h := sx_person X Dx H.1.1 hW hk (s := (0, -1)) rfl (a := a) e0 e1 rfl yy1 e2 rfl yy2 v0 e3 e4 rfl yy4 e5 rfl (Ls := Ls) (xs := xs) (J := J) (q := q)
      rw [z5, if_neg (show ¬ (4, (nI (nQ T n (nK T n k)))).1 = 0 from hne)] at h
      exact h⟩, mf_of (dk_3 (by omega)) (tq_f4 H.1.1 hW (by omega) hk c1 c2 hc c3) hne hlt⟩
  have z3 : s3 = (0, -1) := by rw [e3, z2, if_neg c3, st_0]
  by_cases c4 : (nF T n (nK T n (nK T n k)) 1 9) = 0
  rotate_left
  · have hne : (nF T n (nK T n (nK T n k)) 1 9) ≠ 0 := c4
    have hlt : (nF T n (nK T n (nK T n k)) 1 9) < 100 := Nat.lt_of_le_of_lt nF_le (by omega)
    have z4 : s4 = ((nF T n (nK T n (nK T n k)) 1 9), (nI (nQ T n (nK T n (nK T n k))))) := by rw [e4, z3, st_1 hne]
    have z5 : s5 = ((nF T n (nK T n (nK T n k)) 1 9), (nI (nQ T n (nK T n (nK T n k))))) := by rw [e5, z4, st_n (show ((nF T n (nK T n (nK T n k)) 1 9), (nI (nQ T n (nK T n (nK T n k))))).1 ≠ 0 from hne)]
    exact Or.inl ⟨(nF T n (nK T n (nK T n k)) 1 9), (nI (nQ T n (nK T n (nK T n k)))), hne, hlt, fun I J q X Dx => ⟨_, _, by
      have h := sx_person X Dx H.1.1 hW hk (s := (0, -1)) rfl (a := a) e0 e1 rfl yy1 e2 rfl yy2 v0 e3 e4 rfl yy4 e5 rfl (Ls := Ls) (xs := xs) (J := J) (q := q)
      rw [z5, if_neg (show ¬ ((nF T n (nK T n (nK T n k)) 1 9), (nI (nQ T n (nK T n (nK T n k))))).1 = 0 from hne)] at h
      exact h⟩, mf_of (dk_3 (by omega)) (tq_f5 H.1.1 hW (by omega) hk c1 c2 hc c3 c4) hne hlt⟩
  have z4 : s4 = (0, -1) := by rw [e4, z3, c4, st_0]
  have y4 : t = nV T n (nK T n (nK T n k)) := by rw [yy4, z4]; exact if_pos rfl
  have hkE : (nK T n (nK T n (nK T n k))) ≤ n := nK_le (nK_le (nK_le (hk)))
  by_cases c5 : (eF T n (nK T n (nK T n (nK T n k)))) = 0
  rotate_left
  · have hne : (eF T n (nK T n (nK T n (nK T n k)))) ≠ 0 := c5
    have hlt : (eF T n (nK T n (nK T n (nK T n k)))) < 100 := by rw [(eF_1 hne).1]; omega
    have z5 : s5 = ((eF T n (nK T n (nK T n (nK T n k)))), (nI (nQ T n (nK T n (nK T n (nK T n k)))))) := by rw [e5, z4, st_1 hne]
    exact Or.inl ⟨(eF T n (nK T n (nK T n (nK T n k)))), (nI (nQ T n (nK T n (nK T n (nK T n k))))), hne, hlt, fun I J q X Dx => ⟨_, _, by
      have h := sx_person X Dx H.1.1 hW hk (s := (0, -1)) rfl (a := a) e0 e1 rfl yy1 e2 rfl yy2 v0 e3 e4 rfl yy4 e5 rfl (Ls := Ls) (xs := xs) (J := J) (q := q)
      rw [z5, if_neg (show ¬ ((eF T n (nK T n (nK T n (nK T n k)))), (nI (nQ T n (nK T n (nK T n (nK T n k)))))).1 = 0 from hne)] at h
      exact h⟩, mf_end (dk_3 (by omega)) (tq_o H.1.1 hW (by omega) hk c1 c2 hc c3 c4) hkE hne⟩
  have z5 : s5 = (0, -1) := by rw [e5, z4, c5, st_0]
  have hlt2 : k < eK T n (nK T n (nK T n (nK T n k))) := by
    have w1 := (eF_0 c5).2.2
    have w2 := nQ_ge (T := T) (n := n) (k := (nK T n (nK T n (nK T n k))))
    have w30 := nK_ge (T := T) (n := n) (k := k)
    have w40 := nQ_ge (T := T) (n := n) (k := k)
    have w31 := nK_ge (T := T) (n := n) (k := (nK T n k))
    have w41 := nQ_ge (T := T) (n := n) (k := (nK T n k))
    have w32 := nK_ge (T := T) (n := n) (k := (nK T n (nK T n k)))
    have w42 := nQ_ge (T := T) (n := n) (k := (nK T n (nK T n k)))
    omega
  refine Or.inr ⟨eK T n (nK T n (nK T n (nK T n k))), (addP g c (nV T n (nK T n (nK T n k)))), hs, gr, hlt2, eK_le hkE, bd_person H (by omega) hW (by rw [hc]; exact cx_lt H.1.1 hW c1 c2) (by omega) (nF_0 c4).2.2.1 (nF_0 c4).2.2.2, fun I J q X Dx => ⟨am_up2 (am_up2 (am_up2 I 13 (gP g) (nI c)) 14 (gP g) (nI (nV T n (nK T n (nK T n k))))) 3 4 (nI (gP g + 1)), _, by
    have h := sx_person X Dx H.1.1 hW hk (s := (0, -1)) rfl (a := a) e0 e1 rfl yy1 e2 rfl yy2 v0 e3 e4 rfl yy4 e5 rfl (Ls := Ls) (xs := xs) (J := J) (q := q)
    rw [z5, if_pos (show ((0, -1) : Sf).1 = 0 from rfl), y4] at h
    exact h, dx_person H.1.1 Dx, fun r j hr => ?_⟩, mo_of (dk_3 (by omega)) (tq_o H.1.1 hW (by omega) hk c1 c2 hc c3 c4) hkE c5⟩
  rw [up_ne (by omega), up_ne (by omega), up_ne (by omega)]
set_option maxHeartbeats 4000000 in
theorem lk_sun (H : BD g hs gr) (hW : 1 ≤ gW g) (hk : k ≤ n) : LK Ls xs T n g hs gr a k 149 2 := by
  have q1 := bg_1 H.1.1
  obtain ⟨s0, e0⟩ : ∃ z, z = st (0, -1) (if 6 ≤ gN g then 3 else 0) (nI a) := ⟨_, rfl⟩
  obtain ⟨s1, e1⟩ : ∃ z, z = st s0 (nF T n k 0 2) (nI (nQ T n k)) := ⟨_, rfl⟩
  obtain ⟨x, yy1⟩ : ∃ z, z = if s1.1 = 0 then nV T n k else 0 := ⟨_, rfl⟩
  obtain ⟨s2, e2⟩ : ∃ z, z = st s1 (nF T n (nK T n k) 0 2) (nI (nQ T n (nK T n k))) := ⟨_, rfl⟩
  obtain ⟨y, yy2⟩ : ∃ z, z = if s2.1 = 0 then nV T n (nK T n k) else 0 := ⟨_, rfl⟩
  obtain ⟨s3, e3⟩ : ∃ z, z = st s2 (if x = 1 ∧ y = 1 then 4 else 0) (nI (nQ T n (nK T n k))) := ⟨_, rfl⟩
  obtain ⟨s4, e4⟩ : ∃ z, z = st s3 (nF T n (nK T n (nK T n k)) 0 3) (nI (nQ T n (nK T n (nK T n k)))) := ⟨_, rfl⟩
  obtain ⟨l, yy4⟩ : ∃ z, z = if s4.1 = 0 then nV T n (nK T n (nK T n k)) else 0 := ⟨_, rfl⟩
  obtain ⟨s5, e5⟩ : ∃ z, z = st s4 (nF T n (nK T n (nK T n (nK T n k))) 0 20) (nI (nQ T n (nK T n (nK T n (nK T n k))))) := ⟨_, rfl⟩
  obtain ⟨w, yy5⟩ : ∃ z, z = if s5.1 = 0 then nV T n (nK T n (nK T n (nK T n k))) else 0 := ⟨_, rfl⟩
  obtain ⟨s6, e6⟩ : ∃ z, z = st s5 (eF T n (nK T n (nK T n (nK T n (nK T n k))))) (nI (nQ T n (nK T n (nK T n (nK T n (nK T n k)))))) := ⟨_, rfl⟩
  by_cases c0 : 6 ≤ gN g
  · have hne : 3 ≠ 0 := by omega
    have hlt : 3 < 100 := by omega
    have z0 : s0 = (3, (nI a)) := by rw [e0, if_pos c0, st_1 hne]
    have z1 : s1 = (3, (nI a)) := by rw [e1, z0, st_n (show (3, (nI a)).1 ≠ 0 from hne)]
    have z2 : s2 = (3, (nI a)) := by rw [e2, z1, st_n (show (3, (nI a)).1 ≠ 0 from hne)]
    have z3 : s3 = (3, (nI a)) := by rw [e3, z2, st_n (show (3, (nI a)).1 ≠ 0 from hne)]
    have z4 : s4 = (3, (nI a)) := by rw [e4, z3, st_n (show (3, (nI a)).1 ≠ 0 from hne)]
    have z5 : s5 = (3, (nI a)) := by rw [e5, z4, st_n (show (3, (nI a)).1 ≠ 0 from hne)]
    have z6 : s6 = (3, (nI a)) := by rw [e6, z5, st_n (show (3, (nI a)).1 ≠ 0 from hne)]
    exact Or.inl ⟨3, (nI a), hne, hlt, fun I J q X Dx => ⟨_, _, by
      have h := sx_sun X Dx H.1.1 hk (s := (0, -1)) rfl (a := a) e0 e1 rfl yy1 e2 rfl yy2 e3 e4 rfl yy4 e5 rfl yy5 e6 rfl (Ls := Ls) (xs := xs) (J := J) (q := q)
      rw [z6, if_neg (show ¬ (3, (nI a)).1 = 0 from hne)] at h
      exact h⟩, mf_2f (by have := bg_1 H.1.1; omega)⟩
  have z0 : s0 = (0, -1) := by rw [e0, if_neg c0, st_0]
  by_cases c1 : (nF T n k 0 2) = 0
  rotate_left
  · have hne : (nF T n k 0 2) ≠ 0 := c1
    have hlt : (nF T n k 0 2) < 100 := Nat.lt_of_le_of_lt nF_le (by omega)
    have z1 : s1 = ((nF T n k 0 2), (nI (nQ T n k))) := by rw [e1, z0, st_1 hne]
    have z2 : s2 = ((nF T n k 0 2), (nI (nQ T n k))) := by rw [e2, z1, st_n (show ((nF T n k 0 2), (nI (nQ T n k))).1 ≠ 0 from hne)]
    have z3 : s3 = ((nF T n k 0 2), (nI (nQ T n k))) := by rw [e3, z2, st_n (show ((nF T n k 0 2), (nI (nQ T n k))).1 ≠ 0 from hne)]
    have z4 : s4 = ((nF T n k 0 2), (nI (nQ T n k))) := by rw [e4, z3, st_n (show ((nF T n k 0 2), (nI (nQ T n k))).1 ≠ 0 from hne)]
    have z5 : s5 = ((nF T n k 0 2), (nI (nQ T n k))) := by rw [e5, z4, st_n (show ((nF T n k 0 2), (nI (nQ T n k))).1 ≠ 0 from hne)]
    have z6 : s6 = ((nF T n k 0 2), (nI (nQ T n k))) := by rw [e6, z5, st_n (show ((nF T n k 0 2), (nI (nQ T n k))).1 ≠ 0 from hne)]
    exact Or.inl ⟨(nF T n k 0 2), (nI (nQ T n k)), hne, hlt, fun I J q X Dx => ⟨_, _, by
      have h := sx_sun X Dx H.1.1 hk (s := (0, -1)) rfl (a := a) e0 e1 rfl yy1 e2 rfl yy2 e3 e4 rfl yy4 e5 rfl yy5 e6 rfl (Ls := Ls) (xs := xs) (J := J) (q := q)
      rw [z6, if_neg (show ¬ ((nF T n k 0 2), (nI (nQ T n k))).1 = 0 from hne)] at h
      exact h⟩, mf_of (dk_2 (by omega)) (ts_f1 (by omega) hk c1) hne hlt⟩
  have z1 : s1 = (0, -1) := by rw [e1, z0, c1, st_0]
  have y1 : x = nV T n k := by rw [yy1, z1]; exact if_pos rfl
  by_cases c2 : (nF T n (nK T n k) 0 2) = 0
  rotate_left
  · have hne : (nF T n (nK T n k) 0 2) ≠ 0 := c2
    have hlt : (nF T n (nK T n k) 0 2) < 100 := Nat.lt_of_le_of_lt nF_le (by omega)
    have z2 : s2 = ((nF T n (nK T n k) 0 2), (nI (nQ T n (nK T n k)))) := by rw [e2, z1, st_1 hne]
    have z3 : s3 = ((nF T n (nK T n k) 0 2), (nI (nQ T n (nK T n k)))) := by rw [e3, z2, st_n (show ((nF T n (nK T n k) 0 2), (nI (nQ T n (nK T n k)))).1 ≠ 0 from hne)]
    have z4 : s4 = ((nF T n (nK T n k) 0 2), (nI (nQ T n (nK T n k)))) := by rw [e4, z3, st_n (show ((nF T n (nK T n k) 0 2), (nI (nQ T n (nK T n k)))).1 ≠ 0 from hne)]
    have z5 : s5 = ((nF T n (nK T n k) 0 2), (nI (nQ T n (nK T n k)))) := by rw [e5, z4, st_n (show ((nF T n (nK T n k) 0 2), (nI (nQ T n (nK T n k)))).1 ≠ 0 from hne)]
    have z6 : s6 = ((nF T n (nK T n k) 0 2), (nI (nQ T n (nK T n k)))) := by rw [e6, z5, st_n (show ((nF T n (nK T n k) 0 2), (nI (nQ T n (nK T n k)))).1 ≠ 0 from hne)]
    exact Or.inl ⟨(nF T n (nK T n k) 0 2), (nI (nQ T n (nK T n k))), hne, hlt, fun I J q X Dx => ⟨_, _, by
      have h := sx_sun X Dx H.1.1 hk (s := (0, -1)) rfl (a := a) e0 e1 rfl yy1 e2 rfl yy2 e3 e4 rfl yy4 e5 rfl yy5 e6 rfl (Ls := Ls) (xs := xs) (J := J) (q := q)
      rw [z6, if_neg (show ¬ ((nF T n (nK T n k) 0 2), (nI (nQ T n (nK T n k)))).1 = 0 from hne)] at h
      exact h⟩, mf_of (dk_2 (by omega)) (ts_f2 (by omega) hk c1 c2) hne hlt⟩
  have z2 : s2 = (0, -1) := by rw [e2, z1, c2, st_0]
  have y2 : y = nV T n (nK T n k) := by rw [yy2, z2]; exact if_pos rfl
  by_cases c3 : x = 1 ∧ y = 1
  · have hne : 4 ≠ 0 := by omega
    have hlt : 4 < 100 := by omega
    have z3 : s3 = (4, (nI (nQ T n (nK T n k)))) := by rw [e3, z2, if_pos c3, st_1 hne]
    have z4 : s4 = (4, (nI (nQ T n (nK T n k)))) := by rw [e4, z3, st_n (show (4, (nI (nQ T n (nK T n k)))).1 ≠ 0 from hne)]
    have z5 : s5 = (4, (nI (nQ T n (nK T n k)))) := by rw [e5, z4, st_n (show (4, (nI (nQ T n (nK T n k)))).1 ≠ 0 from hne)]
    have z6 : s6 = (4, (nI (nQ T n (nK T n k)))) := by rw [e6, z5, st_n (show (4, (nI (nQ T n (nK T n k)))).1 ≠ 0 from hne)]
    exact Or.inl ⟨4, (nI (nQ T n (nK T n k))), hne, hlt, fun I J q X Dx => ⟨_, _, by
      have h := sx_sun X Dx H.1.1 hk (s := (0, -1)) rfl (a := a) e0 e1 rfl yy1 e2 rfl yy2 e3 e4 rfl yy4 e5 rfl yy5 e6 rfl (Ls := Ls) (xs := xs) (J := J) (q := q)
      rw [z6, if_neg (show ¬ (4, (nI (nQ T n (nK T n k)))).1 = 0 from hne)] at h
      exact h⟩, mf_of (dk_2 (by omega)) (ts_f3 (by omega) hk c1 c2 (by rw [← y1, ← y2]; exact c3)) hne hlt⟩
  have z3 : s3 = (0, -1) := by rw [e3, z2, if_neg c3, st_0]
  by_cases c4 : (nF T n (nK T n (nK T n k)) 0 3) = 0
  rotate_left
  · have hne : (nF T n (nK T n (nK T n k)) 0 3) ≠ 0 := c4
    have hlt : (nF T n (nK T n (nK T n k)) 0 3) < 100 := Nat.lt_of_le_of_lt nF_le (by omega)
    have z4 : s4 = ((nF T n (nK T n (nK T n k)) 0 3), (nI (nQ T n (nK T n (nK T n k))))) := by rw [e4, z3, st_1 hne]
    have z5 : s5 = ((nF T n (nK T n (nK T n k)) 0 3), (nI (nQ T n (nK T n (nK T n k))))) := by rw [e5, z4, st_n (show ((nF T n (nK T n (nK T n k)) 0 3), (nI (nQ T n (nK T n (nK T n k))))).1 ≠ 0 from hne)]
    have z6 : s6 = ((nF T n (nK T n (nK T n k)) 0 3), (nI (nQ T n (nK T n (nK T n k))))) := by rw [e6, z5, st_n (show ((nF T n (nK T n (nK T n k)) 0 3), (nI (nQ T n (nK T n (nK T n k))))).1 ≠ 0 from hne)]
    exact Or.inl ⟨(nF T n (nK T n (nK T n k)) 0 3), (nI (nQ T n (nK T n (nK T n k)))), hne, hlt, fun I J q X Dx => ⟨_, _, by
      have h := sx_sun X Dx H.1.1 hk (s := (0, -1)) rfl (a := a) e0 e1 rfl yy1 e2 rfl yy2 e3 e4 rfl yy4 e5 rfl yy5 e6 rfl (Ls := Ls) (xs := xs) (J := J) (q := q)
      rw [z6, if_neg (show ¬ ((nF T n (nK T n (nK T n k)) 0 3), (nI (nQ T n (nK T n (nK T n k))))).1 = 0 from hne)] at h
      exact h⟩, mf_of (dk_2 (by omega)) (ts_f4 (by omega) hk c1 c2 (by rw [← y1, ← y2]; exact c3) c4) hne hlt⟩
  have z4 : s4 = (0, -1) := by rw [e4, z3, c4, st_0]
  have y4 : l = nV T n (nK T n (nK T n k)) := by rw [yy4, z4]; exact if_pos rfl
  by_cases c5 : (nF T n (nK T n (nK T n (nK T n k))) 0 20) = 0
  rotate_left
  · have hne : (nF T n (nK T n (nK T n (nK T n k))) 0 20) ≠ 0 := c5
    have hlt : (nF T n (nK T n (nK T n (nK T n k))) 0 20) < 100 := Nat.lt_of_le_of_lt nF_le (by omega)
    have z5 : s5 = ((nF T n (nK T n (nK T n (nK T n k))) 0 20), (nI (nQ T n (nK T n (nK T n (nK T n k)))))) := by rw [e5, z4, st_1 hne]
    have z6 : s6 = ((nF T n (nK T n (nK T n (nK T n k))) 0 20), (nI (nQ T n (nK T n (nK T n (nK T n k)))))) := by rw [e6, z5, st_n (show ((nF T n (nK T n (nK T n (nK T n k))) 0 20), (nI (nQ T n (nK T n (nK T n (nK T n k)))))).1 ≠ 0 from hne)]
    exact Or.inl ⟨(nF T n (nK T n (nK T n (nK T n k))) 0 20), (nI (nQ T n (nK T n (nK T n (nK T n k))))), hne, hlt, fun I J q X Dx => ⟨_, _, by
      have h := sx_sun X Dx H.1.1 hk (s := (0, -1)) rfl (a := a) e0 e1 rfl yy1 e2 rfl yy2 e3 e4 rfl yy4 e5 rfl yy5 e6 rfl (Ls := Ls) (xs := xs) (J := J) (q := q)
      rw [z6, if_neg (show ¬ ((nF T n (nK T n (nK T n (nK T n k))) 0 20), (nI (nQ T n (nK T n (nK T n (nK T n k)))))).1 = 0 from hne)] at h
      exact h⟩, mf_of (dk_2 (by omega)) (ts_f5 (by omega) hk c1 c2 (by rw [← y1, ← y2]; exact c3) c4 c5) hne hlt⟩
  have z5 : s5 = (0, -1) := by rw [e5, z4, c5, st_0]
  have y5 : w = nV T n (nK T n (nK T n (nK T n k))) := by rw [yy5, z5]; exact if_pos rfl
  have hkE : (nK T n (nK T n (nK T n (nK T n k)))) ≤ n := nK_le (nK_le (nK_le (nK_le (hk))))
  by_cases c6 : (eF T n (nK T n (nK T n (nK T n (nK T n k))))) = 0
  rotate_left
  · have hne : (eF T n (nK T n (nK T n (nK T n (nK T n k))))) ≠ 0 := c6
    have hlt : (eF T n (nK T n (nK T n (nK T n (nK T n k))))) < 100 := by rw [(eF_1 hne).1]; omega
    have z6 : s6 = ((eF T n (nK T n (nK T n (nK T n (nK T n k))))), (nI (nQ T n (nK T n (nK T n (nK T n (nK T n k))))))) := by rw [e6, z5, st_1 hne]
    exact Or.inl ⟨(eF T n (nK T n (nK T n (nK T n (nK T n k))))), (nI (nQ T n (nK T n (nK T n (nK T n (nK T n k)))))), hne, hlt, fun I J q X Dx => ⟨_, _, by
      have h := sx_sun X Dx H.1.1 hk (s := (0, -1)) rfl (a := a) e0 e1 rfl yy1 e2 rfl yy2 e3 e4 rfl yy4 e5 rfl yy5 e6 rfl (Ls := Ls) (xs := xs) (J := J) (q := q)
      rw [z6, if_neg (show ¬ ((eF T n (nK T n (nK T n (nK T n (nK T n k))))), (nI (nQ T n (nK T n (nK T n (nK T n (nK T n k))))))).1 = 0 from hne)] at h
      exact h⟩, mf_end (dk_2 (by omega)) (ts_o (by omega) hk c1 c2 (by rw [← y1, ← y2]; exact c3) c4 c5) hkE hne⟩
  have z6 : s6 = (0, -1) := by rw [e6, z5, c6, st_0]
  have hlt2 : k < eK T n (nK T n (nK T n (nK T n (nK T n k)))) := by
    have w1 := (eF_0 c6).2.2
    have w2 := nQ_ge (T := T) (n := n) (k := (nK T n (nK T n (nK T n (nK T n k)))))
    have w30 := nK_ge (T := T) (n := n) (k := k)
    have w40 := nQ_ge (T := T) (n := n) (k := k)
    have w31 := nK_ge (T := T) (n := n) (k := (nK T n k))
    have w41 := nQ_ge (T := T) (n := n) (k := (nK T n k))
    have w32 := nK_ge (T := T) (n := n) (k := (nK T n (nK T n k)))
    have w42 := nQ_ge (T := T) (n := n) (k := (nK T n (nK T n k)))
    have w33 := nK_ge (T := T) (n := n) (k := (nK T n (nK T n (nK T n k))))
    have w43 := nQ_ge (T := T) (n := n) (k := (nK T n (nK T n (nK T n k))))
    omega
  refine Or.inr ⟨eK T n (nK T n (nK T n (nK T n (nK T n k)))), (addS g ((nV T n k : Int) - 1) ((nV T n (nK T n k) : Int) - 1) (nV T n (nK T n (nK T n k))) (nV T n (nK T n (nK T n (nK T n k))))), hs, gr, hlt2, eK_le hkE, bd_sun H (by omega) hW (nF_0 c1).2.2.2 (nF_0 c2).2.2.2 (nF_0 c4).2.2.2 (nF_0 c5).2.2.2, fun I J q X Dx => ⟨addH g (nV T n k) (nV T n (nK T n k)) (nV T n (nK T n (nK T n k))) (nV T n (nK T n (nK T n (nK T n k)))) I, _, by
    have h := sx_sun X Dx H.1.1 hk (s := (0, -1)) rfl (a := a) e0 e1 rfl yy1 e2 rfl yy2 e3 e4 rfl yy4 e5 rfl yy5 e6 rfl (Ls := Ls) (xs := xs) (J := J) (q := q)
    rw [z6, if_pos (show ((0, -1) : Sf).1 = 0 from rfl), y1, y2, y4, y5] at h
    exact h, dx_sun H.1.1 Dx (by omega), fun r j hr => ?_⟩, mo_of (dk_2 (by omega)) (ts_o (by omega) hk c1 c2 (by rw [← y1, ← y2]; exact c3) c4 c5) hkE c6⟩
  unfold addH
  rw [up_ne (by omega), up_ne (by omega), up_ne (by omega), wr_out (by omega)]
set_option maxHeartbeats 4000000 in
theorem lk_grey (H : BD g hs gr) (hk : k ≤ n) : LK Ls xs T n g hs gr a k 151 4 := by
  have q1 := bg_1 H.1.1
  obtain ⟨s0, e0⟩ : ∃ z, z = st (0, -1) (if gr = 0 then 0 else 3) (nI a) := ⟨_, rfl⟩
  obtain ⟨s1, e1⟩ : ∃ z, z = st s0 (nF T n k 0 100) (nI (nQ T n k)) := ⟨_, rfl⟩
  obtain ⟨t, yy1⟩ : ∃ z, z = if s1.1 = 0 then nV T n k else 0 := ⟨_, rfl⟩
  obtain ⟨s2, e2⟩ : ∃ z, z = st s1 (eF T n (nK T n k)) (nI (nQ T n (nK T n k))) := ⟨_, rfl⟩
  by_cases c0 : ¬ gr = 0
  · have hne : 3 ≠ 0 := by omega
    have hlt : 3 < 100 := by omega
    have z0 : s0 = (3, (nI a)) := by rw [e0, if_neg c0, st_1 hne]
    have z1 : s1 = (3, (nI a)) := by rw [e1, z0, st_n (show (3, (nI a)).1 ≠ 0 from hne)]
    have z2 : s2 = (3, (nI a)) := by rw [e2, z1, st_n (show (3, (nI a)).1 ≠ 0 from hne)]
    exact Or.inl ⟨3, (nI a), hne, hlt, fun I J q X Dx => ⟨_, _, by
      have h := sx_grey X Dx hk (s := (0, -1)) rfl (a := a) e0 e1 rfl yy1 e2 rfl (Ls := Ls) (xs := xs) (J := J) (q := q)
      rw [z2, if_neg (show ¬ (3, (nI a)).1 = 0 from hne)] at h
      exact h⟩, mf_4f c0 H.2.2⟩
  have z0 : s0 = (0, -1) := by rw [e0, if_pos (Classical.byContradiction c0), st_0]
  by_cases c1 : (nF T n k 0 100) = 0
  rotate_left
  · have hne : (nF T n k 0 100) ≠ 0 := c1
    have hlt : (nF T n k 0 100) < 100 := Nat.lt_of_le_of_lt nF_le (by omega)
    have z1 : s1 = ((nF T n k 0 100), (nI (nQ T n k))) := by rw [e1, z0, st_1 hne]
    have z2 : s2 = ((nF T n k 0 100), (nI (nQ T n k))) := by rw [e2, z1, st_n (show ((nF T n k 0 100), (nI (nQ T n k))).1 ≠ 0 from hne)]
    exact Or.inl ⟨(nF T n k 0 100), (nI (nQ T n k)), hne, hlt, fun I J q X Dx => ⟨_, _, by
      have h := sx_grey X Dx hk (s := (0, -1)) rfl (a := a) e0 e1 rfl yy1 e2 rfl (Ls := Ls) (xs := xs) (J := J) (q := q)
      rw [z2, if_neg (show ¬ ((nF T n k 0 100), (nI (nQ T n k))).1 = 0 from hne)] at h
      exact h⟩, mf_of (dk_4 (Classical.byContradiction c0)) (tg_f1 hk c1) hne hlt⟩
  have z1 : s1 = (0, -1) := by rw [e1, z0, c1, st_0]
  have y1 : t = nV T n k := by rw [yy1, z1]; exact if_pos rfl
  have hkE : (nK T n k) ≤ n := nK_le (hk)
  by_cases c2 : (eF T n (nK T n k)) = 0
  rotate_left
  · have hne : (eF T n (nK T n k)) ≠ 0 := c2
    have hlt : (eF T n (nK T n k)) < 100 := by rw [(eF_1 hne).1]; omega
    have z2 : s2 = ((eF T n (nK T n k)), (nI (nQ T n (nK T n k)))) := by rw [e2, z1, st_1 hne]
    exact Or.inl ⟨(eF T n (nK T n k)), (nI (nQ T n (nK T n k))), hne, hlt, fun I J q X Dx => ⟨_, _, by
      have h := sx_grey X Dx hk (s := (0, -1)) rfl (a := a) e0 e1 rfl yy1 e2 rfl (Ls := Ls) (xs := xs) (J := J) (q := q)
      rw [z2, if_neg (show ¬ ((eF T n (nK T n k)), (nI (nQ T n (nK T n k)))).1 = 0 from hne)] at h
      exact h⟩, mf_end (dk_4 (Classical.byContradiction c0)) (tg_o hk c1) hkE hne⟩
  have z2 : s2 = (0, -1) := by rw [e2, z1, c2, st_0]
  have hlt2 : k < eK T n (nK T n k) := by
    have w1 := (eF_0 c2).2.2
    have w2 := nQ_ge (T := T) (n := n) (k := (nK T n k))
    have w30 := nK_ge (T := T) (n := n) (k := k)
    have w40 := nQ_ge (T := T) (n := n) (k := k)
    omega
  refine Or.inr ⟨eK T n (nK T n k), g, hs, (nV T n k + 1), hlt2, eK_le hkE, bd_grey H (nF_0 c1).2.2.2, fun I J q X Dx => ⟨am_up2 (am_up2 I 3 5 (nI (nV T n k))) 1 5 1, _, by
    have h := sx_grey X Dx hk (s := (0, -1)) rfl (a := a) e0 e1 rfl yy1 e2 rfl (Ls := Ls) (xs := xs) (J := J) (q := q)
    rw [z2, if_pos (show ((0, -1) : Sf).1 = 0 from rfl), y1] at h
    exact h, dx_grey Dx, fun r j hr => ?_⟩, mo_of (dk_4 (Classical.byContradiction c0)) (tg_o hk c1) hkE c2⟩
  rw [up_ne (by omega), up_ne (by omega)]
set_option maxHeartbeats 4000000 in
theorem lk_ground (H : BD g hs gr) (hW : gW g = 0) (hk : k ≤ n) (ha : a ≤ k) (hw : isw T a k 0 = true) : LK Ls xs T n g hs gr a k 147 0 := by
  have q1 := bg_1 H.1.1
  obtain ⟨s0, e0⟩ : ∃ z, z = st (0, -1) (if isw T a k 0 = true then 0 else 1) (nI a) := ⟨_, rfl⟩
  obtain ⟨s1, e1⟩ : ∃ z, z = st s0 (nF T n k 1 9) (nI (nQ T n k)) := ⟨_, rfl⟩
  obtain ⟨x, yy1⟩ : ∃ z, z = if s1.1 = 0 then nV T n k else 1 := ⟨_, rfl⟩
  obtain ⟨s2, e2⟩ : ∃ z, z = st s1 (nF T n (nK T n k) 1 9) (nI (nQ T n (nK T n k))) := ⟨_, rfl⟩
  obtain ⟨y, yy2⟩ : ∃ z, z = if s2.1 = 0 then nV T n (nK T n k) else 1 := ⟨_, rfl⟩
  obtain ⟨s3, e3⟩ : ∃ z, z = st s2 (if x * y ≤ 48 then 0 else 2) (nI (nQ T n (nK T n k))) := ⟨_, rfl⟩
  obtain ⟨s4, e4⟩ : ∃ z, z = st s3 (eF T n (nK T n (nK T n k))) (nI (nQ T n (nK T n (nK T n k)))) := ⟨_, rfl⟩
  have z0 : s0 = (0, -1) := by rw [e0, if_pos hw, st_0]
  by_cases c1 : (nF T n k 1 9) = 0
  rotate_left
  · have hne : (nF T n k 1 9) ≠ 0 := c1
    have hlt : (nF T n k 1 9) < 100 := Nat.lt_of_le_of_lt nF_le (by omega)
    have z1 : s1 = ((nF T n k 1 9), (nI (nQ T n k))) := by rw [e1, z0, st_1 hne]
    have z2 : s2 = ((nF T n k 1 9), (nI (nQ T n k))) := by rw [e2, z1, st_n (show ((nF T n k 1 9), (nI (nQ T n k))).1 ≠ 0 from hne)]
    have z3 : s3 = ((nF T n k 1 9), (nI (nQ T n k))) := by rw [e3, z2, st_n (show ((nF T n k 1 9), (nI (nQ T n k))).1 ≠ 0 from hne)]
    have z4 : s4 = ((nF T n k 1 9), (nI (nQ T n k))) := by rw [e4, z3, st_n (show ((nF T n k 1 9), (nI (nQ T n k))).1 ≠ 0 from hne)]
    exact Or.inl ⟨(nF T n k 1 9), (nI (nQ T n k)), hne, hlt, fun I J q X Dx => ⟨_, _, by
      have h := sx_groundS X hk (s := (0, -1)) rfl ha e0 e1 rfl yy1 e2 rfl yy2 e3 e4 rfl (Ls := Ls) (xs := xs) (J := J) (q := q)
      rw [z4, if_neg (show ¬ ((nF T n k 1 9), (nI (nQ T n k))).1 = 0 from hne)] at h
      exact h⟩, mf_of (dk_0 hW) (tr_f1 hk c1) hne hlt⟩
  have z1 : s1 = (0, -1) := by rw [e1, z0, c1, st_0]
  have y1 : x = nV T n k := by rw [yy1, z1]; exact if_pos rfl
  by_cases c2 : (nF T n (nK T n k) 1 9) = 0
  rotate_left
  · have hne : (nF T n (nK T n k) 1 9) ≠ 0 := c2
    have hlt : (nF T n (nK T n k) 1 9) < 100 := Nat.lt_of_le_of_lt nF_le (by omega)
    have z2 : s2 = ((nF T n (nK T n k) 1 9), (nI (nQ T n (nK T n k)))) := by rw [e2, z1, st_1 hne]
    have z3 : s3 = ((nF T n (nK T n k) 1 9), (nI (nQ T n (nK T n k)))) := by rw [e3, z2, st_n (show ((nF T n (nK T n k) 1 9), (nI (nQ T n (nK T n k)))).1 ≠ 0 from hne)]
    have z4 : s4 = ((nF T n (nK T n k) 1 9), (nI (nQ T n (nK T n k)))) := by rw [e4, z3, st_n (show ((nF T n (nK T n k) 1 9), (nI (nQ T n (nK T n k)))).1 ≠ 0 from hne)]
    exact Or.inl ⟨(nF T n (nK T n k) 1 9), (nI (nQ T n (nK T n k))), hne, hlt, fun I J q X Dx => ⟨_, _, by
      have h := sx_groundS X hk (s := (0, -1)) rfl ha e0 e1 rfl yy1 e2 rfl yy2 e3 e4 rfl (Ls := Ls) (xs := xs) (J := J) (q := q)
      rw [z4, if_neg (show ¬ ((nF T n (nK T n k) 1 9), (nI (nQ T n (nK T n k)))).1 = 0 from hne)] at h
      exact h⟩, mf_of (dk_0 hW) (tr_f2 hk c1 c2) hne hlt⟩
  have z2 : s2 = (0, -1) := by rw [e2, z1, c2, st_0]
  have y2 : y = nV T n (nK T n k) := by rw [yy2, z2]; exact if_pos rfl
  by_cases c3 : ¬ x * y ≤ 48
  · have hne : 2 ≠ 0 := by omega
    have hlt : 2 < 100 := by omega
    have z3 : s3 = (2, (nI (nQ T n (nK T n k)))) := by rw [e3, z2, if_neg c3, st_1 hne]
    have z4 : s4 = (2, (nI (nQ T n (nK T n k)))) := by rw [e4, z3, st_n (show (2, (nI (nQ T n (nK T n k)))).1 ≠ 0 from hne)]
    exact Or.inl ⟨2, (nI (nQ T n (nK T n k))), hne, hlt, fun I J q X Dx => ⟨_, _, by
      have h := sx_groundS X hk (s := (0, -1)) rfl ha e0 e1 rfl yy1 e2 rfl yy2 e3 e4 rfl (Ls := Ls) (xs := xs) (J := J) (q := q)
      rw [z4, if_neg (show ¬ (2, (nI (nQ T n (nK T n k)))).1 = 0 from hne)] at h
      exact h⟩, mf_of (dk_0 hW) (tr_f3 hk c1 c2 (by rw [← y1, ← y2]; exact c3)) hne hlt⟩
  have z3 : s3 = (0, -1) := by rw [e3, z2, if_pos (Classical.byContradiction c3), st_0]
  have bg := bd_ground H hW (nF_0 c1).2.2 (nF_0 c2).2.2 (by rw [← y1, ← y2]; exact Classical.byContradiction c3)
  have hkE : (nK T n (nK T n k)) ≤ n := nK_le (nK_le (hk))
  by_cases c4 : (eF T n (nK T n (nK T n k))) = 0
  rotate_left
  · have hne : (eF T n (nK T n (nK T n k))) ≠ 0 := c4
    have hlt : (eF T n (nK T n (nK T n k))) < 100 := by rw [(eF_1 hne).1]; omega
    have z4 : s4 = ((eF T n (nK T n (nK T n k))), (nI (nQ T n (nK T n (nK T n k))))) := by rw [e4, z3, st_1 hne]
    exact Or.inl ⟨(eF T n (nK T n (nK T n k))), (nI (nQ T n (nK T n (nK T n k)))), hne, hlt, fun I J q X Dx => ⟨_, _, by
      have h := sx_groundS X hk (s := (0, -1)) rfl ha e0 e1 rfl yy1 e2 rfl yy2 e3 e4 rfl (Ls := Ls) (xs := xs) (J := J) (q := q)
      rw [z4, if_neg (show ¬ ((eF T n (nK T n (nK T n k))), (nI (nQ T n (nK T n (nK T n k))))).1 = 0 from hne)] at h
      exact h⟩, mf_end (dk_0 hW) (tr_o bg.2.1 bg.2.2 hk c1 c2 (by rw [← y1, ← y2]; exact Classical.byContradiction c3)) hkE hne⟩
  have z4 : s4 = (0, -1) := by rw [e4, z3, c4, st_0]
  have hlt2 : k < eK T n (nK T n (nK T n k)) := by
    have w1 := (eF_0 c4).2.2
    have w2 := nQ_ge (T := T) (n := n) (k := (nK T n (nK T n k)))
    have w30 := nK_ge (T := T) (n := n) (k := k)
    have w40 := nQ_ge (T := T) (n := n) (k := k)
    have w31 := nK_ge (T := T) (n := n) (k := (nK T n k))
    have w41 := nQ_ge (T := T) (n := n) (k := (nK T n k))
    omega
  refine Or.inr ⟨eK T n (nK T n (nK T n k)), (setWD g (nV T n k) (nV T n (nK T n k))), hs, gr, hlt2, eK_le hkE, bg.1, fun I J q X Dx => ⟨meas (nV T n k) (nV T n (nK T n k)) I, _, by
    have h := sx_groundS X hk (s := (0, -1)) rfl ha e0 e1 rfl yy1 e2 rfl yy2 e3 e4 rfl (Ls := Ls) (xs := xs) (J := J) (q := q)
    rw [z4, if_pos (show ((0, -1) : Sf).1 = 0 from rfl), y1, y2] at h
    exact h, dx_ground bg.2.1 bg.2.2 Dx, fun r j hr => ?_⟩, mo_of (dk_0 hW) (tr_o bg.2.1 bg.2.2 hk c1 c2 (by rw [← y1, ← y2]; exact Classical.byContradiction c3)) hkE c4⟩
  unfold meas
  rw [wr_out (by omega), wr_out (by omega), up_ne (by omega), up_ne (by omega), up_ne (by omega)]
end
