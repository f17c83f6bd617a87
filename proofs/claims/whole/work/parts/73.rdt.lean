/-! THE CLASS READS: the sun, the ground, a statement -/
def addS (g : Vg) (x y : Int) (l w : Nat) : Vg := ((g.1.1, g.1.2.1, gN g + 1, g.1.2.2.2.1, fset (gX g) (gN g) x, fset (gY g) (gN g) y, fset (gL g) (gN g) l, fset (gS g) (gN g) w, gT g), g.2)
def addP (g : Vg) (c t : Nat) : Vg := ((g.1.1, g.1.2.1, g.1.2.2.1, gP g + 1, gX g, gY g, gL g, gS g, fset (gT g) (gP g) t), (g.2.1, fset (gA g) (gP g) c, fset (gF g) (gP g) 0, g.2.2.2.2))
def setWD (g : Vg) (w d : Nat) : Vg := ((w, d, g.1.2.2), g.2)
/-- the draft with an hour more -/
def addH (g : Vg) (x y l w : Nat) (I : Nat → Nat → Int32) : Nat → Nat → Int32 := am_up2 (am_up2 (am_up2 (wri I (5 + gN g) (gW g * gD g) (fun c => oI (nb (gW g) (gD g) ((x : Int) - 1) ((y : Int) - 1) c))) 11 (gN g) (nI l)) 12 (gN g) (nI w)) 3 3 (nI (gN g + 1))
/-- the draft measured -/
def meas (w h : Nat) (I : Nat → Nat → Int32) : Nat → Nat → Int32 := wri (wri (am_up2 (am_up2 (am_up2 I 3 0 (nI w)) 3 1 (nI h)) 3 2 (nI (w * h))) 16 (w * h) (fun c => nI (c % w))) 17 (w * h) (fun c => nI (c / w))
section
variable {Ls : Nat} {xs : Nat → Int32} {g : Vg} {hs gr : Nat} {I I' : Nat → Nat → Int32} {J : Nat → Nat → Int64} {T : Nat → Nat} {n k : Nat} {s : Sf} {q : Int32}
theorem rsw {r m : Nat} {f : Nat → Int32} (h : r ≠ 1) : wri (rdS I k s q) r m f = rdS (wri I r m f) k s q := by
  funext a b
  unfold rdS rdM wri
  dsimp only
  by_cases h1 : a = 1
  · subst h1
    simp only [show ¬ (1 = r ∧ b < m) from fun z => h z.1.symm, if_false]
  · rw [if_neg h1, if_neg h1]
theorem nI_am (a x : Nat) : nI a + (nI x - 1) = nI (a + x) - 1 := by
  rw [← nI_add, Int32.sub_eq_add_neg, Int32.sub_eq_add_neg, Int32.add_assoc]
theorem sx_cellAt3 {Z : Nat → Nat → Int32} (h0 : Z 3 0 = nI (gW g)) (h1 : Z 3 1 = nI (gD g)) (B : BG g) {x y : Nat} (hx : x ≤ 2) (hy : y ≤ 2) {c : Nat} (hc : c < gW g * gD g) : am_ev (am_tbl Ls xs) 137 (0, [(0, .ref 3), (1, .int (nI (c % gW g) + (nI x - 1))), (2, .int (nI (c / gW g) + (nI y - 1)))], [], (am_sh, Z, J)) = some (some (.int (oI (nb (gW g) (gD g) ((x : Int) - 1) ((y : Int) - 1) c))), (am_sh, Z, J)) := by
  have b1 := bg_1 B
  have hW : 0 < gW g := by rcases Nat.eq_zero_or_pos (gW g) with z | z; (rw [z, Nat.zero_mul] at hc; omega); exact z
  have hm := Nat.mod_lt c hW
  have hd : c / gW g < gD g := Nat.div_lt_of_lt_mul hc
  rw [nI_am, nI_am, b_X2_cellAt_0_2, nI_m1, nI_m1, h0, h1]
  unfold nb
  generalize c % gW g = a at hm ⊢
  generalize c / gW g = b at hd ⊢
  by_cases p1 : 1 ≤ a + x
  · rw [if_pos p1, if_neg (nI_pos (by omega))]
    by_cases p2 : 1 ≤ b + y
    · rw [if_pos p2, if_neg (nI_pos (by omega))]
      by_cases p3 : a + x - 1 < gW g
      · rw [if_neg (nI_ge p3 (by omega))]
        by_cases p4 : b + y - 1 < gD g
        · rw [if_pos (nI_lt p4 (by omega)), if_pos (by omega), pk_mul, nI_add]
          show _ = some (some (Value.int (nI (((b : Int) + ((y : Int) - 1)).toNat * gW g + ((a : Int) + ((x : Int) - 1)).toNat))), _)
          rw [show ((b : Int) + ((y : Int) - 1)).toNat = b + y - 1 by omega, show ((a : Int) + ((x : Int) - 1)).toNat = a + x - 1 by omega]
        · rw [if_neg (nI_nlt (by omega) (by omega)), if_neg (by omega), b_X2_cellAt_24]; rfl
      · rw [if_pos (nI_le (by omega) (by omega)), if_neg (by omega), b_X2_cellAt_24]; rfl
    · rw [if_neg p2, if_pos (by decide), if_neg (by omega), b_X2_cellAt_24]; rfl
  · rw [if_neg p1, if_pos (by decide), if_neg (by omega), b_X2_cellAt_24]; rfl
theorem sx_addHour (Dx : DX g hs gr I) (B : BG g) (hN : gN g < 6) {x y l w : Nat} (hx : x ≤ 2) (hy : y ≤ 2) : am_ev (am_tbl Ls xs) 131 (0, [(0, .ref 3), (1, .int (nI x - 1)), (2, .int (nI y - 1)), (3, .int (nI l)), (4, .int (nI w))], [], (am_sh, rdS I k s q, J)) = some (none, (am_sh, rdS (addH g x y l w I) k s q, J)) := by
  have b1 := bg_1 B
  obtain ⟨a0, a1, a2, a3, a4, a5, a6, a7⟩ := Dx.1
  rw [b_X2_addHour_0, rso (by omega), a3, if_pos (show nI (gN g) < 6 from nI_lt (b := 6) hN (by omega))]
  refine Eq.trans ?_ ((lp (N := gW g * gD g) (f := fun c => am_ev (am_tbl Ls xs) 131 (13, [(0, .ref 3), (1, .int (nI x - 1)), (2, .int (nI y - 1)), (3, .int (nI l)), (4, .int (nI w)), (5, .int (nI c))], [], (am_sh, rdS (wri I (5 + gN g) c (fun c => oI (nb (gW g) (gD g) ((x : Int) - 1) ((y : Int) - 1) c))) k s q, J))) ?_).trans ?_)
  · try dsimp only
    first | (rw [wr_0]; rfl) | rw [wr_0]
  · intro c hc
    have e0 : ∀ j, rdS (wri I (5 + gN g) c (fun c => oI (nb (gW g) (gD g) ((x : Int) - 1) ((y : Int) - 1) c))) k s q 3 j = I 3 j := fun j => (rso (by omega)).trans (wr_out (by omega))
    have e16 : rdS (wri I (5 + gN g) c (fun c => oI (nb (gW g) (gD g) ((x : Int) - 1) ((y : Int) - 1) c))) k s q 16 c = nI (c % gW g) := (rso (by omega)).trans ((wr_out (by omega)).trans (Dx.2.2.2.2.1 c hc).1)
    have e17 : rdS (wri I (5 + gN g) c (fun c => oI (nb (gW g) (gD g) ((x : Int) - 1) ((y : Int) - 1) c))) k s q 17 c = nI (c / gW g) := (rso (by omega)).trans ((wr_out (by omega)).trans (Dx.2.2.2.2.1 c hc).2)
    try dsimp only
    rw [b_X2_addHour_13, e0, e0, a2, a3, if_neg (nI_ge hc (by omega)), if_pos (i_in hN (by omega)), if_pos (i_in (by omega) (by omega)), if_pos (i_in (by omega) (by omega)), nI_clamp (by omega), e16, e17, sx_cellAt3 ((e0 0).trans a0) ((e0 1).trans a1) B hx hy hc, Option.bind_some, am_k_v, b_X2_addHour_55 (g2 := i_in hN (by omega)), if_pos (i_in (by omega) (by omega)), nI_clamp (by omega), nI_clamp (by omega), rsu (by omega), wr_s, i_p1]
  · have e0 : ∀ j, rdS (wri I (5 + gN g) (gW g * gD g) (fun c => oI (nb (gW g) (gD g) ((x : Int) - 1) ((y : Int) - 1) c))) k s q 3 j = I 3 j := fun j => (rso (by omega)).trans (wr_out (by omega))
    try dsimp only
    rw [b_X2_addHour_13, e0, e0, a2, a3, if_pos (nI_le (Nat.le_refl _) (by omega)), if_pos (i_in hN (by omega)), if_pos (i_in hN (by omega)), nI_clamp (by omega), nI_1, rsu (by omega), rsu (by omega), rsu (by omega)]
    rfl
theorem sx_measure {w h : Nat} (h1 : 1 ≤ w) (h2 : w ≤ 9) (h3 : 1 ≤ h) (h4 : h ≤ 9) (h5 : w * h ≤ 48) {Z : Nat → Nat → Int32} : am_ev (am_tbl Ls xs) 129 (0, [(0, .ref 3), (1, .int (nI w)), (2, .int (nI h))], [], (am_sh, Z, J)) = some (none, (am_sh, meas w h Z, J)) := by
  rw [b_X2_measure_0, if_neg (show ¬ nI w < 1 from nI_nlt (b := 1) h1 (by omega)), if_neg (show ¬ nI h < 1 from nI_nlt (b := 1) h3 (by omega)), if_neg (show ¬ 9 < nI w from nI_nlt (a := 9) h2 (by omega)), if_neg (show ¬ 9 < nI h from nI_nlt (a := 9) h4 (by omega)), pk_mul, if_pos (show nI (w * h) ≤ 48 from nI_le (b := 48) h5 (by omega))]
  generalize hY : am_up2 (am_up2 (am_up2 Z 3 0 (nI w)) 3 1 (nI h)) 3 2 (nI (w * h)) = Y
  have hm : meas w h Z = wri (wri Y 16 (w * h) (fun c => nI (c % w))) 17 (w * h) (fun c => nI (c / w)) := by rw [← hY]; rfl
  rw [hm]
  refine Eq.trans ?_ ((lp (N := h) (f := fun y => am_ev (am_tbl Ls xs) 129 (50, [(0, .ref 3), (1, .int (nI w)), (2, .int (nI h)), (3, .int (nI y))], [], (am_sh, wri (wri Y 16 (w * y) (fun c => nI (c % w))) 17 (w * y) (fun c => nI (c / w)), J))) ?_).trans ?_)
  · try dsimp only
    first | (rw [Nat.mul_zero, wr_0, wr_0]; rfl) | rw [Nat.mul_zero, wr_0, wr_0]
  · intro y hy
    try dsimp only
    rw [b_X2_measure_50, if_neg (nI_ge hy (by omega))]
    have hle : w * (y + 1) ≤ w * h := Nat.mul_le_mul_left w hy
    rw [Nat.mul_succ] at hle
    refine (lp (N := w) (f := fun x => am_ev (am_tbl Ls xs) 129 (58, [(0, .ref 3), (1, .int (nI w)), (2, .int (nI h)), (3, .int (nI y)), (4, .int (nI x))], [], (am_sh, wri (wri Y 16 (w * y + x) (fun c => nI (c % w))) 17 (w * y + x) (fun c => nI (c / w)), J))) ?_).trans ?_
    · intro x hx
      have e1 : nI x = (fun c => nI (c % w)) (w * y + x) := by
        show nI x = nI ((w * y + x) % w)
        rw [Nat.mul_add_mod, Nat.mod_eq_of_lt hx]
      have e2 : nI y = (fun c => nI (c / w)) (w * y + x) := by
        show nI y = nI ((w * y + x) / w)
        rw [Nat.mul_add_div (by omega), Nat.div_eq_of_lt hx, Nat.add_zero]
      try dsimp only
      rw [b_X2_measure_58, if_neg (nI_ge hx (by omega)), pk_mul, nI_add, Nat.mul_comm y w, if_pos (i_in (by omega) (by omega)), if_pos (i_in (by omega) (by omega)), nI_clamp (by omega), wr_up (by omega)]
      have e3 : am_up2 (wri Y 16 (w * y + x) (fun c => nI (c % w))) 16 (w * y + x) (nI x) = wri Y 16 (w * y + x + 1) (fun c => nI (c % w)) := by
        rw [e1]; exact wr_s
      rw [e3]
      have e4 : ∀ Y', am_up2 (wri Y' 17 (w * y + x) (fun c => nI (c / w))) 17 (w * y + x) (nI y) = wri Y' 17 (w * y + x + 1) (fun c => nI (c / w)) := fun Y' => by
        rw [e2]; exact wr_s
      rw [e4, i_p1]
      rfl
    · try dsimp only
      rw [b_X2_measure_58, if_pos (nI_le (Nat.le_refl _) (by omega)), i_p1, Nat.mul_succ]
  · try dsimp only
    rw [b_X2_measure_50, if_pos (nI_le (Nat.le_refl _) (by omega))]
theorem meas_rd {w h : Nat} : meas w h (rdS I k s q) = rdS (meas w h I) k s q := by
  unfold meas
  rw [rsu (by omega), rsu (by omega), rsu (by omega), rsw (by omega), rsw (by omega)]
theorem nI_m10 {x : Nat} (h : x < 1000) : nI x - 1 = 0 ↔ x = 1 := by
  rw [nI_m1]
  by_cases q : 1 ≤ x
  · rw [if_pos q, n_eq0 (by omega)]; omega
  · rw [if_neg q]
    exact ⟨fun z => absurd z (by decide), fun z => by omega⟩
theorem sx_sun (X : TX T n I) (Dx : DX g hs gr I) (B : BG g) (hk : k ≤ n) (hF : s.1 = 0) {a : Nat} {s0 s1 s2 s3 s4 s5 s6 : Sf} {k1 k2 k3 k4 k5 x y l w : Nat}
    (e0 : s0 = st s (if 6 ≤ gN g then 3 else 0) (nI a))
    (e1 : s1 = st s0 (nF T n k 0 2) (nI (nQ T n k))) (d1 : k1 = nK T n k) (v1 : x = if s1.1 = 0 then nV T n k else 0)
    (e2 : s2 = st s1 (nF T n k1 0 2) (nI (nQ T n k1))) (d2 : k2 = nK T n k1) (v2 : y = if s2.1 = 0 then nV T n k1 else 0)
    (e3 : s3 = st s2 (if x = 1 ∧ y = 1 then 4 else 0) (nI (nQ T n k1)))
    (e4 : s4 = st s3 (nF T n k2 0 3) (nI (nQ T n k2))) (d3 : k3 = nK T n k2) (v3 : l = if s4.1 = 0 then nV T n k2 else 0)
    (e5 : s5 = st s4 (nF T n k3 0 20) (nI (nQ T n k3))) (d4 : k4 = nK T n k3) (v4 : w = if s5.1 = 0 then nV T n k3 else 0)
    (e6 : s6 = st s5 (eF T n k4) (nI (nQ T n k4))) (d5 : k5 = eK T n k4) :
    am_ev (am_tbl Ls xs) 149 (0, [(0, .ref 1), (1, .ref 3), (2, .int (nI a))], [], (am_sh, rdS I k s q, J)) = some (none, (am_sh, (if s6.1 = 0 then rdS (addH g x y l w I) k5 s6 (nI (nQ T n k3)) else rdS I k5 s6 (nI (nQ T n k3))), J)) := by
  have b1 := bg_1 B
  have l_ : s.1 < 100 := by omega
  have l0 : s0.1 < 100 := by rw [e0]; exact st_lt l_ (by split <;> omega)
  have l1 : s1.1 < 100 := by rw [e1]; exact st_lt l0 (Nat.lt_of_le_of_lt nF_le (by omega))
  have l2 : s2.1 < 100 := by rw [e2]; exact st_lt l1 (Nat.lt_of_le_of_lt nF_le (by omega))
  have l3 : s3.1 < 100 := by rw [e3]; exact st_lt l2 (by split <;> omega)
  have l4 : s4.1 < 100 := by rw [e4]; exact st_lt l3 (Nat.lt_of_le_of_lt nF_le (by omega))
  have l5 : s5.1 < 100 := by rw [e5]; exact st_lt l4 (Nat.lt_of_le_of_lt nF_le (by omega))
  have l6 : s6.1 < 100 := by rw [e6]; exact st_lt l5 (by unfold eF; split <;> omega)
  have hk1 : k1 ≤ n := by rw [d1]; exact nK_le hk
  have hk2 : k2 ≤ n := by rw [d2]; exact nK_le hk1
  have hk3 : k3 ≤ n := by rw [d3]; exact nK_le hk2
  have hk4 : k4 ≤ n := by rw [d4]; exact nK_le hk3
  obtain ⟨a0, a1, a2, a3, a4, a5, a6, a7⟩ := Dx.1
  have hx : x < 1000 := by rw [v1]; split; exact nV_lt; omega
  have hy : y < 1000 := by rw [v2]; split; exact nV_lt; omega
  have h52 : am_ev (am_tbl Ls xs) 149 (52, [(0, .ref 1), (1, .ref 3), (3, .int (nI x - 1)), (4, .int (nI y - 1))], [], (am_sh, rdS I k2 s3 (nI (nQ T n k1)), J)) = some (none, (am_sh, (if s6.1 = 0 then rdS (addH g x y l w I) k5 s6 (nI (nQ T n k3)) else rdS I k5 s6 (nI (nQ T n k3))), J)) ∧ am_ev (am_tbl Ls xs) 149 (52, [(4, .int (nI y - 1)), (3, .int (nI x - 1)), (0, .ref 1), (1, .ref 3)], [], (am_sh, rdS I k2 s3 (nI (nQ T n k1)), J)) = some (none, (am_sh, (if s6.1 = 0 then rdS (addH g x y l w I) k5 s6 (nI (nQ T n k3)) else rdS I k5 s6 (nI (nQ T n k3))), J)) := by
    rw [b_X3_readSun_52, b_X3_readSun_52_2, and_self, sx_numS X hk2 l3 (lo := 0) (hi := 3) (a := 0) (b := 3) rfl rfl (by omega) (by omega) e4 d3 v3, Option.bind_some, am_k_v, b_X3_readSun_58, sx_numS X hk3 l4 (lo := 0) (hi := 20) (a := 0) (b := 20) rfl rfl (by omega) (by omega) e5 d4 v4, Option.bind_some, am_k_v, b_X3_readSun_67, sx_endS X hk4 l5 e6 d5, Option.bind_some, am_k_n, b_X3_readSun_73, rs2]
    by_cases h : s6.1 = 0
    · have z5 : s5.1 = 0 := by rw [e6] at h; exact (st_z h).1
      have z4 : s4.1 = 0 := by rw [e5] at z5; exact (st_z z5).1
      have z3 : s3.1 = 0 := by rw [e4] at z4; exact (st_z z4).1
      have z2 : s2.1 = 0 := by rw [e3] at z3; exact (st_z z3).1
      have z1 : s1.1 = 0 := by rw [e2] at z2; exact (st_z z2).1
      have z0 : s0.1 = 0 := by rw [e1] at z1; exact (st_z z1).1
      have hN : gN g < 6 := by
        rw [e0] at z0
        have := (st_z z0).2
        by_cases w : 6 ≤ gN g
        · rw [if_pos w] at this; omega
        · omega
      have hx2 : x ≤ 2 := by
        rw [v1, if_pos z1]
        rw [e1] at z1
        exact (nF_0 (st_z z1).2).2.2.2
      have hy2 : y ≤ 2 := by
        rw [v2, if_pos z2]
        rw [e2] at z2
        exact (nF_0 (st_z z2).2).2.2.2
      rw [if_neg (show ¬ nI s6.1 ≠ 0 from fun z => z (by rw [h]; rfl)), if_pos h, sx_addHour Dx B hN hx2 hy2, Option.bind_some, am_k_n, b_X3_readSun_91_2]
    · rw [if_pos (show nI s6.1 ≠ 0 from fun z => h ((n_eq0 (by omega)).mp z)), if_neg h, b_X3_readSun_91]
  have h21 : am_ev (am_tbl Ls xs) 149 (21, [(0, .ref 1), (1, .ref 3)], [.int (nI x)], (am_sh, rdS I k1 s1 (nI (nQ T n k)), J)) = some (none, (am_sh, (if s6.1 = 0 then rdS (addH g x y l w I) k5 s6 (nI (nQ T n k3)) else rdS I k5 s6 (nI (nQ T n k3))), J)) := by
    rw [b_X3_readSun_21, sx_numS X hk1 l1 (lo := 0) (hi := 2) (a := 0) (b := 2) rfl rfl (by omega) (by omega) e2 d2 v2, Option.bind_some, am_k_v, b_X3_readSun_30]
    by_cases c1 : x = 1
    · rw [if_neg (show ¬ nI x - 1 ≠ 0 from fun z => z ((nI_m10 hx).mpr c1))]
      by_cases c2 : y = 1
      · rw [if_pos ⟨c1, c2⟩] at e3
        rw [if_neg (show ¬ nI y - 1 ≠ 0 from fun z => z ((nI_m10 hy).mpr c2)), rs3, sx_failS (z := 4) (c := 4) rfl (by omega) l2 e3, Option.bind_some, am_k_n]
        exact h52.2
      · rw [if_neg (fun z => c2 z.2), st_0] at e3
        rw [if_pos (show nI y - 1 ≠ 0 from fun z => c2 ((nI_m10 hy).mp z)), ← e3]
        exact h52.1
    · rw [if_neg (fun z => c1 z.1), st_0] at e3
      rw [if_pos (show nI x - 1 ≠ 0 from fun z => c1 ((nI_m10 hx).mp z)), ← e3]
      exact h52.1
  rw [b_X3_readSun_0, rso (by omega), a3]
  by_cases h : 6 ≤ gN g
  · rw [if_pos h] at e0
    rw [if_neg (show ¬ nI (gN g) < 6 from nI_nlt (b := 6) h (by omega)), sx_failS (z := 3) (c := 3) rfl (by omega) l_ e0, Option.bind_some, am_k_n, b_X3_readSun_15_2, sx_numS X hk l0 (lo := 0) (hi := 2) (a := 0) (b := 2) rfl rfl (by omega) (by omega) e1 d1 v1, Option.bind_some, am_k_v]
    exact h21
  · rw [if_neg h, st_0] at e0
    rw [if_pos (show nI (gN g) < 6 from nI_lt (b := 6) (by omega) (by omega)), b_X3_readSun_15, ← e0, sx_numS X hk l0 (lo := 0) (hi := 2) (a := 0) (b := 2) rfl rfl (by omega) (by omega) e1 d1 v1, Option.bind_some, am_k_v]
    exact h21
theorem sx_groundS (X : TX T n I) (hk : k ≤ n) (hF : s.1 = 0) {a : Nat} (ha : a ≤ k) {s0 s1 s2 s3 s4 : Sf} {k1 k2 k3 w h : Nat}
    (e0 : s0 = st s (if isw T a k 0 = true then 0 else 1) (nI a))
    (e1 : s1 = st s0 (nF T n k 1 9) (nI (nQ T n k))) (d1 : k1 = nK T n k) (v1 : w = if s1.1 = 0 then nV T n k else 1)
    (e2 : s2 = st s1 (nF T n k1 1 9) (nI (nQ T n k1))) (d2 : k2 = nK T n k1) (v2 : h = if s2.1 = 0 then nV T n k1 else 1)
    (e3 : s3 = st s2 (if w * h ≤ 48 then 0 else 2) (nI (nQ T n k1)))
    (e4 : s4 = st s3 (eF T n k2) (nI (nQ T n k2))) (d3 : k3 = eK T n k2) :
    am_ev (am_tbl Ls xs) 147 (0, [(0, .ref 1), (1, .ref 3), (2, .int (nI a))], [], (am_sh, rdS I k s q, J)) = some (none, (am_sh, (if s4.1 = 0 then rdS (meas w h I) k3 s4 (nI (nQ T n k1)) else rdS I k3 s4 (nI (nQ T n k1))), J)) := by
  have l_ : s.1 < 100 := by omega
  have l0 : s0.1 < 100 := by rw [e0]; exact st_lt l_ (by split <;> omega)
  have l1 : s1.1 < 100 := by rw [e1]; exact st_lt l0 (Nat.lt_of_le_of_lt nF_le (by omega))
  have l2 : s2.1 < 100 := by rw [e2]; exact st_lt l1 (Nat.lt_of_le_of_lt nF_le (by omega))
  have l3 : s3.1 < 100 := by rw [e3]; exact st_lt l2 (by split <;> omega)
  have l4 : s4.1 < 100 := by rw [e4]; exact st_lt l3 (by unfold eF; split <;> omega)
  have hk1 : k1 ≤ n := by rw [d1]; exact nK_le hk
  have hk2 : k2 ≤ n := by rw [d2]; exact nK_le hk1
  have hw : w < 1000 := by rw [v1]; split; exact nV_lt; omega
  have hh : h < 1000 := by rw [v2]; split; exact nV_lt; omega
  have hwh : w * h < 1000000 := Nat.lt_of_le_of_lt (Nat.mul_le_mul (Nat.le_of_lt_succ hw) (Nat.le_of_lt_succ hh)) (by decide)
  have h51 : am_ev (am_tbl Ls xs) 147 (51, [(0, .ref 1), (1, .ref 3), (3, .int (nI w)), (4, .int (nI h))], [], (am_sh, rdS I k2 s3 (nI (nQ T n k1)), J)) = some (none, (am_sh, (if s4.1 = 0 then rdS (meas w h I) k3 s4 (nI (nQ T n k1)) else rdS I k3 s4 (nI (nQ T n k1))), J)) ∧ am_ev (am_tbl Ls xs) 147 (51, [(4, .int (nI h)), (3, .int (nI w)), (0, .ref 1), (1, .ref 3)], [], (am_sh, rdS I k2 s3 (nI (nQ T n k1)), J)) = some (none, (am_sh, (if s4.1 = 0 then rdS (meas w h I) k3 s4 (nI (nQ T n k1)) else rdS I k3 s4 (nI (nQ T n k1))), J)) := by
    rw [b_X3_readGround_51, b_X3_readGround_51_2, and_self, sx_endS X hk2 l3 e4 d3, Option.bind_some, am_k_n, b_X3_readGround_55, rs2]
    by_cases c : s4.1 = 0
    · have z3 : s3.1 = 0 := by rw [e4] at c; exact (st_z c).1
      have z2 : s2.1 = 0 := by rw [e3] at z3; exact (st_z z3).1
      have z1 : s1.1 = 0 := by rw [e2] at z2; exact (st_z z2).1
      have h5 : w * h ≤ 48 := by
        rw [e3] at z3
        have := (st_z z3).2
        by_cases y : w * h ≤ 48
        · exact y
        · rw [if_neg y] at this; omega
      have hw9 : 1 ≤ w ∧ w ≤ 9 := by
        rw [v1, if_pos z1]
        rw [e1] at z1
        exact (nF_0 (st_z z1).2).2.2
      have hh9 : 1 ≤ h ∧ h ≤ 9 := by
        rw [v2, if_pos z2]
        rw [e2] at z2
        exact (nF_0 (st_z z2).2).2.2
      rw [if_neg (show ¬ nI s4.1 ≠ 0 from fun z => z (by rw [c]; rfl)), if_pos c, sx_measure hw9.1 hw9.2 hh9.1 hh9.2 h5, Option.bind_some, am_k_n, b_X3_readGround_69_2, meas_rd]
    · rw [if_pos (show nI s4.1 ≠ 0 from fun z => c ((n_eq0 (by omega)).mp z)), if_neg c, b_X3_readGround_69]
  have h23 : am_ev (am_tbl Ls xs) 147 (23, [(0, .ref 1), (1, .ref 3)], [.int (nI w)], (am_sh, rdS I k1 s1 (nI (nQ T n k)), J)) = some (none, (am_sh, (if s4.1 = 0 then rdS (meas w h I) k3 s4 (nI (nQ T n k1)) else rdS I k3 s4 (nI (nQ T n k1))), J)) := by
    rw [b_X3_readGround_23, sx_numS X hk1 l1 (lo := 1) (hi := 9) (a := 1) (b := 9) rfl rfl (by omega) (by omega) e2 d2 v2, Option.bind_some, am_k_v, b_X3_readGround_31, pk_mul]
    by_cases c : w * h ≤ 48
    · rw [if_pos c, st_0] at e3
      rw [if_pos (show nI (w * h) ≤ 48 from nI_le (b := 48) c (by omega)), ← e3]
      exact h51.1
    · rw [if_neg c] at e3
      rw [if_neg (show ¬ nI (w * h) ≤ 48 from nI_ge (a := 48) (by omega) (by omega)), rs3, sx_failS (z := 2) (c := 2) rfl (by omega) l2 e3, Option.bind_some, am_k_n]
      exact h51.2
  have hw0 := sx_word0 (Ls := Ls) (xs := xs) (J := J) (F := s.1) (P := s.2) (q := q) X ha hk
  rw [b_X3_readGround_0]
  show Option.bind (am_ev (am_tbl Ls xs) 158 (0, [(0, .ref 1), (1, .int (nI a)), (2, .ref 1000000)], [], (am_sh, rdM I k s.1 s.2 q, J))) _ = _
  rw [hw0, Option.bind_some, am_k_v, b_X3_readGround_7]
  by_cases c : isw T a k 0 = true
  · rw [if_pos c, st_0] at e0
    rw [c, if_pos (show am_b true ≠ 0 by decide), b_X3_readGround_16]
    show Option.bind (am_ev (am_tbl Ls xs) 153 (0, [(0, .ref 1), (1, .int 1), (2, .int 9)], [], (am_sh, rdS I k s q, J))) _ = _
    rw [← e0, sx_numS X hk l0 (lo := 1) (hi := 9) (a := 1) (b := 9) rfl rfl (by omega) (by omega) e1 d1 v1, Option.bind_some, am_k_v]
    exact h23
  · rw [if_neg c] at e0
    rw [Bool.eq_false_iff.mpr c, if_neg (show ¬ am_b false ≠ 0 by decide)]
    show Option.bind (am_ev (am_tbl Ls xs) 159 (0, [(0, .ref 1), (1, .int 1), (2, .int (nI a))], [], (am_sh, rdS I k s q, J))) _ = _
    rw [sx_failS (z := 1) (c := 1) rfl (by omega) l_ e0, Option.bind_some, am_k_n, b_X3_readGround_16_2, sx_numS X hk l0 (lo := 1) (hi := 9) (a := 1) (b := 9) rfl rfl (by omega) (by omega) e1 d1 v1, Option.bind_some, am_k_v]
    exact h23
theorem sx_lettersS (X : TX T n I) (hk : k ≤ n) : am_ev (am_tbl Ls xs) 156 (0, [(0, .ref 1)], [], (am_sh, rdS I k s q, J)) = some (none, (am_sh, rdS I (lE T n k) s q, J)) := sx_letters X hk
theorem sx_wd0 (X : TX T n I) {a e : Nat} (ha : a ≤ e) (he : e ≤ n) : am_ev (am_tbl Ls xs) 158 (0, [(0, .ref 1), (1, .int (nI a)), (2, .ref 1000000)], [], (am_sh, rdS I e s q, J)) = some (some (.int (am_b (isw T a e 0))), (am_sh, rdS I e s q, J)) := sx_word0 X ha he
theorem sx_wd1 (X : TX T n I) {a e : Nat} (ha : a ≤ e) (he : e ≤ n) : am_ev (am_tbl Ls xs) 158 (0, [(0, .ref 1), (1, .int (nI a)), (2, .ref 1000001)], [], (am_sh, rdS I e s q, J)) = some (some (.int (am_b (isw T a e 1))), (am_sh, rdS I e s q, J)) := sx_word1 X ha he
theorem sx_wd2 (X : TX T n I) {a e : Nat} (ha : a ≤ e) (he : e ≤ n) : am_ev (am_tbl Ls xs) 158 (0, [(0, .ref 1), (1, .int (nI a)), (2, .ref 1000002)], [], (am_sh, rdS I e s q, J)) = some (some (.int (am_b (isw T a e 2))), (am_sh, rdS I e s q, J)) := sx_word2 X ha he
theorem sx_wd3 (X : TX T n I) {a e : Nat} (ha : a ≤ e) (he : e ≤ n) : am_ev (am_tbl Ls xs) 158 (0, [(0, .ref 1), (1, .int (nI a)), (2, .ref 1000003)], [], (am_sh, rdS I e s q, J)) = some (some (.int (am_b (isw T a e 3))), (am_sh, rdS I e s q, J)) := sx_word3 X ha he
theorem sx_wd4 (X : TX T n I) {a e : Nat} (ha : a ≤ e) (he : e ≤ n) : am_ev (am_tbl Ls xs) 158 (0, [(0, .ref 1), (1, .int (nI a)), (2, .ref 1000004)], [], (am_sh, rdS I e s q, J)) = some (some (.int (am_b (isw T a e 4))), (am_sh, rdS I e s q, J)) := sx_word4 X ha he
theorem sx_stm0 (X : TX T n I) (Dx : DX g hs gr I) (hk : k ≤ n) (hW : gW g = 0) {Z : Nat → Nat → Int32} (h : am_ev (am_tbl Ls xs) 147 (0, [(0, .ref 1), (1, .ref 3), (2, .int (nI k))], [], (am_sh, rdS I (lE T n k) s q, J)) = some (none, (am_sh, Z, J))) : am_ev (am_tbl Ls xs) 146 (0, [(0, .ref 1), (1, .ref 3)], [], (am_sh, rdS I k s q, J)) = some (none, (am_sh, Z, J)) := by
  have a2 : I 3 2 = nI 0 := by rw [Dx.1.2.2.1, hW, Nat.zero_mul]
  rw [b_X3_readStatement_0, sx_lettersS X hk, Option.bind_some, am_k_n, rs1, b_X3_readStatement_9, rso (by omega), a2, if_neg (show ¬ nI 0 ≠ 0 from fun z => z rfl), h, Option.bind_some, am_k_n, b_X3_readStatement_22, b_X3_readStatement_121]
theorem sx_stm1 (X : TX T n I) (Dx : DX g hs gr I) (B : BG g) (hk : k ≤ n) (hW : gW g ≠ 0)  (w1 : isw T k (lE T n k) 1 = true) {Z : Nat → Nat → Int32} (h : am_ev (am_tbl Ls xs) 148 (0, [(0, .ref 1), (1, .ref 3), (2, .int (nI k))], [], (am_sh, rdS I (lE T n k) s q, J)) = some (none, (am_sh, Z, J))) : am_ev (am_tbl Ls xs) 146 (0, [(0, .ref 1), (1, .ref 3)], [], (am_sh, rdS I k s q, J)) = some (none, (am_sh, Z, J)) := by
  have b1 := bg_1 B
  have hC : gW g * gD g ≠ 0 := by
    rcases b1.2.2.2.2.2.2 with z | z
    · exact absurd z.1 hW
    · exact Nat.mul_ne_zero (by omega) (by omega)
  have ge : k ≤ lE T n k := sk_ge
  have gl : lE T n k ≤ n := sk_le hk
  have a2 : I 3 2 = nI (gW g * gD g) := Dx.1.2.2.1
  rw [b_X3_readStatement_0, sx_lettersS X hk, Option.bind_some, am_k_n, rs1, b_X3_readStatement_9, rso (by omega), a2, if_pos (show nI (gW g * gD g) ≠ 0 from fun z => hC ((n_eq0 (by omega)).mp z)), sx_wd1 X ge gl, Option.bind_some, am_k_v, b_X3_readStatement_32, w1, if_neg (show ¬ am_b true = 0 by decide), h, Option.bind_some, am_k_n, b_X3_readStatement_41, b_X3_readStatement_121]
theorem sx_stm2 (X : TX T n I) (Dx : DX g hs gr I) (B : BG g) (hk : k ≤ n) (hW : gW g ≠ 0) (w1 : isw T k (lE T n k) 1 = false) (w2 : isw T k (lE T n k) 2 = true) {Z : Nat → Nat → Int32} (h : am_ev (am_tbl Ls xs) 149 (0, [(0, .ref 1), (1, .ref 3), (2, .int (nI k))], [], (am_sh, rdS I (lE T n k) s q, J)) = some (none, (am_sh, Z, J))) : am_ev (am_tbl Ls xs) 146 (0, [(0, .ref 1), (1, .ref 3)], [], (am_sh, rdS I k s q, J)) = some (none, (am_sh, Z, J)) := by
  have b1 := bg_1 B
  have hC : gW g * gD g ≠ 0 := by
    rcases b1.2.2.2.2.2.2 with z | z
    · exact absurd z.1 hW
    · exact Nat.mul_ne_zero (by omega) (by omega)
  have ge : k ≤ lE T n k := sk_ge
  have gl : lE T n k ≤ n := sk_le hk
  have a2 : I 3 2 = nI (gW g * gD g) := Dx.1.2.2.1
  rw [b_X3_readStatement_0, sx_lettersS X hk, Option.bind_some, am_k_n, rs1, b_X3_readStatement_9, rso (by omega), a2, if_pos (show nI (gW g * gD g) ≠ 0 from fun z => hC ((n_eq0 (by omega)).mp z)), sx_wd1 X ge gl, Option.bind_some, am_k_v, b_X3_readStatement_32, w1, if_pos (show am_b false = 0 from rfl), sx_wd2 X ge gl, Option.bind_some, am_k_v, b_X3_readStatement_51, w2, if_neg (show ¬ am_b true = 0 by decide), h, Option.bind_some, am_k_n, b_X3_readStatement_60, b_X3_readStatement_121]
theorem sx_stm3 (X : TX T n I) (Dx : DX g hs gr I) (B : BG g) (hk : k ≤ n) (hW : gW g ≠ 0) (w1 : isw T k (lE T n k) 1 = false) (w2 : isw T k (lE T n k) 2 = false) (w3 : isw T k (lE T n k) 3 = true) {Z : Nat → Nat → Int32} (h : am_ev (am_tbl Ls xs) 150 (0, [(0, .ref 1), (1, .ref 3), (2, .int (nI k))], [], (am_sh, rdS I (lE T n k) s q, J)) = some (none, (am_sh, Z, J))) : am_ev (am_tbl Ls xs) 146 (0, [(0, .ref 1), (1, .ref 3)], [], (am_sh, rdS I k s q, J)) = some (none, (am_sh, Z, J)) := by
  have b1 := bg_1 B
  have hC : gW g * gD g ≠ 0 := by
    rcases b1.2.2.2.2.2.2 with z | z
    · exact absurd z.1 hW
    · exact Nat.mul_ne_zero (by omega) (by omega)
  have ge : k ≤ lE T n k := sk_ge
  have gl : lE T n k ≤ n := sk_le hk
  have a2 : I 3 2 = nI (gW g * gD g) := Dx.1.2.2.1
  rw [b_X3_readStatement_0, sx_lettersS X hk, Option.bind_some, am_k_n, rs1, b_X3_readStatement_9, rso (by omega), a2, if_pos (show nI (gW g * gD g) ≠ 0 from fun z => hC ((n_eq0 (by omega)).mp z)), sx_wd1 X ge gl, Option.bind_some, am_k_v, b_X3_readStatement_32, w1, if_pos (show am_b false = 0 from rfl), sx_wd2 X ge gl, Option.bind_some, am_k_v, b_X3_readStatement_51, w2, if_pos (show am_b false = 0 from rfl), sx_wd3 X ge gl, Option.bind_some, am_k_v, b_X3_readStatement_70, w3, if_neg (show ¬ am_b true = 0 by decide), h, Option.bind_some, am_k_n, b_X3_readStatement_79, b_X3_readStatement_121]
theorem sx_stm4 (X : TX T n I) (Dx : DX g hs gr I) (B : BG g) (hk : k ≤ n) (hW : gW g ≠ 0) (w1 : isw T k (lE T n k) 1 = false) (w2 : isw T k (lE T n k) 2 = false) (w3 : isw T k (lE T n k) 3 = false) (w4 : isw T k (lE T n k) 4 = true) {Z : Nat → Nat → Int32} (h : am_ev (am_tbl Ls xs) 151 (0, [(0, .ref 1), (1, .ref 3), (2, .int (nI k))], [], (am_sh, rdS I (lE T n k) s q, J)) = some (none, (am_sh, Z, J))) : am_ev (am_tbl Ls xs) 146 (0, [(0, .ref 1), (1, .ref 3)], [], (am_sh, rdS I k s q, J)) = some (none, (am_sh, Z, J)) := by
  have b1 := bg_1 B
  have hC : gW g * gD g ≠ 0 := by
    rcases b1.2.2.2.2.2.2 with z | z
    · exact absurd z.1 hW
    · exact Nat.mul_ne_zero (by omega) (by omega)
  have ge : k ≤ lE T n k := sk_ge
  have gl : lE T n k ≤ n := sk_le hk
  have a2 : I 3 2 = nI (gW g * gD g) := Dx.1.2.2.1
  rw [b_X3_readStatement_0, sx_lettersS X hk, Option.bind_some, am_k_n, rs1, b_X3_readStatement_9, rso (by omega), a2, if_pos (show nI (gW g * gD g) ≠ 0 from fun z => hC ((n_eq0 (by omega)).mp z)), sx_wd1 X ge gl, Option.bind_some, am_k_v, b_X3_readStatement_32, w1, if_pos (show am_b false = 0 from rfl), sx_wd2 X ge gl, Option.bind_some, am_k_v, b_X3_readStatement_51, w2, if_pos (show am_b false = 0 from rfl), sx_wd3 X ge gl, Option.bind_some, am_k_v, b_X3_readStatement_70, w3, if_pos (show am_b false = 0 from rfl), sx_wd4 X ge gl, Option.bind_some, am_k_v, b_X3_readStatement_89, w4, if_neg (show ¬ am_b true = 0 by decide), h, Option.bind_some, am_k_n, b_X3_readStatement_98, b_X3_readStatement_121]
theorem sx_stm5 (X : TX T n I) (Dx : DX g hs gr I) (B : BG g) (hk : k ≤ n) (hW : gW g ≠ 0) (hF : s.1 < 100) (w1 : isw T k (lE T n k) 1 = false) (w2 : isw T k (lE T n k) 2 = false) (w3 : isw T k (lE T n k) 3 = false) (w4 : isw T k (lE T n k) 4 = false) : am_ev (am_tbl Ls xs) 146 (0, [(0, .ref 1), (1, .ref 3)], [], (am_sh, rdS I k s q, J)) = some (none, (am_sh, rdS I (lE T n k) (st s (if isw T k (lE T n k) 0 = true then 3 else 1) (nI k)) q, J)) := by
  have b1 := bg_1 B
  have hC : gW g * gD g ≠ 0 := by
    rcases b1.2.2.2.2.2.2 with z | z
    · exact absurd z.1 hW
    · exact Nat.mul_ne_zero (by omega) (by omega)
  have ge : k ≤ lE T n k := sk_ge
  have gl : lE T n k ≤ n := sk_le hk
  have a2 : I 3 2 = nI (gW g * gD g) := Dx.1.2.2.1
  rw [b_X3_readStatement_0, sx_lettersS X hk, Option.bind_some, am_k_n, rs1, b_X3_readStatement_9, rso (by omega), a2, if_pos (show nI (gW g * gD g) ≠ 0 from fun z => hC ((n_eq0 (by omega)).mp z)), sx_wd1 X ge gl, Option.bind_some, am_k_v, b_X3_readStatement_32, w1, if_pos (show am_b false = 0 from rfl), sx_wd2 X ge gl, Option.bind_some, am_k_v, b_X3_readStatement_51, w2, if_pos (show am_b false = 0 from rfl), sx_wd3 X ge gl, Option.bind_some, am_k_v, b_X3_readStatement_70, w3, if_pos (show am_b false = 0 from rfl), sx_wd4 X ge gl, Option.bind_some, am_k_v, b_X3_readStatement_89, w4, if_pos (show am_b false = 0 from rfl), sx_wd0 X ge gl, Option.bind_some, am_k_v, b_X3_readStatement_109]
  by_cases c : isw T k (lE T n k) 0 = true
  · rw [c, if_neg (show ¬ am_b true = 0 by decide), if_pos rfl, b_X3_readStatement_117, sx_failS (z := 3) (c := 3) rfl (by omega) hF rfl, Option.bind_some, am_k_n, b_X3_readStatement_121_2]
  · rw [Bool.eq_false_iff.mpr c, if_pos (show am_b false = 0 from rfl), if_neg (show ¬ false = true by decide), b_X3_readStatement_117, sx_failS (z := 1) (c := 1) rfl (by omega) hF rfl, Option.bind_some, am_k_n, b_X3_readStatement_121_2]
end
