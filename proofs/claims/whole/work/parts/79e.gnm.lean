/-! A NEW GROUND: the reference, and the call -/
def g00 : Vg := ((0, 0, 0, 0, fun _ => 0, fun _ => 0, fun _ => 0, fun _ => 0, fun _ => 0), (fun _ => 0, fun _ => 0, fun _ => 0, 0, fun _ => 0, 0, 0))
theorem bd_00 : BD g00 0 0 :=
  ⟨⟨⟨⟨Nat.zero_le _, Nat.zero_le _, Nat.zero_le _, Nat.zero_le _, Nat.zero_le _, Nat.zero_le _, Or.inl ⟨rfl, rfl, rfl, rfl⟩⟩, fun h hh => absurd hh (Nat.not_lt_zero h), fun p hp => absurd hp (Nat.not_lt_zero p), fun c _ => Nat.zero_le _⟩, fun p hp => absurd hp (Nat.not_lt_zero p), by show ¬ (0 : Int32) < 0; decide⟩, Nat.zero_le _, Nat.zero_le _⟩
def gnd (g g2 : Vg) : Vg := (g2.1, (gH g2, gA g2, fun _ => 0, gR g, fun _ => 0, 0, gE g))
def rG (r : Vr) (p : Int32) : Vr := ((qG r, p, 0, qT r), r.2)
def rN (r : Vr) (q : Nat) : Vr := ((q, -1, 0, qT r), (0, eP r, eC r, eH r), (0, tH r, tS r), (0, bP r, bH r, bS r), (0, i0 r), (0, i1 r))
section
variable {Ls : Nat} {xs : Nat → Int32} {g g2 : Vg} {r : Vr} {hs gr : Nat} {I I' I'' : Nat → Nat → Int32} {J J' : Nat → Nat → Int64}
theorem dm_fin (D : DM g2 hs gr I) (H : BD g2 hs gr) : ∃ I', am_ev (am_tbl Ls xs) 25 (82, [(0, .ref 81), (1, .int 0)], [], (am_sh, I, J)) = some (some (.int (nI (gW g2 * gD g2))), (am_sh, I', J)) ∧ (∀ q j, (q < 81 ∨ (q = 81 ∧ j ≠ 0 ∧ j ≠ 1 ∧ j ≠ 3 ∧ j ≠ 8 ∧ j ≠ 13 ∧ j ≠ 14 ∧ j ≠ 18 ∧ j ≠ 43 ∧ j ≠ 52 ∧ j ≠ 55) ∨ (90 < q ∧ q ≠ 114)) → I' q j = I q j) ∧ (I' 81 0 = nI (gW g2) ∧ I' 81 1 = nI (gD g2) ∧ I' 81 3 = nI (gN g2) ∧ I' 81 8 = nI (gP g2) ∧ I' 81 13 = nI (gr - 1) ∧ I' 81 14 = 0 ∧ I' 81 18 = 0 ∧ I' 81 43 = 0 ∧ I' 81 52 = 0 ∧ I' 81 55 = 0 ∧ I' 114 0 = 0 ∧ I' 114 1 = 0) ∧ (∀ c, c < 48 → I' 82 c = I 92 c) ∧ (∀ k, k < 6 → I' 83 k = I 93 k - 1 ∧ I' 84 k = I 94 k - 1 ∧ I' 85 k = I 95 k ∧ I' 86 k = I 96 k ∧ I' 87 k = I 97 k ∧ I' 88 k = I 98 k ∧ I' 89 k = 0 ∧ I' 90 k = 0) := by
  obtain ⟨⟨a1, a2, a3, a4, a5, a6⟩, -, -, -⟩ := D
  obtain ⟨I1, hI1⟩ : ∃ z, z = am_up2 (am_up2 (am_up2 (am_up2 (am_up2 (am_up2 I 81 18 0) 81 0 (I 81 25)) 81 1 (I 81 26)) 81 3 (I 81 29)) 81 8 (I 81 34)) 81 13 (nI (gr - 1)) := ⟨_, rfl⟩
  have F1 : ∀ q j, (q ≠ 81 ∨ (j ≠ 0 ∧ j ≠ 1 ∧ j ≠ 3 ∧ j ≠ 8 ∧ j ≠ 13 ∧ j ≠ 18)) → I1 q j = I q j := fun q j h => by
    rw [hI1, up_ne (by omega), up_ne (by omega), up_ne (by omega), up_ne (by omega), up_ne (by omega), up_ne (by omega)]
  have e149 : am_ev (am_tbl Ls xs) 25 (82, [(0, .ref 81), (1, .int 0)], [], (am_sh, I, J)) = am_ev (am_tbl Ls xs) 25 (149, [(0, .ref 81), (2, .int 0)], [], (am_sh, I1, J)) := by
    rw [b_X9_ground_82, if_pos (show (0 : Int32) ≤ 0 by decide), a6]
    by_cases h : gr = 0
    · rw [if_pos h, if_neg (show ¬ (0 : Int32) ≤ -1 by decide), b_X9_ground_144, hI1, h]; rfl
    · rw [if_neg h, if_pos (show (0 : Int32) ≤ nI (gr - 1) from ?_), b_X9_ground_144, hI1]
      have hg : gr ≤ 101 := H.2.2
      exact nI_pos' (by omega)
  obtain ⟨I2, ⟨F2, P2⟩, e2⟩ := lpe (N := 48) (f := fun c I' => am_ev (am_tbl Ls xs) 25 (149, [(0, .ref 81), (2, .int (nI c))], [], (am_sh, I', J))) (V := fun c I' => (∀ q j, q ≠ 82 → I' q j = I1 q j) ∧ ∀ c', c' < c → I' 82 c' = I 92 c') (by
    intro c I2 hc ⟨F2, P2⟩
    refine ⟨am_up2 I2 82 c (I 92 c), ⟨fun q j hq => ?_, fun c' hc' => ?_⟩, ?_⟩
    · rw [up_ne (by omega)]; exact F2 q j hq
    · by_cases e : c' = c
      · rw [e, up_eq]
      · rw [up_ne (by omega)]; exact P2 c' (by omega)
    · have e92 : I2 92 c = I 92 c := (F2 _ _ (by omega)).trans (F1 _ _ (by omega))
      try dsimp only
      rw [b_X9_ground_149, if_neg (show ¬ (48 : Int32) ≤ nI c from nI_ge (b := 48) hc (by omega)), if_pos (i_in hc (by omega)), if_pos (i_in hc (by omega)), nI_clamp (by omega), e92, i_p1]) I1 ⟨fun _ _ _ => rfl, fun h hh => absurd hh (Nat.not_lt_zero h)⟩
  obtain ⟨I3, ⟨F3, P3⟩, e3⟩ := lpe (N := 6) (f := fun k I' => am_ev (am_tbl Ls xs) 25 (175, [(0, .ref 81), (2, .int (nI k))], [], (am_sh, I', J))) (V := fun k I' => (∀ q j, (q < 83 ∨ 90 < q) → I' q j = I2 q j) ∧ ∀ k', k' < k → I' 83 k' = I 93 k' - 1 ∧ I' 84 k' = I 94 k' - 1 ∧ I' 85 k' = I 95 k' ∧ I' 86 k' = I 96 k' ∧ I' 87 k' = I 97 k' ∧ I' 88 k' = I 98 k' ∧ I' 89 k' = 0 ∧ I' 90 k' = 0) (by
    intro k I3 hk ⟨F3, P3⟩
    have e9 : ∀ q, 93 ≤ q → q ≤ 98 → I3 q k = I q k := fun q h1 h2 => (F3 _ _ (by omega)).trans ((F2 _ _ (by omega)).trans (F1 _ _ (by omega)))
    refine ⟨am_up2 (am_up2 (am_up2 (am_up2 (am_up2 (am_up2 (am_up2 (am_up2 I3 83 k (I 93 k - 1)) 84 k (I 94 k - 1)) 85 k (I 95 k)) 86 k (I 96 k)) 87 k (I 97 k)) 88 k (I 98 k)) 89 k 0) 90 k 0, ⟨fun q j hq => ?_, fun k' hk' => ?_⟩, ?_⟩
    · rw [up_ne (by omega), up_ne (by omega), up_ne (by omega), up_ne (by omega), up_ne (by omega), up_ne (by omega), up_ne (by omega), up_ne (by omega)]; exact F3 q j hq
    · by_cases e : k' = k
      · rw [e]
        simp (disch := omega) only [up_ne, up_eq, and_self]
      · have := P3 k' (by omega)
        simp (disch := omega) only [up_ne]
        exact this
    · try dsimp only
      rw [b_X9_ground_175, if_neg (show ¬ (6 : Int32) ≤ nI k from nI_ge (b := 6) hk (by omega)), if_pos (i_in hk (by omega)), if_pos (i_in hk (by omega)), if_pos (i_in hk (by omega)), if_pos (i_in hk (by omega)), if_pos (i_in hk (by omega)), if_pos (i_in hk (by omega)), if_pos (i_in hk (by omega)), if_pos (i_in hk (by omega)), if_pos (i_in hk (by omega)), if_pos (i_in hk (by omega)), if_pos (i_in hk (by omega)), if_pos (i_in hk (by omega)), if_pos (i_in hk (by omega)), if_pos (i_in hk (by omega)), nI_clamp (by omega)]
      simp (disch := omega) only [up_ne, e9, i_p1]
      rfl) I2 ⟨fun _ _ _ => rfl, fun h hh => absurd hh (Nat.not_lt_zero h)⟩
  obtain ⟨I4, hI4⟩ : ∃ z, z = am_up2 (am_up2 (am_up2 (am_up2 (am_up2 (am_up2 I3 81 14 0) 81 43 0) 81 52 0) 81 55 0) 114 0 0) 114 1 0 := ⟨_, rfl⟩
  have F4 : ∀ q j, (q ≠ 81 ∨ (j ≠ 14 ∧ j ≠ 43 ∧ j ≠ 52 ∧ j ≠ 55)) ∧ q ≠ 114 → I4 q j = I3 q j := fun q j h => by
    rw [hI4, up_ne (by omega), up_ne (by omega), up_ne (by omega), up_ne (by omega), up_ne (by omega), up_ne (by omega)]
  have c81 : ∀ j, j ≠ 14 ∧ j ≠ 43 ∧ j ≠ 52 ∧ j ≠ 55 → I4 81 j = I1 81 j := fun j h => (F4 _ _ (by omega)).trans ((F3 _ _ (by omega)).trans (F2 _ _ (by omega)))
  have w0 : I4 81 0 = nI (gW g2) := by rw [c81 _ (by omega), hI1]; simp (disch := omega) only [up_ne, up_eq, a1]
  have w1 : I4 81 1 = nI (gD g2) := by rw [c81 _ (by omega), hI1]; simp (disch := omega) only [up_ne, up_eq, a2]
  refine ⟨I4, ?_, fun q j hq => ?_, ⟨w0, w1, ?_, ?_, ?_, ?_, ?_, ?_, ?_, ?_, ?_, ?_⟩, fun c hc => ?_, fun k hk => ?_⟩
  · rw [e149]
    refine Eq.trans e2 ?_
    try dsimp only
    rw [b_X9_ground_149, if_pos (show (48 : Int32) ≤ nI 48 by decide)]
    refine Eq.trans e3 ?_
    try dsimp only
    have hT0 : Int32.toNatClampNeg 0 = 0 := by decide
    have hT1 : Int32.toNatClampNeg 1 = 1 := by decide
    rw [b_X9_ground_175, if_pos (show (6 : Int32) ≤ nI 6 by decide), if_pos (by decide), if_pos (by decide), hT0, hT1, show vp_nar .boolean 0 = 0 from rfl, ← hI4, sp_cells, Option.bind_some, am_k_v, b_X9_ground_315, w0, w1, pk_mul]
  · rcases Nat.lt_or_ge q 83 with z | z
    · by_cases e82 : q = 82
      · omega
      · rw [F4 _ _ (by omega), F3 _ _ (by omega), F2 _ _ (by omega), F1 _ _ (by omega)]
    · rw [F4 _ _ (by omega), F3 _ _ (by omega), F2 _ _ (by omega), F1 _ _ (by omega)]
  · rw [c81 _ (by omega), hI1]; simp (disch := omega) only [up_ne, up_eq, a4]
  · rw [c81 _ (by omega), hI1]; simp (disch := omega) only [up_ne, up_eq, a5]
  · rw [c81 _ (by omega), hI1]; simp (disch := omega) only [up_ne, up_eq]
  · rw [hI4]; simp (disch := omega) only [up_ne, up_eq]
  · rw [c81 _ (by omega), hI1]; simp (disch := omega) only [up_ne, up_eq]
  · rw [hI4]; simp (disch := omega) only [up_ne, up_eq]
  · rw [hI4]; simp (disch := omega) only [up_ne, up_eq]
  · rw [hI4]; simp (disch := omega) only [up_ne, up_eq]
  · rw [hI4]; simp (disch := omega) only [up_ne, up_eq]
  · rw [hI4]; simp (disch := omega) only [up_eq]
  · rw [F4 _ _ (by omega), F3 _ _ (by omega)]; exact P2 c hc
  · have := P3 k hk
    simp (disch := omega) only [F4]
    exact this
theorem sp_clear92 {Y : Nat → Nat → Int32} : am_ev (am_tbl Ls xs) 25 (42, [(0, .ref 81), (1, .int 0)], [], (am_sh, Y, J)) = am_ev (am_tbl Ls xs) 25 (63, [(0, .ref 81), (1, .int 0)], [], (am_sh, wri Y 92 48 (fun _ => 0), J)) := by
  refine Eq.trans ?_ ((lp (N := 48) (f := fun c => am_ev (am_tbl Ls xs) 25 (42, [(0, .ref 81), (1, .int (nI c))], [], (am_sh, wri Y 92 c (fun _ => 0), J))) ?_).trans ?_)
  · try dsimp only
    first | (rw [wr_0]; rfl) | rw [wr_0]
  · intro c hc
    have e : am_up2 (wri Y 92 c (fun _ => 0)) 92 c 0 = wri Y 92 (c + 1) (fun _ => 0) := wr_s (f := fun _ => 0)
    try dsimp only
    rw [b_X9_ground_42, if_neg (show ¬ (48 : Int32) ≤ nI c from nI_ge (b := 48) hc (by omega)), if_pos (i_in hc (by omega)), nI_clamp (by omega), e, i_p1]
  · try dsimp only
    rw [b_X9_ground_42, if_pos (show (48 : Int32) ≤ nI 48 by decide)]
theorem bq_G {p : Int32} (Q : BQ g r) : BQ g (rG r p) := by
  obtain ⟨⟨a1, a2, a3, a4, a5, a6, a7⟩, b1, b2⟩ := Q
  exact ⟨⟨a1, Nat.zero_le _, a3, a4, a5, a6, a7⟩, fun k hk => absurd hk (Nat.not_lt_zero k), b2⟩
theorem qx_G {p : Int32} (e : ∀ q k, xQ q k ∧ 17 < q → I' q k = I q k) (h1 : I' 1 6 = 0) (h2 : I' 1 7 = p) (R : QX g r I) : QX g (rG r p) I' := by
  obtain ⟨⟨a1, a2, a3, a4, a5, a6, a7⟩, b1, b2, b3, b4, ⟨c1, c2⟩, d1, d2⟩ := R
  exact ⟨⟨(e _ _ (by unfold xQ; omega)).trans a1, h2, h1, (e _ _ (by unfold xQ; omega)).trans a4, (e _ _ (by unfold xQ; omega)).trans a5, (e _ _ (by unfold xQ; omega)).trans a6, (e _ _ (by unfold xQ; omega)).trans a7⟩, fun k hk => absurd hk (Nat.not_lt_zero k), fun k h => ⟨(e _ _ (by unfold xQ; omega)).trans (b2 k h).1, (e _ _ (by unfold xQ; omega)).trans (b2 k h).2.1, (e _ _ (by unfold xQ; omega)).trans (b2 k h).2.2⟩, fun k h => ⟨(e _ _ (by unfold xQ; omega)).trans (b3 k h).1, (e _ _ (by unfold xQ; omega)).trans (b3 k h).2⟩, fun k h => ⟨(e _ _ (by unfold xQ; omega)).trans (b4 k h).1, (e _ _ (by unfold xQ; omega)).trans (b4 k h).2.1, (e _ _ (by unfold xQ; omega)).trans (b4 k h).2.2⟩, ⟨(e _ _ (by unfold xQ; omega)).trans c1, (e _ _ (by unfold xQ; omega)).trans c2⟩, fun h => xi_c3 (fun q k _ _ _ => e q k (by unfold xQ; omega)) (d1 h), fun h => xi_c3 (fun q k _ _ _ => e q k (by unfold xQ; omega)) (d2 h)⟩
theorem qm_G {p : Int32} (hP : gP g ≤ 6) (e : ∀ q k, mQ q k ∧ q ≠ 91 ∧ (q ≠ 81 ∨ (k ≠ 18 ∧ k ≠ 19)) → I' q k = I q k) (h1 : I' 81 18 = 0) (h2 : I' 81 19 = p) (R : QM g r I) : QM g (rG r p) I' := by
  obtain ⟨⟨a1, a2, a3, a4, a5, a6⟩, b1, b2, b3, b4, ⟨c1, c2⟩, d1, d2⟩ := R
  exact ⟨⟨(e _ _ (by unfold mQ; omega)).trans a1, h2, h1, (e _ _ (by unfold mQ; omega)).trans a4, (e _ _ (by unfold mQ; omega)).trans a5, (e _ _ (by unfold mQ; omega)).trans a6⟩, fun k hk => absurd hk (Nat.not_lt_zero k), fun k h => ⟨(e _ _ (by unfold mQ; omega)).trans (b2 k h).1, (e _ _ (by unfold mQ; omega)).trans (b2 k h).2.1, (e _ _ (by unfold mQ; omega)).trans (b2 k h).2.2⟩, fun k h => ⟨(e _ _ (by unfold mQ; omega)).trans (b3 k h).1, (e _ _ (by unfold mQ; omega)).trans (b3 k h).2⟩, fun k h => ⟨(e _ _ (by unfold mQ; omega)).trans (b4 k h).1, (e _ _ (by unfold mQ; omega)).trans (b4 k h).2.1, (e _ _ (by unfold mQ; omega)).trans (b4 k h).2.2⟩, ⟨(e _ _ (by unfold mQ; omega)).trans c1, (e _ _ (by unfold mQ; omega)).trans c2⟩, fun h => mi_c3 hP (fun k _ _ => e 113 k (by unfold mQ; omega)) (d1 h), fun h => mi_c3 hP (fun k _ _ => e 113 k (by unfold mQ; omega)) (d2 h)⟩
theorem bq_N {q : Nat} (hq : q ≤ 100) {g' : Vg} : BQ g' (rN r q) :=
  ⟨⟨hq, Nat.zero_le _, Nat.zero_le _, Nat.zero_le _, Nat.zero_le _, Nat.zero_le _, Nat.zero_le _⟩, fun k hk => absurd hk (Nat.not_lt_zero k), fun k hk => absurd hk (Nat.not_lt_zero k), fun k hk => absurd hk (Nat.not_lt_zero k), fun k hk => absurd hk (Nat.not_lt_zero k), fun h => absurd h (by show (0 : Nat) ≠ 1; omega), fun h => absurd h (by show (0 : Nat) ≠ 1; omega)⟩
theorem qx_N {q : Nat} {g' : Vg} (h1 : I' 18 5 = nI q) (h2 : I' 1 7 = -1) (h3 : I' 1 6 = 0) (h4 : I' 49 3 = 0) (h5 : I' 53 3 = 0) (h6 : I' 57 3 = 0) (h7 : I' 80 0 = 0) (h8 : I' 48 0 = 0) (h9 : I' 48 1 = 0) : QX g' (rN r q) I' :=
  ⟨⟨h1, h2, h3, h4, h5, h6, h7⟩, fun k hk => absurd hk (Nat.not_lt_zero k), fun k hk => absurd hk (Nat.not_lt_zero k), fun k hk => absurd hk (Nat.not_lt_zero k), fun k hk => absurd hk (Nat.not_lt_zero k), ⟨h8, h9⟩, fun h => absurd h (by show (0 : Nat) ≠ 1; omega), fun h => absurd h (by show (0 : Nat) ≠ 1; omega)⟩
theorem qm_N {q : Nat} {g' : Vg} (h1 : I' 81 13 = nI q) (h2 : I' 81 19 = -1) (h3 : I' 81 18 = 0) (h4 : I' 81 43 = 0) (h5 : I' 81 52 = 0) (h6 : I' 81 55 = 0) (h8 : I' 114 0 = 0) (h9 : I' 114 1 = 0) : QM g' (rN r q) I' :=
  ⟨⟨h1, h2, h3, h4, h5, h6⟩, fun k hk => absurd hk (Nat.not_lt_zero k), fun k hk => absurd hk (Nat.not_lt_zero k), fun k hk => absurd hk (Nat.not_lt_zero k), fun k hk => absurd hk (Nat.not_lt_zero k), ⟨h8, h9⟩, fun h => absurd h (by show (0 : Nat) ≠ 1; omega), fun h => absurd h (by show (0 : Nat) ≠ 1; omega)⟩
theorem bs_gnd (S : BS g) (H : BD g2 hs gr) : BS (gnd g g2) := by
  obtain ⟨⟨⟨b1, b2, b3, b4⟩, s2, s3⟩, q2, q3⟩ := H
  refine ⟨⟨⟨b1.1, b1.2.1, b1.2.2.1, b1.2.2.2.1, b1.2.2.2.2.1, S.1.1.2.2.2.2.2.1, b1.2.2.2.2.2.2⟩, b2, fun p hp => ?_, b4⟩, s2, S.2.2⟩
  have := b3 p hp
  exact ⟨this.1, this.2.1, Nat.zero_le _, this.2.2.2⟩
theorem pu_ground (H : Inv I J) : StpC Ls xs 77 25 [(0, .ref 0)] [(0, .ref 81)] I J := by
  obtain ⟨g, r, S, Q, ⟨X, XQ, D⟩, ⟨M, MQ, C⟩⟩ := id H
  have B := S.1
  have b1 := bg_1 B
  have hP6 : gP g ≤ 6 := b1.2.2.2.2.1
  have hn : qN r ≤ 500 := Q.1.2.1
  have x3 : I 1 6 = nI (qN r) := XQ.1.2.2.1
  -- the class begins
  obtain ⟨Ic, hIc⟩ : ∃ z, z = wri (am_up2 (am_up2 (am_up2 (am_up2 (am_up2 (am_up2 (am_up2 (am_up2 (am_up2 (am_up2 (am_up2 I 1 1 0) 1 2 0) 1 7 (-1)) 1 4 0) 1 5 0) 3 0 0) 3 1 0) 3 2 0) 3 3 0) 3 4 0) 3 5 0) 15 48 (fun _ => 0) := ⟨_, rfl⟩
  have fc : ∀ q j, (q ≠ 1 ∨ (j ≠ 1 ∧ j ≠ 2 ∧ j ≠ 4 ∧ j ≠ 5 ∧ j ≠ 7)) ∧ q ≠ 3 ∧ q ≠ 15 → Ic q j = I q j := fun q j h => by
    rw [hIc, wr_out (by omega), up_ne (by omega), up_ne (by omega), up_ne (by omega), up_ne (by omega), up_ne (by omega), up_ne (by omega), up_ne (by omega), up_ne (by omega), up_ne (by omega), up_ne (by omega), up_ne (by omega)]
  have c15 : ∀ c, c < 48 → Ic 15 c = 0 := fun c hc => by rw [hIc, wr_in hc]
  have c11 : Ic 1 1 = nI 0 := by rw [hIc, wr_out (by omega)]; simp (disch := omega) only [up_ne, up_eq]; rfl
  have c12 : Ic 1 2 = nI 0 := by rw [hIc, wr_out (by omega)]; simp (disch := omega) only [up_ne, up_eq]; rfl
  have c17 : Ic 1 7 = -1 := by rw [hIc, wr_out (by omega)]; simp (disch := omega) only [up_ne, up_eq]
  have c14 : Ic 1 4 = nI 0 := by rw [hIc, wr_out (by omega)]; simp (disch := omega) only [up_ne, up_eq]; rfl
  have c1_5 : Ic 1 5 = nI 0 := by rw [hIc, wr_out (by omega)]; simp (disch := omega) only [up_ne, up_eq]; rfl
  have c30 : ∀ j, j ≤ 5 → Ic 3 j = nI 0 := fun j hj => by
    have : j = 0 ∨ j = 1 ∨ j = 2 ∨ j = 3 ∨ j = 4 ∨ j = 5 := by omega
    rw [hIc, wr_out (by omega)]
    rcases this with e | e | e | e | e | e <;> subst e <;> simp (disch := omega) only [up_ne, up_eq] <;> rfl
  have DX0 : DX g00 0 0 Ic := ⟨⟨c30 0 (by omega), c30 1 (by omega), c30 2 (by omega), c30 3 (by omega), c30 4 (by omega), c30 5 (by omega), c14, c1_5⟩, fun h c hh _ => absurd hh (Nat.not_lt_zero h), fun h hh => absurd hh (Nat.not_lt_zero h), fun p hp => absurd hp (Nat.not_lt_zero p), fun c hc => absurd hc (Nat.not_lt_zero c), fun c hc => c15 c hc⟩
  have TX0 : TX (qT r) (qN r) Ic := ⟨(fc _ _ (by omega)).trans x3, hn, fun k hk => ⟨(fc _ _ (by omega)).trans (XQ.2.1 k hk), Q.2.1 k hk⟩⟩
  have es : rdS Ic 0 (0, -1) (Ic 1 3) = Ic := rd_self c11 c12 rfl c17
  have e31 : am_ev (am_tbl Ls xs) 145 (0, [(0, .ref 1), (1, .ref 3)], [], (am_sh, I, J)) = am_ev (am_tbl Ls xs) 145 (31, [(0, .ref 1), (1, .ref 3), (2, .int (nI 0))], [], (am_sh, rdS Ic 0 (0, -1) (Ic 1 3), J)) := by
    rw [es, b_X3_readInto_0, sx_clear, Option.bind_some, am_k_n, ← hIc, b_X3_readInto_29]
    rfl
  -- the reference begins, on what the class leaves
  have refB : ∀ (Z : Nat → Nat → Int32) (J : Nat → Nat → Int64), (∀ q j, 81 ≤ q → Z q j = I q j) → ∃ Im v q, am_ev (am_tbl Ls xs) 25 (0, [(0, .ref 81)], [], (am_sh, Z, J)) = am_ev (am_tbl Ls xs) 25 (63, [(0, .ref 81), (1, .int 0)], [], (am_sh, mdM Im 0 (-1) v q, J)) ∧ TM (qT r) (qN r) Im ∧ DM g00 0 0 Im ∧ (∀ q j, (q < 81 ∨ (q = 81 ∧ (j < 19 ∨ 38 ≤ j)) ∨ (81 < q ∧ q ≠ 92)) → Im q j = Z q j) := by
    intro Z J hZ
    obtain ⟨Im, hIm⟩ : ∃ z, z = wri (am_up2 (am_up2 (am_up2 (am_up2 (am_up2 (am_up2 (am_up2 (am_up2 Z 81 19 (-1)) 81 20 0) 81 25 0) 81 26 0) 81 27 0) 81 29 0) 81 34 0) 81 37 (-1)) 92 48 (fun _ => 0) := ⟨_, rfl⟩
    have fm : ∀ q j, (q < 81 ∨ (q = 81 ∧ (j < 19 ∨ 38 ≤ j)) ∨ (81 < q ∧ q ≠ 92)) → Im q j = Z q j := fun q j h => by
      rw [hIm, wr_out (by omega), up_ne (by omega), up_ne (by omega), up_ne (by omega), up_ne (by omega), up_ne (by omega), up_ne (by omega), up_ne (by omega), up_ne (by omega)]
    have v : ∀ j, Im 81 j = (am_up2 (am_up2 (am_up2 (am_up2 (am_up2 (am_up2 (am_up2 (am_up2 Z 81 19 (-1)) 81 20 0) 81 25 0) 81 26 0) 81 27 0) 81 29 0) 81 34 0) 81 37 (-1)) 81 j := fun j => by rw [hIm, wr_out (by omega)]
    have em : mdM Im 0 (-1) (Im 81 23) (Im 81 24) = Im := md_self (by rw [v]; simp (disch := omega) only [up_ne, up_eq]; rfl) (by rw [v]; simp (disch := omega) only [up_ne, up_eq]) rfl rfl
    refine ⟨Im, Im 81 23, Im 81 24, ?_, ⟨?_, hn, fun k hk => ⟨?_, Q.2.1 k hk⟩⟩, ⟨⟨?_, ?_, ?_, ?_, ?_, ?_⟩, fun h hh => absurd hh (Nat.not_lt_zero h), fun p hp => absurd hp (Nat.not_lt_zero p), fun c hc => ?_⟩, fm⟩
    · rw [em, b_X9_ground_0, sp_clear92, ← hIm]
    · rw [fm _ _ (by omega), hZ _ _ (by omega)]; exact MQ.1.2.2.1
    · rw [fm _ _ (by omega), hZ _ _ (by omega)]; exact MQ.2.1 k hk
    · rw [v]; simp (disch := omega) only [up_ne, up_eq]; rfl
    · rw [v]; simp (disch := omega) only [up_ne, up_eq]; rfl
    · rw [v]; simp (disch := omega) only [up_ne, up_eq]; rfl
    · rw [v]; simp (disch := omega) only [up_ne, up_eq]; rfl
    · rw [v]; simp (disch := omega) only [up_ne, up_eq]; rfl
    · rw [v]; simp (disch := omega) only [up_ne, up_eq]; rfl
    · rw [hIm, wr_in hc]; rfl
  rcases ls_loop (Ls := Ls) (xs := xs) hn Q.2.1 (qN r) 0 g00 0 0 (by omega) (by omega) bd_00 with ⟨F, p, hF, hF2, hX, hM⟩ | ⟨g2, hs2, gr2, hB, hX, hM⟩
  · obtain ⟨I', k', q', e1, hf⟩ := hX 0 Ic J (Ic 1 3) (Nat.le_refl 0) TX0 DX0
    obtain ⟨I1, hI1⟩ : ∃ z, z = am_up2 (rdS I' k' (F, p) q') 1 6 0 := ⟨_, rfl⟩
    have f1 : ∀ q j, 17 < q → I1 q j = I q j := fun q j h => by
      rw [hI1, up_ne (by omega), rso (by omega), hf _ _ (by omega), fc _ _ (by omega)]
    have M1 : InM g r I1 := inm_x (fun q j h => f1 q j (by omega)) ⟨M, MQ, C⟩
    obtain ⟨Im, v, q, e2, TM0, DM0, fm⟩ := refB I1 J (fun q j h => f1 q j (by omega))
    obtain ⟨I'', J2, e3, h19, hf2, hj⟩ := hM Im J v q TM0 DM0
    obtain ⟨I2, hI2⟩ : ∃ z, z = am_up2 I'' 81 18 0 := ⟨_, rfl⟩
    have f2 : ∀ q j, (q < 81 ∨ (q = 81 ∧ (j < 18 ∨ 38 < j)) ∨ (81 < q ∧ q < 92) ∨ 98 < q) → I2 q j = I1 q j := fun q j h => by
      rw [hI2, up_ne (by omega), hf2 _ _ (by omega), fm _ _ (by omega)]
    have XX : RX g I1 := rx_cong B (fun q k h => f1 q k (by unfold xS at h; omega)) X
    have XQ1 : QX g (rG r p) I1 := qx_G (fun q k h => f1 q k h.2) (by rw [hI1, up_eq]) (by rw [hI1, up_ne (by omega)]; rfl) XQ
    have X2 : InX g (rG r p) I2 J2 := inx_m B (fun q k h => f2 q k (by omega)) hj ⟨XX, XQ1, D⟩
    have M2 : InM g (rG r p) I2 := ⟨rm_cong (fun q k h => f2 q k (by unfold mS at h; omega)) M1.1, qm_G hP6 (fun q k h => f2 q k (by unfold mQ at h; omega)) (by rw [hI2, up_eq]) (by rw [hI2, up_ne (by omega)]; exact h19) M1.2.1, m0_cong (fun q k h => f2 q k (by unfold m4 at h; omega)) M1.2.2⟩
    refine ⟨(-10) - nI F, I1, J, I2, J2, ?_, ?_, ⟨g, rG r p, S, bq_G Q, X2, M2⟩⟩
    · rw [b_X8_ground_0, e31, e1, Option.bind_some, am_k_v, b_X8_ground_11, if_neg (show ¬ nI F = 0 from fun z => hF ((n_eq0 (by omega)).mp z)), hI1]
    · rw [e2, e3, hI2]
  · obtain ⟨I', k', q', e1, D', hf⟩ := hX 0 Ic J (Ic 1 3) (Nat.le_refl 0) TX0 DX0
    obtain ⟨I1, hI1⟩ : ∃ z, z = am_up2 (rdS I' k' (0, -1) q') 1 6 0 := ⟨_, rfl⟩
    have f1 : ∀ q j, 17 < q → I1 q j = I q j := fun q j h => by
      rw [hI1, up_ne (by omega), rso (by omega), hf _ _ (by omega), fc _ _ (by omega)]
    have d1 : ∀ q j, q ≠ 1 → I1 q j = I' q j := fun q j h => by
      rw [hI1, up_ne (by omega), rso h]
    have BB := hB.1.1
    have q1 := bg_1 BB
    have S' := bs_gnd S hB
    have B' := S'.1
    obtain ⟨I2, ec, F2, C18, Ch, Cp, Cc⟩ := sx_copy (Ls := Ls) (xs := xs) (I := I1) (J := J)
    obtain ⟨I3, eb, F3, Bp, Bc, B4⟩ := sx_begin (Ls := Ls) (xs := xs) (I := I2) (J := J)
    obtain ⟨⟨a0, a1, a2, a3, a4, a5, a6, a7⟩, bn, bh, bp, bc, bo⟩ := D'
    have g18 : ∀ j, j ≤ 5 → I3 18 j = I' 3 j := fun j hj => (F3 _ _ (by omega)).trans ((C18 j hj).trans (d1 _ _ (by omega)))
    have R3 : RX (gnd g g2) I3 := by
      refine ⟨⟨(g18 0 (by omega)).trans a0, (g18 1 (by omega)).trans a1, (g18 2 (by omega)).trans a2, (g18 3 (by omega)).trans a3, (g18 4 (by omega)).trans a4⟩, fun h c hh hc => ?_, fun h hh => ?_, fun p hp => ?_, fun c hc => ?_, fun c hc => ?_, fun p hp => ?_, B4, ?_, ?_⟩
      · have hh' : h < gN g2 := hh
        have hc' : c < gW g2 * gD g2 := hc
        rw [F3 _ _ (by omega), (Ch h (by omega)).2.2 c (by omega), d1 _ _ (by omega)]; exact bn h c hh' hc'
      · have hh' : h < gN g2 := hh
        rw [F3 _ _ (by omega), F3 _ _ (by omega), (Ch h (by omega)).1, (Ch h (by omega)).2.1, d1 _ _ (by omega), d1 _ _ (by omega)]; exact bh h hh'
      · have hp' : p < gP g2 := hp
        rw [F3 _ _ (by omega), (Cp p (by omega)).2, d1 _ _ (by omega)]; exact (bp p hp').2
      · have hc' : c < gW g2 * gD g2 := hc
        rw [F3 _ _ (by omega), F3 _ _ (by omega), (Cc c (by omega)).2.1, (Cc c (by omega)).2.2, d1 _ _ (by omega), d1 _ _ (by omega)]; exact bc c hc'
      · rw [Bc c hc, (Cc c hc).1, d1 _ _ (by omega)]; exact bo c hc
      · have hp' : p < gP g2 := hp
        have := Bp p (by omega)
        refine ⟨?_, this.2.1, this.2.2⟩
        rw [this.1, (Cp p (by omega)).1, d1 _ _ (by omega)]; exact (bp p hp').1
      · rw [F3 _ _ (by omega), F2 _ _ (by omega), f1 _ _ (by omega)]; exact rx_R (g := g) X
      · rw [F3 _ _ (by omega), F2 _ _ (by omega), f1 _ _ (by omega)]; exact rx_E (g := g) X
    have ed := sx_darken (Ls := Ls) (xs := xs) (J := J) R3 B'
    obtain ⟨J5, hJ5⟩ : ∃ z, z = wri J 62 (gN (gnd g g2)) (dk (gnd g g2)) := ⟨_, rfl⟩
    rw [← hJ5] at ed
    have en := sx_notes (Ls := Ls) (xs := xs) (I := I3) (J := J5)
    obtain ⟨I4, hI4⟩ : ∃ z, z = am_up2 (am_up2 (am_up2 I3 49 3 0) 53 3 0) 57 3 0 := ⟨_, rfl⟩
    rw [← hI4] at en
    obtain ⟨I5, hI5⟩ : ∃ z, z = am_up2 (am_up2 I4 48 0 0) 48 1 0 := ⟨_, rfl⟩
    have f5 : ∀ q j, (q < 48 ∨ 57 < q) → I5 q j = I3 q j := fun q j h => by
      rw [hI5, up_ne (by omega), up_ne (by omega), hI4, up_ne (by omega), up_ne (by omega), up_ne (by omega)]
    have f50 : ∀ q j, 57 < q → I5 q j = I q j := fun q j h => (f5 _ _ (by omega)).trans ((F3 _ _ (by omega)).trans ((F2 _ _ (by omega)).trans (f1 _ _ (by omega))))
    have k5 : ∀ q j, q = 1 → I5 q j = I1 q j := fun q j h => (f5 _ _ (by omega)).trans ((F3 _ _ (by omega)).trans (F2 _ _ (by omega)))
    have R5 : RX (gnd g g2) I5 := rx_cong B' (fun q k h => f5 q k (by unfold xS at h; omega)) R3
    have Q5 : QX (gnd g g2) (rN r (gr2 - 1)) I5 := qx_N ((f5 _ _ (by omega)).trans ((g18 5 (by omega)).trans a5)) (by rw [k5 _ _ rfl, hI1, up_ne (by omega)]; rfl) (by rw [k5 _ _ rfl, hI1, up_eq]) (by rw [hI5, up_ne (by omega), up_ne (by omega), hI4, up_ne (by omega), up_ne (by omega), up_eq]) (by rw [hI5, up_ne (by omega), up_ne (by omega), hI4, up_ne (by omega), up_eq]) (by rw [hI5, up_ne (by omega), up_ne (by omega), hI4, up_eq]) ((f50 _ _ (by omega)).trans XQ.1.2.2.2.2.2.2) (by rw [hI5, up_ne (by omega), up_eq]) (by rw [hI5, up_eq])
    have D5 : RD (gnd g g2) J5 := fun h hh => by rw [hJ5]; exact wr_in hh
    have M5 : InM g r I5 := inm_x (fun q j h => f50 q j (by omega)) ⟨M, MQ, C⟩
    obtain ⟨Im, v, q, e2, TM0, DM0, fm⟩ := refB I5 J5 (fun q j h => f50 q j (by omega))
    obtain ⟨I6, J6, e3, D6, h19, hf2, hj⟩ := hM Im J5 v q TM0 DM0
    obtain ⟨I7, e4, f7, ⟨w0, w1, w3, w8, w13, w14, w18, w43, w52, w55, wk0, wk1⟩, wH, wK⟩ := dm_fin (Ls := Ls) (xs := xs) (J := J6) D6 hB
    have f75 : ∀ q j, (q < 81 ∨ (q = 81 ∧ (j = 15 ∨ j = 16 ∨ j = 39 ∨ j = 40))) → I7 q j = I5 q j := fun q j h => by
      rw [f7 _ _ (by omega), hf2 _ _ (by omega), fm _ _ (by omega)]
    have hg2 : gr2 ≤ 101 := hB.2.2
    have X7 : InX (gnd g g2) (rN r (gr2 - 1)) I7 J6 := inx_m B' (fun q k h => f75 q k (by omega)) hj ⟨R5, Q5, D5⟩
    have R7 : RM (gnd g g2) I7 := by
      refine ⟨⟨w0, w1, w3, w8⟩, fun h hh => ?_, fun p hp => ?_, fun c hc => ?_, fun p hp => ?_, w14, ?_, ?_⟩
      · have hh' : h < gN g2 := hh
        have hh6 : h < 6 := by omega
        have t := wK h hh6
        have u := D6.2.1 h hh'
        have bb := bg_h BB hh'
        refine ⟨?_, ?_, ?_, ?_⟩
        · rw [t.1, i_sub (by rw [u.1, i_1]; omega) (by rw [u.1, i_1]; omega), u.1, i_1]
          show gX g2 h + 1 - 1 = gX g2 h
          omega
        · rw [t.2.1, i_sub (by rw [u.2.1, i_1]; omega) (by rw [u.2.1, i_1]; omega), u.2.1, i_1]
          show gY g2 h + 1 - 1 = gY g2 h
          omega
        · rw [t.2.2.1]; exact u.2.2.1
        · rw [t.2.2.2.1]; exact u.2.2.2
      · have hp' : p < gP g2 := hp
        have t := wK p (by omega)
        rw [t.2.2.2.2.2.1]; exact (D6.2.2.1 p hp').2
      · rw [wH c hc]; exact D6.2.2.2 c hc
      · have hp' : p < gP g2 := hp
        have t := wK p (by omega)
        refine ⟨?_, t.2.2.2.2.2.2.1, t.2.2.2.2.2.2.2⟩
        rw [t.2.2.2.2.1]; exact (D6.2.2.1 p hp').1
      · rw [f75 _ _ (by omega)]; exact rm_R (g := g) M5.1
      · rw [f75 _ _ (by omega)]; exact rm_E (g := g) M5.1
    have Q7 : QM (gnd g g2) (rN r (gr2 - 1)) I7 := qm_N w13 (by rw [f7 _ _ (by omega)]; exact h19) w18 w43 w52 w55 wk0 wk1
    refine ⟨nI (gW g2 * gD g2), I5, J5, I7, J6, ?_, ?_, ⟨gnd g g2, rN r (gr2 - 1), S', bq_N (by omega), X7, ⟨R7, Q7, m0_cong (fun q k h => f75 q k (by unfold m4 at h; omega)) M5.2.2⟩⟩⟩
    · have h18 : I5 18 2 = nI (gW g2 * gD g2) := (f5 _ _ (by omega)).trans ((g18 2 (by omega)).trans a2)
      rw [b_X8_ground_0, e31, e1, Option.bind_some, am_k_v, b_X8_ground_11, if_pos rfl, ← hI1, ec, Option.bind_some, am_k_n, b_X8_ground_32, eb, Option.bind_some, am_k_n, b_X8_ground_43, ed, Option.bind_some, am_k_n, b_X8_ground_50, en, Option.bind_some, am_k_n, b_X8_ground_54]
      have hT0 : Int32.toNatClampNeg 0 = 0 := by decide
      have hT1 : Int32.toNatClampNeg 1 = 1 := by decide
      rw [b_X8_ground_56, if_neg (show ¬ (2 : Int32) ≤ 0 by decide), if_pos (show ¬ ((0 : Int32) < 0 ∨ 2 ≤ Int32.toNatClampNeg 0) by decide), hT0, show (0 : Int32) + Int32.ofInt 1 = 1 by decide, b_X8_ground_56, if_neg (show ¬ (2 : Int32) ≤ 1 by decide), if_pos (show ¬ ((1 : Int32) < 0 ∨ 2 ≤ Int32.toNatClampNeg 1) by decide), hT1, show (1 : Int32) + Int32.ofInt 1 = 2 by decide, b_X8_ground_56, if_pos (show (2 : Int32) ≤ 2 by decide), ← hI5, h18]
    · rw [e2, e3, e4]
end
