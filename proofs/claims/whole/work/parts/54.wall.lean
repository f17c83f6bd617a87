/-! WALLS; WHERE SOMEBODY STOOD -/
def wfr (g : Vg) (c : Nat) : Bool := decide (gH g c = 0) && !anyb (fun p => decide (gA g p = c)) (gP g)
def wlf (g : Vg) (t : Nat) (o : Option Nat) (c : Nat) : Nat := match o with
  | none => mnA (setH g (fset (gH g) c t))
  | some p => mnP (setH g (fset (gH g) c t)) p
theorem wlf_le {g : Vg} (B : BG g) {t : Nat} (ht : t ≤ 9) {o : Option Nat} {c : Nat} : wlf g t o c ≤ 34560 := by
  unfold wlf
  cases o with
  | none => exact mnA_le (bg_setH B ht) (Nat.le_refl _)
  | some p => exact Nat.le_trans (mnP_le (bg_setH B ht)) (by omega)
theorem wfr_iff {g : Vg} {c : Nat} : wfr g c = true ↔ gH g c = 0 ∧ ∀ p, p < gP g → gA g p ≠ c := by
  unfold wfr
  rw [Bool.and_eq_true_iff, decide_eq_true_eq]
  constructor
  · rintro ⟨h1, h2⟩
    refine ⟨h1, fun p hp e => ?_⟩
    have : anyb (fun p => decide (gA g p = c)) (gP g) = true := anyb_iff.mpr ⟨p, hp, decide_eq_true e⟩
    rw [this] at h2; cases h2
  · rintro ⟨h1, h2⟩
    refine ⟨h1, ?_⟩
    cases hx : anyb (fun p => decide (gA g p = c)) (gP g)
    · rfl
    · obtain ⟨p, h3, h4⟩ := anyb_iff.mp hx
      exact absurd (of_decide_eq_true h4) (h2 p h3)
section
variable {Ls : Nat} {xs : Nat → Int32} {g : Vg} {r : Vr} {I I' : Nat → Nat → Int32} {J : Nat → Nat → Int64}
theorem sx_isFree (X : RX g I) (B : BG g) {c : Nat} (hc : c < gW g * gD g) : am_ev (am_tbl Ls xs) 119 (0, [(0, .ref 63), (1, .int (nI c))], [], (am_sh, I, J)) = some (some (.int (am_b (wfr g c))), (am_sh, I, J)) := by
  have b1 := bg_1 B
  have b3 := bg_H B (show c < 48 by omega)
  obtain ⟨b, hb1, hb2⟩ := sx_somebody (Ls := Ls) (xs := xs) (J := J) X B (show c < 1000 by omega)
  have hb : b = anyb (fun p => decide (gA g p = c)) (gP g) := bool_eq (by
    rw [hb2, anyb_iff]
    exact ⟨fun ⟨p, h1, h2⟩ => ⟨p, h1, decide_eq_true h2⟩, fun ⟨p, h1, h2⟩ => ⟨p, h1, of_decide_eq_true h2⟩⟩)
  simp (disch := omega) only [b_X1_isFree_0, b_X1_isFree_8, b_X1_isFree_38, b_X1_isFree_31, b_X1_isFree_39, Option.bind_some, am_k_v, am_k_n, ↓n_in, nI_clamp, i_p1, nI_leI, nI_ltI, nI_eq, n_lt0, n_le0, n_eq0, n_gt0, n_lm, n_em, n_me, n_mlt, false_or, or_false, true_or, or_true, false_and, and_false, true_and, and_true, not_false_eq_true, not_true_eq_false, if_true, if_false, if_pos, if_neg, am_b01, am_b0, am_b1, ne_eq, eq_self, reduceCtorEq, rng_t, Bool.and_true, Bool.and_false, Bool.true_and, Bool.false_and, ite_rgI, if_pos rfl, bft, sx_hasCell' X B, decide_eq_false_iff_not, rx_H X, hb1]
  unfold wfr
  rw [← hb]
  by_cases h0 : gH g c = 0
  · rw [if_neg (by intro q; exact q h0), decide_eq_true h0]
    cases b <;> simp [am_b]
  · rw [if_pos h0, decide_eq_false h0]
    simp [am_b]
theorem sp_isFree (M : RM g I) (B : BG g) {c : Nat} (hc : c < gW g * gD g) : am_ev (am_tbl Ls xs) 62 (0, [(0, .ref 81), (1, .int (nI c))], [], (am_sh, I, J)) = some (some (.int (am_b (wfr g c))), (am_sh, I, J)) := by
  have b1 := bg_1 B
  have b3 := bg_H B (show c < 48 by omega)
  simp (disch := omega) only [b_X9_isFree_0, b_X9_isFree_21, b_X9_isFree_14, b_X9_isFree_22, Option.bind_some, am_k_v, am_k_n, ↓n_in, nI_clamp, i_p1, nI_leI, nI_ltI, nI_eq, n_lt0, n_le0, n_eq0, n_gt0, n_lm, n_em, n_me, n_mlt, false_or, or_false, true_or, or_true, false_and, and_false, true_and, and_true, not_false_eq_true, not_true_eq_false, if_true, if_false, if_pos, if_neg, am_b01, am_b0, am_b1, ne_eq, eq_self, reduceCtorEq, rng_t, Bool.and_true, Bool.and_false, Bool.true_and, Bool.false_and, ite_rgI, if_pos rfl, bft, rm_H M, sp_somebody M B]
  unfold wfr
  by_cases h0 : gH g c = 0
  · rw [if_neg (by intro q; exact q h0), decide_eq_true h0]
    cases anyb (fun p => decide (gA g p = c)) (gP g) <;> simp [am_b]
  · rw [if_pos h0, decide_eq_false h0]
    simp [am_b]
/-- a wall put up and taken away: the shadows are as they were -/
theorem sx_behind (X : RX g I) (B : BG g) (D : RD g J) {c t : Nat} (hc : c < gW g * gD g) (h0 : gH g c = 0) (ht : t ≤ 9) {o : Option Nat} (ho : ∀ p, o = some p → p < gP g) : am_ev (am_tbl Ls xs) 121 (0, [(0, .ref 63), (1, .int (nI c)), (2, .int (nI t)), (3, .int (oI o))], [], (am_sh, I, J)) = some (some (.int (nI (wlf g t o c))), (am_sh, I, J)) := by
  have b1 := bg_1 B
  have X' := rx_setH (p := c) (c := t) X B
  have B' := bg_setH (c := c) B ht
  have D' : RD (setH g (fset (gH g) c t)) (wri J 62 (gN g) (dk (setH g (fset (gH g) c t)))) := rd_darken (g := setH g (fset (gH g) c t))
  have eJ : wri (wri J 62 (gN g) (dk (setH g (fset (gH g) c t)))) 62 (gN g) (dk g) = J := by rw [wr_wr, wr_same (fun j hj => D j hj)]
  have eI : am_up2 (am_up2 I 37 c (nI t)) 37 c (nI 0) = I := by
    rw [up_up, show nI 0 = I 37 c by rw [rx_H X (show c < 48 by omega), h0], up_self]
  have fin : ∀ s : Int32, am_ev (am_tbl Ls xs) 121 (64, [(0, .ref 63), (1, .int (nI c)), (4, .int (nI 0))], [.int s], (am_sh, am_up2 I 37 c (nI t), wri J 62 (gN g) (dk (setH g (fset (gH g) c t))))) = some (some (.int s), (am_sh, I, J)) := by
    intro s
    rw [b_X1_meanBehind_64_2]
    simp (disch := omega) only [Option.bind_some, am_k_v, am_k_n, ↓n_in, nI_clamp, i_p1, nI_leI, nI_ltI, nI_eq, n_lt0, n_le0, n_eq0, n_gt0, n_lm, n_em, n_me, n_mlt, false_or, or_false, true_or, or_true, false_and, and_false, true_and, and_true, not_false_eq_true, not_true_eq_false, if_true, if_false, if_pos, if_neg, am_b01, am_b0, am_b1, ne_eq, eq_self, reduceCtorEq, rng_t, Bool.and_true, Bool.and_false, Bool.true_and, Bool.false_and, ite_rgI, if_pos rfl]
    rw [eI, sx_darken X B, Option.bind_some, am_k_n, b_X1_meanBehind_84, eJ]
  have fin2 : ∀ (s a2 a3 : Int32), am_ev (am_tbl Ls xs) 121 (64, [(4, .int (nI 0)), (0, .ref 63), (1, .int (nI c)), (2, .int a2), (3, .int a3)], [.int s], (am_sh, am_up2 I 37 c (nI t), wri J 62 (gN g) (dk (setH g (fset (gH g) c t))))) = some (some (.int s), (am_sh, I, J)) := by
    intro s a2 a3
    rw [b_X1_meanBehind_64]
    simp (disch := omega) only [Option.bind_some, am_k_v, am_k_n, ↓n_in, nI_clamp, i_p1, nI_leI, nI_ltI, nI_eq, n_lt0, n_le0, n_eq0, n_gt0, n_lm, n_em, n_me, n_mlt, false_or, or_false, true_or, or_true, false_and, and_false, true_and, and_true, not_false_eq_true, not_true_eq_false, if_true, if_false, if_pos, if_neg, am_b01, am_b0, am_b1, ne_eq, eq_self, reduceCtorEq, rng_t, Bool.and_true, Bool.and_false, Bool.true_and, Bool.false_and, ite_rgI, if_pos rfl]
    rw [eI, sx_darken X B, Option.bind_some, am_k_n, b_X1_meanBehind_84, eJ]
  simp (disch := omega) only [b_X1_meanBehind_0, b_X1_meanBehind_8, Option.bind_some, am_k_v, am_k_n, ↓n_in, nI_clamp, i_p1, nI_leI, nI_ltI, nI_eq, n_lt0, n_le0, n_eq0, n_gt0, n_lm, n_em, n_me, n_mlt, false_or, or_false, true_or, or_true, false_and, and_false, true_and, and_true, not_false_eq_true, not_true_eq_false, if_true, if_false, if_pos, if_neg, am_b01, am_b0, am_b1, ne_eq, eq_self, reduceCtorEq, rng_t, Bool.and_true, Bool.and_false, Bool.true_and, Bool.false_and, ite_rgI, if_pos rfl, sx_hasCell' X B, decide_eq_false_iff_not, rx_H X, h0, x_put X B ht, b_X1_meanBehind_41]
  cases o with
  | none =>
    rw [if_neg (by simp [oI]), sx_meanOfAll X' B' D', Option.bind_some, am_k_v, b_X1_meanBehind_53, fin]
    rfl
  | some p =>
    have hp := ho p rfl
    rw [if_pos (show ¬ oI (some p) = -1 from fun q => (n_em (show p < 2147483648 by omega)).mp q)]
    have hm := sx_meanOf (Ls := Ls) (xs := xs) X' B' D' (show p < gP (setH g (fset (gH g) c t)) from hp)
    show Option.bind (am_ev (am_tbl Ls xs) 178 (0, [(0, .ref 61), (1, .int (nI p))], [], (am_sh, am_up2 I 37 c (nI t), wri J 62 (gN g) (dk (setH g (fset (gH g) c t)))))) _ = _
    rw [hm, Option.bind_some, am_k_v, fin2]
    rfl
theorem pu_wall (H : Inv I J) (x y a : Int32) : StpC Ls xs 93 63 [(0, .ref 0), (1, .int x), (2, .int y), (3, .int a)] [(0, .ref 81), (1, .int x), (2, .int y), (3, .int a)] I J := by
  obtain ⟨g, r, S, Q, ⟨X, XQ, D⟩, ⟨M, MQ, C⟩⟩ := id H
  have B := S.1
  have b1 := bg_1 B
  by_cases hxy : rng (gW g) x = false ∨ rng (gD g) y = false
  · refine stp_pure H (v := -1000000001) ?_ ?_
    · simp (disch := omega) only [b_X8_wall_0, b_X8_wall_9, b_X8_wall_31, Option.bind_some, am_k_v, am_k_n, ↓n_in, nI_clamp, i_p1, nI_leI, nI_ltI, nI_eq, n_lt0, n_le0, n_eq0, n_gt0, n_lm, n_em, n_me, n_mlt, false_or, or_false, true_or, or_true, false_and, and_false, true_and, and_true, not_false_eq_true, not_true_eq_false, if_true, if_false, if_pos, if_neg, am_b01, am_b0, am_b1, ne_eq, eq_self, reduceCtorEq, rng_t, Bool.and_true, Bool.and_false, Bool.true_and, Bool.false_and, ite_rgI, if_pos rfl, sx_cellAtF X B hxy]
    · have : (rng (gW g) x && rng (gD g) y) = false := by rcases hxy with q | q <;> rw [q] <;> simp
      simp (disch := omega) only [b_X9_wall_0, b_X9_wall_6, b_X9_wall_22, Option.bind_some, am_k_v, am_k_n, ↓n_in, nI_clamp, i_p1, nI_leI, nI_ltI, nI_eq, n_lt0, n_le0, n_eq0, n_gt0, n_lm, n_em, n_me, n_mlt, false_or, or_false, true_or, or_true, false_and, and_false, true_and, and_true, not_false_eq_true, not_true_eq_false, if_true, if_false, if_pos, if_neg, am_b01, am_b0, am_b1, ne_eq, eq_self, reduceCtorEq, rng_t, Bool.and_true, Bool.and_false, Bool.true_and, Bool.false_and, ite_rgI, if_pos rfl, sp_cellA M B, this]
  · rcases rng_or (gW g) (by omega) x with ⟨x, hx, rfl⟩ | hx
    · rcases rng_or (gD g) (by omega) y with ⟨y, hy, rfl⟩ | hy
      · have hc := cix_lt hx hy
        cases hr : rgI 1 9 a
        · refine stp_pure H (v := -1000000002) ?_ ?_
          · simp (disch := omega) only [b_X8_wall_0, b_X8_wall_9, b_X8_wall_31, Option.bind_some, am_k_v, am_k_n, ↓n_in, nI_clamp, i_p1, nI_leI, nI_ltI, nI_eq, n_lt0, n_le0, n_eq0, n_gt0, n_lm, n_em, n_me, n_mlt, false_or, or_false, true_or, or_true, false_and, and_false, true_and, and_true, not_false_eq_true, not_true_eq_false, if_true, if_false, if_pos, if_neg, am_b01, am_b0, am_b1, ne_eq, eq_self, reduceCtorEq, rng_t, Bool.and_true, Bool.and_false, Bool.true_and, Bool.false_and, ite_rgI, if_pos rfl, sx_cellAtT X B hx hy, hr]
          · simp (disch := omega) only [b_X9_wall_0, b_X9_wall_6, b_X9_wall_22, Option.bind_some, am_k_v, am_k_n, ↓n_in, nI_clamp, i_p1, nI_leI, nI_ltI, nI_eq, n_lt0, n_le0, n_eq0, n_gt0, n_lm, n_em, n_me, n_mlt, false_or, or_false, true_or, or_true, false_and, and_false, true_and, and_true, not_false_eq_true, not_true_eq_false, if_true, if_false, if_pos, if_neg, am_b01, am_b0, am_b1, ne_eq, eq_self, reduceCtorEq, rng_t, Bool.and_true, Bool.and_false, Bool.true_and, Bool.false_and, ite_rgI, if_pos rfl, sp_cellA M B, sp_in_1_9, hr]
        · obtain ⟨t, ht1, ht, hta⟩ := rgI_n (m := 1) (n := 9) rfl rfl hr
          cases hw : wfr g (cix g x y)
          · refine stp_pure H (v := -1000000003) ?_ ?_
            · simp (disch := omega) only [b_X8_wall_0, b_X8_wall_9, b_X8_wall_31, Option.bind_some, am_k_v, am_k_n, ↓n_in, nI_clamp, i_p1, nI_leI, nI_ltI, nI_eq, n_lt0, n_le0, n_eq0, n_gt0, n_lm, n_em, n_me, n_mlt, false_or, or_false, true_or, or_true, false_and, and_false, true_and, and_true, not_false_eq_true, not_true_eq_false, if_true, if_false, if_pos, if_neg, am_b01, am_b0, am_b1, ne_eq, eq_self, reduceCtorEq, rng_t, Bool.and_true, Bool.and_false, Bool.true_and, Bool.false_and, ite_rgI, if_pos rfl, sx_cellAtT X B hx hy, hr, sx_isFree X B, hw, b_X8_wall_43]
            · simp (disch := omega) only [b_X9_wall_0, b_X9_wall_6, b_X9_wall_22, b_X9_wall_44, Option.bind_some, am_k_v, am_k_n, ↓n_in, nI_clamp, i_p1, nI_leI, nI_ltI, nI_eq, n_lt0, n_le0, n_eq0, n_gt0, n_lm, n_em, n_me, n_mlt, false_or, or_false, true_or, or_true, false_and, and_false, true_and, and_true, not_false_eq_true, not_true_eq_false, if_true, if_false, if_pos, if_neg, am_b01, am_b0, am_b1, ne_eq, eq_self, reduceCtorEq, rng_t, Bool.and_true, Bool.and_false, Bool.true_and, Bool.false_and, ite_rgI, if_pos rfl, sp_cellA M B, sp_in_1_9, hr, rm_W M, m_cix, sp_isFree M B, hw]
          · obtain ⟨h0, _⟩ := wfr_iff.mp hw
            have hbe := sx_behind (Ls := Ls) (xs := xs) (o := none) X B D hc h0 ht (fun p q => by cases q)
            refine stp_pure H (v := nI (mnA g) - nI (wlf g t none (cix g x y))) ?_ ?_
            · simp (disch := omega) only [b_X8_wall_0, b_X8_wall_9, b_X8_wall_31, Option.bind_some, am_k_v, am_k_n, ↓n_in, nI_clamp, i_p1, nI_leI, nI_ltI, nI_eq, n_lt0, n_le0, n_eq0, n_gt0, n_lm, n_em, n_me, n_mlt, false_or, or_false, true_or, or_true, false_and, and_false, true_and, and_true, not_false_eq_true, not_true_eq_false, if_true, if_false, if_pos, if_neg, am_b01, am_b0, am_b1, ne_eq, eq_self, reduceCtorEq, rng_t, Bool.and_true, Bool.and_false, Bool.true_and, Bool.false_and, ite_rgI, if_pos rfl, sx_cellAtT X B hx hy, hr, sx_isFree X B, hw, b_X8_wall_43, sx_meanOfAll X B D, b_X8_wall_56]
              rw [hta]
              rw [show ((-1) : Int32) = oI none from rfl, hbe, Option.bind_some, am_k_v, b_X8_wall_67]
            · have M' := rm_setH (p := cix g x y) (c := t) M
              have B' := bg_setH (c := cix g x y) B ht
              simp (disch := omega) only [b_X9_wall_0, b_X9_wall_6, b_X9_wall_22, b_X9_wall_44, b_X9_wall_55, Option.bind_some, am_k_v, am_k_n, ↓n_in, nI_clamp, i_p1, nI_leI, nI_ltI, nI_eq, n_lt0, n_le0, n_eq0, n_gt0, n_lm, n_em, n_me, n_mlt, false_or, or_false, true_or, or_true, false_and, and_false, true_and, and_true, not_false_eq_true, not_true_eq_false, if_true, if_false, if_pos, if_neg, am_b01, am_b0, am_b1, ne_eq, eq_self, reduceCtorEq, rng_t, Bool.and_true, Bool.and_false, Bool.true_and, Bool.false_and, ite_rgI, if_pos rfl, sp_cellA M B, sp_in_1_9, hr, rm_W M, m_cix, sp_isFree M B, hw, sp_meanAll M B C]
              rw [hta, sp_meanAll M' B' (m0_up (by unfold m4; omega) C), Option.bind_some, am_k_v, b_X9_wall_69]
              simp (disch := omega) only [Option.bind_some, am_k_v, am_k_n, ↓n_in, nI_clamp, i_p1, nI_leI, nI_ltI, nI_eq, n_lt0, n_le0, n_eq0, n_gt0, n_lm, n_em, n_me, n_mlt, false_or, or_false, true_or, or_true, false_and, and_false, true_and, and_true, not_false_eq_true, not_true_eq_false, if_true, if_false, if_pos, if_neg, am_b01, am_b0, am_b1, ne_eq, eq_self, reduceCtorEq, rng_t, Bool.and_true, Bool.and_false, Bool.true_and, Bool.false_and, ite_rgI, if_pos rfl, up_up]
              rw [show am_up2 I 82 (cix g x y) 0 = I by rw [show (0 : Int32) = I 82 (cix g x y) by rw [rm_H M (show cix g x y < 48 by omega), h0]; rfl, up_self]]
              rfl
      · exact absurd (Or.inr hy) hxy
    · exact absurd (Or.inl hx) hxy
theorem sx_wallFor (X : RX g I) (B : BG g) (D : RD g J) {t : Nat} (ht : t ≤ 9) {o : Option Nat} (ho : ∀ p, o = some p → p < gP g) : am_ev (am_tbl Ls xs) 122 (0, [(0, .ref 63), (1, .int (nI t)), (2, .int (oI o))], [], (am_sh, I, J)) = some (some (.int (oI (fls (wfr g) (wlf g t o) (gW g * gD g)))), (am_sh, I, J)) := by
  have b1 := bg_1 B
  rw [b_X1_bestWallFor_0]
  refine (lp (N := gW g * gD g) (f := fun k => am_ev (am_tbl Ls xs) 122 (9, [(0, .ref 63), (1, .int (nI t)), (2, .int (oI o)), (3, .int (oI (fls (wfr g) (wlf g t o) k))), (4, .int (lvI 1000000000 (wlf g t o) (fls (wfr g) (wlf g t o) k))), (5, .int (nI k))], [], (am_sh, I, J))) ?_).trans ?_
  · intro k hk
    have b4 : wlf g t o k ≤ 34560 := wlf_le B ht
    try dsimp only
    rw [b_X1_bestWallFor_9]
    simp (disch := omega) only [Option.bind_some, am_k_v, am_k_n, ↓n_in, nI_clamp, i_p1, nI_leI, nI_ltI, nI_eq, n_lt0, n_le0, n_eq0, n_gt0, n_lm, n_em, n_me, n_mlt, false_or, or_false, true_or, or_true, false_and, and_false, true_and, and_true, not_false_eq_true, not_true_eq_false, if_true, if_false, if_pos, if_neg, am_b01, am_b0, am_b1, ne_eq, eq_self, reduceCtorEq, rng_t, Bool.and_true, Bool.and_false, Bool.true_and, Bool.false_and, ite_rgI, if_pos rfl, rx_C X, sx_isFree X B, b_X1_bestWallFor_27, b_X1_bestWallFor_57]
    rw [fls_s]
    cases hw : wfr g k
    · simp only [not_true_eq_false, if_false, reduceCtorEq]
    · obtain ⟨h0, _⟩ := wfr_iff.mp hw
      simp only [reduceCtorEq, not_false_eq_true, if_true]
      rw [sx_behind X B D hk h0 ht ho, Option.bind_some, am_k_v, b_X1_bestWallFor_41]
      cases hf : fls (wfr g) (wlf g t o) k with
      | none =>
        simp only [lvI, b_X1_bestWallFor_57, i_p1]
        rw [if_neg (by rw [i_leN, nI_toInt (by omega), show (1000000000 : Int32).toInt = 1000000000 from rfl]; omega)]
        rfl
      | some i =>
        have b5 : wlf g t o i ≤ 34560 := wlf_le B ht
        simp (disch := omega) only [lvI, b_X1_bestWallFor_57, Option.bind_some, am_k_v, am_k_n, ↓n_in, nI_clamp, i_p1, nI_leI, nI_ltI, nI_eq, n_lt0, n_le0, n_eq0, n_gt0, n_lm, n_em, n_me, n_mlt, false_or, or_false, true_or, or_true, false_and, and_false, true_and, and_true, not_false_eq_true, not_true_eq_false, if_true, if_false, if_pos, if_neg, am_b01, am_b0, am_b1, ne_eq, eq_self, reduceCtorEq, rng_t, Bool.and_true, Bool.and_false, Bool.true_and, Bool.false_and, ite_rgI, if_pos rfl]
        by_cases h1 : wlf g t o k < wlf g t o i
        · rw [if_neg (show ¬ wlf g t o i ≤ wlf g t o k by omega), if_pos h1]; rfl
        · rw [if_pos (show wlf g t o i ≤ wlf g t o k by omega), if_neg h1]
  · try dsimp only
    rw [b_X1_bestWallFor_9]
    simp (disch := omega) only [Option.bind_some, am_k_v, am_k_n, ↓n_in, nI_clamp, i_p1, nI_leI, nI_ltI, nI_eq, n_lt0, n_le0, n_eq0, n_gt0, n_lm, n_em, n_me, n_mlt, false_or, or_false, true_or, or_true, false_and, and_false, true_and, and_true, not_false_eq_true, not_true_eq_false, if_true, if_false, if_pos, if_neg, am_b01, am_b0, am_b1, ne_eq, eq_self, reduceCtorEq, rng_t, Bool.and_true, Bool.and_false, Bool.true_and, Bool.false_and, ite_rgI, if_pos rfl, rx_C X]
theorem sp_wallL (M : RM g I) (B : BG g) (C : m0 I) {t p : Nat} (ht : t ≤ 9) (hp : p < gP g) (a : Int32) {o : Option Nat} (ho : o = if a = 0 then none else some p) : am_ev (am_tbl Ls xs) 64 (46, [(0, .ref 81), (1, .int (nI t)), (2, .int (nI p)), (3, .int a), (4, .int ((-1))), (5, .int 0), (6, .int 0)], [], (am_sh, I, J)) = some (some (.int (lvI (-1) (nam g) (fls (wfr g) (wlf g t o) (gW g * gD g)))), (am_sh, I, J)) := by
  have b1 := bg_1 B
  refine (lp (N := gW g * gD g) (f := fun k => am_ev (am_tbl Ls xs) 64 (46, [(0, .ref 81), (1, .int (nI t)), (2, .int (nI p)), (3, .int a), (4, .int (oI (fls (wfr g) (wlf g t o) k))), (5, .int (lvI 0 (wlf g t o) (fls (wfr g) (wlf g t o) k))), (6, .int (nI k))], [], (am_sh, I, J))) ?_).trans ?_
  · intro k hk
    have b4 : wlf g t o k ≤ 34560 := wlf_le B ht
    try dsimp only
    rw [b_X9_bestWall_46, sp_cells]
    simp (disch := omega) only [b_X9_bestWall_52, b_X9_bestWall_61, b_X9_bestWall_145, Option.bind_some, am_k_v, am_k_n, ↓n_in, nI_clamp, i_p1, nI_leI, nI_ltI, nI_eq, n_lt0, n_le0, n_eq0, n_gt0, n_lm, n_em, n_me, n_mlt, false_or, or_false, true_or, or_true, false_and, and_false, true_and, and_true, not_false_eq_true, not_true_eq_false, if_true, if_false, if_pos, if_neg, am_b01, am_b0, am_b1, ne_eq, eq_self, reduceCtorEq, rng_t, Bool.and_true, Bool.and_false, Bool.true_and, Bool.false_and, ite_rgI, if_pos rfl, rm_W M, rm_D M, pk_mul, sp_isFree M B]
    cases hw : wfr g k
    · rw [fls_s, hw]
      simp only [if_true, if_false, reduceCtorEq]
    · obtain ⟨h0, _⟩ := wfr_iff.mp hw
      have M' := rm_setH (p := k) (c := t) M
      have B' := bg_setH (c := k) B ht
      have C' : m0 (am_up2 I 82 k (nI t)) := m0_up (by unfold m4; omega) C
      have eI : am_up2 I 82 k 0 = I := by rw [show (0 : Int32) = I 82 k by rw [rm_H M (show k < 48 by omega), h0]; rfl, up_self]
      have e88 : am_ev (am_tbl Ls xs) 64 (88, [(0, .ref 81), (1, .int (nI t)), (2, .int (nI p)), (3, .int a), (4, .int (oI (fls (wfr g) (wlf g t o) k))), (5, .int (lvI 0 (wlf g t o) (fls (wfr g) (wlf g t o) k))), (6, .int (nI k))], [.int (nI (wlf g t o k))], (am_sh, am_up2 I 82 k (nI t), J)) = am_ev (am_tbl Ls xs) 64 (46, [(0, .ref 81), (1, .int (nI t)), (2, .int (nI p)), (3, .int a), (4, .int (oI (fls (wfr g) (wlf g t o) (k + 1)))), (5, .int (lvI 0 (wlf g t o) (fls (wfr g) (wlf g t o) (k + 1)))), (6, .int (nI (k + 1)))], [], (am_sh, I, J)) := by
        rw [b_X9_bestWall_88, fls_s, if_pos hw]
        cases hf : fls (wfr g) (wlf g t o) k with
        | none => simp (disch := omega) only [oI, lvI, b_X9_bestWall_110, b_X9_bestWall_115, b_X9_bestWall_129, b_X9_bestWall_143, b_X9_bestWall_145, Option.bind_some, am_k_v, am_k_n, ↓n_in, nI_clamp, i_p1, nI_leI, nI_ltI, nI_eq, n_lt0, n_le0, n_eq0, n_gt0, n_lm, n_em, n_me, n_mlt, false_or, or_false, true_or, or_true, false_and, and_false, true_and, and_true, not_false_eq_true, not_true_eq_false, if_true, if_false, if_pos, if_neg, am_b01, am_b0, am_b1, ne_eq, eq_self, reduceCtorEq, rng_t, Bool.and_true, Bool.and_false, Bool.true_and, Bool.false_and, ite_rgI, if_pos rfl, up_up, eI, show ((-1 : Int32) < 0) = True from by decide, show ((1 : Int32) = 0) = False from by decide]
        | some i =>
          have b5 : wlf g t o i ≤ 34560 := wlf_le B ht
          have b6 := fls_lt hf
          simp (disch := omega) only [oI, lvI, b_X9_bestWall_110, b_X9_bestWall_115, b_X9_bestWall_129, b_X9_bestWall_143, b_X9_bestWall_145, Option.bind_some, am_k_v, am_k_n, ↓n_in, nI_clamp, i_p1, nI_leI, nI_ltI, nI_eq, n_lt0, n_le0, n_eq0, n_gt0, n_lm, n_em, n_me, n_mlt, false_or, or_false, true_or, or_true, false_and, and_false, true_and, and_true, not_false_eq_true, not_true_eq_false, if_true, if_false, if_pos, if_neg, am_b01, am_b0, am_b1, ne_eq, eq_self, reduceCtorEq, rng_t, Bool.and_true, Bool.and_false, Bool.true_and, Bool.false_and, ite_rgI, if_pos rfl, up_up, eI, show ((1 : Int32) = 0) = False from by decide]
          by_cases h1 : wlf g t o k < wlf g t o i
          · rw [if_neg (show ¬ wlf g t o i ≤ wlf g t o k by omega), if_pos h1]
          · rw [if_pos (show wlf g t o i ≤ wlf g t o k by omega), if_neg h1]
      simp only [reduceCtorEq, if_true, if_false]
      rw [sp_meanAll M' B' C', sp_mean0 M' B' C' (show p < gP (setH g (fset (gH g) k t)) from hp), Option.bind_some, Option.bind_some, am_k_v, am_k_v, b_X9_bestWall_80]
      by_cases ha : a = 0
      · rw [if_neg (by rw [ha]; simp), show mnA (setH g (fset (gH g) k t)) = wlf g t o k by rw [ho, if_pos ha]; rfl]
        exact e88
      · rw [if_pos ha, show mnP (setH g (fset (gH g) k t)) p = wlf g t o k by rw [ho, if_neg ha]; rfl]
        exact e88
  · try dsimp only
    rw [b_X9_bestWall_46, sp_cells]
    cases hf : fls (wfr g) (wlf g t o) (gW g * gD g) with
    | none => simp (disch := omega) only [b_X9_bestWall_52, b_X9_bestWall_166_2, Option.bind_some, am_k_v, am_k_n, ↓n_in, nI_clamp, i_p1, nI_leI, nI_ltI, nI_eq, n_lt0, n_le0, n_eq0, n_gt0, n_lm, n_em, n_me, n_mlt, false_or, or_false, true_or, or_true, false_and, and_false, true_and, and_true, not_false_eq_true, not_true_eq_false, if_true, if_false, if_pos, if_neg, am_b01, am_b0, am_b1, ne_eq, eq_self, reduceCtorEq, rng_t, Bool.and_true, Bool.and_false, Bool.true_and, Bool.false_and, ite_rgI, if_pos rfl, rm_W M, rm_D M, pk_mul, oI, lvI, show ((0 : Int32) ≤ -1) = False from by decide]
    | some i =>
      have b6 := fls_lt hf
      simp (disch := omega) only [b_X9_bestWall_52, b_X9_bestWall_166, Option.bind_some, am_k_v, am_k_n, ↓n_in, nI_clamp, i_p1, nI_leI, nI_ltI, nI_eq, n_lt0, n_le0, n_eq0, n_gt0, n_lm, n_em, n_me, n_mlt, false_or, or_false, true_or, or_true, false_and, and_false, true_and, and_true, not_false_eq_true, not_true_eq_false, if_true, if_false, if_pos, if_neg, am_b01, am_b0, am_b1, ne_eq, eq_self, reduceCtorEq, rng_t, Bool.and_true, Bool.and_false, Bool.true_and, Bool.false_and, ite_rgI, if_pos rfl, rm_W M, rm_D M, pk_mul, oI, lvI, sp_told10 M B, show (0 : Int32) = nI 0 from rfl, Nat.zero_le]
theorem pu_bestWall (H : Inv I J) (a p b : Int32) : StpC Ls xs 94 64 [(0, .ref 0), (1, .int a), (2, .int p), (3, .int b)] [(0, .ref 81), (1, .int a), (2, .int p), (3, .int b)] I J := by
  obtain ⟨g, r, S, Q, ⟨X, XQ, D⟩, ⟨M, MQ, C⟩⟩ := id H
  have B := S.1
  have b1 := bg_1 B
  rcases rng_or (gP g) (by omega) p with ⟨p, hp, rfl⟩ | hp
  · have e9 : ∀ {α : Type} {T E : α}, (if a < 1 then E else if 9 < a then E else T) = if rgI 1 9 a = true then T else E := by
      intro α T E
      rw [← ite_rgI]
      by_cases h1 : a < 1
      · rw [if_pos h1, if_pos h1]
      · rw [if_neg h1, if_neg h1]
        by_cases h2 : (9 : Int32) < a
        · rw [if_pos h2, if_neg (by rw [i_ltN] at h2; rw [i_leN]; omega)]
        · rw [if_neg h2, if_pos (by rw [i_ltN] at h2; rw [i_leN]; omega)]
    cases hr : rgI 1 9 a
    · refine stp_pure H (v := -1000000002) ?_ ?_
      · simp (disch := omega) only [b_X8_bestWall_0, b_X8_bestWall_8, b_X8_bestWall_34, Option.bind_some, am_k_v, am_k_n, ↓n_in, nI_clamp, i_p1, nI_leI, nI_ltI, nI_eq, n_lt0, n_le0, n_eq0, n_gt0, n_lm, n_em, n_me, n_mlt, false_or, or_false, true_or, or_true, false_and, and_false, true_and, and_true, not_false_eq_true, not_true_eq_false, if_true, if_false, if_pos, if_neg, am_b01, am_b0, am_b1, ne_eq, eq_self, reduceCtorEq, rng_t, Bool.and_true, Bool.and_false, Bool.true_and, Bool.false_and, ite_rgI, if_pos rfl, sx_personA X, e9, hr]
      · simp (disch := omega) only [b_X9_bestWall_0, b_X9_bestWall_5, b_X9_bestWall_21, b_X9_bestWall_34, Option.bind_some, am_k_v, am_k_n, ↓n_in, nI_clamp, i_p1, nI_leI, nI_ltI, nI_eq, n_lt0, n_le0, n_eq0, n_gt0, n_lm, n_em, n_me, n_mlt, false_or, or_false, true_or, or_true, false_and, and_false, true_and, and_true, not_false_eq_true, not_true_eq_false, if_true, if_false, if_pos, if_neg, am_b01, am_b0, am_b1, ne_eq, eq_self, reduceCtorEq, rng_t, Bool.and_true, Bool.and_false, Bool.true_and, Bool.false_and, ite_rgI, if_pos rfl, sp_personA M B, sp_in_1_9, hr]
    · obtain ⟨t, ht1, ht, hta⟩ := rgI_n (m := 1) (n := 9) rfl rfl hr
      cases hs : rgI 0 1 b
      · refine stp_pure H (v := -1000000002) ?_ ?_
        · simp (disch := omega) only [b_X8_bestWall_0, b_X8_bestWall_8, b_X8_bestWall_34, Option.bind_some, am_k_v, am_k_n, ↓n_in, nI_clamp, i_p1, nI_leI, nI_ltI, nI_eq, n_lt0, n_le0, n_eq0, n_gt0, n_lm, n_em, n_me, n_mlt, false_or, or_false, true_or, or_true, false_and, and_false, true_and, and_true, not_false_eq_true, not_true_eq_false, if_true, if_false, if_pos, if_neg, am_b01, am_b0, am_b1, ne_eq, eq_self, reduceCtorEq, rng_t, Bool.and_true, Bool.and_false, Bool.true_and, Bool.false_and, ite_rgI, if_pos rfl, sx_personA X, e9, hr, hs]
        · simp (disch := omega) only [b_X9_bestWall_0, b_X9_bestWall_5, b_X9_bestWall_21, b_X9_bestWall_31, b_X9_bestWall_34, Option.bind_some, am_k_v, am_k_n, ↓n_in, nI_clamp, i_p1, nI_leI, nI_ltI, nI_eq, n_lt0, n_le0, n_eq0, n_gt0, n_lm, n_em, n_me, n_mlt, false_or, or_false, true_or, or_true, false_and, and_false, true_and, and_true, not_false_eq_true, not_true_eq_false, if_true, if_false, if_pos, if_neg, am_b01, am_b0, am_b1, ne_eq, eq_self, reduceCtorEq, rng_t, Bool.and_true, Bool.and_false, Bool.true_and, Bool.false_and, ite_rgI, if_pos rfl, sp_personA M B, sp_in_1_9, sp_in_0_1, hr, hs]
      · obtain ⟨w, _, hw, hwb⟩ := rgI_n (m := 0) (n := 1) rfl rfl hs
        have ho : ∀ q, (if b = 0 then none else some p) = some q → q < gP g := by
          intro q hq
          split at hq
          · cases hq
          · cases hq; exact hp
        refine stp_pure H (v := lvI (-1) (nam g) (fls (wfr g) (wlf g t (if b = 0 then none else some p)) (gW g * gD g))) ?_ ?_
        · simp (disch := omega) only [b_X8_bestWall_0, b_X8_bestWall_8, b_X8_bestWall_34, Option.bind_some, am_k_v, am_k_n, ↓n_in, nI_clamp, i_p1, nI_leI, nI_ltI, nI_eq, n_lt0, n_le0, n_eq0, n_gt0, n_lm, n_em, n_me, n_mlt, false_or, or_false, true_or, or_true, false_and, and_false, true_and, and_true, not_false_eq_true, not_true_eq_false, if_true, if_false, if_pos, if_neg, am_b01, am_b0, am_b1, ne_eq, eq_self, reduceCtorEq, rng_t, Bool.and_true, Bool.and_false, Bool.true_and, Bool.false_and, ite_rgI, if_pos rfl, sx_personA X, e9, hr, hs]
          have e56 : am_ev (am_tbl Ls xs) 94 (56, [], [.int (oI (if b = 0 then none else some p)), .int (nI t), .ref 63, .ref 18], (am_sh, I, J)) = some (some (.int (lvI (-1) (nam g) (fls (wfr g) (wlf g t (if b = 0 then none else some p)) (gW g * gD g)))), (am_sh, I, J)) := by
            rw [b_X8_bestWall_56, sx_wallFor X B D ht ho, Option.bind_some, am_k_v, b_X8_bestWall_59]
            cases hf : fls (wfr g) (wlf g t (if b = 0 then none else some p)) (gW g * gD g) with
            | none => rw [show oI none = -1 from rfl, sx_nameOf1 X, Option.bind_some, am_k_v, b_X8_bestWall_62]; rfl
            | some i => rw [show oI (some i) = nI i from rfl, sx_nameOf X B (fls_lt hf).1, Option.bind_some, am_k_v, b_X8_bestWall_62]; rfl
          rw [hta]
          by_cases hb : b = 0
          · rw [if_pos (by rw [hb]; decide)]
            rw [if_pos hb] at e56 ⊢
            exact e56
          · rw [if_neg (show ¬ ¬ b = 1 by rw [hwb, n_eq1 (by omega)]; rw [hwb, n_eq0 (by omega)] at hb; omega)]
            rw [if_neg hb] at e56 ⊢
            exact e56
        · simp (disch := omega) only [b_X9_bestWall_0, b_X9_bestWall_5, b_X9_bestWall_21, b_X9_bestWall_31, b_X9_bestWall_34, Option.bind_some, am_k_v, am_k_n, ↓n_in, nI_clamp, i_p1, nI_leI, nI_ltI, nI_eq, n_lt0, n_le0, n_eq0, n_gt0, n_lm, n_em, n_me, n_mlt, false_or, or_false, true_or, or_true, false_and, and_false, true_and, and_true, not_false_eq_true, not_true_eq_false, if_true, if_false, if_pos, if_neg, am_b01, am_b0, am_b1, ne_eq, eq_self, reduceCtorEq, rng_t, Bool.and_true, Bool.and_false, Bool.true_and, Bool.false_and, ite_rgI, if_pos rfl, sp_personA M B, sp_in_1_9, sp_in_0_1, hr, hs]
          rw [hta]
          exact sp_wallL M B C ht hp b rfl
  · refine stp_pure H (v := -1000000001) ?_ ?_
    · simp (disch := omega) only [b_X8_bestWall_0, b_X8_bestWall_8, b_X8_bestWall_34, Option.bind_some, am_k_v, am_k_n, ↓n_in, nI_clamp, i_p1, nI_leI, nI_ltI, nI_eq, n_lt0, n_le0, n_eq0, n_gt0, n_lm, n_em, n_me, n_mlt, false_or, or_false, true_or, or_true, false_and, and_false, true_and, and_true, not_false_eq_true, not_true_eq_false, if_true, if_false, if_pos, if_neg, am_b01, am_b0, am_b1, ne_eq, eq_self, reduceCtorEq, rng_t, Bool.and_true, Bool.and_false, Bool.true_and, Bool.false_and, ite_rgI, if_pos rfl, sx_personA X, hp]
    · simp (disch := omega) only [b_X9_bestWall_0, b_X9_bestWall_5, b_X9_bestWall_21, b_X9_bestWall_34, Option.bind_some, am_k_v, am_k_n, ↓n_in, nI_clamp, i_p1, nI_leI, nI_ltI, nI_eq, n_lt0, n_le0, n_eq0, n_gt0, n_lm, n_em, n_me, n_mlt, false_or, or_false, true_or, or_true, false_and, and_false, true_and, and_true, not_false_eq_true, not_true_eq_false, if_true, if_false, if_pos, if_neg, am_b01, am_b0, am_b1, ne_eq, eq_self, reduceCtorEq, rng_t, Bool.and_true, Bool.and_false, Bool.true_and, Bool.false_and, ite_rgI, if_pos rfl, sp_personA M B, hp]
end
