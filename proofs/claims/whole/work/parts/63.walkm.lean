/-! WALKS: the reference -/
section
variable {Ls : Nat} {xs : Nat → Int32} {g : Vg} {r : Vr} {I I' : Nat → Nat → Int32} {J : Nat → Nat → Int64}
theorem sp_does (M : RM g I) (B : BG g) (MQ : QM g r I) (Q : BQ g r) {p c h : Nat} (hp : p < gP g) (hc : c < gW g * gD g) (hh : h < gN g) : am_ev (am_tbl Ls xs) 54 (0, [(0, .ref 81), (1, .int (nI p)), (2, .int (nI c)), (3, .int (nI h))], [], (am_sh, I, J)) = some (some (.int (am_b (doE r p c h))), (am_sh, I, J)) := by
  have b1 := bg_1 B
  have q1 := Q.1
  rw [b_X9_doesErrands_0]
  unfold doE
  generalize hf : (fun k => !(decide (eP r k = p) && decide (eH r k = h)) || decide (eC r k = c)) = f
  have hfk : ∀ k, f k = (!(decide (eP r k = p) && decide (eH r k = h)) || decide (eC r k = c)) := fun k => by rw [← hf]
  refine (lp (N := eN r) (f := fun k => am_ev (am_tbl Ls xs) 54 (6, [(0, .ref 81), (1, .int (nI p)), (2, .int (nI c)), (3, .int (nI h)), (4, .int (am_b (allb f k))), (5, .int (nI k))], [], (am_sh, I, J))) ?_).trans ?_
  · intro k hk
    have q2 := Q.2.2.1 k hk
    have e1 := MQ.2.2.1 k hk
    try dsimp only
    rw [b_X9_doesErrands_6]
    simp (disch := omega) only [Option.bind_some, am_k_v, am_k_n, ↓n_in, nI_clamp, i_p1, nI_leI, nI_ltI, nI_eq, n_lt0, n_le0, n_eq0, n_gt0, n_lm, n_em, n_me, n_mlt, false_or, or_false, true_or, or_true, false_and, and_false, true_and, and_true, not_false_eq_true, not_true_eq_false, if_true, if_false, if_pos, if_neg, am_b01, am_b0, am_b1, ne_eq, eq_self, reduceCtorEq, rng_t, Bool.and_true, Bool.and_false, Bool.true_and, Bool.false_and, ite_rgI, if_pos rfl, MQ.1.2.2.2.1, e1.1, e1.2.1, e1.2.2, b_X9_doesErrands_57, b_X9_doesErrands_53, b_X9_doesErrands_58]
    rw [allb_s]
    cases ha : allb f k
    · rw [if_pos rfl, Bool.false_and]; rfl
    · rw [if_neg (by decide), Bool.true_and, hfk]
      by_cases z1 : eP r k = p
      · by_cases z2 : eH r k = h
        · by_cases z3 : eC r k = c <;> simp [z1, z2, z3, am_b]
        · simp [z1, z2, am_b]
      · simp [z1, am_b]
  · try dsimp only
    rw [b_X9_doesErrands_6]
    simp (disch := omega) only [Option.bind_some, am_k_v, am_k_n, ↓n_in, nI_clamp, i_p1, nI_leI, nI_ltI, nI_eq, n_lt0, n_le0, n_eq0, n_gt0, n_lm, n_em, n_me, n_mlt, false_or, or_false, true_or, or_true, false_and, and_false, true_and, and_true, not_false_eq_true, not_true_eq_false, if_true, if_false, if_pos, if_neg, am_b01, am_b0, am_b1, ne_eq, eq_self, reduceCtorEq, rng_t, Bool.and_true, Bool.and_false, Bool.true_and, Bool.false_and, ite_rgI, if_pos rfl, bft, MQ.1.2.2.2.1]
theorem i_dif {a b : Nat} (ha : a < 1000) (hb : b < 1000) : (¬ Int32.toInt64 (nI a - nI b) < -1 ∧ ¬ (1 : Int64) < Int32.toInt64 (nI a - nI b)) ↔ (a ≤ b + 1 ∧ b ≤ a + 1) := by
  rw [Int64.lt_iff_toInt_lt, Int64.lt_iff_toInt_lt, Int32.toInt_toInt64, pk_sub_toInt (by omega) (by omega), show (-1 : Int64).toInt = -1 from rfl, show (1 : Int64).toInt = 1 from rfl]
  omega
theorem sp_isStep (M : RM g I) (B : BG g) {a b : Nat} (ha : a < gW g * gD g) (hb : b < gW g * gD g) : am_ev (am_tbl Ls xs) 55 (0, [(0, .ref 81), (1, .int (nI a)), (2, .int (nI b))], [], (am_sh, I, J)) = some (some (.int (am_b (stpW g a b))), (am_sh, I, J)) := by
  have b1 := bg_1 B
  have hW : gW g ≠ 0 := fun q => by rw [q, Nat.zero_mul] at ha; omega
  have m1 := Nat.mod_lt a (show 0 < gW g by omega)
  have m2 := Nat.mod_lt b (show 0 < gW g by omega)
  have d1 : a / gW g < gD g := Nat.div_lt_of_lt_mul ha
  have d2 : b / gW g < gD g := Nat.div_lt_of_lt_mul hb
  simp (disch := omega) only [b_X9_isStep_0, b_X9_isStep_21, b_X9_isStep_45, b_X9_isStep_52, b_X9_isStep_53, Option.bind_some, am_k_v, am_k_n, ↓n_in, nI_clamp, i_p1, nI_leI, nI_ltI, nI_eq, n_lt0, n_le0, n_eq0, n_gt0, n_lm, n_em, n_me, n_mlt, false_or, or_false, true_or, or_true, false_and, and_false, true_and, and_true, not_false_eq_true, not_true_eq_false, if_true, if_false, if_pos, if_neg, am_b01, am_b0, am_b1, ne_eq, eq_self, reduceCtorEq, rng_t, Bool.and_true, Bool.and_false, Bool.true_and, Bool.false_and, ite_rgI, if_pos rfl, rm_W M, pk_div, pk_mul, n_rem, sp_in]
  unfold stpW
  rw [decide_eq_decide.mpr (i_dif (a := a % gW g) (b := b % gW g) (by omega) (by omega)), decide_eq_decide.mpr (i_dif (a := a / gW g) (b := b / gW g) (by omega) (by omega))]
  by_cases z1 : a % gW g ≤ b % gW g + 1 ∧ b % gW g ≤ a % gW g + 1
  · by_cases z2 : a / gW g ≤ b / gW g + 1 ∧ b / gW g ≤ a / gW g + 1
    · rw [decide_eq_true z1, decide_eq_true z2, decide_eq_true ⟨z1, z2⟩]; rfl
    · rw [decide_eq_true z1, decide_eq_false z2, decide_eq_false (fun q => z2 q.2)]; rfl
  · have zz : ¬ ((a % gW g ≤ b % gW g + 1 ∧ b % gW g ≤ a % gW g + 1) ∧ a / gW g ≤ b / gW g + 1 ∧ b / gW g ≤ a / gW g + 1) := fun q => z1 q.1
    rw [decide_eq_false z1, decide_eq_false zz]; rfl
/-- what the first rows hold -/
def txI (g : Vg) (r : Vr) (p h c : Nat) : Int32 := if okW g r p c h = true then nI (txW g p h c) else 1000000000
def frW (p : Nat) (I I' : Nat → Nat → Int32) : Prop := ∀ q k, (q ≠ 103 ∧ (q ≠ 87 ∨ k ≠ p)) → I' q k = I q k
theorem sp_tax (M : RM g I) (B : BG g) (C : m0 I) (MQ : QM g r I) (Q : BQ g r) {p : Nat} (hp : p < gP g) : ∃ I', am_ev (am_tbl Ls xs) 56 (9, [(0, .ref 81), (1, .int (nI p)), (2, .int (I 87 p)), (3, .int 0)], [], (am_sh, I, J)) = am_ev (am_tbl Ls xs) 56 (110, [(0, .ref 81), (3, .int 0)], [], (am_sh, I', J)) ∧ frM I I' ∧ (∀ q k, q ≠ 103 → I' q k = I q k) ∧ ∀ h c, h < gN g → c < gW g * gD g → I' 103 (48 * h + c) = txI g r p h c := by
  have b1 := bg_1 B
  obtain ⟨I1, ⟨F1, T1⟩, e1⟩ := lpe (N := gN g) (f := fun h I' => am_ev (am_tbl Ls xs) 56 (9, [(0, .ref 81), (1, .int (nI p)), (2, .int (I 87 p)), (3, .int (nI h))], [], (am_sh, I', J))) (V := fun h I' => frW p I I' ∧ ∀ h' c, h' < h → c < gW g * gD g → I' 103 (48 * h' + c) = txI g r p h' c) (by
    intro h I1 hh ⟨F1, T1⟩
    have b2 := bg_h B hh
    obtain ⟨I2, ⟨F2, T2, U2⟩, e2⟩ := lpe (N := gW g * gD g) (f := fun c I' => am_ev (am_tbl Ls xs) 56 (20, [(0, .ref 81), (1, .int (nI p)), (2, .int (I 87 p)), (3, .int (nI h)), (4, .int (nI c))], [], (am_sh, I', J))) (V := fun c I' => frW p I I' ∧ (∀ h' c, h' < h → c < gW g * gD g → I' 103 (48 * h' + c) = txI g r p h' c) ∧ ∀ c', c' < c → I' 103 (48 * h + c') = txI g r p h c') (by
      intro c I2 hc ⟨F2, T2, U2⟩
      have b3 := bg_H B (show c < 48 by omega)
      have eI : ∀ q k, (q ≠ 103 ∧ (q ≠ 87 ∨ k ≠ p)) → am_up2 I2 87 p (nI c) q k = am_up2 I 87 p (nI c) q k := fun q k hq => by rw [up_ne (by omega), up_ne (by omega)]; exact F2 q k hq
      have Mc := rm_setA (c := c) M hp
      have M2 : RM (setA g (fset (gA g) p c)) (am_up2 I2 87 p (nI c)) := rm_cong (fun q k hq => by
        by_cases e : q = 87 ∧ k = p
        · rw [e.1, e.2, up_eq, up_eq]
        · exact eI q k ⟨by unfold mS at hq; omega, by omega⟩) Mc
      have B2 := bg_A (p := p) B hc
      have C2 : m0 (am_up2 I2 87 p (nI c)) := m0_cong (fun q k hq => (eI q k (by unfold m4 at hq; omega)).trans (up_ne (by unfold m4 at hq; omega))) C
      have Q2 : QM (setA g (fset (gA g) p c)) r (am_up2 I2 87 p (nI c)) := qm_cong (fun q k hq => (eI q k (by unfold mQ at hq; omega)).trans (up_ne (by unfold mQ at hq; omega))) MQ
      have hd := sp_does (Ls := Ls) (xs := xs) (J := J) M2 B2 Q2 (show BQ (setA g (fset (gA g) p c)) r from Q) (show p < gP (setA g (fset (gA g) p c)) from hp) (show c < gW (setA g (fset (gA g) p c)) * gD (setA g (fset (gA g) p c)) from hc) (show h < gN (setA g (fset (gA g) p c)) from hh)
      have ho := sp_owed0 (Ls := Ls) (xs := xs) (J := J) M2 B2 C2 (show p < gP (setA g (fset (gA g) p c)) from hp) (show h < gN (setA g (fset (gA g) p c)) from hh)
      rw [owN_A, show gA (setA g (fset (gA g) p c)) p = c from fset_eq, show tl (setA g (fset (gA g) p c)) p = tl g p from rfl] at ho
      have eW : I2 81 0 = nI (gW g) := (F2 81 0 (by omega)).trans (rm_W M)
      have eD : I2 81 1 = nI (gD g) := (F2 81 1 (by omega)).trans (rm_D M)
      have eH : I2 82 c = nI (gH g c) := (F2 82 c (by omega)).trans (rm_H M (show c < 48 by omega))
      have eS : am_up2 I2 87 p (nI c) 86 h = nI (gS g h) := (eI 86 h (by omega)).trans ((up_ne (by omega)).trans (rm_S M hh))
      refine ⟨am_up2 (am_up2 I2 87 p (nI c)) 103 (48 * h + c) (txI g r p h c), ⟨fun q k hq => ?_, fun h' c' a1 a2 => ?_, fun c' a1 => ?_⟩, ?_⟩
      · rw [up_ne (by omega), up_ne (by omega)]; exact F2 q k hq
      · rw [up_ne (by omega), up_ne (by omega)]; exact T2 h' c' a1 a2
      · by_cases e : c' = c
        · rw [e, up_eq]
        · rw [up_ne (by omega), up_ne (by omega)]; exact U2 c' (by omega)
      · try dsimp only
        rw [b_X9_findWalk_20, sp_cells, Option.bind_some, am_k_v, b_X9_findWalk_26, eW, eD, pk_mul, if_neg (nI_ge hc (by omega))]
        simp (disch := omega) only [Option.bind_some, am_k_v, am_k_n, ↓n_in, nI_clamp, i_p1, nI_leI, nI_ltI, nI_eq, n_lt0, n_le0, n_eq0, n_gt0, n_lm, n_em, n_me, n_mlt, false_or, or_false, true_or, or_true, false_and, and_false, true_and, and_true, not_false_eq_true, not_true_eq_false, if_true, if_false, if_pos, if_neg, am_b01, am_b0, am_b1, ne_eq, eq_self, reduceCtorEq, rng_t, Bool.and_true, Bool.and_false, Bool.true_and, Bool.false_and, ite_rgI, if_pos rfl, eH, b_X9_findWalk_69, b_X9_findWalk_88, hd, b_X9_findWalk_66, ho, b_X9_findWalk_81, eS, pk_mul, show (48 : Int32) = nI 48 from rfl, nI_add]
        unfold txI okW txW
        by_cases h0 : gH g c = 0
        · rw [if_neg (by omega), decide_eq_true h0, Bool.true_and]
          cases hdo : doE r p c h
          · rw [if_neg (by simp), if_neg (by decide)]
          · rw [if_pos (by simp), if_pos rfl]
        · rw [if_pos (by omega), decide_eq_false h0, Bool.false_and, if_neg (by decide)]) I1 ⟨F1, T1, fun c' h => absurd h (Nat.not_lt_zero c')⟩
    have eW : I2 81 0 = nI (gW g) := (F2 81 0 (by omega)).trans (rm_W M)
    have eD : I2 81 1 = nI (gD g) := (F2 81 1 (by omega)).trans (rm_D M)
    have eN : I1 81 3 = nI (gN g) := (F1 81 3 (by omega)).trans (rm_N M)
    refine ⟨I2, ⟨F2, fun h' c a1 a2 => ?_⟩, ?_⟩
    · rcases Nat.lt_or_ge h' h with w | w
      · exact T2 h' c w a2
      · rw [show h' = h by omega]; exact U2 c a2
    · try dsimp only
      rw [b_X9_findWalk_9, eN, if_neg (nI_ge hh (by omega))]
      refine e2.trans ?_
      try dsimp only
      rw [b_X9_findWalk_20, sp_cells, Option.bind_some, am_k_v, b_X9_findWalk_26, eW, eD, pk_mul, if_pos (nI_le (by omega) (by omega)), i_p1]) I ⟨fun q k _ => rfl, fun h' c a1 _ => absurd a1 (Nat.not_lt_zero h')⟩
  have eN : I1 81 3 = nI (gN g) := (F1 81 3 (by omega)).trans (rm_N M)
  have F : ∀ q k, q ≠ 103 → am_up2 I1 87 p (I 87 p) q k = I q k := fun q k hq => by
    by_cases e : q = 87 ∧ k = p
    · rw [e.1, e.2, up_eq]
    · rw [up_ne (by omega)]; exact F1 q k (by omega)
  refine ⟨am_up2 I1 87 p (I 87 p), ?_, fun q k hq => F q k (by unfold mS mQ m4 at hq; omega), F, fun h c a1 a2 => ?_⟩
  · refine e1.trans ?_
    try dsimp only
    rw [b_X9_findWalk_9, eN, if_pos (nI_le (by omega) (by omega))]
    simp (disch := omega) only [Option.bind_some, am_k_v, am_k_n, ↓n_in, nI_clamp, i_p1, nI_leI, nI_ltI, nI_eq, n_lt0, n_le0, n_eq0, n_gt0, n_lm, n_em, n_me, n_mlt, false_or, or_false, true_or, or_true, false_and, and_false, true_and, and_true, not_false_eq_true, not_true_eq_false, if_true, if_false, if_pos, if_neg, am_b01, am_b0, am_b1, ne_eq, eq_self, reduceCtorEq, rng_t, Bool.and_true, Bool.and_false, Bool.true_and, Bool.false_and, ite_rgI, if_pos rfl]
  · rw [up_ne (by omega)]; exact T1 h c a1 a2
theorem bs_le (B : BG g) {p j : Nat} (hj : j ≤ gN g) {t : Nat} : (rW g r p j t).getD 0 ≤ 5760 := by
  have b1 := bg_1 B
  have := rW_le B (r := r) (p := p) j t hj
  omega
/-- the rows behind: what is owed from an hour on -/
theorem sp_rest (M : RM g I) (B : BG g) {p : Nat} (T : ∀ h c, h < gN g → c < gW g * gD g → I 103 (48 * h + c) = txI g r p h c) : ∃ I', am_ev (am_tbl Ls xs) 56 (110, [(0, .ref 81), (3, .int 0)], [], (am_sh, I, J)) = some (none, (am_sh, I', J)) ∧ frM I I' ∧ (∀ q k, q ≠ 104 → I' q k = I q k) ∧ ∀ h c, h ≤ gN g → c < gW g * gD g → I' 104 (48 * h + c) = oF (rW g r p (gN g - h) c) := by
  have b1 := bg_1 B
  have frM4 : ∀ {I'}, (∀ q k, q ≠ 104 → I' q k = I q k) → frM I I' := fun F q k hq => F q k (by unfold mS mQ m4 at hq; omega)
  obtain ⟨I1, ⟨F1, Z1⟩, e1⟩ := lpe (N := gW g * gD g) (f := fun c I' => am_ev (am_tbl Ls xs) 56 (110, [(0, .ref 81), (3, .int (nI c))], [], (am_sh, I', J))) (V := fun c I' => (∀ q k, q ≠ 104 → I' q k = I q k) ∧ ∀ c', c' < c → I' 104 (48 * gN g + c') = 0) (by
    intro c I1 hc ⟨F1, Z1⟩
    have M1 := rm_fr (frM4 F1) M
    refine ⟨am_up2 I1 104 (48 * gN g + c) 0, ⟨fun q k hq => ?_, fun c' h1 => ?_⟩, ?_⟩
    · rw [up_ne (by omega)]; exact F1 q k hq
    · by_cases e : c' = c
      · rw [e, up_eq]
      · rw [up_ne (by omega)]; exact Z1 c' (by omega)
    · try dsimp only
      rw [b_X9_findWalk_110, sp_cells, Option.bind_some, am_k_v, b_X9_findWalk_115, rm_W M1, rm_D M1, pk_mul, if_neg (nI_ge hc (by omega)), rm_N M1]
      simp (disch := omega) only [Option.bind_some, am_k_v, am_k_n, ↓n_in, nI_clamp, i_p1, nI_leI, nI_ltI, nI_eq, n_lt0, n_le0, n_eq0, n_gt0, n_lm, n_em, n_me, n_mlt, false_or, or_false, true_or, or_true, false_and, and_false, true_and, and_true, not_false_eq_true, not_true_eq_false, if_true, if_false, if_pos, if_neg, am_b01, am_b0, am_b1, ne_eq, eq_self, reduceCtorEq, rng_t, Bool.and_true, Bool.and_false, Bool.true_and, Bool.false_and, ite_rgI, if_pos rfl, pk_mul, show (48 : Int32) = nI 48 from rfl, nI_add]) I ⟨fun q k _ => rfl, fun c' h => absurd h (Nat.not_lt_zero c')⟩
  have M1 := rm_fr (frM4 F1) M
  obtain ⟨I2, ⟨F2, R2⟩, e2⟩ := lpe (N := gN g) (f := fun k I' => am_ev (am_tbl Ls xs) 56 (146, [(0, .ref 81), (3, .int (nI (gN g - k) - 1))], [], (am_sh, I', J))) (V := fun k I' => (∀ q k, q ≠ 104 → I' q k = I q k) ∧ ∀ h c, gN g - k ≤ h → h ≤ gN g → c < gW g * gD g → I' 104 (48 * h + c) = oF (rW g r p (gN g - h) c)) (by
    intro k I2 hk ⟨F2, R2⟩
    have M2 := rm_fr (frM4 F2) M
    have e3 : nI (gN g - k) - 1 = nI (gN g - (k + 1)) := by rw [show (1 : Int32) = nI 1 from rfl, pk_sub (by omega), show gN g - k - 1 = gN g - (k + 1) by omega]
    have hh : gN g - (k + 1) < gN g := by omega
    have hh1 : gN g - (k + 1) + 1 = gN g - k := by omega
    have hh2 : gN g - (gN g - (k + 1)) = k + 1 := by omega
    generalize hhd : gN g - (k + 1) = h at e3 hh hh1 hh2
    have hj : gN g - (h + 1) = k := by omega
    obtain ⟨I3, ⟨F3, R3, U3⟩, e3'⟩ := lpe (N := gW g * gD g) (f := fun c I' => am_ev (am_tbl Ls xs) 56 (153, [(0, .ref 81), (3, .int (nI h)), (4, .int (nI c))], [], (am_sh, I', J))) (V := fun c I' => (∀ q k, q ≠ 104 → I' q k = I q k) ∧ (∀ h' c, h + 1 ≤ h' → h' ≤ gN g → c < gW g * gD g → I' 104 (48 * h' + c) = oF (rW g r p (gN g - h') c)) ∧ ∀ c', c' < c → I' 104 (48 * h + c') = oF (rW g r p (k + 1) c')) (by
      intro c I3 hc ⟨F3, R3, U3⟩
      have M3 := rm_fr (frM4 F3) M
      have eT := (F3 103 (48 * h + c) (by omega)).trans (T h c hh hc)
      -- the least around
      have loop : am_ev (am_tbl Ls xs) 56 (170, [(0, .ref 81), (3, .int (nI h)), (4, .int (nI c)), (5, .int 1000000000), (6, .int 0)], [], (am_sh, I3, J)) = am_ev (am_tbl Ls xs) 56 (170, [(0, .ref 81), (3, .int (nI h)), (4, .int (nI c)), (5, .int (lvI 1000000000 (fun t => (rW g r p k t).getD 0) (bsW g (rW g r p k) c))), (6, .int (nI (gW g * gD g)))], [], (am_sh, I3, J)) := by
        refine (lp (N := gW g * gD g) (f := fun t => am_ev (am_tbl Ls xs) 56 (170, [(0, .ref 81), (3, .int (nI h)), (4, .int (nI c)), (5, .int (lvI 1000000000 (fun t => (rW g r p k t).getD 0) (fls (fun t => stpW g c t && isS (rW g r p k t)) (fun t => (rW g r p k t).getD 0) t))), (6, .int (nI t))], [], (am_sh, I3, J))) ?_).trans ?_
        · intro t ht
          try dsimp only
          have v207 : am_ev (am_tbl Ls xs) 56 (170, [(0, .ref 81), (3, .int (nI h)), (4, .int (nI c)), (5, .int (lvI 1000000000 (fun t => (rW g r p k t).getD 0) (fls (fun t => stpW g c t && isS (rW g r p k t)) (fun t => (rW g r p k t).getD 0) t))), (6, .int (nI t))], [], (am_sh, I3, J)) = am_ev (am_tbl Ls xs) 56 (207, [(0, .ref 81), (3, .int (nI h)), (4, .int (nI c)), (5, .int (lvI 1000000000 (fun t => (rW g r p k t).getD 0) (fls (fun t => stpW g c t && isS (rW g r p k t)) (fun t => (rW g r p k t).getD 0) t))), (6, .int (nI t))], [.int (oF (rW g r p k t))], (am_sh, I3, J)) := by
            rw [b_X9_findWalk_170, sp_cells, Option.bind_some, am_k_v, b_X9_findWalk_176, rm_W M3, rm_D M3, pk_mul, if_neg (nI_ge ht (by omega)), rm_N M3]
            by_cases hl : h + 1 = gN g
            · rw [if_neg (show ¬ (nI h ≠ nI (gN g) - 1) by
                rw [show (1 : Int32) = nI 1 from rfl, pk_sub (by omega), show gN g - 1 = h by omega]; simp), show k = 0 by omega]
              rfl
            · have hr := R3 (h + 1) t (by omega) (by omega) ht
              rw [hj] at hr
              rw [if_pos (show nI h ≠ nI (gN g) - 1 by
                rw [show (1 : Int32) = nI 1 from rfl, pk_sub (by omega), ne_eq, nI_eq (by omega) (by omega)]; omega)]
              simp (disch := omega) only [Option.bind_some, am_k_v, am_k_n, ↓n_in, nI_clamp, i_p1, nI_leI, nI_ltI, nI_eq, n_lt0, n_le0, n_eq0, n_gt0, n_lm, n_em, n_me, n_mlt, false_or, or_false, true_or, or_true, false_and, and_false, true_and, and_true, not_false_eq_true, not_true_eq_false, if_true, if_false, if_pos, if_neg, am_b01, am_b0, am_b1, ne_eq, eq_self, reduceCtorEq, rng_t, Bool.and_true, Bool.and_false, Bool.true_and, Bool.false_and, ite_rgI, if_pos rfl, nI_1, pk_mul, show (48 : Int32) = nI 48 from rfl, nI_add, hr]
          rw [v207, b_X9_findWalk_207, sp_isStep M3 B hc ht, Option.bind_some, am_k_v, b_X9_findWalk_217, fls_s]
          have hF : ∀ y, fls (fun t => stpW g c t && isS (rW g r p k t)) (fun t => (rW g r p k t).getD 0) t = some y → (rW g r p k y).getD 0 ≤ 5760 := fun y _ => bs_le B (by omega)
          generalize fls (fun t => stpW g c t && isS (rW g r p k t)) (fun t => (rW g r p k t).getD 0) t = F at hF ⊢
          cases hs : stpW g c t
          · rw [if_pos (show am_b false = 0 from rfl), b_X9_findWalk_232, b_X9_findWalk_234, Bool.false_and, if_neg (by decide), i_p1]
          · rw [if_neg (show ¬ am_b true = 0 by decide), Bool.true_and]
            have bt : (rW g r p k t).getD 0 ≤ 5760 := bs_le B (by omega)
            cases hv : rW g r p k t with
            | none =>
              rw [if_neg (show ¬ isS (none : Option Nat) = true by simp [isS])]
              have : lvI 1000000000 (fun t => (rW g r p k t).getD 0) F ≤ oF none := by
                cases F with
                | none => exact (i_leN _ _).mpr (Int.le_refl _)
                | some y =>
                  have hy := hF y rfl
                  show nI ((rW g r p k y).getD 0) ≤ 1000000000
                  rw [i_leN, nI_toInt (by omega), show (1000000000 : Int32).toInt = 1000000000 from rfl]; omega
              rw [if_pos this, b_X9_findWalk_232, b_X9_findWalk_234, i_p1]
            | some v =>
              rw [hv] at bt
              have bt : v ≤ 5760 := bt
              rw [if_pos (show isS (some v) = true from rfl)]
              cases F with
              | none =>
                rw [if_neg (show ¬ lvI 1000000000 (fun t => (rW g r p k t).getD 0) none ≤ oF (some v) from oF_lt (by omega)), b_X9_findWalk_234, i_p1]
                show _ = am_ev (am_tbl Ls xs) 56 (170, [(0, .ref 81), (3, .int (nI h)), (4, .int (nI c)), (5, .int (nI ((rW g r p k t).getD 0))), (6, .int (nI (t + 1)))], [], (am_sh, I3, J))
                rw [hv]; rfl
              | some y =>
                have hy := hF y rfl
                dsimp only
                rw [show lvI 1000000000 (fun t => (rW g r p k t).getD 0) (some y) = nI ((rW g r p k y).getD 0) from rfl, show oF (some v) = nI v from rfl]
                by_cases h1 : v < (rW g r p k y).getD 0
                · rw [if_neg (nI_ge h1 (by omega)), if_pos (show (some v).getD 0 < (rW g r p k y).getD 0 from h1), b_X9_findWalk_234, i_p1]
                  show _ = am_ev (am_tbl Ls xs) 56 (170, [(0, .ref 81), (3, .int (nI h)), (4, .int (nI c)), (5, .int (nI ((rW g r p k t).getD 0))), (6, .int (nI (t + 1)))], [], (am_sh, I3, J))
                  rw [hv]; rfl
                · rw [if_pos (nI_le (by omega) (by omega)), if_neg (show ¬ (some v).getD 0 < (rW g r p k y).getD 0 from h1), b_X9_findWalk_232, b_X9_findWalk_234, i_p1]
                  rfl
        · rfl
      refine ⟨am_up2 I3 104 (48 * h + c) (oF (rW g r p (k + 1) c)), ⟨fun q i hq => ?_, fun h' c' a1 a2 a3 => ?_, fun c' a1 => ?_⟩, ?_⟩
      · rw [up_ne (by omega)]; exact F3 q i hq
      · rw [up_ne (by omega)]; exact R3 h' c' a1 a2 a3
      · by_cases e : c' = c
        · rw [e, up_eq]
        · rw [up_ne (by omega)]; exact U3 c' (by omega)
      · try dsimp only
        rw [b_X9_findWalk_153, sp_cells, Option.bind_some, am_k_v, b_X9_findWalk_159, rm_W M3, rm_D M3, pk_mul, if_neg (nI_ge hc (by omega)), loop, b_X9_findWalk_170, sp_cells, Option.bind_some, am_k_v, b_X9_findWalk_176, rm_W M3, rm_D M3, pk_mul, if_pos (nI_le (by omega) (by omega))]
        have e48 : (48 : Int32) * nI h + nI c = nI (48 * h + c) := by rw [show (48 : Int32) = nI 48 from rfl, pk_mul, nI_add]
        rw [rW_s, show gN g - (k + 1) = h by omega]
        simp (disch := omega) only [Option.bind_some, am_k_v, am_k_n, ↓n_in, nI_clamp, i_p1, nI_leI, nI_ltI, nI_eq, n_lt0, n_le0, n_eq0, n_gt0, n_lm, n_em, n_me, n_mlt, false_or, or_false, true_or, or_true, false_and, and_false, true_and, and_true, not_false_eq_true, not_true_eq_false, if_true, if_false, if_pos, if_neg, am_b01, am_b0, am_b1, ne_eq, eq_self, reduceCtorEq, rng_t, Bool.and_true, Bool.and_false, Bool.true_and, Bool.false_and, ite_rgI, if_pos rfl, e48, eT, b_X9_findWalk_283]
        have e294 : ∀ z, am_ev (am_tbl Ls xs) 56 (294, [(0, .ref 81), (3, .int (nI h)), (4, .int (nI c))], [.int z, .int (nI (48 * h + c)), .ref 104], (am_sh, I3, J)) = am_ev (am_tbl Ls xs) 56 (153, [(0, .ref 81), (3, .int (nI h)), (4, .int (nI (c + 1)))], [], (am_sh, am_up2 I3 104 (48 * h + c) z, J)) := fun z => by
          rw [b_X9_findWalk_294]
          simp (disch := omega) only [Option.bind_some, am_k_v, am_k_n, ↓n_in, nI_clamp, i_p1, nI_leI, nI_ltI, nI_eq, n_lt0, n_le0, n_eq0, n_gt0, n_lm, n_em, n_me, n_mlt, false_or, or_false, true_or, or_true, false_and, and_false, true_and, and_true, not_false_eq_true, not_true_eq_false, if_true, if_false, if_pos, if_neg, am_b01, am_b0, am_b1, ne_eq, eq_self, reduceCtorEq, rng_t, Bool.and_true, Bool.and_false, Bool.true_and, Bool.false_and, ite_rgI, if_pos rfl]
        unfold txI
        cases hok : okW g r p c h
        · rw [if_neg (show ¬ false = true by decide), if_pos rfl, e294, if_neg (show ¬ false = true by decide)]
          rfl
        · have t1 := txW_le B (p := p) (h := h) (c := c) hh
          rw [if_pos (show true = true from rfl), if_neg (oF_ne (by omega)), if_pos (show true = true from rfl)]
          cases hb : bsW g (rW g r p k) c with
          | none =>
            rw [if_neg (show ¬ ¬ lvI 1000000000 (fun t => (rW g r p k t).getD 0) none = 1000000000 by simp [lvI]), e294]
            rfl
          | some t =>
            have t2 : (rW g r p k t).getD 0 ≤ 5760 := bs_le B (by omega)
            rw [show lvI 1000000000 (fun t => (rW g r p k t).getD 0) (some t) = nI ((rW g r p k t).getD 0) from rfl, if_pos (oF_ne (by omega)), e294, nI_add]
            rfl) I2 ⟨F2, fun h' c a1 a2 a3 => R2 h' c (by omega) a2 a3, fun c' h => absurd h (Nat.not_lt_zero c')⟩
    have M3 := rm_fr (frM4 F3) M
    refine ⟨I3, ⟨F3, fun h' c a1 a2 a3 => ?_⟩, ?_⟩
    · by_cases e : h' = h
      · rw [e, hh2]; exact U3 c a3
      · exact R3 h' c (by omega) a2 a3
    · try dsimp only
      rw [e3, b_X9_findWalk_146, if_neg (nI_pos (by omega))]
      refine e3'.trans ?_
      try dsimp only
      rw [b_X9_findWalk_153, sp_cells, Option.bind_some, am_k_v, b_X9_findWalk_159, rm_W M3, rm_D M3, pk_mul, if_pos (nI_le (by omega) (by omega))]
      rw [show Int32.ofInt (-1) = (-1 : Int32) from rfl, ← Int32.sub_eq_add_neg]) I1 ⟨F1, fun h c a1 a2 a3 => by
        rw [show h = gN g by omega, Nat.sub_self, Z1 c a3]; rfl⟩
  refine ⟨I2, ?_, frM4 F2, F2, fun h c a1 a2 => R2 h c (by omega) a1 a2⟩
  refine e1.trans ?_
  try dsimp only
  rw [b_X9_findWalk_110, sp_cells, Option.bind_some, am_k_v, b_X9_findWalk_115, rm_W M1, rm_D M1, pk_mul, if_pos (nI_le (by omega) (by omega)), rm_N M1]
  refine Eq.trans e2 ?_
  try dsimp only
  rw [Nat.sub_self, b_X9_findWalk_146, if_pos (show nI 0 - 1 < 0 by decide)]
theorem sp_find (M : RM g I) (B : BG g) (C : m0 I) (MQ : QM g r I) (Q : BQ g r) {p : Nat} (hp : p < gP g) : ∃ I', am_ev (am_tbl Ls xs) 56 (0, [(0, .ref 81), (1, .int (nI p))], [], (am_sh, I, J)) = some (none, (am_sh, I', J)) ∧ frM I I' ∧ (∀ h c, h < gN g → c < gW g * gD g → I' 103 (48 * h + c) = txI g r p h c) ∧ ∀ h c, h ≤ gN g → c < gW g * gD g → I' 104 (48 * h + c) = oF (rW g r p (gN g - h) c) := by
  have b1 := bg_1 B
  obtain ⟨I1, e1, F1, G1, T1⟩ := sp_tax (Ls := Ls) (xs := xs) (J := J) M B C MQ Q hp
  obtain ⟨I2, e2, F2, G2, R2⟩ := sp_rest (Ls := Ls) (xs := xs) (J := J) (rm_fr F1 M) B T1
  refine ⟨I2, ?_, frM_tr F1 F2, fun h c a1 a2 => (G2 103 _ (by omega)).trans (T1 h c a1 a2), R2⟩
  rw [b_X9_findWalk_0]
  simp (disch := omega) only [Option.bind_some, am_k_v, am_k_n, ↓n_in, nI_clamp, i_p1, nI_leI, nI_ltI, nI_eq, n_lt0, n_le0, n_eq0, n_gt0, n_lm, n_em, n_me, n_mlt, false_or, or_false, true_or, or_true, false_and, and_false, true_and, and_true, not_false_eq_true, not_true_eq_false, if_true, if_false, if_pos, if_neg, am_b01, am_b0, am_b1, ne_eq, eq_self, reduceCtorEq, rng_t, Bool.and_true, Bool.and_false, Bool.true_and, Bool.false_and, ite_rgI, if_pos rfl]
  exact e1.trans e2
/-- the walk, hour by hour: where from there on it is as cheap as it was -/
theorem sp_go (M : RM g I) (B : BG g) {p : Nat} (hp : p < gP g) {v : Nat} (hv : rW g r p (gN g) (gA g p) = some v) (T : ∀ h c, h < gN g → c < gW g * gD g → I 103 (48 * h + c) = txI g r p h c) (R : ∀ h c, h ≤ gN g → c < gW g * gD g → I 104 (48 * h + c) = oF (rW g r p (gN g - h) c)) {h : Nat} (hh : h < gN g) : am_ev (am_tbl Ls xs) 57 (76, [(0, .ref 81), (2, .int (nI h)), (3, .int (nI (gA g p))), (5, .int 1)], [], (am_sh, I, J)) = some (some (.int (nI (nam g (ptW g r p h)))), (am_sh, I, J)) := by
  have b1 := bg_1 B
  have b2 := bg_p B hp
  have hpt := ptW_ok (r := r) b2.2.2.2 hv
  refine Eq.trans ?_ ((lp (N := h) (f := fun k => am_ev (am_tbl Ls xs) 57 (76, [(0, .ref 81), (2, .int (nI h)), (3, .int (nI (ptW g r p k))), (5, .int (nI (k + 1)))], [], (am_sh, I, J))) ?_).trans ?_)
  · rfl
  · intro k hk
    obtain ⟨c1, c2⟩ := hpt k (by omega)
    try dsimp only
    have hj : gN g - k = (gN g - (k + 1)) + 1 := by omega
    have hok : okW g r p (ptW g r p k) k = true ∧ ∃ t, bsW g (rW g r p (gN g - (k + 1))) (ptW g r p k) = some t := by
      rw [hj, rW_s, show gN g - (gN g - (k + 1) + 1) = k by omega] at c2
      split at c2
      · rename_i hok
        refine ⟨hok, ?_⟩
        cases hb : bsW g (rW g r p (gN g - (k + 1))) (ptW g r p k) with
        | none => rw [hb] at c2; cases c2
        | some t => exact ⟨t, rfl⟩
      · cases c2
    obtain ⟨hok, t, hb⟩ := hok
    have hpk : ptW g r p (k + 1) = t := by
      show (bsW g (rW g r p (gN g - (k + 1))) (ptW g r p k)).getD 0 = t
      rw [hb]; rfl
    have hR : rW g r p (gN g - k) (ptW g r p k) = some (txW g p k (ptW g r p k) + (rW g r p (gN g - (k + 1)) t).getD 0) := by
      rw [hj, rW_s, show gN g - (gN g - (k + 1) + 1) = k by omega, if_pos hok, hb]
    have eT := T k (ptW g r p k) (by omega) c1
    have eR := R k (ptW g r p k) (by omega) c1
    rw [hR] at eR
    rw [show txI g r p k (ptW g r p k) = nI (txW g p k (ptW g r p k)) from if_pos hok] at eT
    have t1 := txW_le B (p := p) (h := k) (c := ptW g r p k) (by omega)
    have t2 : (rW g r p (gN g - (k + 1)) t).getD 0 ≤ 5760 := bs_le B (by omega)
    have hlt := fls_lt hb
    have hmn := fls_min hb
    rw [hpk]
    generalize ptW g r p k = c at c1 eT eR hb hmn hlt t1 ⊢
    have e48 : (48 : Int32) * (nI (k + 1) - 1) + nI c = nI (48 * k + c) := by rw [nI_pred, show (48 : Int32) = nI 48 from rfl, pk_mul, nI_add]
    rw [b_X9_walk_76]
    simp (disch := omega) only [Option.bind_some, am_k_v, am_k_n, ↓n_in, nI_clamp, i_p1, nI_leI, nI_ltI, nI_eq, n_lt0, n_le0, n_eq0, n_gt0, n_lm, n_em, n_me, n_mlt, false_or, or_false, true_or, or_true, false_and, and_false, true_and, and_true, not_false_eq_true, not_true_eq_false, if_true, if_false, if_pos, if_neg, am_b01, am_b0, am_b1, ne_eq, eq_self, reduceCtorEq, rng_t, Bool.and_true, Bool.and_false, Bool.true_and, Bool.false_and, ite_rgI, if_pos rfl, e48, eT, eR, oF, pk_sub, Nat.add_sub_cancel_left]
    have hs : am_ev (am_tbl Ls xs) 57 (116, [(0, .ref 81), (2, .int (nI h)), (3, .int (nI c)), (5, .int (nI (k + 1))), (6, .int (nI ((rW g r p (gN g - (k + 1)) t).getD 0))), (7, .int 0)], [], (am_sh, I, J)) = am_ev (am_tbl Ls xs) 57 (116, [(0, .ref 81), (2, .int (nI h)), (3, .int (nI c)), (5, .int (nI (k + 1))), (6, .int (nI ((rW g r p (gN g - (k + 1)) t).getD 0))), (7, .int (nI t))], [], (am_sh, I, J)) := by
      refine (lp (N := t) (f := fun s => am_ev (am_tbl Ls xs) 57 (116, [(0, .ref 81), (2, .int (nI h)), (3, .int (nI c)), (5, .int (nI (k + 1))), (6, .int (nI ((rW g r p (gN g - (k + 1)) t).getD 0))), (7, .int (nI s))], [], (am_sh, I, J))) ?_).trans ?_
      · intro s hst
        try dsimp only
        rw [b_X9_walk_116, sp_isStep M B c1 (show s < gW g * gD g by omega), Option.bind_some, am_k_v, b_X9_walk_123]
        have e482 : (48 : Int32) * nI (k + 1) + nI s = nI (48 * (k + 1) + s) := by rw [show (48 : Int32) = nI 48 from rfl, pk_mul, nI_add]
        have eRs := R (k + 1) s (by omega) (by omega)
        cases hss : stpW g c s
        · rw [if_pos (show am_b false = 0 from rfl), b_X9_walk_144, i_p1]
        · rw [if_neg (show ¬ am_b true = 0 by decide)]
          simp (disch := omega) only [Option.bind_some, am_k_v, am_k_n, ↓n_in, nI_clamp, i_p1, nI_leI, nI_ltI, nI_eq, n_lt0, n_le0, n_eq0, n_gt0, n_lm, n_em, n_me, n_mlt, false_or, or_false, true_or, or_true, false_and, and_false, true_and, and_true, not_false_eq_true, not_true_eq_false, if_true, if_false, if_pos, if_neg, am_b01, am_b0, am_b1, ne_eq, eq_self, reduceCtorEq, rng_t, Bool.and_true, Bool.and_false, Bool.true_and, Bool.false_and, ite_rgI, if_pos rfl, e482, eRs, b_X9_walk_144]
          rw [if_neg]
          cases hv2 : rW g r p (gN g - (k + 1)) s with
          | none => exact fun q => oF_ne (show (rW g r p (gN g - (k + 1)) t).getD 0 ≤ 100000 by omega) q.symm
          | some v2 =>
            have hm2 := hmn.2 s hst (by rw [hss, hv2]; rfl)
            rw [hv2] at hm2
            have hm3 : (rW g r p (gN g - (k + 1)) t).getD 0 < v2 := hm2
            have hv3 := rW_le2 B (by omega) hv2
            show ¬ nI v2 = _
            rw [nI_eq (by omega) (by omega)]
            omega
      · rfl
    refine Eq.trans hs ?_
    have e483 : (48 : Int32) * nI (k + 1) + nI t = nI (48 * (k + 1) + t) := by rw [show (48 : Int32) = nI 48 from rfl, pk_mul, nI_add]
    have eRt := R (k + 1) t (by omega) hlt.1
    have hst2 := Bool.and_eq_true_iff.mp hlt.2
    rw [b_X9_walk_116, sp_isStep M B c1 hlt.1, Option.bind_some, am_k_v, b_X9_walk_123, hst2.1, if_neg (show ¬ am_b true = 0 by decide)]
    simp (disch := omega) only [Option.bind_some, am_k_v, am_k_n, ↓n_in, nI_clamp, i_p1, nI_leI, nI_ltI, nI_eq, n_lt0, n_le0, n_eq0, n_gt0, n_lm, n_em, n_me, n_mlt, false_or, or_false, true_or, or_true, false_and, and_false, true_and, and_true, not_false_eq_true, not_true_eq_false, if_true, if_false, if_pos, if_neg, am_b01, am_b0, am_b1, ne_eq, eq_self, reduceCtorEq, rng_t, Bool.and_true, Bool.and_false, Bool.true_and, Bool.false_and, ite_rgI, if_pos rfl, e483, eRt]
    rw [if_pos]
    cases hv2 : rW g r p (gN g - (k + 1)) t with
    | none => have := hst2.2; rw [hv2] at this; cases this
    | some v2 => rfl
  · have c1 := hpt h hh
    try dsimp only
    rw [b_X9_walk_76]
    simp (disch := omega) only [Option.bind_some, am_k_v, am_k_n, ↓n_in, nI_clamp, i_p1, nI_leI, nI_ltI, nI_eq, n_lt0, n_le0, n_eq0, n_gt0, n_lm, n_em, n_me, n_mlt, false_or, or_false, true_or, or_true, false_and, and_false, true_and, and_true, not_false_eq_true, not_true_eq_false, if_true, if_false, if_pos, if_neg, am_b01, am_b0, am_b1, ne_eq, eq_self, reduceCtorEq, rng_t, Bool.and_true, Bool.and_false, Bool.true_and, Bool.false_and, ite_rgI, if_pos rfl, sp_told10 M B, b_X9_walk_164]
theorem pu_walk (H : Inv I J) (p h : Int32) : StpC Ls xs 90 57 [(0, .ref 0), (1, .int p), (2, .int h)] [(0, .ref 81), (1, .int p), (2, .int h)] I J := by
  obtain ⟨g, r, S, Q, ⟨X, XQ, D⟩, ⟨M, MQ, C⟩⟩ := id H
  have B := S.1
  have b1 := bg_1 B
  rcases rng_or (gP g) (by omega) p with ⟨p, hp, rfl⟩ | hp
  · by_cases hbad : ¬ h = -1 ∧ rng (gN g) h = false
    · refine stp_pure H (v := -1000000001) ?_ ?_
      · simp (disch := omega) only [b_X8_walk_0, b_X8_walk_8, b_X8_walk_24, b_X8_walk_27, Option.bind_some, am_k_v, am_k_n, ↓n_in, nI_clamp, i_p1, nI_leI, nI_ltI, nI_eq, n_lt0, n_le0, n_eq0, n_gt0, n_lm, n_em, n_me, n_mlt, false_or, or_false, true_or, or_true, false_and, and_false, true_and, and_true, not_false_eq_true, not_true_eq_false, if_true, if_false, if_pos, if_neg, am_b01, am_b0, am_b1, ne_eq, eq_self, reduceCtorEq, rng_t, Bool.and_true, Bool.and_false, Bool.true_and, Bool.false_and, ite_rgI, if_pos rfl, sx_personA X, sx_hourA X, hbad.1, hbad.2]
      · simp (disch := omega) only [b_X9_walk_0, b_X9_walk_5, b_X9_walk_18, b_X9_walk_21, Option.bind_some, am_k_v, am_k_n, ↓n_in, nI_clamp, i_p1, nI_leI, nI_ltI, nI_eq, n_lt0, n_le0, n_eq0, n_gt0, n_lm, n_em, n_me, n_mlt, false_or, or_false, true_or, or_true, false_and, and_false, true_and, and_true, not_false_eq_true, not_true_eq_false, if_true, if_false, if_pos, if_neg, am_b01, am_b0, am_b1, ne_eq, eq_self, reduceCtorEq, rng_t, Bool.and_true, Bool.and_false, Bool.true_and, Bool.false_and, ite_rgI, if_pos rfl, sp_personA M B, sp_hourA M B, hbad.1, hbad.2]
    · have b2 := bg_p B hp
      obtain ⟨I1, e1, F1, L1⟩ := sx_leastMean (Ls := Ls) (xs := xs) X B D XQ Q hp
      have X1 : InX g r I1 J := inx_cong B (fun q k h => F1 q k (by unfold xS xQ at h; omega)) (fun _ => rfl) ⟨X, XQ, D⟩
      have M1 : InM g r I1 := inm_x (fun q k h => F1 q k (by omega)) ⟨M, MQ, C⟩
      obtain ⟨I2, e2, F2, T2, R2⟩ := sp_find (Ls := Ls) (xs := xs) (J := J) M1.1 B M1.2.2 M1.2.1 Q hp
      have X2 := inx_fr B F2 X1
      have M2 := inm_fr F2 M1
      have eA := R2 0 (gA g p) (by omega) b2.2.2.2
      rw [Nat.mul_zero, Nat.zero_add, Nat.sub_zero] at eA
      have hx : am_ev (am_tbl Ls xs) 90 (0, [(0, .ref 0), (1, .int (nI p)), (2, .int h)], [], (am_sh, I, J)) = am_ev (am_tbl Ls xs) 90 (30, [(0, .ref 0), (1, .int (nI p)), (2, .int h)], [], (am_sh, I, J)) := by
        by_cases z : h = -1
        · simp (disch := omega) only [b_X8_walk_0, b_X8_walk_8, Option.bind_some, am_k_v, am_k_n, ↓n_in, nI_clamp, i_p1, nI_leI, nI_ltI, nI_eq, n_lt0, n_le0, n_eq0, n_gt0, n_lm, n_em, n_me, n_mlt, false_or, or_false, true_or, or_true, false_and, and_false, true_and, and_true, not_false_eq_true, not_true_eq_false, if_true, if_false, if_pos, if_neg, am_b01, am_b0, am_b1, ne_eq, eq_self, reduceCtorEq, rng_t, Bool.and_true, Bool.and_false, Bool.true_and, Bool.false_and, ite_rgI, if_pos rfl, sx_personA X, z]
        · have hr : rng (gN g) h = true := by cases hx : rng (gN g) h; exact absurd ⟨z, hx⟩ hbad; rfl
          simp (disch := omega) only [b_X8_walk_0, b_X8_walk_8, b_X8_walk_24, Option.bind_some, am_k_v, am_k_n, ↓n_in, nI_clamp, i_p1, nI_leI, nI_ltI, nI_eq, n_lt0, n_le0, n_eq0, n_gt0, n_lm, n_em, n_me, n_mlt, false_or, or_false, true_or, or_true, false_and, and_false, true_and, and_true, not_false_eq_true, not_true_eq_false, if_true, if_false, if_pos, if_neg, am_b01, am_b0, am_b1, ne_eq, eq_self, reduceCtorEq, rng_t, Bool.and_true, Bool.and_false, Bool.true_and, Bool.false_and, ite_rgI, if_pos rfl, sx_personA X, sx_hourA X, z, hr]
      have hm : am_ev (am_tbl Ls xs) 57 (0, [(0, .ref 81), (1, .int (nI p)), (2, .int h)], [], (am_sh, I1, J)) = am_ev (am_tbl Ls xs) 57 (25, [(0, .ref 81), (1, .int (nI p)), (2, .int h)], [], (am_sh, I1, J)) := by
        by_cases z : h = -1
        · simp (disch := omega) only [b_X9_walk_0, b_X9_walk_5, Option.bind_some, am_k_v, am_k_n, ↓n_in, nI_clamp, i_p1, nI_leI, nI_ltI, nI_eq, n_lt0, n_le0, n_eq0, n_gt0, n_lm, n_em, n_me, n_mlt, false_or, or_false, true_or, or_true, false_and, and_false, true_and, and_true, not_false_eq_true, not_true_eq_false, if_true, if_false, if_pos, if_neg, am_b01, am_b0, am_b1, ne_eq, eq_self, reduceCtorEq, rng_t, Bool.and_true, Bool.and_false, Bool.true_and, Bool.false_and, ite_rgI, if_pos rfl, sp_personA M1.1 B, z]
        · have hr : rng (gN g) h = true := by cases hx : rng (gN g) h; exact absurd ⟨z, hx⟩ hbad; rfl
          simp (disch := omega) only [b_X9_walk_0, b_X9_walk_5, b_X9_walk_18, Option.bind_some, am_k_v, am_k_n, ↓n_in, nI_clamp, i_p1, nI_leI, nI_ltI, nI_eq, n_lt0, n_le0, n_eq0, n_gt0, n_lm, n_em, n_me, n_mlt, false_or, or_false, true_or, or_true, false_and, and_false, true_and, and_true, not_false_eq_true, not_true_eq_false, if_true, if_false, if_pos, if_neg, am_b01, am_b0, am_b1, ne_eq, eq_self, reduceCtorEq, rng_t, Bool.and_true, Bool.and_false, Bool.true_and, Bool.false_and, ite_rgI, if_pos rfl, sp_personA M1.1 B, sp_hourA M1.1 B, z, hr]
      have hx2 : am_ev (am_tbl Ls xs) 90 (30, [(0, .ref 0), (1, .int (nI p)), (2, .int h)], [], (am_sh, I, J)) = am_ev (am_tbl Ls xs) 90 (38, [(0, .ref 0), (1, .int (nI p)), (2, .int h)], [.int (oN (rW g r p (gN g) (gA g p)))], (am_sh, I1, J)) := by
        rw [b_X8_walk_30, e1, Option.bind_some, am_k_v]
      have hm2 : am_ev (am_tbl Ls xs) 57 (25, [(0, .ref 81), (1, .int (nI p)), (2, .int h)], [], (am_sh, I1, J)) = am_ev (am_tbl Ls xs) 57 (30, [(0, .ref 81), (1, .int (nI p)), (2, .int h)], [], (am_sh, I2, J)) := by
        rw [b_X9_walk_25, e2, Option.bind_some, am_k_n]
      cases hv : rW g r p (gN g) (gA g p) with
      | none =>
        rw [hv] at hx2 eA
        refine ⟨-1, I1, J, I2, J, ?_, ?_, ⟨g, r, S, Q, X2, M2⟩⟩
        · refine hx.trans (hx2.trans ?_)
          rw [b_X8_walk_38, if_pos (show oN none = -1 from rfl), b_X8_walk_49]
          rfl
        · refine hm.trans (hm2.trans ?_)
          rw [b_X9_walk_30]
          simp (disch := omega) only [Option.bind_some, am_k_v, am_k_n, ↓n_in, nI_clamp, i_p1, nI_leI, nI_ltI, nI_eq, n_lt0, n_le0, n_eq0, n_gt0, n_lm, n_em, n_me, n_mlt, false_or, or_false, true_or, or_true, false_and, and_false, true_and, and_true, not_false_eq_true, not_true_eq_false, if_true, if_false, if_pos, if_neg, am_b01, am_b0, am_b1, ne_eq, eq_self, reduceCtorEq, rng_t, Bool.and_true, Bool.and_false, Bool.true_and, Bool.false_and, ite_rgI, if_pos rfl, rm_A M2.1, eA]
          rw [if_pos (show oF none = 1000000000 from rfl), b_X9_walk_58, if_neg (show ¬ ¬ oF none = 1000000000 by simp [oF]), b_X9_walk_72]
      | some v =>
        have hv2 := rW_le2 B (Nat.le_refl _) hv
        rw [hv] at hx2 eA
        by_cases z : h = -1
        · refine ⟨nI v, I1, J, I2, J, ?_, ?_, ⟨g, r, S, Q, X2, M2⟩⟩
          · refine hx.trans (hx2.trans ?_)
            rw [b_X8_walk_38, if_neg (show ¬ oN (some v) = -1 from fun q => (n_em (show v < 2147483648 by omega)).mp q), if_neg (show ¬ h ≠ -1 from fun q => q z), b_X8_walk_49]
            rfl
          · refine hm.trans (hm2.trans ?_)
            rw [b_X9_walk_30]
            simp (disch := omega) only [Option.bind_some, am_k_v, am_k_n, ↓n_in, nI_clamp, i_p1, nI_leI, nI_ltI, nI_eq, n_lt0, n_le0, n_eq0, n_gt0, n_lm, n_em, n_me, n_mlt, false_or, or_false, true_or, or_true, false_and, and_false, true_and, and_true, not_false_eq_true, not_true_eq_false, if_true, if_false, if_pos, if_neg, am_b01, am_b0, am_b1, ne_eq, eq_self, reduceCtorEq, rng_t, Bool.and_true, Bool.and_false, Bool.true_and, Bool.false_and, ite_rgI, if_pos rfl, rm_A M2.1, eA, z]
            rw [if_neg (show ¬ oF (some v) = 1000000000 from oF_ne (by omega)), b_X9_walk_58, if_pos (show ¬ oF (some v) = 1000000000 from oF_ne (by omega)), b_X9_walk_72]
            rfl
        · rcases rng_or (gN g) (by omega) h with ⟨h, hh, rfl⟩ | hr
          · have hpt := ptW_ok (r := r) b2.2.2.2 hv h hh
            refine ⟨nI (nam g (ptW g r p h)), I1, J, I2, J, ?_, ?_, ⟨g, r, S, Q, X2, M2⟩⟩
            · refine hx.trans (hx2.trans ?_)
              rw [b_X8_walk_38, if_neg (show ¬ oN (some v) = -1 from fun q => (n_em (show v < 2147483648 by omega)).mp q), if_pos z, sx_cellAtH X1.1 B hp hv L1 hh, Option.bind_some, am_k_v, b_X8_walk_64, sx_nameOf X1.1 B hpt.1, Option.bind_some, am_k_v, b_X8_walk_67]
            · refine hm.trans (hm2.trans ?_)
              rw [b_X9_walk_30]
              simp (disch := omega) only [Option.bind_some, am_k_v, am_k_n, ↓n_in, nI_clamp, i_p1, nI_leI, nI_ltI, nI_eq, n_lt0, n_le0, n_eq0, n_gt0, n_lm, n_em, n_me, n_mlt, false_or, or_false, true_or, or_true, false_and, and_false, true_and, and_true, not_false_eq_true, not_true_eq_false, if_true, if_false, if_pos, if_neg, am_b01, am_b0, am_b1, ne_eq, eq_self, reduceCtorEq, rng_t, Bool.and_true, Bool.and_false, Bool.true_and, Bool.false_and, ite_rgI, if_pos rfl, rm_A M2.1, eA]
              rw [if_neg (show ¬ oF (some v) = 1000000000 from oF_ne (by omega))]
              exact sp_go M2.1 B hp hv T2 R2 hh
          · exact absurd ⟨z, hr⟩ hbad
  · refine stp_pure H (v := -1000000001) ?_ ?_
    · simp (disch := omega) only [b_X8_walk_0, b_X8_walk_8, b_X8_walk_24, b_X8_walk_27, Option.bind_some, am_k_v, am_k_n, ↓n_in, nI_clamp, i_p1, nI_leI, nI_ltI, nI_eq, n_lt0, n_le0, n_eq0, n_gt0, n_lm, n_em, n_me, n_mlt, false_or, or_false, true_or, or_true, false_and, and_false, true_and, and_true, not_false_eq_true, not_true_eq_false, if_true, if_false, if_pos, if_neg, am_b01, am_b0, am_b1, ne_eq, eq_self, reduceCtorEq, rng_t, Bool.and_true, Bool.and_false, Bool.true_and, Bool.false_and, ite_rgI, if_pos rfl, sx_personA X, hp]
    · simp (disch := omega) only [b_X9_walk_0, b_X9_walk_5, b_X9_walk_18, b_X9_walk_21, Option.bind_some, am_k_v, am_k_n, ↓n_in, nI_clamp, i_p1, nI_leI, nI_ltI, nI_eq, n_lt0, n_le0, n_eq0, n_gt0, n_lm, n_em, n_me, n_mlt, false_or, or_false, true_or, or_true, false_and, and_false, true_and, and_true, not_false_eq_true, not_true_eq_false, if_true, if_false, if_pos, if_neg, am_b01, am_b0, am_b1, ne_eq, eq_self, reduceCtorEq, rng_t, Bool.and_true, Bool.and_false, Bool.true_and, Bool.false_and, ite_rgI, if_pos rfl, sp_personA M B, hp]
end
