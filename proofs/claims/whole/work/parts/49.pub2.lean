/-! CALLS THAT CHANGE A LITTLE -/
def anyb (f : Nat → Bool) : Nat → Bool
  | 0 => false
  | n + 1 => anyb f n || f n
theorem anyb_s {f : Nat → Bool} {n : Nat} : anyb f (n + 1) = (anyb f n || f n) := rfl
theorem anyb_iff {f : Nat → Bool} : ∀ {n : Nat}, anyb f n = true ↔ ∃ p, p < n ∧ f p = true
  | 0 => ⟨(fun q => by cases q), fun ⟨p, q, _⟩ => absurd q (Nat.not_lt_zero p)⟩
  | n + 1 => by
    rw [anyb_s, Bool.or_eq_true_iff, anyb_iff (n := n)]
    constructor
    · rintro (⟨p, h1, h2⟩ | h)
      · exact ⟨p, by omega, h2⟩
      · exact ⟨n, by omega, h⟩
    · rintro ⟨p, h1, h2⟩
      rcases Nat.lt_or_ge p n with w | w
      · exact Or.inl ⟨p, w, h2⟩
      · exact Or.inr (by rw [show n = p by omega]; exact h2)
def allb (f : Nat → Bool) : Nat → Bool
  | 0 => true
  | n + 1 => allb f n && f n
theorem allb_s {f : Nat → Bool} {n : Nat} : allb f (n + 1) = (allb f n && f n) := rfl
theorem allb_iff {f : Nat → Bool} : ∀ {n : Nat}, allb f n = true ↔ ∀ p, p < n → f p = true
  | 0 => ⟨fun _ p q => absurd q (Nat.not_lt_zero p), fun _ => rfl⟩
  | n + 1 => by
    rw [allb_s, Bool.and_eq_true_iff, allb_iff (n := n)]
    constructor
    · rintro ⟨h1, h2⟩ p hp
      rcases Nat.lt_or_ge p n with w | w
      · exact h1 p w
      · rw [show p = n by omega]; exact h2
    · intro h
      exact ⟨fun p hp => h p (by omega), h n (by omega)⟩
theorem bft (b : Bool) : (b = false ∨ b = true) = True := eq_true (by cases b <;> simp)
theorem bool_eq {a b : Bool} (h : a = true ↔ b = true) : a = b := by
  cases a <;> cases b <;> simp at h ⊢
section
variable {Ls : Nat} {xs : Nat → Int32} {g : Vg} {r : Vr} {I I' : Nat → Nat → Int32} {J : Nat → Nat → Int64}
theorem rd_same {g' : Vg} (h1 : g.1 = g'.1) (h2 : g.2.1 = g'.2.1) (D : RD g J) : RD g' J := fun h hh => by
  rw [D h (by unfold gN at hh ⊢; rw [h1]; exact hh)]
  exact dk_same h1 h2
theorem xi_c2 {P o : Nat} {s : Vs} (e : ∀ q k, 38 ≤ q → q ≤ 47 → I' q k = I q k) (ho : o = 38 ∨ o = 43) (R : XI P s o I) : XI P s o I' :=
  ⟨fun p h1 => ⟨(e _ _ (by omega) (by omega)).trans (R.1 p h1).1, (e _ _ (by omega) (by omega)).trans (R.1 p h1).2.1, (e _ _ (by omega) (by omega)).trans (R.1 p h1).2.2⟩, fun c h1 => (e _ _ (by omega) (by omega)).trans (R.2.1 c h1), (e _ _ (by omega) (by omega)).trans R.2.2.1, (e _ _ (by omega) (by omega)).trans R.2.2.2.1, (e _ _ (by omega) (by omega)).trans R.2.2.2.2⟩
theorem mi_c2 {P o : Nat} {s : Vs} (e : ∀ k, I' 113 k = I 113 k) (R : MI P s o I) : MI P s o I' :=
  ⟨fun p h1 => ⟨(e _).trans (R.1 p h1).1, (e _).trans (R.1 p h1).2.1, (e _).trans (R.1 p h1).2.2⟩, fun c h1 => (e _).trans (R.2.1 c h1), (e _).trans R.2.2.1, (e _).trans R.2.2.2.1, (e _).trans R.2.2.2.2⟩
theorem bs_A {p c : Nat} (S : BS g) (hc : c < gW g * gD g) (h0 : gH g c = 0) : BS (setA g (fset (gA g) p c)) := by
  obtain ⟨⟨b1, b2, b3, b4⟩, s2, s3⟩ := S
  refine ⟨⟨b1, b2, fun q hq => ?_, b4⟩, fun q hq => ?_, s3⟩
  · have := b3 q hq
    refine ⟨this.1, this.2.1, this.2.2.1, ?_⟩
    show fset (gA g) p c q < gW g * gD g
    by_cases e : q = p
    · rw [e, fset_eq]; exact hc
    · rw [fset_ne e]; exact this.2.2.2
  · show gH g (fset (gA g) p c q) = 0
    by_cases e : q = p
    · rw [e, fset_eq]; exact h0
    · rw [fset_ne e]; exact s2 q hq
theorem bs_F {p c : Nat} (S : BS g) (hc : c ≤ 1) : BS (setF g (fset (gF g) p c)) := by
  obtain ⟨⟨b1, b2, b3, b4⟩, s2, s3⟩ := S
  refine ⟨⟨b1, b2, fun q hq => ?_, b4⟩, s2, s3⟩
  have := b3 q hq
  refine ⟨this.1, this.2.1, ?_, this.2.2.2⟩
  show fset (gF g) p c q ≤ 1
  by_cases e : q = p
  · rw [e, fset_eq]; exact hc
  · rw [fset_ne e]; exact this.2.2.1
theorem bg_setH {c t : Nat} (B : BG g) (ht : t ≤ 9) : BG (setH g (fset (gH g) c t)) := by
  obtain ⟨b1, b2, b3, b4⟩ := B
  refine ⟨b1, b2, b3, fun q hq => ?_⟩
  show fset (gH g) c t q ≤ 9
  by_cases e : q = c
  · rw [e, fset_eq]; exact ht
  · rw [fset_ne e]; exact b4 q hq
theorem bs_H {c t : Nat} (S : BS g) (ht : t ≤ 9) (h0 : t = 0 ∨ ∀ p, p < gP g → gA g p ≠ c) : BS (setH g (fset (gH g) c t)) := by
  refine ⟨bg_setH S.1 ht, fun q hq => ?_, S.2.2⟩
  show fset (gH g) c t (gA g q) = 0
  by_cases e : gA g q = c
  · rw [e, fset_eq]
    rcases h0 with z | z
    · exact z
    · exact absurd e (z q hq)
  · rw [fset_ne e]; exact S.2.1 q hq
theorem pu_go (H : Inv I J) (p x y : Int32) : StpC Ls xs 83 42 [(0, .ref 0), (1, .int p), (2, .int x), (3, .int y)] [(0, .ref 81), (1, .int p), (2, .int x), (3, .int y)] I J := by
  obtain ⟨g, r, S, Q, ⟨X, XQ, D⟩, ⟨M, MQ, C⟩⟩ := id H
  have B := S.1
  have b1 := bg_1 B
  rcases rng_or (gP g) (by omega) p with ⟨p, hp, rfl⟩ | hp
  · by_cases hxy : rng (gW g) x = false ∨ rng (gD g) y = false
    · refine stp_pure H (v := -1000000001) ?_ ?_
      · simp (disch := omega) only [b_X8_go_0, b_X8_go_9, b_X8_go_19, b_X8_go_28, b_X8_go_78, Option.bind_some, am_k_v, am_k_n, ↓n_in, nI_clamp, i_p1, nI_leI, nI_ltI, nI_eq, n_lt0, n_le0, n_eq0, n_gt0, n_lm, n_em, n_me, n_mlt, false_or, or_false, true_or, or_true, false_and, and_false, true_and, and_true, not_false_eq_true, not_true_eq_false, if_true, if_false, if_pos, if_neg, am_b01, am_b0, am_b1, ne_eq, eq_self, reduceCtorEq, rng_t, Bool.and_true, Bool.and_false, Bool.true_and, Bool.false_and, ite_rgI, if_pos rfl, sx_personA X, sx_cellAtF X B hxy]
      · have : (rng (gW g) x && rng (gD g) y) = false := by rcases hxy with q | q <;> rw [q] <;> simp
        simp (disch := omega) only [b_X9_go_0, b_X9_go_5, b_X9_go_17, b_X9_go_14, b_X9_go_51, Option.bind_some, am_k_v, am_k_n, ↓n_in, nI_clamp, i_p1, nI_leI, nI_ltI, nI_eq, n_lt0, n_le0, n_eq0, n_gt0, n_lm, n_em, n_me, n_mlt, false_or, or_false, true_or, or_true, false_and, and_false, true_and, and_true, not_false_eq_true, not_true_eq_false, if_true, if_false, if_pos, if_neg, am_b01, am_b0, am_b1, ne_eq, eq_self, reduceCtorEq, rng_t, Bool.and_true, Bool.and_false, Bool.true_and, Bool.false_and, ite_rgI, if_pos rfl, sp_personA M B, sp_cellA M B, this]
    · rcases rng_or (gW g) (by omega) x with ⟨x, hx, rfl⟩ | hx
      · rcases rng_or (gD g) (by omega) y with ⟨y, hy, rfl⟩ | hy
        · have hc := cix_lt hx hy
          have b2 := bg_p B hp
          have b3 := bg_H B (show cix g x y < 48 by omega)
          by_cases h0 : gH g (cix g x y) = 0
          · have X' := rx_setA (c := cix g x y) X B hp
            have S' := bs_A (p := p) S hc h0
            have X2 : InX (setA g (fset (gA g) p (cix g x y))) r (am_up2 (am_up2 I 34 p (nI (cix g x y))) 87 p (nI (cix g x y))) J := inx_up S'.1 (by omega) ⟨X', qx_up (by unfold xQ; omega) XQ, rd_same (g := g) rfl rfl D⟩
            have M' : RM g (am_up2 I 34 p (nI (cix g x y))) := rm_up (by unfold mS; omega) M
            refine ⟨nI (nam g (gA g p)), am_up2 I 34 p (nI (cix g x y)), J, _, J, ?_, ?_, ⟨setA g (fset (gA g) p (cix g x y)), r, S', Q, X2, ⟨rm_setA M' hp, qm_up (by unfold mQ; omega) (qm_up (by unfold mQ; omega) MQ), m0_up (by unfold m4; omega) (m0_up (by unfold m4; omega) C)⟩⟩⟩
            · have hn := sx_nameOf (Ls := Ls) (xs := xs) (J := J) X' S'.1 b2.2.2.2
              simp (disch := omega) only [b_X8_go_0, b_X8_go_9, b_X8_go_19, b_X8_go_28, b_X8_go_78, Option.bind_some, am_k_v, am_k_n, ↓n_in, nI_clamp, i_p1, nI_leI, nI_ltI, nI_eq, n_lt0, n_le0, n_eq0, n_gt0, n_lm, n_em, n_me, n_mlt, false_or, or_false, true_or, or_true, false_and, and_false, true_and, and_true, not_false_eq_true, not_true_eq_false, if_true, if_false, if_pos, if_neg, am_b01, am_b0, am_b1, ne_eq, eq_self, reduceCtorEq, rng_t, Bool.and_true, Bool.and_false, Bool.true_and, Bool.false_and, ite_rgI, if_pos rfl, sx_personA X, sx_cellAtT X B hx hy, rx_H X, rx_A X]
              rw [hn]
              simp (disch := omega) only [b_X8_go_0, b_X8_go_9, b_X8_go_19, b_X8_go_28, b_X8_go_78, Option.bind_some, am_k_v, am_k_n, ↓n_in, nI_clamp, i_p1, nI_leI, nI_ltI, nI_eq, n_lt0, n_le0, n_eq0, n_gt0, n_lm, n_em, n_me, n_mlt, false_or, or_false, true_or, or_true, false_and, and_false, true_and, and_true, not_false_eq_true, not_true_eq_false, if_true, if_false, if_pos, if_neg, am_b01, am_b0, am_b1, ne_eq, eq_self, reduceCtorEq, rng_t, Bool.and_true, Bool.and_false, Bool.true_and, Bool.false_and, ite_rgI, if_pos rfl]
              rfl
            · simp (disch := omega) only [b_X9_go_0, b_X9_go_5, b_X9_go_17, b_X9_go_14, b_X9_go_51, Option.bind_some, am_k_v, am_k_n, ↓n_in, nI_clamp, i_p1, nI_leI, nI_ltI, nI_eq, n_lt0, n_le0, n_eq0, n_gt0, n_lm, n_em, n_me, n_mlt, false_or, or_false, true_or, or_true, false_and, and_false, true_and, and_true, not_false_eq_true, not_true_eq_false, if_true, if_false, if_pos, if_neg, am_b01, am_b0, am_b1, ne_eq, eq_self, reduceCtorEq, rng_t, Bool.and_true, Bool.and_false, Bool.true_and, Bool.false_and, ite_rgI, if_pos rfl, sp_personA M' B, sp_cellA M' B, rm_W M', m_cix, rm_H M', rm_A M', sp_told10 M' B]
          · refine stp_pure H (v := -1000000003) ?_ ?_
            · simp (disch := omega) only [b_X8_go_0, b_X8_go_9, b_X8_go_19, b_X8_go_28, b_X8_go_78, Option.bind_some, am_k_v, am_k_n, ↓n_in, nI_clamp, i_p1, nI_leI, nI_ltI, nI_eq, n_lt0, n_le0, n_eq0, n_gt0, n_lm, n_em, n_me, n_mlt, false_or, or_false, true_or, or_true, false_and, and_false, true_and, and_true, not_false_eq_true, not_true_eq_false, if_true, if_false, if_pos, if_neg, am_b01, am_b0, am_b1, ne_eq, eq_self, reduceCtorEq, rng_t, Bool.and_true, Bool.and_false, Bool.true_and, Bool.false_and, ite_rgI, if_pos rfl, sx_personA X, sx_cellAtT X B hx hy, rx_H X, h0]
            · simp (disch := omega) only [b_X9_go_0, b_X9_go_5, b_X9_go_17, b_X9_go_14, b_X9_go_51, Option.bind_some, am_k_v, am_k_n, ↓n_in, nI_clamp, i_p1, nI_leI, nI_ltI, nI_eq, n_lt0, n_le0, n_eq0, n_gt0, n_lm, n_em, n_me, n_mlt, false_or, or_false, true_or, or_true, false_and, and_false, true_and, and_true, not_false_eq_true, not_true_eq_false, if_true, if_false, if_pos, if_neg, am_b01, am_b0, am_b1, ne_eq, eq_self, reduceCtorEq, rng_t, Bool.and_true, Bool.and_false, Bool.true_and, Bool.false_and, ite_rgI, if_pos rfl, sp_personA M B, sp_cellA M B, rm_W M, m_cix, rm_H M, h0]
        · exact absurd (Or.inr hy) hxy
      · exact absurd (Or.inl hx) hxy
  · refine stp_pure H (v := -1000000001) ?_ ?_
    · rw [b_X8_go_0, sx_cellAt, Option.bind_some, am_k_v]
      simp (disch := omega) only [b_X8_go_0, b_X8_go_9, b_X8_go_19, b_X8_go_28, b_X8_go_78, Option.bind_some, am_k_v, am_k_n, ↓n_in, nI_clamp, i_p1, nI_leI, nI_ltI, nI_eq, n_lt0, n_le0, n_eq0, n_gt0, n_lm, n_em, n_me, n_mlt, false_or, or_false, true_or, or_true, false_and, and_false, true_and, and_true, not_false_eq_true, not_true_eq_false, if_true, if_false, if_pos, if_neg, am_b01, am_b0, am_b1, ne_eq, eq_self, reduceCtorEq, rng_t, Bool.and_true, Bool.and_false, Bool.true_and, Bool.false_and, ite_rgI, if_pos rfl, sx_personA X, hp]
    · simp (disch := omega) only [b_X9_go_0, b_X9_go_5, b_X9_go_17, b_X9_go_14, b_X9_go_51, Option.bind_some, am_k_v, am_k_n, ↓n_in, nI_clamp, i_p1, nI_leI, nI_ltI, nI_eq, n_lt0, n_le0, n_eq0, n_gt0, n_lm, n_em, n_me, n_mlt, false_or, or_false, true_or, or_true, false_and, and_false, true_and, and_true, not_false_eq_true, not_true_eq_false, if_true, if_false, if_pos, if_neg, am_b01, am_b0, am_b1, ne_eq, eq_self, reduceCtorEq, rng_t, Bool.and_true, Bool.and_false, Bool.true_and, Bool.false_and, ite_rgI, if_pos rfl, sp_personA M B, hp]
theorem pu_fold (H : Inv I J) (p a : Int32) (ha : a = 0 ∨ a = 1) : StpC Ls xs 84 43 [(0, .ref 0), (1, .int p), (2, .int a)] [(0, .ref 81), (1, .int p), (2, .int a)] I J := by
  obtain ⟨g, r, S, Q, ⟨X, XQ, D⟩, ⟨M, MQ, C⟩⟩ := id H
  have B := S.1
  have b1 := bg_1 B
  rcases rng_or (gP g) (by omega) p with ⟨p, hp, rfl⟩ | hp
  · have b2 := bg_p B hp
    obtain ⟨n, hn, hna⟩ : ∃ n, n ≤ 1 ∧ a = nI n := by
      rcases ha with q | q
      · exact ⟨0, by omega, q⟩
      · exact ⟨1, by omega, q⟩
    have hv : vp_nar .boolean (nI n) = nI n := by rw [← hna]; rcases ha with q | q <;> rw [q] <;> rfl
    have X' := rx_setF (c := n) X B hp
    have S' := bs_F (p := p) S hn
    have M' : RM g (am_up2 I 35 p (nI n)) := rm_up (by unfold mS; omega) M
    have X2 : InX (setF g (fset (gF g) p n)) r (am_up2 (am_up2 I 35 p (nI n)) 89 p (nI n)) J := inx_up S'.1 (by omega) ⟨X', qx_up (by unfold xQ; omega) XQ, rd_same (g := g) rfl rfl D⟩
    refine ⟨nI (gF g p), am_up2 I 35 p (nI n), J, _, J, ?_, ?_, ⟨setF g (fset (gF g) p n), r, S', Q, X2, ⟨rm_setF M' hp, qm_up (by unfold mQ; omega) (qm_up (by unfold mQ; omega) MQ), m0_up (by unfold m4; omega) (m0_up (by unfold m4; omega) C)⟩⟩⟩
    · simp (disch := omega) only [b_X8_fold_0, b_X8_fold_8, b_X8_fold_41, Option.bind_some, am_k_v, am_k_n, ↓n_in, nI_clamp, i_p1, nI_leI, nI_ltI, nI_eq, n_lt0, n_le0, n_eq0, n_gt0, n_lm, n_em, n_me, n_mlt, false_or, or_false, true_or, or_true, false_and, and_false, true_and, and_true, not_false_eq_true, not_true_eq_false, if_true, if_false, if_pos, if_neg, am_b01, am_b0, am_b1, ne_eq, eq_self, reduceCtorEq, rng_t, Bool.and_true, Bool.and_false, Bool.true_and, Bool.false_and, ite_rgI, if_pos rfl, sx_personA X, rx_F X]
      rcases ha with q | q
      · rw [if_pos q, ← hna, q]
      · rw [if_neg (by rw [q]; decide), ← hna, q]
    · simp (disch := omega) only [b_X9_fold_0, b_X9_fold_5, b_X9_fold_26, Option.bind_some, am_k_v, am_k_n, ↓n_in, nI_clamp, i_p1, nI_leI, nI_ltI, nI_eq, n_lt0, n_le0, n_eq0, n_gt0, n_lm, n_em, n_me, n_mlt, false_or, or_false, true_or, or_true, false_and, and_false, true_and, and_true, not_false_eq_true, not_true_eq_false, if_true, if_false, if_pos, if_neg, am_b01, am_b0, am_b1, ne_eq, eq_self, reduceCtorEq, rng_t, Bool.and_true, Bool.and_false, Bool.true_and, Bool.false_and, ite_rgI, if_pos rfl, sp_personA M' B, rm_F M', hv, hna]
      by_cases hf : gF g p = 0
      · rw [if_pos hf, hf]; rfl
      · rw [if_neg hf, show gF g p = 1 by omega]; rfl
  · refine stp_pure H (v := -1000000001) ?_ ?_
    · simp (disch := omega) only [b_X8_fold_0, b_X8_fold_8, b_X8_fold_41, Option.bind_some, am_k_v, am_k_n, ↓n_in, nI_clamp, i_p1, nI_leI, nI_ltI, nI_eq, n_lt0, n_le0, n_eq0, n_gt0, n_lm, n_em, n_me, n_mlt, false_or, or_false, true_or, or_true, false_and, and_false, true_and, and_true, not_false_eq_true, not_true_eq_false, if_true, if_false, if_pos, if_neg, am_b01, am_b0, am_b1, ne_eq, eq_self, reduceCtorEq, rng_t, Bool.and_true, Bool.and_false, Bool.true_and, Bool.false_and, ite_rgI, if_pos rfl, sx_personA X, hp]
    · simp (disch := omega) only [b_X9_fold_0, b_X9_fold_5, b_X9_fold_26, Option.bind_some, am_k_v, am_k_n, ↓n_in, nI_clamp, i_p1, nI_leI, nI_ltI, nI_eq, n_lt0, n_le0, n_eq0, n_gt0, n_lm, n_em, n_me, n_mlt, false_or, or_false, true_or, or_true, false_and, and_false, true_and, and_true, not_false_eq_true, not_true_eq_false, if_true, if_false, if_pos, if_neg, am_b01, am_b0, am_b1, ne_eq, eq_self, reduceCtorEq, rng_t, Bool.and_true, Bool.and_false, Bool.true_and, Bool.false_and, ite_rgI, if_pos rfl, sp_personA M B, hp]
theorem bs_R {n : Nat} (S : BS g) (hn : n ≤ 1) : BS (setR g n) := ⟨⟨⟨S.1.1.1, S.1.1.2.1, S.1.1.2.2.1, S.1.1.2.2.2.1, S.1.1.2.2.2.2.1, hn, S.1.1.2.2.2.2.2.2⟩, S.1.2⟩, S.2⟩
theorem pu_law (H : Inv I J) (a : Int32) : StpC Ls xs 85 44 [(0, .ref 0), (1, .int a)] [(0, .ref 81), (1, .int a)] I J := by
  obtain ⟨g, r, S, Q, ⟨X, XQ, D⟩, ⟨M, MQ, C⟩⟩ := id H
  have B := S.1
  have b1 := bg_1 B
  cases hr : rgI 0 1 a
  · refine stp_pure H (v := -1000000002) ?_ ?_
    · simp (disch := omega) only [b_X8_law_0, b_X8_law_9, Option.bind_some, am_k_v, am_k_n, ↓n_in, nI_clamp, i_p1, nI_leI, nI_ltI, nI_eq, n_lt0, n_le0, n_eq0, n_gt0, n_lm, n_em, n_me, n_mlt, false_or, or_false, true_or, or_true, false_and, and_false, true_and, and_true, not_false_eq_true, not_true_eq_false, if_true, if_false, if_pos, if_neg, am_b01, am_b0, am_b1, ne_eq, eq_self, reduceCtorEq, rng_t, Bool.and_true, Bool.and_false, Bool.true_and, Bool.false_and, ite_rgI, if_pos rfl, hr]
    · simp (disch := omega) only [b_X9_law_0, b_X9_law_7, Option.bind_some, am_k_v, am_k_n, ↓n_in, nI_clamp, i_p1, nI_leI, nI_ltI, nI_eq, n_lt0, n_le0, n_eq0, n_gt0, n_lm, n_em, n_me, n_mlt, false_or, or_false, true_or, or_true, false_and, and_false, true_and, and_true, not_false_eq_true, not_true_eq_false, if_true, if_false, if_pos, if_neg, am_b01, am_b0, am_b1, ne_eq, eq_self, reduceCtorEq, rng_t, Bool.and_true, Bool.and_false, Bool.true_and, Bool.false_and, ite_rgI, if_pos rfl, sp_in_0_1, hr]
  · obtain ⟨n, _, hn, hna⟩ := rgI_n (m := 0) (n := 1) rfl rfl hr
    have S' := bs_R S hn
    have X' : RX (setR g n) (am_up2 I 33 5 (nI n)) := rx_33 X B (setR g n) (Or.inr ⟨rfl, rfl, rfl, rfl, rfl⟩) ((up_ne (by omega)).trans (rx_M (g := g) X)) up_eq ((up_ne (by omega)).trans (rx_E (g := g) X))
    have M' : RM g (am_up2 I 33 5 (nI n)) := rm_up (by unfold mS; omega) M
    have X2 : InX (setR g n) r (am_up2 (am_up2 I 33 5 (nI n)) 81 15 (nI n)) J := inx_up S'.1 (by omega) ⟨X', qx_up (by unfold xQ; omega) XQ, rd_same (g := g) rfl rfl D⟩
    have M2 : RM (setR g n) (am_up2 (am_up2 I 33 5 (nI n)) 81 15 (nI n)) := rm_81 M' (setR g n) (by omega) ⟨rfl, rfl, rfl, rfl, rfl⟩ ((up_ne (by omega)).trans (rm_M (g := g) M')) up_eq ((up_ne (by omega)).trans (rm_E (g := g) M'))
    refine ⟨nI (gR g), am_up2 I 33 5 (nI n), J, _, J, ?_, ?_, ⟨setR g n, r, S', Q, X2, ⟨M2, qm_up (by unfold mQ; omega) (qm_up (by unfold mQ; omega) MQ), m0_up (by unfold m4; omega) (m0_up (by unfold m4; omega) C)⟩⟩⟩
    · simp (disch := omega) only [b_X8_law_0, b_X8_law_9, Option.bind_some, am_k_v, am_k_n, ↓n_in, nI_clamp, i_p1, nI_leI, nI_ltI, nI_eq, n_lt0, n_le0, n_eq0, n_gt0, n_lm, n_em, n_me, n_mlt, false_or, or_false, true_or, or_true, false_and, and_false, true_and, and_true, not_false_eq_true, not_true_eq_false, if_true, if_false, if_pos, if_neg, am_b01, am_b0, am_b1, ne_eq, eq_self, reduceCtorEq, rng_t, Bool.and_true, Bool.and_false, Bool.true_and, Bool.false_and, ite_rgI, if_pos rfl, hr, rx_R X]
      rw [hna]
    · simp (disch := omega) only [b_X9_law_0, b_X9_law_7, Option.bind_some, am_k_v, am_k_n, ↓n_in, nI_clamp, i_p1, nI_leI, nI_ltI, nI_eq, n_lt0, n_le0, n_eq0, n_gt0, n_lm, n_em, n_me, n_mlt, false_or, or_false, true_or, or_true, false_and, and_false, true_and, and_true, not_false_eq_true, not_true_eq_false, if_true, if_false, if_pos, if_neg, am_b01, am_b0, am_b1, ne_eq, eq_self, reduceCtorEq, rng_t, Bool.and_true, Bool.and_false, Bool.true_and, Bool.false_and, ite_rgI, if_pos rfl, sp_in_0_1, hr, rm_R M']
      rw [hna]
theorem bs_E {z : Int32} (S : BS g) (hz : ¬ z < 0) : BS (setE g z) := ⟨S.1, S.2.1, hz⟩
theorem pu_seed (H : Inv I J) (a : Int32) : StpC Ls xs 101 72 [(0, .ref 0), (1, .int a)] [(0, .ref 81), (1, .int a)] I J := by
  obtain ⟨g, r, S, Q, ⟨X, XQ, D⟩, ⟨M, MQ, C⟩⟩ := id H
  have B := S.1
  by_cases h0 : 0 ≤ a
  · have hz : ¬ a < 0 := by rw [i_leN] at h0; rw [i_ltN]; rw [i_0] at h0 ⊢; omega
    have S' := bs_E S hz
    have X' : RX (setE g a) (am_up2 I 33 6 a) := rx_33 X B (setE g a) (Or.inr ⟨rfl, rfl, rfl, rfl, rfl⟩) ((up_ne (by omega)).trans (rx_M (g := g) X)) ((up_ne (by omega)).trans (rx_R (g := g) X)) up_eq
    have M' : RM g (am_up2 I 33 6 a) := rm_up (by unfold mS; omega) M
    have X2 : InX (setE g a) r (am_up2 (am_up2 I 33 6 a) 81 16 a) J := inx_up S'.1 (by omega) ⟨X', qx_up (by unfold xQ; omega) XQ, rd_same (g := g) rfl rfl D⟩
    have M2 : RM (setE g a) (am_up2 (am_up2 I 33 6 a) 81 16 a) := rm_81 M' (setE g a) (by omega) ⟨rfl, rfl, rfl, rfl, rfl⟩ ((up_ne (by omega)).trans (rm_M (g := g) M')) ((up_ne (by omega)).trans (rm_R (g := g) M')) up_eq
    refine ⟨gE g, am_up2 I 33 6 a, J, _, J, ?_, ?_, ⟨setE g a, r, S', Q, X2, ⟨M2, qm_up (by unfold mQ; omega) (qm_up (by unfold mQ; omega) MQ), m0_up (by unfold m4; omega) (m0_up (by unfold m4; omega) C)⟩⟩⟩
    · rw [b_X8_seed_0, if_pos h0, rx_E X]
    · rw [b_X9_seed_0, if_pos h0, rm_E M']
  · refine stp_pure H (v := -1000000002) ?_ ?_
    · rw [b_X8_seed_0, if_neg h0]
    · rw [b_X9_seed_0, if_neg h0]
theorem sp_somebody (R : RM g I) (B : BG g) {c : Nat} (hc : c < 1000) : am_ev (am_tbl Ls xs) 45 (0, [(0, .ref 81), (1, .int (nI c))], [], (am_sh, I, J)) = some (some (.int (am_b (anyb (fun p => decide (gA g p = c)) (gP g)))), (am_sh, I, J)) := by
  have b1 := bg_1 B
  rw [b_X9_isSomebody_0]
  refine Eq.trans ?_ ((lp (N := gP g) (f := fun k => am_ev (am_tbl Ls xs) 45 (4, [(0, .ref 81), (1, .int (nI c)), (2, .int (am_b (anyb (fun p => decide (gA g p = c)) k))), (3, .int (nI k))], [], (am_sh, I, J))) ?_).trans ?_)
  · rfl
  · intro k hk
    have b3 := bg_p B hk
    try dsimp only
    rw [b_X9_isSomebody_4]
    simp (disch := omega) only [b_X9_isSomebody_0, b_X9_isSomebody_26, b_X9_isSomebody_31, Option.bind_some, am_k_v, am_k_n, ↓n_in, nI_clamp, i_p1, nI_leI, nI_ltI, nI_eq, n_lt0, n_le0, n_eq0, n_gt0, n_lm, n_em, n_me, n_mlt, false_or, or_false, true_or, or_true, false_and, and_false, true_and, and_true, not_false_eq_true, not_true_eq_false, if_true, if_false, if_pos, if_neg, am_b01, am_b0, am_b1, ne_eq, eq_self, reduceCtorEq, rng_t, Bool.and_true, Bool.and_false, Bool.true_and, Bool.false_and, ite_rgI, if_pos rfl, rm_P R, rm_A R]
    rw [anyb_s]
    cases hb : anyb (fun p => decide (gA g p = c)) k
    · rw [if_neg (by simp), Bool.false_or]
      by_cases e : gA g k = c
      · rw [if_neg (by intro q; exact q e), decide_eq_true e]; rfl
      · rw [if_pos e, decide_eq_false e]; rfl
    · rw [if_pos (by simp), Bool.true_or]; rfl
  · try dsimp only
    rw [b_X9_isSomebody_4]
    simp (disch := omega) only [Option.bind_some, am_k_v, am_k_n, ↓n_in, nI_clamp, i_p1, nI_leI, nI_ltI, nI_eq, n_lt0, n_le0, n_eq0, n_gt0, n_lm, n_em, n_me, n_mlt, false_or, or_false, true_or, or_true, false_and, and_false, true_and, and_true, not_false_eq_true, not_true_eq_false, if_true, if_false, if_pos, if_neg, am_b01, am_b0, am_b1, ne_eq, eq_self, reduceCtorEq, rng_t, Bool.and_true, Bool.and_false, Bool.true_and, Bool.false_and, ite_rgI, if_pos rfl, bft, rm_P R]
end
