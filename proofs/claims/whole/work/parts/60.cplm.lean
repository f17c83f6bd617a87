/-! COUPLES: the reference -/
/-- what the reference's scratch leaves alone -/
def frM (I I' : Nat → Nat → Int32) : Prop := ∀ q k, (q < 81 ∨ mS q k ∨ mQ q k ∨ m4 q k) → I' q k = I q k
theorem frM_refl {I : Nat → Nat → Int32} : frM I I := fun _ _ _ => rfl
theorem frM_tr {I I' I'' : Nat → Nat → Int32} (h1 : frM I I') (h2 : frM I' I'') : frM I I'' := fun q k h => (h2 q k h).trans (h1 q k h)
theorem frM_up {I : Nat → Nat → Int32} {q k : Nat} {z : Int32} (h : ¬ (q < 81 ∨ mS q k ∨ mQ q k ∨ m4 q k)) : frM I (am_up2 I q k z) := fun a b hh => up_ne (by
  by_cases e : a = q
  · by_cases e2 : b = k
    · subst e e2; exact absurd hh h
    · exact Or.inr e2
  · exact Or.inl e)
theorem mu_i {P c q : Nat} : nI (dgC P c q) - 1 = oI (muC P c q) := by
  unfold muC
  by_cases h : dgC P c q = 0
  · rw [if_pos h, h]; rfl
  · rw [if_neg h, show (1 : Int32) = nI 1 from rfl, pk_sub (by omega)]; rfl
theorem dg_lt {P c q : Nat} : dgC P c q < P + 1 := Nat.mod_lt _ (by omega)
theorem mu_lt {P c q o : Nat} (h : muC P c q = some o) : o < P := by
  unfold muC at h
  split at h
  · cases h
  · cases h
    have : dgC P c q < P + 1 := dg_lt
    omega
section
variable {Ls : Nat} {xs : Nat → Int32} {g : Vg} {r : Vr} {I I' : Nat → Nat → Int32} {J : Nat → Nat → Int64}
theorem rm_fr (F : frM I I') (M : RM g I) : RM g I' := rm_cong (fun q k h => F q k (Or.inr (Or.inl h))) M
theorem m0_fr (F : frM I I') (C : m0 I) : m0 I' := m0_cong (fun q k h => F q k (Or.inr (Or.inr (Or.inr h)))) C
theorem inm_fr (F : frM I I') (M : InM g r I) : InM g r I' := inm_cong (fun q k h => F q k (Or.inr h)) M
theorem inx_fr (B : BG g) (F : frM I I') (X : InX g r I J) : InX g r I' J := inx_m B (fun q k h => F q k (Or.inl h)) (fun _ => rfl) X
/-- rows of 106 and 107 apart -/
def fr106 (I I' : Nat → Nat → Int32) : Prop := ∀ q k, q ≠ 106 → I' q k = I q k
theorem fr106_M (F : fr106 I I') : frM I I' := fun q k h => F q k (by unfold mS mQ m4 at h; omega)
theorem sp_setP (M : RM g I) (B : BG g) {c : Nat} (hc : c < 2147483648) : ∃ I', am_ev (am_tbl Ls xs) 60 (0, [(0, .ref 81), (1, .int (nI c))], [], (am_sh, I, J)) = some (some (.int (am_b (gdC (gP g) c))), (am_sh, I', J)) ∧ fr106 I I' ∧ ∀ q, q < gP g → I' 106 q = oI (muC (gP g) c q) := by
  have b1 := bg_1 B
  obtain ⟨I1, ⟨F1, W1⟩, e1⟩ := lpe (N := gP g) (f := fun k I' => am_ev (am_tbl Ls xs) 60 (9, [(0, .ref 81), (2, .int (nI (c / (gP g + 1) ^ k))), (3, .int (nI (gP g - k) - 1))], [], (am_sh, I', J))) (V := fun k I' => fr106 I I' ∧ ∀ q, gP g - k ≤ q → q < gP g → I' 106 q = oI (muC (gP g) c q)) (by
    intro k I1 hk ⟨F1, W1⟩
    have M1 := rm_fr (fr106_M F1) M
    have hd : c / (gP g + 1) ^ k ≤ c := Nat.div_le_self _ _
    have e3 : nI (gP g - k) - 1 = nI (gP g - k - 1) := by rw [show (1 : Int32) = nI 1 from rfl, pk_sub (by omega)]
    have e4 : nI (gP g - k - 1) + Int32.ofInt (-1) = nI (gP g - (k + 1)) - 1 := by
      rw [show Int32.ofInt (-1) = (-1 : Int32) from rfl, show nI (gP g - (k + 1)) - 1 = nI (gP g - (k + 1)) + (-1) from Int32.sub_eq_add_neg _ _, show gP g - k - 1 = gP g - (k + 1) by omega]
    have hdig : c / (gP g + 1) ^ k % (gP g + 1) = dgC (gP g) c (gP g - k - 1) := by
      unfold dgC
      rw [show gP g - 1 - (gP g - k - 1) = k by omega]
    refine ⟨am_up2 I1 106 (gP g - k - 1) (oI (muC (gP g) c (gP g - k - 1))), ⟨fun q i hq => ?_, fun q h1 h2 => ?_⟩, ?_⟩
    · rw [up_ne (Or.inl hq)]; exact F1 q i hq
    · by_cases e : q = gP g - k - 1
      · rw [e, up_eq]
      · rw [up_ne (Or.inr e)]; exact W1 q (by omega) h2
    · try dsimp only
      rw [e3, b_X9_setPartners_9]
      simp (disch := omega) only [Option.bind_some, am_k_v, am_k_n, ↓n_in, nI_clamp, i_p1, nI_leI, nI_ltI, nI_eq, n_lt0, n_le0, n_eq0, n_gt0, n_lm, n_em, n_me, n_mlt, false_or, or_false, true_or, or_true, false_and, and_false, true_and, and_true, not_false_eq_true, not_true_eq_false, if_true, if_false, if_pos, if_neg, am_b01, am_b0, am_b1, ne_eq, eq_self, reduceCtorEq, rng_t, Bool.and_true, Bool.and_false, Bool.true_and, Bool.false_and, ite_rgI, if_pos rfl, rm_P M1, nI_1, pk_div, pk_mul, n_rem, hdig, mu_i]
      rw [e4, Nat.div_div_eq_div_mul, ← Nat.pow_succ]) I ⟨fun q k _ => rfl, fun q h1 h2 => by omega⟩
  have M1 := rm_fr (fr106_M F1) M
  have W2 : ∀ q, q < gP g → I1 106 q = oI (muC (gP g) c q) := fun q hq => W1 q (by omega) hq
  refine ⟨I1, ?_, F1, W2⟩
  rw [b_X9_setPartners_0, rm_P M]
  have e1' : am_ev (am_tbl Ls xs) 60 (9, [(0, .ref 81), (2, .int (nI c)), (3, .int (nI (gP g) - 1))], [], (am_sh, I, J)) = am_ev (am_tbl Ls xs) 60 (9, [(0, .ref 81), (2, .int (nI (c / (gP g + 1) ^ gP g))), (3, .int (nI (gP g - gP g) - 1))], [], (am_sh, I1, J)) := by
    have := e1
    try dsimp only at this
    rw [Nat.pow_zero, Nat.div_one, Nat.sub_zero] at this
    exact this
  refine e1'.trans ?_
  rw [b_X9_setPartners_9, Nat.sub_self, if_pos (show nI 0 - 1 < 0 by decide)]
  generalize hf : (fun p => match muC (gP g) c p with
    | none => true
    | some o => decide (o ≠ p ∧ muC (gP g) c o = some p)) = f
  have hgd : gdC (gP g) c = allb f (gP g) := by rw [← hf]; rfl
  rw [hgd]
  refine (lp (N := gP g) (f := fun k => am_ev (am_tbl Ls xs) 60 (49, [(0, .ref 81), (3, .int (am_b (allb f k))), (4, .int (nI k))], [], (am_sh, I1, J))) ?_).trans ?_
  · intro k hk
    try dsimp only
    rw [b_X9_setPartners_49, allb_s]
    simp (disch := omega) only [Option.bind_some, am_k_v, am_k_n, ↓n_in, nI_clamp, i_p1, nI_leI, nI_ltI, nI_eq, n_lt0, n_le0, n_eq0, n_gt0, n_lm, n_em, n_me, n_mlt, false_or, or_false, true_or, or_true, false_and, and_false, true_and, and_true, not_false_eq_true, not_true_eq_false, if_true, if_false, if_pos, if_neg, am_b01, am_b0, am_b1, ne_eq, eq_self, reduceCtorEq, rng_t, Bool.and_true, Bool.and_false, Bool.true_and, Bool.false_and, ite_rgI, if_pos rfl, rm_P M1, W2 k hk, b_X9_setPartners_105, b_X9_setPartners_101, b_X9_setPartners_106]
    have hfk : f k = match muC (gP g) c k with
      | none => true
      | some o => decide (o ≠ k ∧ muC (gP g) c o = some k) := by rw [← hf]
    cases ha : allb f k
    · rw [if_pos rfl, Bool.false_and]; rfl
    · rw [if_neg (by decide), Bool.true_and, hfk]
      cases hm : muC (gP g) c k with
      | none =>
        rw [if_pos (show oI none < 0 by decide)]
        rfl
      | some o =>
        have ho := mu_lt hm
        dsimp only
        rw [show oI (some o) = nI o from rfl]
        simp (disch := omega) only [Option.bind_some, am_k_v, am_k_n, ↓n_in, nI_clamp, i_p1, nI_leI, nI_ltI, nI_eq, n_lt0, n_le0, n_eq0, n_gt0, n_lm, n_em, n_me, n_mlt, false_or, or_false, true_or, or_true, false_and, and_false, true_and, and_true, not_false_eq_true, not_true_eq_false, if_true, if_false, if_pos, if_neg, am_b01, am_b0, am_b1, ne_eq, eq_self, reduceCtorEq, rng_t, Bool.and_true, Bool.and_false, Bool.true_and, Bool.false_and, ite_rgI, if_pos rfl, W2 o ho]
        by_cases e1 : o = k
        · rw [if_pos e1, decide_eq_false (fun z => z.1 e1)]; rfl
        · rw [if_neg e1]
          have hio : (oI (muC (gP g) c o) = nI k) ↔ muC (gP g) c o = some k := by
            rw [eq_comm, oI_eq (by omega) (fun y hy => by have := mu_lt hy; omega)]
          simp only [hio]
          by_cases e2 : muC (gP g) c o = some k
          · simp only [e2, not_true_eq_false, if_false, e1, ne_eq, not_false_eq_true, and_self, decide_true]; rfl
          · simp only [e2, not_false_eq_true, if_true, and_false, decide_false]; rfl
  · try dsimp only
    rw [b_X9_setPartners_49]
    simp (disch := omega) only [Option.bind_some, am_k_v, am_k_n, ↓n_in, nI_clamp, i_p1, nI_leI, nI_ltI, nI_eq, n_lt0, n_le0, n_eq0, n_gt0, n_lm, n_em, n_me, n_mlt, false_or, or_false, true_or, or_true, false_and, and_false, true_and, and_true, not_false_eq_true, not_true_eq_false, if_true, if_false, if_pos, if_neg, am_b01, am_b0, am_b1, ne_eq, eq_self, reduceCtorEq, rng_t, Bool.and_true, Bool.and_false, Bool.true_and, Bool.false_and, ite_rgI, if_pos rfl, bft, rm_P M1]
def WM (g : Vg) (I : Nat → Nat → Int32) : Prop := ∀ o q, o < q → q < gP g → I 105 (6 * q + o) = Int32.ofInt (cpW g o q)
theorem su_le (B : BG g) {c : Nat} : ∀ k : Nat, k ≤ 6 → -(11520 * (k : Int)) ≤ suC (cbC (cpW g) (muC (gP g) c)) (2 ^ gP g - 1) k ∧ suC (cbC (cpW g) (muC (gP g) c)) (2 ^ gP g - 1) k ≤ 11520 * (k : Int) := by
  intro k
  induction k with
  | zero => intro _; show -(11520 * (0 : Int)) ≤ (0 : Int) ∧ (0 : Int) ≤ 11520 * 0; omega
  | succ k ih =>
    intro hk
    have h1 := ih (by omega)
    have h2 : -11520 ≤ cbC (cpW g) (muC (gP g) c) k ∧ cbC (cpW g) (muC (gP g) c) k ≤ 11520 := by
      unfold cbC
      split
      · rename_i o _
        split
        · have := cpW_le B (a := o) (b := k); omega
        · omega
      · omega
    show -(11520 * ((k + 1 : Nat) : Int)) ≤ suC _ _ k + (if _ then _ else 0) ∧ suC _ _ k + (if _ then _ else 0) ≤ 11520 * ((k + 1 : Nat) : Int)
    split <;> omega
def fnm (o : Option Nat) : Int32 := match o with
  | none => 0
  | some _ => 1
def lvZ (f : Nat → Int) : Option Nat → Int32
  | none => 0
  | some c => Int32.ofInt (f c)
theorem sp_sum (M : RM g I) (B : BG g) (W : WM g I) {c : Nat} (hp : ∀ q, q < gP g → I 106 q = oI (muC (gP g) c q)) (a1 a2 a3 a4 a5 : Int32) : am_ev (am_tbl Ls xs) 61 (107, [(0, .ref 81), (1, .int a1), (2, .int a2), (3, .int a3), (4, .int a4), (5, .int a5), (6, .int 0), (7, .int 0)], [], (am_sh, I, J)) = am_ev (am_tbl Ls xs) 61 (107, [(0, .ref 81), (1, .int a1), (2, .int a2), (3, .int a3), (4, .int a4), (5, .int a5), (6, .int (Int32.ofInt (smC (cpW g) (gP g) c))), (7, .int (nI (gP g)))], [], (am_sh, I, J)) := by
  have b1 := bg_1 B
  refine (lp (N := gP g) (f := fun k => am_ev (am_tbl Ls xs) 61 (107, [(0, .ref 81), (1, .int a1), (2, .int a2), (3, .int a3), (4, .int a4), (5, .int a5), (6, .int (Int32.ofInt (suC (cbC (cpW g) (muC (gP g) c)) (2 ^ gP g - 1) k))), (7, .int (nI k))], [], (am_sh, I, J))) ?_).trans ?_
  · intro k hk
    try dsimp only
    rw [b_X9_couples_107]
    rw [show suC (cbC (cpW g) (muC (gP g) c)) (2 ^ gP g - 1) (k + 1) = suC (cbC (cpW g) (muC (gP g) c)) (2 ^ gP g - 1) k + (if (2 ^ gP g - 1).testBit k = true then cbC (cpW g) (muC (gP g) c) k else 0) from rfl]
    have hbit : (2 ^ gP g - 1).testBit k = true := by rw [full_bit]; exact decide_eq_true hk
    rw [if_pos hbit, Int32.ofInt_add]
    simp (disch := omega) only [Option.bind_some, am_k_v, am_k_n, ↓n_in, nI_clamp, i_p1, nI_leI, nI_ltI, nI_eq, n_lt0, n_le0, n_eq0, n_gt0, n_lm, n_em, n_me, n_mlt, false_or, or_false, true_or, or_true, false_and, and_false, true_and, and_true, not_false_eq_true, not_true_eq_false, if_true, if_false, if_pos, if_neg, am_b01, am_b0, am_b1, ne_eq, eq_self, reduceCtorEq, rng_t, Bool.and_true, Bool.and_false, Bool.true_and, Bool.false_and, ite_rgI, if_pos rfl, rm_P M, hp k hk, b_X9_couples_161, b_X9_couples_162]
    unfold cbC
    cases hm : muC (gP g) c k with
    | none => rw [if_pos (show oI none < 0 by decide)]; rfl
    | some o =>
      have ho := mu_lt hm
      dsimp only
      rw [show oI (some o) = nI o from rfl]
      by_cases hok : o < k
      · have e6 : (6 : Int32) * nI k + nI o = nI (6 * k + o) := by rw [show (6 : Int32) = nI 6 from rfl, pk_mul, nI_add]
        simp (disch := omega) only [Option.bind_some, am_k_v, am_k_n, ↓n_in, nI_clamp, i_p1, nI_leI, nI_ltI, nI_eq, n_lt0, n_le0, n_eq0, n_gt0, n_lm, n_em, n_me, n_mlt, false_or, or_false, true_or, or_true, false_and, and_false, true_and, and_true, not_false_eq_true, not_true_eq_false, if_true, if_false, if_pos, if_neg, am_b01, am_b0, am_b1, ne_eq, eq_self, reduceCtorEq, rng_t, Bool.and_true, Bool.and_false, Bool.true_and, Bool.false_and, ite_rgI, if_pos rfl, e6, W o k hok hk]
      · simp (disch := omega) only [Option.bind_some, am_k_v, am_k_n, ↓n_in, nI_clamp, i_p1, nI_leI, nI_ltI, nI_eq, n_lt0, n_le0, n_eq0, n_gt0, n_lm, n_em, n_me, n_mlt, false_or, or_false, true_or, or_true, false_and, and_false, true_and, and_true, not_false_eq_true, not_true_eq_false, if_true, if_false, if_pos, if_neg, am_b01, am_b0, am_b1, ne_eq, eq_self, reduceCtorEq, rng_t, Bool.and_true, Bool.and_false, Bool.true_and, Bool.false_and, ite_rgI, if_pos rfl]
        rfl
  · rfl
theorem sp_couplesL (M : RM g I) (B : BG g) (W : WM g I) (o : Option Nat) (ho : ∀ a, o = some a → a < gP g) : ∃ I', am_ev (am_tbl Ls xs) 61 (86, [(0, .ref 81), (1, .int (oI o)), (2, .int (nI ((gP g + 1) ^ gP g))), (3, .int 0), (4, .int 0), (5, .int 0)], [], (am_sh, I, J)) = some (some (.int (cplR g o)), (am_sh, I', J)) ∧ frM I I' := by
  have b1 := bg_1 B
  have hB6 : (gP g + 1) ^ gP g ≤ 7 ^ 6 := Nat.le_trans (Nat.pow_le_pow_left (by omega) _) (Nat.pow_le_pow_right (by decide) (by omega))
  have h7 : 7 ^ 6 = 117649 := by decide
  obtain ⟨I1, ⟨F1, W1, P1⟩, e1⟩ := lpe (N := (gP g + 1) ^ gP g) (f := fun k I' => am_ev (am_tbl Ls xs) 61 (86, [(0, .ref 81), (1, .int (oI o)), (2, .int (nI ((gP g + 1) ^ gP g))), (3, .int (fnm (fgi (gdC (gP g)) (smC (cpW g) (gP g)) k))), (4, .int (lvZ (smC (cpW g) (gP g)) (fgi (gdC (gP g)) (smC (cpW g) (gP g)) k))), (5, .int (nI k))], [], (am_sh, I', J))) (V := fun k I' => frM I I' ∧ WM g I' ∧ ∀ c, fgi (gdC (gP g)) (smC (cpW g) (gP g)) k = some c → ∀ q, q < gP g → I' 107 q = oI (muC (gP g) c q)) (by
    intro k I1 hk ⟨F1, W1, P1⟩
    have M1 := rm_fr F1 M
    obtain ⟨I2, e2, F2, Q2⟩ := sp_setP (Ls := Ls) (xs := xs) (J := J) M1 B (c := k) (by omega)
    have F12 := frM_tr F1 (fr106_M F2)
    have M2 := rm_fr F12 M
    have W2 : WM g I2 := fun o q h1 h2 => (F2 105 _ (by omega)).trans (W1 o q h1 h2)
    have P2 : ∀ c, fgi (gdC (gP g)) (smC (cpW g) (gP g)) k = some c → ∀ q, q < gP g → I2 107 q = oI (muC (gP g) c q) := fun c hc q hq => (F2 107 q (by omega)).trans (P1 c hc q hq)


    try dsimp only
    cases hg : gdC (gP g) k
    · rw [hg] at e2
      refine ⟨I2, ⟨F12, W2, ?_⟩, ?_⟩
      · rw [fgi_s, hg, if_neg (by decide)]; exact P2
      · rw [b_X9_couples_86, if_neg (nI_ge hk (by omega)), e2, Option.bind_some, am_k_v, b_X9_couples_98, if_pos (show am_b false = 0 from rfl), b_X9_couples_220, fgi_s, hg, if_neg (by decide), i_p1]
    · rw [hg] at e2
      have hsL := sp_sum (Ls := Ls) (xs := xs) (J := J) M2 B W2 Q2
      have hcp : ∃ I3, frM I I3 ∧ WM g I3 ∧ (∀ q, q < gP g → I3 107 q = oI (muC (gP g) k q)) ∧ ∀ a4, am_ev (am_tbl Ls xs) 61 (191, [(0, .ref 81), (1, .int (oI o)), (2, .int (nI ((gP g + 1) ^ gP g))), (3, .int 1), (4, .int a4), (5, .int (nI k)), (7, .int 0)], [], (am_sh, I2, J)) = am_ev (am_tbl Ls xs) 61 (86, [(0, .ref 81), (1, .int (oI o)), (2, .int (nI ((gP g + 1) ^ gP g))), (3, .int 1), (4, .int a4), (5, .int (nI (k + 1)))], [], (am_sh, I3, J)) := by
        refine ⟨wri I2 107 (gP g) (fun q => I2 106 q), fun q i hq => ?_, fun o q h1 h2 => ?_, fun q hq => ?_, fun a4 => ?_⟩
        · rw [wr_out (Or.inl (by unfold mS mQ m4 at hq; omega))]; exact F12 q i hq
        · rw [wr_out (Or.inl (by omega))]; exact W2 o q h1 h2
        · rw [wr_in hq]; exact Q2 q hq
        · refine Eq.trans ?_ ((lp (N := gP g) (f := fun j => am_ev (am_tbl Ls xs) 61 (191, [(0, .ref 81), (1, .int (oI o)), (2, .int (nI ((gP g + 1) ^ gP g))), (3, .int 1), (4, .int a4), (5, .int (nI k)), (7, .int (nI j))], [], (am_sh, wri I2 107 j (fun q => I2 106 q), J))) ?_).trans ?_)
          · show _ = am_ev (am_tbl Ls xs) 61 (191, [(0, .ref 81), (1, .int (oI o)), (2, .int (nI ((gP g + 1) ^ gP g))), (3, .int 1), (4, .int a4), (5, .int (nI k)), (7, .int (nI 0))], [], (am_sh, wri I2 107 0 (fun q => I2 106 q), J))
            rw [wr_0]; rfl
          · intro j hj
            try dsimp only
            rw [b_X9_couples_191]
            have eP : wri I2 107 j (fun q => I2 106 q) 81 8 = nI (gP g) := by rw [wr_out (Or.inl (by omega))]; exact rm_P M2
            have e106 : wri I2 107 j (fun q => I2 106 q) 106 j = I2 106 j := wr_out (Or.inl (by omega))
            simp (disch := omega) only [Option.bind_some, am_k_v, am_k_n, ↓n_in, nI_clamp, i_p1, nI_leI, nI_ltI, nI_eq, n_lt0, n_le0, n_eq0, n_gt0, n_lm, n_em, n_me, n_mlt, false_or, or_false, true_or, or_true, false_and, and_false, true_and, and_true, not_false_eq_true, not_true_eq_false, if_true, if_false, if_pos, if_neg, am_b01, am_b0, am_b1, ne_eq, eq_self, reduceCtorEq, rng_t, Bool.and_true, Bool.and_false, Bool.true_and, Bool.false_and, ite_rgI, if_pos rfl, eP, e106]
            rw [show I2 106 j = (fun q => I2 106 q) j from rfl, wr_s]
          · try dsimp only
            rw [b_X9_couples_191]
            have eP : wri I2 107 (gP g) (fun q => I2 106 q) 81 8 = nI (gP g) := by rw [wr_out (Or.inl (by omega))]; exact rm_P M2
            simp (disch := omega) only [Option.bind_some, am_k_v, am_k_n, ↓n_in, nI_clamp, i_p1, nI_leI, nI_ltI, nI_eq, n_lt0, n_le0, n_eq0, n_gt0, n_lm, n_em, n_me, n_mlt, false_or, or_false, true_or, or_true, false_and, and_false, true_and, and_true, not_false_eq_true, not_true_eq_false, if_true, if_false, if_pos, if_neg, am_b01, am_b0, am_b1, ne_eq, eq_self, reduceCtorEq, rng_t, Bool.and_true, Bool.and_false, Bool.true_and, Bool.false_and, ite_rgI, if_pos rfl, eP, b_X9_couples_220]
      obtain ⟨I3, F3, W3, Q3, e3⟩ := hcp
      have e182 : ∀ s, am_ev (am_tbl Ls xs) 61 (182, [(0, .ref 81), (1, .int (oI o)), (2, .int (nI ((gP g + 1) ^ gP g))), (5, .int (nI k)), (6, .int s)], [], (am_sh, I2, J)) = am_ev (am_tbl Ls xs) 61 (86, [(0, .ref 81), (1, .int (oI o)), (2, .int (nI ((gP g + 1) ^ gP g))), (3, .int 1), (4, .int s), (5, .int (nI (k + 1)))], [], (am_sh, I3, J)) := fun s => by
        rw [b_X9_couples_182]; exact e3 s
      have bd := fun c => su_le B (c := c) (gP g) (by omega)
      cases hfg : fgi (gdC (gP g)) (smC (cpW g) (gP g)) k with
      | none =>
        refine ⟨I3, ⟨F3, W3, ?_⟩, ?_⟩
        · rw [fgi_s, hg, if_pos rfl, hfg]
          intro c hc q hq; cases hc; exact Q3 q hq
        · rw [b_X9_couples_86, if_neg (nI_ge hk (by omega)), e2, Option.bind_some, am_k_v, b_X9_couples_98, if_neg (by decide), hsL, b_X9_couples_107, rm_P M2, if_pos (nI_le (by omega) (by omega)), if_pos (show fnm none = 0 from rfl), e182, fgi_s, hg, if_pos rfl, hfg]
          rfl
      | some c =>
        by_cases hlt : smC (cpW g) (gP g) c < smC (cpW g) (gP g) k
        · refine ⟨I3, ⟨F3, W3, ?_⟩, ?_⟩
          · rw [fgi_s, hg, if_pos rfl, hfg]
            dsimp only
            rw [if_pos hlt]
            intro c hc q hq; cases hc; exact Q3 q hq
          · rw [b_X9_couples_86, if_neg (nI_ge hk (by omega)), e2, Option.bind_some, am_k_v, b_X9_couples_98, if_neg (by decide), hsL, b_X9_couples_107, rm_P M2, if_pos (nI_le (by omega) (by omega)), if_neg (show ¬ fnm (some c) = 0 by simp [fnm]), if_neg (show ¬ Int32.ofInt (smC (cpW g) (gP g) k) ≤ lvZ (smC (cpW g) (gP g)) (some c) by
              show ¬ Int32.ofInt _ ≤ Int32.ofInt _
              have h1 := bd c
              have h2 := bd k
              unfold smC at hlt ⊢
              rw [oi_le (by omega) (by omega)]; omega), e182, fgi_s, hg, if_pos rfl, hfg]
            dsimp only
            rw [if_pos hlt]
            rfl
        · refine ⟨I2, ⟨F12, W2, ?_⟩, ?_⟩
          · rw [fgi_s, hg, if_pos rfl, hfg]
            dsimp only
            rw [if_neg hlt, ← hfg]
            exact P2
          · rw [b_X9_couples_86, if_neg (nI_ge hk (by omega)), e2, Option.bind_some, am_k_v, b_X9_couples_98, if_neg (by decide), hsL, b_X9_couples_107, rm_P M2, if_pos (nI_le (by omega) (by omega)), if_neg (show ¬ fnm (some c) = 0 by simp [fnm]), if_pos (show Int32.ofInt (smC (cpW g) (gP g) k) ≤ lvZ (smC (cpW g) (gP g)) (some c) by
              show Int32.ofInt _ ≤ Int32.ofInt _
              have h1 := bd c
              have h2 := bd k
              unfold smC at hlt ⊢
              rw [oi_le (by omega) (by omega)]; omega), b_X9_couples_220, i_p1, fgi_s, hg, if_pos rfl, hfg]
            dsimp only
            rw [if_neg hlt]) I ⟨frM_refl, W, fun c hc => by cases hc⟩
  obtain ⟨c, hc, hs, hm⟩ := cpl_best (w := cpW g) (P := gP g) (by omega)
  have Pc := P1 c hc
  refine ⟨I1, ?_, F1⟩
  refine e1.trans ?_
  try dsimp only
  rw [b_X9_couples_86, if_pos (nI_le (by omega) (by omega)), hc]
  cases o with
  | none =>
    rw [if_neg (by simp [oI]), b_X9_couples_242]
    show some (some (Value.int (Int32.ofInt (smC (cpW g) (gP g) c))), _) = _
    rw [hs]; rfl
  | some a =>
    have ha := ho a rfl
    rw [if_pos (show oI (some a) ≠ -1 from fun z => (n_em (show a < 2147483648 by omega)).mp z)]
    simp (disch := omega) only [oI, Option.bind_some, am_k_v, am_k_n, ↓n_in, nI_clamp, i_p1, nI_leI, nI_ltI, nI_eq, n_lt0, n_le0, n_eq0, n_gt0, n_lm, n_em, n_me, n_mlt, false_or, or_false, true_or, or_true, false_and, and_false, true_and, and_true, not_false_eq_true, not_true_eq_false, if_true, if_false, if_pos, if_neg, am_b01, am_b0, am_b1, ne_eq, eq_self, reduceCtorEq, rng_t, Bool.and_true, Bool.and_false, Bool.true_and, Bool.false_and, ite_rgI, if_pos rfl, b_X9_couples_242, Pc a ha, hm a ha]
    rfl
theorem sp_couplesW (M : RM g I) (B : BG g) (C : m0 I) (a1 : Int32) : ∃ I', am_ev (am_tbl Ls xs) 61 (21, [(0, .ref 81), (1, .int a1), (2, .int 1), (3, .int 0)], [], (am_sh, I, J)) = am_ev (am_tbl Ls xs) 61 (86, [(0, .ref 81), (1, .int a1), (2, .int (nI ((gP g + 1) ^ gP g))), (3, .int 0), (4, .int 0), (5, .int 0)], [], (am_sh, I', J)) ∧ frM I I' ∧ WM g I' := by
  have b1 := bg_1 B
  obtain ⟨I1, ⟨F1, W1⟩, e1⟩ := lpe (N := gP g) (f := fun k I' => am_ev (am_tbl Ls xs) 61 (21, [(0, .ref 81), (1, .int a1), (2, .int (nI ((gP g + 1) ^ k))), (3, .int (nI k))], [], (am_sh, I', J))) (V := fun k I' => frM I I' ∧ ∀ o q, o < q → q < k → I' 105 (6 * q + o) = Int32.ofInt (cpW g o q)) (by
    intro k I1 hk ⟨F1, W1⟩
    have M1 := rm_fr F1 M
    obtain ⟨I2, ⟨F2, W2, W3⟩, e2⟩ := lpe (N := k) (f := fun j I' => am_ev (am_tbl Ls xs) 61 (41, [(0, .ref 81), (1, .int a1), (2, .int (nI ((gP g + 1) ^ (k + 1)))), (3, .int (nI k)), (4, .int (nI j))], [], (am_sh, I', J))) (V := fun j I' => frM I I' ∧ (∀ o q, o < q → q < k → I' 105 (6 * q + o) = Int32.ofInt (cpW g o q)) ∧ ∀ o, o < j → I' 105 (6 * k + o) = Int32.ofInt (cpW g o k)) (by
      intro j I2 hj ⟨F2, W2, W3⟩
      have M2 := rm_fr F2 M
      have C2 := m0_fr F2 C
      have hw := sp_worth (Ls := Ls) (xs := xs) (J := J) M2 B C2 (p := j) (q := k) (by omega) hk (by omega)
      rw [show min j k = j by omega, show max j k = k by omega] at hw
      have e6 : (6 : Int32) * nI k + nI j = nI (6 * k + j) := by rw [show (6 : Int32) = nI 6 from rfl, pk_mul, nI_add]
      refine ⟨am_up2 (am_up2 I2 81 41 (nI (max (tl g j) (tl g k)))) 105 (6 * k + j) (Int32.ofInt (cpW g j k)), ⟨?_, fun o q h1 h2 => ?_, fun o h1 => ?_⟩, ?_⟩
      · exact frM_tr F2 (frM_tr (frM_up (by unfold mS mQ m4; omega)) (frM_up (by unfold mS mQ m4; omega)))
      · rw [up_ne (by omega), up_ne (by omega)]; exact W2 o q h1 h2
      · by_cases e : o = j
        · rw [e, up_eq]
        · rw [up_ne (by omega), up_ne (by omega)]; exact W3 o (by omega)
      · try dsimp only
        rw [b_X9_couples_41]
        simp (disch := omega) only [Option.bind_some, am_k_v, am_k_n, ↓n_in, nI_clamp, i_p1, nI_leI, nI_ltI, nI_eq, n_lt0, n_le0, n_eq0, n_gt0, n_lm, n_em, n_me, n_mlt, false_or, or_false, true_or, or_true, false_and, and_false, true_and, and_true, not_false_eq_true, not_true_eq_false, if_true, if_false, if_pos, if_neg, am_b01, am_b0, am_b1, ne_eq, eq_self, reduceCtorEq, rng_t, Bool.and_true, Bool.and_false, Bool.true_and, Bool.false_and, ite_rgI, if_pos rfl, hw, e6, b_X9_couples_65]) I1 ⟨F1, W1, fun o h => absurd h (Nat.not_lt_zero o)⟩
    refine ⟨I2, ⟨F2, fun o q h1 h2 => ?_⟩, ?_⟩
    · rcases Nat.lt_or_ge q k with z | z
      · exact W2 o q h1 z
      · rw [show q = k by omega] at h1 ⊢; exact W3 o h1
    · try dsimp only
      rw [b_X9_couples_21, rm_P M1, if_neg (nI_ge hk (by omega)), nI_1, pk_mul, ← Nat.pow_succ]
      refine e2.trans ?_
      try dsimp only
      rw [b_X9_couples_41, if_pos (nI_le (by omega) (by omega)), i_p1]) I ⟨frM_refl, fun o q h1 h2 => absurd h2 (Nat.not_lt_zero q)⟩
  have M1 := rm_fr F1 M
  refine ⟨I1, ?_, F1, W1⟩
  refine Eq.trans ?_ (e1.trans ?_)
  · try dsimp only
    rw [Nat.pow_zero]; rfl
  · try dsimp only
    rw [b_X9_couples_21, rm_P M1, if_pos (nI_le (by omega) (by omega))]
theorem pu_couples (H : Inv I J) (p : Int32) : StpC Ls xs 92 61 [(0, .ref 0), (1, .int p)] [(0, .ref 81), (1, .int p)] I J := by
  obtain ⟨g, r, S, Q, ⟨X, XQ, D⟩, ⟨M, MQ, C⟩⟩ := id H
  have B := S.1
  have b1 := bg_1 B
  have main : ∀ o : Option Nat, (∀ a, o = some a → a < gP g) → ∃ I1 I2, am_ev (am_tbl Ls xs) 92 (19, [(0, .ref 0), (1, .int (oI o))], [], (am_sh, I, J)) = some (some (.int (cplR g o)), (am_sh, I1, J)) ∧ am_ev (am_tbl Ls xs) 61 (17, [(0, .ref 81), (1, .int (oI o))], [], (am_sh, I1, J)) = some (some (.int (cplR g o)), (am_sh, I2, J)) ∧ Inv I2 J ∧ RX g I1 ∧ RM g I1 := by
    intro o ho
    obtain ⟨I1, e1, F1⟩ := sx_couples (Ls := Ls) (xs := xs) X B D XQ.1.2.2.2.2.2.2 o ho
    have X1 : InX g r I1 J := inx_cong B (fun q k h => F1 q k (by unfold xS xQ at h; omega)) (fun _ => rfl) ⟨X, XQ, D⟩
    have M1 : InM g r I1 := inm_x (fun q k h => F1 q k (by omega)) ⟨M, MQ, C⟩
    obtain ⟨I2, e2, F2, W2⟩ := sp_couplesW (Ls := Ls) (xs := xs) (J := J) M1.1 B M1.2.2 (oI o)
    obtain ⟨I3, e3, F3⟩ := sp_couplesL (Ls := Ls) (xs := xs) (J := J) (rm_fr F2 M1.1) B W2 o ho
    refine ⟨I1, I3, e1, ?_, ⟨g, r, S, Q, inx_fr B (frM_tr F2 F3) X1, inm_fr (frM_tr F2 F3) M1⟩, X1.1, M1.1⟩
    rw [b_X9_couples_17]
    exact e2.trans e3
  by_cases h1 : p = -1
  · obtain ⟨I1, I2, e1, e2, H2, _⟩ := main none (fun a h => by cases h)
    subst h1
    refine ⟨cplR g none, I1, J, I2, J, ?_, ?_, H2⟩
    · rw [b_X8_couples_0, if_pos rfl]; exact e1
    · rw [b_X9_couples_0, if_pos rfl]; exact e2
  · rcases rng_or (gP g) (by omega) p with ⟨p, hp, rfl⟩ | hp
    · obtain ⟨I1, I2, e1, e2, H2, R1, M1⟩ := main (some p) (fun a h => by cases h; exact hp)
      refine ⟨cplR g (some p), I1, J, I2, J, ?_, ?_, H2⟩
      · rw [b_X8_couples_0, if_neg h1]
        simp (disch := omega) only [sx_personA X, Option.bind_some, am_k_v, am_k_n, ↓n_in, nI_clamp, i_p1, nI_leI, nI_ltI, nI_eq, n_lt0, n_le0, n_eq0, n_gt0, n_lm, n_em, n_me, n_mlt, false_or, or_false, true_or, or_true, false_and, and_false, true_and, and_true, not_false_eq_true, not_true_eq_false, if_true, if_false, if_pos, if_neg, am_b01, am_b0, am_b1, ne_eq, eq_self, reduceCtorEq, rng_t, Bool.and_true, Bool.and_false, Bool.true_and, Bool.false_and, ite_rgI, if_pos rfl, b_X8_couples_13]
        exact e1
      · rw [b_X9_couples_0, if_neg h1]
        simp (disch := omega) only [sp_personA M1 B, Option.bind_some, am_k_v, am_k_n, ↓n_in, nI_clamp, i_p1, nI_leI, nI_ltI, nI_eq, n_lt0, n_le0, n_eq0, n_gt0, n_lm, n_em, n_me, n_mlt, false_or, or_false, true_or, or_true, false_and, and_false, true_and, and_true, not_false_eq_true, not_true_eq_false, if_true, if_false, if_pos, if_neg, am_b01, am_b0, am_b1, ne_eq, eq_self, reduceCtorEq, rng_t, Bool.and_true, Bool.and_false, Bool.true_and, Bool.false_and, ite_rgI, if_pos rfl, b_X9_couples_10]
        exact e2
    · refine stp_pure H (v := -1000000001) ?_ ?_
      · simp (disch := omega) only [b_X8_couples_0, b_X8_couples_13, Option.bind_some, am_k_v, am_k_n, ↓n_in, nI_clamp, i_p1, nI_leI, nI_ltI, nI_eq, n_lt0, n_le0, n_eq0, n_gt0, n_lm, n_em, n_me, n_mlt, false_or, or_false, true_or, or_true, false_and, and_false, true_and, and_true, not_false_eq_true, not_true_eq_false, if_true, if_false, if_pos, if_neg, am_b01, am_b0, am_b1, ne_eq, eq_self, reduceCtorEq, rng_t, Bool.and_true, Bool.and_false, Bool.true_and, Bool.false_and, ite_rgI, if_pos rfl, sx_personA X, hp, h1]
      · simp (disch := omega) only [b_X9_couples_0, b_X9_couples_10, Option.bind_some, am_k_v, am_k_n, ↓n_in, nI_clamp, i_p1, nI_leI, nI_ltI, nI_eq, n_lt0, n_le0, n_eq0, n_gt0, n_lm, n_em, n_me, n_mlt, false_or, or_false, true_or, or_true, false_and, and_false, true_and, and_true, not_false_eq_true, not_true_eq_false, if_true, if_false, if_pos, if_neg, am_b01, am_b0, am_b1, ne_eq, eq_self, reduceCtorEq, rng_t, Bool.and_true, Bool.and_false, Bool.true_and, Bool.false_and, ite_rgI, if_pos rfl, sp_personA M B, hp, h1]
end
