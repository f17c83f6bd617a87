/-! THE REFERENCE READS: the small methods -/
def mdM (I : Nat → Nat → Int32) (k : Nat) (P v q : Int32) : Nat → Nat → Int32 := fun r j => if r = 81 then (if j = 20 then nI k else if j = 19 then P else if j = 23 then v else if j = 24 then q else I 81 j) else I r j
def TM (T : Nat → Nat) (n : Nat) (I : Nat → Nat → Int32) : Prop := I 81 18 = nI n ∧ n ≤ 500 ∧ ∀ k, k < n → I 91 k = nI (T k) ∧ T k < 256
def frR (I I' : Nat → Nat → Int32) : Prop := ∀ r j, (r < 81 ∨ (r = 81 ∧ (j ≤ 18 ∨ 38 < j)) ∨ (81 < r ∧ r < 92) ∨ 98 < r) → I' r j = I r j
theorem rgI_nat {lo hi : Int32} {m n b : Nat} (h1 : lo.toInt = m) (h2 : hi.toInt = n) (hb : b < 2147483648) : rgI lo hi (nI b) = decide (m ≤ b ∧ b ≤ n) := by
  unfold rgI
  rw [h1, h2, nI_toInt (by omega)]
  exact decide_eq_decide.mpr (by omega)
section
variable {Ls : Nat} {xs : Nat → Int32} {I I' I'' : Nat → Nat → Int32} {J : Nat → Nat → Int64} {T : Nat → Nat} {n k : Nat} {P v q : Int32}
theorem frR_r : frR I I := fun _ _ _ => rfl
theorem frR_tr (h1 : frR I I') (h2 : frR I' I'') : frR I I'' := fun r j h => (h2 r j h).trans (h1 r j h)
theorem frR_md (h : frR I I') : frR I (mdM I' k P v q) := fun r j hh => by
  unfold mdM
  by_cases e : r = 81
  · subst e
    rw [if_pos rfl, if_neg (by omega), if_neg (by omega), if_neg (by omega), if_neg (by omega)]; exact h 81 j hh
  · rw [if_neg e]; exact h r j hh
theorem frR_up {r j : Nat} {z : Int32} (hr : (r = 81 ∧ 18 < j ∧ j ≤ 38) ∨ (92 ≤ r ∧ r ≤ 98)) (h : frR I I') : frR I (am_up2 I' r j z) := fun a b hh => by rw [up_ne (by omega)]; exact h a b hh
theorem md20 : mdM I k P v q 81 20 = nI k := rfl
theorem md19 : mdM I k P v q 81 19 = P := rfl
theorem md23 : mdM I k P v q 81 23 = v := rfl
theorem md24 : mdM I k P v q 81 24 = q := rfl
theorem md18 : mdM I k P v q 81 18 = I 81 18 := rfl
theorem mdo {r j : Nat} (h : r ≠ 81 ∨ (j ≠ 20 ∧ j ≠ 19 ∧ j ≠ 23 ∧ j ≠ 24)) : mdM I k P v q r j = I r j := by
  unfold mdM
  by_cases e : r = 81
  · subst e
    rw [if_pos rfl, if_neg (by omega), if_neg (by omega), if_neg (by omega), if_neg (by omega)]
  · rw [if_neg e]
theorem mu20 {k' : Nat} : am_up2 (mdM I k P v q) 81 20 (nI k') = mdM I k' P v q := by
  funext r j
  unfold am_up2 mdM
  by_cases h1 : r = 81
  · by_cases h2 : j = 20
    · subst h1 h2; rfl
    · rw [if_neg (fun z => h2 z.2), if_pos h1, if_pos h1, if_neg h2, if_neg h2]
  · rw [if_neg (fun z => h1 z.1), if_neg h1, if_neg h1]
theorem mu19 {z : Int32} : am_up2 (mdM I k P v q) 81 19 z = mdM I k z v q := by
  funext r j
  unfold am_up2 mdM
  by_cases h1 : r = 81
  · by_cases h2 : j = 19
    · subst h1 h2; rfl
    · rw [if_neg (fun z => h2 z.2), if_pos h1, if_pos h1]; simp only [h2, if_false]
  · rw [if_neg (fun z => h1 z.1), if_neg h1, if_neg h1]
theorem mu23 {z : Int32} : am_up2 (mdM I k P v q) 81 23 z = mdM I k P z q := by
  funext r j
  unfold am_up2 mdM
  by_cases h1 : r = 81
  · by_cases h2 : j = 23
    · subst h1 h2; rfl
    · rw [if_neg (fun z => h2 z.2), if_pos h1, if_pos h1]; simp only [h2, if_false]
  · rw [if_neg (fun z => h1 z.1), if_neg h1, if_neg h1]
theorem mu24 {z : Int32} : am_up2 (mdM I k P v q) 81 24 z = mdM I k P v z := by
  funext r j
  unfold am_up2 mdM
  by_cases h1 : r = 81
  · by_cases h2 : j = 24
    · subst h1 h2; rfl
    · rw [if_neg (fun z => h2 z.2), if_pos h1, if_pos h1]; simp only [h2, if_false]
  · rw [if_neg (fun z => h1 z.1), if_neg h1, if_neg h1]
theorem muo {r j : Nat} {z : Int32} (h : r ≠ 81 ∨ (j ≠ 20 ∧ j ≠ 19 ∧ j ≠ 23 ∧ j ≠ 24)) : am_up2 (mdM I k P v q) r j z = mdM (am_up2 I r j z) k P v q := by
  funext r' j'
  unfold am_up2 mdM
  dsimp only
  by_cases h1 : r' = r ∧ j' = j
  · obtain ⟨rfl, rfl⟩ := h1
    rw [if_pos ⟨rfl, rfl⟩]
    by_cases h2 : r' = 81
    · subst h2
      rw [if_pos rfl, if_neg (by omega), if_neg (by omega), if_neg (by omega), if_neg (by omega), if_pos ⟨rfl, rfl⟩]
    · rw [if_neg h2, if_pos ⟨rfl, rfl⟩]
  · rw [if_neg h1, if_neg h1]
    by_cases h2 : r' = 81
    · subst h2
      rw [if_pos rfl, if_pos rfl, if_neg h1]
    · rw [if_neg h2, if_neg h2]
theorem md_self (h1 : I 81 20 = nI k) (h2 : I 81 19 = P) (h3 : I 81 23 = v) (h4 : I 81 24 = q) : mdM I k P v q = I := by
  funext r j
  unfold mdM
  by_cases h : r = 81
  · subst h
    rw [if_pos rfl]
    by_cases a1 : j = 20
    · rw [if_pos a1, a1, h1]
    · rw [if_neg a1]
      by_cases a2 : j = 19
      · rw [if_pos a2, a2, h2]
      · rw [if_neg a2]
        by_cases a3 : j = 23
        · rw [if_pos a3, a3, h3]
        · rw [if_neg a3]
          by_cases a7 : j = 24
          · rw [if_pos a7, a7, h4]
          · rw [if_neg a7]
  · rw [if_neg h]
theorem tm_fr (h : frR I I') (X : TM T n I) : TM T n I' := ⟨(h _ _ (by omega)).trans X.1, X.2.1, fun k hk => ⟨(h _ _ (by omega)).trans (X.2.2 k hk).1, (X.2.2 k hk).2⟩⟩
theorem sp_in_48_57 (a : Int32) : am_ev (am_tbl Ls xs) 1 (0, [(0, .long (Int32.toInt64 a)), (2, .long 48), (4, .long 57)], [], (am_sh, I, J)) = some (some (.int (am_b (rgI 48 57 a))), (am_sh, I, J)) := by
  rw [sp_in]
  unfold rgI
  rw [decide_eq_decide.mpr (show (¬ Int32.toInt64 a < 48 ∧ ¬ (57 : Int64) < Int32.toInt64 a) ↔ (((48 : Int32)).toInt ≤ a.toInt ∧ a.toInt ≤ ((57 : Int32)).toInt) by
    rw [Int64.lt_iff_toInt_lt, Int64.lt_iff_toInt_lt, Int32.toInt_toInt64, show (48 : Int64).toInt = 48 from rfl, show (57 : Int64).toInt = 57 from rfl, show (48 : Int32).toInt = 48 from rfl, show (57 : Int32).toInt = 57 from rfl]; omega)]
theorem sp_in_97_122 (a : Int32) : am_ev (am_tbl Ls xs) 1 (0, [(0, .long (Int32.toInt64 a)), (2, .long 97), (4, .long 122)], [], (am_sh, I, J)) = some (some (.int (am_b (rgI 97 122 a))), (am_sh, I, J)) := by
  rw [sp_in]
  unfold rgI
  rw [decide_eq_decide.mpr (show (¬ Int32.toInt64 a < 97 ∧ ¬ (122 : Int64) < Int32.toInt64 a) ↔ (((97 : Int32)).toInt ≤ a.toInt ∧ a.toInt ≤ ((122 : Int32)).toInt) by
    rw [Int64.lt_iff_toInt_lt, Int64.lt_iff_toInt_lt, Int32.toInt_toInt64, show (97 : Int64).toInt = 97 from rfl, show (122 : Int64).toInt = 122 from rfl, show (97 : Int32).toInt = 97 from rfl, show (122 : Int32).toInt = 122 from rfl]; omega)]
def hrV (T : Nat → Nat) (n k : Nat) : Int32 := if nQ T n k < n then nI (T (nQ T n k)) else -1
theorem sp_here (X : TM T n I) (hk : k ≤ n) : am_ev (am_tbl Ls xs) 10 (0, [(0, .ref 81)], [], (am_sh, mdM I k P v q, J)) = some (some (.int (hrV T n k)), (am_sh, mdM I (nQ T n k) P v q, J)) := by
  obtain ⟨X8, hn, Xt⟩ := X
  have g1 := nQ_ge (T := T) (n := n) (k := k)
  have g2 := nQ_le (T := T) hk
  refine (lp (N := nQ T n k - k) (f := fun t => am_ev (am_tbl Ls xs) 10 (0, [(0, .ref 81)], [], (am_sh, mdM I (k + t) P v q, J))) ?_).trans ?_
  · intro t ht
    have h1 : k + t < nQ T n k := by omega
    have h2 : T (k + t) = 32 := of_decide_eq_true (sk_all (p := blk T) (n := n) (k := k) (Nat.le_add_right _ _) h1)
    have h3 := Xt (k + t) (by omega)
    try dsimp only
    rw [b_X9_here_0, md18, md20, X8, if_neg (nI_ge (by omega) (by omega)), if_pos (i_in (by omega) (by omega)), nI_clamp (by omega), mdo (by omega), h3.1, if_neg (show ¬ nI (T (k + t)) ≠ 32 from fun z => z (by rw [h2]; rfl)), nI_1, mu20]
    rfl
  · try dsimp only
    rw [show k + (nQ T n k - k) = nQ T n k by omega]
    unfold hrV
    by_cases b : nQ T n k < n
    · have h2 : blk T (nQ T n k) = false := sk_end hk b
      have h2' : T (nQ T n k) ≠ 32 := of_decide_eq_false h2
      have h3 := Xt (nQ T n k) b
      rw [if_pos b, b_X9_here_0, md18, md20, X8, if_neg (nI_ge b (by omega)), if_pos (i_in (by omega) (by omega)), nI_clamp (by omega), mdo (by omega), h3.1, if_pos (show nI (T (nQ T n k)) ≠ 32 from fun z => h2' ((nI_eq (b := 32) (by omega) (by omega)).mp z)), b_X9_here_38, md18, md20, X8, if_neg (nI_ge b (by omega)), if_pos (i_in (by omega) (by omega)), nI_clamp (by omega), mdo (by omega), h3.1, b_X9_here_62]
    · rw [if_neg b, b_X9_here_0, md18, md20, X8, if_pos (nI_le (by omega) (by omega)), b_X9_here_38, md18, md20, X8, if_pos (nI_le (by omega) (by omega)), b_X9_here_62]
theorem sp_failsM {c p : Int32} : am_ev (am_tbl Ls xs) 11 (0, [(0, .ref 81), (1, .int c), (2, .int p)], [], (am_sh, mdM I k P v q, J)) = some (some (.int c), (am_sh, mdM I k p v q, J)) := by
  rw [b_X9_fails_0, mu19]
theorem sp_num_a (X : TM T n I) (hk : k ≤ n) {a b : Int32} (h : nK T n k = nQ T n k) : am_ev (am_tbl Ls xs) 15 (0, [(0, .ref 81), (1, .int a), (2, .int b)], [], (am_sh, mdM I k P v q, J)) = some (some (.int 1), (am_sh, mdM I (nQ T n k) (nI (nQ T n k)) v q, J)) := by
  have g2 := nQ_le (T := T) hk
  have hr : rgI 48 57 (hrV T n k) = false := by
    unfold hrV
    by_cases c : nQ T n k < n
    · have h3 := (X.2.2 _ c).2
      have h2 : fig T (nK T n k) = false := sk_end g2 (by show nK T n k < n; omega)
      rw [h] at h2
      rw [if_pos c, rgI_nat (m := 48) (n := 57) rfl rfl (by omega)]; exact h2
    · rw [if_neg c]; rfl
  rw [b_X9_takeNumber_0, sp_here X hk, Option.bind_some, am_k_v, b_X9_takeNumber_4, sp_in_48_57, hr, Option.bind_some, am_k_v, b_X9_takeNumber_16, if_neg (show ¬ am_b false ≠ 0 by decide), md20, sp_failsM, Option.bind_some, am_k_v, b_X9_takeNumber_28]
theorem sp_num_b (X : TM T n I) (hk : k ≤ n) {a b : Int32} (h : nK T n k ≠ nQ T n k) : am_ev (am_tbl Ls xs) 15 (0, [(0, .ref 81), (1, .int a), (2, .int b)], [], (am_sh, mdM I k P v q, J)) = am_ev (am_tbl Ls xs) 15 (129, [(0, .ref 81), (1, .int a), (2, .int b)], [], (am_sh, mdM I (nK T n k) P (nI (nvm T (nQ T n k) (nL T n k))) (nI (nQ T n k)), J)) := by
  have X0 := X
  obtain ⟨X8, hn, Xt⟩ := X
  have g1 := nQ_ge (T := T) (n := n) (k := k)
  have g2 := nQ_le (T := T) hk
  have g3 := nK_ge (T := T) (n := n) (k := k)
  have g4 := nK_le (T := T) hk
  have hL : 0 < nL T n k := by unfold nL; omega
  have hr : rgI 48 57 (hrV T n k) = true := by
    have h4 := n_fig hL
    rw [Nat.add_zero] at h4
    unfold hrV
    rw [if_pos (by omega), rgI_nat (m := 48) (n := 57) rfl rfl (by omega)]
    exact decide_eq_true h4
  rw [b_X9_takeNumber_0, sp_here X0 hk, Option.bind_some, am_k_v, b_X9_takeNumber_4, sp_in_48_57, hr, Option.bind_some, am_k_v, b_X9_takeNumber_16, if_pos (show am_b true ≠ 0 by decide), md20, mu24, mu23]
  refine (lp (N := nL T n k) (f := fun t => am_ev (am_tbl Ls xs) 15 (42, [(0, .ref 81), (1, .int a), (2, .int b)], [], (am_sh, mdM I (nQ T n k + t) P (nI (nvm T (nQ T n k) t)) (nI (nQ T n k)), J))) ?_).trans ?_
  · intro t ht
    have ht' : nQ T n k + t < nK T n k := by unfold nL at ht; omega
    have hf := n_fig ht
    have hl := nvm_le (T := T) (a := nQ T n k) t (fun j hj => n_fig (by omega))
    have h3 := Xt (nQ T n k + t) (by omega)
    try dsimp only
    rw [b_X9_takeNumber_42, md18, md20, X8, if_neg (nI_ge (by omega) (by omega)), if_pos (i_in (by omega) (by omega)), nI_clamp (by omega), mdo (by omega), h3.1, sp_in_48_57, rgI_nat (m := 48) (n := 57) rfl rfl (by omega), decide_eq_true hf, Option.bind_some, am_k_v, b_X9_takeNumber_72, if_neg (show ¬ am_b true = 0 by decide), md23, nvm_s]
    by_cases c : 10000 < nvm T (nQ T n k) t
    · rw [if_neg (show ¬ nI (nvm T (nQ T n k) t) ≤ 10000 from nI_ge (a := 10000) c (by omega)), b_X9_takeNumber_113, md20, mu23, nI_1, mu20, if_pos c]
      rfl
    · rw [if_pos (show nI (nvm T (nQ T n k) t) ≤ 10000 from nI_le (b := 10000) (by omega) (by omega)), md20, if_pos (i_in (by omega) (by omega)), nI_clamp (by omega), mdo (by omega), h3.1, b_X9_takeNumber_113, md20, mu23, nI_1, mu20, if_neg c, show (10 : Int32) = nI 10 from rfl, show (48 : Int32) = nI 48 from rfl, pk_mul, nI_add, pk_sub (by omega)]
      rfl
  · try dsimp only
    rw [show nQ T n k + nL T n k = nK T n k by unfold nL; omega, b_X9_takeNumber_42, md18, md20, X8]
    by_cases c : nK T n k < n
    · have h2 : fig T (nK T n k) = false := sk_end g2 c
      have h3 := Xt _ c
      rw [if_neg (nI_ge c (by omega)), if_pos (i_in (by omega) (by omega)), nI_clamp (by omega), mdo (by omega), h3.1, sp_in_48_57, rgI_nat (m := 48) (n := 57) rfl rfl (by omega)]
      show Option.bind (some (some (Value.int (am_b (fig T (nK T n k)))), _)) _ = _
      rw [h2, Option.bind_some, am_k_v, b_X9_takeNumber_72, if_pos (show am_b false = 0 from rfl)]
    · rw [if_pos (nI_le (by omega) (by omega))]
theorem sp_num0 (X : TM T n I) (hk : k ≤ n) {lo hi : Nat} {a b : Int32} (ha : a = nI lo) (hb : b = nI hi) (hlo : lo < 1000) (hhi : hi < 1000) (h : nF T n k lo hi = 0) : am_ev (am_tbl Ls xs) 15 (0, [(0, .ref 81), (1, .int a), (2, .int b)], [], (am_sh, mdM I k P v q, J)) = some (some (.int 0), (am_sh, mdM I (nK T n k) P (nI (nV T n k)) (nI (nQ T n k)), J)) := by
  have g4 := nK_le (T := T) hk
  have g0 := X.2.1
  obtain ⟨f1, f2, f3, f4⟩ := nF_0 h
  have ev : nvm T (nQ T n k) (nL T n k) = nV T n k := nvm_3 _ f2 (fun j hj => n_fig hj)
  have hv := nV_lt (T := T) (n := n) (k := k)
  rw [sp_num_b X hk (by omega), ev, b_X9_takeNumber_129, md20, md24, pk_sub (by omega)]
  show (if (3 : Int32) < nI (nL T n k) then _ else _) = _
  rw [if_neg (show ¬ (3 : Int32) < nI (nL T n k) from nI_nlt (a := 3) f2 (by omega)), md23, ha, hb, sp_in, decide_eq_true (show ¬ Int32.toInt64 (nI (nV T n k)) < Int32.toInt64 (nI lo) ∧ ¬ Int32.toInt64 (nI hi) < Int32.toInt64 (nI (nV T n k)) by
    rw [wd_lt, wd_lt, nI_ltI (by omega) (by omega), nI_ltI (by omega) (by omega)]; omega), Option.bind_some, am_k_v, b_X9_takeNumber_154, if_pos (show am_b true ≠ 0 by decide), b_X9_takeNumber_170]
theorem sp_num1 (X : TM T n I) (hk : k ≤ n) {lo hi : Nat} {a b : Int32} (ha : a = nI lo) (hb : b = nI hi) (hlo : lo < 1000) (hhi : hi < 1000) (h : nF T n k lo hi ≠ 0) : ∃ k' v' q', k' ≤ n ∧ am_ev (am_tbl Ls xs) 15 (0, [(0, .ref 81), (1, .int a), (2, .int b)], [], (am_sh, mdM I k P v q, J)) = some (some (.int (nI (nF T n k lo hi))), (am_sh, mdM I k' (nI (nQ T n k)) v' q', J)) := by
  have g2 := nQ_le (T := T) hk
  have g3 := nK_ge (T := T) (n := n) (k := k)
  have g4 := nK_le (T := T) hk
  have g0 := X.2.1
  by_cases c : nK T n k = nQ T n k
  · exact ⟨_, _, _, g2, by rw [sp_num_a X hk c, nF_1 c]; rfl⟩
  · have e2 : (nF T n k lo hi = if 3 < nL T n k ∨ nV T n k < lo ∨ hi < nV T n k then 2 else 0) := if_neg c
    have hd : 3 < nL T n k ∨ nV T n k < lo ∨ hi < nV T n k := by
      refine Classical.byContradiction (fun z => h ?_)
      rw [e2, if_neg z]
    rw [if_pos hd] at e2
    refine ⟨nK T n k, nI (nvm T (nQ T n k) (nL T n k)), nI (nQ T n k), g4, ?_⟩
    rw [sp_num_b X hk c, e2, b_X9_takeNumber_129, md20, md24, pk_sub g3]
    show (if (3 : Int32) < nI (nL T n k) then _ else _) = _
    by_cases d1 : 3 < nL T n k
    · rw [if_pos (show (3 : Int32) < nI (nL T n k) from nI_lt (a := 3) d1 (by unfold nL; omega)), b_X9_takeNumber_157, md24, sp_failsM, Option.bind_some, am_k_v, b_X9_takeNumber_166, b_X9_takeNumber_170]
      rfl
    · have ev : nvm T (nQ T n k) (nL T n k) = nV T n k := nvm_3 _ (by omega) (fun j hj => n_fig hj)
      have hv := nV_lt (T := T) (n := n) (k := k)
      rw [if_neg (show ¬ (3 : Int32) < nI (nL T n k) from nI_nlt (a := 3) (by omega) (by omega)), md23, ev, ha, hb, sp_in, decide_eq_false (show ¬ (¬ Int32.toInt64 (nI (nV T n k)) < Int32.toInt64 (nI lo) ∧ ¬ Int32.toInt64 (nI hi) < Int32.toInt64 (nI (nV T n k))) by
        rw [wd_lt, wd_lt, nI_ltI (by omega) (by omega), nI_ltI (by omega) (by omega)]; omega), Option.bind_some, am_k_v, b_X9_takeNumber_154, if_neg (show ¬ am_b false ≠ 0 by decide), b_X9_takeNumber_157, md24, sp_failsM, Option.bind_some, am_k_v, b_X9_takeNumber_166, b_X9_takeNumber_170]
      rfl
theorem sp_into93 (X : TM T n I) (hk : k ≤ n) {lo hi c : Nat} (hc : c < 6) {a b : Int32} (ha : a = nI lo) (hb : b = nI hi) (hlo : lo < 1000) (hhi : hi < 1000) (h : nF T n k lo hi = 0) : am_ev (am_tbl Ls xs) 16 (0, [(0, .ref 81), (1, .ref 93), (2, .int (nI c)), (3, .int a), (4, .int b)], [], (am_sh, mdM I k P v q, J)) = some (some (.int 0), (am_sh, mdM (am_up2 I 93 c (nI (nV T n k))) (nK T n k) P (nI (nV T n k)) (nI (nQ T n k)), J)) := by
  rw [b_X9_into_0, sp_num0 X hk ha hb hlo hhi h, Option.bind_some, am_k_v, b_X9_into_7, if_pos (i_in hc (by omega)), nI_clamp (by omega), md23, muo (by omega)]
theorem sp_into93f (X : TM T n I) (hk : k ≤ n) {lo hi c : Nat} (hc : c < 6) {a b : Int32} (ha : a = nI lo) (hb : b = nI hi) (hlo : lo < 1000) (hhi : hi < 1000) (h : nF T n k lo hi ≠ 0) : ∃ k' v' q', k' ≤ n ∧ am_ev (am_tbl Ls xs) 16 (0, [(0, .ref 81), (1, .ref 93), (2, .int (nI c)), (3, .int a), (4, .int b)], [], (am_sh, mdM I k P v q, J)) = some (some (.int (nI (nF T n k lo hi))), (am_sh, mdM (am_up2 I 93 c v') k' (nI (nQ T n k)) v' q', J)) := by
  obtain ⟨k', v', q', h1, e⟩ := sp_num1 (Ls := Ls) (xs := xs) (J := J) (P := P) (v := v) (q := q) X hk ha hb hlo hhi h
  refine ⟨k', v', q', h1, ?_⟩
  rw [b_X9_into_0, e, Option.bind_some, am_k_v, b_X9_into_7, if_pos (i_in hc (by omega)), nI_clamp (by omega), md23, muo (by omega)]
theorem sp_into98 (X : TM T n I) (hk : k ≤ n) {lo hi c : Nat} (hc : c < 6) {a b : Int32} (ha : a = nI lo) (hb : b = nI hi) (hlo : lo < 1000) (hhi : hi < 1000) (h : nF T n k lo hi = 0) : am_ev (am_tbl Ls xs) 16 (0, [(0, .ref 81), (1, .ref 98), (2, .int (nI c)), (3, .int a), (4, .int b)], [], (am_sh, mdM I k P v q, J)) = some (some (.int 0), (am_sh, mdM (am_up2 I 98 c (nI (nV T n k))) (nK T n k) P (nI (nV T n k)) (nI (nQ T n k)), J)) := by
  rw [b_X9_into_0_2, sp_num0 X hk ha hb hlo hhi h, Option.bind_some, am_k_v, b_X9_into_7_2, if_pos (i_in hc (by omega)), nI_clamp (by omega), md23, muo (by omega)]
theorem sp_into98f (X : TM T n I) (hk : k ≤ n) {lo hi c : Nat} (hc : c < 6) {a b : Int32} (ha : a = nI lo) (hb : b = nI hi) (hlo : lo < 1000) (hhi : hi < 1000) (h : nF T n k lo hi ≠ 0) : ∃ k' v' q', k' ≤ n ∧ am_ev (am_tbl Ls xs) 16 (0, [(0, .ref 81), (1, .ref 98), (2, .int (nI c)), (3, .int a), (4, .int b)], [], (am_sh, mdM I k P v q, J)) = some (some (.int (nI (nF T n k lo hi))), (am_sh, mdM (am_up2 I 98 c v') k' (nI (nQ T n k)) v' q', J)) := by
  obtain ⟨k', v', q', h1, e⟩ := sp_num1 (Ls := Ls) (xs := xs) (J := J) (P := P) (v := v) (q := q) X hk ha hb hlo hhi h
  refine ⟨k', v', q', h1, ?_⟩
  rw [b_X9_into_0_2, e, Option.bind_some, am_k_v, b_X9_into_7_2, if_pos (i_in hc (by omega)), nI_clamp (by omega), md23, muo (by omega)]
theorem sp_into94 (X : TM T n I) (hk : k ≤ n) {lo hi c : Nat} (hc : c < 6) {a b : Int32} (ha : a = nI lo) (hb : b = nI hi) (hlo : lo < 1000) (hhi : hi < 1000) (h : nF T n k lo hi = 0) : am_ev (am_tbl Ls xs) 16 (0, [(0, .ref 81), (1, .ref 94), (2, .int (nI c)), (3, .int a), (4, .int b)], [], (am_sh, mdM I k P v q, J)) = some (some (.int 0), (am_sh, mdM (am_up2 I 94 c (nI (nV T n k))) (nK T n k) P (nI (nV T n k)) (nI (nQ T n k)), J)) := by
  rw [b_X9_into_0_3, sp_num0 X hk ha hb hlo hhi h, Option.bind_some, am_k_v, b_X9_into_7_3, if_pos (i_in hc (by omega)), nI_clamp (by omega), md23, muo (by omega)]
theorem sp_into94f (X : TM T n I) (hk : k ≤ n) {lo hi c : Nat} (hc : c < 6) {a b : Int32} (ha : a = nI lo) (hb : b = nI hi) (hlo : lo < 1000) (hhi : hi < 1000) (h : nF T n k lo hi ≠ 0) : ∃ k' v' q', k' ≤ n ∧ am_ev (am_tbl Ls xs) 16 (0, [(0, .ref 81), (1, .ref 94), (2, .int (nI c)), (3, .int a), (4, .int b)], [], (am_sh, mdM I k P v q, J)) = some (some (.int (nI (nF T n k lo hi))), (am_sh, mdM (am_up2 I 94 c v') k' (nI (nQ T n k)) v' q', J)) := by
  obtain ⟨k', v', q', h1, e⟩ := sp_num1 (Ls := Ls) (xs := xs) (J := J) (P := P) (v := v) (q := q) X hk ha hb hlo hhi h
  refine ⟨k', v', q', h1, ?_⟩
  rw [b_X9_into_0_3, e, Option.bind_some, am_k_v, b_X9_into_7_3, if_pos (i_in hc (by omega)), nI_clamp (by omega), md23, muo (by omega)]
theorem sp_into92 (X : TM T n I) (hk : k ≤ n) {lo hi c : Nat} (hc : c < 48) {a b : Int32} (ha : a = nI lo) (hb : b = nI hi) (hlo : lo < 1000) (hhi : hi < 1000) (h : nF T n k lo hi = 0) : am_ev (am_tbl Ls xs) 16 (0, [(0, .ref 81), (1, .ref 92), (2, .int (nI c)), (3, .int a), (4, .int b)], [], (am_sh, mdM I k P v q, J)) = some (some (.int 0), (am_sh, mdM (am_up2 I 92 c (nI (nV T n k))) (nK T n k) P (nI (nV T n k)) (nI (nQ T n k)), J)) := by
  rw [b_X9_into_0_4, sp_num0 X hk ha hb hlo hhi h, Option.bind_some, am_k_v, b_X9_into_7_4, if_pos (i_in hc (by omega)), nI_clamp (by omega), md23, muo (by omega)]
theorem sp_into92f (X : TM T n I) (hk : k ≤ n) {lo hi c : Nat} (hc : c < 48) {a b : Int32} (ha : a = nI lo) (hb : b = nI hi) (hlo : lo < 1000) (hhi : hi < 1000) (h : nF T n k lo hi ≠ 0) : ∃ k' v' q', k' ≤ n ∧ am_ev (am_tbl Ls xs) 16 (0, [(0, .ref 81), (1, .ref 92), (2, .int (nI c)), (3, .int a), (4, .int b)], [], (am_sh, mdM I k P v q, J)) = some (some (.int (nI (nF T n k lo hi))), (am_sh, mdM (am_up2 I 92 c v') k' (nI (nQ T n k)) v' q', J)) := by
  obtain ⟨k', v', q', h1, e⟩ := sp_num1 (Ls := Ls) (xs := xs) (J := J) (P := P) (v := v) (q := q) X hk ha hb hlo hhi h
  refine ⟨k', v', q', h1, ?_⟩
  rw [b_X9_into_0_4, e, Option.bind_some, am_k_v, b_X9_into_7_4, if_pos (i_in hc (by omega)), nI_clamp (by omega), md23, muo (by omega)]
theorem sp_into95 (X : TM T n I) (hk : k ≤ n) {lo hi c : Nat} (hc : c < 6) {a b : Int32} (ha : a = nI lo) (hb : b = nI hi) (hlo : lo < 1000) (hhi : hi < 1000) (h : nF T n k lo hi = 0) : am_ev (am_tbl Ls xs) 16 (0, [(0, .ref 81), (1, .ref 95), (2, .int (nI c)), (3, .int a), (4, .int b)], [], (am_sh, mdM I k P v q, J)) = some (some (.int 0), (am_sh, mdM (am_up2 I 95 c (nI (nV T n k))) (nK T n k) P (nI (nV T n k)) (nI (nQ T n k)), J)) := by
  rw [b_X9_into_0_5, sp_num0 X hk ha hb hlo hhi h, Option.bind_some, am_k_v, b_X9_into_7_5, if_pos (i_in hc (by omega)), nI_clamp (by omega), md23, muo (by omega)]
theorem sp_into95f (X : TM T n I) (hk : k ≤ n) {lo hi c : Nat} (hc : c < 6) {a b : Int32} (ha : a = nI lo) (hb : b = nI hi) (hlo : lo < 1000) (hhi : hi < 1000) (h : nF T n k lo hi ≠ 0) : ∃ k' v' q', k' ≤ n ∧ am_ev (am_tbl Ls xs) 16 (0, [(0, .ref 81), (1, .ref 95), (2, .int (nI c)), (3, .int a), (4, .int b)], [], (am_sh, mdM I k P v q, J)) = some (some (.int (nI (nF T n k lo hi))), (am_sh, mdM (am_up2 I 95 c v') k' (nI (nQ T n k)) v' q', J)) := by
  obtain ⟨k', v', q', h1, e⟩ := sp_num1 (Ls := Ls) (xs := xs) (J := J) (P := P) (v := v) (q := q) X hk ha hb hlo hhi h
  refine ⟨k', v', q', h1, ?_⟩
  rw [b_X9_into_0_5, e, Option.bind_some, am_k_v, b_X9_into_7_5, if_pos (i_in hc (by omega)), nI_clamp (by omega), md23, muo (by omega)]
theorem sp_into96 (X : TM T n I) (hk : k ≤ n) {lo hi c : Nat} (hc : c < 6) {a b : Int32} (ha : a = nI lo) (hb : b = nI hi) (hlo : lo < 1000) (hhi : hi < 1000) (h : nF T n k lo hi = 0) : am_ev (am_tbl Ls xs) 16 (0, [(0, .ref 81), (1, .ref 96), (2, .int (nI c)), (3, .int a), (4, .int b)], [], (am_sh, mdM I k P v q, J)) = some (some (.int 0), (am_sh, mdM (am_up2 I 96 c (nI (nV T n k))) (nK T n k) P (nI (nV T n k)) (nI (nQ T n k)), J)) := by
  rw [b_X9_into_0_6, sp_num0 X hk ha hb hlo hhi h, Option.bind_some, am_k_v, b_X9_into_7_6, if_pos (i_in hc (by omega)), nI_clamp (by omega), md23, muo (by omega)]
theorem sp_into96f (X : TM T n I) (hk : k ≤ n) {lo hi c : Nat} (hc : c < 6) {a b : Int32} (ha : a = nI lo) (hb : b = nI hi) (hlo : lo < 1000) (hhi : hi < 1000) (h : nF T n k lo hi ≠ 0) : ∃ k' v' q', k' ≤ n ∧ am_ev (am_tbl Ls xs) 16 (0, [(0, .ref 81), (1, .ref 96), (2, .int (nI c)), (3, .int a), (4, .int b)], [], (am_sh, mdM I k P v q, J)) = some (some (.int (nI (nF T n k lo hi))), (am_sh, mdM (am_up2 I 96 c v') k' (nI (nQ T n k)) v' q', J)) := by
  obtain ⟨k', v', q', h1, e⟩ := sp_num1 (Ls := Ls) (xs := xs) (J := J) (P := P) (v := v) (q := q) X hk ha hb hlo hhi h
  refine ⟨k', v', q', h1, ?_⟩
  rw [b_X9_into_0_6, e, Option.bind_some, am_k_v, b_X9_into_7_6, if_pos (i_in hc (by omega)), nI_clamp (by omega), md23, muo (by omega)]
/-- behind what a clause says: its end -/
theorem sp_tail0 (X : TM T n I) (hk : k ≤ n) (h : eF T n k = 0) : am_ev (am_tbl Ls xs) 24 (356, [(0, .ref 81)], [.int 0], (am_sh, mdM I k P v q, J)) = some (some (.int 0), (am_sh, mdM I (eK T n k) P v q, J)) := by
  have g0 := X.2.1
  obtain ⟨h1, h2, h3⟩ := eF_0 h
  have h4 : hrV T n k = nI 59 := by unfold hrV; rw [if_pos h1, h2]
  rw [b_X9_takeClause_356_2, if_neg (show ¬ (0 : Int32) ≠ 0 by decide), sp_here X hk, Option.bind_some, am_k_v, b_X9_takeClause_367, h4, if_pos (show nI 59 = 59 from rfl), b_X9_takeClause_382, md20, nI_1, mu20, h3]
theorem sp_tail1 (X : TM T n I) (hk : k ≤ n) (h : eF T n k ≠ 0) : am_ev (am_tbl Ls xs) 24 (356, [(0, .ref 81)], [.int 0], (am_sh, mdM I k P v q, J)) = some (some (.int 1), (am_sh, mdM I (nQ T n k) (nI (nQ T n k)) v q, J)) := by
  have g0 := X.2.1
  obtain ⟨h1, h2⟩ := eF_1 h
  have h4 : ¬ hrV T n k = 59 := by
    unfold hrV
    by_cases c : nQ T n k < n
    · have h3 := (X.2.2 _ c).2
      rw [if_pos c]
      exact fun z => h2 c ((nI_eq (b := 59) (by omega) (by omega)).mp z)
    · rw [if_neg c]; decide
  rw [b_X9_takeClause_356_2, if_neg (show ¬ (0 : Int32) ≠ 0 by decide), sp_here X hk, Option.bind_some, am_k_v, b_X9_takeClause_367, if_neg h4, md20, sp_failsM, Option.bind_some, am_k_v, b_X9_takeClause_381]
theorem sp_tailf {F : Nat} (hF : F ≠ 0) (hF2 : F < 100) : am_ev (am_tbl Ls xs) 24 (356, [(0, .ref 81)], [.int (nI F)], (am_sh, I, J)) = some (some (.int (nI F)), (am_sh, am_up2 I 81 20 (I 81 20 + 1), J)) := by
  rw [b_X9_takeClause_356_2, if_pos (show nI F ≠ 0 from fun z => hF ((n_eq0 (by omega)).mp z)), b_X9_takeClause_382]
end
