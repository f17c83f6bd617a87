/-! THE CLASS READS: the small methods -/
theorem i_in2 {n N : Nat} (h : n < N) (hN : N < 2147483648) : ¬ (nI n < 0 ∨ N ≤ n) := fun z => z.elim (fun z => nI_pos (by omega) z) (fun z => by omega)
def rdM (I : Nat → Nat → Int32) (k F : Nat) (P q : Int32) : Nat → Nat → Int32 := fun r j => if r = 1 then (if j = 1 then nI k else if j = 2 then nI F else if j = 3 then q else if j = 7 then P else I 1 j) else I r j
def fF (F f : Nat) : Nat := if F = 0 then f else F
def fP (F f : Nat) (P p : Int32) : Int32 := if F = 0 ∧ f ≠ 0 then p else P
theorem fF_0 {f : Nat} : fF 0 f = f := if_pos rfl
theorem fF_n {F f : Nat} (h : F ≠ 0) : fF F f = F := if_neg h
theorem fP_n {F f : Nat} {P p : Int32} (h : F ≠ 0) : fP F f P p = P := if_neg (fun z => h z.1)
theorem fP_0 {F : Nat} {P p : Int32} : fP F 0 P p = P := if_neg (fun z => z.2 rfl)
theorem fP_1 {f : Nat} {P p : Int32} (h : f ≠ 0) : fP 0 f P p = p := if_pos ⟨rfl, h⟩
def TX (T : Nat → Nat) (n : Nat) (I : Nat → Nat → Int32) : Prop := I 1 6 = nI n ∧ n ≤ 500 ∧ ∀ k, k < n → I 2 k = bI (T k) ∧ T k < 256
theorem bI_toInt {b : Nat} (h : b < 256) : (bI b).toInt = if b < 128 then (b : Int) else (b : Int) - 256 := by
  unfold bI
  by_cases q : b < 128
  · rw [if_pos q, if_pos q, nI_toInt (by omega)]
  · rw [if_neg q, if_neg q, i_sub (by rw [nI_toInt (by omega), show (256 : Int32).toInt = 256 from rfl]; omega) (by rw [nI_toInt (by omega), show (256 : Int32).toInt = 256 from rfl]; omega), nI_toInt (by omega)]; rfl
theorem bI_lt {b : Nat} {z : Int32} (h : b < 256) {m : Nat} (hz : z.toInt = m) : bI b < z ↔ (b < m ∧ b < 128) ∨ (128 ≤ b) := by
  rw [i_ltN, bI_toInt h, hz]
  split <;> omega
theorem bI_gt {b : Nat} {z : Int32} (h : b < 256) {m : Nat} (hz : z.toInt = m) : z < bI b ↔ m < b ∧ b < 128 := by
  rw [i_ltN, bI_toInt h, hz]
  split <;> omega
theorem bI_eq {b : Nat} {z : Int32} (h : b < 256) {m : Nat} (hz : z.toInt = m) (hm : m < 128) : bI b = z ↔ b = m := by
  rw [← Int32.toInt_inj, bI_toInt h, hz]
  split <;> omega
section
variable {Ls : Nat} {xs : Nat → Int32} {I : Nat → Nat → Int32} {J : Nat → Nat → Int64} {T : Nat → Nat} {n k F : Nat} {P q : Int32}
theorem rd1 : rdM I k F P q 1 1 = nI k := rfl
theorem rd2 : rdM I k F P q 1 2 = nI F := rfl
theorem rd3 : rdM I k F P q 1 3 = q := rfl
theorem rd4 : rdM I k F P q 1 4 = I 1 4 := rfl
theorem rd5 : rdM I k F P q 1 5 = I 1 5 := rfl
theorem rd6 : rdM I k F P q 1 6 = I 1 6 := rfl
theorem rd7 : rdM I k F P q 1 7 = P := rfl
theorem rdt {j : Nat} : rdM I k F P q 2 j = I 2 j := rfl
theorem rdp {j : Nat} : rdM I k F P q 3 j = I 3 j := rfl
theorem rdo {r j : Nat} (h : r ≠ 1) : rdM I k F P q r j = I r j := if_neg h
theorem ru1 {k' : Nat} : am_up2 (rdM I k F P q) 1 1 (nI k') = rdM I k' F P q := by
  funext r j
  unfold am_up2 rdM
  by_cases h1 : r = 1
  · by_cases h2 : j = 1
    · subst h1 h2; rfl
    · rw [if_neg (fun z => h2 z.2), if_pos h1, if_pos h1, if_neg h2, if_neg h2]
  · rw [if_neg (fun z => h1 z.1), if_neg h1, if_neg h1]
theorem ru2 {k' : Nat} : am_up2 (rdM I k F P q) 1 2 (nI k') = rdM I k k' P q := by
  funext r j
  unfold am_up2 rdM
  by_cases h1 : r = 1
  · by_cases h2 : j = 2
    · subst h1 h2; rfl
    · rw [if_neg (fun z => h2 z.2), if_pos h1, if_pos h1]; simp only [h2, if_false]
  · rw [if_neg (fun z => h1 z.1), if_neg h1, if_neg h1]
theorem ru3 {z : Int32} : am_up2 (rdM I k F P q) 1 3 z = rdM I k F P z := by
  funext r j
  unfold am_up2 rdM
  by_cases h1 : r = 1
  · by_cases h2 : j = 3
    · subst h1 h2; rfl
    · rw [if_neg (fun z => h2 z.2), if_pos h1, if_pos h1]; simp only [h2, if_false]
  · rw [if_neg (fun z => h1 z.1), if_neg h1, if_neg h1]
theorem ru7 {z : Int32} : am_up2 (rdM I k F P q) 1 7 z = rdM I k F z q := by
  funext r j
  unfold am_up2 rdM
  by_cases h1 : r = 1
  · by_cases h2 : j = 7
    · subst h1 h2; rfl
    · rw [if_neg (fun z => h2 z.2), if_pos h1, if_pos h1]; simp only [h2, if_false]
  · rw [if_neg (fun z => h1 z.1), if_neg h1, if_neg h1]
theorem ruo {r j : Nat} {z : Int32} (h : r ≠ 1 ∨ (j ≠ 1 ∧ j ≠ 2 ∧ j ≠ 3 ∧ j ≠ 7)) : am_up2 (rdM I k F P q) r j z = rdM (am_up2 I r j z) k F P q := by
  funext r' j'
  unfold am_up2 rdM
  dsimp only
  by_cases h1 : r' = r ∧ j' = j
  · obtain ⟨rfl, rfl⟩ := h1
    rw [if_pos ⟨rfl, rfl⟩]
    by_cases h2 : r' = 1
    · subst h2
      rw [if_pos rfl, if_neg (by omega), if_neg (by omega), if_neg (by omega), if_neg (by omega), if_pos ⟨rfl, rfl⟩]
    · rw [if_neg h2, if_pos ⟨rfl, rfl⟩]
  · rw [if_neg h1, if_neg h1]
    by_cases h2 : r' = 1
    · subst h2
      rw [if_pos rfl, if_pos rfl, if_neg h1]
    · rw [if_neg h2, if_neg h2]
theorem rd_self (h1 : I 1 1 = nI k) (h2 : I 1 2 = nI F) (h3 : I 1 3 = q) (h7 : I 1 7 = P) : rdM I k F P q = I := by
  funext r j
  unfold rdM
  by_cases h : r = 1
  · subst h
    rw [if_pos rfl]
    by_cases a1 : j = 1
    · rw [if_pos a1, a1, h1]
    · rw [if_neg a1]
      by_cases a2 : j = 2
      · rw [if_pos a2, a2, h2]
      · rw [if_neg a2]
        by_cases a3 : j = 3
        · rw [if_pos a3, a3, h3]
        · rw [if_neg a3]
          by_cases a7 : j = 7
          · rw [if_pos a7, a7, h7]
          · rw [if_neg a7]
  · rw [if_neg h]
theorem sx_blanks (X : TX T n I) (hk : k ≤ n) : am_ev (am_tbl Ls xs) 155 (0, [(0, .ref 1)], [], (am_sh, rdM I k F P q, J)) = some (none, (am_sh, rdM I (nQ T n k) F P q, J)) := by
  obtain ⟨X6, hn, Xt⟩ := X
  have g1 := nQ_ge (T := T) (n := n) (k := k)
  have g2 := nQ_le (T := T) hk
  rw [b_X3_skipBlanks_0]
  refine (lp (N := nQ T n k - k) (f := fun t => am_ev (am_tbl Ls xs) 155 (2, [(0, .ref 1), (1, .int (nI t))], [], (am_sh, rdM I (k + t) F P q, J))) ?_).trans ?_
  · intro t ht
    have h1 : k + t < nQ T n k := by omega
    have h2 : T (k + t) = 32 := of_decide_eq_true (sk_all (p := blk T) (n := n) (k := k) (Nat.le_add_right _ _) h1)
    have h3 := Xt (k + t) (by omega)
    try dsimp only
    rw [b_X3_skipBlanks_2, if_neg (show ¬ (500 : Int32) ≤ nI t from nI_ge (b := 500) (by omega) (by omega)), rd6, rd1, X6, if_neg (nI_ge (by omega) (by omega)), if_pos (i_in (by omega) (by omega)), nI_clamp (by omega), rdt, h3.1, if_neg (show ¬ bI (T (k + t)) ≠ 32 from fun z => z ((bI_eq h3.2 (m := 32) rfl (by omega)).mpr h2)), i_p1, nI_1, ru1]
    rfl
  · try dsimp only
    rw [show k + (nQ T n k - k) = nQ T n k by omega, b_X3_skipBlanks_2]
    by_cases a : 500 ≤ nQ T n k - k
    · rw [if_pos (show (500 : Int32) ≤ nI (nQ T n k - k) from nI_le (a := 500) a (by omega)), b_X3_skipBlanks_50]
    · rw [if_neg (show ¬ (500 : Int32) ≤ nI (nQ T n k - k) from nI_ge (b := 500) (by omega) (by omega)), rd6, rd1, X6]
      by_cases b : nQ T n k < n
      · have h2 : blk T (nQ T n k) = false := sk_end hk b
        have h2' : T (nQ T n k) ≠ 32 := of_decide_eq_false h2
        have h3 := Xt (nQ T n k) b
        rw [if_neg (nI_ge b (by omega)), if_pos (i_in (by omega) (by omega)), nI_clamp (by omega), rdt, h3.1, if_pos (show bI (T (nQ T n k)) ≠ 32 from fun z => h2' ((bI_eq h3.2 (m := 32) rfl (by omega)).mp z)), b_X3_skipBlanks_50]
      · rw [if_pos (nI_le (by omega) (by omega)), b_X3_skipBlanks_50]
/-- the end of the letters -/
def lE (T : Nat → Nat) (n k : Nat) : Nat := sk (ltr T) n k
theorem sx_letters (X : TX T n I) (hk : k ≤ n) : am_ev (am_tbl Ls xs) 156 (0, [(0, .ref 1)], [], (am_sh, rdM I k F P q, J)) = some (none, (am_sh, rdM I (lE T n k) F P q, J)) := by
  obtain ⟨X6, hn, Xt⟩ := X
  have g1 : k ≤ lE T n k := sk_ge
  have g2 : lE T n k ≤ n := sk_le hk
  rw [b_X3_skipLetters_0]
  refine (lp (N := lE T n k - k) (f := fun t => am_ev (am_tbl Ls xs) 156 (2, [(0, .ref 1), (1, .int (nI t))], [], (am_sh, rdM I (k + t) F P q, J))) ?_).trans ?_
  · intro t ht
    have h1 : k + t < lE T n k := by omega
    have h2 : 97 ≤ T (k + t) ∧ T (k + t) ≤ 122 := of_decide_eq_true (sk_all (p := ltr T) (n := n) (k := k) (Nat.le_add_right _ _) h1)
    have h3 := Xt (k + t) (by omega)
    try dsimp only
    rw [b_X3_skipLetters_2, if_neg (show ¬ (500 : Int32) ≤ nI t from nI_ge (b := 500) (by omega) (by omega)), rd6, rd1, X6, if_neg (nI_ge (by omega) (by omega)), if_pos (i_in (by omega) (by omega)), nI_clamp (by omega), rdt, h3.1, if_neg (show ¬ bI (T (k + t)) < 97 from fun z => by have := (bI_lt h3.2 (m := 97) rfl).mp z; omega), if_pos (i_in2 (by omega) (by omega)), if_neg (show ¬ 122 < bI (T (k + t)) from fun z => by have := (bI_gt h3.2 (m := 122) rfl).mp z; omega), i_p1, nI_1, ru1]
    rfl
  · try dsimp only
    rw [show k + (lE T n k - k) = lE T n k by omega, b_X3_skipLetters_2]
    by_cases a : 500 ≤ lE T n k - k
    · rw [if_pos (show (500 : Int32) ≤ nI (lE T n k - k) from nI_le (a := 500) a (by omega)), b_X3_skipLetters_64]
    · rw [if_neg (show ¬ (500 : Int32) ≤ nI (lE T n k - k) from nI_ge (b := 500) (by omega) (by omega)), rd6, rd1, X6]
      by_cases b : lE T n k < n
      · have h2 : ltr T (lE T n k) = false := sk_end hk b
        have h2' : ¬ (97 ≤ T (lE T n k) ∧ T (lE T n k) ≤ 122) := of_decide_eq_false h2
        have h3 := Xt (lE T n k) b
        rw [if_neg (nI_ge b (by omega)), if_pos (i_in (by omega) (by omega)), nI_clamp (by omega), rdt, h3.1]
        by_cases c : bI (T (lE T n k)) < 97
        · rw [if_pos c, b_X3_skipLetters_64]
        · rw [if_neg c, if_pos (i_in2 (by omega) (by omega)), if_pos (show 122 < bI (T (lE T n k)) from (bI_gt h3.2 (m := 122) rfl).mpr (by
            have h4 : ¬ ((T (lE T n k) < 97 ∧ T (lE T n k) < 128) ∨ 128 ≤ T (lE T n k)) := fun z => c ((bI_lt h3.2 (m := 97) rfl).mpr z)
            omega)), b_X3_skipLetters_64]
      · rw [if_pos (nI_le (by omega) (by omega)), b_X3_skipLetters_64]
theorem sx_figure (X : TX T n I) {j : Nat} (hj : j ≤ n) : am_ev (am_tbl Ls xs) 157 (0, [(0, .ref 1), (1, .int (nI j))], [], (am_sh, rdM I k F P q, J)) = some (some (.int (am_b (decide (j < n) && fig T j))), (am_sh, rdM I k F P q, J)) := by
  obtain ⟨X6, hn, Xt⟩ := X
  rw [b_X3_isFigure_0, if_neg (nI_pos (by omega)), rd6, X6]
  by_cases a : j < n
  · have h3 := Xt j a
    rw [if_neg (nI_ge a (by omega)), if_pos (i_in (by omega) (by omega)), nI_clamp (by omega), rdt, h3.1, decide_eq_true a, Bool.true_and]
    unfold fig
    by_cases c : bI (T j) < 48
    · rw [if_pos c, b_X3_isFigure_38, b_X3_isFigure_39, if_pos (Or.inl rfl), decide_eq_false (by have := (bI_lt h3.2 (m := 48) rfl).mp c; omega)]; rfl
    · have h4 : ¬ ((T j < 48 ∧ T j < 128) ∨ 128 ≤ T j) := fun z => c ((bI_lt h3.2 (m := 48) rfl).mpr z)
      rw [if_neg c, if_pos (i_in2 (by omega) (by omega))]
      by_cases d : 57 < bI (T j)
      · have h5 := (bI_gt h3.2 (m := 57) rfl).mp d
        rw [if_pos d, b_X3_isFigure_38, b_X3_isFigure_39, if_pos (Or.inl rfl), decide_eq_false (by omega)]; rfl
      · have h5 : ¬ (57 < T j ∧ T j < 128) := fun z => d ((bI_gt h3.2 (m := 57) rfl).mpr z)
        rw [if_neg d, b_X3_isFigure_39, if_pos (Or.inr rfl), decide_eq_true (by omega)]; rfl
  · rw [if_pos (nI_le (by omega) (by omega)), b_X3_isFigure_38, b_X3_isFigure_39, if_pos (Or.inl rfl), decide_eq_false a, Bool.false_and]; rfl
theorem sx_fail {c : Nat} {z p : Int32} (hz : z = nI c) (hc : c ≠ 0) (hF : F < 100) : am_ev (am_tbl Ls xs) 159 (0, [(0, .ref 1), (1, .int z), (2, .int p)], [], (am_sh, rdM I k F P q, J)) = some (none, (am_sh, rdM I k (fF F c) (fP F c P p) q, J)) := by
  rw [b_X3_fail_0, rd2]
  by_cases h : F = 0
  · subst h
    rw [if_neg (show ¬ nI 0 ≠ 0 from fun z => z rfl), hz, ru2, ru7, b_X3_fail_17, fF_0, fP_1 hc]
  · rw [if_pos (show nI F ≠ 0 from fun z => h ((n_eq0 (by omega)).mp z)), b_X3_fail_17, fF_n h, fP_n h]
theorem sx_num (X : TX T n I) (hk : k ≤ n) (hF : F < 100) {lo hi : Nat} {a b : Int32} (ha : a = nI lo) (hb : b = nI hi) (hlo : lo < 1000) (hhi : hi < 1000) : am_ev (am_tbl Ls xs) 153 (0, [(0, .ref 1), (1, .int a), (2, .int b)], [], (am_sh, rdM I k F P q, J)) = some (some (.int (nI (if fF F (nF T n k lo hi) = 0 then nV T n k else lo))), (am_sh, rdM I (nK T n k) (fF F (nF T n k lo hi)) (fP F (nF T n k lo hi) P (nI (nQ T n k))) (nI (nQ T n k)), J)) := by
  have X0 := X
  obtain ⟨X6, hn, Xt⟩ := X
  have g1 := nQ_ge (T := T) (n := n) (k := k)
  have g2 := nQ_le (T := T) hk
  have g3 := nK_ge (T := T) (n := n) (k := k)
  have g4 := nK_le (T := T) hk
  have hv := nV_lt (T := T) (n := n) (k := k)
  have e80 : am_ev (am_tbl Ls xs) 153 (0, [(0, .ref 1), (1, .int a), (2, .int b)], [], (am_sh, rdM I k F P q, J)) = am_ev (am_tbl Ls xs) 153 (80, [(0, .ref 1), (1, .int a), (2, .int b), (3, .int (nI (nQ T n k))), (4, .int (nI (nV T n k)))], [], (am_sh, rdM I (nK T n k) F P q, J)) := by
    rw [b_X3_readNumber_0, sx_blanks X0 hk, Option.bind_some, am_k_n, b_X3_readNumber_4, rd1]
    refine (lp (N := nL T n k) (f := fun t => am_ev (am_tbl Ls xs) 153 (15, [(0, .ref 1), (1, .int a), (2, .int b), (3, .int (nI (nQ T n k))), (4, .int (nI (nv3 T (nQ T n k) t))), (5, .int (nI t))], [], (am_sh, rdM I (nQ T n k + t) F P q, J))) ?_).trans ?_
    · intro t ht
      have ht' : nQ T n k + t < nK T n k := by unfold nL at ht; omega
      have hf := n_fig ht
      have hl := nv3_le (T := T) (a := nQ T n k) (m := t) (fun j hj => n_fig (by omega))
      have h3 := Xt (nQ T n k + t) (by omega)
      try dsimp only
      rw [b_X3_readNumber_15, if_neg (show ¬ (500 : Int32) ≤ nI t from nI_ge (b := 500) (by omega) (by omega)), rd1, sx_figure X0 (show nQ T n k + t ≤ n by omega), Option.bind_some, am_k_v, decide_eq_true (show nQ T n k + t < n by omega), Bool.true_and, show fig T (nQ T n k + t) = true from decide_eq_true hf, b_X3_readNumber_31, if_neg (show ¬ am_b true = 0 by decide), rd1, pk_sub (Nat.le_add_right _ _), show nQ T n k + t - nQ T n k = t by omega, nv3_s]
      by_cases q3 : t < 3
      · rw [if_neg (show ¬ (3 : Int32) ≤ nI t from nI_ge (b := 3) q3 (by omega)), if_pos (i_in (by omega) (by omega)), nI_clamp (by omega), rdt, h3.1, show bI (T (nQ T n k + t)) = nI (T (nQ T n k + t)) from if_pos (by omega), b_X3_readNumber_64, show (10 : Int32) = nI 10 from rfl, show (48 : Int32) = nI 48 from rfl, pk_mul, nI_add, pk_sub (by omega), i_p1, rd1, nI_1, ru1, if_pos q3]
        rfl
      · rw [if_pos (show (3 : Int32) ≤ nI t from nI_le (a := 3) (by omega) (by omega)), b_X3_readNumber_64, i_p1, rd1, nI_1, ru1, if_neg q3]
        rfl
    · try dsimp only
      rw [show nQ T n k + nL T n k = nK T n k by unfold nL; omega, b_X3_readNumber_15]
      show _ = am_ev (am_tbl Ls xs) 153 (80, [(0, .ref 1), (1, .int a), (2, .int b), (3, .int (nI (nQ T n k))), (4, .int (nI (nv3 T (nQ T n k) (nL T n k))))], [], (am_sh, rdM I (nK T n k) F P q, J))
      by_cases h5 : 500 ≤ nL T n k
      · rw [if_pos (show (500 : Int32) ≤ nI (nL T n k) from nI_le (a := 500) h5 (by unfold nL; omega))]
      · rw [if_neg (show ¬ (500 : Int32) ≤ nI (nL T n k) from nI_ge (b := 500) (by omega) (by omega)), rd1, sx_figure X0 g4, Option.bind_some, am_k_v, b_X3_readNumber_31, if_pos]
        by_cases c : nK T n k < n
        · rw [show fig T (nK T n k) = false from sk_end g2 c, Bool.and_false]; rfl
        · rw [decide_eq_false c, Bool.false_and]; rfl
  rw [e80, b_X3_readNumber_80, rd1]
  have fin : ∀ f P', (f < 100) → (∀ z w : Int32, (if f ≠ 0 then am_ev (am_tbl Ls xs) 153 (143, [], [.int a], (am_sh, rdM I (nK T n k) f P' (nI (nQ T n k)), J)) else am_ev (am_tbl Ls xs) 153 (143, [], [.int (nI (nV T n k))], (am_sh, rdM I (nK T n k) f P' (nI (nQ T n k)), J))) = some (some (.int (nI (if f = 0 then nV T n k else lo))), (am_sh, rdM I (nK T n k) f P' (nI (nQ T n k)), J))) := fun f P' _ _ _ => by
    by_cases h : f = 0
    · rw [if_neg (fun z => z h), if_pos h, b_X3_readNumber_143]
    · rw [if_pos h, if_neg h, b_X3_readNumber_143, ha]
  by_cases c1 : nK T n k = nQ T n k
  · have e1 : nF T n k lo hi = 1 := nF_1 c1
    rw [if_neg (show ¬ nI (nK T n k) ≠ nI (nQ T n k) from fun z => z (by rw [c1])), ru3, sx_fail (z := 1) (c := 1) rfl (by omega) hF, Option.bind_some, am_k_n, b_X3_readNumber_99, b_X3_readNumber_130, rd2, e1]
    have hF2 : fF F 1 < 100 := by unfold fF; split <;> omega
    refine Eq.trans ?_ (fin (fF F 1) (fP F 1 P (nI (nQ T n k))) hF2 0 0)
    by_cases h : fF F 1 = 0
    · rw [if_neg (show ¬ nI (fF F 1) ≠ 0 from fun z => z (by rw [h]; rfl)), if_neg (fun z => z h)]
    · rw [if_pos (show nI (fF F 1) ≠ 0 from fun z => h ((n_eq0 (by omega)).mp z)), if_pos h]
  · rw [if_pos (show nI (nK T n k) ≠ nI (nQ T n k) from fun z => c1 ((nI_eq (by omega) (by omega)).mp z)), pk_sub g3, ru3]
    have e2 : (nF T n k lo hi = if 3 < nL T n k ∨ nV T n k < lo ∨ hi < nV T n k then 2 else 0) := if_neg c1
    have bad : (3 < nL T n k ∨ nV T n k < lo ∨ hi < nV T n k) → am_ev (am_tbl Ls xs) 153 (124, [(0, .ref 1), (1, .int a), (3, .int (nI (nQ T n k))), (4, .int (nI (nV T n k)))], [], (am_sh, rdM I (nK T n k) F P (nI (nQ T n k)), J)) = some (some (.int (nI (if fF F (nF T n k lo hi) = 0 then nV T n k else lo))), (am_sh, rdM I (nK T n k) (fF F (nF T n k lo hi)) (fP F (nF T n k lo hi) P (nI (nQ T n k))) (nI (nQ T n k)), J)) := fun hb2 => by
      rw [e2, if_pos hb2, b_X3_readNumber_124, sx_fail (z := 2) (c := 2) rfl (by omega) hF, Option.bind_some, am_k_n, b_X3_readNumber_130_2, rd2]
      have hF2 : fF F 2 < 100 := by unfold fF; split <;> omega
      refine Eq.trans ?_ (fin (fF F 2) (fP F 2 P (nI (nQ T n k))) hF2 0 0)
      by_cases h : fF F 2 = 0
      · rw [if_neg (show ¬ nI (fF F 2) ≠ 0 from fun z => z (by rw [h]; rfl)), if_neg (fun z => z h)]
      · rw [if_pos (show nI (fF F 2) ≠ 0 from fun z => h ((n_eq0 (by omega)).mp z)), if_pos h]
    show (if (3 : Int32) < nI (nL T n k) then _ else _) = _
    by_cases d1 : 3 < nL T n k
    · rw [if_pos (show (3 : Int32) < nI (nL T n k) from nI_lt (a := 3) d1 (by unfold nL; omega))]
      exact bad (Or.inl d1)
    · rw [if_neg (show ¬ (3 : Int32) < nI (nL T n k) from nI_nlt (a := 3) (by omega) (by omega)), ha, hb]
      by_cases d2 : nV T n k < lo
      · rw [if_pos (nI_lt d2 (by omega)), ← ha]
        exact bad (Or.inr (Or.inl d2))
      · rw [if_neg (nI_nlt (by omega) (by omega))]
        by_cases d3 : hi < nV T n k
        · rw [if_neg (nI_ge d3 (by omega)), ← ha]
          exact bad (Or.inr (Or.inr d3))
        · have hz : ¬ (3 < nL T n k ∨ nV T n k < lo ∨ hi < nV T n k) := by omega
          rw [if_pos (nI_le (by omega) (by omega)), e2, if_neg hz, b_X3_readNumber_130, rd2, ← ha, fP_0]
          refine Eq.trans ?_ (fin (fF F 0) P (by unfold fF; split <;> omega) 0 0)
          have hff : fF F 0 = F := by unfold fF; split <;> omega
          rw [hff]
          by_cases h : F = 0
          · rw [if_neg (show ¬ nI F ≠ 0 from fun z => z (by rw [h]; rfl)), if_neg (fun z => z h)]
          · rw [if_pos (show nI F ≠ 0 from fun z => h ((n_eq0 (by omega)).mp z)), if_pos h]
/-- the end of a statement -/
def eF (T : Nat → Nat) (n k : Nat) : Nat := if nQ T n k < n ∧ T (nQ T n k) = 59 then 0 else 1
def eK (T : Nat → Nat) (n k : Nat) : Nat := if nQ T n k < n ∧ T (nQ T n k) = 59 then nQ T n k + 1 else nQ T n k
theorem eF_0 (h : eF T n k = 0) : nQ T n k < n ∧ T (nQ T n k) = 59 ∧ eK T n k = nQ T n k + 1 := by
  unfold eF at h
  by_cases c : nQ T n k < n ∧ T (nQ T n k) = 59
  · exact ⟨c.1, c.2, if_pos c⟩
  · rw [if_neg c] at h; omega
theorem eF_1 (h : eF T n k ≠ 0) : eF T n k = 1 ∧ (nQ T n k < n → T (nQ T n k) ≠ 59) := by
  unfold eF at h ⊢
  by_cases c : nQ T n k < n ∧ T (nQ T n k) = 59
  · rw [if_pos c] at h; exact absurd rfl h
  · exact ⟨if_neg c, fun a b => c ⟨a, b⟩⟩
theorem sx_end (X : TX T n I) (hk : k ≤ n) (hF : F < 100) : am_ev (am_tbl Ls xs) 154 (0, [(0, .ref 1)], [], (am_sh, rdM I k F P q, J)) = some (none, (am_sh, rdM I (eK T n k) (fF F (eF T n k)) (fP F (eF T n k) P (nI (nQ T n k))) q, J)) := by
  have X0 := X
  obtain ⟨X6, hn, Xt⟩ := X
  have g2 := nQ_le (T := T) hk
  rw [b_X3_readEnd_0, sx_blanks X0 hk, Option.bind_some, am_k_n, b_X3_readEnd_4, rd6, rd1, X6]
  have bad : ¬ (nQ T n k < n ∧ T (nQ T n k) = 59) → am_ev (am_tbl Ls xs) 154 (42, [(0, .ref 1)], [], (am_sh, rdM I (nQ T n k) F P q, J)) = some (none, (am_sh, rdM I (eK T n k) (fF F (eF T n k)) (fP F (eF T n k) P (nI (nQ T n k))) q, J)) := fun c => by
    unfold eK eF
    rw [if_neg c, if_neg c, b_X3_readEnd_42, rd1, sx_fail (z := 1) (c := 1) rfl (by omega) hF, Option.bind_some, am_k_n, b_X3_readEnd_51_2]
  by_cases c : nQ T n k < n
  · have h3 := Xt _ c
    rw [if_neg (nI_ge c (by omega)), if_pos (i_in (by omega) (by omega)), nI_clamp (by omega), rdt, h3.1]
    by_cases d : T (nQ T n k) = 59
    · rw [if_neg (show ¬ bI (T (nQ T n k)) ≠ 59 from fun z => z ((bI_eq h3.2 (m := 59) rfl (by omega)).mpr d)), nI_1, ru1, b_X3_readEnd_51]
      unfold eK eF
      rw [if_pos ⟨c, d⟩, if_pos ⟨c, d⟩, fP_0]
      have hff : fF F 0 = F := by unfold fF; split <;> omega
      rw [hff]
    · rw [if_pos (show bI (T (nQ T n k)) ≠ 59 from fun z => d ((bI_eq h3.2 (m := 59) rfl (by omega)).mp z))]
      exact bad (fun z => d z.2)
  · rw [if_pos (nI_le (by omega) (by omega))]
    exact bad (fun z => c z.1)

theorem sx_len0 : am_ev (am_tbl Ls xs) 194 (0, [(0, .ref 1000000)], [], (am_sh, I, J)) = some (some (.int (nI 6)), (am_sh, I, J)) := by
  rw [b_J0_length_8abf5_0_3, b_J0_coder_7d493_0_3, if_neg (show ¬ (1 : Nat) = 0 by decide), b_J0_coder_7d493_14, if_pos (by decide), Option.bind_some, am_k_v, b_J0_length_8abf5_9_3]
  rfl
theorem sx_ch0 {i : Nat} (hi : i < 6) : am_ev (am_tbl Ls xs) 195 (0, [(0, .ref 1000000), (1, .int (nI i))], [], (am_sh, I, J)) = some (some (.int (nI (wch 0 i))), (am_sh, I, J)) := by
  have h : ∀ i, i < 6 → narrow .char (.int (UInt32.toInt32 (Int32.toUInt32 (((am_tx.getD 0 []).getD i 0) &&& 255) % 65536))) = .int (UInt32.toInt32 (Int32.toUInt32 (((am_tx.getD 0 []).getD i 0) &&& 255) % 65536)) ∧ UInt32.toInt32 (Int32.toUInt32 (((am_tx.getD 0 []).getD i 0) &&& 255) % 65536) = nI (wch 0 i) := by decide +kernel
  obtain ⟨h1, h2⟩ := h i hi
  rw [b_J0_charAt_5068e_0_3, b_J0_isLatin1_aae02_0_3, if_neg (show ¬ (1 : Nat) = 0 by decide), if_neg (show ¬ (0 : Nat) ≠ 0 by decide), b_J0_isLatin1_aae02_18, if_pos (Or.inr rfl), Option.bind_some, am_k_v, b_J0_charAt_5068e_4_3, if_neg (show ¬ (1 : Int32) = 0 by decide), b_J1_charAt_3b067_0_3, b_J0_checkIndex_df160_0, b_J3_checkIndex_8e157_0 (a2 := 0), if_neg (nI_pos (by omega)), if_pos (show nI i < 6 from nI_lt (b := 6) hi (by omega)), Option.bind_some, am_k_v, b_J0_checkIndex_df160_8, Option.bind_some, am_k_n, b_J1_charAt_3b067_6_3, if_pos (i_in hi (by omega)), nI_clamp (by omega), if_pos h1, Option.bind_some, am_k_v, b_J0_charAt_5068e_15_3, if_pos h1, h2]
theorem sx_word0 (X : TX T n I) {a e : Nat} (ha : a ≤ e) (he : e ≤ n) : am_ev (am_tbl Ls xs) 158 (0, [(0, .ref 1), (1, .int (nI a)), (2, .ref 1000000)], [], (am_sh, rdM I e F P q, J)) = some (some (.int (am_b (isw T a e 0))), (am_sh, rdM I e F P q, J)) := by
  obtain ⟨X6, hn, Xt⟩ := X
  have hl : wln 0 = 6 := rfl
  rw [b_X3_isWord_0_3, if_neg (nI_pos (by omega)), sx_len0, Option.bind_some, am_k_v, b_X3_isWord_14_3, rd1, pk_sub ha]
  unfold isw
  rw [hl]
  by_cases h : e - a = 6
  · rw [if_pos (show nI (e - a) = nI 6 by rw [h]), decide_eq_true h, Bool.true_and]
    rcases lpx (N := 6) (f := fun t => am_ev (am_tbl Ls xs) 158 (21, [(0, .ref 1), (1, .int (nI a)), (2, .ref 1000000), (3, .int (nI t))], [], (am_sh, rdM I e F P q, J))) (fun t => T (a + t) ≠ wch 0 t) (by
      intro t ht hq
      have hq' : T (a + t) = wch 0 t := Classical.byContradiction hq
      have h3 := Xt (a + t) (by omega)
      have hw : wch 0 t < 128 := (show ∀ i, i < 6 → wch 0 i < 128 by decide +kernel) t ht
      try dsimp only
      rw [b_X3_isWord_21_3, sx_len0, Option.bind_some, am_k_v, b_X3_isWord_26_3, if_neg (show ¬ nI 6 ≤ nI t from nI_ge ht (by omega)), rd6, X6, nI_add, if_neg (nI_ge (by omega) (by omega)), if_pos (i_in (by omega) (by omega)), nI_clamp (by omega), sx_ch0 ht, Option.bind_some, am_k_v, b_X3_isWord_52_3, rdt, h3.1, if_pos (show bI (T (a + t)) = nI (wch 0 t) from (bI_eq h3.2 (nI_toInt (by omega)) hw).mpr hq'), i_p1]) with ⟨t, ht, hq, hmin, e1⟩ | ⟨hall, e1⟩
    · have h3 := Xt (a + t) (by omega)
      have hw : wch 0 t < 128 := (show ∀ i, i < 6 → wch 0 i < 128 by decide +kernel) t ht
      refine Eq.trans e1 ?_
      try dsimp only
      rw [b_X3_isWord_21_3, sx_len0, Option.bind_some, am_k_v, b_X3_isWord_26_3, if_neg (show ¬ nI 6 ≤ nI t from nI_ge ht (by omega)), rd6, X6, nI_add, if_neg (nI_ge (by omega) (by omega)), if_pos (i_in (by omega) (by omega)), nI_clamp (by omega), sx_ch0 ht, Option.bind_some, am_k_v, b_X3_isWord_52_3, rdt, h3.1, if_neg (show ¬ bI (T (a + t)) = nI (wch 0 t) from fun z => hq ((bI_eq h3.2 (nI_toInt (by omega)) hw).mp z))]
      rw [show allb (fun i => decide (T (a + i) = wch 0 i)) 6 = false from Bool.eq_false_iff.mpr (fun z => hq (of_decide_eq_true (allb_iff.mp z t ht)))]
      rfl
    · refine Eq.trans e1 ?_
      try dsimp only
      rw [b_X3_isWord_21_3, sx_len0, Option.bind_some, am_k_v, b_X3_isWord_26_3, if_pos (show nI 6 ≤ nI 6 from nI_le (Nat.le_refl _) (by omega)), b_X3_isWord_63]
      rw [show allb (fun i => decide (T (a + i) = wch 0 i)) 6 = true from allb_iff.mpr (fun i hi => decide_eq_true (Classical.byContradiction (hall i hi)))]
      rfl
  · rw [if_neg (show ¬ nI (e - a) = nI 6 from fun z => h ((nI_eq (by omega) (by omega)).mp z)), b_X3_isWord_17, decide_eq_false h, Bool.false_and]
    rfl
theorem sx_len1 : am_ev (am_tbl Ls xs) 194 (0, [(0, .ref 1000001)], [], (am_sh, I, J)) = some (some (.int (nI 5)), (am_sh, I, J)) := by
  rw [b_J0_length_8abf5_0, b_J0_coder_7d493_0, if_neg (show ¬ (1 : Nat) = 0 by decide), b_J0_coder_7d493_14, if_pos (by decide), Option.bind_some, am_k_v, b_J0_length_8abf5_9]
  rfl
theorem sx_ch1 {i : Nat} (hi : i < 5) : am_ev (am_tbl Ls xs) 195 (0, [(0, .ref 1000001), (1, .int (nI i))], [], (am_sh, I, J)) = some (some (.int (nI (wch 1 i))), (am_sh, I, J)) := by
  have h : ∀ i, i < 5 → narrow .char (.int (UInt32.toInt32 (Int32.toUInt32 (((am_tx.getD 1 []).getD i 0) &&& 255) % 65536))) = .int (UInt32.toInt32 (Int32.toUInt32 (((am_tx.getD 1 []).getD i 0) &&& 255) % 65536)) ∧ UInt32.toInt32 (Int32.toUInt32 (((am_tx.getD 1 []).getD i 0) &&& 255) % 65536) = nI (wch 1 i) := by decide +kernel
  obtain ⟨h1, h2⟩ := h i hi
  rw [b_J0_charAt_5068e_0, b_J0_isLatin1_aae02_0, if_neg (show ¬ (1 : Nat) = 0 by decide), if_neg (show ¬ (0 : Nat) ≠ 0 by decide), b_J0_isLatin1_aae02_18, if_pos (Or.inr rfl), Option.bind_some, am_k_v, b_J0_charAt_5068e_4, if_neg (show ¬ (1 : Int32) = 0 by decide), b_J1_charAt_3b067_0, b_J0_checkIndex_df160_0, b_J3_checkIndex_8e157_0 (a2 := 0), if_neg (nI_pos (by omega)), if_pos (show nI i < 5 from nI_lt (b := 5) hi (by omega)), Option.bind_some, am_k_v, b_J0_checkIndex_df160_8, Option.bind_some, am_k_n, b_J1_charAt_3b067_6, if_pos (i_in hi (by omega)), nI_clamp (by omega), if_pos h1, Option.bind_some, am_k_v, b_J0_charAt_5068e_15, if_pos h1, h2]
theorem sx_word1 (X : TX T n I) {a e : Nat} (ha : a ≤ e) (he : e ≤ n) : am_ev (am_tbl Ls xs) 158 (0, [(0, .ref 1), (1, .int (nI a)), (2, .ref 1000001)], [], (am_sh, rdM I e F P q, J)) = some (some (.int (am_b (isw T a e 1))), (am_sh, rdM I e F P q, J)) := by
  obtain ⟨X6, hn, Xt⟩ := X
  have hl : wln 1 = 5 := rfl
  rw [b_X3_isWord_0, if_neg (nI_pos (by omega)), sx_len1, Option.bind_some, am_k_v, b_X3_isWord_14, rd1, pk_sub ha]
  unfold isw
  rw [hl]
  by_cases h : e - a = 5
  · rw [if_pos (show nI (e - a) = nI 5 by rw [h]), decide_eq_true h, Bool.true_and]
    rcases lpx (N := 5) (f := fun t => am_ev (am_tbl Ls xs) 158 (21, [(0, .ref 1), (1, .int (nI a)), (2, .ref 1000001), (3, .int (nI t))], [], (am_sh, rdM I e F P q, J))) (fun t => T (a + t) ≠ wch 1 t) (by
      intro t ht hq
      have hq' : T (a + t) = wch 1 t := Classical.byContradiction hq
      have h3 := Xt (a + t) (by omega)
      have hw : wch 1 t < 128 := (show ∀ i, i < 5 → wch 1 i < 128 by decide +kernel) t ht
      try dsimp only
      rw [b_X3_isWord_21, sx_len1, Option.bind_some, am_k_v, b_X3_isWord_26, if_neg (show ¬ nI 5 ≤ nI t from nI_ge ht (by omega)), rd6, X6, nI_add, if_neg (nI_ge (by omega) (by omega)), if_pos (i_in (by omega) (by omega)), nI_clamp (by omega), sx_ch1 ht, Option.bind_some, am_k_v, b_X3_isWord_52, rdt, h3.1, if_pos (show bI (T (a + t)) = nI (wch 1 t) from (bI_eq h3.2 (nI_toInt (by omega)) hw).mpr hq'), i_p1]) with ⟨t, ht, hq, hmin, e1⟩ | ⟨hall, e1⟩
    · have h3 := Xt (a + t) (by omega)
      have hw : wch 1 t < 128 := (show ∀ i, i < 5 → wch 1 i < 128 by decide +kernel) t ht
      refine Eq.trans e1 ?_
      try dsimp only
      rw [b_X3_isWord_21, sx_len1, Option.bind_some, am_k_v, b_X3_isWord_26, if_neg (show ¬ nI 5 ≤ nI t from nI_ge ht (by omega)), rd6, X6, nI_add, if_neg (nI_ge (by omega) (by omega)), if_pos (i_in (by omega) (by omega)), nI_clamp (by omega), sx_ch1 ht, Option.bind_some, am_k_v, b_X3_isWord_52, rdt, h3.1, if_neg (show ¬ bI (T (a + t)) = nI (wch 1 t) from fun z => hq ((bI_eq h3.2 (nI_toInt (by omega)) hw).mp z))]
      rw [show allb (fun i => decide (T (a + i) = wch 1 i)) 5 = false from Bool.eq_false_iff.mpr (fun z => hq (of_decide_eq_true (allb_iff.mp z t ht)))]
      rfl
    · refine Eq.trans e1 ?_
      try dsimp only
      rw [b_X3_isWord_21, sx_len1, Option.bind_some, am_k_v, b_X3_isWord_26, if_pos (show nI 5 ≤ nI 5 from nI_le (Nat.le_refl _) (by omega)), b_X3_isWord_63]
      rw [show allb (fun i => decide (T (a + i) = wch 1 i)) 5 = true from allb_iff.mpr (fun i hi => decide_eq_true (Classical.byContradiction (hall i hi)))]
      rfl
  · rw [if_neg (show ¬ nI (e - a) = nI 5 from fun z => h ((nI_eq (by omega) (by omega)).mp z)), b_X3_isWord_17, decide_eq_false h, Bool.false_and]
    rfl
theorem sx_len2 : am_ev (am_tbl Ls xs) 194 (0, [(0, .ref 1000002)], [], (am_sh, I, J)) = some (some (.int (nI 3)), (am_sh, I, J)) := by
  rw [b_J0_length_8abf5_0_2, b_J0_coder_7d493_0_2, if_neg (show ¬ (1 : Nat) = 0 by decide), b_J0_coder_7d493_14, if_pos (by decide), Option.bind_some, am_k_v, b_J0_length_8abf5_9_2]
  rfl
theorem sx_ch2 {i : Nat} (hi : i < 3) : am_ev (am_tbl Ls xs) 195 (0, [(0, .ref 1000002), (1, .int (nI i))], [], (am_sh, I, J)) = some (some (.int (nI (wch 2 i))), (am_sh, I, J)) := by
  have h : ∀ i, i < 3 → narrow .char (.int (UInt32.toInt32 (Int32.toUInt32 (((am_tx.getD 2 []).getD i 0) &&& 255) % 65536))) = .int (UInt32.toInt32 (Int32.toUInt32 (((am_tx.getD 2 []).getD i 0) &&& 255) % 65536)) ∧ UInt32.toInt32 (Int32.toUInt32 (((am_tx.getD 2 []).getD i 0) &&& 255) % 65536) = nI (wch 2 i) := by decide +kernel
  obtain ⟨h1, h2⟩ := h i hi
  rw [b_J0_charAt_5068e_0_2, b_J0_isLatin1_aae02_0_2, if_neg (show ¬ (1 : Nat) = 0 by decide), if_neg (show ¬ (0 : Nat) ≠ 0 by decide), b_J0_isLatin1_aae02_18, if_pos (Or.inr rfl), Option.bind_some, am_k_v, b_J0_charAt_5068e_4_2, if_neg (show ¬ (1 : Int32) = 0 by decide), b_J1_charAt_3b067_0_2, b_J0_checkIndex_df160_0, b_J3_checkIndex_8e157_0 (a2 := 0), if_neg (nI_pos (by omega)), if_pos (show nI i < 3 from nI_lt (b := 3) hi (by omega)), Option.bind_some, am_k_v, b_J0_checkIndex_df160_8, Option.bind_some, am_k_n, b_J1_charAt_3b067_6_2, if_pos (i_in hi (by omega)), nI_clamp (by omega), if_pos h1, Option.bind_some, am_k_v, b_J0_charAt_5068e_15_2, if_pos h1, h2]
theorem sx_word2 (X : TX T n I) {a e : Nat} (ha : a ≤ e) (he : e ≤ n) : am_ev (am_tbl Ls xs) 158 (0, [(0, .ref 1), (1, .int (nI a)), (2, .ref 1000002)], [], (am_sh, rdM I e F P q, J)) = some (some (.int (am_b (isw T a e 2))), (am_sh, rdM I e F P q, J)) := by
  obtain ⟨X6, hn, Xt⟩ := X
  have hl : wln 2 = 3 := rfl
  rw [b_X3_isWord_0_2, if_neg (nI_pos (by omega)), sx_len2, Option.bind_some, am_k_v, b_X3_isWord_14_2, rd1, pk_sub ha]
  unfold isw
  rw [hl]
  by_cases h : e - a = 3
  · rw [if_pos (show nI (e - a) = nI 3 by rw [h]), decide_eq_true h, Bool.true_and]
    rcases lpx (N := 3) (f := fun t => am_ev (am_tbl Ls xs) 158 (21, [(0, .ref 1), (1, .int (nI a)), (2, .ref 1000002), (3, .int (nI t))], [], (am_sh, rdM I e F P q, J))) (fun t => T (a + t) ≠ wch 2 t) (by
      intro t ht hq
      have hq' : T (a + t) = wch 2 t := Classical.byContradiction hq
      have h3 := Xt (a + t) (by omega)
      have hw : wch 2 t < 128 := (show ∀ i, i < 3 → wch 2 i < 128 by decide +kernel) t ht
      try dsimp only
      rw [b_X3_isWord_21_2, sx_len2, Option.bind_some, am_k_v, b_X3_isWord_26_2, if_neg (show ¬ nI 3 ≤ nI t from nI_ge ht (by omega)), rd6, X6, nI_add, if_neg (nI_ge (by omega) (by omega)), if_pos (i_in (by omega) (by omega)), nI_clamp (by omega), sx_ch2 ht, Option.bind_some, am_k_v, b_X3_isWord_52_2, rdt, h3.1, if_pos (show bI (T (a + t)) = nI (wch 2 t) from (bI_eq h3.2 (nI_toInt (by omega)) hw).mpr hq'), i_p1]) with ⟨t, ht, hq, hmin, e1⟩ | ⟨hall, e1⟩
    · have h3 := Xt (a + t) (by omega)
      have hw : wch 2 t < 128 := (show ∀ i, i < 3 → wch 2 i < 128 by decide +kernel) t ht
      refine Eq.trans e1 ?_
      try dsimp only
      rw [b_X3_isWord_21_2, sx_len2, Option.bind_some, am_k_v, b_X3_isWord_26_2, if_neg (show ¬ nI 3 ≤ nI t from nI_ge ht (by omega)), rd6, X6, nI_add, if_neg (nI_ge (by omega) (by omega)), if_pos (i_in (by omega) (by omega)), nI_clamp (by omega), sx_ch2 ht, Option.bind_some, am_k_v, b_X3_isWord_52_2, rdt, h3.1, if_neg (show ¬ bI (T (a + t)) = nI (wch 2 t) from fun z => hq ((bI_eq h3.2 (nI_toInt (by omega)) hw).mp z))]
      rw [show allb (fun i => decide (T (a + i) = wch 2 i)) 3 = false from Bool.eq_false_iff.mpr (fun z => hq (of_decide_eq_true (allb_iff.mp z t ht)))]
      rfl
    · refine Eq.trans e1 ?_
      try dsimp only
      rw [b_X3_isWord_21_2, sx_len2, Option.bind_some, am_k_v, b_X3_isWord_26_2, if_pos (show nI 3 ≤ nI 3 from nI_le (Nat.le_refl _) (by omega)), b_X3_isWord_63]
      rw [show allb (fun i => decide (T (a + i) = wch 2 i)) 3 = true from allb_iff.mpr (fun i hi => decide_eq_true (Classical.byContradiction (hall i hi)))]
      rfl
  · rw [if_neg (show ¬ nI (e - a) = nI 3 from fun z => h ((nI_eq (by omega) (by omega)).mp z)), b_X3_isWord_17, decide_eq_false h, Bool.false_and]
    rfl
theorem sx_len3 : am_ev (am_tbl Ls xs) 194 (0, [(0, .ref 1000003)], [], (am_sh, I, J)) = some (some (.int (nI 6)), (am_sh, I, J)) := by
  rw [b_J0_length_8abf5_0_4, b_J0_coder_7d493_0_4, if_neg (show ¬ (1 : Nat) = 0 by decide), b_J0_coder_7d493_14, if_pos (by decide), Option.bind_some, am_k_v, b_J0_length_8abf5_9_4]
  rfl
theorem sx_ch3 {i : Nat} (hi : i < 6) : am_ev (am_tbl Ls xs) 195 (0, [(0, .ref 1000003), (1, .int (nI i))], [], (am_sh, I, J)) = some (some (.int (nI (wch 3 i))), (am_sh, I, J)) := by
  have h : ∀ i, i < 6 → narrow .char (.int (UInt32.toInt32 (Int32.toUInt32 (((am_tx.getD 3 []).getD i 0) &&& 255) % 65536))) = .int (UInt32.toInt32 (Int32.toUInt32 (((am_tx.getD 3 []).getD i 0) &&& 255) % 65536)) ∧ UInt32.toInt32 (Int32.toUInt32 (((am_tx.getD 3 []).getD i 0) &&& 255) % 65536) = nI (wch 3 i) := by decide +kernel
  obtain ⟨h1, h2⟩ := h i hi
  rw [b_J0_charAt_5068e_0_4, b_J0_isLatin1_aae02_0_4, if_neg (show ¬ (1 : Nat) = 0 by decide), if_neg (show ¬ (0 : Nat) ≠ 0 by decide), b_J0_isLatin1_aae02_18, if_pos (Or.inr rfl), Option.bind_some, am_k_v, b_J0_charAt_5068e_4_4, if_neg (show ¬ (1 : Int32) = 0 by decide), b_J1_charAt_3b067_0_4, b_J0_checkIndex_df160_0, b_J3_checkIndex_8e157_0 (a2 := 0), if_neg (nI_pos (by omega)), if_pos (show nI i < 6 from nI_lt (b := 6) hi (by omega)), Option.bind_some, am_k_v, b_J0_checkIndex_df160_8, Option.bind_some, am_k_n, b_J1_charAt_3b067_6_4, if_pos (i_in hi (by omega)), nI_clamp (by omega), if_pos h1, Option.bind_some, am_k_v, b_J0_charAt_5068e_15_4, if_pos h1, h2]
theorem sx_word3 (X : TX T n I) {a e : Nat} (ha : a ≤ e) (he : e ≤ n) : am_ev (am_tbl Ls xs) 158 (0, [(0, .ref 1), (1, .int (nI a)), (2, .ref 1000003)], [], (am_sh, rdM I e F P q, J)) = some (some (.int (am_b (isw T a e 3))), (am_sh, rdM I e F P q, J)) := by
  obtain ⟨X6, hn, Xt⟩ := X
  have hl : wln 3 = 6 := rfl
  rw [b_X3_isWord_0_4, if_neg (nI_pos (by omega)), sx_len3, Option.bind_some, am_k_v, b_X3_isWord_14_4, rd1, pk_sub ha]
  unfold isw
  rw [hl]
  by_cases h : e - a = 6
  · rw [if_pos (show nI (e - a) = nI 6 by rw [h]), decide_eq_true h, Bool.true_and]
    rcases lpx (N := 6) (f := fun t => am_ev (am_tbl Ls xs) 158 (21, [(0, .ref 1), (1, .int (nI a)), (2, .ref 1000003), (3, .int (nI t))], [], (am_sh, rdM I e F P q, J))) (fun t => T (a + t) ≠ wch 3 t) (by
      intro t ht hq
      have hq' : T (a + t) = wch 3 t := Classical.byContradiction hq
      have h3 := Xt (a + t) (by omega)
      have hw : wch 3 t < 128 := (show ∀ i, i < 6 → wch 3 i < 128 by decide +kernel) t ht
      try dsimp only
      rw [b_X3_isWord_21_4, sx_len3, Option.bind_some, am_k_v, b_X3_isWord_26_4, if_neg (show ¬ nI 6 ≤ nI t from nI_ge ht (by omega)), rd6, X6, nI_add, if_neg (nI_ge (by omega) (by omega)), if_pos (i_in (by omega) (by omega)), nI_clamp (by omega), sx_ch3 ht, Option.bind_some, am_k_v, b_X3_isWord_52_4, rdt, h3.1, if_pos (show bI (T (a + t)) = nI (wch 3 t) from (bI_eq h3.2 (nI_toInt (by omega)) hw).mpr hq'), i_p1]) with ⟨t, ht, hq, hmin, e1⟩ | ⟨hall, e1⟩
    · have h3 := Xt (a + t) (by omega)
      have hw : wch 3 t < 128 := (show ∀ i, i < 6 → wch 3 i < 128 by decide +kernel) t ht
      refine Eq.trans e1 ?_
      try dsimp only
      rw [b_X3_isWord_21_4, sx_len3, Option.bind_some, am_k_v, b_X3_isWord_26_4, if_neg (show ¬ nI 6 ≤ nI t from nI_ge ht (by omega)), rd6, X6, nI_add, if_neg (nI_ge (by omega) (by omega)), if_pos (i_in (by omega) (by omega)), nI_clamp (by omega), sx_ch3 ht, Option.bind_some, am_k_v, b_X3_isWord_52_4, rdt, h3.1, if_neg (show ¬ bI (T (a + t)) = nI (wch 3 t) from fun z => hq ((bI_eq h3.2 (nI_toInt (by omega)) hw).mp z))]
      rw [show allb (fun i => decide (T (a + i) = wch 3 i)) 6 = false from Bool.eq_false_iff.mpr (fun z => hq (of_decide_eq_true (allb_iff.mp z t ht)))]
      rfl
    · refine Eq.trans e1 ?_
      try dsimp only
      rw [b_X3_isWord_21_4, sx_len3, Option.bind_some, am_k_v, b_X3_isWord_26_4, if_pos (show nI 6 ≤ nI 6 from nI_le (Nat.le_refl _) (by omega)), b_X3_isWord_63]
      rw [show allb (fun i => decide (T (a + i) = wch 3 i)) 6 = true from allb_iff.mpr (fun i hi => decide_eq_true (Classical.byContradiction (hall i hi)))]
      rfl
  · rw [if_neg (show ¬ nI (e - a) = nI 6 from fun z => h ((nI_eq (by omega) (by omega)).mp z)), b_X3_isWord_17, decide_eq_false h, Bool.false_and]
    rfl
theorem sx_len4 : am_ev (am_tbl Ls xs) 194 (0, [(0, .ref 1000004)], [], (am_sh, I, J)) = some (some (.int (nI 4)), (am_sh, I, J)) := by
  rw [b_J0_length_8abf5_0_5, b_J0_coder_7d493_0_5, if_neg (show ¬ (1 : Nat) = 0 by decide), b_J0_coder_7d493_14, if_pos (by decide), Option.bind_some, am_k_v, b_J0_length_8abf5_9_5]
  rfl
theorem sx_ch4 {i : Nat} (hi : i < 4) : am_ev (am_tbl Ls xs) 195 (0, [(0, .ref 1000004), (1, .int (nI i))], [], (am_sh, I, J)) = some (some (.int (nI (wch 4 i))), (am_sh, I, J)) := by
  have h : ∀ i, i < 4 → narrow .char (.int (UInt32.toInt32 (Int32.toUInt32 (((am_tx.getD 4 []).getD i 0) &&& 255) % 65536))) = .int (UInt32.toInt32 (Int32.toUInt32 (((am_tx.getD 4 []).getD i 0) &&& 255) % 65536)) ∧ UInt32.toInt32 (Int32.toUInt32 (((am_tx.getD 4 []).getD i 0) &&& 255) % 65536) = nI (wch 4 i) := by decide +kernel
  obtain ⟨h1, h2⟩ := h i hi
  rw [b_J0_charAt_5068e_0_5, b_J0_isLatin1_aae02_0_5, if_neg (show ¬ (1 : Nat) = 0 by decide), if_neg (show ¬ (0 : Nat) ≠ 0 by decide), b_J0_isLatin1_aae02_18, if_pos (Or.inr rfl), Option.bind_some, am_k_v, b_J0_charAt_5068e_4_5, if_neg (show ¬ (1 : Int32) = 0 by decide), b_J1_charAt_3b067_0_5, b_J0_checkIndex_df160_0, b_J3_checkIndex_8e157_0 (a2 := 0), if_neg (nI_pos (by omega)), if_pos (show nI i < 4 from nI_lt (b := 4) hi (by omega)), Option.bind_some, am_k_v, b_J0_checkIndex_df160_8, Option.bind_some, am_k_n, b_J1_charAt_3b067_6_5, if_pos (i_in hi (by omega)), nI_clamp (by omega), if_pos h1, Option.bind_some, am_k_v, b_J0_charAt_5068e_15_5, if_pos h1, h2]
theorem sx_word4 (X : TX T n I) {a e : Nat} (ha : a ≤ e) (he : e ≤ n) : am_ev (am_tbl Ls xs) 158 (0, [(0, .ref 1), (1, .int (nI a)), (2, .ref 1000004)], [], (am_sh, rdM I e F P q, J)) = some (some (.int (am_b (isw T a e 4))), (am_sh, rdM I e F P q, J)) := by
  obtain ⟨X6, hn, Xt⟩ := X
  have hl : wln 4 = 4 := rfl
  rw [b_X3_isWord_0_5, if_neg (nI_pos (by omega)), sx_len4, Option.bind_some, am_k_v, b_X3_isWord_14_5, rd1, pk_sub ha]
  unfold isw
  rw [hl]
  by_cases h : e - a = 4
  · rw [if_pos (show nI (e - a) = nI 4 by rw [h]), decide_eq_true h, Bool.true_and]
    rcases lpx (N := 4) (f := fun t => am_ev (am_tbl Ls xs) 158 (21, [(0, .ref 1), (1, .int (nI a)), (2, .ref 1000004), (3, .int (nI t))], [], (am_sh, rdM I e F P q, J))) (fun t => T (a + t) ≠ wch 4 t) (by
      intro t ht hq
      have hq' : T (a + t) = wch 4 t := Classical.byContradiction hq
      have h3 := Xt (a + t) (by omega)
      have hw : wch 4 t < 128 := (show ∀ i, i < 4 → wch 4 i < 128 by decide +kernel) t ht
      try dsimp only
      rw [b_X3_isWord_21_5, sx_len4, Option.bind_some, am_k_v, b_X3_isWord_26_5, if_neg (show ¬ nI 4 ≤ nI t from nI_ge ht (by omega)), rd6, X6, nI_add, if_neg (nI_ge (by omega) (by omega)), if_pos (i_in (by omega) (by omega)), nI_clamp (by omega), sx_ch4 ht, Option.bind_some, am_k_v, b_X3_isWord_52_5, rdt, h3.1, if_pos (show bI (T (a + t)) = nI (wch 4 t) from (bI_eq h3.2 (nI_toInt (by omega)) hw).mpr hq'), i_p1]) with ⟨t, ht, hq, hmin, e1⟩ | ⟨hall, e1⟩
    · have h3 := Xt (a + t) (by omega)
      have hw : wch 4 t < 128 := (show ∀ i, i < 4 → wch 4 i < 128 by decide +kernel) t ht
      refine Eq.trans e1 ?_
      try dsimp only
      rw [b_X3_isWord_21_5, sx_len4, Option.bind_some, am_k_v, b_X3_isWord_26_5, if_neg (show ¬ nI 4 ≤ nI t from nI_ge ht (by omega)), rd6, X6, nI_add, if_neg (nI_ge (by omega) (by omega)), if_pos (i_in (by omega) (by omega)), nI_clamp (by omega), sx_ch4 ht, Option.bind_some, am_k_v, b_X3_isWord_52_5, rdt, h3.1, if_neg (show ¬ bI (T (a + t)) = nI (wch 4 t) from fun z => hq ((bI_eq h3.2 (nI_toInt (by omega)) hw).mp z))]
      rw [show allb (fun i => decide (T (a + i) = wch 4 i)) 4 = false from Bool.eq_false_iff.mpr (fun z => hq (of_decide_eq_true (allb_iff.mp z t ht)))]
      rfl
    · refine Eq.trans e1 ?_
      try dsimp only
      rw [b_X3_isWord_21_5, sx_len4, Option.bind_some, am_k_v, b_X3_isWord_26_5, if_pos (show nI 4 ≤ nI 4 from nI_le (Nat.le_refl _) (by omega)), b_X3_isWord_63]
      rw [show allb (fun i => decide (T (a + i) = wch 4 i)) 4 = true from allb_iff.mpr (fun i hi => decide_eq_true (Classical.byContradiction (hall i hi)))]
      rfl
  · rw [if_neg (show ¬ nI (e - a) = nI 4 from fun z => h ((nI_eq (by omega) (by omega)).mp z)), b_X3_isWord_17, decide_eq_false h, Bool.false_and]
    rfl
end
