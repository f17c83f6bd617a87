/-! THE CLASS READS: statements -/
abbrev Sf : Type := Nat × Int32
def st (s : Sf) (f : Nat) (p : Int32) : Sf := (fF s.1 f, fP s.1 f s.2 p)
def rdS (I : Nat → Nat → Int32) (k : Nat) (s : Sf) (q : Int32) : Nat → Nat → Int32 := rdM I k s.1 s.2 q
theorem st_0 {s : Sf} {p : Int32} : st s 0 p = s := by
  unfold st fF fP
  by_cases h : s.1 = 0
  · rw [if_pos h, if_neg (fun z => z.2 rfl), ← h]
  · rw [if_neg h, if_neg (fun z => z.2 rfl)]
theorem st_n {s : Sf} {f : Nat} {p : Int32} (h : s.1 ≠ 0) : st s f p = s := by unfold st; rw [fF_n h, fP_n h]
theorem st_1 {f : Nat} {P p : Int32} (h : f ≠ 0) : st (0, P) f p = (f, p) := by unfold st; rw [fF_0, fP_1 h]
theorem st_z {s : Sf} {f : Nat} {p : Int32} (h : (st s f p).1 = 0) : s.1 = 0 ∧ f = 0 := by
  have h2 : (if s.1 = 0 then f else s.1) = 0 := h
  by_cases q : s.1 = 0
  · rw [if_pos q] at h2; exact ⟨q, h2⟩
  · rw [if_neg q] at h2; exact absurd h2 q
theorem st_lt {s : Sf} {f : Nat} {p : Int32} (h1 : s.1 < 100) (h2 : f < 100) : (st s f p).1 < 100 := by
  show (if s.1 = 0 then f else s.1) < 100
  split <;> omega
section
variable {Ls : Nat} {xs : Nat → Int32} {g : Vg} {hs gr : Nat} {I I' : Nat → Nat → Int32} {J : Nat → Nat → Int64} {T : Nat → Nat} {n k : Nat} {s : Sf} {q : Int32}
theorem rs1 : rdS I k s q 1 1 = nI k := rfl
theorem rs2 : rdS I k s q 1 2 = nI s.1 := rfl
theorem rs3 : rdS I k s q 1 3 = q := rfl
theorem rs4 : rdS I k s q 1 4 = I 1 4 := rfl
theorem rs5 : rdS I k s q 1 5 = I 1 5 := rfl
theorem rs6 : rdS I k s q 1 6 = I 1 6 := rfl
theorem rs7 : rdS I k s q 1 7 = s.2 := rfl
theorem rso {r j : Nat} (h : r ≠ 1) : rdS I k s q r j = I r j := if_neg h
theorem rsu {r j : Nat} {z : Int32} (h : r ≠ 1 ∨ (j ≠ 1 ∧ j ≠ 2 ∧ j ≠ 3 ∧ j ≠ 7)) : am_up2 (rdS I k s q) r j z = rdS (am_up2 I r j z) k s q := ruo h
theorem sx_numS (X : TX T n I) (hk : k ≤ n) (hF : s.1 < 100) {lo hi : Nat} {a b : Int32} (ha : a = nI lo) (hb : b = nI hi) (hlo : lo < 1000) (hhi : hi < 1000) {s' : Sf} {k' v : Nat} (h1 : s' = st s (nF T n k lo hi) (nI (nQ T n k))) (h2 : k' = nK T n k) (h3 : v = if s'.1 = 0 then nV T n k else lo) : am_ev (am_tbl Ls xs) 153 (0, [(0, .ref 1), (1, .int a), (2, .int b)], [], (am_sh, rdS I k s q, J)) = some (some (.int (nI v)), (am_sh, rdS I k' s' (nI (nQ T n k)), J)) := by
  subst h1 h2 h3
  exact sx_num X hk hF ha hb hlo hhi
theorem sx_endS (X : TX T n I) (hk : k ≤ n) (hF : s.1 < 100) {s' : Sf} {k' : Nat} (h1 : s' = st s (eF T n k) (nI (nQ T n k))) (h2 : k' = eK T n k) : am_ev (am_tbl Ls xs) 154 (0, [(0, .ref 1)], [], (am_sh, rdS I k s q, J)) = some (none, (am_sh, rdS I k' s' q, J)) := by
  subst h1 h2
  exact sx_end X hk hF
theorem sx_failS {c : Nat} {z p : Int32} (hz : z = nI c) (hc : c ≠ 0) (hF : s.1 < 100) {s' : Sf} (h1 : s' = st s c p) : am_ev (am_tbl Ls xs) 159 (0, [(0, .ref 1), (1, .int z), (2, .int p)], [], (am_sh, rdS I k s q, J)) = some (none, (am_sh, rdS I k s' q, J)) := by
  subst h1
  exact sx_fail hz hc hF
theorem eK_le (h : k ≤ n) : eK T n k ≤ n := by
  have := nQ_le (T := T) h
  unfold eK
  split <;> omega
/-- the draft as the class holds it -/
def DX (g : Vg) (hs gr : Nat) (I : Nat → Nat → Int32) : Prop :=
  (I 3 0 = nI (gW g) ∧ I 3 1 = nI (gD g) ∧ I 3 2 = nI (gW g * gD g) ∧ I 3 3 = nI (gN g) ∧ I 3 4 = nI (gP g) ∧ I 3 5 = nI (gr - 1) ∧ I 1 4 = nI hs ∧ I 1 5 = nI (if gr = 0 then 0 else 1)) ∧
  (∀ h c, h < gN g → c < gW g * gD g → I (5 + h) c = oI (nb (gW g) (gD g) (gX g h) (gY g h) c)) ∧
  (∀ h, h < gN g → I 11 h = nI (gL g h) ∧ I 12 h = nI (gS g h)) ∧
  (∀ p, p < gP g → I 13 p = nI (gA g p) ∧ I 14 p = nI (gT g p)) ∧
  (∀ c, c < gW g * gD g → I 16 c = nI (c % gW g) ∧ I 17 c = nI (c / gW g)) ∧
  (∀ c, c < 48 → I 15 c = nI (gH g c))
def BD (g : Vg) (hs gr : Nat) : Prop := BS g ∧ hs ≤ 15 ∧ gr ≤ 101
def frC (I I' : Nat → Nat → Int32) : Prop := ∀ r j, (17 < r ∨ r = 2 ∨ (r = 1 ∧ j = 6)) → I' r j = I r j
theorem frC_tr {I'' : Nat → Nat → Int32} (h1 : frC I I') (h2 : frC I' I'') : frC I I'' := fun r j h => (h2 r j h).trans (h1 r j h)
theorem tx_fr (h : frC I I') (X : TX T n I) : TX T n I' := ⟨(h _ _ (by omega)).trans X.1, X.2.1, fun k hk => ⟨(h _ _ (by omega)).trans (X.2.2 k hk).1, (X.2.2 k hk).2⟩⟩
theorem sx_startsOn (Dx : DX g hs gr I) (B : BG g) {c : Nat} (hc : c < 48) : am_ev (am_tbl Ls xs) 136 (0, [(0, .ref 3), (1, .int (nI c))], [], (am_sh, rdS I k s q, J)) = some (some (.int (am_b (anyb (fun p => decide (gA g p = c)) (gP g)))), (am_sh, rdS I k s q, J)) := by
  have b1 := bg_1 B
  have hP : I 3 4 = nI (gP g) := Dx.1.2.2.2.2.1
  rw [b_X2_startsSomebodyOn_0]
  rcases lpx (N := gP g) (f := fun t => am_ev (am_tbl Ls xs) 136 (2, [(0, .ref 3), (1, .int (nI c)), (2, .int (nI t))], [], (am_sh, rdS I k s q, J))) (fun t => gA g t = c) (by
    intro t ht hq
    have b3 := bg_p B ht
    try dsimp only
    rw [b_X2_startsSomebodyOn_2, rso (by omega), hP, if_neg (nI_ge ht (by omega)), if_pos (i_in (by omega) (by omega)), nI_clamp (by omega), rso (by omega), (Dx.2.2.2.1 t ht).1, if_pos (show nI (gA g t) ≠ nI c from fun z => hq ((nI_eq (by omega) (by omega)).mp z)), i_p1]) with ⟨t, ht, hq, hmin, e1⟩ | ⟨hall, e1⟩
  · refine Eq.trans e1 ?_
    try dsimp only
    rw [b_X2_startsSomebodyOn_2, rso (by omega), hP, if_neg (nI_ge ht (by omega)), if_pos (i_in (by omega) (by omega)), nI_clamp (by omega), rso (by omega), (Dx.2.2.2.1 t ht).1, if_neg (show ¬ nI (gA g t) ≠ nI c from fun z => z (by rw [hq])), show anyb (fun p => decide (gA g p = c)) (gP g) = true from anyb_iff.mpr ⟨t, ht, decide_eq_true hq⟩]
    rfl
  · refine Eq.trans e1 ?_
    try dsimp only
    rw [b_X2_startsSomebodyOn_2, rso (by omega), hP, if_pos (nI_le (Nat.le_refl _) (by omega)), show anyb (fun p => decide (gA g p = c)) (gP g) = false from Bool.eq_false_iff.mpr (fun z => by
      obtain ⟨p, hp, hq⟩ := anyb_iff.mp z
      exact hall p hp (of_decide_eq_true hq))]
    rfl
/-- X and Y of a cell without a house -/
theorem sx_cellS (X : TX T n I) (Dx : DX g hs gr I) (B : BG g) (hW : 1 ≤ gW g) (hk : k ≤ n) (hF : s.1 < 100) {s1 s2 s3 : Sf} {k1 k2 x y c : Nat}
    (e1 : s1 = st s (nF T n k 0 (gW g - 1)) (nI (nQ T n k))) (d1 : k1 = nK T n k) (v1 : x = if s1.1 = 0 then nV T n k else 0)
    (e2 : s2 = st s1 (nF T n k1 0 (gD g - 1)) (nI (nQ T n k1))) (d2 : k2 = nK T n k1) (v2 : y = if s2.1 = 0 then nV T n k1 else 0)
    (hc : c = cix g x y) (e3 : s3 = st s2 (if 0 < gH g c then 4 else 0) (nI (nQ T n k1))) :
    am_ev (am_tbl Ls xs) 152 (0, [(0, .ref 1), (1, .ref 3)], [], (am_sh, rdS I k s q, J)) = some (some (.int (nI c)), (am_sh, rdS I k2 s3 (nI (nQ T n k1)), J)) ∧ x < gW g ∧ y < gD g ∧ k1 ≤ n ∧ k2 ≤ n ∧ s3.1 < 100 ∧ c < gW g * gD g := by
  have b1 := bg_1 B
  have hD : 1 ≤ gD g := by rcases b1.2.2.2.2.2.2 with z | z <;> omega
  obtain ⟨a0, a1, a2, a3, a4, a5, a6, a7⟩ := Dx.1
  have hx : x < gW g := by
    rw [v1]
    by_cases h : s1.1 = 0
    · rw [if_pos h]
      rw [e1] at h
      have := nF_0 (st_z h).2
      omega
    · rw [if_neg h]; omega
  have hy : y < gD g := by
    rw [v2]
    by_cases h : s2.1 = 0
    · rw [if_pos h]
      rw [e2] at h
      have := nF_0 (st_z h).2
      omega
    · rw [if_neg h]; omega
  have hk1 : k1 ≤ n := by rw [d1]; exact nK_le hk
  have hk2 : k2 ≤ n := by rw [d2]; exact nK_le hk1
  have l1 : s1.1 < 100 := by rw [e1]; exact st_lt hF (Nat.lt_of_le_of_lt nF_le (by omega))
  have l2 : s2.1 < 100 := by rw [e2]; exact st_lt l1 (Nat.lt_of_le_of_lt nF_le (by omega))
  have l3 : s3.1 < 100 := by rw [e3]; exact st_lt l2 (by split <;> omega)
  have hcl := cix_lt hx hy
  rw [← hc] at hcl
  have b9 := bg_H B (show c < 48 by omega)
  have hH := Dx.2.2.2.2.2 c (by omega)
  refine ⟨?_, hx, hy, hk1, hk2, l3, hcl⟩
  rw [b_X3_readCell_0, rso (by omega), a0, show (nI (gW g) - 1) = nI (gW g - 1) by rw [nI_m1, if_pos hW], sx_numS X hk hF (lo := 0) (a := 0) rfl rfl (by omega) (by omega) e1 d1 v1, Option.bind_some, am_k_v, b_X3_readCell_11, rso (by omega), a1, show (nI (gD g) - 1) = nI (gD g - 1) by rw [nI_m1, if_pos hD], sx_numS X hk1 l1 (lo := 0) (a := 0) rfl rfl (by omega) (by omega) e2 d2 v2, Option.bind_some, am_k_v, b_X3_readCell_23, b_X2_cellAt_0_2, if_neg (nI_pos (by omega)), if_neg (nI_pos (by omega)), rso (by omega), a0, if_neg (nI_ge hx (by omega)), rso (by omega), a1, if_pos (nI_lt hy (by omega)), x_cix, ← hc, Option.bind_some, am_k_v, b_X3_readCell_30, b_X2_hasCell_0_2, if_neg (nI_pos (by omega)), rso (by omega), a2, if_neg (nI_ge hcl (by omega)), b_X2_hasCell_17, if_pos (Or.inr rfl), Option.bind_some, am_k_v, b_X3_readCell_38, if_neg (show ¬ (1 : Int32) = 0 by decide), if_pos (i_in (by omega) (by omega)), nI_clamp (by omega), rso (by omega), hH]
  by_cases h : 0 < gH g c
  · rw [if_neg (show ¬ nI (gH g c) ≤ 0 from fun z => by have := (n_le0 (by omega)).mp z; omega), rs3]
    rw [if_pos h] at e3
    rw [sx_failS (z := 4) (c := 4) rfl (by omega) l2 e3, Option.bind_some, am_k_n, b_X3_readCell_60_2]
  · rw [if_pos (show nI (gH g c) ≤ 0 from (n_le0 (by omega)).mpr (by omega)), b_X3_readCell_60]
    rw [if_neg h, st_0] at e3
    rw [e3]
theorem sx_house (X : TX T n I) (Dx : DX g hs gr I) (B : BG g) (hW : 1 ≤ gW g) (hh : hs ≤ 15) (hk : k ≤ n) (hF : s.1 = 0) {a : Nat} {s0 s1 s2 s3 s4 s5 s6 : Sf} {k1 k2 k3 k4 x y c t : Nat}
    (e0 : s0 = st s (if 15 ≤ hs then 3 else 0) (nI a))
    (e1 : s1 = st s0 (nF T n k 0 (gW g - 1)) (nI (nQ T n k))) (d1 : k1 = nK T n k) (v1 : x = if s1.1 = 0 then nV T n k else 0)
    (e2 : s2 = st s1 (nF T n k1 0 (gD g - 1)) (nI (nQ T n k1))) (d2 : k2 = nK T n k1) (v2 : y = if s2.1 = 0 then nV T n k1 else 0)
    (hc : c = cix g x y) (e3 : s3 = st s2 (if 0 < gH g c then 4 else 0) (nI (nQ T n k1)))
    (e4 : s4 = st s3 (if anyb (fun p => decide (gA g p = c)) (gP g) = true then 4 else 0) (nI (nQ T n k1)))
    (e5 : s5 = st s4 (nF T n k2 1 9) (nI (nQ T n k2))) (d3 : k3 = nK T n k2) (v3 : t = if s5.1 = 0 then nV T n k2 else 1)
    (e6 : s6 = st s5 (eF T n k3) (nI (nQ T n k3))) (d4 : k4 = eK T n k3) :
    am_ev (am_tbl Ls xs) 148 (0, [(0, .ref 1), (1, .ref 3), (2, .int (nI a))], [], (am_sh, rdS I k s q, J)) = some (none, (am_sh, (if s6.1 = 0 then rdS (am_up2 (am_up2 I 15 c (nI t)) 1 4 (nI (hs + 1))) k4 s6 (nI (nQ T n k2)) else rdS I k4 s6 (nI (nQ T n k2))), J)) := by
  have b1 := bg_1 B
  have l : s.1 < 100 := by omega
  have l0 : s0.1 < 100 := by rw [e0]; exact st_lt l (by split <;> omega)
  obtain ⟨ec, hx, hy, hk1, hk2, l3, hcl⟩ := sx_cellS (Ls := Ls) (xs := xs) (J := J) (q := q) X Dx B hW hk l0 e1 d1 v1 e2 d2 v2 hc e3
  have l4 : s4.1 < 100 := by rw [e4]; exact st_lt l3 (by split <;> omega)
  have l5 : s5.1 < 100 := by rw [e5]; exact st_lt l4 (Nat.lt_of_le_of_lt nF_le (by omega))
  have hk3 : k3 ≤ n := by rw [d3]; exact nK_le hk2
  obtain ⟨a0, a1, a2, a3, a4, a5, a6, a7⟩ := Dx.1
  have h38 : am_ev (am_tbl Ls xs) 148 (38, [(0, .ref 1), (1, .ref 3), (3, .int (nI c))], [], (am_sh, rdS I k2 s4 (nI (nQ T n k1)), J)) = some (none, (am_sh, (if s6.1 = 0 then rdS (am_up2 (am_up2 I 15 c (nI t)) 1 4 (nI (hs + 1))) k4 s6 (nI (nQ T n k2)) else rdS I k4 s6 (nI (nQ T n k2))), J)) ∧ am_ev (am_tbl Ls xs) 148 (38, [(3, .int (nI c)), (0, .ref 1), (1, .ref 3)], [], (am_sh, rdS I k2 s4 (nI (nQ T n k1)), J)) = some (none, (am_sh, (if s6.1 = 0 then rdS (am_up2 (am_up2 I 15 c (nI t)) 1 4 (nI (hs + 1))) k4 s6 (nI (nQ T n k2)) else rdS I k4 s6 (nI (nQ T n k2))), J)) := by
    rw [b_X3_readHouse_38, b_X3_readHouse_38_2, and_self, sx_numS X hk2 l4 (lo := 1) (hi := 9) (a := 1) (b := 9) rfl rfl (by omega) (by omega) e5 d3 v3, Option.bind_some, am_k_v, b_X3_readHouse_45, sx_endS X hk3 l5 e6 d4, Option.bind_some, am_k_n, b_X3_readHouse_51, rs2]
    have l6 : s6.1 < 100 := by rw [e6]; exact st_lt l5 (by unfold eF; split <;> omega)
    by_cases h : s6.1 = 0
    · rw [if_neg (show ¬ nI s6.1 ≠ 0 from fun z => z (by rw [h]; rfl)), if_pos h, b_X2_addHouse_0, b_X2_hasCell_0_2, if_neg (nI_pos (by omega)), rso (by omega), a2, if_neg (nI_ge hcl (by omega)), b_X2_hasCell_17, if_pos (Or.inr rfl), Option.bind_some, am_k_v, b_X2_addHouse_5, if_neg (show ¬ (1 : Int32) = 0 by decide), if_pos (i_in (by omega) (by omega)), nI_clamp (by omega), b_X2_addHouse_15, Option.bind_some, am_k_n, b_X3_readHouse_65, up_ne (by omega), rs4, a6, nI_1, b_X3_readHouse_75, rsu (by omega), rsu (by omega)]
    · rw [if_pos (show nI s6.1 ≠ 0 from fun z => h ((n_eq0 (by omega)).mp z)), if_neg h, b_X3_readHouse_75]
  have h20 : am_ev (am_tbl Ls xs) 148 (20, [(0, .ref 1), (1, .ref 3)], [.int (nI c)], (am_sh, rdS I k2 s3 (nI (nQ T n k1)), J)) = some (none, (am_sh, (if s6.1 = 0 then rdS (am_up2 (am_up2 I 15 c (nI t)) 1 4 (nI (hs + 1))) k4 s6 (nI (nQ T n k2)) else rdS I k4 s6 (nI (nQ T n k2))), J)) := by
    rw [b_X3_readHouse_20, sx_startsOn Dx B (show c < 48 by omega), Option.bind_some, am_k_v, b_X3_readHouse_26]
    by_cases h : anyb (fun p => decide (gA g p = c)) (gP g) = true
    · rw [if_pos h] at e4
      rw [h, if_neg (show ¬ am_b true = 0 by decide), rs3, sx_failS (z := 4) (c := 4) rfl (by omega) l3 e4, Option.bind_some, am_k_n]
      exact h38.2
    · rw [if_neg h, st_0] at e4
      rw [Bool.eq_false_iff.mpr h, if_pos (show am_b false = 0 from rfl), ← e4]
      exact h38.1
  rw [b_X3_readHouse_0, rs4, a6]
  by_cases h : 15 ≤ hs
  · rw [if_pos h] at e0
    rw [if_neg (show ¬ nI hs < 15 from nI_nlt (b := 15) h (by omega)), sx_failS (z := 3) (c := 3) rfl (by omega) l e0, Option.bind_some, am_k_n, b_X3_readHouse_15_2, ec, Option.bind_some, am_k_v]
    exact h20
  · rw [if_neg h, st_0] at e0
    rw [if_pos (show nI hs < 15 from nI_lt (b := 15) (by omega) (by omega)), b_X3_readHouse_15, ← e0, ec, Option.bind_some, am_k_v]
    exact h20
theorem sx_person (X : TX T n I) (Dx : DX g hs gr I) (B : BG g) (hW : 1 ≤ gW g) (hk : k ≤ n) (hF : s.1 = 0) {a : Nat} {s0 s1 s2 s3 s5 s6 : Sf} {k1 k2 k3 k4 x y c t : Nat}
    (e0 : s0 = st s (if 6 ≤ gP g then 3 else 0) (nI a))
    (e1 : s1 = st s0 (nF T n k 0 (gW g - 1)) (nI (nQ T n k))) (d1 : k1 = nK T n k) (v1 : x = if s1.1 = 0 then nV T n k else 0)
    (e2 : s2 = st s1 (nF T n k1 0 (gD g - 1)) (nI (nQ T n k1))) (d2 : k2 = nK T n k1) (v2 : y = if s2.1 = 0 then nV T n k1 else 0)
    (hc : c = cix g x y) (e3 : s3 = st s2 (if 0 < gH g c then 4 else 0) (nI (nQ T n k1)))
    (e5 : s5 = st s3 (nF T n k2 1 9) (nI (nQ T n k2))) (d3 : k3 = nK T n k2) (v3 : t = if s5.1 = 0 then nV T n k2 else 1)
    (e6 : s6 = st s5 (eF T n k3) (nI (nQ T n k3))) (d4 : k4 = eK T n k3) :
    am_ev (am_tbl Ls xs) 150 (0, [(0, .ref 1), (1, .ref 3), (2, .int (nI a))], [], (am_sh, rdS I k s q, J)) = some (none, (am_sh, (if s6.1 = 0 then rdS (am_up2 (am_up2 (am_up2 I 13 (gP g) (nI c)) 14 (gP g) (nI t)) 3 4 (nI (gP g + 1))) k4 s6 (nI (nQ T n k2)) else rdS I k4 s6 (nI (nQ T n k2))), J)) := by
  have b1 := bg_1 B
  have l : s.1 < 100 := by omega
  have l0 : s0.1 < 100 := by rw [e0]; exact st_lt l (by split <;> omega)
  obtain ⟨ec, hx, hy, hk1, hk2, l3, hcl⟩ := sx_cellS (Ls := Ls) (xs := xs) (J := J) (q := q) X Dx B hW hk l0 e1 d1 v1 e2 d2 v2 hc e3
  have l5 : s5.1 < 100 := by rw [e5]; exact st_lt l3 (Nat.lt_of_le_of_lt nF_le (by omega))
  have hk3 : k3 ≤ n := by rw [d3]; exact nK_le hk2
  obtain ⟨a0, a1, a2, a3, a4, a5, a6, a7⟩ := Dx.1
  have h20 : am_ev (am_tbl Ls xs) 150 (20, [(0, .ref 1), (1, .ref 3)], [.int (nI c)], (am_sh, rdS I k2 s3 (nI (nQ T n k1)), J)) = some (none, (am_sh, (if s6.1 = 0 then rdS (am_up2 (am_up2 (am_up2 I 13 (gP g) (nI c)) 14 (gP g) (nI t)) 3 4 (nI (gP g + 1))) k4 s6 (nI (nQ T n k2)) else rdS I k4 s6 (nI (nQ T n k2))), J)) := by
    rw [b_X3_readPerson_20, sx_numS X hk2 l3 (lo := 1) (hi := 9) (a := 1) (b := 9) rfl rfl (by omega) (by omega) e5 d3 v3, Option.bind_some, am_k_v, b_X3_readPerson_28, sx_endS X hk3 l5 e6 d4, Option.bind_some, am_k_n, b_X3_readPerson_34, rs2]
    have l6 : s6.1 < 100 := by rw [e6]; exact st_lt l5 (by unfold eF; split <;> omega)
    by_cases h : s6.1 = 0
    · have hp6 : gP g < 6 := by
        have z5 : s5.1 = 0 := by rw [e6] at h; exact (st_z h).1
        have z3 : s3.1 = 0 := by rw [e5] at z5; exact (st_z z5).1
        have z2 : s2.1 = 0 := by rw [e3] at z3; exact (st_z z3).1
        have z1 : s1.1 = 0 := by rw [e2] at z2; exact (st_z z2).1
        have z0 : s0.1 = 0 := by rw [e1] at z1; exact (st_z z1).1
        rw [e0] at z0
        have := (st_z z0).2
        by_cases w : 6 ≤ gP g
        · rw [if_pos w] at this; omega
        · omega
      rw [if_neg (show ¬ nI s6.1 ≠ 0 from fun z => z (by rw [h]; rfl)), if_pos h, b_X2_addPerson_0, rso (by omega), a4, if_pos (show nI (gP g) < 6 from nI_lt (b := 6) hp6 (by omega)), if_pos (i_in hp6 (by omega)), if_pos (i_in hp6 (by omega)), nI_clamp (by omega), nI_1, Option.bind_some, am_k_n, b_X3_readPerson_48_2, rsu (by omega), rsu (by omega), rsu (by omega)]
    · rw [if_pos (show nI s6.1 ≠ 0 from fun z => h ((n_eq0 (by omega)).mp z)), if_neg h, b_X3_readPerson_48]
  rw [b_X3_readPerson_0, rso (by omega), a4]
  by_cases h : 6 ≤ gP g
  · rw [if_pos h] at e0
    rw [if_neg (show ¬ nI (gP g) < 6 from nI_nlt (b := 6) h (by omega)), sx_failS (z := 3) (c := 3) rfl (by omega) l e0, Option.bind_some, am_k_n, b_X3_readPerson_15_2, ec, Option.bind_some, am_k_v]
    exact h20
  · rw [if_neg h, st_0] at e0
    rw [if_pos (show nI (gP g) < 6 from nI_lt (b := 6) (by omega) (by omega)), b_X3_readPerson_15, ← e0, ec, Option.bind_some, am_k_v]
    exact h20
theorem sx_grey (X : TX T n I) (Dx : DX g hs gr I) (hk : k ≤ n) (hF : s.1 = 0) {a : Nat} {s0 s1 s2 : Sf} {k1 k2 t : Nat}
    (e0 : s0 = st s (if gr = 0 then 0 else 3) (nI a))
    (e1 : s1 = st s0 (nF T n k 0 100) (nI (nQ T n k))) (d1 : k1 = nK T n k) (v1 : t = if s1.1 = 0 then nV T n k else 0)
    (e2 : s2 = st s1 (eF T n k1) (nI (nQ T n k1))) (d2 : k2 = eK T n k1) :
    am_ev (am_tbl Ls xs) 151 (0, [(0, .ref 1), (1, .ref 3), (2, .int (nI a))], [], (am_sh, rdS I k s q, J)) = some (none, (am_sh, (if s2.1 = 0 then rdS (am_up2 (am_up2 I 3 5 (nI t)) 1 5 1) k2 s2 (nI (nQ T n k)) else rdS I k2 s2 (nI (nQ T n k))), J)) := by
  have l : s.1 < 100 := by omega
  have l0 : s0.1 < 100 := by rw [e0]; exact st_lt l (by split <;> omega)
  have l1 : s1.1 < 100 := by rw [e1]; exact st_lt l0 (Nat.lt_of_le_of_lt nF_le (by omega))
  have l2 : s2.1 < 100 := by rw [e2]; exact st_lt l1 (by unfold eF; split <;> omega)
  have hk1 : k1 ≤ n := by rw [d1]; exact nK_le hk
  obtain ⟨a0, a1, a2, a3, a4, a5, a6, a7⟩ := Dx.1
  have h20 : am_ev (am_tbl Ls xs) 151 (20, [(0, .ref 1), (1, .ref 3)], [.int (nI t)], (am_sh, rdS I k1 s1 (nI (nQ T n k)), J)) = some (none, (am_sh, (if s2.1 = 0 then rdS (am_up2 (am_up2 I 3 5 (nI t)) 1 5 1) k2 s2 (nI (nQ T n k)) else rdS I k2 s2 (nI (nQ T n k))), J)) := by
    rw [b_X3_readGrey_20, sx_endS X hk1 l1 e2 d2, Option.bind_some, am_k_n, b_X3_readGrey_25, rs2]
    by_cases h : s2.1 = 0
    · rw [if_neg (show ¬ nI s2.1 ≠ 0 from fun z => z (by rw [h]; rfl)), if_pos h, b_X3_readGrey_42, rsu (by omega), rsu (by omega)]
    · rw [if_pos (show nI s2.1 ≠ 0 from fun z => h ((n_eq0 (by omega)).mp z)), if_neg h, b_X3_readGrey_42]
  rw [b_X3_readGrey_0, rs5, a7]
  by_cases h : gr = 0
  · rw [if_pos h, st_0] at e0
    rw [if_pos h, if_pos (show nI 0 = 0 from rfl), b_X3_readGrey_13, ← e0, sx_numS X hk l0 (lo := 0) (hi := 100) (a := 0) (b := 100) rfl rfl (by omega) (by omega) e1 d1 v1, Option.bind_some, am_k_v]
    exact h20
  · rw [if_neg h] at e0
    rw [if_neg h, if_neg (show ¬ nI 1 = 0 by decide), sx_failS (z := 3) (c := 3) rfl (by omega) l e0, Option.bind_some, am_k_n, b_X3_readGrey_13_2, sx_numS X hk l0 (lo := 0) (hi := 100) (a := 0) (b := 100) rfl rfl (by omega) (by omega) e1 d1 v1, Option.bind_some, am_k_v]
    exact h20
end
