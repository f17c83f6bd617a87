/-! BOTH READ: a statement -/
theorem lc_le (a b : Int64) : lg_cmp a b ≤ 0 ↔ ¬ b < a := by
  rw [← lc_gt, Int32.not_lt]
theorem l_ti {m : Nat} (h : m < 9223372036854775808) : (lN m).toInt = m := by
  show (BitVec.ofNat 64 m).toInt = m
  rw [BitVec.toInt_eq_toNat_cond, BitVec.toNat_ofNat, Nat.mod_eq_of_lt (by omega), if_pos (by omega)]
theorem l_lt {a b : Nat} (ha : a < 9223372036854775808) (hb : b < 9223372036854775808) : lN a < lN b ↔ a < b := by
  rw [Int64.lt_iff_toInt_lt, l_ti ha, l_ti hb]; omega
theorem l_inj {a b : Nat} (ha : a < 9223372036854775808) (hb : b < 9223372036854775808) : lN a = lN b ↔ a = b := by
  rw [← Int64.toInt_inj, l_ti ha, l_ti hb]; omega
theorem l_i64 {b : Nat} (h : b < 2147483648) : Int32.toInt64 (nI b) = lN b := by
  rw [← Int64.toInt_inj, Int32.toInt_toInt64, nI_toInt (by omega), l_ti (by omega)]
section
variable {Ls : Nat} {xs : Nat → Int32} {g : Vg} {hs gr : Nat} {I I' I'' : Nat → Nat → Int32} {J J' : Nat → Nat → Int64} {T : Nat → Nat} {n k a F : Nat} {P v q p : Int32}
theorem sp_word (X : TM T n I) (hk : k ≤ n) : am_ev (am_tbl Ls xs) 12 (0, [(0, .ref 81)], [], (am_sh, mdM I k P v q, J)) = some (none, (am_sh, mdM (am_up2 I 81 22 (nI (lE T n (nQ T n k)))) (nQ T n k) P v q, am_up2 J 81 21 (lN (cdn T (nQ T n k) (lE T n (nQ T n k) - nQ T n k))))) := by
  have X0 := X
  obtain ⟨X8, hn, Xt⟩ := X
  have ga := nQ_le (T := T) hk
  rw [b_X9_readWord_0, sp_here X0 hk, Option.bind_some, am_k_v, b_X9_readWord_4, md20, muo (by omega)]
  generalize nQ T n k = a at ga ⊢
  have g1 : a ≤ lE T n a := sk_ge
  have g2 : lE T n a ≤ n := sk_le ga
  have hL : ∀ j, j < lE T n a - a → 97 ≤ T (a + j) ∧ T (a + j) ≤ 122 := fun j hj => of_decide_eq_true (sk_all (p := ltr T) (n := n) (k := a) (Nat.le_add_right _ _) (show a + j < lE T n a by omega))
  refine (lp (N := lE T n a - a) (f := fun t => am_ev (am_tbl Ls xs) 12 (18, [(0, .ref 81)], [], (am_sh, mdM (am_up2 I 81 22 (nI (a + t))) a P v q, am_up2 J 81 21 (lN (cdn T a t))))) ?_).trans ?_
  · intro t ht
    have h3 := Xt (a + t) (by omega)
    have hl := hL t ht
    have hc := cdn_le (T := T) (a := a) t (fun j hj => hL j (by omega))
    try dsimp only
    rw [b_X9_readWord_18, md18, mdo (by omega), up_ne (by omega), up_eq, X8, if_neg (nI_ge (by omega) (by omega)), if_pos (i_in (by omega) (by omega)), nI_clamp (by omega), mdo (by omega), up_ne (by omega), h3.1, sp_in_97_122, rgI_nat (m := 97) (n := 122) rfl rfl (by omega), decide_eq_true hl, Option.bind_some, am_k_v, b_X9_readWord_48, if_neg (show ¬ am_b true = 0 by decide), up_eq, cdn_s]
    by_cases c : 10000000000000 < cdn T a t
    · rw [if_neg (show ¬ lg_cmp (lN (cdn T a t)) 10000000000000 ≤ 0 from fun z => (lc_le _ _).mp z ((l_lt (a := 10000000000000) (by omega) (by omega)).mpr c)), b_X9_readWord_92, mdo (by omega), up_eq, nI_1, muo (by omega), up_up, up_up, if_pos c]
      rfl
    · rw [if_pos (show lg_cmp (lN (cdn T a t)) 10000000000000 ≤ 0 from (lc_le _ _).mpr (fun z => c ((l_lt (a := 10000000000000) (by omega) (by omega)).mp z))), mdo (by omega), up_eq, if_pos (i_in (by omega) (by omega)), nI_clamp (by omega), mdo (by omega), up_ne (by omega), h3.1, l_i64 (by omega), show (27 : Int64) = lN 27 from rfl, show (96 : Int64) = lN 96 from rfl, l_mul, l_add, lN_sub (by omega), b_X9_readWord_92, mdo (by omega), up_eq, nI_1, muo (by omega), up_up, up_up, if_neg c]
      rfl
  · try dsimp only
    rw [show a + (lE T n a - a) = lE T n a by omega, b_X9_readWord_18, md18, mdo (by omega), up_ne (by omega), up_eq, X8]
    by_cases c : lE T n a < n
    · have h2 : ltr T (lE T n a) = false := sk_end ga c
      have h3 := Xt _ c
      rw [if_neg (nI_ge c (by omega)), if_pos (i_in (by omega) (by omega)), nI_clamp (by omega), mdo (by omega), up_ne (by omega), h3.1, sp_in_97_122, rgI_nat (m := 97) (n := 122) rfl rfl (by omega)]
      show Option.bind (some (some (Value.int (am_b (ltr T (lE T n a)))), _)) _ = _
      rw [h2, Option.bind_some, am_k_v, b_X9_readWord_48, if_pos (show am_b false = 0 from rfl), b_X9_readWord_108]
    · rw [if_pos (nI_le (by omega) (by omega)), b_X9_readWord_108]
theorem sp_cd_gro : am_ev (am_tbl Ls xs) 13 (0, [(0, .int 103), (1, .int 114), (2, .int 111)], [], (am_sh, I, J)) = some (some (.long (lN 5604)), (am_sh, I, J)) := by
  rw [b_X9_code_0]
  refine congrArg (fun z => (some (some (Value.long z), (am_sh, I, J)) : Option AmRes)) ?_
  decide +kernel
theorem sp_cd_hou : am_ev (am_tbl Ls xs) 13 (0, [(0, .int 104), (1, .int 111), (2, .int 117)], [], (am_sh, I, J)) = some (some (.long (lN 6258)), (am_sh, I, J)) := by
  rw [b_X9_code_0]
  refine congrArg (fun z => (some (some (Value.long z), (am_sh, I, J)) : Option AmRes)) ?_
  decide +kernel
theorem sp_cd_sun : am_ev (am_tbl Ls xs) 13 (0, [(0, .int 115), (1, .int 117), (2, .int 110)], [], (am_sh, I, J)) = some (some (.long (lN 14432)), (am_sh, I, J)) := by
  rw [b_X9_code_0]
  refine congrArg (fun z => (some (some (Value.long z), (am_sh, I, J)) : Option AmRes)) ?_
  decide +kernel
theorem sp_cd_per : am_ev (am_tbl Ls xs) 13 (0, [(0, .int 112), (1, .int 101), (2, .int 114)], [], (am_sh, I, J)) = some (some (.long (lN 11817)), (am_sh, I, J)) := by
  rw [b_X9_code_0]
  refine congrArg (fun z => (some (some (Value.long z), (am_sh, I, J)) : Option AmRes)) ?_
  decide +kernel
theorem sp_cd_gre : am_ev (am_tbl Ls xs) 13 (0, [(0, .int 103), (1, .int 114), (2, .int 101)], [], (am_sh, I, J)) = some (some (.long (lN 5594)), (am_sh, I, J)) := by
  rw [b_X9_code_0]
  refine congrArg (fun z => (some (some (Value.long z), (am_sh, I, J)) : Option AmRes)) ?_
  decide +kernel
theorem sp_lo_groun : am_ev (am_tbl Ls xs) 14 (0, [(0, .long (lN 5604)), (2, .int 117), (3, .int 110)], [], (am_sh, I, J)) = some (some (.long (lN 4085897)), (am_sh, I, J)) := by
  rw [b_X9_longer_0, if_pos (show (110 : Int32) ≠ 0 by decide), b_X9_longer_42]
  refine congrArg (fun z => (some (some (Value.long z), (am_sh, I, J)) : Option AmRes)) ?_
  decide +kernel
theorem sp_lo_ground : am_ev (am_tbl Ls xs) 14 (0, [(0, .long (lN 4085897)), (2, .int 100), (3, .int 0)], [], (am_sh, I, J)) = some (some (.long (lN 110319223)), (am_sh, I, J)) := by
  rw [b_X9_longer_0, if_neg (show ¬ (0 : Int32) ≠ 0 by decide), b_X9_longer_42]
  refine congrArg (fun z => (some (some (Value.long z), (am_sh, I, J)) : Option AmRes)) ?_
  decide +kernel
theorem sp_lo_house : am_ev (am_tbl Ls xs) 14 (0, [(0, .long (lN 6258)), (2, .int 115), (3, .int 101)], [], (am_sh, I, J)) = some (some (.long (lN 4562600)), (am_sh, I, J)) := by
  rw [b_X9_longer_0, if_pos (show (101 : Int32) ≠ 0 by decide), b_X9_longer_42]
  refine congrArg (fun z => (some (some (Value.long z), (am_sh, I, J)) : Option AmRes)) ?_
  decide +kernel
theorem sp_lo_perso : am_ev (am_tbl Ls xs) 14 (0, [(0, .long (lN 11817)), (2, .int 115), (3, .int 111)], [], (am_sh, I, J)) = some (some (.long (lN 8615121)), (am_sh, I, J)) := by
  rw [b_X9_longer_0, if_pos (show (111 : Int32) ≠ 0 by decide), b_X9_longer_42]
  refine congrArg (fun z => (some (some (Value.long z), (am_sh, I, J)) : Option AmRes)) ?_
  decide +kernel
theorem sp_lo_person : am_ev (am_tbl Ls xs) 14 (0, [(0, .long (lN 8615121)), (2, .int 110), (3, .int 0)], [], (am_sh, I, J)) = some (some (.long (lN 232608281)), (am_sh, I, J)) := by
  rw [b_X9_longer_0, if_neg (show ¬ (0 : Int32) ≠ 0 by decide), b_X9_longer_42]
  refine congrArg (fun z => (some (some (Value.long z), (am_sh, I, J)) : Option AmRes)) ?_
  decide +kernel
theorem sp_lo_grey : am_ev (am_tbl Ls xs) 14 (0, [(0, .long (lN 5594)), (2, .int 121), (3, .int 0)], [], (am_sh, I, J)) = some (some (.long (lN 151063)), (am_sh, I, J)) := by
  rw [b_X9_longer_0, if_neg (show ¬ (0 : Int32) ≠ 0 by decide), b_X9_longer_42]
  refine congrArg (fun z => (some (some (Value.long z), (am_sh, I, J)) : Option AmRes)) ?_
  decide +kernel
theorem cd_v : cdw 0 = 110319223 ∧ cdw 1 = 4562600 ∧ cdw 2 = 14432 ∧ cdw 3 = 232608281 ∧ cdw 4 = 151063 := by decide +kernel
theorem lc_n {c w : Nat} (hc : c < 9223372036854775808) (hw : w < 9223372036854775808) : lg_cmp (lN c) (lN w) ≠ 0 ↔ c ≠ w := by
  rw [lc_ne, ne_eq, l_inj hc hw]
/-- which word, as the reference tells it -/
def wI (c : Nat) : Int32 := if c = 110319223 then 0 else if c = 4562600 then 1 else if c = 14432 then 2 else if c = 232608281 then 3 else if c = 151063 then 4 else -1
theorem sp_disp {c : Nat} (hc : c < 9223372036854775808) (hJ : J 81 21 = lN c) : am_ev (am_tbl Ls xs) 24 (4, [(0, .ref 81)], [], (am_sh, I, J)) = am_ev (am_tbl Ls xs) 24 (159, [(0, .ref 81)], [.int (wI c)], (am_sh, I, J)) := by
  rw [b_X9_takeClause_4, sp_cd_gro, Option.bind_some, am_k_v, b_X9_takeClause_17, sp_lo_groun, Option.bind_some, am_k_v, b_X9_takeClause_24, sp_lo_ground, Option.bind_some, am_k_v, b_X9_takeClause_30, hJ]
  unfold wI
  by_cases h0 : c = 110319223
  · rw [if_pos h0, if_neg (fun z => (lc_n hc (by omega)).mp z h0), b_X9_takeClause_88, if_neg (show ¬ (0 : Int32) < 0 by decide)]
  rw [if_neg h0, if_pos ((lc_n hc (by omega)).mpr h0), sp_cd_hou, Option.bind_some, am_k_v, b_X9_takeClause_51, sp_lo_house, Option.bind_some, am_k_v, b_X9_takeClause_58]
  by_cases h1 : c = 4562600
  · rw [if_pos h1, if_neg (fun z => (lc_n hc (by omega)).mp z h1), b_X9_takeClause_88, if_neg (show ¬ (1 : Int32) < 0 by decide)]
  rw [if_neg h1, if_pos ((lc_n hc (by omega)).mpr h1), hJ, sp_cd_sun, Option.bind_some, am_k_v, b_X9_takeClause_79]
  by_cases h2 : c = 14432
  · rw [if_pos h2, if_neg (fun z => (lc_n hc (by omega)).mp z h2), b_X9_takeClause_88, if_neg (show ¬ (2 : Int32) < 0 by decide)]
  rw [if_neg h2, if_pos ((lc_n hc (by omega)).mpr h2), b_X9_takeClause_88, if_pos (show (-1 : Int32) < 0 by decide), hJ, sp_cd_per, Option.bind_some, am_k_v, b_X9_takeClause_110, sp_lo_perso, Option.bind_some, am_k_v, b_X9_takeClause_117, sp_lo_person, Option.bind_some, am_k_v, b_X9_takeClause_123]
  by_cases h3 : c = 232608281
  · rw [if_pos h3, if_neg (fun z => (lc_n hc (by omega)).mp z h3)]
  rw [if_neg h3, if_pos ((lc_n hc (by omega)).mpr h3), hJ, sp_cd_gre, Option.bind_some, am_k_v, b_X9_takeClause_144, sp_lo_grey, Option.bind_some, am_k_v, b_X9_takeClause_150]
  by_cases h4 : c = 151063
  · rw [if_pos h4, if_neg (fun z => (lc_n hc (by omega)).mp z h4)]
  rw [if_neg h4, if_pos ((lc_n hc (by omega)).mpr h4)]
end
