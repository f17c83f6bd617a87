/-! COUPLES OF TWO -/
def cpM (g : Vg) (a b : Nat) : Nat := if mnN g a (gA g b) (max (tl g a) (tl g b)) (some b) < mnN g a (gA g a) (max (tl g a) (tl g b)) (some b) then mnN g a (gA g b) (max (tl g a) (tl g b)) (some b) else mnN g a (gA g a) (max (tl g a) (tl g b)) (some b)
/-- worth of a, the lesser one, and b -/
def cpW (g : Vg) (a b : Nat) : Int := (mnP g a + mnP g b : Nat) - (cpM g a b : Nat)
theorem cpM_le {g : Vg} (B : BG g) {a b : Nat} : cpM g a b ≤ 5760 := by
  unfold cpM
  split
  · exact mnN_le B (Nat.le_refl _)
  · exact mnN_le B (Nat.le_refl _)
theorem cpW_le {g : Vg} (B : BG g) {a b : Nat} : -5760 ≤ cpW g a b ∧ cpW g a b ≤ 11520 := by
  have h1 := cpM_le B (a := a) (b := b)
  have h2 := mnP_le B (p := a)
  have h3 := mnP_le B (p := b)
  unfold cpW
  omega
theorem i_of {x : Int32} {z : Int} (h : x.toInt = z) : x = Int32.ofInt z := by rw [← h]; exact (Int32.ofInt_toInt x).symm
theorem cpI {g : Vg} (B : BG g) {a b : Nat} : nI (mnP g a + mnP g b) - nI (cpM g a b) = Int32.ofInt (cpW g a b) := by
  have h1 := cpM_le B (a := a) (b := b)
  have h2 := mnP_le B (p := a)
  have h3 := mnP_le B (p := b)
  apply i_of
  unfold cpW
  rw [pk_sub_toInt (by omega) (by omega)]
section
variable {Ls : Nat} {xs : Nat → Int32} {g : Vg} {r : Vr} {I I' : Nat → Nat → Int32} {J : Nat → Nat → Int64}
theorem sx_owedS (R : RX g I) (B : BG g) (D : RD g J) {p c t n : Nat} (hp : p < gP g) (hc : c < gW g * gD g) (ht : t ≤ 100) (hn : n < 6) : am_ev (am_tbl Ls xs) 177 (0, [(0, .ref 61), (1, .int (nI p)), (2, .int (nI c)), (3, .int (nI t)), (4, .int (nI n))], [], (am_sh, I, J)) = some (some (.int (nI (mnN g p c t (some n)))), (am_sh, I, J)) := sx_meanAt (ns := some n) R B D hp hc ht (fun y q => by cases q; exact hn)
theorem n_max {a b : Nat} : (if nI a < nI b then nI b else nI a) = if nI a < nI b then nI b else nI a := rfl
theorem sx_worth (R : RX g I) (B : BG g) (D : RD g J) {p q : Nat} (hp : p < gP g) (hq : q < gP g) (hne : p ≠ q) : am_ev (am_tbl Ls xs) 111 (0, [(0, .ref 72), (1, .int (nI p)), (2, .int (nI q))], [], (am_sh, I, J)) = some (some (.int (Int32.ofInt (cpW g (min p q) (max p q)))), (am_sh, I, J)) := by
  have b1 := bg_1 B
  have b2 := bg_p B hp
  have b3 := bg_p B hq
  have t1 := tl_le B hp
  have t2 := tl_le B hq
  have m1 := mnP_le B (p := p)
  have m2 := mnP_le B (p := q)
  simp (disch := omega) only [b_X0_worthOf_0, b_X0_worthOf_8, b_X0_worthOf_22, b_X0_worthOf_19, b_X0_worthOf_45, b_X0_worthOf_53, b_X0_worthOf_79, b_X0_worthOf_103, b_X0_worthOf_113, b_X0_worthOf_121, Option.bind_some, am_k_v, am_k_n, ↓n_in, nI_clamp, i_p1, nI_leI, nI_ltI, nI_eq, n_lt0, n_le0, n_eq0, n_gt0, n_lm, n_em, n_me, n_mlt, false_or, or_false, true_or, or_true, false_and, and_false, true_and, and_true, not_false_eq_true, not_true_eq_false, if_true, if_false, if_pos, if_neg, am_b01, am_b0, am_b1, ne_eq, eq_self, reduceCtorEq, rng_t, Bool.and_true, Bool.and_false, Bool.true_and, Bool.false_and, ite_rgI, if_pos rfl, sx_personA R, sx_tall R B, n_ite]
  by_cases h : p < q
  · rw [show min p q = p by omega, show max p q = q by omega]
    simp (disch := omega) only [if_pos, if_neg]
    have hT : (if tl g p < tl g q then tl g q else tl g p) = max (tl g p) (tl g q) := by split <;> omega
    have l1 : mnN g p (gA g q) (max (tl g p) (tl g q)) (some q) ≤ 5760 := mnN_le B (Nat.le_refl _)
    have l2 : mnN g p (gA g p) (max (tl g p) (tl g q)) (some q) ≤ 5760 := mnN_le B (Nat.le_refl _)
    rw [hT]
    simp (disch := omega) only [Option.bind_some, am_k_v, am_k_n, ↓n_in, nI_clamp, i_p1, nI_leI, nI_ltI, nI_eq, n_lt0, n_le0, n_eq0, n_gt0, n_lm, n_em, n_me, n_mlt, false_or, or_false, true_or, or_true, false_and, and_false, true_and, and_true, not_false_eq_true, not_true_eq_false, if_true, if_false, if_pos, if_neg, am_b01, am_b0, am_b1, ne_eq, eq_self, reduceCtorEq, rng_t, Bool.and_true, Bool.and_false, Bool.true_and, Bool.false_and, ite_rgI, if_pos rfl, rx_A R, sx_owedS R B D, b_X0_worthOf_79, b_X0_worthOf_103, b_X0_worthOf_113, b_X0_worthOf_121, sx_meanOf R B D, nI_add, n_ite]
    rw [← cpI B]
    rfl
  · rw [show min p q = q by omega, show max p q = p by omega]
    simp (disch := omega) only [if_pos, if_neg]
    have hT : (if tl g p < tl g q then tl g q else tl g p) = max (tl g q) (tl g p) := by split <;> omega
    have l1 : mnN g q (gA g p) (max (tl g q) (tl g p)) (some p) ≤ 5760 := mnN_le B (Nat.le_refl _)
    have l2 : mnN g q (gA g q) (max (tl g q) (tl g p)) (some p) ≤ 5760 := mnN_le B (Nat.le_refl _)
    rw [hT]
    simp (disch := omega) only [Option.bind_some, am_k_v, am_k_n, ↓n_in, nI_clamp, i_p1, nI_leI, nI_ltI, nI_eq, n_lt0, n_le0, n_eq0, n_gt0, n_lm, n_em, n_me, n_mlt, false_or, or_false, true_or, or_true, false_and, and_false, true_and, and_true, not_false_eq_true, not_true_eq_false, if_true, if_false, if_pos, if_neg, am_b01, am_b0, am_b1, ne_eq, eq_self, reduceCtorEq, rng_t, Bool.and_true, Bool.and_false, Bool.true_and, Bool.false_and, ite_rgI, if_pos rfl, rx_A R, sx_owedS R B D, b_X0_worthOf_79, b_X0_worthOf_103, b_X0_worthOf_113, b_X0_worthOf_121, sx_meanOf R B D, nI_add, n_ite]
    rw [← cpI B, Nat.add_comm (mnP g q)]
    rfl
/-- the reference: it leaves a number behind in a field that nobody else reads -/
theorem sp_worth (M : RM g I) (B : BG g) (C : m0 I) {p q : Nat} (hp : p < gP g) (hq : q < gP g) (hne : p ≠ q) : am_ev (am_tbl Ls xs) 58 (0, [(0, .ref 81), (1, .int (nI p)), (2, .int (nI q))], [], (am_sh, I, J)) = some (some (.int (Int32.ofInt (cpW g (min p q) (max p q)))), (am_sh, am_up2 I 81 41 (nI (max (tl g (min p q)) (tl g (max p q)))), J)) := by
  have b1 := bg_1 B
  have b2 := bg_p B hp
  have b3 := bg_p B hq
  have t1 := tl_le B hp
  have t2 := tl_le B hq
  have m1 := mnP_le B (p := p)
  have m2 := mnP_le B (p := q)
  have e3 : ∀ {p}, p < gP g → am_ev (am_tbl Ls xs) 29 (0, [(0, .ref 81), (1, .int (nI p))], [], (am_sh, I, J)) = some (some (.int (nI (tl g p))), (am_sh, I, J)) := fun hp => by
    rw [sp_tall I J (show _ < 6 by omega), mtall_N M B (mC_0 C) (fun y q => by cases q) hp, tlc_0]
  have main : ∀ {a b : Nat} (ha : a < gP g) (hb : b < gP g) (hab : a ≠ b) (T : Nat) (hT : T = max (tl g a) (tl g b)) (s : Nat), am_ev (am_tbl Ls xs) 58 (62, [(0, .ref 81), (3, .int (nI a)), (4, .int (nI b)), (5, .int (nI s))], [.int (nI T)], (am_sh, I, J)) = some (some (.int (nI s - nI (cpM g a b))), (am_sh, am_up2 I 81 41 (nI T), J)) := by
    intro a b ha hb hab T hT s
    have b4 := bg_p B ha
    have b5 := bg_p B hb
    have t3 := tl_le B ha
    have t4 := tl_le B hb
    have hT9 : T ≤ 9 := by omega
    have M1 : RM g (am_up2 (am_up2 (am_up2 I 81 39 (nI b)) 81 41 (nI T)) 81 40 (nI a)) := rm_up (by unfold mS; omega) (rm_up (by unfold mS; omega) (rm_up (by unfold mS; omega) M))
    have C1 : mC (some b) (some a) T (am_up2 (am_up2 (am_up2 I 81 39 (nI b)) 81 41 (nI T)) 81 40 (nI a)) := ⟨by rw [up_ne (by omega), up_ne (by omega), up_eq]; rfl, by rw [up_eq]; rfl, Or.inr (by rw [up_ne (by omega), up_eq])⟩
    have M2 := rm_setA (c := gA g b) M1 ha
    have B2 := bg_A (p := a) B b5.2.2.2
    have C2 : mC (some b) (some a) T (am_up2 (am_up2 (am_up2 (am_up2 I 81 39 (nI b)) 81 41 (nI T)) 81 40 (nI a)) 87 a (nI (gA g b))) := ⟨by rw [up_ne (by omega)]; exact C1.1, by rw [up_ne (by omega)]; exact C1.2.1, Or.inr (by rw [up_ne (by omega)]; exact C1.2.2.resolve_left (by intro q; cases q))⟩
    have hns : ∀ y, some b = some y → y < 6 := fun y q => by cases q; omega
    have h1 := sp_meanC (Ls := Ls) (xs := xs) (J := J) M1 B C1 hns hT9 ha (Or.inr rfl) (by intro q; cases q; exact hab rfl)
    have h2 := sp_meanC (Ls := Ls) (xs := xs) (J := J) M2 B2 C2 hns hT9 (show a < gP (setA g (fset (gA g) a (gA g b))) from ha) (Or.inr rfl) (by intro q; cases q; exact hab rfl)
    rw [show tlc g (some a) T a = T from if_pos rfl] at h1
    rw [show tlc (setA g (fset (gA g) a (gA g b))) (some a) T a = T from if_pos rfl, mnN_A, show gA (setA g (fset (gA g) a (gA g b))) a = gA g b from fset_eq] at h2
    have l1 : mnN g a (gA g b) T (some b) ≤ 5760 := mnN_le B (Nat.le_refl _)
    have l2 : mnN g a (gA g a) T (some b) ≤ 5760 := mnN_le B (Nat.le_refl _)
    have eA : I 87 a = nI (gA g a) := rm_A M ha
    have eB : (am_up2 (am_up2 (am_up2 I 81 39 (nI b)) 81 41 (nI T)) 81 40 (nI a)) 87 b = nI (gA g b) := rm_A M1 hb
    rw [b_X9_coupleOf_62_2]
    simp (disch := omega) only [Option.bind_some, am_k_v, am_k_n, ↓n_in, nI_clamp, i_p1, nI_leI, nI_ltI, nI_eq, n_lt0, n_le0, n_eq0, n_gt0, n_lm, n_em, n_me, n_mlt, false_or, or_false, true_or, or_true, false_and, and_false, true_and, and_true, not_false_eq_true, not_true_eq_false, if_true, if_false, if_pos, if_neg, am_b01, am_b0, am_b1, ne_eq, eq_self, reduceCtorEq, rng_t, Bool.and_true, Bool.and_false, Bool.true_and, Bool.false_and, ite_rgI, if_pos rfl, h1, b_X9_coupleOf_94, eB, h2, b_X9_coupleOf_114]
    rw [eA]
    have eI : am_up2 (am_up2 (am_up2 (am_up2 (am_up2 (am_up2 (am_up2 I 81 39 (nI b)) 81 41 (nI T)) 81 40 (nI a)) 87 a (nI (gA g b))) 87 a (nI (gA g a))) 81 39 (-1)) 81 40 (-1) = am_up2 I 81 41 (nI T) := by
      funext x y
      unfold am_up2
      by_cases z1 : x = 81 ∧ y = 40
      · rw [if_pos z1, z1.1, z1.2, if_neg (by omega)]; exact C.2.symm
      · rw [if_neg z1]
        by_cases z2 : x = 81 ∧ y = 39
        · rw [if_pos z2, z2.1, z2.2, if_neg (by omega)]; exact C.1.symm
        · rw [if_neg z2]
          by_cases z3 : x = 87 ∧ y = a
          · rw [if_pos z3, z3.1, z3.2, if_neg (by omega)]; exact eA.symm
          · rw [if_neg z3, if_neg z3, if_neg z1]
            by_cases z4 : x = 81 ∧ y = 41
            · rw [if_pos z4, if_pos z4]
            · rw [if_neg z4, if_neg z2, if_neg z4]
    rw [eI]
    have eM : cpM g a b = if mnN g a (gA g b) T (some b) < mnN g a (gA g a) T (some b) then mnN g a (gA g b) T (some b) else mnN g a (gA g a) T (some b) := by rw [hT]; rfl
    rw [eM]
    simp only [b_X9_coupleOf_150]
    by_cases h : mnN g a (gA g b) T (some b) < mnN g a (gA g a) T (some b)
    · rw [if_pos h, if_pos (by omega)]
    · rw [if_neg h]
      by_cases h' : mnN g a (gA g b) T (some b) ≤ mnN g a (gA g a) T (some b)
      · rw [if_pos h', show mnN g a (gA g b) T (some b) = mnN g a (gA g a) T (some b) by omega]
      · rw [if_neg h']
  have main2 : ∀ {a b : Nat} (ha : a < gP g) (hb : b < gP g) (hab : a ≠ b) (T : Nat) (hT : T = max (tl g a) (tl g b)) (s : Nat) (x y : Int32), am_ev (am_tbl Ls xs) 58 (62, [(5, .int (nI s)), (4, .int (nI b)), (0, .ref 81), (1, .int x), (2, .int y), (3, .int (nI a))], [.int (nI T)], (am_sh, I, J)) = some (some (.int (nI s - nI (cpM g a b))), (am_sh, am_up2 I 81 41 (nI T), J)) := by
    intro a b ha hb hab T hT s x y
    rw [← main ha hb hab T hT s, b_X9_coupleOf_62, b_X9_coupleOf_62_2]
  by_cases h : p < q
  · rw [show min p q = p by omega, show max p q = q by omega]
    simp (disch := omega) only [b_X9_coupleOf_0, b_X9_coupleOf_10, b_X9_coupleOf_21, b_X9_coupleOf_28, b_X9_coupleOf_33, b_X9_coupleOf_41, b_X9_coupleOf_46, Option.bind_some, am_k_v, am_k_n, ↓n_in, nI_clamp, i_p1, nI_leI, nI_ltI, nI_eq, n_lt0, n_le0, n_eq0, n_gt0, n_lm, n_em, n_me, n_mlt, false_or, or_false, true_or, or_true, false_and, and_false, true_and, and_true, not_false_eq_true, not_true_eq_false, if_true, if_false, if_pos, if_neg, am_b01, am_b0, am_b1, ne_eq, eq_self, reduceCtorEq, rng_t, Bool.and_true, Bool.and_false, Bool.true_and, Bool.false_and, ite_rgI, if_pos rfl, sp_mean0 M B C, e3, nI_add, b_X9_coupleOf_54]
    by_cases hT : tl g q < tl g p
    · rw [if_neg (show ¬ tl g p ≤ tl g q by omega), main hp hq hne (tl g p) (by omega), show max (tl g p) (tl g q) = tl g p by omega, cpI B]
    · rw [if_pos (show tl g p ≤ tl g q by omega), main2 hp hq hne (tl g q) (by omega), show max (tl g p) (tl g q) = tl g q by omega, cpI B]
  · rw [show min p q = q by omega, show max p q = p by omega]
    simp (disch := omega) only [b_X9_coupleOf_0, b_X9_coupleOf_10, b_X9_coupleOf_21, b_X9_coupleOf_28, b_X9_coupleOf_33, b_X9_coupleOf_41, b_X9_coupleOf_46, Option.bind_some, am_k_v, am_k_n, ↓n_in, nI_clamp, i_p1, nI_leI, nI_ltI, nI_eq, n_lt0, n_le0, n_eq0, n_gt0, n_lm, n_em, n_me, n_mlt, false_or, or_false, true_or, or_true, false_and, and_false, true_and, and_true, not_false_eq_true, not_true_eq_false, if_true, if_false, if_pos, if_neg, am_b01, am_b0, am_b1, ne_eq, eq_self, reduceCtorEq, rng_t, Bool.and_true, Bool.and_false, Bool.true_and, Bool.false_and, ite_rgI, if_pos rfl, sp_mean0 M B C, e3, nI_add, b_X9_coupleOf_54]
    by_cases hT : tl g q < tl g p
    · rw [if_neg (show ¬ tl g p ≤ tl g q by omega), main hq hp (fun e => hne e.symm) (tl g p) (by omega), show max (tl g q) (tl g p) = tl g p by omega, Nat.add_comm, cpI B]
    · rw [if_pos (show tl g p ≤ tl g q by omega), main2 hq hp (fun e => hne e.symm) (tl g q) (by omega), show max (tl g q) (tl g p) = tl g q by omega, Nat.add_comm, cpI B]
theorem pu_couple (H : Inv I J) (p q : Int32) : StpC Ls xs 91 59 [(0, .ref 0), (1, .int p), (2, .int q)] [(0, .ref 81), (1, .int p), (2, .int q)] I J := by
  obtain ⟨g, r, S, Q, ⟨X, XQ, D⟩, ⟨M, MQ, C⟩⟩ := id H
  have B := S.1
  have b1 := bg_1 B
  rcases rng_or (gP g) (by omega) p with ⟨p, hp, rfl⟩ | hp
  · rcases rng_or (gP g) (by omega) q with ⟨q, hq, rfl⟩ | hq
    · by_cases hne : p = q
      · refine stp_pure H (v := -1000000001) ?_ ?_
        · simp (disch := omega) only [b_X8_couple_0, b_X8_couple_8, b_X8_couple_19, b_X8_couple_27, Option.bind_some, am_k_v, am_k_n, ↓n_in, nI_clamp, i_p1, nI_leI, nI_ltI, nI_eq, n_lt0, n_le0, n_eq0, n_gt0, n_lm, n_em, n_me, n_mlt, false_or, or_false, true_or, or_true, false_and, and_false, true_and, and_true, not_false_eq_true, not_true_eq_false, if_true, if_false, if_pos, if_neg, am_b01, am_b0, am_b1, ne_eq, eq_self, reduceCtorEq, rng_t, Bool.and_true, Bool.and_false, Bool.true_and, Bool.false_and, ite_rgI, if_pos rfl, sx_personA X, hne]
        · simp (disch := omega) only [b_X9_couple_0, b_X9_couple_5, b_X9_couple_13, b_X9_couple_30, b_X9_couple_33, Option.bind_some, am_k_v, am_k_n, ↓n_in, nI_clamp, i_p1, nI_leI, nI_ltI, nI_eq, n_lt0, n_le0, n_eq0, n_gt0, n_lm, n_em, n_me, n_mlt, false_or, or_false, true_or, or_true, false_and, and_false, true_and, and_true, not_false_eq_true, not_true_eq_false, if_true, if_false, if_pos, if_neg, am_b01, am_b0, am_b1, ne_eq, eq_self, reduceCtorEq, rng_t, Bool.and_true, Bool.and_false, Bool.true_and, Bool.false_and, ite_rgI, if_pos rfl, sp_personA M B, hne]
      · refine ⟨Int32.ofInt (cpW g (min p q) (max p q)), I, J, am_up2 I 81 41 (nI (max (tl g (min p q)) (tl g (max p q)))), J, ?_, ?_, ⟨g, r, S, Q, inx_up B (by omega) ⟨X, XQ, D⟩, ⟨rm_up (by unfold mS; omega) M, qm_up (by unfold mQ; omega) MQ, m0_up (by unfold m4; omega) C⟩⟩⟩
        · simp (disch := omega) only [b_X8_couple_0, b_X8_couple_8, b_X8_couple_19, b_X8_couple_27, Option.bind_some, am_k_v, am_k_n, ↓n_in, nI_clamp, i_p1, nI_leI, nI_ltI, nI_eq, n_lt0, n_le0, n_eq0, n_gt0, n_lm, n_em, n_me, n_mlt, false_or, or_false, true_or, or_true, false_and, and_false, true_and, and_true, not_false_eq_true, not_true_eq_false, if_true, if_false, if_pos, if_neg, am_b01, am_b0, am_b1, ne_eq, eq_self, reduceCtorEq, rng_t, Bool.and_true, Bool.and_false, Bool.true_and, Bool.false_and, ite_rgI, if_pos rfl, sx_personA X, hne, sx_worth X B D, b_X8_couple_39]
        · simp (disch := omega) only [b_X9_couple_0, b_X9_couple_5, b_X9_couple_13, b_X9_couple_30, b_X9_couple_33, Option.bind_some, am_k_v, am_k_n, ↓n_in, nI_clamp, i_p1, nI_leI, nI_ltI, nI_eq, n_lt0, n_le0, n_eq0, n_gt0, n_lm, n_em, n_me, n_mlt, false_or, or_false, true_or, or_true, false_and, and_false, true_and, and_true, not_false_eq_true, not_true_eq_false, if_true, if_false, if_pos, if_neg, am_b01, am_b0, am_b1, ne_eq, eq_self, reduceCtorEq, rng_t, Bool.and_true, Bool.and_false, Bool.true_and, Bool.false_and, ite_rgI, if_pos rfl, sp_personA M B, hne, sp_worth M B C, b_X9_couple_27]
    · refine stp_pure H (v := -1000000001) ?_ ?_
      · simp (disch := omega) only [b_X8_couple_0, b_X8_couple_8, b_X8_couple_19, b_X8_couple_27, Option.bind_some, am_k_v, am_k_n, ↓n_in, nI_clamp, i_p1, nI_leI, nI_ltI, nI_eq, n_lt0, n_le0, n_eq0, n_gt0, n_lm, n_em, n_me, n_mlt, false_or, or_false, true_or, or_true, false_and, and_false, true_and, and_true, not_false_eq_true, not_true_eq_false, if_true, if_false, if_pos, if_neg, am_b01, am_b0, am_b1, ne_eq, eq_self, reduceCtorEq, rng_t, Bool.and_true, Bool.and_false, Bool.true_and, Bool.false_and, ite_rgI, if_pos rfl, sx_personA X, hq]
      · simp (disch := omega) only [b_X9_couple_0, b_X9_couple_5, b_X9_couple_13, b_X9_couple_30, b_X9_couple_33, Option.bind_some, am_k_v, am_k_n, ↓n_in, nI_clamp, i_p1, nI_leI, nI_ltI, nI_eq, n_lt0, n_le0, n_eq0, n_gt0, n_lm, n_em, n_me, n_mlt, false_or, or_false, true_or, or_true, false_and, and_false, true_and, and_true, not_false_eq_true, not_true_eq_false, if_true, if_false, if_pos, if_neg, am_b01, am_b0, am_b1, ne_eq, eq_self, reduceCtorEq, rng_t, Bool.and_true, Bool.and_false, Bool.true_and, Bool.false_and, ite_rgI, if_pos rfl, sp_personA M B, hq]
  · refine stp_pure H (v := -1000000001) ?_ ?_
    · simp (disch := omega) only [b_X8_couple_0, b_X8_couple_8, b_X8_couple_19, b_X8_couple_27, Option.bind_some, am_k_v, am_k_n, ↓n_in, nI_clamp, i_p1, nI_leI, nI_ltI, nI_eq, n_lt0, n_le0, n_eq0, n_gt0, n_lm, n_em, n_me, n_mlt, false_or, or_false, true_or, or_true, false_and, and_false, true_and, and_true, not_false_eq_true, not_true_eq_false, if_true, if_false, if_pos, if_neg, am_b01, am_b0, am_b1, ne_eq, eq_self, reduceCtorEq, rng_t, Bool.and_true, Bool.and_false, Bool.true_and, Bool.false_and, ite_rgI, if_pos rfl, sx_personA X, hp]
    · simp (disch := omega) only [b_X9_couple_0, b_X9_couple_5, b_X9_couple_13, b_X9_couple_30, b_X9_couple_33, Option.bind_some, am_k_v, am_k_n, ↓n_in, nI_clamp, i_p1, nI_leI, nI_ltI, nI_eq, n_lt0, n_le0, n_eq0, n_gt0, n_lm, n_em, n_me, n_mlt, false_or, or_false, true_or, or_true, false_and, and_false, true_and, and_true, not_false_eq_true, not_true_eq_false, if_true, if_false, if_pos, if_neg, am_b01, am_b0, am_b1, ne_eq, eq_self, reduceCtorEq, rng_t, Bool.and_true, Bool.and_false, Bool.true_and, Bool.false_and, ite_rgI, if_pos rfl, sp_personA M B, hp]
end
