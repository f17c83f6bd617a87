/-! THE TEXT FED -/
def byt (b : Int64) (i : Nat) : Nat := (b >>> (Int32.toInt64 (8 * nI i) &&& 63)).toBitVec.toNat % 256
theorem by_m (x : Int64) : Int64.toInt32 (x &&& 255) = nI (x.toBitVec.toNat % 256) := by
  apply Int32.toInt_inj.mp
  have h1 : (x &&& 255).toBitVec.toNat = x.toBitVec.toNat % 256 := by
    rw [Int64.toBitVec_and, BitVec.toNat_and]
    exact Nat.and_two_pow_sub_one_eq_mod _ 8
  have h2 : (x &&& 255).toInt = ((x.toBitVec.toNat % 256 : Nat) : Int) := by
    show (x &&& 255).toBitVec.toInt = _
    rw [BitVec.toInt_eq_toNat_cond, h1, if_pos (by omega)]
  rw [Int64.toInt_toInt32, h2, nI_toInt (by omega)]
  simp only [Int.bmod]
  split <;> omega
theorem by_x (x : Int64) : vp_nar .byte (Int8.toInt32 (Int32.toInt8 (Int64.toInt32 x))) = bI (x.toBitVec.toNat % 256) := by
  rw [pk_vb]
  apply Int32.toInt_inj.mp
  rw [Int8.toInt_toInt32, Int32.toInt_toInt8, Int64.toInt_toInt32]
  have h2 : x.toInt = if 2 * x.toBitVec.toNat < 2 ^ 64 then (x.toBitVec.toNat : Int) else (x.toBitVec.toNat : Int) - ((2 ^ 64 : Nat) : Int) := BitVec.toInt_eq_toNat_cond x.toBitVec
  have hb := x.toBitVec.isLt
  rw [h2]
  generalize x.toBitVec.toNat = n at hb
  have h3 : (bI (n % 256)).toInt = if n % 256 < 128 then ((n % 256 : Nat) : Int) else ((n % 256 : Nat) : Int) - 256 := by
    unfold bI
    by_cases q : n % 256 < 128
    · rw [if_pos q, if_pos q, nI_toInt (by omega)]
    · rw [if_neg q, if_neg q, i_sub (by rw [nI_toInt (by omega), show (256 : Int32).toInt = 256 from rfl]; omega) (by rw [nI_toInt (by omega), show (256 : Int32).toInt = 256 from rfl]; omega), nI_toInt (by omega)]; rfl
  rw [h3]
  simp only [Int.bmod]
  split <;> split <;> split <;> split <;> omega
theorem i_pmo (x : Int32) : x + Int32.ofInt (-1) = x - 1 := by rw [Int32.sub_eq_add_neg]; rfl
def rF (r : Vr) (n : Nat) (T : Nat → Nat) : Vr := ((r.1.1, r.1.2.1, n, T), r.2)
def fdT (T : Nat → Nat) (N m : Nat) (b : Int64) : Nat → Nat := fun k => if k < N then T k else byt b (m - 1 - (k - N))
section
variable {Ls : Nat} {xs : Nat → Int32} {g : Vg} {r : Vr} {I I' : Nat → Nat → Int32} {J : Nat → Nat → Int64}
theorem sx_append {N m : Nat} {T : Nat → Nat} (b : Int64) (hm : m ≤ 8) (hN : N + m ≤ 500) (h1 : I 1 6 = nI N) (h2 : ∀ k, k < N → I 2 k = bI (T k)) : ∃ I', am_ev (am_tbl Ls xs) 144 (0, [(0, .ref 1), (1, .int (nI m)), (2, .long b)], [], (am_sh, I, J)) = some (none, (am_sh, I', J)) ∧ (∀ q i, q ≠ 2 ∧ (q ≠ 1 ∨ i ≠ 6) → I' q i = I q i) ∧ I' 1 6 = nI (N + m) ∧ ∀ k, k < N + m → I' 2 k = bI (fdT T N m b k) := by
  obtain ⟨I1, ⟨F1, G1, P1⟩, e1⟩ := lpe (N := m) (f := fun k I' => am_ev (am_tbl Ls xs) 144 (5, [(0, .ref 1), (2, .long b), (4, .int (nI (m - k) - 1))], [], (am_sh, I', J))) (V := fun k I' => (∀ q i, q ≠ 2 ∧ (q ≠ 1 ∨ i ≠ 6) → I' q i = I q i) ∧ I' 1 6 = nI (N + k) ∧ ∀ j, j < N + k → I' 2 j = bI (fdT T N m b j)) (by
    intro k I1 hk ⟨F1, G1, P1⟩
    refine ⟨am_up2 (am_up2 I1 2 (N + k) (bI (byt b (m - k - 1)))) 1 6 (nI (N + (k + 1))), ⟨fun q i hq => ?_, up_eq, fun j hj => ?_⟩, ?_⟩
    · rw [up_ne (by omega), up_ne (by omega)]; exact F1 q i hq
    · rw [up_ne (by omega)]
      by_cases e : j = N + k
      · rw [e, up_eq]
        unfold fdT
        rw [if_neg (by omega), show m - 1 - (N + k - N) = m - k - 1 by omega]
      · rw [up_ne (by omega)]; exact P1 j (by omega)
    · try dsimp only
      rw [b_X3_append_5, nI_m1, if_pos (show 1 ≤ m - k by omega), G1, if_neg (show ¬ nI (m - k - 1) < 0 from nI_pos (by omega)), if_neg (show ¬ (500 : Int32) ≤ nI (N + k) from nI_ge (b := 500) (by omega) (by omega)), if_pos (i_in (by omega) (by omega)), nI_clamp (by omega), by_x, i_pmo, show m - (k + 1) = m - k - 1 by omega, nI_1]
      rfl) I ⟨fun _ _ _ => rfl, h1, fun j hj => by
        unfold fdT
        rw [if_pos (by omega)]; exact h2 j (by omega)⟩
  refine ⟨I1, ?_, F1, G1, P1⟩
  rw [b_X3_append_0]
  refine Eq.trans e1 ?_
  try dsimp only
  rw [b_X3_append_5, Nat.sub_self, if_pos (show nI 0 - 1 < 0 by decide), b_X3_append_54]
theorem sp_append {N m : Nat} {T : Nat → Nat} (b : Int64) (hm : m ≤ 8) (hN : N + m ≤ 500) (h1 : I 81 18 = nI N) (h2 : ∀ k, k < N → I 91 k = nI (T k)) : ∃ I', am_ev (am_tbl Ls xs) 9 (35, [(0, .ref 81), (2, .long b), (4, .int (nI m - 1))], [], (am_sh, I, J)) = some (some (.int (nI (N + m))), (am_sh, I', J)) ∧ (∀ q i, q ≠ 91 ∧ (q ≠ 81 ∨ i ≠ 18) → I' q i = I q i) ∧ I' 81 18 = nI (N + m) ∧ ∀ k, k < N + m → I' 91 k = nI (fdT T N m b k) := by
  obtain ⟨I1, ⟨F1, G1, P1⟩, e1⟩ := lpe (N := m) (f := fun k I' => am_ev (am_tbl Ls xs) 9 (35, [(0, .ref 81), (2, .long b), (4, .int (nI (m - k) - 1))], [], (am_sh, I', J))) (V := fun k I' => (∀ q i, q ≠ 91 ∧ (q ≠ 81 ∨ i ≠ 18) → I' q i = I q i) ∧ I' 81 18 = nI (N + k) ∧ ∀ j, j < N + k → I' 91 j = nI (fdT T N m b j)) (by
    intro k I1 hk ⟨F1, G1, P1⟩
    refine ⟨am_up2 (am_up2 I1 91 (N + k) (nI (byt b (m - k - 1)))) 81 18 (nI (N + (k + 1))), ⟨fun q i hq => ?_, up_eq, fun j hj => ?_⟩, ?_⟩
    · rw [up_ne (by omega), up_ne (by omega)]; exact F1 q i hq
    · rw [up_ne (by omega)]
      by_cases e : j = N + k
      · rw [e, up_eq]
        unfold fdT
        rw [if_neg (by omega), show m - 1 - (N + k - N) = m - k - 1 by omega]
      · rw [up_ne (by omega)]; exact P1 j (by omega)
    · try dsimp only
      rw [b_X9_feed_35, nI_m1, if_pos (show 1 ≤ m - k by omega), G1, if_neg (show ¬ nI (m - k - 1) < 0 from nI_pos (by omega)), if_pos (i_in (by omega) (by omega)), nI_clamp (by omega), by_m, i_pmo, show m - (k + 1) = m - k - 1 by omega, nI_1]
      rfl) I ⟨fun _ _ _ => rfl, h1, fun j hj => by
        unfold fdT
        rw [if_pos (by omega)]; exact h2 j (by omega)⟩
  refine ⟨I1, ?_, F1, G1, P1⟩
  refine Eq.trans e1 ?_
  try dsimp only
  rw [b_X9_feed_35, Nat.sub_self, if_pos (show nI 0 - 1 < 0 by decide), G1]
theorem fdT_lt {T : Nat → Nat} {N m : Nat} {b : Int64} (h : ∀ k, k < N → T k < 256) (k : Nat) : fdT T N m b k < 256 := by
  unfold fdT
  by_cases e : k < N
  · rw [if_pos e]; exact h k e
  · rw [if_neg e]; exact Nat.mod_lt _ (by omega)
theorem bq_F {n : Nat} {T : Nat → Nat} (hn : n ≤ 500) (hT : ∀ k, k < n → T k < 256) (Q : BQ g r) : BQ g (rF r n T) := by
  obtain ⟨⟨a1, a2, a3, a4, a5, a6, a7⟩, b1, b2⟩ := Q
  exact ⟨⟨a1, hn, a3, a4, a5, a6, a7⟩, hT, b2⟩
theorem qx_F {n : Nat} {T : Nat → Nat} (e : ∀ q k, xQ q k ∧ q ≠ 2 ∧ (q ≠ 1 ∨ k ≠ 6) → I' q k = I q k) (h1 : I' 1 6 = nI n) (h2 : ∀ k, k < n → I' 2 k = bI (T k)) (R : QX g r I) : QX g (rF r n T) I' := by
  obtain ⟨⟨a1, a2, a3, a4, a5, a6, a7⟩, b1, b2, b3, b4, ⟨c1, c2⟩, d1, d2⟩ := R
  exact ⟨⟨(e _ _ (by unfold xQ; omega)).trans a1, (e _ _ (by unfold xQ; omega)).trans a2, h1, (e _ _ (by unfold xQ; omega)).trans a4, (e _ _ (by unfold xQ; omega)).trans a5, (e _ _ (by unfold xQ; omega)).trans a6, (e _ _ (by unfold xQ; omega)).trans a7⟩, h2, fun k h => ⟨(e _ _ (by unfold xQ; omega)).trans (b2 k h).1, (e _ _ (by unfold xQ; omega)).trans (b2 k h).2.1, (e _ _ (by unfold xQ; omega)).trans (b2 k h).2.2⟩, fun k h => ⟨(e _ _ (by unfold xQ; omega)).trans (b3 k h).1, (e _ _ (by unfold xQ; omega)).trans (b3 k h).2⟩, fun k h => ⟨(e _ _ (by unfold xQ; omega)).trans (b4 k h).1, (e _ _ (by unfold xQ; omega)).trans (b4 k h).2.1, (e _ _ (by unfold xQ; omega)).trans (b4 k h).2.2⟩, ⟨(e _ _ (by unfold xQ; omega)).trans c1, (e _ _ (by unfold xQ; omega)).trans c2⟩, fun h => xi_c3 (fun q k _ _ _ => e q k (by unfold xQ; omega)) (d1 h), fun h => xi_c3 (fun q k _ _ _ => e q k (by unfold xQ; omega)) (d2 h)⟩
theorem qm_F {n : Nat} {T : Nat → Nat} (hP : gP g ≤ 6) (e : ∀ q k, mQ q k ∧ q ≠ 91 ∧ (q ≠ 81 ∨ k ≠ 18) → I' q k = I q k) (h1 : I' 81 18 = nI n) (h2 : ∀ k, k < n → I' 91 k = nI (T k)) (R : QM g r I) : QM g (rF r n T) I' := by
  obtain ⟨⟨a1, a2, a3, a4, a5, a6⟩, b1, b2, b3, b4, ⟨c1, c2⟩, d1, d2⟩ := R
  exact ⟨⟨(e _ _ (by unfold mQ; omega)).trans a1, (e _ _ (by unfold mQ; omega)).trans a2, h1, (e _ _ (by unfold mQ; omega)).trans a4, (e _ _ (by unfold mQ; omega)).trans a5, (e _ _ (by unfold mQ; omega)).trans a6⟩, h2, fun k h => ⟨(e _ _ (by unfold mQ; omega)).trans (b2 k h).1, (e _ _ (by unfold mQ; omega)).trans (b2 k h).2.1, (e _ _ (by unfold mQ; omega)).trans (b2 k h).2.2⟩, fun k h => ⟨(e _ _ (by unfold mQ; omega)).trans (b3 k h).1, (e _ _ (by unfold mQ; omega)).trans (b3 k h).2⟩, fun k h => ⟨(e _ _ (by unfold mQ; omega)).trans (b4 k h).1, (e _ _ (by unfold mQ; omega)).trans (b4 k h).2.1, (e _ _ (by unfold mQ; omega)).trans (b4 k h).2.2⟩, ⟨(e _ _ (by unfold mQ; omega)).trans c1, (e _ _ (by unfold mQ; omega)).trans c2⟩, fun h => mi_c3 hP (fun k _ _ => e 113 k (by unfold mQ; omega)) (d1 h), fun h => mi_c3 hP (fun k _ _ => e 113 k (by unfold mQ; omega)) (d2 h)⟩
theorem pu_feed (H : Inv I J) (a : Int32) (b : Int64) : StpC Ls xs 76 9 [(0, .ref 0), (1, .int a), (2, .long b)] [(0, .ref 81), (1, .int a), (2, .long b)] I J := by
  obtain ⟨g, r, S, Q, ⟨X, XQ, D⟩, ⟨M, MQ, C⟩⟩ := id H
  have B := S.1
  have b1 := bg_1 B
  have hN : qN r ≤ 500 := Q.1.2.1
  have hP : gP g ≤ 6 := b1.2.2.2.2.1
  have x3 : I 1 6 = nI (qN r) := XQ.1.2.2.1
  have m3 : I 81 18 = nI (qN r) := MQ.1.2.2.1
  cases hr : rgI 1 8 a
  · refine stp_pure H (v := -1000000002) ?_ ?_
    · rw [b_X8_feed_0, ite_rgI, hr, if_neg (by decide), b_X8_feed_11]
    · rw [b_X9_feed_0, sp_in_1_8, Option.bind_some, am_k_v, b_X9_feed_9, hr, if_neg (show ¬ am_b false ≠ 0 by decide)]
  · obtain ⟨m, hm1, hm, rfl⟩ := rgI_n (m := 1) (n := 8) rfl rfl hr
    by_cases hf : qN r + m ≤ 500
    · obtain ⟨I1, e1, F1, G1, P1⟩ := sx_append (Ls := Ls) (xs := xs) (J := J) (T := qT r) b hm hf x3 XQ.2.1
      have M1 : InM g r I1 := inm_x (fun q k h => F1 q k (by omega)) ⟨M, MQ, C⟩
      obtain ⟨I2, e2, F2, G2, P2⟩ := sp_append (Ls := Ls) (xs := xs) (J := J) (T := qT r) b hm hf M1.2.1.1.2.2.1 M1.2.1.2.1
      have XX : RX g I1 := rx_cong B (fun q k h => F1 q k (by unfold xS at h; omega)) X
      have XQ1 : QX g (rF r (qN r + m) (fdT (qT r) (qN r) m b)) I1 := qx_F (fun q k h => F1 q k (by omega)) G1 P1 XQ
      have X2 : InX g (rF r (qN r + m) (fdT (qT r) (qN r) m b)) I2 J := inx_m B (fun q k h => F2 q k (by omega)) (fun _ => rfl) ⟨XX, XQ1, D⟩
      have M2 : InM g (rF r (qN r + m) (fdT (qT r) (qN r) m b)) I2 := ⟨rm_cong (fun q k h => F2 q k (by unfold mS at h; omega)) M1.1, qm_F hP (fun q k h => F2 q k (by omega)) G2 P2 M1.2.1, m0_cong (fun q k h => F2 q k (by unfold m4 at h; omega)) M1.2.2⟩
      refine ⟨nI (qN r + m), I1, J, I2, J, ?_, ?_, ⟨g, rF r (qN r + m) (fdT (qT r) (qN r) m b), S, bq_F hf (fun k _ => fdT_lt Q.2.1 k) Q, X2, M2⟩⟩
      · rw [b_X8_feed_0, ite_rgI, hr, if_pos rfl, x3, nI_add, if_pos (show nI (qN r + m) ≤ 500 from nI_le (b := 500) hf (by omega)), e1, Option.bind_some, am_k_n, b_X8_feed_41, G1]
      · have ei := sp_in_1_8 (Ls := Ls) (xs := xs) (I := I1) (J := J) (nI m)
        rw [b_X9_feed_0, ei, Option.bind_some, am_k_v, b_X9_feed_9, hr, if_pos (show am_b true ≠ 0 by decide), M1.2.1.1.2.2.1, nI_add, if_pos (show nI (qN r + m) ≤ 500 from nI_le (b := 500) hf (by omega))]
        exact e2
    · refine stp_pure H (v := -1000000004) ?_ ?_
      · rw [b_X8_feed_0, ite_rgI, hr, if_pos rfl, x3, nI_add, if_neg (show ¬ nI (qN r + m) ≤ 500 from fun z => hf ((nI_leI (b := 500) (by omega) (by omega)).mp z))]
      · rw [b_X9_feed_0, sp_in_1_8, Option.bind_some, am_k_v, b_X9_feed_9, hr, if_pos (show am_b true ≠ 0 by decide), m3, nI_add, if_neg (show ¬ nI (qN r + m) ≤ 500 from fun z => hf ((nI_leI (b := 500) (by omega) (by omega)).mp z))]
end
