/-! IMAGES: the calls -/
section
variable {Ls : Nat} {xs : Nat → Int32} {g : Vg} {r : Vr} {s : Vs} {I I' : Nat → Nat → Int32} {J : Nat → Nat → Int64}
theorem xi_c3 {P o : Nat} (e : ∀ q k, o ≤ q → q ≤ o + 4 → (q ≠ o ∨ 4 ≤ k) → I' q k = I q k) (R : XI P s o I) : XI P s o I' :=
  ⟨fun p h1 => ⟨(e _ _ (by omega) (by omega) (by omega)).trans (R.1 p h1).1, (e _ _ (by omega) (by omega) (by omega)).trans (R.1 p h1).2.1, (e _ _ (by omega) (by omega) (by omega)).trans (R.1 p h1).2.2⟩, fun c h1 => (e _ _ (by omega) (by omega) (by omega)).trans (R.2.1 c h1), (e _ _ (by omega) (by omega) (by omega)).trans R.2.2.1, (e _ _ (by omega) (by omega) (by omega)).trans R.2.2.2.1, (e _ _ (by omega) (by omega) (by omega)).trans R.2.2.2.2⟩
theorem mi_c3 {P o : Nat} (hP : P ≤ 6) (e : ∀ k, o ≤ k → k < o + 70 → I' 113 k = I 113 k) (R : MI P s o I) : MI P s o I' :=
  ⟨fun p h1 => ⟨(e _ (by omega) (by omega)).trans (R.1 p h1).1, (e _ (by omega) (by omega)).trans (R.1 p h1).2.1, (e _ (by omega) (by omega)).trans (R.1 p h1).2.2⟩, fun c h1 => (e _ (by omega) (by omega)).trans (R.2.1 c h1), (e _ (by omega) (by omega)).trans R.2.2.1, (e _ (by omega) (by omega)).trans R.2.2.2.1, (e _ (by omega) (by omega)).trans R.2.2.2.2⟩
theorem qx_k0 (e : ∀ q k, xQ q k ∧ (q < 38 ∨ 42 < q) ∧ (q ≠ 48 ∨ k ≠ 0) → I' q k = I q k) (h1 : I' 48 0 = 1) (h2 : XI (gP g) s 38 I') (R : QX g r I) : QX g (rK0 r s) I' := by
  obtain ⟨⟨a1, a2, a3, a4, a5, a6, a7⟩, b1, b2, b3, b4, ⟨c1, c2⟩, d1, d2⟩ := R
  exact ⟨⟨(e _ _ (by unfold xQ; omega)).trans a1, (e _ _ (by unfold xQ; omega)).trans a2, (e _ _ (by unfold xQ; omega)).trans a3, (e _ _ (by unfold xQ; omega)).trans a4, (e _ _ (by unfold xQ; omega)).trans a5, (e _ _ (by unfold xQ; omega)).trans a6, (e _ _ (by unfold xQ; omega)).trans a7⟩, fun k h => (e _ _ (by unfold xQ; omega)).trans (b1 k h), fun k h => ⟨(e _ _ (by unfold xQ; omega)).trans (b2 k h).1, (e _ _ (by unfold xQ; omega)).trans (b2 k h).2.1, (e _ _ (by unfold xQ; omega)).trans (b2 k h).2.2⟩, fun k h => ⟨(e _ _ (by unfold xQ; omega)).trans (b3 k h).1, (e _ _ (by unfold xQ; omega)).trans (b3 k h).2⟩, fun k h => ⟨(e _ _ (by unfold xQ; omega)).trans (b4 k h).1, (e _ _ (by unfold xQ; omega)).trans (b4 k h).2.1, (e _ _ (by unfold xQ; omega)).trans (b4 k h).2.2⟩, ⟨h1, (e _ _ (by unfold xQ; omega)).trans c2⟩, fun _ => h2, fun h => xi_c3 (fun q k _ _ _ => e q k (by unfold xQ; omega)) (d2 h)⟩
theorem qx_k1 (e : ∀ q k, xQ q k ∧ (q < 43 ∨ 47 < q) ∧ (q ≠ 48 ∨ k ≠ 1) → I' q k = I q k) (h1 : I' 48 1 = 1) (h2 : XI (gP g) s 43 I') (R : QX g r I) : QX g (rK1 r s) I' := by
  obtain ⟨⟨a1, a2, a3, a4, a5, a6, a7⟩, b1, b2, b3, b4, ⟨c1, c2⟩, d1, d2⟩ := R
  exact ⟨⟨(e _ _ (by unfold xQ; omega)).trans a1, (e _ _ (by unfold xQ; omega)).trans a2, (e _ _ (by unfold xQ; omega)).trans a3, (e _ _ (by unfold xQ; omega)).trans a4, (e _ _ (by unfold xQ; omega)).trans a5, (e _ _ (by unfold xQ; omega)).trans a6, (e _ _ (by unfold xQ; omega)).trans a7⟩, fun k h => (e _ _ (by unfold xQ; omega)).trans (b1 k h), fun k h => ⟨(e _ _ (by unfold xQ; omega)).trans (b2 k h).1, (e _ _ (by unfold xQ; omega)).trans (b2 k h).2.1, (e _ _ (by unfold xQ; omega)).trans (b2 k h).2.2⟩, fun k h => ⟨(e _ _ (by unfold xQ; omega)).trans (b3 k h).1, (e _ _ (by unfold xQ; omega)).trans (b3 k h).2⟩, fun k h => ⟨(e _ _ (by unfold xQ; omega)).trans (b4 k h).1, (e _ _ (by unfold xQ; omega)).trans (b4 k h).2.1, (e _ _ (by unfold xQ; omega)).trans (b4 k h).2.2⟩, ⟨(e _ _ (by unfold xQ; omega)).trans c1, h1⟩, fun h => xi_c3 (fun q k _ _ _ => e q k (by unfold xQ; omega)) (d1 h), fun _ => h2⟩
theorem qm_k0 (hP : gP g ≤ 6) (e : ∀ q k, mQ q k ∧ (q ≠ 113 ∨ 70 ≤ k) ∧ (q ≠ 114 ∨ k ≠ 0) → I' q k = I q k) (h1 : I' 114 0 = 1) (h2 : MI (gP g) s 0 I') (R : QM g r I) : QM g (rK0 r s) I' := by
  obtain ⟨⟨a1, a2, a3, a4, a5, a6⟩, b1, b2, b3, b4, ⟨c1, c2⟩, d1, d2⟩ := R
  exact ⟨⟨(e _ _ (by unfold mQ; omega)).trans a1, (e _ _ (by unfold mQ; omega)).trans a2, (e _ _ (by unfold mQ; omega)).trans a3, (e _ _ (by unfold mQ; omega)).trans a4, (e _ _ (by unfold mQ; omega)).trans a5, (e _ _ (by unfold mQ; omega)).trans a6⟩, fun k h => (e _ _ (by unfold mQ; omega)).trans (b1 k h), fun k h => ⟨(e _ _ (by unfold mQ; omega)).trans (b2 k h).1, (e _ _ (by unfold mQ; omega)).trans (b2 k h).2.1, (e _ _ (by unfold mQ; omega)).trans (b2 k h).2.2⟩, fun k h => ⟨(e _ _ (by unfold mQ; omega)).trans (b3 k h).1, (e _ _ (by unfold mQ; omega)).trans (b3 k h).2⟩, fun k h => ⟨(e _ _ (by unfold mQ; omega)).trans (b4 k h).1, (e _ _ (by unfold mQ; omega)).trans (b4 k h).2.1, (e _ _ (by unfold mQ; omega)).trans (b4 k h).2.2⟩, ⟨h1, (e _ _ (by unfold mQ; omega)).trans c2⟩, fun _ => h2, fun h => mi_c3 hP (fun k _ _ => e 113 k (by unfold mQ; omega)) (d2 h)⟩
theorem qm_k1 (hP : gP g ≤ 6) (e : ∀ q k, mQ q k ∧ (q ≠ 113 ∨ k < 70) ∧ (q ≠ 114 ∨ k ≠ 1) → I' q k = I q k) (h1 : I' 114 1 = 1) (h2 : MI (gP g) s 70 I') (R : QM g r I) : QM g (rK1 r s) I' := by
  obtain ⟨⟨a1, a2, a3, a4, a5, a6⟩, b1, b2, b3, b4, ⟨c1, c2⟩, d1, d2⟩ := R
  exact ⟨⟨(e _ _ (by unfold mQ; omega)).trans a1, (e _ _ (by unfold mQ; omega)).trans a2, (e _ _ (by unfold mQ; omega)).trans a3, (e _ _ (by unfold mQ; omega)).trans a4, (e _ _ (by unfold mQ; omega)).trans a5, (e _ _ (by unfold mQ; omega)).trans a6⟩, fun k h => (e _ _ (by unfold mQ; omega)).trans (b1 k h), fun k h => ⟨(e _ _ (by unfold mQ; omega)).trans (b2 k h).1, (e _ _ (by unfold mQ; omega)).trans (b2 k h).2.1, (e _ _ (by unfold mQ; omega)).trans (b2 k h).2.2⟩, fun k h => ⟨(e _ _ (by unfold mQ; omega)).trans (b3 k h).1, (e _ _ (by unfold mQ; omega)).trans (b3 k h).2⟩, fun k h => ⟨(e _ _ (by unfold mQ; omega)).trans (b4 k h).1, (e _ _ (by unfold mQ; omega)).trans (b4 k h).2.1, (e _ _ (by unfold mQ; omega)).trans (b4 k h).2.2⟩, ⟨(e _ _ (by unfold mQ; omega)).trans c1, h1⟩, fun h => mi_c3 hP (fun k _ _ => e 113 k (by unfold mQ; omega)) (d1 h), fun _ => h2⟩
theorem bq_k0 (S : BS g) (Q : BQ g r) : BQ g (rK0 r g.2) := by
  obtain ⟨⟨a1, a2, a3, a4, a5, a6, a7⟩, b1, b2, b3, b4, d1, d2⟩ := Q
  exact ⟨⟨a1, a2, a3, a4, a5, Nat.le_refl 1, a7⟩, b1, b2, b3, b4, fun _ => S, d2⟩
theorem bq_k1 (S : BS g) (Q : BQ g r) : BQ g (rK1 r g.2) := by
  obtain ⟨⟨a1, a2, a3, a4, a5, a6, a7⟩, b1, b2, b3, b4, d1, d2⟩ := Q
  exact ⟨⟨a1, a2, a3, a4, a5, a6, Nat.le_refl 1⟩, b1, b2, b3, b4, d1, fun _ => S⟩
theorem rg2_or (a : Int32) : a = nI 0 ∨ a = nI 1 ∨ (rgI 0 1 a = false ∧ (a < 0 ∨ ¬ a < 2)) := by
  cases h : rgI 0 1 a
  · refine Or.inr (Or.inr ⟨rfl, ?_⟩)
    have := of_decide_eq_false h
    rw [i_ltN, i_ltN, show (0 : Int32).toInt = 0 from rfl, show (2 : Int32).toInt = 2 from rfl]
    rw [show (0 : Int32).toInt = 0 from rfl, show (1 : Int32).toInt = 1 from rfl] at this
    omega
  · obtain ⟨n, _, h2, h3⟩ := rgI_n (m := 0) (n := 1) rfl rfl h
    rcases Nat.lt_or_ge n 1 with q | q
    · exact Or.inl (by rw [h3, show n = 0 by omega])
    · exact Or.inr (Or.inl (by rw [h3, show n = 1 by omega]))
theorem pu_keep (H : Inv I J) (a : Int32) : StpC Ls xs 102 73 [(0, .ref 0), (1, .int a)] [(0, .ref 81), (1, .int a)] I J := by
  obtain ⟨g, r, S, Q, ⟨X, XQ, D⟩, ⟨M, MQ, C⟩⟩ := id H
  have B := S.1
  have b1 := bg_1 B
  have hP : gP g ≤ 6 := b1.2.2.2.2.1
  rcases rg2_or a with h | h | ⟨h, h2⟩
  · subst h
    obtain ⟨I1, e1, F1, P1, C1, f4, f5, f6⟩ := sx_cp_38_33 (Ls := Ls) (xs := xs) (I := I) (J := J)
    have FX : ∀ q k, (q < 38 ∨ 42 < q ∨ (q = 38 ∧ k < 4)) ∧ (q ≠ 48 ∨ k ≠ 0) → am_up2 I1 48 0 1 q k = I q k := fun q k h => by rw [up_ne (by omega)]; exact F1 q k h.1
    have M1 : InM g r (am_up2 I1 48 0 1) := inm_x (fun q k h => FX q k (by omega)) ⟨M, MQ, C⟩
    obtain ⟨I2, e2, F2, G2, K2⟩ := sp_keep (Ls := Ls) (xs := xs) (J := J) M1.1 B 0 0 (by omega) rfl
    have XX : RX g (am_up2 I1 48 0 1) := rx_cong B (fun q k h => FX q k (by unfold xS at h; omega)) X
    have XI1 : XI (gP g) g.2 38 (am_up2 I1 48 0 1) := by
      have ge := xi_of X
      refine ⟨fun p hp => ?_, fun c hc => ?_, ?_, ?_, ?_⟩
      · rw [up_ne (by omega), up_ne (by omega), up_ne (by omega), (P1 p (by omega)).1, (P1 p (by omega)).2.1, (P1 p (by omega)).2.2]; exact ge.1 p hp
      · rw [up_ne (by omega), C1 c hc]; exact ge.2.1 c hc
      · rw [up_ne (by omega), f4]; exact ge.2.2.1
      · rw [up_ne (by omega), f5]; exact ge.2.2.2.1
      · rw [up_ne (by omega), f6]; exact ge.2.2.2.2
    have XQ1 : QX g (rK0 r g.2) (am_up2 I1 48 0 1) := qx_k0 (fun q k h => FX q k (by omega)) up_eq XI1 XQ
    have X2 : InX g (rK0 r g.2) I2 J := inx_m B (fun q k h => F2 q k (by omega)) (fun _ => rfl) ⟨XX, XQ1, D⟩
    have M2 : InM g (rK0 r g.2) I2 := ⟨rm_cong (fun q k h => F2 q k (by unfold mS at h; omega)) M1.1, qm_k0 hP (fun q k h => F2 q k (by omega)) G2 K2 M1.2.1, m0_cong (fun q k h => F2 q k (by unfold m4 at h; omega)) M1.2.2⟩
    refine ⟨1, am_up2 I1 48 0 1, J, I2, J, ?_, ?_, ⟨g, rK0 r g.2, S, bq_k0 S Q, X2, M2⟩⟩
    · rw [b_X8_keep_0, if_neg (show ¬ nI 0 < 0 by decide), if_pos (show nI 0 < 2 by decide), b_X8_imageOf_0, if_neg (show ¬ nI 0 ≠ 0 by decide), b_X8_imageOf_15_2, Option.bind_some, am_k_v, b_X8_keep_17, e1, Option.bind_some, am_k_n, b_X8_keep_24, if_pos (show ¬ (nI 0 < 0 ∨ 2 ≤ Int32.toNatClampNeg (nI 0)) by decide)]
      rfl
    · rw [b_X9_keep_0]
      have ei := sp_in_0_1 (Ls := Ls) (xs := xs) (I := am_up2 I1 48 0 1) (J := J) (nI 0)
      rw [ei, Option.bind_some, am_k_v, b_X9_keep_7, if_pos (show am_b (rgI 0 1 (nI 0)) ≠ 0 by decide)]
      exact e2
  · subst h
    obtain ⟨I1, e1, F1, P1, C1, f4, f5, f6⟩ := sx_cp_43_33 (Ls := Ls) (xs := xs) (I := I) (J := J)
    have FX : ∀ q k, (q < 43 ∨ 47 < q ∨ (q = 43 ∧ k < 4)) ∧ (q ≠ 48 ∨ k ≠ 1) → am_up2 I1 48 1 1 q k = I q k := fun q k h => by rw [up_ne (by omega)]; exact F1 q k h.1
    have M1 : InM g r (am_up2 I1 48 1 1) := inm_x (fun q k h => FX q k (by omega)) ⟨M, MQ, C⟩
    obtain ⟨I2, e2, F2, G2, K2⟩ := sp_keep (Ls := Ls) (xs := xs) (J := J) M1.1 B 1 70 (by omega) rfl
    have XX : RX g (am_up2 I1 48 1 1) := rx_cong B (fun q k h => FX q k (by unfold xS at h; omega)) X
    have XI1 : XI (gP g) g.2 43 (am_up2 I1 48 1 1) := by
      have ge := xi_of X
      refine ⟨fun p hp => ?_, fun c hc => ?_, ?_, ?_, ?_⟩
      · rw [up_ne (by omega), up_ne (by omega), up_ne (by omega), (P1 p (by omega)).1, (P1 p (by omega)).2.1, (P1 p (by omega)).2.2]; exact ge.1 p hp
      · rw [up_ne (by omega), C1 c hc]; exact ge.2.1 c hc
      · rw [up_ne (by omega), f4]; exact ge.2.2.1
      · rw [up_ne (by omega), f5]; exact ge.2.2.2.1
      · rw [up_ne (by omega), f6]; exact ge.2.2.2.2
    have XQ1 : QX g (rK1 r g.2) (am_up2 I1 48 1 1) := qx_k1 (fun q k h => FX q k (by omega)) up_eq XI1 XQ
    have X2 : InX g (rK1 r g.2) I2 J := inx_m B (fun q k h => F2 q k (by omega)) (fun _ => rfl) ⟨XX, XQ1, D⟩
    have M2 : InM g (rK1 r g.2) I2 := ⟨rm_cong (fun q k h => F2 q k (by unfold mS at h; omega)) M1.1, qm_k1 hP (fun q k h => F2 q k (by unfold mQ at h; omega)) G2 K2 M1.2.1, m0_cong (fun q k h => F2 q k (by unfold m4 at h; omega)) M1.2.2⟩
    refine ⟨1, am_up2 I1 48 1 1, J, I2, J, ?_, ?_, ⟨g, rK1 r g.2, S, bq_k1 S Q, X2, M2⟩⟩
    · rw [b_X8_keep_0, if_neg (show ¬ nI 1 < 0 by decide), if_pos (show nI 1 < 2 by decide), b_X8_imageOf_0, if_pos (show nI 1 ≠ 0 by decide), b_X8_imageOf_15, Option.bind_some, am_k_v, b_X8_keep_17_2, e1, Option.bind_some, am_k_n, b_X8_keep_24, if_pos (show ¬ (nI 1 < 0 ∨ 2 ≤ Int32.toNatClampNeg (nI 1)) by decide)]
      rfl
    · rw [b_X9_keep_0]
      have ei := sp_in_0_1 (Ls := Ls) (xs := xs) (I := am_up2 I1 48 1 1) (J := J) (nI 1)
      rw [ei, Option.bind_some, am_k_v, b_X9_keep_7, if_pos (show am_b (rgI 0 1 (nI 1)) ≠ 0 by decide)]
      exact e2
  · refine stp_pure H (v := -1000000001) ?_ ?_
    · rw [b_X8_keep_0]
      rcases h2 with q | q
      · rw [if_pos q, b_X8_keep_9]
      · by_cases z : a < 0
        · rw [if_pos z, b_X8_keep_9]
        · rw [if_neg z, if_neg q, b_X8_keep_9]
    · rw [b_X9_keep_0, sp_in_0_1, h, Option.bind_some, am_k_v, b_X9_keep_7, if_neg (show ¬ am_b false ≠ 0 by decide)]
theorem pu_goBack (H : Inv I J) (a : Int32) : StpC Ls xs 103 74 [(0, .ref 0), (1, .int a)] [(0, .ref 81), (1, .int a)] I J := by
  obtain ⟨g, r, S, Q, ⟨X, XQ, D⟩, ⟨M, MQ, C⟩⟩ := id H
  have B := S.1
  have b1 := bg_1 B
  have hP : gP g ≤ 6 := b1.2.2.2.2.1
  rcases rg2_or a with h | h | ⟨h, h2⟩
  · subst h
    obtain ⟨c1, c2⟩ := XQ.2.2.2.2.2.1
    obtain ⟨m1, m2⟩ := MQ.2.2.2.2.2.1
    have hk : k0 r ≤ 1 := Q.1.2.2.2.2.2.1
    by_cases h0 : k0 r = 0
    · refine stp_pure H (v := -1000000003) ?_ ?_
      · rw [b_X8_goBack_0, if_neg (show ¬ nI 0 < 0 by decide), if_pos (show nI 0 < 2 by decide), if_pos (show ¬ (nI 0 < 0 ∨ 2 ≤ Int32.toNatClampNeg (nI 0)) by decide), if_neg (show ¬ I 48 (Int32.toNatClampNeg (nI 0)) ≠ 0 from fun z => z (by rw [show Int32.toNatClampNeg (nI 0) = 0 by decide, c1, h0]; rfl))]
      · rw [b_X9_goBack_0, sp_in_0_1, Option.bind_some, am_k_v, b_X9_goBack_7, if_pos (show am_b (rgI 0 1 (nI 0)) ≠ 0 by decide), if_pos (show ¬ (nI 0 < 0 ∨ 2 ≤ Int32.toNatClampNeg (nI 0)) by decide), if_neg (show ¬ I 114 (Int32.toNatClampNeg (nI 0)) ≠ 0 from fun z => z (by rw [show Int32.toNatClampNeg (nI 0) = 0 by decide, m1, h0]; rfl))]
    · have h1 : k0 r = 1 := by omega
      have S' : BS (g.1, i0 r) := Q.2.2.2.2.2.1 h1
      have XI0 := XQ.2.2.2.2.2.2.1 h1
      have MI0 := MQ.2.2.2.2.2.2.1 h1
      obtain ⟨I1, e1, F1, P1, C1, f4, f5, f6⟩ := sx_cp_33_38 (Ls := Ls) (xs := xs) (I := I) (J := J)
      have X1 : RX (g.1, i0 r) I1 := rx_back X B (fun q k h => F1 q k (by omega)) (fun p hp => by
        have := P1 p (by omega)
        rw [this.1, this.2.1, this.2.2]; exact XI0.1 p hp) (fun c hc => (C1 c hc).trans (XI0.2.1 c hc)) ⟨f4.trans XI0.2.2.1, f5.trans XI0.2.2.2.1, f6.trans XI0.2.2.2.2⟩
      have hd := sx_darken (Ls := Ls) (xs := xs) (J := J) X1 S'.1
      have M1 : InM g r I1 := inm_x (fun q k h => F1 q k (by omega)) ⟨M, MQ, C⟩
      obtain ⟨I2, e2, F2, M2⟩ := sp_back (Ls := Ls) (xs := xs) (J := wri J 62 (gN (g.1, i0 r)) (dk (g.1, i0 r))) (s := i0 r) M1.1 B S'.1 0 (by omega) (M1.2.1.2.2.2.2.2.2.1 h1)
      have XQ1 : QX (g.1, i0 r) r I1 := qx_of rfl (qx_cong (fun q k h => F1 q k (by unfold xQ at h; omega)) XQ)
      have X2 : InX (g.1, i0 r) r I2 (wri J 62 (gN (g.1, i0 r)) (dk (g.1, i0 r))) := inx_m S'.1 (fun q k h => F2 q k (by omega)) (fun _ => rfl) ⟨X1, XQ1, fun h hh => wr_in hh⟩
      have MQ2 : QM (g.1, i0 r) r I2 := qm_of rfl (qm_cong (fun q k h => F2 q k (by unfold mQ at h; omega)) M1.2.1)
      refine ⟨1, I1, wri J 62 (gN (g.1, i0 r)) (dk (g.1, i0 r)), I2, wri J 62 (gN (g.1, i0 r)) (dk (g.1, i0 r)), ?_, ?_, ⟨(g.1, i0 r), r, S', bq_of rfl Q, X2, ⟨M2, MQ2, m0_cong (fun q k h => F2 q k (by unfold m4 at h; omega)) M1.2.2⟩⟩⟩
      · rw [b_X8_goBack_0, if_neg (show ¬ nI 0 < 0 by decide), if_pos (show nI 0 < 2 by decide), if_pos (show ¬ (nI 0 < 0 ∨ 2 ≤ Int32.toNatClampNeg (nI 0)) by decide), if_pos (show I 48 (Int32.toNatClampNeg (nI 0)) ≠ 0 from fun z => by rw [show Int32.toNatClampNeg (nI 0) = 0 by decide, c1, h1] at z; exact absurd z (by decide)), b_X8_imageOf_0, if_neg (show ¬ nI 0 ≠ 0 by decide), b_X8_imageOf_15_2, Option.bind_some, am_k_v, b_X8_goBack_33, e1, Option.bind_some, am_k_n, b_X8_goBack_36, hd, Option.bind_some, am_k_n, b_X8_goBack_43]
      · have ei := sp_in_0_1 (Ls := Ls) (xs := xs) (I := I1) (J := wri J 62 (gN (g.1, i0 r)) (dk (g.1, i0 r))) (nI 0)
        rw [b_X9_goBack_0, ei, Option.bind_some, am_k_v, b_X9_goBack_7, if_pos (show am_b (rgI 0 1 (nI 0)) ≠ 0 by decide), if_pos (show ¬ (nI 0 < 0 ∨ 2 ≤ Int32.toNatClampNeg (nI 0)) by decide), if_pos (show I1 114 (Int32.toNatClampNeg (nI 0)) ≠ 0 from fun z => by rw [show Int32.toNatClampNeg (nI 0) = 0 by decide, F1 114 0 (by omega), m1, h1] at z; exact absurd z (by decide))]
        exact e2
  · subst h
    obtain ⟨c1, c2⟩ := XQ.2.2.2.2.2.1
    obtain ⟨m1, m2⟩ := MQ.2.2.2.2.2.1
    have hk : k1 r ≤ 1 := Q.1.2.2.2.2.2.2
    by_cases h0 : k1 r = 0
    · refine stp_pure H (v := -1000000003) ?_ ?_
      · rw [b_X8_goBack_0, if_neg (show ¬ nI 1 < 0 by decide), if_pos (show nI 1 < 2 by decide), if_pos (show ¬ (nI 1 < 0 ∨ 2 ≤ Int32.toNatClampNeg (nI 1)) by decide), if_neg (show ¬ I 48 (Int32.toNatClampNeg (nI 1)) ≠ 0 from fun z => z (by rw [show Int32.toNatClampNeg (nI 1) = 1 by decide, c2, h0]; rfl))]
      · rw [b_X9_goBack_0, sp_in_0_1, Option.bind_some, am_k_v, b_X9_goBack_7, if_pos (show am_b (rgI 0 1 (nI 1)) ≠ 0 by decide), if_pos (show ¬ (nI 1 < 0 ∨ 2 ≤ Int32.toNatClampNeg (nI 1)) by decide), if_neg (show ¬ I 114 (Int32.toNatClampNeg (nI 1)) ≠ 0 from fun z => z (by rw [show Int32.toNatClampNeg (nI 1) = 1 by decide, m2, h0]; rfl))]
    · have h1 : k1 r = 1 := by omega
      have S' : BS (g.1, i1 r) := Q.2.2.2.2.2.2 h1
      have XI0 := XQ.2.2.2.2.2.2.2 h1
      have MI0 := MQ.2.2.2.2.2.2.2 h1
      obtain ⟨I1, e1, F1, P1, C1, f4, f5, f6⟩ := sx_cp_33_43 (Ls := Ls) (xs := xs) (I := I) (J := J)
      have X1 : RX (g.1, i1 r) I1 := rx_back X B (fun q k h => F1 q k (by omega)) (fun p hp => by
        have := P1 p (by omega)
        rw [this.1, this.2.1, this.2.2]; exact XI0.1 p hp) (fun c hc => (C1 c hc).trans (XI0.2.1 c hc)) ⟨f4.trans XI0.2.2.1, f5.trans XI0.2.2.2.1, f6.trans XI0.2.2.2.2⟩
      have hd := sx_darken (Ls := Ls) (xs := xs) (J := J) X1 S'.1
      have M1 : InM g r I1 := inm_x (fun q k h => F1 q k (by omega)) ⟨M, MQ, C⟩
      obtain ⟨I2, e2, F2, M2⟩ := sp_back (Ls := Ls) (xs := xs) (J := wri J 62 (gN (g.1, i1 r)) (dk (g.1, i1 r))) (s := i1 r) M1.1 B S'.1 70 (by omega) (M1.2.1.2.2.2.2.2.2.2 h1)
      have XQ1 : QX (g.1, i1 r) r I1 := qx_of rfl (qx_cong (fun q k h => F1 q k (by unfold xQ at h; omega)) XQ)
      have X2 : InX (g.1, i1 r) r I2 (wri J 62 (gN (g.1, i1 r)) (dk (g.1, i1 r))) := inx_m S'.1 (fun q k h => F2 q k (by omega)) (fun _ => rfl) ⟨X1, XQ1, fun h hh => wr_in hh⟩
      have MQ2 : QM (g.1, i1 r) r I2 := qm_of rfl (qm_cong (fun q k h => F2 q k (by unfold mQ at h; omega)) M1.2.1)
      refine ⟨1, I1, wri J 62 (gN (g.1, i1 r)) (dk (g.1, i1 r)), I2, wri J 62 (gN (g.1, i1 r)) (dk (g.1, i1 r)), ?_, ?_, ⟨(g.1, i1 r), r, S', bq_of rfl Q, X2, ⟨M2, MQ2, m0_cong (fun q k h => F2 q k (by unfold m4 at h; omega)) M1.2.2⟩⟩⟩
      · rw [b_X8_goBack_0, if_neg (show ¬ nI 1 < 0 by decide), if_pos (show nI 1 < 2 by decide), if_pos (show ¬ (nI 1 < 0 ∨ 2 ≤ Int32.toNatClampNeg (nI 1)) by decide), if_pos (show I 48 (Int32.toNatClampNeg (nI 1)) ≠ 0 from fun z => by rw [show Int32.toNatClampNeg (nI 1) = 1 by decide, c2, h1] at z; exact absurd z (by decide)), b_X8_imageOf_0, if_pos (show nI 1 ≠ 0 by decide), b_X8_imageOf_15, Option.bind_some, am_k_v, b_X8_goBack_33_2, e1, Option.bind_some, am_k_n, b_X8_goBack_36, hd, Option.bind_some, am_k_n, b_X8_goBack_43]
      · have ei := sp_in_0_1 (Ls := Ls) (xs := xs) (I := I1) (J := wri J 62 (gN (g.1, i1 r)) (dk (g.1, i1 r))) (nI 1)
        rw [b_X9_goBack_0, ei, Option.bind_some, am_k_v, b_X9_goBack_7, if_pos (show am_b (rgI 0 1 (nI 1)) ≠ 0 by decide), if_pos (show ¬ (nI 1 < 0 ∨ 2 ≤ Int32.toNatClampNeg (nI 1)) by decide), if_pos (show I1 114 (Int32.toNatClampNeg (nI 1)) ≠ 0 from fun z => by rw [show Int32.toNatClampNeg (nI 1) = 1 by decide, F1 114 1 (by omega), m2, h1] at z; exact absurd z (by decide))]
        exact e2
  · refine stp_pure H (v := -1000000001) ?_ ?_
    · rw [b_X8_goBack_0]
      rcases h2 with q | q
      · rw [if_pos q, b_X8_goBack_9]
      · by_cases z : a < 0
        · rw [if_pos z, b_X8_goBack_9]
        · rw [if_neg z, if_neg q, b_X8_goBack_9]
    · rw [b_X9_goBack_0, sp_in_0_1, h, Option.bind_some, am_k_v, b_X9_goBack_7, if_neg (show ¬ am_b false ≠ 0 by decide)]
end
