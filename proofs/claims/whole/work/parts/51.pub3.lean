/-! BUILD; WHAT IS WRITTEN DOWN -/
def rErr (r : Vr) (p c h : Nat) : Vr := (r.1, (eN r + 1, fset (eP r) (eN r) p, fset (eC r) (eN r) c, fset (eH r) (eN r) h), r.2.2)
def rTel (r : Vr) (h s : Nat) : Vr := (r.1, r.2.1, (tN r + 1, fset (tH r) (tN r) h, fset (tS r) (tN r) s), r.2.2.2)
def rBok (r : Vr) (p h s : Nat) : Vr := (r.1, r.2.1, r.2.2.1, (bN r + 1, fset (bP r) (bN r) p, fset (bH r) (bN r) h, fset (bS r) (bN r) s), r.2.2.2.2)
def rTear (r : Vr) : Vr := (r.1, (0, r.2.1.2), (0, r.2.2.1.2), (0, r.2.2.2.1.2), r.2.2.2.2)
theorem fset_i {f : Nat → Nat} {n x k : Nat} {i : Int32} (hk : k < n + 1) (h1 : k = n → i = nI x) (h2 : k < n → i = nI (f k)) : i = nI (fset f n x k) := by
  by_cases e : k = n
  · rw [e, fset_eq]; exact h1 e
  · rw [fset_ne e]; exact h2 (by omega)
theorem fset_p {f : Nat → Nat} {n x k : Nat} {P : Nat → Prop} (hk : k < n + 1) (h1 : P x) (h2 : k < n → P (f k)) : P (fset f n x k) := by
  by_cases e : k = n
  · rw [e, fset_eq]; exact h1
  · rw [fset_ne e]; exact h2 (by omega)
section
variable {Ls : Nat} {xs : Nat → Int32} {g : Vg} {r : Vr} {I I' : Nat → Nat → Int32} {J : Nat → Nat → Int64}
theorem qx_err {n p c h : Nat} (R : QX g r I) (hn : n = eN r) (e : ∀ q k, (q ≠ 49 ∧ q ≠ 50 ∧ q ≠ 51 ∧ q ≠ 52) ∨ ((q = 50 ∨ q = 51 ∨ q = 52) ∧ k < n) → I' q k = I q k) (e1 : I' 50 n = nI p) (e2 : I' 51 n = nI c) (e3 : I' 52 n = nI h) (e4 : I' 49 3 = nI (n + 1)) : QX g (rErr r p c h) I' := by
  subst hn
  obtain ⟨⟨a1, a2, a3, a4, a5, a6, a7⟩, b1, b2, b3, b4, ⟨c1, c2⟩, d1, d2⟩ := R
  refine ⟨⟨(e _ _ (by omega)).trans a1, (e _ _ (by omega)).trans a2, (e _ _ (by omega)).trans a3, e4, (e _ _ (by omega)).trans a5, (e _ _ (by omega)).trans a6, (e _ _ (by omega)).trans a7⟩, fun k hk => (e _ _ (by omega)).trans (b1 k hk), fun k hk => ⟨fset_i hk (fun q => by rw [q]; exact e1) (fun q => (e _ _ (by omega)).trans (b2 k q).1), fset_i hk (fun q => by rw [q]; exact e2) (fun q => (e _ _ (by omega)).trans (b2 k q).2.1), fset_i hk (fun q => by rw [q]; exact e3) (fun q => (e _ _ (by omega)).trans (b2 k q).2.2)⟩, fun k hk => ⟨(e _ _ (by omega)).trans (b3 k hk).1, (e _ _ (by omega)).trans (b3 k hk).2⟩, fun k hk => ⟨(e _ _ (by omega)).trans (b4 k hk).1, (e _ _ (by omega)).trans (b4 k hk).2.1, (e _ _ (by omega)).trans (b4 k hk).2.2⟩, ⟨(e _ _ (by omega)).trans c1, (e _ _ (by omega)).trans c2⟩, fun q => xi_c2 (fun q k _ _ => e _ _ (by omega)) (Or.inl rfl) (d1 q), fun q => xi_c2 (fun q k _ _ => e _ _ (by omega)) (Or.inr rfl) (d2 q)⟩
theorem qm_err {n p c h : Nat} (R : QM g r I) (hn : n = eN r) (e : ∀ q k, (q ≠ 81 ∧ q ≠ 100 ∧ q ≠ 101 ∧ q ≠ 102) ∨ (q = 81 ∧ k ≠ 43) ∨ ((q = 100 ∨ q = 101 ∨ q = 102) ∧ k < n) → I' q k = I q k) (e1 : I' 100 n = nI p) (e2 : I' 101 n = nI c) (e3 : I' 102 n = nI h) (e4 : I' 81 43 = nI (n + 1)) : QM g (rErr r p c h) I' := by
  subst hn
  obtain ⟨⟨a1, a2, a3, a4, a5, a6⟩, b1, b2, b3, b4, ⟨c1, c2⟩, d1, d2⟩ := R
  refine ⟨⟨(e _ _ (by omega)).trans a1, (e _ _ (by omega)).trans a2, (e _ _ (by omega)).trans a3, e4, (e _ _ (by omega)).trans a5, (e _ _ (by omega)).trans a6⟩, fun k hk => (e _ _ (by omega)).trans (b1 k hk), fun k hk => ⟨fset_i hk (fun q => by rw [q]; exact e1) (fun q => (e _ _ (by omega)).trans (b2 k q).1), fset_i hk (fun q => by rw [q]; exact e2) (fun q => (e _ _ (by omega)).trans (b2 k q).2.1), fset_i hk (fun q => by rw [q]; exact e3) (fun q => (e _ _ (by omega)).trans (b2 k q).2.2)⟩, fun k hk => ⟨(e _ _ (by omega)).trans (b3 k hk).1, (e _ _ (by omega)).trans (b3 k hk).2⟩, fun k hk => ⟨(e _ _ (by omega)).trans (b4 k hk).1, (e _ _ (by omega)).trans (b4 k hk).2.1, (e _ _ (by omega)).trans (b4 k hk).2.2⟩, ⟨(e _ _ (by omega)).trans c1, (e _ _ (by omega)).trans c2⟩, fun q => mi_c2 (fun k => e _ _ (by omega)) (d1 q), fun q => mi_c2 (fun k => e _ _ (by omega)) (d2 q)⟩
theorem qx_tel {n h s : Nat} (R : QX g r I) (hn : n = tN r) (e : ∀ q k, (q ≠ 53 ∧ q ≠ 54 ∧ q ≠ 55 ∧ q ≠ 56) ∨ ((q = 55 ∨ q = 56) ∧ k < n) → I' q k = I q k) (e1 : I' 55 n = nI h) (e2 : I' 56 n = nI s) (e4 : I' 53 3 = nI (n + 1)) : QX g (rTel r h s) I' := by
  subst hn
  obtain ⟨⟨a1, a2, a3, a4, a5, a6, a7⟩, b1, b2, b3, b4, ⟨c1, c2⟩, d1, d2⟩ := R
  refine ⟨⟨(e _ _ (by omega)).trans a1, (e _ _ (by omega)).trans a2, (e _ _ (by omega)).trans a3, (e _ _ (by omega)).trans a4, e4, (e _ _ (by omega)).trans a6, (e _ _ (by omega)).trans a7⟩, fun k hk => (e _ _ (by omega)).trans (b1 k hk), fun k hk => ⟨(e _ _ (by omega)).trans (b2 k hk).1, (e _ _ (by omega)).trans (b2 k hk).2.1, (e _ _ (by omega)).trans (b2 k hk).2.2⟩, fun k hk => ⟨fset_i hk (fun q => by rw [q]; exact e1) (fun q => (e _ _ (by omega)).trans (b3 k q).1), fset_i hk (fun q => by rw [q]; exact e2) (fun q => (e _ _ (by omega)).trans (b3 k q).2)⟩, fun k hk => ⟨(e _ _ (by omega)).trans (b4 k hk).1, (e _ _ (by omega)).trans (b4 k hk).2.1, (e _ _ (by omega)).trans (b4 k hk).2.2⟩, ⟨(e _ _ (by omega)).trans c1, (e _ _ (by omega)).trans c2⟩, fun q => xi_c2 (fun q k _ _ => e _ _ (by omega)) (Or.inl rfl) (d1 q), fun q => xi_c2 (fun q k _ _ => e _ _ (by omega)) (Or.inr rfl) (d2 q)⟩
theorem qm_tel {n h s : Nat} (R : QM g r I) (hn : n = tN r) (e : ∀ q k, (q ≠ 81 ∧ q ≠ 108 ∧ q ≠ 109) ∨ (q = 81 ∧ k ≠ 52) ∨ ((q = 108 ∨ q = 109) ∧ k < n) → I' q k = I q k) (e1 : I' 108 n = nI h) (e2 : I' 109 n = nI s) (e4 : I' 81 52 = nI (n + 1)) : QM g (rTel r h s) I' := by
  subst hn
  obtain ⟨⟨a1, a2, a3, a4, a5, a6⟩, b1, b2, b3, b4, ⟨c1, c2⟩, d1, d2⟩ := R
  refine ⟨⟨(e _ _ (by omega)).trans a1, (e _ _ (by omega)).trans a2, (e _ _ (by omega)).trans a3, (e _ _ (by omega)).trans a4, e4, (e _ _ (by omega)).trans a6⟩, fun k hk => (e _ _ (by omega)).trans (b1 k hk), fun k hk => ⟨(e _ _ (by omega)).trans (b2 k hk).1, (e _ _ (by omega)).trans (b2 k hk).2.1, (e _ _ (by omega)).trans (b2 k hk).2.2⟩, fun k hk => ⟨fset_i hk (fun q => by rw [q]; exact e1) (fun q => (e _ _ (by omega)).trans (b3 k q).1), fset_i hk (fun q => by rw [q]; exact e2) (fun q => (e _ _ (by omega)).trans (b3 k q).2)⟩, fun k hk => ⟨(e _ _ (by omega)).trans (b4 k hk).1, (e _ _ (by omega)).trans (b4 k hk).2.1, (e _ _ (by omega)).trans (b4 k hk).2.2⟩, ⟨(e _ _ (by omega)).trans c1, (e _ _ (by omega)).trans c2⟩, fun q => mi_c2 (fun k => e _ _ (by omega)) (d1 q), fun q => mi_c2 (fun k => e _ _ (by omega)) (d2 q)⟩
theorem qx_bok {n p h s : Nat} (R : QX g r I) (hn : n = bN r) (e : ∀ q k, (q ≠ 57 ∧ q ≠ 58 ∧ q ≠ 59 ∧ q ≠ 60) ∨ ((q = 58 ∨ q = 59 ∨ q = 60) ∧ k < n) → I' q k = I q k) (e1 : I' 58 n = nI p) (e2 : I' 59 n = nI h) (e3 : I' 60 n = nI s) (e4 : I' 57 3 = nI (n + 1)) : QX g (rBok r p h s) I' := by
  subst hn
  obtain ⟨⟨a1, a2, a3, a4, a5, a6, a7⟩, b1, b2, b3, b4, ⟨c1, c2⟩, d1, d2⟩ := R
  refine ⟨⟨(e _ _ (by omega)).trans a1, (e _ _ (by omega)).trans a2, (e _ _ (by omega)).trans a3, (e _ _ (by omega)).trans a4, (e _ _ (by omega)).trans a5, e4, (e _ _ (by omega)).trans a7⟩, fun k hk => (e _ _ (by omega)).trans (b1 k hk), fun k hk => ⟨(e _ _ (by omega)).trans (b2 k hk).1, (e _ _ (by omega)).trans (b2 k hk).2.1, (e _ _ (by omega)).trans (b2 k hk).2.2⟩, fun k hk => ⟨(e _ _ (by omega)).trans (b3 k hk).1, (e _ _ (by omega)).trans (b3 k hk).2⟩, fun k hk => ⟨fset_i hk (fun q => by rw [q]; exact e1) (fun q => (e _ _ (by omega)).trans (b4 k q).1), fset_i hk (fun q => by rw [q]; exact e2) (fun q => (e _ _ (by omega)).trans (b4 k q).2.1), fset_i hk (fun q => by rw [q]; exact e3) (fun q => (e _ _ (by omega)).trans (b4 k q).2.2)⟩, ⟨(e _ _ (by omega)).trans c1, (e _ _ (by omega)).trans c2⟩, fun q => xi_c2 (fun q k _ _ => e _ _ (by omega)) (Or.inl rfl) (d1 q), fun q => xi_c2 (fun q k _ _ => e _ _ (by omega)) (Or.inr rfl) (d2 q)⟩
theorem qm_bok {n p h s : Nat} (R : QM g r I) (hn : n = bN r) (e : ∀ q k, (q ≠ 81 ∧ q ≠ 110 ∧ q ≠ 111 ∧ q ≠ 112) ∨ (q = 81 ∧ k ≠ 55) ∨ ((q = 110 ∨ q = 111 ∨ q = 112) ∧ k < n) → I' q k = I q k) (e1 : I' 111 n = nI p) (e2 : I' 110 n = nI h) (e3 : I' 112 n = nI s) (e4 : I' 81 55 = nI (n + 1)) : QM g (rBok r p h s) I' := by
  subst hn
  obtain ⟨⟨a1, a2, a3, a4, a5, a6⟩, b1, b2, b3, b4, ⟨c1, c2⟩, d1, d2⟩ := R
  refine ⟨⟨(e _ _ (by omega)).trans a1, (e _ _ (by omega)).trans a2, (e _ _ (by omega)).trans a3, (e _ _ (by omega)).trans a4, (e _ _ (by omega)).trans a5, e4⟩, fun k hk => (e _ _ (by omega)).trans (b1 k hk), fun k hk => ⟨(e _ _ (by omega)).trans (b2 k hk).1, (e _ _ (by omega)).trans (b2 k hk).2.1, (e _ _ (by omega)).trans (b2 k hk).2.2⟩, fun k hk => ⟨(e _ _ (by omega)).trans (b3 k hk).1, (e _ _ (by omega)).trans (b3 k hk).2⟩, fun k hk => ⟨fset_i hk (fun q => by rw [q]; exact e1) (fun q => (e _ _ (by omega)).trans (b4 k q).1), fset_i hk (fun q => by rw [q]; exact e2) (fun q => (e _ _ (by omega)).trans (b4 k q).2.1), fset_i hk (fun q => by rw [q]; exact e3) (fun q => (e _ _ (by omega)).trans (b4 k q).2.2)⟩, ⟨(e _ _ (by omega)).trans c1, (e _ _ (by omega)).trans c2⟩, fun q => mi_c2 (fun k => e _ _ (by omega)) (d1 q), fun q => mi_c2 (fun k => e _ _ (by omega)) (d2 q)⟩
theorem qx_tear (R : QX g r I) : QX g (rTear r) (am_up2 (am_up2 (am_up2 I 49 3 0) 53 3 0) 57 3 0) := by
  obtain ⟨⟨a1, a2, a3, a4, a5, a6, a7⟩, b1, b2, b3, b4, ⟨c1, c2⟩, d1, d2⟩ := R
  have e : ∀ q k, (q ≠ 49 ∧ q ≠ 53 ∧ q ≠ 57) → am_up2 (am_up2 (am_up2 I 49 3 0) 53 3 0) 57 3 0 q k = I q k := fun q k h => by
    rw [up_ne (by omega), up_ne (by omega), up_ne (by omega)]
  refine ⟨⟨(e _ _ (by omega)).trans a1, (e _ _ (by omega)).trans a2, (e _ _ (by omega)).trans a3, ?_, ?_, up_eq, (e _ _ (by omega)).trans a7⟩, fun k hk => (e _ _ (by omega)).trans (b1 k hk), fun k hk => absurd hk (Nat.not_lt_zero k), fun k hk => absurd hk (Nat.not_lt_zero k), fun k hk => absurd hk (Nat.not_lt_zero k), ⟨(e _ _ (by omega)).trans c1, (e _ _ (by omega)).trans c2⟩, fun q => xi_c2 (fun q k _ _ => e _ _ (by omega)) (Or.inl rfl) (d1 q), fun q => xi_c2 (fun q k _ _ => e _ _ (by omega)) (Or.inr rfl) (d2 q)⟩
  · rw [up_ne (by omega), up_ne (by omega), up_eq]; rfl
  · rw [up_ne (by omega), up_eq]; rfl
theorem qm_tear (R : QM g r I) : QM g (rTear r) (am_up2 (am_up2 (am_up2 I 81 55 0) 81 52 0) 81 43 0) := by
  obtain ⟨⟨a1, a2, a3, a4, a5, a6⟩, b1, b2, b3, b4, ⟨c1, c2⟩, d1, d2⟩ := R
  have e : ∀ q k, (q ≠ 81 ∨ (k ≠ 55 ∧ k ≠ 52 ∧ k ≠ 43)) → am_up2 (am_up2 (am_up2 I 81 55 0) 81 52 0) 81 43 0 q k = I q k := fun q k h => by
    rw [up_ne (by omega), up_ne (by omega), up_ne (by omega)]
  refine ⟨⟨(e _ _ (by omega)).trans a1, (e _ _ (by omega)).trans a2, (e _ _ (by omega)).trans a3, up_eq, ?_, ?_⟩, fun k hk => (e _ _ (by omega)).trans (b1 k hk), fun k hk => absurd hk (Nat.not_lt_zero k), fun k hk => absurd hk (Nat.not_lt_zero k), fun k hk => absurd hk (Nat.not_lt_zero k), ⟨(e _ _ (by omega)).trans c1, (e _ _ (by omega)).trans c2⟩, fun q => mi_c2 (fun k => e _ _ (by omega)) (d1 q), fun q => mi_c2 (fun k => e _ _ (by omega)) (d2 q)⟩
  · rw [up_ne (by omega), up_eq]; rfl
  · rw [up_ne (by omega), up_ne (by omega), up_eq]; rfl
theorem bq_err {p c h : Nat} (Q : BQ g r) (hn : eN r < 10) (hp : p < gP g) (hc : c < gW g * gD g) (hh : h < gN g) : BQ g (rErr r p c h) := by
  obtain ⟨⟨a1, a2, a3, a4, a5, a6, a7⟩, b1, b2, b3, b4, d⟩ := Q
  refine ⟨⟨a1, a2, hn, a4, a5, a6, a7⟩, b1, fun k hk => ⟨?_, ?_, ?_⟩, b3, b4, d⟩
  · exact fset_p (P := fun x => x < gP g) hk hp (fun q => (b2 k q).1)
  · exact fset_p (P := fun x => x < gW g * gD g) hk hc (fun q => (b2 k q).2.1)
  · exact fset_p (P := fun x => x < gN g) hk hh (fun q => (b2 k q).2.2)
theorem bq_tel {h s : Nat} (Q : BQ g r) (hn : tN r < 10) (hh : h < gN g) (hs : s ≤ 99) : BQ g (rTel r h s) := by
  obtain ⟨⟨a1, a2, a3, a4, a5, a6, a7⟩, b1, b2, b3, b4, d⟩ := Q
  refine ⟨⟨a1, a2, a3, hn, a5, a6, a7⟩, b1, b2, fun k hk => ⟨?_, ?_⟩, b4, d⟩
  · exact fset_p (P := fun x => x < gN g) hk hh (fun q => (b3 k q).1)
  · exact fset_p (P := fun x => x ≤ 99) hk hs (fun q => (b3 k q).2)
theorem bq_bok {p h s : Nat} (Q : BQ g r) (hn : bN r < 30) (hp : p < gP g) (hh : h < gN g) (hs : s ≤ 99) : BQ g (rBok r p h s) := by
  obtain ⟨⟨a1, a2, a3, a4, a5, a6, a7⟩, b1, b2, b3, b4, d⟩ := Q
  refine ⟨⟨a1, a2, a3, a4, hn, a6, a7⟩, b1, b2, b3, fun k hk => ⟨?_, ?_, ?_⟩, d⟩
  · exact fset_p (P := fun x => x < gP g) hk hp (fun q => (b4 k q).1)
  · exact fset_p (P := fun x => x < gN g) hk hh (fun q => (b4 k q).2.1)
  · exact fset_p (P := fun x => x ≤ 99) hk hs (fun q => (b4 k q).2.2)
theorem bq_tear (Q : BQ g r) : BQ g (rTear r) := by
  obtain ⟨⟨a1, a2, a3, a4, a5, a6, a7⟩, b1, b2, b3, b4, d⟩ := Q
  exact ⟨⟨a1, a2, Nat.zero_le _, Nat.zero_le _, Nat.zero_le _, a6, a7⟩, b1, fun k hk => absurd hk (Nat.not_lt_zero k), fun k hk => absurd hk (Nat.not_lt_zero k), fun k hk => absurd hk (Nat.not_lt_zero k), d⟩
theorem pu_tear (H : Inv I J) : StpC Ls xs 99 70 [(0, .ref 0)] [(0, .ref 81)] I J := by
  obtain ⟨g, r, S, Q, ⟨X, XQ, D⟩, ⟨M, MQ, C⟩⟩ := id H
  have B := S.1
  have X' : RX g (am_up2 (am_up2 (am_up2 I 49 3 0) 53 3 0) 57 3 0) := rx_up B (by unfold xS; omega) (rx_up B (by unfold xS; omega) (rx_up B (by unfold xS; omega) X))
  have XM : InM g r (am_up2 (am_up2 (am_up2 I 49 3 0) 53 3 0) 57 3 0) := inm_up (by omega) (inm_up (by omega) (inm_up (by omega) ⟨M, MQ, C⟩))
  have X2 : InX g (rTear r) (am_up2 (am_up2 (am_up2 (am_up2 (am_up2 (am_up2 I 49 3 0) 53 3 0) 57 3 0) 81 55 0) 81 52 0) 81 43 0) J := inx_up B (by omega) (inx_up B (by omega) (inx_up B (by omega) ⟨X', qx_tear XQ, D⟩))
  refine ⟨nI (eN r + tN r + bN r), am_up2 (am_up2 (am_up2 I 49 3 0) 53 3 0) 57 3 0, J, _, J, ?_, ?_, ⟨g, rTear r, S, bq_tear Q, X2, ⟨rm_up (by unfold mS; omega) (rm_up (by unfold mS; omega) (rm_up (by unfold mS; omega) XM.1)), qm_tear XM.2.1, m0_up (by unfold m4; omega) (m0_up (by unfold m4; omega) (m0_up (by unfold m4; omega) XM.2.2))⟩⟩⟩
  · simp (disch := omega) only [b_X8_tear_0, b_X8_tear_28, b_X8_clearNotes_0, b_X8_clearNotes_7, b_X8_clearNotes_14, b_X8_clearNotes_21, b_X4_clear_0, b_X4_clear_0_2, b_X4_clear_0_3, Option.bind_some, am_k_v, am_k_n, ↓n_in, nI_clamp, i_p1, nI_leI, nI_ltI, nI_eq, n_lt0, n_le0, n_eq0, n_gt0, n_lm, n_em, n_me, n_mlt, false_or, or_false, true_or, or_true, false_and, and_false, true_and, and_true, not_false_eq_true, not_true_eq_false, if_true, if_false, if_pos, if_neg, am_b01, am_b0, am_b1, ne_eq, eq_self, reduceCtorEq, rng_t, Bool.and_true, Bool.and_false, Bool.true_and, Bool.false_and, ite_rgI, if_pos rfl, XQ.1.2.2.2.1, XQ.1.2.2.2.2.1, XQ.1.2.2.2.2.2.1, nI_add]
  · rw [b_X9_tear_0, XM.2.1.1.2.2.2.1, XM.2.1.1.2.2.2.2.1, XM.2.1.1.2.2.2.2.2, nI_add, nI_add]
    rw [show bN r + tN r + eN r = eN r + tN r + bN r by omega]
theorem pu_errand (H : Inv I J) (p x y h : Int32) : StpC Ls xs 89 53 [(0, .ref 0), (1, .int p), (2, .int x), (3, .int y), (4, .int h)] [(0, .ref 81), (1, .int p), (2, .int x), (3, .int y), (4, .int h)] I J := by
  obtain ⟨g, r, S, Q, ⟨X, XQ, D⟩, ⟨M, MQ, C⟩⟩ := id H
  have B := S.1
  have b1 := bg_1 B
  have q1 := Q.1
  rcases rng_or (gP g) (by omega) p with ⟨p, hp, rfl⟩ | hp
  · by_cases hxy : rng (gW g) x = false ∨ rng (gD g) y = false
    · refine stp_pure H (v := -1000000001) ?_ ?_
      · simp (disch := omega) only [b_X8_errand_0, b_X8_errand_9, b_X8_errand_19, b_X8_errand_40, Option.bind_some, am_k_v, am_k_n, ↓n_in, nI_clamp, i_p1, nI_leI, nI_ltI, nI_eq, n_lt0, n_le0, n_eq0, n_gt0, n_lm, n_em, n_me, n_mlt, false_or, or_false, true_or, or_true, false_and, and_false, true_and, and_true, not_false_eq_true, not_true_eq_false, if_true, if_false, if_pos, if_neg, am_b01, am_b0, am_b1, ne_eq, eq_self, reduceCtorEq, rng_t, Bool.and_true, Bool.and_false, Bool.true_and, Bool.false_and, ite_rgI, if_pos rfl, sx_personA X, sx_cellAtF X B hxy]
      · have : (rng (gW g) x && rng (gD g) y) = false := by rcases hxy with q | q <;> rw [q] <;> simp
        simp (disch := omega) only [b_X9_errand_0, b_X9_errand_5, b_X9_errand_14, b_X9_errand_26, Option.bind_some, am_k_v, am_k_n, ↓n_in, nI_clamp, i_p1, nI_leI, nI_ltI, nI_eq, n_lt0, n_le0, n_eq0, n_gt0, n_lm, n_em, n_me, n_mlt, false_or, or_false, true_or, or_true, false_and, and_false, true_and, and_true, not_false_eq_true, not_true_eq_false, if_true, if_false, if_pos, if_neg, am_b01, am_b0, am_b1, ne_eq, eq_self, reduceCtorEq, rng_t, Bool.and_true, Bool.and_false, Bool.true_and, Bool.false_and, ite_rgI, if_pos rfl, sp_personA M B, sp_cellA M B, this]
    · rcases rng_or (gW g) (by omega) x with ⟨x, hx, rfl⟩ | hx
      · rcases rng_or (gD g) (by omega) y with ⟨y, hy, rfl⟩ | hy
        · have hc := cix_lt hx hy
          rcases rng_or (gN g) (by omega) h with ⟨h, hh, rfl⟩ | hh
          · by_cases hn : eN r < 10
            · generalize hI1 : am_up2 (am_up2 (am_up2 (am_up2 I 50 (eN r) (nI p)) 51 (eN r) (nI (cix g x y))) 52 (eN r) (nI h)) 49 3 (nI (eN r + 1)) = I1
              have u : ∀ q k, q ≠ 49 → q ≠ 50 → q ≠ 51 → q ≠ 52 → I1 q k = I q k := fun q k h1 h2 h3 h4 => by
                rw [← hI1, up_ne (by omega), up_ne (by omega), up_ne (by omega), up_ne (by omega)]
              have X1 : InX g (rErr r p (cix g x y) h) I1 J := by
                refine ⟨rx_cong B (fun q k hq => u q k (by unfold xS at hq; omega) (by unfold xS at hq; omega) (by unfold xS at hq; omega) (by unfold xS at hq; omega)) X, qx_err XQ rfl (fun q k hq => ?_) ?_ ?_ ?_ ?_, D⟩
                · rw [← hI1, up_ne (by omega), up_ne (by omega), up_ne (by omega), up_ne (by omega)]
                · rw [← hI1, up_ne (by omega), up_ne (by omega), up_ne (by omega), up_eq]
                · rw [← hI1, up_ne (by omega), up_ne (by omega), up_eq]
                · rw [← hI1, up_ne (by omega), up_eq]
                · rw [← hI1, up_eq]
              have M1 : InM g r I1 := inm_x (fun q k hq => u q k (by omega) (by omega) (by omega) (by omega)) ⟨M, MQ, C⟩
              obtain ⟨M1a, M1b, M1c⟩ := M1
              generalize hI2 : am_up2 (am_up2 (am_up2 (am_up2 I1 100 (eN r) (nI p)) 101 (eN r) (nI (cix g x y))) 102 (eN r) (nI h)) 81 43 (nI (eN r + 1)) = I2
              have M2 : InM g (rErr r p (cix g x y) h) I2 := by
                refine ⟨?_, qm_err M1b rfl (fun q k hq => ?_) ?_ ?_ ?_ ?_, ?_⟩
                · rw [← hI2]; exact rm_up (by unfold mS; omega) (rm_up (by unfold mS; omega) (rm_up (by unfold mS; omega) (rm_up (by unfold mS; omega) M1a)))
                · rw [← hI2, up_ne (by omega), up_ne (by omega), up_ne (by omega), up_ne (by omega)]
                · rw [← hI2, up_ne (by omega), up_ne (by omega), up_ne (by omega), up_eq]
                · rw [← hI2, up_ne (by omega), up_ne (by omega), up_eq]
                · rw [← hI2, up_ne (by omega), up_eq]
                · rw [← hI2, up_eq]
                · rw [← hI2]; exact m0_up (by unfold m4; omega) (m0_up (by unfold m4; omega) (m0_up (by unfold m4; omega) (m0_up (by unfold m4; omega) M1c)))
              have X2 : InX g (rErr r p (cix g x y) h) I2 J := inx_m B (fun q k hq => by rw [← hI2, up_ne (by omega), up_ne (by omega), up_ne (by omega), up_ne (by omega)]) (fun _ => rfl) X1
              refine ⟨nI (eN r + 1), I1, J, I2, J, ?_, ?_, ⟨g, rErr r p (cix g x y) h, S, bq_err Q hn hp hc hh, X2, M2⟩⟩
              · simp (disch := omega) only [b_X8_errand_0, b_X8_errand_9, b_X8_errand_19, b_X8_errand_37, b_X4_add_0_3, Option.bind_some, am_k_v, am_k_n, ↓n_in, nI_clamp, i_p1, nI_leI, nI_ltI, nI_eq, n_lt0, n_le0, n_eq0, n_gt0, n_lm, n_em, n_me, n_mlt, false_or, or_false, true_or, or_true, false_and, and_false, true_and, and_true, not_false_eq_true, not_true_eq_false, if_true, if_false, if_pos, if_neg, am_b01, am_b0, am_b1, ne_eq, eq_self, reduceCtorEq, rng_t, Bool.and_true, Bool.and_false, Bool.true_and, Bool.false_and, ite_rgI, if_pos rfl, sx_personA X, sx_hourA X, sx_cellAtT X B hx hy, XQ.1.2.2.2.1, show (10 : Int32) = nI 10 from rfl, nI_1, hI1]
                rw [b_X8_errand_55, if_neg (by decide), b_X8_errand_70, ← hI1, up_eq]
              · simp (disch := omega) only [b_X9_errand_0, b_X9_errand_5, b_X9_errand_26, b_X9_errand_14, b_X9_errand_23, Option.bind_some, am_k_v, am_k_n, ↓n_in, nI_clamp, i_p1, nI_leI, nI_ltI, nI_eq, n_lt0, n_le0, n_eq0, n_gt0, n_lm, n_em, n_me, n_mlt, false_or, or_false, true_or, or_true, false_and, and_false, true_and, and_true, not_false_eq_true, not_true_eq_false, if_true, if_false, if_pos, if_neg, am_b01, am_b0, am_b1, ne_eq, eq_self, reduceCtorEq, rng_t, Bool.and_true, Bool.and_false, Bool.true_and, Bool.false_and, ite_rgI, if_pos rfl, sp_personA M1a B, sp_hourA M1a B, sp_cellA M1a B, rm_W M1a, m_cix, M1b.1.2.2.2.1, show (10 : Int32) = nI 10 from rfl, nI_1, hI2]
                rw [← hI2, up_eq]
            · refine stp_pure H (v := -1000000004) ?_ ?_
              · simp (disch := omega) only [b_X8_errand_0, b_X8_errand_9, b_X8_errand_19, b_X8_errand_40, b_X8_errand_37, b_X8_errand_55, b_X8_errand_70, b_X4_add_0_3, Option.bind_some, am_k_v, am_k_n, ↓n_in, nI_clamp, i_p1, nI_leI, nI_ltI, nI_eq, n_lt0, n_le0, n_eq0, n_gt0, n_lm, n_em, n_me, n_mlt, false_or, or_false, true_or, or_true, false_and, and_false, true_and, and_true, not_false_eq_true, not_true_eq_false, if_true, if_false, if_pos, if_neg, am_b01, am_b0, am_b1, ne_eq, eq_self, reduceCtorEq, rng_t, Bool.and_true, Bool.and_false, Bool.true_and, Bool.false_and, ite_rgI, if_pos rfl, sx_personA X, sx_hourA X, sx_cellAtT X B hx hy, XQ.1.2.2.2.1, show (10 : Int32) = nI 10 from rfl]
              · simp (disch := omega) only [b_X9_errand_0, b_X9_errand_5, b_X9_errand_26, b_X9_errand_14, b_X9_errand_23, Option.bind_some, am_k_v, am_k_n, ↓n_in, nI_clamp, i_p1, nI_leI, nI_ltI, nI_eq, n_lt0, n_le0, n_eq0, n_gt0, n_lm, n_em, n_me, n_mlt, false_or, or_false, true_or, or_true, false_and, and_false, true_and, and_true, not_false_eq_true, not_true_eq_false, if_true, if_false, if_pos, if_neg, am_b01, am_b0, am_b1, ne_eq, eq_self, reduceCtorEq, rng_t, Bool.and_true, Bool.and_false, Bool.true_and, Bool.false_and, ite_rgI, if_pos rfl, sp_personA M B, sp_hourA M B, sp_cellA M B, rm_W M, m_cix, MQ.1.2.2.2.1, show (10 : Int32) = nI 10 from rfl]
          · refine stp_pure H (v := -1000000001) ?_ ?_
            · simp (disch := omega) only [b_X8_errand_0, b_X8_errand_9, b_X8_errand_19, b_X8_errand_40, b_X8_errand_37, b_X8_errand_55, b_X8_errand_70, Option.bind_some, am_k_v, am_k_n, ↓n_in, nI_clamp, i_p1, nI_leI, nI_ltI, nI_eq, n_lt0, n_le0, n_eq0, n_gt0, n_lm, n_em, n_me, n_mlt, false_or, or_false, true_or, or_true, false_and, and_false, true_and, and_true, not_false_eq_true, not_true_eq_false, if_true, if_false, if_pos, if_neg, am_b01, am_b0, am_b1, ne_eq, eq_self, reduceCtorEq, rng_t, Bool.and_true, Bool.and_false, Bool.true_and, Bool.false_and, ite_rgI, if_pos rfl, sx_personA X, sx_cellAtT X B hx hy, sx_hourA X, hh]
            · simp (disch := omega) only [b_X9_errand_0, b_X9_errand_5, b_X9_errand_26, b_X9_errand_14, b_X9_errand_23, Option.bind_some, am_k_v, am_k_n, ↓n_in, nI_clamp, i_p1, nI_leI, nI_ltI, nI_eq, n_lt0, n_le0, n_eq0, n_gt0, n_lm, n_em, n_me, n_mlt, false_or, or_false, true_or, or_true, false_and, and_false, true_and, and_true, not_false_eq_true, not_true_eq_false, if_true, if_false, if_pos, if_neg, am_b01, am_b0, am_b1, ne_eq, eq_self, reduceCtorEq, rng_t, Bool.and_true, Bool.and_false, Bool.true_and, Bool.false_and, ite_rgI, if_pos rfl, sp_personA M B, sp_hourA M B, sp_cellA M B, hh]
        · exact absurd (Or.inr hy) hxy
      · exact absurd (Or.inl hx) hxy
  · refine stp_pure H (v := -1000000001) ?_ ?_
    · rw [b_X8_errand_0, sx_cellAt, Option.bind_some, am_k_v]
      simp (disch := omega) only [b_X8_errand_9, b_X8_errand_19, b_X8_errand_40, Option.bind_some, am_k_v, am_k_n, ↓n_in, nI_clamp, i_p1, nI_leI, nI_ltI, nI_eq, n_lt0, n_le0, n_eq0, n_gt0, n_lm, n_em, n_me, n_mlt, false_or, or_false, true_or, or_true, false_and, and_false, true_and, and_true, not_false_eq_true, not_true_eq_false, if_true, if_false, if_pos, if_neg, am_b01, am_b0, am_b1, ne_eq, eq_self, reduceCtorEq, rng_t, Bool.and_true, Bool.and_false, Bool.true_and, Bool.false_and, ite_rgI, if_pos rfl, sx_personA X, hp]
    · simp (disch := omega) only [b_X9_errand_0, b_X9_errand_5, b_X9_errand_26, Option.bind_some, am_k_v, am_k_n, ↓n_in, nI_clamp, i_p1, nI_leI, nI_ltI, nI_eq, n_lt0, n_le0, n_eq0, n_gt0, n_lm, n_em, n_me, n_mlt, false_or, or_false, true_or, or_true, false_and, and_false, true_and, and_true, not_false_eq_true, not_true_eq_false, if_true, if_false, if_pos, if_neg, am_b01, am_b0, am_b1, ne_eq, eq_self, reduceCtorEq, rng_t, Bool.and_true, Bool.and_false, Bool.true_and, Bool.false_and, ite_rgI, if_pos rfl, sp_personA M B, hp]
end
