/-! the reference's shadows and what is owed -/
section
variable {Ls : Nat} {xs : Nat → Int32} {g : Vg} {I : Nat → Nat → Int32} {J : Nat → Nat → Int64}
theorem mG_of (R : RM g I) (B : BG g) (h : 1 ≤ gW g) : mG (gW g) (gD g) I := by
  have b1 := bg_1 B
  exact ⟨⟨rm_W R, rm_D R⟩, by omega, b1.1⟩
theorem mHr_of (R : RM g I) (B : BG g) {h : Nat} (hh : h < gN g) : mHr h (gX g h) (gY g h) (gL g h) I := by
  have b1 := bg_1 B
  have b2 := bg_h B hh
  exact ⟨⟨by omega, b2.2.2.1, rm_L R hh⟩, ⟨rm_X R hh, b2.1⟩, ⟨rm_Y R hh, b2.2.1⟩⟩
theorem mHs_of (R : RM g I) (B : BG g) : mHs I := fun c hc => ⟨gH g c, bg_H B hc, rm_H R hc⟩
theorem sp_dk (R : RM g I) (B : BG g) {h : Nat} (hh : h < gN g) : am_ev (am_tbl Ls xs) 28 (0, [(0, .ref 81), (1, .int (nI h))], [], (am_sh, I, J)) = some (some (.long (dk g h)), (am_sh, I, J)) := by
  have b1 := bg_1 B
  rw [sp_dark I J (mG_of R B (by omega)) (mHr_of R B hh) (mHs_of R B)]
  rw [show (0 : Int64) = dkl g h 0 from rfl, dark_N b1.1 (fun c hc => rm_H R hc) (fun c hc => bg_H B hc) (gW g * gD g) 0 (by omega)]
/-- who is left out, who is coupled and how tall both are -/
def mC (ns cp : Option Nat) (ct : Nat) (I : Nat → Nat → Int32) : Prop := I 81 39 = oI ns ∧ I 81 40 = oI cp ∧ (cp = none ∨ I 81 41 = nI ct)
def tlc (g : Vg) (cp : Option Nat) (ct p : Nat) : Nat := if cp = some p then ct else tl g p
theorem oI_eq {n : Nat} {o : Option Nat} (hn : n < 2147483648) (ho : ∀ y, o = some y → y < 2147483648) : nI n = oI o ↔ o = some n := by
  cases o with
  | none => exact ⟨fun q => ((n_em hn).mp q).elim, fun q => by cases q⟩
  | some y =>
    have := ho y rfl
    exact ⟨fun q => by rw [(nI_eq (by omega) (by omega)).mp q], fun q => by cases q; rfl⟩
theorem mtall_N (R : RM g I) (B : BG g) {ns cp : Option Nat} {ct : Nat} (C : mC ns cp ct I) (hcp : ∀ y, cp = some y → y < 6) {p : Nat} (hp : p < gP g) : mtall I p = nI (tlc g cp ct p) := by
  have b1 := bg_1 B
  have b2 := bg_p B hp
  unfold mtall tlc
  rw [C.2.1, rm_F R hp, rm_T R hp]
  simp (disch := omega) only [ne_eq, n_eq0]
  by_cases h1 : cp = some p
  · rw [if_neg (fun q => q ((oI_eq (by omega) (fun y hy => by have := hcp y hy; omega)).mpr h1)), if_pos h1, C.2.2.resolve_left (by rw [h1]; exact fun q => by cases q)]
  · rw [if_pos (fun q => h1 ((oI_eq (by omega) (fun y hy => by have := hcp y hy; omega)).mp q)), if_neg h1]
    unfold tl
    by_cases h2 : gF g p = 0
    · rw [if_pos h2, h2]; rfl
    · rw [if_neg h2, show (1 : Int32) = nI 1 from rfl, pk_sub (by omega), show gF g p = 1 by omega]
theorem tlc_le (B : BG g) {cp : Option Nat} {ct : Nat} (hct : ct ≤ 9) {p : Nat} (hp : p < gP g) : tlc g cp ct p ≤ 9 := by
  have := tl_le B hp
  unfold tlc
  split <;> omega
theorem sp_castN (R : RM g I) (B : BG g) {ns cp : Option Nat} {ct : Nat} (C : mC ns cp ct I) (hns : ∀ y, ns = some y → y < 6) (hcp : ∀ y, cp = some y → y < 6) (hct : ct ≤ 9) {p h : Nat} {d : Int64} (hp : p < gP g) (hh : h < gN g) : am_ev (am_tbl Ls xs) 30 (0, [(0, .ref 81), (1, .int (nI p)), (2, .int (nI h)), (3, .long d)], [], (am_sh, I, J)) = some (some (.long (if ns = some p then 0 else shd g d (gA g p) (tlc g cp ct p) h)), (am_sh, I, J)) := by
  have b1 := bg_1 B
  have b2 := bg_p B hp
  have b3 := tlc_le B (cp := cp) hct hp
  rw [sp_cast I J (mG_of R B (by omega)) (mHr_of R B hh) (show p < 6 by omega) (rm_A R hp) b2.2.2.2 (mtall_N R B C hcp hp) (by omega)]
  unfold mcast shd
  rw [C.1, rm_A R hp, mtall_N R B C hcp hp, nI_clamp (show tlc g cp ct p < 2 ^ 31 by omega), nI_clamp (show gA g p < 2 ^ 31 by omega), hb_has d (show gA g p < 64 by omega), ray_N b1.1 (fun c hc => rm_H R hc) (fun c hc => bg_H B hc)]
  by_cases h1 : ns = some p
  · rw [if_pos ((oI_eq (by omega) (fun y hy => by have := hns y hy; omega)).mpr h1), if_pos h1]
  · rw [if_neg (fun q => h1 ((oI_eq (by omega) (fun y hy => by have := hns y hy; omega)).mp q)), if_neg h1]
theorem sp_aheadN (R : RM g I) (B : BG g) {ns cp : Option Nat} {ct : Nat} (C : mC ns cp ct I) (hcp : ∀ y, cp = some y → y < 6) (hct : ct ≤ 9) {p q : Nat} (hp : p < gP g) (hq : q < gP g) : am_ev (am_tbl Ls xs) 31 (0, [(0, .ref 81), (1, .int (nI q)), (2, .int (nI p))], [], (am_sh, I, J)) = some (some (.int (am_b (ahd (gR g) (tlc g cp ct q) (tlc g cp ct p) q p))), (am_sh, I, J)) := by
  have b1 := bg_1 B
  have b2 := tlc_le B (cp := cp) hct hp
  have b3 := tlc_le B (cp := cp) hct hq
  rw [sp_ahead I J (show q < 6 by omega) (show p < 6 by omega)]
  have e : mahead I q p = ahd (gR g) (tlc g cp ct q) (tlc g cp ct p) q p := by
    unfold mahead ahd
    rw [mtall_N R B C hcp hp, mtall_N R B C hcp hq, rm_R R]
    simp (disch := omega) only [ne_eq, n_eq1, nI_eq, nI_ltI]
  rw [e]
theorem sp_owed (R : RM g I) (B : BG g) {ns cp : Option Nat} {ct : Nat} (C : mC ns cp ct I) (hns : ∀ y, ns = some y → y < 6) (hct : ct ≤ 9) {p h : Nat} (hp : p < gP g) (hh : h < gN g) (hcp : cp = none ∨ cp = some p) (hnp : ns ≠ some p) : am_ev (am_tbl Ls xs) 32 (0, [(0, .ref 81), (1, .int (nI p)), (2, .int (nI h))], [], (am_sh, I, J)) = some (some (.int (nI (owN g p (gA g p) (tlc g cp ct p) ns h))), (am_sh, I, J)) := by
  have b1 := bg_1 B
  have hcq : ∀ y, cp = some y → y < 6 := by
    intro y hy
    rcases hcp with q | q
    · rw [q] at hy; cases hy
    · rw [q] at hy; cases hy; omega
  simp (disch := omega) only [b_X9_owedAt_0, b_X9_owedAt_5, b_X9_owedAt_13, Option.bind_some, am_k_v, am_k_n, ↓n_in, nI_clamp, i_p1, nI_leI, nI_ltI, nI_eq, n_lt0, n_le0, n_eq0, n_gt0, n_lm, n_em, n_me, n_mlt, false_or, or_false, true_or, or_true, false_and, and_false, true_and, and_true, not_false_eq_true, not_true_eq_false, if_true, if_false, if_pos, if_neg, am_b01, am_b0, am_b1, ne_eq, sp_dk R B, sp_castN R B C hns hcq hct, hnp]
  refine (lp (N := gP g) (f := fun k => am_ev (am_tbl Ls xs) 32 (24, [(0, .ref 81), (1, .int (nI p)), (2, .int (nI h)), (3, .long (dk g h)), (5, .long (owL g (dk g h) p (tlc g cp ct p) ns h (shd g (dk g h) (gA g p) (tlc g cp ct p) h &&& (dk g h ^^^ (-1))) k)), (7, .int (nI k))], [], (am_sh, I, J))) ?_).trans ?_
  · intro k hk
    have b2 := tlc_le B (cp := cp) hct hp
    have b3 := tlc_le B (cp := cp) hct hk
    try dsimp only
    rw [b_X9_owedAt_24]
    simp (disch := omega) only [b_X9_owedAt_0, b_X9_owedAt_5, b_X9_owedAt_13, b_X9_owedAt_83, b_X9_owedAt_66, b_X9_owedAt_48, b_X9_owedAt_69, b_X9_owedAt_59, Option.bind_some, am_k_v, am_k_n, ↓n_in, nI_clamp, i_p1, nI_leI, nI_ltI, nI_eq, n_lt0, n_le0, n_eq0, n_gt0, n_lm, n_em, n_me, n_mlt, false_or, or_false, true_or, or_true, false_and, and_false, true_and, and_true, not_false_eq_true, not_true_eq_false, if_true, if_false, if_pos, if_neg, am_b01, am_b0, am_b1, ne_eq, rm_P R, sp_aheadN R B C hcq hct, sp_castN R B C hns hcq hct, owL]
    unfold owS
    by_cases e1 : k = p
    · rw [if_pos e1, if_neg (fun q => q.1.1 e1), l_anm]
    · have e4 : tlc g cp ct k = tl g k := by
        unfold tlc
        rw [if_neg]
        rcases hcp with q | q
        · rw [q]; exact fun w => by cases w
        · rw [q]; exact fun w => by cases w; exact e1 rfl
      rw [if_neg e1, e4]
      by_cases e3 : ahd (gR g) (tl g k) (tlc g cp ct p) k p = true
      · rw [if_neg (by rw [e3]; decide)]
        by_cases e2 : ns = some k
        · rw [if_pos e2, if_neg (fun q => q.1.2 e2), l_xz, l_anm]
        · rw [if_neg e2, if_pos ⟨⟨e1, e2⟩, e3⟩]
      · rw [if_pos (by cases hx : ahd (gR g) (tl g k) (tlc g cp ct p) k p; rfl; exact absurd hx e3), if_neg (fun q => e3 q.2), l_anm]
  · try dsimp only
    rw [b_X9_owedAt_24]
    simp (disch := omega) only [b_X9_owedAt_0, b_X9_owedAt_5, b_X9_owedAt_13, b_X9_owedAt_83, b_X9_owedAt_66, b_X9_owedAt_48, b_X9_owedAt_69, b_X9_owedAt_59, Option.bind_some, am_k_v, am_k_n, ↓n_in, nI_clamp, i_p1, nI_leI, nI_ltI, nI_eq, n_lt0, n_le0, n_eq0, n_gt0, n_lm, n_em, n_me, n_mlt, false_or, or_false, true_or, or_true, false_and, and_false, true_and, and_true, not_false_eq_true, not_true_eq_false, if_true, if_false, if_pos, if_neg, am_b01, am_b0, am_b1, ne_eq, rm_P R, sp_bits, cnt_48]
    rfl
/-- nobody coupled -/
def m0 (I : Nat → Nat → Int32) : Prop := I 81 39 = -1 ∧ I 81 40 = -1
theorem mC_0 (h : m0 I) : mC none none 0 I := ⟨h.1, h.2, Or.inl rfl⟩
theorem tlc_0 {p : Nat} : tlc g none 0 p = tl g p := if_neg (fun q => by cases q)
theorem sp_owed0 (R : RM g I) (B : BG g) (C : m0 I) {p h : Nat} (hp : p < gP g) (hh : h < gN g) : am_ev (am_tbl Ls xs) 32 (0, [(0, .ref 81), (1, .int (nI p)), (2, .int (nI h))], [], (am_sh, I, J)) = some (some (.int (nI (owN g p (gA g p) (tl g p) none h))), (am_sh, I, J)) := by
  rw [sp_owed R B (mC_0 C) (fun y q => by cases q) (by omega) hp hh (Or.inl rfl) (fun q => by cases q), tlc_0]
theorem sp_meanC (R : RM g I) (B : BG g) {ns cp : Option Nat} {ct : Nat} (C : mC ns cp ct I) (hns : ∀ y, ns = some y → y < 6) (hct : ct ≤ 9) {p : Nat} (hp : p < gP g) (hcp : cp = none ∨ cp = some p) (hnp : ns ≠ some p) : am_ev (am_tbl Ls xs) 33 (0, [(0, .ref 81), (1, .int (nI p))], [], (am_sh, I, J)) = some (some (.int (nI (mnN g p (gA g p) (tlc g cp ct p) ns))), (am_sh, I, J)) := by
  have b1 := bg_1 B
  rw [b_X9_meanOf_0]
  refine (lp (N := gN g) (f := fun k => am_ev (am_tbl Ls xs) 33 (4, [(0, .ref 81), (1, .int (nI p)), (2, .int (nI (sm (fun h => owN g p (gA g p) (tlc g cp ct p) ns h * gS g h) k))), (3, .int (nI k))], [], (am_sh, I, J))) ?_).trans ?_
  · intro k hk
    have b2 := bg_h B hk
    try dsimp only
    rw [b_X9_meanOf_4]
    simp (disch := omega) only [b_X9_meanOf_0, b_X9_meanOf_32, b_X9_meanOf_39, Option.bind_some, am_k_v, am_k_n, ↓n_in, nI_clamp, i_p1, nI_leI, nI_ltI, nI_eq, n_lt0, n_le0, n_eq0, n_gt0, n_lm, n_em, n_me, n_mlt, false_or, or_false, true_or, or_true, false_and, and_false, true_and, and_true, not_false_eq_true, not_true_eq_false, if_true, if_false, if_pos, if_neg, am_b01, am_b0, am_b1, ne_eq, rm_N R, rm_S R, sp_owed R B C hns hct hp hk hcp hnp, pk_mul, nI_add, sm]
    by_cases h0 : gS g k = 0
    · rw [if_neg (fun q => q h0), h0, Nat.mul_zero, show (0 : Int32) = nI 0 from rfl, nI_add]
    · rw [if_pos h0]
  · try dsimp only
    rw [b_X9_meanOf_4]
    simp (disch := omega) only [Option.bind_some, am_k_v, am_k_n, ↓n_in, nI_clamp, i_p1, nI_leI, nI_ltI, nI_eq, n_lt0, n_le0, n_eq0, n_gt0, n_lm, n_em, n_me, n_mlt, false_or, or_false, true_or, or_true, false_and, and_false, true_and, and_true, not_false_eq_true, not_true_eq_false, if_true, if_false, if_pos, if_neg, am_b01, am_b0, am_b1, ne_eq, rm_N R]
    rfl
theorem sp_mean0 (R : RM g I) (B : BG g) (C : m0 I) {p : Nat} (hp : p < gP g) : am_ev (am_tbl Ls xs) 33 (0, [(0, .ref 81), (1, .int (nI p))], [], (am_sh, I, J)) = some (some (.int (nI (mnP g p))), (am_sh, I, J)) := by
  rw [sp_meanC R B (mC_0 C) (fun y q => by cases q) (by omega) hp (Or.inl rfl) (fun q => by cases q), tlc_0]
  rfl
theorem sp_worst (R : RM g I) (B : BG g) (C : m0 I) {p : Nat} (hp : p < gP g) : am_ev (am_tbl Ls xs) 34 (0, [(0, .ref 81), (1, .int (nI p))], [], (am_sh, I, J)) = some (some (.int (nI (wsN g p (gA g p)))), (am_sh, I, J)) := by
  have b1 := bg_1 B
  rw [b_X9_worstOf_0]
  refine (lp (N := gN g) (f := fun k => am_ev (am_tbl Ls xs) 34 (4, [(0, .ref 81), (1, .int (nI p)), (2, .int (nI (wsl g p (gA g p) k))), (3, .int (nI k))], [], (am_sh, I, J))) ?_).trans ?_
  · intro k hk
    have b2 := bg_h B hk
    have b4 := wsl_le (g := g) (p := p) (c := gA g p) k
    have b5 : owN g p (gA g p) (tl g p) none k ≤ 48 := owN_le
    try dsimp only
    rw [b_X9_worstOf_4]
    simp (disch := omega) only [b_X9_worstOf_0, b_X9_worstOf_31, b_X9_worstOf_45, Option.bind_some, am_k_v, am_k_n, ↓n_in, nI_clamp, i_p1, nI_leI, nI_ltI, nI_eq, n_lt0, n_le0, n_eq0, n_gt0, n_lm, n_em, n_me, n_mlt, false_or, or_false, true_or, or_true, false_and, and_false, true_and, and_true, not_false_eq_true, not_true_eq_false, if_true, if_false, if_pos, if_neg, am_b01, am_b0, am_b1, ne_eq, rm_N R, rm_S R, sp_owed0 R B C]
    rw [wsl_s]
    by_cases h0 : gS g k = 0
    · rw [if_neg (fun q => q h0), if_pos h0]
      by_cases h1 : wsl g p (gA g p) k = 0
      · rw [h1]; simp (disch := omega) only [show (0 : Int32) ≤ nI 0 from by decide, Option.bind_some, am_k_v, am_k_n, ↓n_in, nI_clamp, i_p1, nI_leI, nI_ltI, nI_eq, n_lt0, n_le0, n_eq0, n_gt0, n_lm, n_em, n_me, n_mlt, false_or, or_false, true_or, or_true, false_and, and_false, true_and, and_true, not_false_eq_true, not_true_eq_false, if_true, if_false, if_pos, if_neg, am_b01, am_b0, am_b1, ne_eq]
      · simp (disch := omega) only [show (0 : Int32) ≤ nI (wsl g p (gA g p) k) from nI_pos' (by omega), Option.bind_some, am_k_v, am_k_n, ↓n_in, nI_clamp, i_p1, nI_leI, nI_ltI, nI_eq, n_lt0, n_le0, n_eq0, n_gt0, n_lm, n_em, n_me, n_mlt, false_or, or_false, true_or, or_true, false_and, and_false, true_and, and_true, not_false_eq_true, not_true_eq_false, if_true, if_false, if_pos, if_neg, am_b01, am_b0, am_b1, ne_eq]
    · rw [if_pos h0, if_neg h0]
      by_cases h1 : wsl g p (gA g p) k < owN g p (gA g p) (tl g p) none k
      · rw [if_neg (by omega), if_pos h1]
      · rw [if_pos (by omega), if_neg h1]
  · try dsimp only
    rw [b_X9_worstOf_4]
    simp (disch := omega) only [Option.bind_some, am_k_v, am_k_n, ↓n_in, nI_clamp, i_p1, nI_leI, nI_ltI, nI_eq, n_lt0, n_le0, n_eq0, n_gt0, n_lm, n_em, n_me, n_mlt, false_or, or_false, true_or, or_true, false_and, and_false, true_and, and_true, not_false_eq_true, not_true_eq_false, if_true, if_false, if_pos, if_neg, am_b01, am_b0, am_b1, ne_eq, rm_N R]
    rfl
theorem sp_meanAll (R : RM g I) (B : BG g) (C : m0 I) : am_ev (am_tbl Ls xs) 35 (0, [(0, .ref 81)], [], (am_sh, I, J)) = some (some (.int (nI (mnA g))), (am_sh, I, J)) := by
  have b1 := bg_1 B
  rw [b_X9_meanOfAll_0]
  refine (lp (N := gP g) (f := fun k => am_ev (am_tbl Ls xs) 35 (4, [(0, .ref 81), (1, .int (nI (sm (mnP g) k))), (2, .int (nI k))], [], (am_sh, I, J))) ?_).trans ?_
  · intro k hk
    try dsimp only
    rw [b_X9_meanOfAll_4]
    simp (disch := omega) only [b_X9_meanOfAll_0, b_X9_meanOfAll_18, Option.bind_some, am_k_v, am_k_n, ↓n_in, nI_clamp, i_p1, nI_leI, nI_ltI, nI_eq, n_lt0, n_le0, n_eq0, n_gt0, n_lm, n_em, n_me, n_mlt, false_or, or_false, true_or, or_true, false_and, and_false, true_and, and_true, not_false_eq_true, not_true_eq_false, if_true, if_false, if_pos, if_neg, am_b01, am_b0, am_b1, ne_eq, rm_P R, sp_mean0 R B C, nI_add, sm]
  · try dsimp only
    rw [b_X9_meanOfAll_4]
    simp (disch := omega) only [Option.bind_some, am_k_v, am_k_n, ↓n_in, nI_clamp, i_p1, nI_leI, nI_ltI, nI_eq, n_lt0, n_le0, n_eq0, n_gt0, n_lm, n_em, n_me, n_mlt, false_or, or_false, true_or, or_true, false_and, and_false, true_and, and_true, not_false_eq_true, not_true_eq_false, if_true, if_false, if_pos, if_neg, am_b01, am_b0, am_b1, ne_eq, rm_P R]
    rfl
theorem sp_casters (R : RM g I) (B : BG g) (C : m0 I) {c h : Nat} (hc : c < gW g * gD g) (hh : h < gN g) : am_ev (am_tbl Ls xs) 37 (0, [(0, .ref 81), (1, .int (nI c)), (2, .int (nI h))], [], (am_sh, I, J)) = some (some (.int (nI (csn g c h (gP g)))), (am_sh, I, J)) := by
  have b1 := bg_1 B
  simp (disch := omega) only [b_X9_castersAt_0, b_X9_castersAt_5, Option.bind_some, am_k_v, am_k_n, ↓n_in, nI_clamp, i_p1, nI_leI, nI_ltI, nI_eq, n_lt0, n_le0, n_eq0, n_gt0, n_lm, n_em, n_me, n_mlt, false_or, or_false, true_or, or_true, false_and, and_false, true_and, and_true, not_false_eq_true, not_true_eq_false, if_true, if_false, if_pos, if_neg, am_b01, am_b0, am_b1, ne_eq, sp_dk R B]
  refine (lp (N := gP g) (f := fun k => am_ev (am_tbl Ls xs) 37 (12, [(0, .ref 81), (1, .int (nI c)), (2, .int (nI h)), (3, .long (dk g h)), (5, .int (nI (csn g c h k))), (6, .int (nI k))], [], (am_sh, I, J))) ?_).trans ?_
  · intro k hk
    try dsimp only
    rw [b_X9_castersAt_12]
    simp (disch := omega) only [b_X9_castersAt_0, b_X9_castersAt_5, b_X9_castersAt_31, b_X9_castersAt_35, b_X9_castersAt_46, Option.bind_some, am_k_v, am_k_n, ↓n_in, nI_clamp, i_p1, nI_leI, nI_ltI, nI_eq, n_lt0, n_le0, n_eq0, n_gt0, n_lm, n_em, n_me, n_mlt, false_or, or_false, true_or, or_true, false_and, and_false, true_and, and_true, not_false_eq_true, not_true_eq_false, if_true, if_false, if_pos, if_neg, am_b01, am_b0, am_b1, ne_eq, rm_P R, sp_castN R B (mC_0 C) (fun y q => by cases q) (fun y q => by cases q) (Nat.zero_le 9), tlc_0, sp_has, hb_has, i_bit, nI_or, reduceCtorEq]
    rw [csn_s]
    by_cases h0 : hbt (shd g (dk g h) (gA g k) (tl g k) h) c = true
    · rw [if_neg (by rw [h0]; decide), if_pos h0]
    · rw [if_pos (by cases hx : hbt (shd g (dk g h) (gA g k) (tl g k) h) c; rfl; exact absurd hx h0), if_neg h0, show (0 : Int32) = nI 0 from rfl, nI_or, Nat.or_zero]
  · try dsimp only
    rw [b_X9_castersAt_12]
    simp (disch := omega) only [Option.bind_some, am_k_v, am_k_n, ↓n_in, nI_clamp, i_p1, nI_leI, nI_ltI, nI_eq, n_lt0, n_le0, n_eq0, n_gt0, n_lm, n_em, n_me, n_mlt, false_or, or_false, true_or, or_true, false_and, and_false, true_and, and_true, not_false_eq_true, not_true_eq_false, if_true, if_false, if_pos, if_neg, am_b01, am_b0, am_b1, ne_eq, rm_P R]
end
