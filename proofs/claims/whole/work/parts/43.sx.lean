/-! SUMS, GREATEST ONES; the class's Shades -/
def sm (f : Nat → Nat) : Nat → Nat
  | 0 => 0
  | n + 1 => sm f n + f n
theorem sm_le {f : Nat → Nat} {c : Nat} : ∀ {n : Nat}, (∀ k, k < n → f k ≤ c) → sm f n ≤ n * c
  | 0, _ => Nat.zero_le _
  | n + 1, h => by
    have h1 := sm_le (n := n) (fun k hk => h k (by omega))
    have h2 := h n (by omega)
    show sm f n + f n ≤ (n + 1) * c
    rw [Nat.succ_mul]
    omega
theorem sm_cong {f g : Nat → Nat} : ∀ {n : Nat}, (∀ k, k < n → f k = g k) → sm f n = sm g n
  | 0, _ => rfl
  | n + 1, h => by
    show sm f n + f n = sm g n + g n
    rw [sm_cong (fun k hk => h k (by omega)), h n (by omega)]
theorem sm_mono {f : Nat → Nat} {k : Nat} : ∀ {n : Nat}, k ≤ n → sm f k ≤ sm f n
  | 0, h => by rw [show k = 0 by omega]; exact Nat.le_refl _
  | n + 1, h => by
    rcases Nat.lt_or_ge n k with q | q
    · rw [show k = n + 1 by omega]; exact Nat.le_refl _
    · exact Nat.le_trans (sm_mono q) (Nat.le_add_right _ _)
def mnN (g : Vg) (p c t : Nat) (ns : Option Nat) : Nat := sm (fun h => owN g p c t ns h * gS g h) (gN g)
def mnP (g : Vg) (p : Nat) : Nat := mnN g p (gA g p) (tl g p) none
def mnA (g : Vg) : Nat := sm (mnP g) (gP g)
def wsl (g : Vg) (p c : Nat) : Nat → Nat
  | 0 => 0
  | n + 1 => if gS g n = 0 then wsl g p c n else if wsl g p c n < owN g p c (tl g p) none n then owN g p c (tl g p) none n else wsl g p c n
theorem wsl_s {g : Vg} {p c n : Nat} : wsl g p c (n + 1) = if gS g n = 0 then wsl g p c n else if wsl g p c n < owN g p c (tl g p) none n then owN g p c (tl g p) none n else wsl g p c n := rfl
def wsN (g : Vg) (p c : Nat) : Nat := wsl g p c (gN g)
def obA (g : Vg) (h : Nat) : Nat := sm (fun p => owN g p (gA g p) (tl g p) none h) (gP g)
theorem mnN_le {g : Vg} (B : BG g) {p c t : Nat} {ns : Option Nat} {k : Nat} (hk : k ≤ gN g) : sm (fun h => owN g p c t ns h * gS g h) k ≤ 5760 := by
  have b1 := bg_1 B
  have h1 := sm_le (f := fun h => owN g p c t ns h * gS g h) (c := 960) (n := k) (fun h hh => Nat.mul_le_mul (owN_le) (bg_h B (by omega : h < gN g)).2.2.2)
  omega
theorem mnP_le {g : Vg} (B : BG g) {p : Nat} : mnP g p ≤ 5760 := mnN_le B (Nat.le_refl _)
theorem mnA_le {g : Vg} (B : BG g) {k : Nat} (hk : k ≤ gP g) : sm (mnP g) k ≤ 34560 := by
  have b1 := bg_1 B
  have h1 := sm_le (f := mnP g) (c := 5760) (n := k) (fun p _ => mnP_le B)
  omega
theorem wsl_le {g : Vg} {p c : Nat} : ∀ n, wsl g p c n ≤ 48
  | 0 => Nat.zero_le _
  | n + 1 => by
    have h1 := wsl_le (g := g) (p := p) (c := c) n
    have h2 : owN g p c (tl g p) none n ≤ 48 := owN_le
    unfold wsl
    split
    · exact h1
    · split <;> omega
theorem obA_le {g : Vg} (B : BG g) {h k : Nat} (hk : k ≤ gP g) : sm (fun p => owN g p (gA g p) (tl g p) none h) k ≤ 288 := by
  have b1 := bg_1 B
  have h1 := sm_le (f := fun p => owN g p (gA g p) (tl g p) none h) (c := 48) (n := k) (fun p _ => owN_le)
  omega
/-- the first greatest -/
def fgr (f : Nat → Nat) : Nat → Option Nat
  | 0 => none
  | n + 1 => match fgr f n with
    | none => some n
    | some i => if f i < f n then some n else some i
theorem fgr_s {f : Nat → Nat} {n : Nat} : fgr f (n + 1) = match fgr f n with
    | none => some n
    | some i => if f i < f n then some n else some i := rfl
theorem fgr_lt {f : Nat → Nat} : ∀ {n i : Nat}, fgr f n = some i → i < n
  | 0, i, h => by cases h
  | n + 1, i, h => by
    unfold fgr at h
    cases hf : fgr f n with
    | none => rw [hf] at h; cases h; omega
    | some j =>
      rw [hf] at h
      dsimp only at h
      have := fgr_lt hf
      split at h <;> (cases h; omega)
/-- the first least of those with P -/
def fls (P : Nat → Bool) (f : Nat → Nat) : Nat → Option Nat
  | 0 => none
  | n + 1 => if P n = true then (match fls P f n with
    | none => some n
    | some i => if f n < f i then some n else some i) else fls P f n
theorem fls_s {P : Nat → Bool} {f : Nat → Nat} {n : Nat} : fls P f (n + 1) = if P n = true then (match fls P f n with
    | none => some n
    | some i => if f n < f i then some n else some i) else fls P f n := rfl
theorem fls_lt {P : Nat → Bool} {f : Nat → Nat} : ∀ {n i : Nat}, fls P f n = some i → i < n ∧ P i = true
  | 0, i, h => by cases h
  | n + 1, i, h => by
    unfold fls at h
    split at h
    · rename_i hP
      cases hf : fls P f n with
      | none => rw [hf] at h; cases h; exact ⟨by omega, hP⟩
      | some j =>
        rw [hf] at h
        dsimp only at h
        have := fls_lt hf
        split at h
        · cases h; exact ⟨by omega, hP⟩
        · cases h; exact ⟨by omega, this.2⟩
    · have := fls_lt h; exact ⟨by omega, this.2⟩
theorem fls_some {P : Nat → Bool} {f : Nat → Nat} {k : Nat} (hk : P k = true) : ∀ {n : Nat}, k < n → ∃ i, fls P f n = some i
  | 0, h => absurd h (Nat.not_lt_zero k)
  | n + 1, h => by
    unfold fls
    split
    · cases hf : fls P f n with
      | none => exact ⟨n, rfl⟩
      | some j =>
        try dsimp only
        split
        · exact ⟨n, rfl⟩
        · exact ⟨j, rfl⟩
    · rename_i hP
      exact fls_some hk (n := n) (by
        rcases Nat.lt_or_ge k n with q | q
        · exact q
        · exact absurd (by rw [show n = k by omega]; exact hk) hP)
theorem fls_cong {P Q : Nat → Bool} {f g : Nat → Nat} : ∀ {n : Nat}, (∀ k, k < n → P k = Q k) → (∀ k, k < n → P k = true → f k = g k) → fls P f n = fls Q g n
  | 0, _, _ => rfl
  | n + 1, h1, h2 => by
    have ih := fls_cong (n := n) (fun k hk => h1 k (by omega)) (fun k hk => h2 k (by omega))
    unfold fls
    rw [← ih, ← h1 n (by omega)]
    cases hP : P n
    · rfl
    · rw [if_pos rfl, if_pos rfl]
      cases hf : fls P f n with
      | none => rfl
      | some j =>
        have hj := fls_lt hf
        try dsimp only
        rw [h2 n (by omega) hP, h2 j (by omega) hj.2]
theorem n_ite {c : Prop} {i : Decidable c} {a b : Nat} : @ite Int32 c i (nI a) (nI b) = nI (@ite Nat c i a b) := by
  cases i with
  | isTrue h => rfl
  | isFalse h => rfl
theorem up_up {α : Type} {I : Nat → Nat → α} {r k : Nat} {x y : α} : am_up2 (am_up2 I r k x) r k y = am_up2 I r k y := by
  funext r' k'
  unfold am_up2
  split <;> rfl
section
variable {Ls : Nat} {xs : Nat → Int32} {g : Vg} {I : Nat → Nat → Int32} {J : Nat → Nat → Int64}
theorem sx_owed0 (R : RX g I) (B : BG g) (D : RD g J) {p c t h : Nat} (hp : p < 6) (hc : c < gW g * gD g) (hh : h < gN g) (ht : t ≤ 100) : am_ev (am_tbl Ls xs) 175 (0, [(0, .ref 61), (1, .int (nI p)), (2, .int (nI c)), (3, .int (nI t)), (4, .int ((-1))), (5, .int (nI h))], [], (am_sh, I, J)) = some (some (.long (owC g p c t none h)), (am_sh, I, J)) := sx_owed (ns := none) R B D hp hc hh ht (fun y q => by cases q)
theorem tl_le (B : BG g) {p : Nat} (hp : p < gP g) : tl g p ≤ 9 := by
  have := bg_p B hp
  unfold tl; omega
theorem sx_owedAt (R : RX g I) (B : BG g) (D : RD g J) {p c h : Nat} (hp : p < gP g) (hc : c < gW g * gD g) (hh : h < gN g) : am_ev (am_tbl Ls xs) 176 (0, [(0, .ref 61), (1, .int (nI p)), (2, .int (nI c)), (3, .int (nI h))], [], (am_sh, I, J)) = some (some (.int (nI (owN g p c (tl g p) none h))), (am_sh, I, J)) := by
  have b1 := bg_1 B
  have b2 := tl_le B hp
  simp (disch := omega) only [b_X5_owedAt_0, b_X5_owedAt_8, b_X5_owedAt_13, b_X5_owedAt_16, Option.bind_some, am_k_v, am_k_n, ↓n_in, nI_clamp, i_p1, nI_leI, nI_ltI, nI_eq, n_lt0, n_le0, n_eq0, n_gt0, n_lm, n_em, n_me, n_mlt, false_or, or_false, true_or, or_true, false_and, and_false, true_and, and_true, not_false_eq_true, not_true_eq_false, if_true, if_false, if_pos, if_neg, am_b01, am_b0, am_b1, ne_eq, sx_tall R B, sx_owed0 R B D, sx_bitCount, owC_pcn]
theorem sx_meanAt (R : RX g I) (B : BG g) (D : RD g J) {p c t : Nat} {ns : Option Nat} (hp : p < gP g) (hc : c < gW g * gD g) (ht : t ≤ 100) (hns : ∀ y, ns = some y → y < 6) : am_ev (am_tbl Ls xs) 177 (0, [(0, .ref 61), (1, .int (nI p)), (2, .int (nI c)), (3, .int (nI t)), (4, .int (oI ns))], [], (am_sh, I, J)) = some (some (.int (nI (mnN g p c t ns))), (am_sh, I, J)) := by
  have b1 := bg_1 B
  rw [b_X5_meanAt_0]
  refine (lp (N := gN g) (f := fun k => am_ev (am_tbl Ls xs) 177 (6, [(0, .ref 61), (1, .int (nI p)), (2, .int (nI c)), (3, .int (nI t)), (4, .int (oI ns)), (5, .int (nI (sm (fun h => owN g p c t ns h * gS g h) k))), (6, .int (nI k))], [], (am_sh, I, J))) ?_).trans ?_
  · intro k hk
    try dsimp only
    rw [b_X5_meanAt_6]
    simp (disch := omega) only [b_X5_meanAt_0, b_X5_meanAt_31, b_X5_meanAt_34, Option.bind_some, am_k_v, am_k_n, ↓n_in, nI_clamp, i_p1, nI_leI, nI_ltI, nI_eq, n_lt0, n_le0, n_eq0, n_gt0, n_lm, n_em, n_me, n_mlt, false_or, or_false, true_or, or_true, false_and, and_false, true_and, and_true, not_false_eq_true, not_true_eq_false, if_true, if_false, if_pos, if_neg, am_b01, am_b0, am_b1, ne_eq, rx_N R, rx_S R, sx_owed R B D (show p < 6 by omega) hc hk ht hns, sx_bitCount, owC_pcn, pk_mul, nI_add, sm]
  · try dsimp only
    rw [b_X5_meanAt_6]
    simp (disch := omega) only [Option.bind_some, am_k_v, am_k_n, ↓n_in, nI_clamp, i_p1, nI_leI, nI_ltI, nI_eq, n_lt0, n_le0, n_eq0, n_gt0, n_lm, n_em, n_me, n_mlt, false_or, or_false, true_or, or_true, false_and, and_false, true_and, and_true, not_false_eq_true, not_true_eq_false, if_true, if_false, if_pos, if_neg, am_b01, am_b0, am_b1, ne_eq, rx_N R]
    rfl
theorem sx_mean0 (R : RX g I) (B : BG g) (D : RD g J) {p c t : Nat} (hp : p < gP g) (hc : c < gW g * gD g) (ht : t ≤ 100) : am_ev (am_tbl Ls xs) 177 (0, [(0, .ref 61), (1, .int (nI p)), (2, .int (nI c)), (3, .int (nI t)), (4, .int ((-1)))], [], (am_sh, I, J)) = some (some (.int (nI (mnN g p c t none))), (am_sh, I, J)) := sx_meanAt (ns := none) R B D hp hc ht (fun y q => by cases q)
theorem sx_hasPerson' (R : RX g I) (B : BG g) {p : Nat} (hp : p < 100) : am_ev (am_tbl Ls xs) 135 (0, [(0, .ref 18), (1, .int (nI p))], [], (am_sh, I, J)) = some (some (.int (am_b (decide (p < gP g)))), (am_sh, I, J)) := by
  have b1 := bg_1 B
  rw [sx_hasPerson]
  simp (disch := omega) only [Option.bind_some, am_k_v, am_k_n, ↓n_in, nI_clamp, i_p1, nI_leI, nI_ltI, nI_eq, n_lt0, n_le0, n_eq0, n_gt0, n_lm, n_em, n_me, n_mlt, false_or, or_false, true_or, or_true, false_and, and_false, true_and, and_true, not_false_eq_true, not_true_eq_false, if_true, if_false, if_pos, if_neg, am_b01, am_b0, am_b1, ne_eq, rx_P R, Nat.not_le]
theorem sx_hasCell' (R : RX g I) (B : BG g) {c : Nat} (hc : c < 1000) : am_ev (am_tbl Ls xs) 133 (0, [(0, .ref 18), (1, .int (nI c))], [], (am_sh, I, J)) = some (some (.int (am_b (decide (c < gW g * gD g)))), (am_sh, I, J)) := by
  have b1 := bg_1 B
  rw [sx_hasCell]
  simp (disch := omega) only [Option.bind_some, am_k_v, am_k_n, ↓n_in, nI_clamp, i_p1, nI_leI, nI_ltI, nI_eq, n_lt0, n_le0, n_eq0, n_gt0, n_lm, n_em, n_me, n_mlt, false_or, or_false, true_or, or_true, false_and, and_false, true_and, and_true, not_false_eq_true, not_true_eq_false, if_true, if_false, if_pos, if_neg, am_b01, am_b0, am_b1, ne_eq, rx_C R, Nat.not_le]
theorem sx_meanOf (R : RX g I) (B : BG g) (D : RD g J) {p : Nat} (hp : p < gP g) : am_ev (am_tbl Ls xs) 178 (0, [(0, .ref 61), (1, .int (nI p))], [], (am_sh, I, J)) = some (some (.int (nI (mnP g p))), (am_sh, I, J)) := by
  have b1 := bg_1 B
  have b2 := tl_le B hp
  have b3 := bg_p B hp
  simp (disch := omega) only [b_X5_meanOf_0, b_X5_meanOf_8, b_X5_meanOf_35, b_X5_meanOf_27, b_X5_meanOf_31, Option.bind_some, am_k_v, am_k_n, ↓n_in, nI_clamp, i_p1, nI_leI, nI_ltI, nI_eq, n_lt0, n_le0, n_eq0, n_gt0, n_lm, n_em, n_me, n_mlt, false_or, or_false, true_or, or_true, false_and, and_false, true_and, and_true, not_false_eq_true, not_true_eq_false, if_true, if_false, if_pos, if_neg, am_b01, am_b0, am_b1, ne_eq, sx_hasPerson' R B, decide_eq_false_iff_not, rx_A R, sx_tall R B, sx_mean0 R B D]
  rfl
theorem sx_meanOfAll (R : RX g I) (B : BG g) (D : RD g J) : am_ev (am_tbl Ls xs) 179 (0, [(0, .ref 61)], [], (am_sh, I, J)) = some (some (.int (nI (mnA g))), (am_sh, I, J)) := by
  have b1 := bg_1 B
  rw [b_X5_meanOfAll_0]
  refine (lp (N := gP g) (f := fun k => am_ev (am_tbl Ls xs) 179 (4, [(0, .ref 61), (1, .int (nI (sm (mnP g) k))), (2, .int (nI k))], [], (am_sh, I, J))) ?_).trans ?_
  · intro k hk
    have b2 := tl_le B hk
    have b3 := bg_p B hk
    try dsimp only
    rw [b_X5_meanOfAll_4]
    simp (disch := omega) only [b_X5_meanOfAll_0, b_X5_meanOfAll_32, b_X5_meanOfAll_36, Option.bind_some, am_k_v, am_k_n, ↓n_in, nI_clamp, i_p1, nI_leI, nI_ltI, nI_eq, n_lt0, n_le0, n_eq0, n_gt0, n_lm, n_em, n_me, n_mlt, false_or, or_false, true_or, or_true, false_and, and_false, true_and, and_true, not_false_eq_true, not_true_eq_false, if_true, if_false, if_pos, if_neg, am_b01, am_b0, am_b1, ne_eq, rx_P R, rx_A R, sx_tall R B, sx_mean0 R B D, nI_add, sm]
    rfl
  · try dsimp only
    rw [b_X5_meanOfAll_4]
    simp (disch := omega) only [Option.bind_some, am_k_v, am_k_n, ↓n_in, nI_clamp, i_p1, nI_leI, nI_ltI, nI_eq, n_lt0, n_le0, n_eq0, n_gt0, n_lm, n_em, n_me, n_mlt, false_or, or_false, true_or, or_true, false_and, and_false, true_and, and_true, not_false_eq_true, not_true_eq_false, if_true, if_false, if_pos, if_neg, am_b01, am_b0, am_b1, ne_eq, rx_P R]
    rfl
theorem sx_worst (R : RX g I) (B : BG g) (D : RD g J) {p c : Nat} (hp : p < gP g) (hc : c < gW g * gD g) : am_ev (am_tbl Ls xs) 180 (0, [(0, .ref 61), (1, .int (nI p)), (2, .int (nI c))], [], (am_sh, I, J)) = some (some (.int (nI (wsN g p c))), (am_sh, I, J)) := by
  have b1 := bg_1 B
  rw [b_X5_worstAt_0]
  refine (lp (N := gN g) (f := fun k => am_ev (am_tbl Ls xs) 180 (5, [(0, .ref 61), (1, .int (nI p)), (2, .int (nI c)), (3, .int (nI (wsl g p c k))), (4, .int (nI k))], [], (am_sh, I, J))) ?_).trans ?_
  · intro k hk
    have b2 := bg_h B hk
    have b4 := wsl_le (g := g) (p := p) (c := c) k
    have b5 : owN g p c (tl g p) none k ≤ 48 := owN_le
    try dsimp only
    rw [b_X5_worstAt_5]
    simp (disch := omega) only [b_X5_worstAt_0, b_X5_worstAt_43, b_X5_worstAt_39, Option.bind_some, am_k_v, am_k_n, ↓n_in, nI_clamp, i_p1, nI_leI, nI_ltI, nI_eq, n_lt0, n_le0, n_eq0, n_gt0, n_lm, n_em, n_me, n_mlt, false_or, or_false, true_or, or_true, false_and, and_false, true_and, and_true, not_false_eq_true, not_true_eq_false, if_true, if_false, if_pos, if_neg, am_b01, am_b0, am_b1, ne_eq, rx_N R, rx_S R, sx_owedAt R B D, n_ite]
    rw [wsl_s]
    by_cases h0 : gS g k = 0
    · rw [if_pos h0, if_pos h0]
    · rw [if_neg h0, if_neg h0]
  · try dsimp only
    rw [b_X5_worstAt_5]
    simp (disch := omega) only [Option.bind_some, am_k_v, am_k_n, ↓n_in, nI_clamp, i_p1, nI_leI, nI_ltI, nI_eq, n_lt0, n_le0, n_eq0, n_gt0, n_lm, n_em, n_me, n_mlt, false_or, or_false, true_or, or_true, false_and, and_false, true_and, and_true, not_false_eq_true, not_true_eq_false, if_true, if_false, if_pos, if_neg, am_b01, am_b0, am_b1, ne_eq, rx_N R]
    rfl
theorem sx_obA (R : RX g I) (B : BG g) (D : RD g J) {h : Nat} (hh : h < gN g) : am_ev (am_tbl Ls xs) 181 (0, [(0, .ref 61), (1, .int (nI h))], [], (am_sh, I, J)) = some (some (.int (nI (obA g h))), (am_sh, I, J)) := by
  have b1 := bg_1 B
  rw [b_X5_owedByAll_0]
  refine (lp (N := gP g) (f := fun k => am_ev (am_tbl Ls xs) 181 (4, [(0, .ref 61), (1, .int (nI h)), (2, .int (nI (sm (fun p => owN g p (gA g p) (tl g p) none h) k))), (3, .int (nI k))], [], (am_sh, I, J))) ?_).trans ?_
  · intro k hk
    have b3 := bg_p B hk
    try dsimp only
    rw [b_X5_owedByAll_4]
    simp (disch := omega) only [b_X5_owedByAll_0, b_X5_owedByAll_31, Option.bind_some, am_k_v, am_k_n, ↓n_in, nI_clamp, i_p1, nI_leI, nI_ltI, nI_eq, n_lt0, n_le0, n_eq0, n_gt0, n_lm, n_em, n_me, n_mlt, false_or, or_false, true_or, or_true, false_and, and_false, true_and, and_true, not_false_eq_true, not_true_eq_false, if_true, if_false, if_pos, if_neg, am_b01, am_b0, am_b1, ne_eq, rx_P R, rx_A R, sx_owedAt R B D, nI_add, sm]
  · try dsimp only
    rw [b_X5_owedByAll_4]
    simp (disch := omega) only [Option.bind_some, am_k_v, am_k_n, ↓n_in, nI_clamp, i_p1, nI_leI, nI_ltI, nI_eq, n_lt0, n_le0, n_eq0, n_gt0, n_lm, n_em, n_me, n_mlt, false_or, or_false, true_or, or_true, false_and, and_false, true_and, and_true, not_false_eq_true, not_true_eq_false, if_true, if_false, if_pos, if_neg, am_b01, am_b0, am_b1, ne_eq, rx_P R]
    rfl
theorem sx_isDark (R : RX g I) (B : BG g) (D : RD g J) {c h : Nat} (hc : c < gW g * gD g) (hh : h < gN g) : am_ev (am_tbl Ls xs) 168 (0, [(0, .ref 61), (1, .int (nI c)), (2, .int (nI h))], [], (am_sh, I, J)) = some (some (.int (am_b (hbt (dk g h) c))), (am_sh, I, J)) := by
  have b1 := bg_1 B
  simp (disch := omega) only [b_X5_isDark_0, b_X5_isDark_8, b_X5_isDark_41, b_X5_isDark_19, b_X5_isDark_42, Option.bind_some, am_k_v, am_k_n, ↓n_in, nI_clamp, i_p1, nI_leI, nI_ltI, nI_eq, n_lt0, n_le0, n_eq0, n_gt0, n_lm, n_em, n_me, n_mlt, false_or, or_false, true_or, or_true, false_and, and_false, true_and, and_true, not_false_eq_true, not_true_eq_false, if_true, if_false, if_pos, if_neg, am_b01, am_b0, am_b1, ne_eq, sx_hasCell' R B, sx_hasHour' R B, decide_eq_false_iff_not, D h hh, lc_eq, hb_z]
  cases hbt (dk g h) c <;> simp [am_b]
def csn (g : Vg) (c h : Nat) : Nat → Nat
  | 0 => 0
  | n + 1 => if hbt (shd g (dk g h) (gA g n) (tl g n) h) c = true then csn g c h n ||| 2 ^ n else csn g c h n
theorem csn_s {g : Vg} {c h n : Nat} : csn g c h (n + 1) = if hbt (shd g (dk g h) (gA g n) (tl g n) h) c = true then csn g c h n ||| 2 ^ n else csn g c h n := rfl
theorem csn_lt {g : Vg} (c h : Nat) : ∀ n, csn g c h n < 2 ^ n := by
  intro n
  induction n with
  | zero => exact Nat.one_pos
  | succ n ih =>
    rw [csn_s]
    have e : 2 ^ n < 2 ^ (n + 1) := Nat.pow_lt_pow_right (by decide) (by omega)
    split
    · exact Nat.or_lt_two_pow (by omega) e
    · omega
theorem i_bit : ∀ n, n < 6 → (1 : Int32) <<< (nI n &&& 31) = nI (2 ^ n) := by decide +kernel
theorem nI_or (a b : Nat) : nI a ||| nI b = nI (a ||| b) := by
  apply Int32.toBitVec_inj.mp
  rw [Int32.toBitVec_or]
  show BitVec.ofNat 32 a ||| BitVec.ofNat 32 b = BitVec.ofNat 32 (a ||| b)
  apply BitVec.eq_of_toNat_eq
  rw [BitVec.toNat_or, BitVec.toNat_ofNat, BitVec.toNat_ofNat, BitVec.toNat_ofNat, Nat.or_mod_two_pow]
theorem sx_casters (R : RX g I) (B : BG g) (D : RD g J) {c h : Nat} (hc : c < gW g * gD g) (hh : h < gN g) : am_ev (am_tbl Ls xs) 172 (0, [(0, .ref 61), (1, .int (nI c)), (2, .int (nI h))], [], (am_sh, I, J)) = some (some (.int (nI (csn g c h (gP g)))), (am_sh, I, J)) := by
  have b1 := bg_1 B
  rw [b_X5_castersOn_0]
  refine (lp (N := gP g) (f := fun k => am_ev (am_tbl Ls xs) 172 (5, [(0, .ref 61), (1, .int (nI c)), (2, .int (nI h)), (3, .int (nI (csn g c h k))), (4, .int (nI k))], [], (am_sh, I, J))) ?_).trans ?_
  · intro k hk
    have b2 := tl_le B hk
    have b3 := bg_p B hk
    try dsimp only
    rw [b_X5_castersOn_5]
    simp (disch := omega) only [b_X5_castersOn_0, b_X5_castersOn_34, b_X5_castersOn_38, b_X5_castersOn_54, Option.bind_some, am_k_v, am_k_n, ↓n_in, nI_clamp, i_p1, nI_leI, nI_ltI, nI_eq, n_lt0, n_le0, n_eq0, n_gt0, n_lm, n_em, n_me, n_mlt, false_or, or_false, true_or, or_true, false_and, and_false, true_and, and_true, not_false_eq_true, not_true_eq_false, if_true, if_false, if_pos, if_neg, am_b01, am_b0, am_b1, ne_eq, rx_P R, rx_A R, sx_tall R B, sx_shadow R B, D h hh, lc_eq, hb_z, i_bit, nI_or]
    rw [csn_s]
    by_cases h0 : hbt (shd g (dk g h) (gA g k) (tl g k) h) c = true
    · rw [if_neg (by rw [h0]; decide), if_pos h0]
    · rw [if_pos (by cases hx : hbt (shd g (dk g h) (gA g k) (tl g k) h) c; rfl; exact absurd hx h0), if_neg h0]
  · try dsimp only
    rw [b_X5_castersOn_5]
    simp (disch := omega) only [Option.bind_some, am_k_v, am_k_n, ↓n_in, nI_clamp, i_p1, nI_leI, nI_ltI, nI_eq, n_lt0, n_le0, n_eq0, n_gt0, n_lm, n_em, n_me, n_mlt, false_or, or_false, true_or, or_true, false_and, and_false, true_and, and_true, not_false_eq_true, not_true_eq_false, if_true, if_false, if_pos, if_neg, am_b01, am_b0, am_b1, ne_eq, rx_P R]
/-- x: the first who owes it -/
theorem sx_ower (R : RX g I) (B : BG g) (D : RD g J) {c h : Nat} (hc : c < gW g * gD g) (hh : h < gN g) : (∃ p, p < gP g ∧ hbt (owC g p (gA g p) (tl g p) none h) c = true ∧ am_ev (am_tbl Ls xs) 173 (0, [(0, .ref 61), (1, .int (nI c)), (2, .int (nI h))], [], (am_sh, I, J)) = some (some (.int (nI p)), (am_sh, I, J))) ∨ ((∀ p, p < gP g → hbt (owC g p (gA g p) (tl g p) none h) c = false) ∧ am_ev (am_tbl Ls xs) 173 (0, [(0, .ref 61), (1, .int (nI c)), (2, .int (nI h))], [], (am_sh, I, J)) = some (some (.int ((-1))), (am_sh, I, J))) := by
  have b1 := bg_1 B
  rw [b_X5_owerOf_0]
  have hd : ∀ k, k < gP g → am_ev (am_tbl Ls xs) 173 (2, [(0, .ref 61), (1, .int (nI c)), (2, .int (nI h)), (3, .int (nI k))], [], (am_sh, I, J)) = if hbt (owC g k (gA g k) (tl g k) none h) c = false then am_ev (am_tbl Ls xs) 173 (2, [(0, .ref 61), (1, .int (nI c)), (2, .int (nI h)), (3, .int (nI (k + 1)))], [], (am_sh, I, J)) else some (some (.int (nI k)), (am_sh, I, J)) := by
    intro k hk
    have b2 := tl_le B hk
    have b3 := bg_p B hk
    rw [b_X5_owerOf_2]
    simp (disch := omega) only [b_X5_owerOf_0, b_X5_owerOf_29, b_X5_owerOf_34, Option.bind_some, am_k_v, am_k_n, ↓n_in, nI_clamp, i_p1, nI_leI, nI_ltI, nI_eq, n_lt0, n_le0, n_eq0, n_gt0, n_lm, n_em, n_me, n_mlt, false_or, or_false, true_or, or_true, false_and, and_false, true_and, and_true, not_false_eq_true, not_true_eq_false, if_true, if_false, if_pos, if_neg, am_b01, am_b0, am_b1, ne_eq, rx_P R, rx_A R, sx_tall R B, sx_owed0 R B D, lc_eq, hb_z]
  rcases lpx (N := gP g) (f := fun k => am_ev (am_tbl Ls xs) 173 (2, [(0, .ref 61), (1, .int (nI c)), (2, .int (nI h)), (3, .int (nI k))], [], (am_sh, I, J))) (fun k => ¬ hbt (owC g k (gA g k) (tl g k) none h) c = false) (fun k hk h0 => by
    try dsimp only
    rw [hd k hk, if_pos (Classical.byContradiction h0)]) with ⟨k, h1, h2, h3, h4⟩ | ⟨h1, h2⟩
  · refine Or.inl ⟨k, h1, by cases hx : hbt (owC g k (gA g k) (tl g k) none h) c; exact absurd hx h2; rfl, h4.trans ?_⟩
    try dsimp only
    rw [hd k h1, if_neg h2]
  · refine Or.inr ⟨fun p hp => Classical.byContradiction (h1 p hp), h2.trans ?_⟩
    try dsimp only
    rw [b_X5_owerOf_2]
    simp (disch := omega) only [Option.bind_some, am_k_v, am_k_n, ↓n_in, nI_clamp, i_p1, nI_leI, nI_ltI, nI_eq, n_lt0, n_le0, n_eq0, n_gt0, n_lm, n_em, n_me, n_mlt, false_or, or_false, true_or, or_true, false_and, and_false, true_and, and_true, not_false_eq_true, not_true_eq_false, if_true, if_false, if_pos, if_neg, am_b01, am_b0, am_b1, ne_eq, rx_P R]
theorem sx_richest (R : RX g I) (B : BG g) (D : RD g J) : am_ev (am_tbl Ls xs) 182 (0, [(0, .ref 61)], [], (am_sh, I, J)) = some (some (.int (oI (fgr (obA g) (gN g)))), (am_sh, I, J)) := by
  have b1 := bg_1 B
  rw [b_X5_richestHour_0]
  refine (lp (N := gN g) (f := fun k => am_ev (am_tbl Ls xs) 182 (6, [(0, .ref 61), (1, .int (oI (fgr (obA g) k))), (2, .int (oI ((fgr (obA g) k).map (obA g)))), (3, .int (nI k))], [], (am_sh, I, J))) ?_).trans ?_
  · intro k hk
    have b2 : obA g k ≤ 288 := obA_le B (Nat.le_refl _)
    try dsimp only
    rw [b_X5_richestHour_6]
    simp (disch := omega) only [b_X5_richestHour_0, b_X5_richestHour_22, b_X5_richestHour_35, Option.bind_some, am_k_v, am_k_n, ↓n_in, nI_clamp, i_p1, nI_leI, nI_ltI, nI_eq, n_lt0, n_le0, n_eq0, n_gt0, n_lm, n_em, n_me, n_mlt, false_or, or_false, true_or, or_true, false_and, and_false, true_and, and_true, not_false_eq_true, not_true_eq_false, if_true, if_false, if_pos, if_neg, am_b01, am_b0, am_b1, ne_eq, rx_N R, sx_obA R B D]
    rw [fgr_s]
    cases hf : fgr (obA g) k with
    | none => simp (disch := omega) only [Option.map_none, Option.map_some, oI, Option.bind_some, am_k_v, am_k_n, ↓n_in, nI_clamp, i_p1, nI_leI, nI_ltI, nI_eq, n_lt0, n_le0, n_eq0, n_gt0, n_lm, n_em, n_me, n_mlt, false_or, or_false, true_or, or_true, false_and, and_false, true_and, and_true, not_false_eq_true, not_true_eq_false, if_true, if_false, if_pos, if_neg, am_b01, am_b0, am_b1, ne_eq]
    | some i =>
      have b3 : obA g i ≤ 288 := obA_le B (Nat.le_refl _)
      simp (disch := omega) only [Option.map_some, oI, Option.bind_some, am_k_v, am_k_n, ↓n_in, nI_clamp, i_p1, nI_leI, nI_ltI, nI_eq, n_lt0, n_le0, n_eq0, n_gt0, n_lm, n_em, n_me, n_mlt, false_or, or_false, true_or, or_true, false_and, and_false, true_and, and_true, not_false_eq_true, not_true_eq_false, if_true, if_false, if_pos, if_neg, am_b01, am_b0, am_b1, ne_eq]
      by_cases h0 : obA g i < obA g k
      · rw [if_neg (by omega), if_pos h0]; rfl
      · rw [if_pos (by omega), if_neg h0]; rfl
  · try dsimp only
    rw [b_X5_richestHour_6]
    simp (disch := omega) only [Option.bind_some, am_k_v, am_k_n, ↓n_in, nI_clamp, i_p1, nI_leI, nI_ltI, nI_eq, n_lt0, n_le0, n_eq0, n_gt0, n_lm, n_em, n_me, n_mlt, false_or, or_false, true_or, or_true, false_and, and_false, true_and, and_true, not_false_eq_true, not_true_eq_false, if_true, if_false, if_pos, if_neg, am_b01, am_b0, am_b1, ne_eq, rx_N R]
theorem sx_somebody (R : RX g I) (B : BG g) {c : Nat} (hc : c < 1000) : ∃ b, am_ev (am_tbl Ls xs) 171 (0, [(0, .ref 61), (1, .int (nI c))], [], (am_sh, I, J)) = some (some (.int (am_b b)), (am_sh, I, J)) ∧ (b = true ↔ ∃ p, p < gP g ∧ gA g p = c) := by
  have b1 := bg_1 B
  rw [b_X5_somebodyIsOn_0]
  have hd : ∀ k, k < gP g → am_ev (am_tbl Ls xs) 171 (2, [(0, .ref 61), (1, .int (nI c)), (2, .int (nI k))], [], (am_sh, I, J)) = if ¬ gA g k = c then am_ev (am_tbl Ls xs) 171 (2, [(0, .ref 61), (1, .int (nI c)), (2, .int (nI (k + 1)))], [], (am_sh, I, J)) else some (some (.int 1), (am_sh, I, J)) := by
    intro k hk
    have b3 := bg_p B hk
    rw [b_X5_somebodyIsOn_2]
    simp (disch := omega) only [Option.bind_some, am_k_v, am_k_n, ↓n_in, nI_clamp, i_p1, nI_leI, nI_ltI, nI_eq, n_lt0, n_le0, n_eq0, n_gt0, n_lm, n_em, n_me, n_mlt, false_or, or_false, true_or, or_true, false_and, and_false, true_and, and_true, not_false_eq_true, not_true_eq_false, if_true, if_false, if_pos, if_neg, am_b01, am_b0, am_b1, ne_eq, rx_P R, rx_A R]
  rcases lpx (N := gP g) (f := fun k => am_ev (am_tbl Ls xs) 171 (2, [(0, .ref 61), (1, .int (nI c)), (2, .int (nI k))], [], (am_sh, I, J))) (fun k => gA g k = c) (fun k hk h0 => by
    try dsimp only
    rw [hd k hk, if_pos h0]) with ⟨k, h1, h2, h3, h4⟩ | ⟨h1, h2⟩
  · refine ⟨true, h4.trans ?_, ⟨fun _ => ⟨k, h1, h2⟩, fun _ => rfl⟩⟩
    try dsimp only
    rw [hd k h1, if_neg (by intro q; exact q h2)]
    rfl
  · refine ⟨false, h2.trans ?_, ⟨(fun q => by cases q), fun ⟨p, q1, q2⟩ => absurd q2 (h1 p q1)⟩⟩
    try dsimp only
    rw [b_X5_somebodyIsOn_2]
    simp (disch := omega) only [Option.bind_some, am_k_v, am_k_n, ↓n_in, nI_clamp, i_p1, nI_leI, nI_ltI, nI_eq, n_lt0, n_le0, n_eq0, n_gt0, n_lm, n_em, n_me, n_mlt, false_or, or_false, true_or, or_true, false_and, and_false, true_and, and_true, not_false_eq_true, not_true_eq_false, if_true, if_false, if_pos, if_neg, am_b01, am_b0, am_b1, ne_eq, rx_P R]
    rfl
theorem sx_darken (R : RX g I) (B : BG g) : am_ev (am_tbl Ls xs) 167 (0, [(0, .ref 61)], [], (am_sh, I, J)) = some (none, (am_sh, I, wri J 62 (gN g) (dk g))) := by
  have b1 := bg_1 B
  rw [b_X5_darken_0]
  refine Eq.trans ?_ ((lp (N := gN g) (f := fun k => am_ev (am_tbl Ls xs) 167 (2, [(0, .ref 61), (1, .int (nI k))], [], (am_sh, I, wri J 62 k (dk g)))) ?_).trans ?_)
  · show _ = am_ev (am_tbl Ls xs) 167 (2, [(0, .ref 61), (1, .int (nI 0))], [], (am_sh, I, wri J 62 0 (dk g)))
    rw [wr_0]; rfl
  · intro h hh
    have b2 := bg_h B hh
    try dsimp only
    rw [b_X5_darken_2]
    simp (disch := omega) only [Option.bind_some, am_k_v, am_k_n, ↓n_in, nI_clamp, i_p1, nI_leI, nI_ltI, nI_eq, n_lt0, n_le0, n_eq0, n_gt0, n_lm, n_em, n_me, n_mlt, false_or, or_false, true_or, or_true, false_and, and_false, true_and, and_true, not_false_eq_true, not_true_eq_false, if_true, if_false, if_pos, if_neg, am_b01, am_b0, am_b1, ne_eq, rx_N R]
    refine (lp (N := gW g * gD g) (f := fun k => am_ev (am_tbl Ls xs) 167 (22, [(0, .ref 61), (1, .int (nI h)), (2, .int (nI k))], [], (am_sh, I, am_up2 (wri J 62 h (dk g)) 62 h (dkl g h k)))) ?_).trans ?_
    · intro k hk
      have b3 := bg_H B (show k < 48 by omega)
      try dsimp only
      rw [b_X5_darken_22]
      simp (disch := omega) only [b_X5_darken_0, b_X5_darken_69, b_X5_darken_67, Option.bind_some, am_k_v, am_k_n, ↓n_in, nI_clamp, i_p1, nI_leI, nI_ltI, nI_eq, n_lt0, n_le0, n_eq0, n_gt0, n_lm, n_em, n_me, n_mlt, false_or, or_false, true_or, or_true, false_and, and_false, true_and, and_true, not_false_eq_true, not_true_eq_false, if_true, if_false, if_pos, if_neg, am_b01, am_b0, am_b1, ne_eq, rx_C R, rx_H R, sx_shadow R B, up_eq, up_up]
      rw [show dkl g h (k + 1) = dkl g h k ||| (if gH g k = 0 then 0 else rayN (gW g) (gD g) (gH g) (gX g h) (gY g h) (gH g k * gL g h) k 0) from rfl]
      by_cases h0 : gH g k = 0
      · rw [if_pos h0, if_pos h0, l_oz]
      · rw [if_neg h0, if_neg h0]
        have hk : hbt (dkl g h k) k = false := by
          cases hx : hbt (dkl g h k) k
          · rfl
          · exact absurd (dkl_free (show k < 64 by omega) b1.1 _ hx).2 h0
        unfold shd
        rw [if_neg (by rw [hk]; decide)]
    · try dsimp only
      rw [b_X5_darken_22]
      simp (disch := omega) only [Option.bind_some, am_k_v, am_k_n, ↓n_in, nI_clamp, i_p1, nI_leI, nI_ltI, nI_eq, n_lt0, n_le0, n_eq0, n_gt0, n_lm, n_em, n_me, n_mlt, false_or, or_false, true_or, or_true, false_and, and_false, true_and, and_true, not_false_eq_true, not_true_eq_false, if_true, if_false, if_pos, if_neg, am_b01, am_b0, am_b1, ne_eq, rx_C R]
      rw [show dkl g h (gW g * gD g) = dk g h from rfl, wr_s]
  · try dsimp only
    rw [b_X5_darken_2]
    simp (disch := omega) only [Option.bind_some, am_k_v, am_k_n, ↓n_in, nI_clamp, i_p1, nI_leI, nI_ltI, nI_eq, n_lt0, n_le0, n_eq0, n_gt0, n_lm, n_em, n_me, n_mlt, false_or, or_false, true_or, or_true, false_and, and_false, true_and, and_true, not_false_eq_true, not_true_eq_false, if_true, if_false, if_pos, if_neg, am_b01, am_b0, am_b1, ne_eq, rx_N R]
theorem rd_darken {J : Nat → Nat → Int64} : RD g (wri J 62 (gN g) (dk g)) := fun h hh => wr_in hh
end
