/-! BOTH READ: a statement, all of them -/
def SXF (Ls : Nat) (xs : Nat → Int32) (T : Nat → Nat) (n : Nat) (g : Vg) (hs gr a F : Nat) (p : Int32) : Prop := ∀ (I : Nat → Nat → Int32) (J : Nat → Nat → Int64) (q : Int32), TX T n I → DX g hs gr I → ∃ k' q', am_ev (am_tbl Ls xs) 146 (0, [(0, .ref 1), (1, .ref 3)], [], (am_sh, rdS I a (0, -1) q, J)) = some (none, (am_sh, rdS I k' (F, p) q', J))
def SXO (Ls : Nat) (xs : Nat → Int32) (T : Nat → Nat) (n : Nat) (g : Vg) (hs gr a k2 : Nat) (g2 : Vg) (hs2 gr2 : Nat) : Prop := ∀ (I : Nat → Nat → Int32) (J : Nat → Nat → Int64) (q : Int32), TX T n I → DX g hs gr I → ∃ I' q', am_ev (am_tbl Ls xs) 146 (0, [(0, .ref 1), (1, .ref 3)], [], (am_sh, rdS I a (0, -1) q, J)) = some (none, (am_sh, rdS I' k2 (0, -1) q', J)) ∧ DX g2 hs2 gr2 I' ∧ frC I I'
def SMF (Ls : Nat) (xs : Nat → Int32) (T : Nat → Nat) (n : Nat) (g : Vg) (hs gr a F : Nat) (p : Int32) : Prop := ∀ (I : Nat → Nat → Int32) (J : Nat → Nat → Int64) (v q : Int32), TM T n I → DM g hs gr I → ∃ I' J', am_ev (am_tbl Ls xs) 24 (0, [(0, .ref 81)], [], (am_sh, mdM I a (-1) v q, J)) = some (some (.int (nI F)), (am_sh, I', J')) ∧ I' 81 19 = p ∧ frR I I' ∧ ∀ j, J' 62 j = J 62 j
def SMO (Ls : Nat) (xs : Nat → Int32) (T : Nat → Nat) (n : Nat) (g : Vg) (hs gr a k2 : Nat) (g2 : Vg) (hs2 gr2 : Nat) : Prop := ∀ (I : Nat → Nat → Int32) (J : Nat → Nat → Int64) (v q : Int32), TM T n I → DM g hs gr I → ∃ I' J' v' q', am_ev (am_tbl Ls xs) 24 (0, [(0, .ref 81)], [], (am_sh, mdM I a (-1) v q, J)) = some (some (.int 0), (am_sh, mdM I' k2 (-1) v' q', J')) ∧ DM g2 hs2 gr2 I' ∧ frR I I' ∧ ∀ j, J' 62 j = J 62 j
def SK (Ls : Nat) (xs : Nat → Int32) (T : Nat → Nat) (n : Nat) (g : Vg) (hs gr a : Nat) : Prop :=
  (∃ F p, F ≠ 0 ∧ F < 100 ∧ SXF Ls xs T n g hs gr a F p ∧ SMF Ls xs T n g hs gr a F p) ∨
  (∃ k2 g2 hs2 gr2, a < k2 ∧ k2 ≤ n ∧ BD g2 hs2 gr2 ∧ SXO Ls xs T n g hs gr a k2 g2 hs2 gr2 ∧ SMO Ls xs T n g hs gr a k2 g2 hs2 gr2)
section
variable {Ls : Nat} {xs : Nat → Int32} {g : Vg} {hs gr : Nat} {I I' I'' : Nat → Nat → Int32} {J J' : Nat → Nat → Int64} {T : Nat → Nat} {n k a F : Nat} {P v q p : Int32}
theorem dm_22 {z : Int32} (D : DM g hs gr I) : DM g hs gr (am_up2 I 81 22 z) := by
  obtain ⟨⟨a1, a2, a3, a4, a5, a6⟩, b1, b2, b3⟩ := D
  have e : ∀ r j, (r ≠ 81 ∨ j ≠ 22) → am_up2 I 81 22 z r j = I r j := fun r j h => up_ne (by omega)
  exact ⟨⟨(e _ _ (by omega)).trans a1, (e _ _ (by omega)).trans a2, (e _ _ (by omega)).trans a3, (e _ _ (by omega)).trans a4, (e _ _ (by omega)).trans a5, (e _ _ (by omega)).trans a6⟩, fun h hh => ⟨(congrArg Int32.toInt (e _ _ (by omega))).trans (b1 h hh).1, (congrArg Int32.toInt (e _ _ (by omega))).trans (b1 h hh).2.1, (e _ _ (by omega)).trans (b1 h hh).2.2.1, (e _ _ (by omega)).trans (b1 h hh).2.2.2⟩, fun p hp => ⟨(e _ _ (by omega)).trans (b2 p hp).1, (e _ _ (by omega)).trans (b2 p hp).2⟩, fun d hd => (e _ _ (by omega)).trans (b3 d hd)⟩
/-- the reference up to the word -/
theorem sp_159 (X : TM T n I) (ha : a ≤ n) (hb : nQ T n a = a) : am_ev (am_tbl Ls xs) 24 (0, [(0, .ref 81)], [], (am_sh, mdM I a P v q, J)) = am_ev (am_tbl Ls xs) 24 (159, [(0, .ref 81)], [.int (wI (cdn T a (lE T n a - a)))], (am_sh, mdM (am_up2 I 81 22 (nI (lE T n a))) a P v q, am_up2 J 81 21 (lN (cdn T a (lE T n a - a))))) := by
  have g1 : a ≤ lE T n a := sk_ge
  have g2 : lE T n a ≤ n := sk_le ha
  have hL : ∀ j, j < lE T n a - a → 97 ≤ T (a + j) ∧ T (a + j) ≤ 122 := fun j hj => of_decide_eq_true (sk_all (p := ltr T) (n := n) (k := a) (Nat.le_add_right _ _) (show a + j < lE T n a by omega))
  have hc := cdn_le (T := T) (a := a) _ hL
  have hw := sp_word (Ls := Ls) (xs := xs) (J := J) (P := P) (v := v) (q := q) X ha
  rw [hb] at hw
  rw [b_X9_takeClause_0, hw, Option.bind_some, am_k_n]
  exact sp_disp (by omega) up_eq
theorem isw_cd (ha : a ≤ n) {x : Nat} (hx : x < 5) : cdn T a (lE T n a - a) = cdw x ↔ isw T a (lE T n a) x = true := by
  have g1 : a ≤ lE T n a := sk_ge
  have hL : ∀ j, j < lE T n a - a → 97 ≤ T (a + j) ∧ T (a + j) ≤ 122 := fun j hj => of_decide_eq_true (sk_all (p := ltr T) (n := n) (k := a) (Nat.le_add_right _ _) (show a + j < lE T n a by omega))
  have h := cd_isw hL hx
  rw [show a + (lE T n a - a) = lE T n a by omega] at h
  exact h
/-- one word alone -/
theorem isw_ne (ha : a ≤ n) {x y : Nat} (hx : x < 5) (hy : y < 5) (hxy : x ≠ y) (h : isw T a (lE T n a) x = true) : isw T a (lE T n a) y = false := by
  refine Bool.eq_false_iff.mpr (fun z => ?_)
  have e1 := (isw_cd (n := n) ha hx).mpr h
  have e2 := (isw_cd (n := n) ha hy).mpr z
  have hd : ∀ x, x < 5 → ∀ y, y < 5 → x ≠ y → cdw x ≠ cdw y := by decide +kernel
  exact hd x hx y hy hxy (e1.symm.trans e2)
theorem wI_x (ha : a ≤ n) {x : Nat} (hx : x < 5) (h : isw T a (lE T n a) x = true) : wI (cdn T a (lE T n a - a)) = nI x := by
  rw [(isw_cd (n := n) ha hx).mpr h]
  have hd : ∀ x, x < 5 → wI (cdw x) = nI x := by decide +kernel
  exact hd x hx
theorem wI_n (ha : a ≤ n) (h : ∀ x, x < 5 → isw T a (lE T n a) x = false) : wI (cdn T a (lE T n a - a)) = -1 := by
  have e : ∀ x, x < 5 → cdn T a (lE T n a - a) ≠ cdw x := fun x hx z => by
    have := (isw_cd (n := n) ha hx).mp z
    rw [h x hx] at this; cases this
  obtain ⟨c0, c1, c2, c3, c4⟩ := cd_v
  have e0 := e 0 (by omega)
  have e1 := e 1 (by omega)
  have e2 := e 2 (by omega)
  have e3 := e 3 (by omega)
  have e4 := e 4 (by omega)
  rw [c0] at e0
  rw [c1] at e1
  rw [c2] at e2
  rw [c3] at e3
  rw [c4] at e4
  unfold wI
  rw [if_neg e0, if_neg e1, if_neg e2, if_neg e3, if_neg e4]
theorem sp_185 {i : Nat} (hi : i = 0 ∨ (i < 5 ∧ ∃ w, 1 ≤ w ∧ w < 1000 ∧ I 81 25 = nI w)) : am_ev (am_tbl Ls xs) 24 (159, [(0, .ref 81)], [.int (nI i)], (am_sh, I, J)) = am_ev (am_tbl Ls xs) 24 (185, [(0, .ref 81), (2, .int (nI i))], [], (am_sh, I, J)) := by
  rw [b_X9_takeClause_159]
  rcases hi with h | ⟨h, w, w1, w2, e⟩
  · rw [h, if_neg (show ¬ nI 0 < 0 by decide), if_pos (show nI 0 ≤ 0 by decide)]
  · rw [if_neg (nI_pos (by omega))]
    by_cases z : nI i ≤ 0
    · rw [if_pos z]
    · rw [if_neg z, e, if_pos (show nI w ≠ 0 from fun z => by have := (n_eq0 (by omega)).mp z; omega)]
theorem sp_175 {i : Int32} (hi : i = -1 ∨ ((∃ m, 1 ≤ m ∧ m < 5 ∧ i = nI m) ∧ I 81 25 = nI 0)) : am_ev (am_tbl Ls xs) 24 (159, [(0, .ref 81)], [.int i], (am_sh, mdM I a P v q, J)) = some (some (.int 1), (am_sh, mdM I a (nI a) v q, J)) := by
  have h : am_ev (am_tbl Ls xs) 24 (159, [(0, .ref 81)], [.int i], (am_sh, mdM I a P v q, J)) = am_ev (am_tbl Ls xs) 24 (175, [(0, .ref 81)], [], (am_sh, mdM I a P v q, J)) := by
    rw [b_X9_takeClause_159]
    rcases hi with h | ⟨⟨m, m1, m2, h⟩, e⟩
    · rw [h, if_pos (show (-1 : Int32) < 0 by decide)]
    · rw [h, if_neg (nI_pos (by omega)), if_neg (i_le0' m1 (by omega)), mdo (by omega), e, if_neg (show ¬ nI 0 ≠ 0 from fun z => z rfl)]
  rw [h, b_X9_takeClause_175, md20, sp_failsM, Option.bind_some, am_k_v, b_X9_takeClause_184]
/-- a kind's outcome is the statement's -/
theorem sk_of {kx i : Nat} (ha : a ≤ n) (hb : nQ T n a = a) (hi : i < 5) (hw : isw T a (lE T n a) i = true) (h0 : i = 0 ∨ 1 ≤ gW g) (h9 : gW g ≤ 9)
    (hx : ∀ (I : Nat → Nat → Int32) (J : Nat → Nat → Int64) (q : Int32) (Z : Nat → Nat → Int32), TX T n I → DX g hs gr I → am_ev (am_tbl Ls xs) kx (0, [(0, .ref 1), (1, .ref 3), (2, .int (nI a))], [], (am_sh, rdS I (lE T n a) (0, -1) q, J)) = some (none, (am_sh, Z, J)) → am_ev (am_tbl Ls xs) 146 (0, [(0, .ref 1), (1, .ref 3)], [], (am_sh, rdS I a (0, -1) q, J)) = some (none, (am_sh, Z, J)))
    (L : LK Ls xs T n g hs gr a (lE T n a) kx i) : SK Ls xs T n g hs gr a := by
  have g1 : a ≤ lE T n a := sk_ge
  have hm : ∀ (I : Nat → Nat → Int32) (J : Nat → Nat → Int64) (v q : Int32), TM T n I → DM g hs gr I → am_ev (am_tbl Ls xs) 24 (0, [(0, .ref 81)], [], (am_sh, mdM I a (-1) v q, J)) = am_ev (am_tbl Ls xs) 24 (185, [(0, .ref 81), (2, .int (nI i))], [], (am_sh, mdM (am_up2 I 81 22 (nI (lE T n a))) a (-1) v q, am_up2 J 81 21 (lN (cdn T a (lE T n a - a))))) := fun I J v q X D => by
    rw [sp_159 X ha hb, wI_x ha hi hw]
    refine sp_185 ?_
    rcases h0 with z | z
    · exact Or.inl z
    · exact Or.inr ⟨hi, gW g, z, by omega, (mdo (by omega)).trans (dm_22 D).1.1⟩
  have fr22 : ∀ (I : Nat → Nat → Int32), frR I (am_up2 I 81 22 (nI (lE T n a))) := fun I => frR_up (by omega) frR_r
  rcases L with ⟨F, p, hF, hF2, hX, hM⟩ | ⟨k2, g2, hs2, gr2, hk1, hk2, hB, hX, hM⟩
  · refine Or.inl ⟨F, p, hF, hF2, fun I J q X D => ?_, fun I J v q X D => ?_⟩
    · obtain ⟨k', q', e⟩ := hX I J q X D
      exact ⟨k', q', hx I J q _ X D e⟩
    · obtain ⟨I', e, h19, hf⟩ := hM (am_up2 I 81 22 (nI (lE T n a))) (am_up2 J 81 21 (lN (cdn T a (lE T n a - a)))) v q (tm_fr (fr22 I) X) (dm_22 D) up_eq
      exact ⟨I', _, (hm I J v q X D).trans e, h19, frR_tr (fr22 I) hf, fun j => up_ne (by omega)⟩
  · refine Or.inr ⟨k2, g2, hs2, gr2, by omega, hk2, hB, fun I J q X D => ?_, fun I J v q X D => ?_⟩
    · obtain ⟨I', q', e, D', hf⟩ := hX I J q X D
      exact ⟨I', q', hx I J q _ X D e, D', hf⟩
    · obtain ⟨I', v', q', e, D', hf⟩ := hM (am_up2 I 81 22 (nI (lE T n a))) (am_up2 J 81 21 (lN (cdn T a (lE T n a - a)))) v q (tm_fr (fr22 I) X) (dm_22 D) up_eq
      exact ⟨I', _, v', q', (hm I J v q X D).trans e, D', frR_tr (fr22 I) hf, fun j => up_ne (by omega)⟩
theorem st_ground1 (hw : isw T a k 0 = false) (hk : k ≤ n) (ha : a ≤ k) : XF Ls xs T n g hs gr a k 147 1 (nI a) := by
  intro I J q X D
  have hne : (1 : Nat) ≠ 0 := by omega
  obtain ⟨s0, e0⟩ : ∃ z, z = st (0, -1) (if isw T a k 0 = true then 0 else 1) (nI a) := ⟨_, rfl⟩
  obtain ⟨s1, e1⟩ : ∃ z, z = st s0 (nF T n k 1 9) (nI (nQ T n k)) := ⟨_, rfl⟩
  obtain ⟨x, yy1⟩ : ∃ z, z = if s1.1 = 0 then nV T n k else 1 := ⟨_, rfl⟩
  obtain ⟨s2, e2⟩ : ∃ z, z = st s1 (nF T n (nK T n k) 1 9) (nI (nQ T n (nK T n k))) := ⟨_, rfl⟩
  obtain ⟨y, yy2⟩ : ∃ z, z = if s2.1 = 0 then nV T n (nK T n k) else 1 := ⟨_, rfl⟩
  obtain ⟨s3, e3⟩ : ∃ z, z = st s2 (if x * y ≤ 48 then 0 else 2) (nI (nQ T n (nK T n k))) := ⟨_, rfl⟩
  obtain ⟨s4, e4⟩ : ∃ z, z = st s3 (eF T n (nK T n (nK T n k))) (nI (nQ T n (nK T n (nK T n k)))) := ⟨_, rfl⟩
  have z0 : s0 = (1, nI a) := by rw [e0, if_neg (by rw [hw]; decide), st_1 hne]
  have z1 : s1 = (1, nI a) := by rw [e1, z0, st_n (show ((1 : Nat), nI a).1 ≠ 0 from hne)]
  have z2 : s2 = (1, nI a) := by rw [e2, z1, st_n (show ((1 : Nat), nI a).1 ≠ 0 from hne)]
  have z3 : s3 = (1, nI a) := by rw [e3, z2, st_n (show ((1 : Nat), nI a).1 ≠ 0 from hne)]
  have z4 : s4 = (1, nI a) := by rw [e4, z3, st_n (show ((1 : Nat), nI a).1 ≠ 0 from hne)]
  have h := sx_groundS X hk (s := (0, -1)) rfl ha e0 e1 rfl yy1 e2 rfl yy2 e3 e4 rfl (Ls := Ls) (xs := xs) (J := J) (q := q)
  rw [z4, if_neg (show ¬ ((1 : Nat), nI a).1 = 0 from hne)] at h
  exact ⟨_, _, h⟩
/-- a statement -/
theorem sk_all_of (H : BD g hs gr) (ha : a < n) (hb : nQ T n a = a) : SK Ls xs T n g hs gr a := by
  have q1 := bg_1 H.1.1
  have g1 : a ≤ lE T n a := sk_ge
  have g2 : lE T n a ≤ n := sk_le (by omega)
  have fr22 : ∀ (I : Nat → Nat → Int32), frR I (am_up2 I 81 22 (nI (lE T n a))) := fun I => frR_up (by omega) frR_r
  by_cases hW : gW g = 0
  · cases w0 : isw T a (lE T n a) 0
    · refine Or.inl ⟨1, nI a, by omega, by omega, fun I J q X D => ?_, fun I J v q X D => ?_⟩
      · obtain ⟨k', q', e⟩ := st_ground1 (Ls := Ls) (xs := xs) (g := g) (hs := hs) (gr := gr) w0 g2 g1 I J q X D
        exact ⟨k', q', sx_stm0 X D (by omega) hW e⟩
      · refine ⟨mdM (am_up2 I 81 22 (nI (lE T n a))) a (nI a) v q, am_up2 J 81 21 (lN (cdn T a (lE T n a - a))), ?_, rfl, frR_md (fr22 I), fun j => up_ne (by omega)⟩
        rw [sp_159 X (by omega) hb]
        refine sp_175 ?_
        by_cases hn : ∀ x, x < 5 → isw T a (lE T n a) x = false
        · exact Or.inl (wI_n (by omega) hn)
        · refine Or.inr ⟨?_, (dm_22 D).1.1.trans (by rw [hW])⟩
          have : ∃ x, x < 5 ∧ isw T a (lE T n a) x = true := by
            refine Classical.byContradiction (fun z => hn (fun x hx => Bool.eq_false_iff.mpr (fun w => z ⟨x, hx, w⟩)))
          obtain ⟨x, hx, hw⟩ := this
          have hx0 : x ≠ 0 := fun z => by rw [z, w0] at hw; cases hw
          exact ⟨x, by omega, hx, wI_x (by omega) hx hw⟩
    · exact sk_of (by omega) hb (by omega) w0 (Or.inl rfl) (by omega) (fun I J q Z X D e => sx_stm0 X D (by omega) hW e) (lk_ground H hW g2 g1 w0)
  · have hW1 : 1 ≤ gW g := by omega
    cases w1 : isw T a (lE T n a) 1
    · cases w2 : isw T a (lE T n a) 2
      · cases w3 : isw T a (lE T n a) 3
        · cases w4 : isw T a (lE T n a) 4
          · cases w0 : isw T a (lE T n a) 0
            · refine Or.inl ⟨1, nI a, by omega, by omega, fun I J q X D => ?_, fun I J v q X D => ?_⟩
              · have h := sx_stm5 (Ls := Ls) (xs := xs) (J := J) (s := (0, -1)) (q := q) X D H.1.1 (show a ≤ n by omega) hW (by show 0 < 100; omega) w1 w2 w3 w4
                rw [w0, if_neg (by decide), st_1 (by omega)] at h
                exact ⟨_, _, h⟩
              · refine ⟨mdM (am_up2 I 81 22 (nI (lE T n a))) a (nI a) v q, am_up2 J 81 21 (lN (cdn T a (lE T n a - a))), ?_, rfl, frR_md (fr22 I), fun j => up_ne (by omega)⟩
                rw [sp_159 X (by omega) hb]
                refine sp_175 (Or.inl (wI_n (by omega) (fun x hx => ?_)))
                have : x = 0 ∨ x = 1 ∨ x = 2 ∨ x = 3 ∨ x = 4 := by omega
                rcases this with z | z | z | z | z <;> subst z <;> assumption
            · refine Or.inl ⟨3, nI a, by omega, by omega, fun I J q X D => ?_, fun I J v q X D => ?_⟩
              · have h := sx_stm5 (Ls := Ls) (xs := xs) (J := J) (s := (0, -1)) (q := q) X D H.1.1 (show a ≤ n by omega) hW (by show 0 < 100; omega) w1 w2 w3 w4
                rw [w0, if_pos rfl, st_1 (by omega)] at h
                exact ⟨_, _, h⟩
              · refine ⟨mdM (am_up2 I 81 22 (nI (lE T n a))) a (nI a) v q, am_up2 J 81 21 (lN (cdn T a (lE T n a - a))), ?_, rfl, frR_md (fr22 I), fun j => up_ne (by omega)⟩
                rw [sp_159 X (by omega) hb, wI_x (by omega) (by omega) w0, sp_185 (Or.inl rfl)]
                exact sp_k0f hW1 (by omega) (dm_22 D).1.1
          · exact sk_of (by omega) hb (by omega) w4 (Or.inr hW1) (by omega) (fun I J q Z X D e => sx_stm4 X D H.1.1 (by omega) hW w1 w2 w3 w4 e) (lk_grey H g2)
        · exact sk_of (by omega) hb (by omega) w3 (Or.inr hW1) (by omega) (fun I J q Z X D e => sx_stm3 X D H.1.1 (by omega) hW w1 w2 w3 e) (lk_person H hW1 g2)
      · exact sk_of (by omega) hb (by omega) w2 (Or.inr hW1) (by omega) (fun I J q Z X D e => sx_stm2 X D H.1.1 (by omega) hW w1 w2 e) (lk_sun H hW1 g2)
    · exact sk_of (by omega) hb (by omega) w1 (Or.inr hW1) (by omega) (fun I J q Z X D e => sx_stm1 X D H.1.1 (by omega) hW w1 e) (lk_house H hW1 g2)
/-! the whole text -/
def LO (Ls : Nat) (xs : Nat → Int32) (T : Nat → Nat) (n : Nat) (g : Vg) (hs gr k : Nat) : Prop :=
  (∃ F p, F ≠ 0 ∧ F < 100 ∧
    (∀ (i : Nat) (I : Nat → Nat → Int32) (J : Nat → Nat → Int64) (q : Int32), i ≤ k → TX T n I → DX g hs gr I → ∃ I' k' q', am_ev (am_tbl Ls xs) 145 (31, [(0, .ref 1), (1, .ref 3), (2, .int (nI i))], [], (am_sh, rdS I k (0, -1) q, J)) = some (some (.int (nI F)), (am_sh, am_up2 (rdS I' k' (F, p) q') 1 6 0, J)) ∧ frC I I') ∧
    (∀ (I : Nat → Nat → Int32) (J : Nat → Nat → Int64) (v q : Int32), TM T n I → DM g hs gr I → ∃ I' J', am_ev (am_tbl Ls xs) 25 (63, [(0, .ref 81), (1, .int 0)], [], (am_sh, mdM I k (-1) v q, J)) = some (some (.int ((-10) - nI F)), (am_sh, am_up2 I' 81 18 0, J')) ∧ I' 81 19 = p ∧ frR I I' ∧ ∀ j, J' 62 j = J 62 j)) ∨
  (∃ g2 hs2 gr2, BD g2 hs2 gr2 ∧
    (∀ (i : Nat) (I : Nat → Nat → Int32) (J : Nat → Nat → Int64) (q : Int32), i ≤ k → TX T n I → DX g hs gr I → ∃ I' k' q', am_ev (am_tbl Ls xs) 145 (31, [(0, .ref 1), (1, .ref 3), (2, .int (nI i))], [], (am_sh, rdS I k (0, -1) q, J)) = some (some (.int 0), (am_sh, am_up2 (rdS I' k' (0, -1) q') 1 6 0, J)) ∧ DX g2 hs2 gr2 I' ∧ frC I I') ∧
    (∀ (I : Nat → Nat → Int32) (J : Nat → Nat → Int64) (v q : Int32), TM T n I → DM g hs gr I → ∃ I' J', am_ev (am_tbl Ls xs) 25 (63, [(0, .ref 81), (1, .int 0)], [], (am_sh, mdM I k (-1) v q, J)) = am_ev (am_tbl Ls xs) 25 (82, [(0, .ref 81), (1, .int 0)], [], (am_sh, I', J')) ∧ DM g2 hs2 gr2 I' ∧ I' 81 19 = -1 ∧ frR I I' ∧ ∀ j, J' 62 j = J 62 j))
theorem sx_blanksS {s : Sf} (X : TX T n I) (hk : k ≤ n) : am_ev (am_tbl Ls xs) 155 (0, [(0, .ref 1)], [], (am_sh, rdS I k s q, J)) = some (none, (am_sh, rdS I (nQ T n k) s q, J)) := sx_blanks X hk
theorem dm_md (D : DM g hs gr I) : DM g hs gr (mdM I k P v q) := by
  obtain ⟨⟨a1, a2, a3, a4, a5, a6⟩, b1, b2, b3⟩ := D
  have e : ∀ r j, (r ≠ 81 ∨ (j ≠ 20 ∧ j ≠ 19 ∧ j ≠ 23 ∧ j ≠ 24)) → mdM I k P v q r j = I r j := fun r j h => mdo h
  exact ⟨⟨(e _ _ (by omega)).trans a1, (e _ _ (by omega)).trans a2, (e _ _ (by omega)).trans a3, (e _ _ (by omega)).trans a4, (e _ _ (by omega)).trans a5, (e _ _ (by omega)).trans a6⟩, fun h hh => ⟨(congrArg Int32.toInt (e _ _ (by omega))).trans (b1 h hh).1, (congrArg Int32.toInt (e _ _ (by omega))).trans (b1 h hh).2.1, (e _ _ (by omega)).trans (b1 h hh).2.2.1, (e _ _ (by omega)).trans (b1 h hh).2.2.2⟩, fun p hp => ⟨(e _ _ (by omega)).trans (b2 p hp).1, (e _ _ (by omega)).trans (b2 p hp).2⟩, fun d hd => (e _ _ (by omega)).trans (b3 d hd)⟩
theorem ls_loop (hn : n ≤ 500) (hT : ∀ j, j < n → T j < 256) : ∀ d k g hs gr, n - k ≤ d → k ≤ n → BD g hs gr → LO Ls xs T n g hs gr k := by
  intro d
  induction d with
  | zero =>
    intro k g hs gr hd hk H
    have hkn : k = n := by omega
    subst hkn
    have ha : nQ T k k = k := by
      have h1 := nQ_ge (T := T) (n := k) (k := k)
      have h2 := nQ_le (T := T) (n := k) (k := k) (Nat.le_refl k)
      omega
    refine Or.inr ⟨g, hs, gr, H, fun i I J q hi X D => ⟨I, k, q, ?_, D, fun _ _ _ => rfl⟩, fun I J v q X D => ⟨mdM I k (-1) v q, J, ?_, ?_, ?_, ?_, fun _ => rfl⟩⟩
    · rw [b_X3_readInto_31, if_neg (show ¬ (500 : Int32) < nI i from nI_nlt (a := 500) (by omega) (by omega)), rs2, if_neg (show ¬ nI ((0, -1) : Sf).1 ≠ 0 from fun z => z rfl), sx_blanksS X (Nat.le_refl k), Option.bind_some, am_k_n, b_X3_readInto_49, rs1, rs6, X.1, ha, if_neg (nI_nlt (Nat.le_refl k) (by omega)), b_X3_readInto_74]
      rfl
    · rw [b_X9_ground_63, if_neg (show ¬ (0 : Int32) ≠ 0 by decide), sp_here X (Nat.le_refl k), Option.bind_some, am_k_v, b_X9_ground_71, ha, show hrV T k k = -1 from if_neg (by omega), if_pos (show (-1 : Int32) < 0 by decide)]
    · exact dm_md D
    · rfl
    · exact frR_md frR_r
  | succ d ih =>
    intro k g hs gr hd hk H
    have g1 := nQ_ge (T := T) (n := n) (k := k)
    have g2 := nQ_le (T := T) hk
    by_cases c : nQ T n k < n
    · have hb : nQ T n (nQ T n k) = nQ T n k := sk_sk hk
      have ex : ∀ (i : Nat) (I : Nat → Nat → Int32) (J : Nat → Nat → Int64) (q : Int32), i ≤ k → TX T n I → am_ev (am_tbl Ls xs) 145 (31, [(0, .ref 1), (1, .ref 3), (2, .int (nI i))], [], (am_sh, rdS I k (0, -1) q, J)) = (am_ev (am_tbl Ls xs) 146 (0, [(0, .ref 1), (1, .ref 3)], [], (am_sh, rdS I (nQ T n k) (0, -1) q, J))).bind (am_k (am_tbl Ls xs) 145 68 [(0, .ref 1), (1, .ref 3), (2, .int (nI i))] []) := fun i I J q hi X => by
        rw [b_X3_readInto_31, if_neg (show ¬ (500 : Int32) < nI i from nI_nlt (a := 500) (by omega) (by omega)), rs2, if_neg (show ¬ nI ((0, -1) : Sf).1 ≠ 0 from fun z => z rfl), sx_blanksS X hk, Option.bind_some, am_k_n, b_X3_readInto_49, rs1, rs6, X.1, if_pos (nI_lt c (by omega))]
      have em : ∀ (I : Nat → Nat → Int32) (J : Nat → Nat → Int64) (v q : Int32), TM T n I → am_ev (am_tbl Ls xs) 25 (63, [(0, .ref 81), (1, .int 0)], [], (am_sh, mdM I k (-1) v q, J)) = (am_ev (am_tbl Ls xs) 24 (0, [(0, .ref 81)], [], (am_sh, mdM I (nQ T n k) (-1) v q, J))).bind (am_k (am_tbl Ls xs) 25 78 [(0, .ref 81), (1, .int 0)] []) := fun I J v q X => by
        have hv : hrV T n k = nI (T (nQ T n k)) := if_pos c
        have ht := hT _ c
        rw [b_X9_ground_63, if_neg (show ¬ (0 : Int32) ≠ 0 by decide), sp_here X hk, Option.bind_some, am_k_v, b_X9_ground_71, hv, if_neg (nI_pos (by omega))]
      rcases sk_all_of (Ls := Ls) (xs := xs) H c hb with ⟨F, p, hF, hF2, hX, hM⟩ | ⟨k2, g3, hs2, gr2, hk1, hk2, hB, hX, hM⟩
      · refine Or.inl ⟨F, p, hF, hF2, fun i I J q hi X D => ?_, fun I J v q X D => ?_⟩
        · obtain ⟨k', q', e⟩ := hX I J q X D
          refine ⟨I, k', q', ?_, fun _ _ _ => rfl⟩
          rw [ex i I J q hi X, e, Option.bind_some, am_k_n, b_X3_readInto_68, i_p1, b_X3_readInto_31]
          have h74 : am_ev (am_tbl Ls xs) 145 (74, [(0, .ref 1)], [], (am_sh, rdS I k' (F, p) q', J)) = some (some (.int (nI F)), (am_sh, am_up2 (rdS I k' (F, p) q') 1 6 0, J)) := by
            rw [b_X3_readInto_74]; rfl
          by_cases z : (500 : Int32) < nI (i + 1)
          · rw [if_pos z]; exact h74
          · rw [if_neg z, rs2, if_pos (show nI ((F, p) : Sf).1 ≠ 0 from fun z => hF ((n_eq0 (show F < 2147483648 by omega)).mp z))]; exact h74
        · obtain ⟨I', J', e, h19, hf, hj⟩ := hM I J v q X D
          refine ⟨I', J', ?_, h19, hf, hj⟩
          rw [em I J v q X, e, Option.bind_some, am_k_v, b_X9_ground_78, b_X9_ground_63, if_pos (show nI F ≠ 0 from fun z => hF ((n_eq0 (by omega)).mp z)), b_X9_ground_82, if_neg (i_le0 hF hF2)]
      · have hrec := ih k2 g3 hs2 gr2 (by omega) hk2 hB
        rcases hrec with ⟨F, p, hF, hF2, hX2, hM2⟩ | ⟨g4, hs4, gr4, hB4, hX2, hM2⟩
        · refine Or.inl ⟨F, p, hF, hF2, fun i I J q hi X D => ?_, fun I J v q X D => ?_⟩
          · obtain ⟨I', q', e, D', hf⟩ := hX I J q X D
            obtain ⟨I'', k'', q'', e2, hf2⟩ := hX2 (i + 1) I' J q' (by omega) (tx_fr hf X) D'
            refine ⟨I'', k'', q'', ?_, frC_tr hf hf2⟩
            rw [ex i I J q hi X, e, Option.bind_some, am_k_n, b_X3_readInto_68, i_p1]; exact e2
          · obtain ⟨I', J', v', q', e, D', hf, hj⟩ := hM I J v q X D
            obtain ⟨I'', J'', e2, h19, hf2, hj2⟩ := hM2 I' J' v' q' (tm_fr hf X) D'
            refine ⟨I'', J'', ?_, h19, frR_tr hf hf2, fun j => (hj2 j).trans (hj j)⟩
            rw [em I J v q X, e, Option.bind_some, am_k_v, b_X9_ground_78]; exact e2
        · refine Or.inr ⟨g4, hs4, gr4, hB4, fun i I J q hi X D => ?_, fun I J v q X D => ?_⟩
          · obtain ⟨I', q', e, D', hf⟩ := hX I J q X D
            obtain ⟨I'', k'', q'', e2, D2, hf2⟩ := hX2 (i + 1) I' J q' (by omega) (tx_fr hf X) D'
            refine ⟨I'', k'', q'', ?_, D2, frC_tr hf hf2⟩
            rw [ex i I J q hi X, e, Option.bind_some, am_k_n, b_X3_readInto_68, i_p1]; exact e2
          · obtain ⟨I', J', v', q', e, D', hf, hj⟩ := hM I J v q X D
            obtain ⟨I'', J'', e2, D2, h19, hf2, hj2⟩ := hM2 I' J' v' q' (tm_fr hf X) D'
            refine ⟨I'', J'', ?_, D2, h19, frR_tr hf hf2, fun j => (hj2 j).trans (hj j)⟩
            rw [em I J v q X, e, Option.bind_some, am_k_v, b_X9_ground_78]; exact e2
    · have ha : nQ T n k = n := by omega
      refine Or.inr ⟨g, hs, gr, H, fun i I J q hi X D => ⟨I, n, q, ?_, D, fun _ _ _ => rfl⟩, fun I J v q X D => ⟨mdM I n (-1) v q, J, ?_, dm_md D, rfl, frR_md frR_r, fun _ => rfl⟩⟩
      · rw [b_X3_readInto_31, if_neg (show ¬ (500 : Int32) < nI i from nI_nlt (a := 500) (by omega) (by omega)), rs2, if_neg (show ¬ nI ((0, -1) : Sf).1 ≠ 0 from fun z => z rfl), sx_blanksS X hk, Option.bind_some, am_k_n, b_X3_readInto_49, rs1, rs6, X.1, ha, if_neg (nI_nlt (Nat.le_refl n) (by omega)), b_X3_readInto_74]
        rfl
      · rw [b_X9_ground_63, if_neg (show ¬ (0 : Int32) ≠ 0 by decide), sp_here X hk, Option.bind_some, am_k_v, b_X9_ground_71, show hrV T n k = -1 from if_neg c, if_pos (show (-1 : Int32) < 0 by decide), ha]
end
