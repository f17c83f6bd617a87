/-! BOTH READ: one statement, the same end -/
def XF (Ls : Nat) (xs : Nat → Int32) (T : Nat → Nat) (n : Nat) (g : Vg) (hs gr a k kx F : Nat) (p : Int32) : Prop := ∀ (I : Nat → Nat → Int32) (J : Nat → Nat → Int64) (q : Int32), TX T n I → DX g hs gr I → ∃ k' q', am_ev (am_tbl Ls xs) kx (0, [(0, .ref 1), (1, .ref 3), (2, .int (nI a))], [], (am_sh, rdS I k (0, -1) q, J)) = some (none, (am_sh, rdS I k' (F, p) q', J))
def XO (Ls : Nat) (xs : Nat → Int32) (T : Nat → Nat) (n : Nat) (g : Vg) (hs gr a k kx k2 : Nat) (g2 : Vg) (hs2 gr2 : Nat) : Prop := ∀ (I : Nat → Nat → Int32) (J : Nat → Nat → Int64) (q : Int32), TX T n I → DX g hs gr I → ∃ I' q', am_ev (am_tbl Ls xs) kx (0, [(0, .ref 1), (1, .ref 3), (2, .int (nI a))], [], (am_sh, rdS I k (0, -1) q, J)) = some (none, (am_sh, rdS I' k2 (0, -1) q', J)) ∧ DX g2 hs2 gr2 I' ∧ frC I I'
def MF (Ls : Nat) (xs : Nat → Int32) (T : Nat → Nat) (n : Nat) (g : Vg) (hs gr a k i F : Nat) (p : Int32) : Prop := ∀ (I : Nat → Nat → Int32) (J : Nat → Nat → Int64) (v q : Int32), TM T n I → DM g hs gr I → I 81 22 = nI k → ∃ I', am_ev (am_tbl Ls xs) 24 (185, [(0, .ref 81), (2, .int (nI i))], [], (am_sh, mdM I a (-1) v q, J)) = some (some (.int (nI F)), (am_sh, I', J)) ∧ I' 81 19 = p ∧ frR I I'
def MO (Ls : Nat) (xs : Nat → Int32) (T : Nat → Nat) (n : Nat) (g : Vg) (hs gr a k i k2 : Nat) (g2 : Vg) (hs2 gr2 : Nat) : Prop := ∀ (I : Nat → Nat → Int32) (J : Nat → Nat → Int64) (v q : Int32), TM T n I → DM g hs gr I → I 81 22 = nI k → ∃ I' v' q', am_ev (am_tbl Ls xs) 24 (185, [(0, .ref 81), (2, .int (nI i))], [], (am_sh, mdM I a (-1) v q, J)) = some (some (.int 0), (am_sh, mdM I' k2 (-1) v' q', J)) ∧ DM g2 hs2 gr2 I' ∧ frR I I'
def LK (Ls : Nat) (xs : Nat → Int32) (T : Nat → Nat) (n : Nat) (g : Vg) (hs gr a k kx i : Nat) : Prop :=
  (∃ F p, F ≠ 0 ∧ F < 100 ∧ XF Ls xs T n g hs gr a k kx F p ∧ MF Ls xs T n g hs gr a k i F p) ∨
  (∃ k2 g2 hs2 gr2, k < k2 ∧ k2 ≤ n ∧ BD g2 hs2 gr2 ∧ XO Ls xs T n g hs gr a k kx k2 g2 hs2 gr2 ∧ MO Ls xs T n g hs gr a k i k2 g2 hs2 gr2)
def DK (Ls : Nat) (xs : Nat → Int32) (g : Vg) (hs gr a k km i : Nat) : Prop := ∀ (I : Nat → Nat → Int32) (J : Nat → Nat → Int64) (v q z : Int32) (I' : Nat → Nat → Int32), DM g hs gr I → I 81 22 = nI k → am_ev (am_tbl Ls xs) km (0, [(0, .ref 81)], [], (am_sh, mdM I k (-1) v q, J)) = some (some (.int z), (am_sh, I', J)) → am_ev (am_tbl Ls xs) 24 (185, [(0, .ref 81), (2, .int (nI i))], [], (am_sh, mdM I a (-1) v q, J)) = am_ev (am_tbl Ls xs) 24 (356, [(0, .ref 81)], [.int z], (am_sh, I', J))
section
variable {Ls : Nat} {xs : Nat → Int32} {g : Vg} {hs gr : Nat} {I I' I'' : Nat → Nat → Int32} {J : Nat → Nat → Int64} {T : Nat → Nat} {n k a km i F : Nat} {P v q p : Int32}
theorem mf_of (h : DK Ls xs g hs gr a k km i) (t : TF Ls xs T n g hs gr k km F p) (hF : F ≠ 0) (hF2 : F < 100) : MF Ls xs T n g hs gr a k i F p := by
  intro I J v q X D h22
  obtain ⟨I', e, h19, hf⟩ := t I J v q X D
  obtain ⟨I'', e2, h19', hf'⟩ := sp_out (Ls := Ls) (xs := xs) (J := J) hF hF2 h19 hf
  exact ⟨I'', (h I J v q _ I' D h22 e).trans e2, h19', hf'⟩
theorem mf_end {kE : Nat} {g2 : Vg} {hs2 gr2 : Nat} (h : DK Ls xs g hs gr a k km i) (t : TO Ls xs T n g hs gr k km kE g2 hs2 gr2) (hk : kE ≤ n) (he : eF T n kE ≠ 0) : MF Ls xs T n g hs gr a k i (eF T n kE) (nI (nQ T n kE)) := by
  intro I J v q X D h22
  obtain ⟨I', v', q', e, D', hf⟩ := t I J v q X D
  obtain ⟨I'', e2, h19', hf'⟩ := sp_outE (Ls := Ls) (xs := xs) (J := J) (P := -1) (v := v') (q := q') (tm_fr hf X) hk he
  exact ⟨I'', (h I J v q _ _ D h22 e).trans e2, h19', frR_tr hf hf'⟩
theorem mo_of {kE : Nat} {g2 : Vg} {hs2 gr2 : Nat} (h : DK Ls xs g hs gr a k km i) (t : TO Ls xs T n g hs gr k km kE g2 hs2 gr2) (hk : kE ≤ n) (he : eF T n kE = 0) : MO Ls xs T n g hs gr a k i (eK T n kE) g2 hs2 gr2 := by
  intro I J v q X D h22
  obtain ⟨I', v', q', e, D', hf⟩ := t I J v q X D
  exact ⟨I', v', q', (h I J v q _ _ D h22 e).trans (sp_tail0 (tm_fr hf X) hk he), D', hf⟩
theorem dk_0 (hW : gW g = 0) : DK Ls xs g hs gr a k 17 0 := fun I J v q z I' D h22 e => sp_k0 (by rw [D.1.1, hW]) h22 e
theorem dk_1 (hh : hs < 15) : DK Ls xs g hs gr a k 20 1 := fun I J v q z I' D h22 e => sp_k1 D.1.2.2.1 hh h22 e
theorem dk_2 (hh : gN g < 6) : DK Ls xs g hs gr a k 21 2 := fun I J v q z I' D h22 e => sp_k2 D.1.2.2.2.1 hh h22 e
theorem dk_3 (hh : gP g < 6) : DK Ls xs g hs gr a k 22 3 := fun I J v q z I' D h22 e => sp_k3 D.1.2.2.2.2.1 hh h22 e
theorem dk_4 (hh : gr = 0) : DK Ls xs g hs gr a k 23 4 := fun I J v q z I' D h22 e => (sp_k4 (D.1.2.2.2.2.2.trans (if_pos hh)) h22 e).trans sp_356
theorem mf_0f (hW : 1 ≤ gW g) (hW2 : gW g < 1000) : MF Ls xs T n g hs gr a k 0 3 (nI a) := fun I J v q X D _ => ⟨_, sp_k0f hW hW2 D.1.1, rfl, frR_md frR_r⟩
theorem mf_1f (hh : hs = 15) : MF Ls xs T n g hs gr a k 1 3 (nI a) := fun I J v q X D _ => ⟨_, sp_k1f D.1.2.2.1 hh, rfl, frR_md frR_r⟩
theorem mf_2f (hh : gN g = 6) : MF Ls xs T n g hs gr a k 2 3 (nI a) := fun I J v q X D _ => ⟨_, sp_k2f D.1.2.2.2.1 hh, rfl, frR_md frR_r⟩
theorem mf_3f (hh : gP g = 6) : MF Ls xs T n g hs gr a k 3 3 (nI a) := fun I J v q X D _ => ⟨_, sp_k3f D.1.2.2.2.2.1 hh, rfl, frR_md frR_r⟩
theorem mf_4f (hh : gr ≠ 0) (h2 : gr ≤ 101) : MF Ls xs T n g hs gr a k 4 3 (nI a) := fun I J v q X D _ => ⟨_, sp_k4f (w := gr - 1) (by omega) (D.1.2.2.2.2.2.trans (if_neg hh)), rfl, frR_md frR_r⟩
/-! the class's drafts -/
theorem dx_house {c t : Nat} (B : BG g) (D : DX g hs gr I) : DX (setH g (fset (gH g) c t)) (hs + 1) gr (am_up2 (am_up2 I 15 c (nI t)) 1 4 (nI (hs + 1))) := by
  have q1 := bg_1 B
  obtain ⟨⟨a0, a1, a2, a3, a4, a5, a6, a7⟩, b1, b2, b3, b4, b5⟩ := D
  have e : ∀ r j, (r ≠ 15 ∨ j ≠ c) ∧ (r ≠ 1 ∨ j ≠ 4) → am_up2 (am_up2 I 15 c (nI t)) 1 4 (nI (hs + 1)) r j = I r j := fun r j h => by rw [up_ne (by omega), up_ne (by omega)]
  refine ⟨⟨(e _ _ (by omega)).trans a0, (e _ _ (by omega)).trans a1, (e _ _ (by omega)).trans a2, (e _ _ (by omega)).trans a3, (e _ _ (by omega)).trans a4, (e _ _ (by omega)).trans a5, up_eq, (e _ _ (by omega)).trans a7⟩, fun h c' hh hc => ?_, fun h hh => ⟨(e _ _ (by omega)).trans (b2 h hh).1, (e _ _ (by omega)).trans (b2 h hh).2⟩, fun p hp => ⟨(e _ _ (by omega)).trans (b3 p hp).1, (e _ _ (by omega)).trans (b3 p hp).2⟩, fun d hd => ⟨(e _ _ (by omega)).trans (b4 d hd).1, (e _ _ (by omega)).trans (b4 d hd).2⟩, fun d hd => ?_⟩
  · have hh' : h < gN g := hh
    rw [e _ _ (by omega)]; exact b1 h c' hh hc
  · show am_up2 (am_up2 I 15 c (nI t)) 1 4 (nI (hs + 1)) 15 d = nI (fset (gH g) c t d)
    rw [up_ne (by omega)]
    by_cases w : d = c
    · rw [w, up_eq, fset_eq]
    · rw [up_ne (by omega), fset_ne w]; exact b5 d hd
theorem dx_person {c t : Nat} (B : BG g) (D : DX g hs gr I) : DX (addP g c t) hs gr (am_up2 (am_up2 (am_up2 I 13 (gP g) (nI c)) 14 (gP g) (nI t)) 3 4 (nI (gP g + 1))) := by
  have q1 := bg_1 B
  obtain ⟨⟨a0, a1, a2, a3, a4, a5, a6, a7⟩, b1, b2, b3, b4, b5⟩ := D
  have e : ∀ r j, ((r ≠ 13 ∧ r ≠ 14) ∨ j ≠ gP g) ∧ (r ≠ 3 ∨ j ≠ 4) → am_up2 (am_up2 (am_up2 I 13 (gP g) (nI c)) 14 (gP g) (nI t)) 3 4 (nI (gP g + 1)) r j = I r j := fun r j h => by rw [up_ne (by omega), up_ne (by omega), up_ne (by omega)]
  refine ⟨⟨(e _ _ (by omega)).trans a0, (e _ _ (by omega)).trans a1, (e _ _ (by omega)).trans a2, (e _ _ (by omega)).trans a3, up_eq, (e _ _ (by omega)).trans a5, (e _ _ (by omega)).trans a6, (e _ _ (by omega)).trans a7⟩, fun h c' hh hc => ?_, fun h hh => ⟨(e _ _ (by omega)).trans (b2 h hh).1, (e _ _ (by omega)).trans (b2 h hh).2⟩, fun p hp => ?_, fun d hd => ⟨(e _ _ (by omega)).trans (b4 d hd).1, (e _ _ (by omega)).trans (b4 d hd).2⟩, fun d hd => (e _ _ (by omega)).trans (b5 d hd)⟩
  · have hh' : h < gN g := hh
    rw [e _ _ (by omega)]; exact b1 h c' hh hc
  · have hp' : p < gP g + 1 := hp
    show _ = nI (fset (gA g) (gP g) c p) ∧ _ = nI (fset (gT g) (gP g) t p)
    by_cases w : p = gP g
    · rw [w, fset_eq, fset_eq]
      exact ⟨by rw [up_ne (by omega), up_ne (by omega), up_eq], by rw [up_ne (by omega), up_eq]⟩
    · rw [fset_ne w, fset_ne w]
      exact ⟨(e _ _ (by omega)).trans (b3 p (by omega)).1, (e _ _ (by omega)).trans (b3 p (by omega)).2⟩
theorem dx_grey {t : Nat} (D : DX g hs gr I) : DX g hs (t + 1) (am_up2 (am_up2 I 3 5 (nI t)) 1 5 1) := by
  obtain ⟨⟨a0, a1, a2, a3, a4, a5, a6, a7⟩, b1, b2, b3, b4, b5⟩ := D
  have e : ∀ r j, (r ≠ 3 ∨ j ≠ 5) ∧ (r ≠ 1 ∨ j ≠ 5) → am_up2 (am_up2 I 3 5 (nI t)) 1 5 1 r j = I r j := fun r j h => by rw [up_ne (by omega), up_ne (by omega)]
  exact ⟨⟨(e _ _ (by omega)).trans a0, (e _ _ (by omega)).trans a1, (e _ _ (by omega)).trans a2, (e _ _ (by omega)).trans a3, (e _ _ (by omega)).trans a4, (up_ne (by omega)).trans up_eq, (e _ _ (by omega)).trans a6, up_eq⟩, fun h c' hh hc => (e _ _ (by omega)).trans (b1 h c' hh hc), fun h hh => ⟨(e _ _ (by omega)).trans (b2 h hh).1, (e _ _ (by omega)).trans (b2 h hh).2⟩, fun p hp => ⟨(e _ _ (by omega)).trans (b3 p hp).1, (e _ _ (by omega)).trans (b3 p hp).2⟩, fun d hd => ⟨(e _ _ (by omega)).trans (b4 d hd).1, (e _ _ (by omega)).trans (b4 d hd).2⟩, fun d hd => (e _ _ (by omega)).trans (b5 d hd)⟩
theorem dx_sun {x y l w : Nat} (B : BG g) (D : DX g hs gr I) (hN : gN g < 6) : DX (addS g ((x : Int) - 1) ((y : Int) - 1) l w) hs gr (addH g x y l w I) := by
  have q1 := bg_1 B
  obtain ⟨⟨a0, a1, a2, a3, a4, a5, a6, a7⟩, b1, b2, b3, b4, b5⟩ := D
  have e : ∀ r j, r ≠ 5 + gN g ∧ ((r ≠ 11 ∧ r ≠ 12) ∨ j ≠ gN g) ∧ (r ≠ 3 ∨ j ≠ 3) → addH g x y l w I r j = I r j := fun r j h => by
    unfold addH
    rw [up_ne (by omega), up_ne (by omega), up_ne (by omega), wr_out (by omega)]
  refine ⟨⟨(e _ _ (by omega)).trans a0, (e _ _ (by omega)).trans a1, (e _ _ (by omega)).trans a2, up_eq, (e _ _ (by omega)).trans a4, (e _ _ (by omega)).trans a5, (e _ _ (by omega)).trans a6, (e _ _ (by omega)).trans a7⟩, fun h c' hh hc => ?_, fun h hh => ?_, fun p hp => ⟨(e _ _ (by omega)).trans (b3 p hp).1, (e _ _ (by omega)).trans (b3 p hp).2⟩, fun d hd => ⟨(e _ _ (by omega)).trans (b4 d hd).1, (e _ _ (by omega)).trans (b4 d hd).2⟩, fun d hd => (e _ _ (by omega)).trans (b5 d hd)⟩
  · have hh' : h < gN g + 1 := hh
    have hc' : c' < gW g * gD g := hc
    show _ = oI (nb (gW g) (gD g) (fset (gX g) (gN g) ((x : Int) - 1) h) (fset (gY g) (gN g) ((y : Int) - 1) h) c')
    by_cases z : h = gN g
    · rw [z, fset_eq, fset_eq]
      unfold addH
      rw [up_ne (by omega), up_ne (by omega), up_ne (by omega), wr_in hc']
    · rw [fset_ne z, fset_ne z, e _ _ (by omega)]; exact b1 h c' (by omega) hc
  · have hh' : h < gN g + 1 := hh
    show _ = nI (fset (gL g) (gN g) l h) ∧ _ = nI (fset (gS g) (gN g) w h)
    by_cases z : h = gN g
    · rw [z, fset_eq, fset_eq]
      unfold addH
      exact ⟨by rw [up_ne (by omega), up_ne (by omega), up_eq], by rw [up_ne (by omega), up_eq]⟩
    · rw [fset_ne z, fset_ne z]
      exact ⟨(e _ _ (by omega)).trans (b2 h (by omega)).1, (e _ _ (by omega)).trans (b2 h (by omega)).2⟩
theorem dx_ground {w h : Nat} (hN : gN g = 0) (hP : gP g = 0) (D : DX g hs gr I) : DX (setWD g w h) hs gr (meas w h I) := by
  obtain ⟨⟨a0, a1, a2, a3, a4, a5, a6, a7⟩, b1, b2, b3, b4, b5⟩ := D
  have e : ∀ r j, r ≠ 16 ∧ r ≠ 17 ∧ (r ≠ 3 ∨ 2 < j) → meas w h I r j = I r j := fun r j h => by
    unfold meas
    rw [wr_out (by omega), wr_out (by omega), up_ne (by omega), up_ne (by omega), up_ne (by omega)]
  refine ⟨⟨?_, ?_, ?_, (e _ _ (by omega)).trans a3, (e _ _ (by omega)).trans a4, (e _ _ (by omega)).trans a5, (e _ _ (by omega)).trans a6, (e _ _ (by omega)).trans a7⟩, fun h' c' hh hc => ?_, fun h' hh => ?_, fun p hp => ?_, fun d hd => ?_, fun d hd => (e _ _ (by omega)).trans (b5 d hd)⟩
  · unfold meas
    rw [wr_out (by omega), wr_out (by omega), up_ne (by omega), up_ne (by omega), up_eq]; rfl
  · unfold meas
    rw [wr_out (by omega), wr_out (by omega), up_ne (by omega), up_eq]; rfl
  · unfold meas
    rw [wr_out (by omega), wr_out (by omega), up_eq]; rfl
  · have hh' : h' < gN g := hh
    omega
  · have hh' : h' < gN g := hh
    omega
  · have hp' : p < gP g := hp
    omega
  · have hd' : d < w * h := hd
    show _ = nI (d % w) ∧ _ = nI (d / w)
    unfold meas
    exact ⟨by rw [wr_out (by omega), wr_in hd'], by rw [wr_in hd']⟩
/-! bounds -/
theorem bd_house {c t : Nat} (H : BD g hs gr) (hh : hs < 15) (ht : t ≤ 9) (h0 : ∀ p, p < gP g → gA g p ≠ c) : BD (setH g (fset (gH g) c t)) (hs + 1) gr := ⟨bs_H H.1 ht (Or.inr h0), by omega, H.2.2⟩
theorem bd_grey {t : Nat} (H : BD g hs gr) (ht : t ≤ 100) : BD g hs (t + 1) := ⟨H.1, H.2.1, by omega⟩
theorem bd_person {c t : Nat} (H : BD g hs gr) (hP : gP g < 6) (hW : 1 ≤ gW g) (hc : c < gW g * gD g) (h0 : gH g c = 0) (ht1 : 1 ≤ t) (ht : t ≤ 9) : BD (addP g c t) hs gr := by
  obtain ⟨⟨⟨b1, b2, b3, b4⟩, s2, s3⟩, h2, h3⟩ := H
  refine ⟨⟨⟨⟨b1.1, b1.2.1, b1.2.2.1, b1.2.2.2.1, hP, b1.2.2.2.2.2.1, Or.inr ?_⟩, b2, fun p hp => ?_, b4⟩, fun p hp => ?_, s3⟩, h2, h3⟩
  · rcases b1.2.2.2.2.2.2 with z | z
    · omega
    · exact z
  · have hp' : p < gP g + 1 := hp
    show 1 ≤ fset (gT g) (gP g) t p ∧ fset (gT g) (gP g) t p ≤ 9 ∧ fset (gF g) (gP g) 0 p ≤ 1 ∧ fset (gA g) (gP g) c p < gW g * gD g
    by_cases w : p = gP g
    · rw [w, fset_eq, fset_eq, fset_eq]; exact ⟨ht1, ht, by omega, hc⟩
    · rw [fset_ne w, fset_ne w, fset_ne w]; exact b3 p (by omega)
  · have hp' : p < gP g + 1 := hp
    show gH g (fset (gA g) (gP g) c p) = 0
    by_cases w : p = gP g
    · rw [w, fset_eq]; exact h0
    · rw [fset_ne w]; exact s2 p (by omega)
theorem bd_sun {x y l w : Nat} (H : BD g hs gr) (hN : gN g < 6) (hW : 1 ≤ gW g) (hx : x ≤ 2) (hy : y ≤ 2) (hl : l ≤ 3) (hw : w ≤ 20) : BD (addS g ((x : Int) - 1) ((y : Int) - 1) l w) hs gr := by
  obtain ⟨⟨⟨b1, b2, b3, b4⟩, s2, s3⟩, h2, h3⟩ := H
  refine ⟨⟨⟨⟨b1.1, b1.2.1, b1.2.2.1, hN, b1.2.2.2.2.1, b1.2.2.2.2.2.1, Or.inr ?_⟩, fun h hh => ?_, b3, b4⟩, s2, s3⟩, h2, h3⟩
  · rcases b1.2.2.2.2.2.2 with z | z
    · omega
    · exact z
  · have hh' : h < gN g + 1 := hh
    show (-1 ≤ fset (gX g) (gN g) ((x : Int) - 1) h ∧ fset (gX g) (gN g) ((x : Int) - 1) h ≤ 1) ∧ (-1 ≤ fset (gY g) (gN g) ((y : Int) - 1) h ∧ fset (gY g) (gN g) ((y : Int) - 1) h ≤ 1) ∧ fset (gL g) (gN g) l h ≤ 3 ∧ fset (gS g) (gN g) w h ≤ 20
    by_cases z : h = gN g
    · rw [z, fset_eq, fset_eq, fset_eq, fset_eq]; omega
    · rw [fset_ne z, fset_ne z, fset_ne z, fset_ne z]; exact b2 h (by omega)
theorem bd_ground {w h : Nat} (H : BD g hs gr) (hW : gW g = 0) (h1 : 1 ≤ w ∧ w ≤ 9) (h2 : 1 ≤ h ∧ h ≤ 9) (h3 : w * h ≤ 48) : BD (setWD g w h) hs gr ∧ gN g = 0 ∧ gP g = 0 := by
  obtain ⟨⟨⟨b1, b2, b3, b4⟩, s2, s3⟩, q2, q3⟩ := H
  have z : gN g = 0 ∧ gP g = 0 := by
    rcases b1.2.2.2.2.2.2 with z | z
    · exact ⟨z.2.2.1, z.2.2.2⟩
    · omega
  refine ⟨⟨⟨⟨⟨h3, h1.2, h2.2, b1.2.2.2.1, b1.2.2.2.2.1, b1.2.2.2.2.2.1, Or.inr ⟨h1.1, h2.1⟩⟩, b2, fun p hp => ?_, b4⟩, s2, s3⟩, q2, q3⟩, z⟩
  have hp' : p < gP g := hp
  omega
end
