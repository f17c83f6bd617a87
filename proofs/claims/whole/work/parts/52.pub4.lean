/-! TELL, WRITE, BUILD, JUDGE, RICHEST -/
section
variable {Ls : Nat} {xs : Nat → Int32} {g : Vg} {r : Vr} {I I' : Nat → Nat → Int32} {J : Nat → Nat → Int64}
theorem pu_tell (H : Inv I J) (h a : Int32) : StpC Ls xs 96 66 [(0, .ref 0), (1, .int h), (2, .int a)] [(0, .ref 81), (1, .int h), (2, .int a)] I J := by
  obtain ⟨g, r, S, Q, ⟨X, XQ, D⟩, ⟨M, MQ, C⟩⟩ := id H
  have B := S.1
  have b1 := bg_1 B
  have q1 := Q.1
  rcases rng_or (gN g) (by omega) h with ⟨h, hh, rfl⟩ | hh
  · cases hr : rgI 0 99 a
    · refine stp_pure H (v := -1000000002) ?_ ?_
      · simp (disch := omega) only [b_X8_tell_0, b_X8_tell_8, b_X8_tell_24, Option.bind_some, am_k_v, am_k_n, ↓n_in, nI_clamp, i_p1, nI_leI, nI_ltI, nI_eq, n_lt0, n_le0, n_eq0, n_gt0, n_lm, n_em, n_me, n_mlt, false_or, or_false, true_or, or_true, false_and, and_false, true_and, and_true, not_false_eq_true, not_true_eq_false, if_true, if_false, if_pos, if_neg, am_b01, am_b0, am_b1, ne_eq, eq_self, reduceCtorEq, rng_t, Bool.and_true, Bool.and_false, Bool.true_and, Bool.false_and, ite_rgI, if_pos rfl, sx_hourA X, hr]
      · simp (disch := omega) only [b_X9_tell_0, b_X9_tell_5, b_X9_tell_21, Option.bind_some, am_k_v, am_k_n, ↓n_in, nI_clamp, i_p1, nI_leI, nI_ltI, nI_eq, n_lt0, n_le0, n_eq0, n_gt0, n_lm, n_em, n_me, n_mlt, false_or, or_false, true_or, or_true, false_and, and_false, true_and, and_true, not_false_eq_true, not_true_eq_false, if_true, if_false, if_pos, if_neg, am_b01, am_b0, am_b1, ne_eq, eq_self, reduceCtorEq, rng_t, Bool.and_true, Bool.and_false, Bool.true_and, Bool.false_and, ite_rgI, if_pos rfl, sp_hourA M B, sp_in_0_99, hr]
    · obtain ⟨s, _, hs, hsa⟩ := rgI_n (m := 0) (n := 99) rfl rfl hr
      by_cases hn : tN r < 10
      · generalize hI1 : am_up2 (am_up2 (am_up2 (am_up2 I 54 (tN r) 0) 55 (tN r) (nI h)) 56 (tN r) (nI s)) 53 3 (nI (tN r + 1)) = I1
        have u : ∀ q k, q ≠ 53 → q ≠ 54 → q ≠ 55 → q ≠ 56 → I1 q k = I q k := fun q k h1 h2 h3 h4 => by
          rw [← hI1, up_ne (by omega), up_ne (by omega), up_ne (by omega), up_ne (by omega)]
        have X1 : InX g (rTel r h s) I1 J := by
          refine ⟨rx_cong B (fun q k hq => u q k (by unfold xS at hq; omega) (by unfold xS at hq; omega) (by unfold xS at hq; omega) (by unfold xS at hq; omega)) X, qx_tel XQ rfl (fun q k hq => ?_) ?_ ?_ ?_, D⟩
          · rw [← hI1, up_ne (by omega), up_ne (by omega), up_ne (by omega), up_ne (by omega)]
          · rw [← hI1, up_ne (by omega), up_ne (by omega), up_eq]
          · rw [← hI1, up_ne (by omega), up_eq]
          · rw [← hI1, up_eq]
        have M1 : InM g r I1 := inm_x (fun q k hq => u q k (by omega) (by omega) (by omega) (by omega)) ⟨M, MQ, C⟩
        obtain ⟨M1a, M1b, M1c⟩ := M1
        generalize hI2 : am_up2 (am_up2 (am_up2 I1 108 (tN r) (nI h)) 109 (tN r) (nI s)) 81 52 (nI (tN r + 1)) = I2
        have M2 : InM g (rTel r h s) I2 := by
          refine ⟨?_, qm_tel M1b rfl (fun q k hq => ?_) ?_ ?_ ?_, ?_⟩
          · rw [← hI2]; exact rm_up (by unfold mS; omega) (rm_up (by unfold mS; omega) (rm_up (by unfold mS; omega) M1a))
          · rw [← hI2, up_ne (by omega), up_ne (by omega), up_ne (by omega)]
          · rw [← hI2, up_ne (by omega), up_ne (by omega), up_eq]
          · rw [← hI2, up_ne (by omega), up_eq]
          · rw [← hI2, up_eq]
          · rw [← hI2]; exact m0_up (by unfold m4; omega) (m0_up (by unfold m4; omega) (m0_up (by unfold m4; omega) M1c))
        have X2 : InX g (rTel r h s) I2 J := inx_m B (fun q k hq => by rw [← hI2, up_ne (by omega), up_ne (by omega), up_ne (by omega)]) (fun _ => rfl) X1
        refine ⟨nI (tN r + 1), I1, J, I2, J, ?_, ?_, ⟨g, rTel r h s, S, bq_tel Q hn hh hs, X2, M2⟩⟩
        · simp (disch := omega) only [b_X8_tell_0, b_X8_tell_8, b_X8_tell_24, Option.bind_some, am_k_v, am_k_n, ↓n_in, nI_clamp, i_p1, nI_leI, nI_ltI, nI_eq, n_lt0, n_le0, n_eq0, n_gt0, n_lm, n_em, n_me, n_mlt, false_or, or_false, true_or, or_true, false_and, and_false, true_and, and_true, not_false_eq_true, not_true_eq_false, if_true, if_false, if_pos, if_neg, am_b01, am_b0, am_b1, ne_eq, eq_self, reduceCtorEq, rng_t, Bool.and_true, Bool.and_false, Bool.true_and, Bool.false_and, ite_rgI, if_pos rfl, sx_hourA X, hr]
          simp (disch := omega) only [hsa, b_X4_add_0, Option.bind_some, am_k_v, am_k_n, ↓n_in, nI_clamp, i_p1, nI_leI, nI_ltI, nI_eq, n_lt0, n_le0, n_eq0, n_gt0, n_lm, n_em, n_me, n_mlt, false_or, or_false, true_or, or_true, false_and, and_false, true_and, and_true, not_false_eq_true, not_true_eq_false, if_true, if_false, if_pos, if_neg, am_b01, am_b0, am_b1, ne_eq, eq_self, reduceCtorEq, rng_t, Bool.and_true, Bool.and_false, Bool.true_and, Bool.false_and, ite_rgI, if_pos rfl, XQ.1.2.2.2.2.1, show (10 : Int32) = nI 10 from rfl, nI_1, hI1]
          rw [b_X8_tell_37, if_neg (by decide), b_X8_tell_52, ← hI1, up_eq]
        · simp (disch := omega) only [b_X9_tell_0, b_X9_tell_5, b_X9_tell_21, Option.bind_some, am_k_v, am_k_n, ↓n_in, nI_clamp, i_p1, nI_leI, nI_ltI, nI_eq, n_lt0, n_le0, n_eq0, n_gt0, n_lm, n_em, n_me, n_mlt, false_or, or_false, true_or, or_true, false_and, and_false, true_and, and_true, not_false_eq_true, not_true_eq_false, if_true, if_false, if_pos, if_neg, am_b01, am_b0, am_b1, ne_eq, eq_self, reduceCtorEq, rng_t, Bool.and_true, Bool.and_false, Bool.true_and, Bool.false_and, ite_rgI, if_pos rfl, sp_hourA M1a B, sp_in_0_99, hr]
          simp (disch := omega) only [hsa, Option.bind_some, am_k_v, am_k_n, ↓n_in, nI_clamp, i_p1, nI_leI, nI_ltI, nI_eq, n_lt0, n_le0, n_eq0, n_gt0, n_lm, n_em, n_me, n_mlt, false_or, or_false, true_or, or_true, false_and, and_false, true_and, and_true, not_false_eq_true, not_true_eq_false, if_true, if_false, if_pos, if_neg, am_b01, am_b0, am_b1, ne_eq, eq_self, reduceCtorEq, rng_t, Bool.and_true, Bool.and_false, Bool.true_and, Bool.false_and, ite_rgI, if_pos rfl, M1b.1.2.2.2.2.1, show (10 : Int32) = nI 10 from rfl, nI_1, hI2]
          rw [← hI2, up_eq]
      · refine stp_pure H (v := -1000000004) ?_ ?_
        · simp (disch := omega) only [b_X8_tell_0, b_X8_tell_8, b_X8_tell_24, b_X8_tell_37, b_X8_tell_52, b_X4_add_0, Option.bind_some, am_k_v, am_k_n, ↓n_in, nI_clamp, i_p1, nI_leI, nI_ltI, nI_eq, n_lt0, n_le0, n_eq0, n_gt0, n_lm, n_em, n_me, n_mlt, false_or, or_false, true_or, or_true, false_and, and_false, true_and, and_true, not_false_eq_true, not_true_eq_false, if_true, if_false, if_pos, if_neg, am_b01, am_b0, am_b1, ne_eq, eq_self, reduceCtorEq, rng_t, Bool.and_true, Bool.and_false, Bool.true_and, Bool.false_and, ite_rgI, if_pos rfl, sx_hourA X, hr, XQ.1.2.2.2.2.1, show (10 : Int32) = nI 10 from rfl]
        · simp (disch := omega) only [b_X9_tell_0, b_X9_tell_5, b_X9_tell_21, Option.bind_some, am_k_v, am_k_n, ↓n_in, nI_clamp, i_p1, nI_leI, nI_ltI, nI_eq, n_lt0, n_le0, n_eq0, n_gt0, n_lm, n_em, n_me, n_mlt, false_or, or_false, true_or, or_true, false_and, and_false, true_and, and_true, not_false_eq_true, not_true_eq_false, if_true, if_false, if_pos, if_neg, am_b01, am_b0, am_b1, ne_eq, eq_self, reduceCtorEq, rng_t, Bool.and_true, Bool.and_false, Bool.true_and, Bool.false_and, ite_rgI, if_pos rfl, sp_hourA M B, sp_in_0_99, hr, MQ.1.2.2.2.2.1, show (10 : Int32) = nI 10 from rfl]
  · refine stp_pure H (v := -1000000001) ?_ ?_
    · simp (disch := omega) only [b_X8_tell_0, b_X8_tell_8, b_X8_tell_24, Option.bind_some, am_k_v, am_k_n, ↓n_in, nI_clamp, i_p1, nI_leI, nI_ltI, nI_eq, n_lt0, n_le0, n_eq0, n_gt0, n_lm, n_em, n_me, n_mlt, false_or, or_false, true_or, or_true, false_and, and_false, true_and, and_true, not_false_eq_true, not_true_eq_false, if_true, if_false, if_pos, if_neg, am_b01, am_b0, am_b1, ne_eq, eq_self, reduceCtorEq, rng_t, Bool.and_true, Bool.and_false, Bool.true_and, Bool.false_and, ite_rgI, if_pos rfl, sx_hourA X, hh]
    · simp (disch := omega) only [b_X9_tell_0, b_X9_tell_5, b_X9_tell_21, Option.bind_some, am_k_v, am_k_n, ↓n_in, nI_clamp, i_p1, nI_leI, nI_ltI, nI_eq, n_lt0, n_le0, n_eq0, n_gt0, n_lm, n_em, n_me, n_mlt, false_or, or_false, true_or, or_true, false_and, and_false, true_and, and_true, not_false_eq_true, not_true_eq_false, if_true, if_false, if_pos, if_neg, am_b01, am_b0, am_b1, ne_eq, eq_self, reduceCtorEq, rng_t, Bool.and_true, Bool.and_false, Bool.true_and, Bool.false_and, ite_rgI, if_pos rfl, sp_hourA M B, hh]
theorem pu_write (H : Inv I J) (h p a : Int32) : StpC Ls xs 98 69 [(0, .ref 0), (1, .int h), (2, .int p), (3, .int a)] [(0, .ref 81), (1, .int h), (2, .int p), (3, .int a)] I J := by
  obtain ⟨g, r, S, Q, ⟨X, XQ, D⟩, ⟨M, MQ, C⟩⟩ := id H
  have B := S.1
  have b1 := bg_1 B
  have q1 := Q.1
  rcases rng_or (gN g) (by omega) h with ⟨h, hh, rfl⟩ | hh
  · rcases rng_or (gP g) (by omega) p with ⟨p, hp, rfl⟩ | hp
    · cases hr : rgI 0 99 a
      · refine stp_pure H (v := -1000000002) ?_ ?_
        · simp (disch := omega) only [b_X8_write_0, b_X8_write_8, b_X8_write_19, b_X8_write_22, b_X8_write_35, Option.bind_some, am_k_v, am_k_n, ↓n_in, nI_clamp, i_p1, nI_leI, nI_ltI, nI_eq, n_lt0, n_le0, n_eq0, n_gt0, n_lm, n_em, n_me, n_mlt, false_or, or_false, true_or, or_true, false_and, and_false, true_and, and_true, not_false_eq_true, not_true_eq_false, if_true, if_false, if_pos, if_neg, am_b01, am_b0, am_b1, ne_eq, eq_self, reduceCtorEq, rng_t, Bool.and_true, Bool.and_false, Bool.true_and, Bool.false_and, ite_rgI, if_pos rfl, sx_hourA X, sx_personA X, hr]
        · simp (disch := omega) only [b_X9_write_0, b_X9_write_5, b_X9_write_16, b_X9_write_13, b_X9_write_29, Option.bind_some, am_k_v, am_k_n, ↓n_in, nI_clamp, i_p1, nI_leI, nI_ltI, nI_eq, n_lt0, n_le0, n_eq0, n_gt0, n_lm, n_em, n_me, n_mlt, false_or, or_false, true_or, or_true, false_and, and_false, true_and, and_true, not_false_eq_true, not_true_eq_false, if_true, if_false, if_pos, if_neg, am_b01, am_b0, am_b1, ne_eq, eq_self, reduceCtorEq, rng_t, Bool.and_true, Bool.and_false, Bool.true_and, Bool.false_and, ite_rgI, if_pos rfl, sp_hourA M B, sp_personA M B, sp_in_0_99, hr]
      · obtain ⟨s, _, hs, hsa⟩ := rgI_n (m := 0) (n := 99) rfl rfl hr
        by_cases hn : bN r < 30
        · generalize hI1 : am_up2 (am_up2 (am_up2 (am_up2 I 58 (bN r) (nI p)) 59 (bN r) (nI h)) 60 (bN r) (nI s)) 57 3 (nI (bN r + 1)) = I1
          have u : ∀ q k, q ≠ 57 → q ≠ 58 → q ≠ 59 → q ≠ 60 → I1 q k = I q k := fun q k h1 h2 h3 h4 => by
            rw [← hI1, up_ne (by omega), up_ne (by omega), up_ne (by omega), up_ne (by omega)]
          have X1 : InX g (rBok r p h s) I1 J := by
            refine ⟨rx_cong B (fun q k hq => u q k (by unfold xS at hq; omega) (by unfold xS at hq; omega) (by unfold xS at hq; omega) (by unfold xS at hq; omega)) X, qx_bok XQ rfl (fun q k hq => ?_) ?_ ?_ ?_ ?_, D⟩
            · rw [← hI1, up_ne (by omega), up_ne (by omega), up_ne (by omega), up_ne (by omega)]
            · rw [← hI1, up_ne (by omega), up_ne (by omega), up_ne (by omega), up_eq]
            · rw [← hI1, up_ne (by omega), up_ne (by omega), up_eq]
            · rw [← hI1, up_ne (by omega), up_eq]
            · rw [← hI1, up_eq]
          have M1 : InM g r I1 := inm_x (fun q k hq => u q k (by omega) (by omega) (by omega) (by omega)) ⟨M, MQ, C⟩
          obtain ⟨M1a, M1b, M1c⟩ := M1
          generalize hI2 : am_up2 (am_up2 (am_up2 (am_up2 I1 110 (bN r) (nI h)) 111 (bN r) (nI p)) 112 (bN r) (nI s)) 81 55 (nI (bN r + 1)) = I2
          have M2 : InM g (rBok r p h s) I2 := by
            refine ⟨?_, qm_bok M1b rfl (fun q k hq => ?_) ?_ ?_ ?_ ?_, ?_⟩
            · rw [← hI2]; exact rm_up (by unfold mS; omega) (rm_up (by unfold mS; omega) (rm_up (by unfold mS; omega) (rm_up (by unfold mS; omega) M1a)))
            · rw [← hI2, up_ne (by omega), up_ne (by omega), up_ne (by omega), up_ne (by omega)]
            · rw [← hI2, up_ne (by omega), up_ne (by omega), up_eq]
            · rw [← hI2, up_ne (by omega), up_ne (by omega), up_ne (by omega), up_eq]
            · rw [← hI2, up_ne (by omega), up_eq]
            · rw [← hI2, up_eq]
            · rw [← hI2]; exact m0_up (by unfold m4; omega) (m0_up (by unfold m4; omega) (m0_up (by unfold m4; omega) (m0_up (by unfold m4; omega) M1c)))
          have X2 : InX g (rBok r p h s) I2 J := inx_m B (fun q k hq => by rw [← hI2, up_ne (by omega), up_ne (by omega), up_ne (by omega), up_ne (by omega)]) (fun _ => rfl) X1
          refine ⟨nI (bN r + 1), I1, J, I2, J, ?_, ?_, ⟨g, rBok r p h s, S, bq_bok Q hn hp hh hs, X2, M2⟩⟩
          · simp (disch := omega) only [b_X8_write_0, b_X8_write_8, b_X8_write_19, b_X8_write_22, b_X8_write_35, Option.bind_some, am_k_v, am_k_n, ↓n_in, nI_clamp, i_p1, nI_leI, nI_ltI, nI_eq, n_lt0, n_le0, n_eq0, n_gt0, n_lm, n_em, n_me, n_mlt, false_or, or_false, true_or, or_true, false_and, and_false, true_and, and_true, not_false_eq_true, not_true_eq_false, if_true, if_false, if_pos, if_neg, am_b01, am_b0, am_b1, ne_eq, eq_self, reduceCtorEq, rng_t, Bool.and_true, Bool.and_false, Bool.true_and, Bool.false_and, ite_rgI, if_pos rfl, sx_hourA X, sx_personA X, hr]
            simp (disch := omega) only [hsa, b_X4_add_0_2, Option.bind_some, am_k_v, am_k_n, ↓n_in, nI_clamp, i_p1, nI_leI, nI_ltI, nI_eq, n_lt0, n_le0, n_eq0, n_gt0, n_lm, n_em, n_me, n_mlt, false_or, or_false, true_or, or_true, false_and, and_false, true_and, and_true, not_false_eq_true, not_true_eq_false, if_true, if_false, if_pos, if_neg, am_b01, am_b0, am_b1, ne_eq, eq_self, reduceCtorEq, rng_t, Bool.and_true, Bool.and_false, Bool.true_and, Bool.false_and, ite_rgI, if_pos rfl, XQ.1.2.2.2.2.2.1, show (30 : Int32) = nI 30 from rfl, nI_1, hI1]
            rw [b_X8_write_48, if_neg (by decide), b_X8_write_63, ← hI1, up_eq]
          · simp (disch := omega) only [b_X9_write_0, b_X9_write_5, b_X9_write_16, b_X9_write_13, b_X9_write_29, Option.bind_some, am_k_v, am_k_n, ↓n_in, nI_clamp, i_p1, nI_leI, nI_ltI, nI_eq, n_lt0, n_le0, n_eq0, n_gt0, n_lm, n_em, n_me, n_mlt, false_or, or_false, true_or, or_true, false_and, and_false, true_and, and_true, not_false_eq_true, not_true_eq_false, if_true, if_false, if_pos, if_neg, am_b01, am_b0, am_b1, ne_eq, eq_self, reduceCtorEq, rng_t, Bool.and_true, Bool.and_false, Bool.true_and, Bool.false_and, ite_rgI, if_pos rfl, sp_hourA M1a B, sp_personA M1a B, sp_in_0_99, hr]
            simp (disch := omega) only [hsa, Option.bind_some, am_k_v, am_k_n, ↓n_in, nI_clamp, i_p1, nI_leI, nI_ltI, nI_eq, n_lt0, n_le0, n_eq0, n_gt0, n_lm, n_em, n_me, n_mlt, false_or, or_false, true_or, or_true, false_and, and_false, true_and, and_true, not_false_eq_true, not_true_eq_false, if_true, if_false, if_pos, if_neg, am_b01, am_b0, am_b1, ne_eq, eq_self, reduceCtorEq, rng_t, Bool.and_true, Bool.and_false, Bool.true_and, Bool.false_and, ite_rgI, if_pos rfl, M1b.1.2.2.2.2.2, show (30 : Int32) = nI 30 from rfl, nI_1, hI2]
            rw [← hI2, up_eq]
        · refine stp_pure H (v := -1000000004) ?_ ?_
          · simp (disch := omega) only [b_X8_write_0, b_X8_write_8, b_X8_write_22, b_X8_write_19, b_X8_write_35, b_X8_write_48, b_X8_write_63, b_X4_add_0_2, Option.bind_some, am_k_v, am_k_n, ↓n_in, nI_clamp, i_p1, nI_leI, nI_ltI, nI_eq, n_lt0, n_le0, n_eq0, n_gt0, n_lm, n_em, n_me, n_mlt, false_or, or_false, true_or, or_true, false_and, and_false, true_and, and_true, not_false_eq_true, not_true_eq_false, if_true, if_false, if_pos, if_neg, am_b01, am_b0, am_b1, ne_eq, eq_self, reduceCtorEq, rng_t, Bool.and_true, Bool.and_false, Bool.true_and, Bool.false_and, ite_rgI, if_pos rfl, sx_hourA X, sx_personA X, hr, XQ.1.2.2.2.2.2.1, show (30 : Int32) = nI 30 from rfl]
          · simp (disch := omega) only [b_X9_write_0, b_X9_write_5, b_X9_write_16, b_X9_write_13, b_X9_write_29, Option.bind_some, am_k_v, am_k_n, ↓n_in, nI_clamp, i_p1, nI_leI, nI_ltI, nI_eq, n_lt0, n_le0, n_eq0, n_gt0, n_lm, n_em, n_me, n_mlt, false_or, or_false, true_or, or_true, false_and, and_false, true_and, and_true, not_false_eq_true, not_true_eq_false, if_true, if_false, if_pos, if_neg, am_b01, am_b0, am_b1, ne_eq, eq_self, reduceCtorEq, rng_t, Bool.and_true, Bool.and_false, Bool.true_and, Bool.false_and, ite_rgI, if_pos rfl, sp_hourA M B, sp_personA M B, sp_in_0_99, hr, MQ.1.2.2.2.2.2, show (30 : Int32) = nI 30 from rfl]
    · refine stp_pure H (v := -1000000001) ?_ ?_
      · simp (disch := omega) only [b_X8_write_0, b_X8_write_8, b_X8_write_19, b_X8_write_22, b_X8_write_35, Option.bind_some, am_k_v, am_k_n, ↓n_in, nI_clamp, i_p1, nI_leI, nI_ltI, nI_eq, n_lt0, n_le0, n_eq0, n_gt0, n_lm, n_em, n_me, n_mlt, false_or, or_false, true_or, or_true, false_and, and_false, true_and, and_true, not_false_eq_true, not_true_eq_false, if_true, if_false, if_pos, if_neg, am_b01, am_b0, am_b1, ne_eq, eq_self, reduceCtorEq, rng_t, Bool.and_true, Bool.and_false, Bool.true_and, Bool.false_and, ite_rgI, if_pos rfl, sx_hourA X, sx_personA X, hp]
      · simp (disch := omega) only [b_X9_write_0, b_X9_write_5, b_X9_write_16, b_X9_write_13, b_X9_write_29, Option.bind_some, am_k_v, am_k_n, ↓n_in, nI_clamp, i_p1, nI_leI, nI_ltI, nI_eq, n_lt0, n_le0, n_eq0, n_gt0, n_lm, n_em, n_me, n_mlt, false_or, or_false, true_or, or_true, false_and, and_false, true_and, and_true, not_false_eq_true, not_true_eq_false, if_true, if_false, if_pos, if_neg, am_b01, am_b0, am_b1, ne_eq, eq_self, reduceCtorEq, rng_t, Bool.and_true, Bool.and_false, Bool.true_and, Bool.false_and, ite_rgI, if_pos rfl, sp_hourA M B, sp_personA M B, hp]
  · refine stp_pure H (v := -1000000001) ?_ ?_
    · simp (disch := omega) only [b_X8_write_0, b_X8_write_8, b_X8_write_19, b_X8_write_22, b_X8_write_35, Option.bind_some, am_k_v, am_k_n, ↓n_in, nI_clamp, i_p1, nI_leI, nI_ltI, nI_eq, n_lt0, n_le0, n_eq0, n_gt0, n_lm, n_em, n_me, n_mlt, false_or, or_false, true_or, or_true, false_and, and_false, true_and, and_true, not_false_eq_true, not_true_eq_false, if_true, if_false, if_pos, if_neg, am_b01, am_b0, am_b1, ne_eq, eq_self, reduceCtorEq, rng_t, Bool.and_true, Bool.and_false, Bool.true_and, Bool.false_and, ite_rgI, if_pos rfl, sx_hourA X, hh]
    · simp (disch := omega) only [b_X9_write_0, b_X9_write_5, b_X9_write_16, b_X9_write_13, b_X9_write_29, Option.bind_some, am_k_v, am_k_n, ↓n_in, nI_clamp, i_p1, nI_leI, nI_ltI, nI_eq, n_lt0, n_le0, n_eq0, n_gt0, n_lm, n_em, n_me, n_mlt, false_or, or_false, true_or, or_true, false_and, and_false, true_and, and_true, not_false_eq_true, not_true_eq_false, if_true, if_false, if_pos, if_neg, am_b01, am_b0, am_b1, ne_eq, eq_self, reduceCtorEq, rng_t, Bool.and_true, Bool.and_false, Bool.true_and, Bool.false_and, ite_rgI, if_pos rfl, sp_hourA M B, hh]
/-- a house (0: none) put on a cell, the shadows made anew -/
theorem x_put (X : RX g I) (B : BG g) {c t : Nat} (ht : t ≤ 9) : am_ev (am_tbl Ls xs) 167 (0, [(0, .ref 61)], [], (am_sh, am_up2 I 37 c (nI t), J)) = some (none, (am_sh, am_up2 I 37 c (nI t), wri J 62 (gN g) (dk (setH g (fset (gH g) c t))))) :=
  sx_darken (rx_setH X B) (bg_setH B ht)
theorem pu_build (H : Inv I J) (x y a : Int32) : StpC Ls xs 86 46 [(0, .ref 0), (1, .int x), (2, .int y), (3, .int a)] [(0, .ref 81), (1, .int x), (2, .int y), (3, .int a)] I J := by
  obtain ⟨g, r, S, Q, ⟨X, XQ, D⟩, ⟨M, MQ, C⟩⟩ := id H
  have B := S.1
  have b1 := bg_1 B
  by_cases hxy : rng (gW g) x = false ∨ rng (gD g) y = false
  · refine stp_pure H (v := -1000000001) ?_ ?_
    · simp (disch := omega) only [b_X8_build_0, b_X8_build_9, b_X8_build_30, Option.bind_some, am_k_v, am_k_n, ↓n_in, nI_clamp, i_p1, nI_leI, nI_ltI, nI_eq, n_lt0, n_le0, n_eq0, n_gt0, n_lm, n_em, n_me, n_mlt, false_or, or_false, true_or, or_true, false_and, and_false, true_and, and_true, not_false_eq_true, not_true_eq_false, if_true, if_false, if_pos, if_neg, am_b01, am_b0, am_b1, ne_eq, eq_self, reduceCtorEq, rng_t, Bool.and_true, Bool.and_false, Bool.true_and, Bool.false_and, ite_rgI, if_pos rfl, sx_cellAtF X B hxy]
    · have : (rng (gW g) x && rng (gD g) y) = false := by rcases hxy with q | q <;> rw [q] <;> simp
      simp (disch := omega) only [b_X9_build_0, b_X9_build_6, b_X9_build_22, Option.bind_some, am_k_v, am_k_n, ↓n_in, nI_clamp, i_p1, nI_leI, nI_ltI, nI_eq, n_lt0, n_le0, n_eq0, n_gt0, n_lm, n_em, n_me, n_mlt, false_or, or_false, true_or, or_true, false_and, and_false, true_and, and_true, not_false_eq_true, not_true_eq_false, if_true, if_false, if_pos, if_neg, am_b01, am_b0, am_b1, ne_eq, eq_self, reduceCtorEq, rng_t, Bool.and_true, Bool.and_false, Bool.true_and, Bool.false_and, ite_rgI, if_pos rfl, sp_cellA M B, this]
  · rcases rng_or (gW g) (by omega) x with ⟨x, hx, rfl⟩ | hx
    · rcases rng_or (gD g) (by omega) y with ⟨y, hy, rfl⟩ | hy
      · have hc := cix_lt hx hy
        have b3 := bg_H B (show cix g x y < 48 by omega)
        cases hr : rgI 0 9 a
        · refine stp_pure H (v := -1000000002) ?_ ?_
          · simp (disch := omega) only [b_X8_build_0, b_X8_build_9, b_X8_build_30, Option.bind_some, am_k_v, am_k_n, ↓n_in, nI_clamp, i_p1, nI_leI, nI_ltI, nI_eq, n_lt0, n_le0, n_eq0, n_gt0, n_lm, n_em, n_me, n_mlt, false_or, or_false, true_or, or_true, false_and, and_false, true_and, and_true, not_false_eq_true, not_true_eq_false, if_true, if_false, if_pos, if_neg, am_b01, am_b0, am_b1, ne_eq, eq_self, reduceCtorEq, rng_t, Bool.and_true, Bool.and_false, Bool.true_and, Bool.false_and, ite_rgI, if_pos rfl, sx_cellAtT X B hx hy, hr]
          · simp (disch := omega) only [b_X9_build_0, b_X9_build_6, b_X9_build_22, Option.bind_some, am_k_v, am_k_n, ↓n_in, nI_clamp, i_p1, nI_leI, nI_ltI, nI_eq, n_lt0, n_le0, n_eq0, n_gt0, n_lm, n_em, n_me, n_mlt, false_or, or_false, true_or, or_true, false_and, and_false, true_and, and_true, not_false_eq_true, not_true_eq_false, if_true, if_false, if_pos, if_neg, am_b01, am_b0, am_b1, ne_eq, eq_self, reduceCtorEq, rng_t, Bool.and_true, Bool.and_false, Bool.true_and, Bool.false_and, ite_rgI, if_pos rfl, sp_cellA M B, sp_in_0_9, hr]
        · obtain ⟨t, _, ht, hta⟩ := rgI_n (m := 0) (n := 9) rfl rfl hr
          obtain ⟨b, hb1, hb2⟩ := sx_somebody (Ls := Ls) (xs := xs) (J := J) X B (show cix g x y < 1000 by omega)
          by_cases hno : t ≠ 0 ∧ b = true
          · have hm : anyb (fun p => decide (gA g p = cix g x y)) (gP g) = true := by
              rw [anyb_iff]
              obtain ⟨p, h1, h2⟩ := hb2.mp hno.2
              exact ⟨p, h1, decide_eq_true h2⟩
            refine stp_pure H (v := -1000000003) ?_ ?_
            · simp (disch := omega) only [b_X8_build_0, b_X8_build_9, b_X8_build_30, Option.bind_some, am_k_v, am_k_n, ↓n_in, nI_clamp, i_p1, nI_leI, nI_ltI, nI_eq, n_lt0, n_le0, n_eq0, n_gt0, n_lm, n_em, n_me, n_mlt, false_or, or_false, true_or, or_true, false_and, and_false, true_and, and_true, not_false_eq_true, not_true_eq_false, if_true, if_false, if_pos, if_neg, am_b01, am_b0, am_b1, ne_eq, eq_self, reduceCtorEq, rng_t, Bool.and_true, Bool.and_false, Bool.true_and, Bool.false_and, ite_rgI, if_pos rfl, sx_cellAtT X B hx hy, hr]
              simp (disch := omega) only [hta, Option.bind_some, am_k_v, am_k_n, ↓n_in, nI_clamp, i_p1, nI_leI, nI_ltI, nI_eq, n_lt0, n_le0, n_eq0, n_gt0, n_lm, n_em, n_me, n_mlt, false_or, or_false, true_or, or_true, false_and, and_false, true_and, and_true, not_false_eq_true, not_true_eq_false, if_true, if_false, if_pos, if_neg, am_b01, am_b0, am_b1, ne_eq, eq_self, reduceCtorEq, rng_t, Bool.and_true, Bool.and_false, Bool.true_and, Bool.false_and, ite_rgI, if_pos rfl, hb1, hno.1, hno.2, b_X8_build_46]
            · simp (disch := omega) only [b_X9_build_0, b_X9_build_6, b_X9_build_22, Option.bind_some, am_k_v, am_k_n, ↓n_in, nI_clamp, i_p1, nI_leI, nI_ltI, nI_eq, n_lt0, n_le0, n_eq0, n_gt0, n_lm, n_em, n_me, n_mlt, false_or, or_false, true_or, or_true, false_and, and_false, true_and, and_true, not_false_eq_true, not_true_eq_false, if_true, if_false, if_pos, if_neg, am_b01, am_b0, am_b1, ne_eq, eq_self, reduceCtorEq, rng_t, Bool.and_true, Bool.and_false, Bool.true_and, Bool.false_and, ite_rgI, if_pos rfl, sp_cellA M B, sp_in_0_9, hr]
              simp (disch := omega) only [hta, Option.bind_some, am_k_v, am_k_n, ↓n_in, nI_clamp, i_p1, nI_leI, nI_ltI, nI_eq, n_lt0, n_le0, n_eq0, n_gt0, n_lm, n_em, n_me, n_mlt, false_or, or_false, true_or, or_true, false_and, and_false, true_and, and_true, not_false_eq_true, not_true_eq_false, if_true, if_false, if_pos, if_neg, am_b01, am_b0, am_b1, ne_eq, eq_self, reduceCtorEq, rng_t, Bool.and_true, Bool.and_false, Bool.true_and, Bool.false_and, ite_rgI, if_pos rfl, rm_W M, m_cix, sp_somebody M B, hno.1, hm, b_X9_build_48]
          · have hmem : t = 0 ∨ ∀ p, p < gP g → gA g p ≠ cix g x y := by
              by_cases h0 : t = 0
              · exact Or.inl h0
              · exact Or.inr fun p hp e => hno ⟨h0, hb2.mpr ⟨p, hp, e⟩⟩
            have S' := bs_H S ht hmem
            have X' := rx_setH (p := cix g x y) (c := t) X B
            have X1 : InX (setH g (fset (gH g) (cix g x y) t)) r (am_up2 I 37 (cix g x y) (nI t)) (wri J 62 (gN g) (dk (setH g (fset (gH g) (cix g x y) t)))) := ⟨X', qx_up (by unfold xQ; omega) XQ, rd_darken (g := setH g (fset (gH g) (cix g x y) t))⟩
            have M1 : InM g r (am_up2 I 37 (cix g x y) (nI t)) := inm_up (by omega) ⟨M, MQ, C⟩
            obtain ⟨M1a, M1b, M1c⟩ := M1
            have X2 := inx_up (q := 82) (k := cix g x y) (z := nI t) S'.1 (by omega) X1
            refine ⟨nI (gH g (cix g x y)), am_up2 I 37 (cix g x y) (nI t), wri J 62 (gN g) (dk (setH g (fset (gH g) (cix g x y) t))), _, wri J 62 (gN g) (dk (setH g (fset (gH g) (cix g x y) t))), ?_, ?_, ⟨setH g (fset (gH g) (cix g x y) t), r, S', Q, X2, ⟨rm_setH M1a, qm_up (by unfold mQ; omega) M1b, m0_up (by unfold m4; omega) M1c⟩⟩⟩
            · simp (disch := omega) only [b_X8_build_0, b_X8_build_9, b_X8_build_30, Option.bind_some, am_k_v, am_k_n, ↓n_in, nI_clamp, i_p1, nI_leI, nI_ltI, nI_eq, n_lt0, n_le0, n_eq0, n_gt0, n_lm, n_em, n_me, n_mlt, false_or, or_false, true_or, or_true, false_and, and_false, true_and, and_true, not_false_eq_true, not_true_eq_false, if_true, if_false, if_pos, if_neg, am_b01, am_b0, am_b1, ne_eq, eq_self, reduceCtorEq, rng_t, Bool.and_true, Bool.and_false, Bool.true_and, Bool.false_and, ite_rgI, if_pos rfl, sx_cellAtT X B hx hy, hr]
              have e52 : am_ev (am_tbl Ls xs) 86 (52, [(0, .ref 0), (3, .int (nI t)), (4, .int (nI (cix g x y)))], [], (am_sh, I, J)) = some (some (.int (nI (gH g (cix g x y)))), (am_sh, am_up2 I 37 (cix g x y) (nI t), wri J 62 (gN g) (dk (setH g (fset (gH g) (cix g x y) t))))) := by
                rw [b_X8_build_52]
                simp (disch := omega) only [Option.bind_some, am_k_v, am_k_n, ↓n_in, nI_clamp, i_p1, nI_leI, nI_ltI, nI_eq, n_lt0, n_le0, n_eq0, n_gt0, n_lm, n_em, n_me, n_mlt, false_or, or_false, true_or, or_true, false_and, and_false, true_and, and_true, not_false_eq_true, not_true_eq_false, if_true, if_false, if_pos, if_neg, am_b01, am_b0, am_b1, ne_eq, eq_self, reduceCtorEq, rng_t, Bool.and_true, Bool.and_false, Bool.true_and, Bool.false_and, ite_rgI, if_pos rfl, rx_H X, x_put X B ht, b_X8_build_82]
              by_cases h0 : t = 0
              · rw [hta, if_pos ((n_le0 (by omega)).mpr h0), e52]
              · rw [hta, if_neg (fun q => h0 ((n_le0 (by omega)).mp q)), hb1, Option.bind_some, am_k_v, b_X8_build_46, if_pos (by rw [am_b0]; cases hbb : b; rfl; exact absurd ⟨h0, hbb⟩ hno), e52]
            · simp (disch := omega) only [b_X9_build_0, b_X9_build_6, b_X9_build_22, Option.bind_some, am_k_v, am_k_n, ↓n_in, nI_clamp, i_p1, nI_leI, nI_ltI, nI_eq, n_lt0, n_le0, n_eq0, n_gt0, n_lm, n_em, n_me, n_mlt, false_or, or_false, true_or, or_true, false_and, and_false, true_and, and_true, not_false_eq_true, not_true_eq_false, if_true, if_false, if_pos, if_neg, am_b01, am_b0, am_b1, ne_eq, eq_self, reduceCtorEq, rng_t, Bool.and_true, Bool.and_false, Bool.true_and, Bool.false_and, ite_rgI, if_pos rfl, sp_cellA M1a B, sp_in_0_9, hr]
              have e55 : am_ev (am_tbl Ls xs) 46 (55, [(0, .ref 81), (3, .int (nI t)), (4, .int (nI (cix g x y)))], [], (am_sh, am_up2 I 37 (cix g x y) (nI t), wri J 62 (gN g) (dk (setH g (fset (gH g) (cix g x y) t))))) = some (some (.int (nI (gH g (cix g x y)))), (am_sh, am_up2 (am_up2 I 37 (cix g x y) (nI t)) 82 (cix g x y) (nI t), wri J 62 (gN g) (dk (setH g (fset (gH g) (cix g x y) t))))) := by
                rw [b_X9_build_55]
                simp (disch := omega) only [Option.bind_some, am_k_v, am_k_n, ↓n_in, nI_clamp, i_p1, nI_leI, nI_ltI, nI_eq, n_lt0, n_le0, n_eq0, n_gt0, n_lm, n_em, n_me, n_mlt, false_or, or_false, true_or, or_true, false_and, and_false, true_and, and_true, not_false_eq_true, not_true_eq_false, if_true, if_false, if_pos, if_neg, am_b01, am_b0, am_b1, ne_eq, eq_self, reduceCtorEq, rng_t, Bool.and_true, Bool.and_false, Bool.true_and, Bool.false_and, ite_rgI, if_pos rfl, rm_H M1a]
              rw [rm_W M1a, m_cix, hta]
              by_cases h0 : t = 0
              · rw [if_pos ((n_le0 (by omega)).mpr h0), e55]
              · rw [if_neg (fun q => h0 ((n_le0 (by omega)).mp q)), sp_somebody M1a B (show cix g x y < 1000 by omega), Option.bind_some, am_k_v, b_X9_build_48, if_pos (by
                  rw [am_b0]
                  cases hbb : anyb (fun p => decide (gA g p = cix g x y)) (gP g)
                  · rfl
                  · obtain ⟨p, h1, h2⟩ := anyb_iff.mp hbb
                    rcases hmem with z | z
                    · exact absurd z h0
                    · exact absurd (of_decide_eq_true h2) (z p h1)), e55]
      · exact absurd (Or.inr hy) hxy
    · exact absurd (Or.inl hx) hxy
theorem pu_judge (H : Inv I J) : StpC Ls xs 100 71 [(0, .ref 0)] [(0, .ref 81)] I J := by
  obtain ⟨g, r, S, Q, ⟨X, XQ, D⟩, ⟨M, MQ, C⟩⟩ := id H
  have B := S.1
  have b1 := bg_1 B
  have q1 := Q.1
  have hx : ∀ k, k < bN r → am_ev (am_tbl Ls xs) 100 (2, [(0, .ref 0), (1, .int (nI k))], [], (am_sh, I, J)) = if owN g (bP r k) (gA g (bP r k)) (tl g (bP r k)) none (bH r k) = bS r k then am_ev (am_tbl Ls xs) 100 (2, [(0, .ref 0), (1, .int (nI (k + 1)))], [], (am_sh, I, J)) else some (some (.int (nI k)), (am_sh, I, J)) := by
    intro k hk
    obtain ⟨q3, q4, q5⟩ := Q.2.2.2.2.1 k hk
    have b2 := bg_p B q3
    have ho : owN g (bP r k) (gA g (bP r k)) (tl g (bP r k)) none (bH r k) ≤ 48 := owN_le
    have e1 := (XQ.2.2.2.2.1 k hk).1
    have e2 := (XQ.2.2.2.2.1 k hk).2.1
    have e3 := (XQ.2.2.2.2.1 k hk).2.2
    rw [b_X8_judge_2]
    simp (disch := omega) only [b_X8_judge_21, b_X8_judge_30, b_X8_judge_37, b_X8_judge_45, b_X4_first_0, b_X4_first_22, b_X4_second_0, b_X4_second_22, b_X4_third_0, b_X4_third_22, b_X8_owed_0, b_X8_owed_8, b_X8_owed_22, b_X8_owed_19, b_X8_owed_43, Option.bind_some, am_k_v, am_k_n, ↓n_in, nI_clamp, i_p1, nI_leI, nI_ltI, nI_eq, n_lt0, n_le0, n_eq0, n_gt0, n_lm, n_em, n_me, n_mlt, false_or, or_false, true_or, or_true, false_and, and_false, true_and, and_true, not_false_eq_true, not_true_eq_false, if_true, if_false, if_pos, if_neg, am_b01, am_b0, am_b1, ne_eq, eq_self, reduceCtorEq, rng_t, Bool.and_true, Bool.and_false, Bool.true_and, Bool.false_and, ite_rgI, if_pos rfl, XQ.1.2.2.2.2.2.1, e1, e2, e3, sx_personA X, sx_hourA X, rx_A X, sx_owedAt X B D]
  have hm : ∀ k, k < bN r → am_ev (am_tbl Ls xs) 71 (2, [(0, .ref 81), (1, .int (nI k))], [], (am_sh, I, J)) = if owN g (bP r k) (gA g (bP r k)) (tl g (bP r k)) none (bH r k) = bS r k then am_ev (am_tbl Ls xs) 71 (2, [(0, .ref 81), (1, .int (nI (k + 1)))], [], (am_sh, I, J)) else some (some (.int (nI k)), (am_sh, I, J)) := by
    intro k hk
    obtain ⟨q3, q4, q5⟩ := Q.2.2.2.2.1 k hk
    have ho : owN g (bP r k) (gA g (bP r k)) (tl g (bP r k)) none (bH r k) ≤ 48 := owN_le
    have e1 := (MQ.2.2.2.2.1 k hk).1
    have e2 := (MQ.2.2.2.2.1 k hk).2.1
    have e3 := (MQ.2.2.2.2.1 k hk).2.2
    rw [b_X9_judge_2]
    simp (disch := omega) only [b_X9_judge_26, Option.bind_some, am_k_v, am_k_n, ↓n_in, nI_clamp, i_p1, nI_leI, nI_ltI, nI_eq, n_lt0, n_le0, n_eq0, n_gt0, n_lm, n_em, n_me, n_mlt, false_or, or_false, true_or, or_true, false_and, and_false, true_and, and_true, not_false_eq_true, not_true_eq_false, if_true, if_false, if_pos, if_neg, am_b01, am_b0, am_b1, ne_eq, eq_self, reduceCtorEq, rng_t, Bool.and_true, Bool.and_false, Bool.true_and, Bool.false_and, ite_rgI, if_pos rfl, MQ.1.2.2.2.2.2, e1, e2, e3, sp_owed0 M B C]
  rcases lpx (N := bN r) (f := fun k => (am_ev (am_tbl Ls xs) 100 (2, [(0, .ref 0), (1, .int (nI k))], [], (am_sh, I, J)), am_ev (am_tbl Ls xs) 71 (2, [(0, .ref 81), (1, .int (nI k))], [], (am_sh, I, J)))) (fun k => ¬ owN g (bP r k) (gA g (bP r k)) (tl g (bP r k)) none (bH r k) = bS r k) (fun k hk h0 => by
    have h0 := Classical.byContradiction h0
    show (_, _) = (_, _)
    rw [hx k hk, hm k hk, if_pos h0, if_pos h0]) with ⟨k, h1, h2, h3, h4⟩ | ⟨h1, h2⟩
  · obtain ⟨h5, h6⟩ := Prod.mk.inj h4
    refine stp_pure H (v := nI k) ?_ ?_
    · rw [b_X8_judge_0]
      exact h5.trans (by rw [hx k h1, if_neg h2])
    · rw [b_X9_judge_0]
      exact h6.trans (by rw [hm k h1, if_neg h2])
  · obtain ⟨h5, h6⟩ := Prod.mk.inj h2
    refine stp_pure H (v := -1) ?_ ?_
    · rw [b_X8_judge_0]
      refine h5.trans ?_
      rw [b_X8_judge_2]
      simp (disch := omega) only [Option.bind_some, am_k_v, am_k_n, ↓n_in, nI_clamp, i_p1, nI_leI, nI_ltI, nI_eq, n_lt0, n_le0, n_eq0, n_gt0, n_lm, n_em, n_me, n_mlt, false_or, or_false, true_or, or_true, false_and, and_false, true_and, and_true, not_false_eq_true, not_true_eq_false, if_true, if_false, if_pos, if_neg, am_b01, am_b0, am_b1, ne_eq, eq_self, reduceCtorEq, rng_t, Bool.and_true, Bool.and_false, Bool.true_and, Bool.false_and, ite_rgI, if_pos rfl, XQ.1.2.2.2.2.2.1]
    · rw [b_X9_judge_0]
      refine h6.trans ?_
      rw [b_X9_judge_2]
      simp (disch := omega) only [Option.bind_some, am_k_v, am_k_n, ↓n_in, nI_clamp, i_p1, nI_leI, nI_ltI, nI_eq, n_lt0, n_le0, n_eq0, n_gt0, n_lm, n_em, n_me, n_mlt, false_or, or_false, true_or, or_true, false_and, and_false, true_and, and_true, not_false_eq_true, not_true_eq_false, if_true, if_false, if_pos, if_neg, am_b01, am_b0, am_b1, ne_eq, eq_self, reduceCtorEq, rng_t, Bool.and_true, Bool.and_false, Bool.true_and, Bool.false_and, ite_rgI, if_pos rfl, MQ.1.2.2.2.2.2]
end
