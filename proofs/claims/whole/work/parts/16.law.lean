/-! THE CLAIM OUT OF ONE WALK OF THE LAW'S BODY. Your part is whole_start (and what it stands on); all else here is the same for every law, but numbers. -/
def R_law : String := "ShadowTaxLaw"
def lw_P (b : Addr) (xs : List Int32) (args : Array Value) (s : State) : Prop := args = #[.ref b] ∧ s.IntsAt b xs ∧ xs.length ≤ 2560 ∧ (Jvm.Cond.and given_1 narrow_1).before args s = true
def lw_Q (_ : Array Value) (s : State) (o : Outcome) (t : State) : Prop := o = .returned (some (.int 1)) ∧ Framed s o t [] 600000 7302250
def lw_Z (below : List Frame) (a : Array Value) (s : State) : State → Prop := fun t => ∃ o, t.status = .running ∧ Ended t below o ∧ lw_Q a s o t
/-- what holds at the law's entry: the machine, the code, the tables' words (any of lw_tbl by 'hts w (by decide +kernel)'), the script of L ints xs at the cell b, what the Statement gives of the start (any of its parts by flat_of_before) -/
def lw_At (p : Program) (s : State) (m : MethodId) (meth : Method) (c : Code) (b L : Nat) (xs : Nat → Int32) : Prop :=
  p.tables.exec = Jvm.exec ∧ c.code = code ∧ meth.sig.returnType = ret ∧ c.maxLocals = 4 ∧ s.vm.findClass R_law = some m.cls ∧ (∀ w ∈ lw_tbl, w.before #[Value.ref b] s = true) ∧ va_X b L xs s s.heap ∧ b < s.heap.size ∧ meth.locks = false ∧ (Jvm.Cond.and given_1 narrow_1).before #[Value.ref b] s = true

def am_tm (i : Nat) : Term := .string "ShadowTax$Reading" ((am_ldk.getD i (0, "")).1)
theorem W.monoQ {p : Program} {l : Launch} {e : Env} {R : Room} {s : State} {m : MethodId} {args : Array Value} {below : List Frame} {meth : Method} {c : Code} {H : Heap} {locs : List Loc} {cells slots : Nat} {Q Q' : State → Prop} {g : JFrame} (h : ∀ t, Q t → Q' t) (k : W p l e R s m args below meth c H locs cells slots Q g) : W p l e R s m args below meth c H locs cells slots Q' g := fun T hT X => by
  obtain ⟨t, a, b⟩ := k T hT X
  exact ⟨t, a, h t b⟩
theorem am_arr {args : Array Value} {s : State} {ty : FieldType} (h : (Cond.arrayClass ty).before args s = true) : ∃ c : ClassId, ArrOfT s c ty ∧ s.vm.findClass ("[" ++ ty.toString) = some c := by
  obtain ⟨c, k, comp, h1, h2, h3⟩ := Cond.arrayClass_spec h
  exact ⟨c, fun n z => ⟨fun k h => (by cases h), k, h2, comp, h3⟩, h1⟩
theorem am_arr2 {args : Array Value} {s : State} (h : (Cond.arrayOver (.array .int)).before args s = true) : ∃ c : ClassId, ArrOfT s c (.array .int) ∧ s.vm.findClass ("[" ++ (FieldType.array .int).toString) = some c := by
  obtain ⟨comp, c, k, h0, h2, h3, h1⟩ := Cond.arrayOver_specA h
  exact ⟨c, fun n z => ⟨fun k h => (by cases h), k, h2, comp, h3⟩, h1⟩
def am_adr (base b : Nat) (adK adV : Nat → Nat) (f g : Nat) (k : Nat) : Nat := if k < 1000000 then base + k else if k < 1000005 then adK (k - 1000000) else if k < 1000015 then adV (k - 1000010) else if k = 1000100 then b else if k = 1000200 then f else g
set_option maxRecDepth 20000 in
set_option maxHeartbeats 2000000 in
theorem am_strs {args : Array Value} {s : State} (hgv : (Jvm.Cond.and given_1 narrow_1).before args s = true) : ∃ adK adV : Nat → Nat, vk_S 5 (am_tx.map List.length) am_tx adK adV (fun q => s.heap.size ≤ q) s s.heap ∧ ∀ i : Nat, i < 5 → (am_tm i).eval args s none [] s = some (.ref (adK i)) := by
  have hs := flat_of_before _ hgv
  have h1 : ∀ i, i < 5 → Cond.exactly (am_tm i) "java/lang/String" ∈ flatC (Jvm.Cond.and given_1 narrow_1) := by decide +kernel
  have h2 : ∀ i, i < 5 → Cond.eq (.field (am_tm i) "java/lang/String" "coder" "B") (.int 0) ∈ flatC (Jvm.Cond.and given_1 narrow_1) := by decide +kernel
  have h3 : ∀ i, i < 5 → Cond.arrayOf (.field (am_tm i) "java/lang/String" "value" "[B") .byte ∈ flatC (Jvm.Cond.and given_1 narrow_1) := by decide +kernel
  have h4 : ∀ i, i < 5 → Cond.eq (.length (.field (am_tm i) "java/lang/String" "value" "[B")) (.int (Int32.ofNat ((am_tx.map List.length).getD i 0))) ∈ flatC (Jvm.Cond.and given_1 narrow_1) := by decide +kernel
  have h5 : ∀ i, i < 5 → ∀ j, j < (am_tx.map List.length).getD i 0 → Cond.eq (.elem (.field (am_tm i) "java/lang/String" "value" "[B") (.int (Int32.ofNat j))) (.int ((am_tx.getD i []).getD j 0)) ∈ flatC (Jvm.Cond.and given_1 narrow_1) := by decide +kernel
  have h6 : ∀ i, i < 5 → ∀ j, j < 5 → i ≠ j → (Cond.not (Cond.eq (am_tm i) (am_tm j)) ∈ flatC (Jvm.Cond.and given_1 narrow_1) ∨ Cond.not (Cond.eq (am_tm j) (am_tm i)) ∈ flatC (Jvm.Cond.and given_1 narrow_1)) := by decide +kernel
  have h0 : ∀ i, i < 5 → (am_tx.map List.length).getD i 0 < 2 ^ 31 := by decide +kernel
  exact vk_Sof h0 (fun i hi => hs _ (h1 i hi)) (fun i hi => hs _ (h2 i hi)) (fun i hi => hs _ (h3 i hi)) (fun i hi => hs _ (h4 i hi)) (fun i hi j hj => hs _ (h5 i hi j hj)) (fun i j hi hj hij => (h6 i hi j hj hij).imp (hs _) (hs _)) (fun a ha => Nat.not_le.mpr ha)
set_option maxRecDepth 20000 in
set_option maxHeartbeats 2000000 in
theorem am_law {p : Program} {e : Env} {s : State} {m : MethodId} {below : List Frame} {meth : Method} {c : Code} (l : Launch) {b L : Nat} {xs : Nat → Int32} (C0 : lw_At p s m meth c b L xs) {n : Nat} {M' : AmM} (hrun : am_run (am_tbl L xs) n 109 (0, [(0, .ref 1000100)], [], ([], fun _ _ => 0, fun _ _ => 0)) = some (some (.int 1), M')) (hcl : M'.1.length ≤ 600000) (hsl : am_sl M'.1 ≤ 7302250) : W p l e room_1 s m #[Value.ref b] below meth c s.heap [] 0 0 (lw_Z below #[Value.ref b] s) (entryFrame m ([Value.ref b] : List Value).toArray 4) := by
  obtain ⟨hx, hb, hr, hml, hown, hts, hX, hbl, hlocks, hgv⟩ := id C0
  have htb : ∀ w ∈ am_tb, w.before #[Value.ref b] s = true := fun w hw => hts w (List.mem_filter.mp hw).1
  obtain ⟨adK, adV, hstr, hev⟩ := am_strs hgv
  have hs := flat_of_before _ hgv
  have hA : ∀ a : Nat, a < s.heap.size → ¬ (fun q => s.heap.size ≤ q) a := fun a ha => Nat.not_le.mpr ha
  have hcs := va_Zof (A := fun q => s.heap.size ≤ q) (hts (.laysStatic "java/lang/String" "COMPACT_STRINGS" "Z") (by decide +kernel)) (hts (.initialized "java/lang/String") (by decide +kernel)) (va_eqt (hs (.eq (.static "java/lang/String" "COMPACT_STRINGS" "Z") (.int 1)) (by decide +kernel))) hA
  have hsf := va_Zqof (A := fun q => s.heap.size ≤ q) (hts (.laysStatic "jdk/internal/util/Preconditions" "SIOOBE_FORMATTER" "Ljava/util/function/BiFunction;") (by decide +kernel)) (hts (.initialized "jdk/internal/util/Preconditions") (by decide +kernel)) (hs (.isRef (.static "jdk/internal/util/Preconditions" "SIOOBE_FORMATTER" "Ljava/util/function/BiFunction;")) (by decide +kernel)) hA
  obtain ⟨f9, g9, hsf⟩ : ∃ f9 g9 : Nat, va_Z "jdk/internal/util/Preconditions" "SIOOBE_FORMATTER" "Ljava/util/function/BiFunction;" (if g9 = 0 then .null else .ref f9) (fun q => s.heap.size ≤ q) s s.heap := by
    rcases hsf with h | ⟨t, h⟩
    · exact ⟨0, 0, h⟩
    · exact ⟨t, 1, h⟩
  have hao := hts (.arrayOver (.array .int)) (by decide +kernel)
  obtain ⟨a1, hA1, hN1⟩ := am_arr (htb (.arrayClass .int) (by decide +kernel))
  obtain ⟨a2, hA2, hN2⟩ := am_arr (htb (.arrayClass .byte) (by decide +kernel))
  obtain ⟨a3, hA3, hN3⟩ := am_arr (htb (.arrayClass .boolean) (by decide +kernel))
  obtain ⟨a4, hA4, hN4⟩ := am_arr (htb (.arrayClass .long) (by decide +kernel))
  obtain ⟨a5, hA5, hN5⟩ := am_arr2 hao
  obtain ⟨c0, iS0, hKn0⟩ := u_known (C := RX0) (T := TX0) (N := 5) (n := 5) htb (am_cl 0 _ rfl).1 (htb (.instantiable RX0 5) (by decide +kernel))
  obtain ⟨c1, iS1, hKn1⟩ := u_known (C := RX1) (T := TX1) (N := 3) (n := 3) htb (am_cl 1 _ rfl).1 (htb (.instantiable RX1 3) (by decide +kernel))
  obtain ⟨c2, iS2, hKn2⟩ := u_known (C := RX2) (T := TX2) (N := 14) (n := 14) htb (am_cl 2 _ rfl).1 (htb (.instantiable RX2 14) (by decide +kernel))
  obtain ⟨c3, iS3, hKn3⟩ := u_known (C := RX3) (T := TX3) (N := 8) (n := 8) htb (am_cl 3 _ rfl).1 (htb (.instantiable RX3 8) (by decide +kernel))
  obtain ⟨c4, iS4, hKn4⟩ := u_known (C := RX4) (T := TX4) (N := 4) (n := 4) htb (am_cl 4 _ rfl).1 (htb (.instantiable RX4 4) (by decide +kernel))
  obtain ⟨c5, iS5, hKn5⟩ := u_known (C := RX5) (T := TX5) (N := 3) (n := 3) htb (am_cl 5 _ rfl).1 (htb (.instantiable RX5 3) (by decide +kernel))
  obtain ⟨c6, iS6, hKn6⟩ := u_known (C := RX6) (T := TX6) (N := 7) (n := 7) htb (am_cl 6 _ rfl).1 (htb (.instantiable RX6 7) (by decide +kernel))
  obtain ⟨c7, iS7, hKn7⟩ := u_known (C := RX7) (T := TX7) (N := 5) (n := 5) htb (am_cl 7 _ rfl).1 (htb (.instantiable RX7 5) (by decide +kernel))
  obtain ⟨c8, iS8, hKn8⟩ := u_known (C := RX8) (T := TX8) (N := 14) (n := 14) htb (am_cl 8 _ rfl).1 (htb (.instantiable RX8 14) (by decide +kernel))
  obtain ⟨c9, iS9, hKn9⟩ := u_known (C := RX9) (T := TX9) (N := 61) (n := 61) htb (am_cl 9 _ rfl).1 (htb (.instantiable RX9 61) (by decide +kernel))
  have hK : va_K (fun k => [c0, c1, c2, c3, c4, c5, c6, c7, c8, c9].getD k c0, fun k => [iS0, iS1, iS2, iS3, iS4, iS5, iS6, iS7, iS8, iS9].getD k iS0) vwCl (am_tys (fun k => [a1, a1, a2, a3, a4, a5].getD k a1)) s := by
    refine ⟨fun k q hq => ?_, fun k q hq => ?_⟩
    · match k, hq with
      | 0, hq => cases hq; exact hKn0
      | 1, hq => cases hq; exact hKn1
      | 2, hq => cases hq; exact hKn2
      | 3, hq => cases hq; exact hKn3
      | 4, hq => cases hq; exact hKn4
      | 5, hq => cases hq; exact hKn5
      | 6, hq => cases hq; exact hKn6
      | 7, hq => cases hq; exact hKn7
      | 8, hq => cases hq; exact hKn8
      | 9, hq => cases hq; exact hKn9
      | k + 10, hq => simp [vwCl] at hq
    · match k, hq with
      | 0, hq => cases hq; exact ⟨hA1, hN1⟩
      | 1, hq => cases hq; exact ⟨hA1, hN1⟩
      | 2, hq => cases hq; exact ⟨hA2, hN2⟩
      | 3, hq => cases hq; exact ⟨hA3, hN3⟩
      | 4, hq => cases hq; exact ⟨hA4, hN4⟩
      | 5, hq => cases hq; exact ⟨hA5, hN5⟩
      | k + 6, hq => simp [am_tys] at hq
  have had : ∀ k, k < 1000000 → am_adr s.heap.size b adK adV f9 g9 k = s.heap.size + k := fun k hk => if_pos hk
  have hXX : am_X (am_adr s.heap.size b adK adV f9 g9) s.heap.size s s.heap := by
    refine ⟨fun i q hq => ?_, ?_, hcs, ?_, hao, ?_⟩
    · match i, hq with
      | 0, hq => cases hq; exact vk_R.of (hts (.stringRef "ShadowTax$Reading" 81 "ground") (by decide +kernel)) (hev 0 (by omega))
      | 1, hq => cases hq; exact vk_R.of (hts (.stringRef "ShadowTax$Reading" 57 "house") (by decide +kernel)) (hev 1 (by omega))
      | 2, hq => cases hq; exact vk_R.of (hts (.stringRef "ShadowTax$Reading" 66 "sun") (by decide +kernel)) (hev 2 (by omega))
      | 3, hq => cases hq; exact vk_R.of (hts (.stringRef "ShadowTax$Reading" 71 "person") (by decide +kernel)) (hev 3 (by omega))
      | 4, hq => cases hq; exact vk_R.of (hts (.stringRef "ShadowTax$Reading" 76 "grey") (by decide +kernel)) (hev 4 (by omega))
      | i + 5, hq => simp [am_ldk] at hq
    · refine ⟨fun i hi => ?_, fun i j hi hj hij => ?_⟩
      · have e1 : am_adr s.heap.size b adK adV f9 g9 (1000000 + i) = adK i := by
          unfold am_adr
          rw [if_neg (by omega), if_pos (by omega)]
          exact congrArg adK (by omega)
        have e2 : am_adr s.heap.size b adK adV f9 g9 (1000010 + i) = adV i := by
          unfold am_adr
          rw [if_neg (by omega), if_neg (by omega), if_pos (by omega)]
          exact congrArg adV (by omega)
        dsimp only
        rw [e1, e2]
        exact hstr.1 i hi
      · have e : ∀ i, i < 5 → am_adr s.heap.size b adK adV f9 g9 (1000000 + i) = adK i := by
          intro i hi
          unfold am_adr
          rw [if_neg (by omega), if_pos (by omega)]
          exact congrArg adK (by omega)
        dsimp only at hij
        rw [e i hi, e j hj] at hij
        exact hstr.2 i j hi hj hij
    · exact hsf
    · have hn : ∀ w ∈ am_nw, w ∈ lw_tbl := by decide +kernel
      have ho : ∀ w ∈ am_nw, w.onTables = true := by decide +kernel
      exact fun w hw => va_Nw.of (ho w hw) (hts w (hn w hw))
  have CC : am_C L xs (am_adr s.heap.size b adK adV f9 g9) s.heap.size (fun k => [c0, c1, c2, c3, c4, c5, c6, c7, c8, c9].getD k c0, fun k => [iS0, iS1, iS2, iS3, iS4, iS5, iS6, iS7, iS8, iS9].getD k iS0) (fun k => [a1, a1, a2, a3, a4, a5].getD k a1) (am_md 109) p room_1 s m #[Value.ref b] meth c :=
    ⟨⟨hx, hb, hml, hown, htb⟩, hK, Nat.le_refl _, (fun h => absurd h (by decide)), ⟨rfl, rfl⟩, hXX, had, fun _ => ⟨hX, hbl, Nat.not_le.mpr hbl⟩⟩
  have hsd := am_snd (am_all L xs) n 109 _ _ hrun
  have hl := lv_entry ([.ref b]) (n := 4) (Nat.le_of_ble_eq_true rfl)
  rw [lg_entry_eq]
  have hWd : am_Wd (am_adr s.heap.size b adK adV f9 g9) (fun k => [c0, c1, c2, c3, c4, c5, c6, c7, c8, c9].getD k c0, fun k => [iS0, iS1, iS2, iS3, iS4, iS5, iS6, iS7, iS8, iS9].getD k iS0) (fun k => [a1, a1, a2, a3, a4, a5].getD k a1) ([], fun _ _ => 0, fun _ _ => 0) s.heap := ⟨fun k q h => by simp [am_ws] at h, Nat.zero_le _⟩
  refine hsd.2 p l e room_1 s m _ below meth c _ _ _ _ s.heap [] 0 0 _ _ CC hl hWd va_S.rf rfl (by show 0 + (M'.1.length - 0) ≤ 600000; omega) (by show 0 + (am_sl M'.1 - 0) ≤ 7302250; omega) ?_
  intro a f H' locs' ls' htbl hf hWd' hS'
  have hok := am_all L xs 109 a.1 f htbl a.2.1 a.2.2.1 a.2.2.2
  have ea : ((a.1, a.2.1, a.2.2.1, a.2.2.2) : AmSt) = a := rfl
  rw [ea, hf] at hok
  have hok : am_Rt L xs (am_md 109) a (some (.int 1), M') := hok
  refine va_forget (fun q hq => hS'.2.2 q hq) ?_
  refine W.widen (k := 600000) (n := 7302250) (by show 0 + (M'.1.length - 0) ≤ _; omega) (by show 0 + (am_sl M'.1 - 0) ≤ _; omega) ?_
  have k2 := hok.2 p l e room_1 s m #[Value.ref b] below meth c _ _ _ _ H' [] 600000 7302250 ls' (fun _ _ o _ => o = .returned (some (.int 1))) (fun _ => False) CC hr hlocks (fun t _ _ => rfl) (fun q hq => by cases hq)
  refine W.monoQ (fun t ht => ?_) k2
  obtain ⟨o, h1, h2, h3, Lq, h4, h5⟩ := ht
  have hLq : Lq = [] := by
    cases Lq with
    | nil => rfl
    | cons q r => exact (h5 q List.mem_cons_self).elim
  subst hLq
  exact ⟨o, h1, h2, h3, h4⟩
