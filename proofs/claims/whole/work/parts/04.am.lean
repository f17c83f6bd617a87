/-! AN ABSTRACT MACHINE over positions: a cell is known by the number in which it was made; its shape (kind, number, references) apart from what ints and longs it holds. -/
abbrev AmSh : Type := Nat × Nat × List Int
abbrev AmM : Type := List AmSh × (Nat → Nat → Int32) × (Nat → Nat → Int64)
abbrev AmLs : Type := List (Nat × Value)
abbrev AmSt : Type := Nat × AmLs × List Value × AmM
abbrev AmRes : Type := Option Value × AmM
abbrev AmCall : Type := Nat × List Value × AmM × Nat × AmLs × List Value
abbrev AmOut : Type := Option (AmSt ⊕ (AmRes ⊕ AmCall))
abbrev AmOp : Type := AmSt → AmOut
/-- a method: bytes, locals, own class, is it a constructor, frames, locals' words, what it returns, name -/
abbrev AmMd : Type := ByteArray × Nat × String × Bool × Nat × Nat × Option FieldType × MethodName
def am_up2 {α : Type} (I : Nat → Nat → α) (r i : Nat) (x : α) : Nat → Nat → α := fun k j => if k = r ∧ j = i then x else I k j
def am_z2 {α : Type} (I : Nat → Nat → α) (r n : Nat) (x : α) : Nat → Nat → α := fun k j => if r ≤ k ∧ k < r + n then x else I k j
def am_fv (I : Nat → Nat → Int32) (J : Nat → Nat → Int64) (r k : Nat) (z : Int) : Value := if z = -1 then .int (I r k) else if z = -2 then .long (J r k) else if z = -3 then .null else .ref z.toNat
/-- what a value of the abstract machine is: positions are addresses; 'retAddr' stands for a reference that nobody looks at -/
def am_v (ad : Nat → Nat) : Value → Value
  | .ref k => .ref (ad k)
  | .retAddr _ => if ad 1000201 = 0 then .null else .ref (ad 1000200)
  | v => v
def am_L (ad : Nat → Nat) (L : AmLs) : AmLs := L.map (fun q => (q.1, am_v ad q.2))
def am_e (ad : Nat → Nat) (dA : Nat → ClassId) (I : Nat → Nat → Int32) (J : Nat → Nat → Int64) (r : Nat) (s : AmSh) : va_E :=
  if s.1 = 0 then .inr (s.2.1, s.2.2.mapIdx (fun k z => am_v ad (am_fv I J r k z)))
  else if s.1 = 4 then .inl (dA 4, s.2.1, .inr (.inl (J r)))
  else if s.1 = 5 then .inl (dA 5, s.2.1, .inr (.inr (.inr (.inr (fun i => (s.2.2[i]?).map (fun z => ad z.toNat))))))
  else .inl (dA s.1, s.2.1, .inl (I r))
def am_ws (ad : Nat → Nat) (dA : Nat → ClassId) (M : AmM) : va_W := M.1.mapIdx (fun k s => (ad k, am_e ad dA M.2.1 M.2.2 k s))
def am_s1w (s : AmSh) : Nat := if s.1 = 0 then s.2.2.length else s.2.1
def am_sl : List AmSh → Nat
  | [] => 0
  | s :: r => am_s1w s + am_sl r
def am_le (M M' : AmM) : Prop := M.1.length ≤ M'.1.length ∧ am_sl M.1 ≤ am_sl M'.1
def am_get (L : AmLs) (i : Nat) : Option Value := (L.find? (fun q => q.1 == i)).map (·.2)
def am_s1 (L : AmLs) (i : Nat) (v : Value) : AmLs := (i, v) :: L.filter (fun q => !(q.1 == i) && !(q.1 + 1 == i && q.2.category == 2))
def am_s2 (L : AmLs) (i : Nat) (v : Value) : AmLs := (i, v) :: L.filter (fun q => !(q.1 == i) && (!(q.1 == i + 1) && !(q.1 + 1 == i && q.2.category == 2)))
def am_nx (pc : Nat) (L : AmLs) (st : List Value) (M : AmM) : AmOut := some (.inl (pc, L, st, M))
def am_cs (st : List Value) : Nat := (st.map fun v => v.category).sum
-- what an instruction does
def o_push (v : Value) (n : Nat) : AmOp := fun σ => am_nx (σ.1 + n) σ.2.1 (v :: σ.2.2.1) σ.2.2.2
def o_iload (i n : Nat) : AmOp := fun σ => match am_get σ.2.1 i with
  | some (.int x) => am_nx (σ.1 + n) σ.2.1 (.int x :: σ.2.2.1) σ.2.2.2
  | _ => none
def o_lload (i n : Nat) : AmOp := fun σ => match am_get σ.2.1 i with
  | some (.long x) => am_nx (σ.1 + n) σ.2.1 (.long x :: σ.2.2.1) σ.2.2.2
  | _ => none
def o_aload (i n : Nat) : AmOp := fun σ => match am_get σ.2.1 i with
  | some (.ref x) => am_nx (σ.1 + n) σ.2.1 (.ref x :: σ.2.2.1) σ.2.2.2
  | _ => none
def o_istore (i n : Nat) : AmOp := fun σ => match σ.2.2.1 with
  | .int x :: st => am_nx (σ.1 + n) (am_s1 σ.2.1 i (.int x)) st σ.2.2.2
  | _ => none
def o_astore (i n : Nat) : AmOp := fun σ => match σ.2.2.1 with
  | .ref x :: st => am_nx (σ.1 + n) (am_s1 σ.2.1 i (.ref x)) st σ.2.2.2
  | _ => none
def o_lstore (i n : Nat) : AmOp := fun σ => match σ.2.2.1 with
  | .long x :: st => am_nx (σ.1 + n) (am_s2 σ.2.1 i (.long x)) st σ.2.2.2
  | _ => none
def o_iinc (i : Nat) (d : Int) : AmOp := fun σ => match am_get σ.2.1 i with
  | some (.int x) => am_nx (σ.1 + 3) (am_s1 σ.2.1 i (.int (x + Int32.ofInt d))) σ.2.2.1 σ.2.2.2
  | _ => none
def o_ibin (f : Int32 → Int32 → Int32) : AmOp := fun σ => match σ.2.2.1 with
  | .int y :: .int x :: st => am_nx (σ.1 + 1) σ.2.1 (.int (f x y) :: st) σ.2.2.2
  | _ => none
def o_idv (f : Int32 → Int32 → Int32) : AmOp := fun σ => match σ.2.2.1 with
  | .int y :: .int x :: st => if y = 0 then none else am_nx (σ.1 + 1) σ.2.1 (.int (f x y) :: st) σ.2.2.2
  | _ => none
def o_lbin (f : Int64 → Int64 → Int64) : AmOp := fun σ => match σ.2.2.1 with
  | .long y :: .long x :: st => am_nx (σ.1 + 1) σ.2.1 (.long (f x y) :: st) σ.2.2.2
  | _ => none
def o_ldv (f : Int64 → Int64 → Int64) : AmOp := fun σ => match σ.2.2.1 with
  | .long y :: .long x :: st => if y = 0 then none else am_nx (σ.1 + 1) σ.2.1 (.long (f x y) :: st) σ.2.2.2
  | _ => none
def o_lsh (f : Int64 → Int32 → Int64) : AmOp := fun σ => match σ.2.2.1 with
  | .int y :: .long x :: st => am_nx (σ.1 + 1) σ.2.1 (.long (f x y) :: st) σ.2.2.2
  | _ => none
def o_lcmp : AmOp := fun σ => match σ.2.2.1 with
  | .long y :: .long x :: st => am_nx (σ.1 + 1) σ.2.1 (.int (lg_cmp x y) :: st) σ.2.2.2
  | _ => none
def o_i2l : AmOp := fun σ => match σ.2.2.1 with
  | .int x :: st => am_nx (σ.1 + 1) σ.2.1 (.long x.toInt64 :: st) σ.2.2.2
  | _ => none
def o_l2i : AmOp := fun σ => match σ.2.2.1 with
  | .long x :: st => am_nx (σ.1 + 1) σ.2.1 (.int x.toInt32 :: st) σ.2.2.2
  | _ => none
def o_iun (f : Int32 → Int32) : AmOp := fun σ => match σ.2.2.1 with
  | .int x :: st => am_nx (σ.1 + 1) σ.2.1 (.int (f x) :: st) σ.2.2.2
  | _ => none
def o_dup : AmOp := fun σ => match σ.2.2.1 with
  | v :: st => if v.category = 1 then am_nx (σ.1 + 1) σ.2.1 (v :: v :: st) σ.2.2.2 else none
  | _ => none
def o_pop : AmOp := fun σ => match σ.2.2.1 with
  | v :: st => if v.category = 1 then am_nx (σ.1 + 1) σ.2.1 st σ.2.2.2 else none
  | _ => none
def o_dup2 : AmOp := fun σ => match σ.2.2.1 with
  | v :: w :: st => if v.category = 1 ∧ w.category = 1 then am_nx (σ.1 + 1) σ.2.1 (v :: w :: v :: w :: st) σ.2.2.2 else none
  | _ => none
def o_if (c : Int32 → Bool) (tgt : Nat) : AmOp := fun σ => match σ.2.2.1 with
  | .int x :: st => am_nx (if c x = true then tgt else σ.1 + 3) σ.2.1 st σ.2.2.2
  | _ => none
def o_icmp (c : Int32 → Int32 → Bool) (tgt : Nat) : AmOp := fun σ => match σ.2.2.1 with
  | .int y :: .int x :: st => am_nx (if c x y = true then tgt else σ.1 + 3) σ.2.1 st σ.2.2.2
  | _ => none
def o_goto (tgt : Nat) : AmOp := fun σ => am_nx tgt σ.2.1 σ.2.2.1 σ.2.2.2
def o_tsw (lo hi : Int) (tgts : List Nat) (dflt : Nat) : AmOp := fun σ => match σ.2.2.1 with
  | .int x :: st => if x.toInt < lo ∨ hi < x.toInt then am_nx dflt σ.2.1 st σ.2.2.2 else match tgts[(x.toInt - lo).toNat]? with
    | some t => am_nx t σ.2.1 st σ.2.2.2
    | none => none
  | _ => none
def o_get (ci k : Nat) : AmOp := fun σ => match σ.2.2.1 with
  | .ref r :: st => match σ.2.2.2.1[r]? with
    | some (0, c, rs) => if c = ci then match rs[k]? with
      | some z => am_nx (σ.1 + 3) σ.2.1 (am_fv σ.2.2.2.2.1 σ.2.2.2.2.2 r k z :: st) σ.2.2.2
      | none => none
      else none
    | _ => none
  | _ => none
def o_puti (ci k : Nat) : AmOp := fun σ => match σ.2.2.1 with
  | .int x :: .ref r :: st => match σ.2.2.2.1[r]? with
    | some (0, c, rs) => if c = ci ∧ rs[k]? = some (-1) then am_nx (σ.1 + 3) σ.2.1 st (σ.2.2.2.1, am_up2 σ.2.2.2.2.1 r k x, σ.2.2.2.2.2) else none
    | _ => none
  | _ => none
def o_putz (ci k : Nat) : AmOp := fun σ => match σ.2.2.1 with
  | .int x :: .ref r :: st => match σ.2.2.2.1[r]? with
    | some (0, c, rs) => if (c = ci ∧ rs[k]? = some (-1)) ∧ (x = 0 ∨ x = 1) then am_nx (σ.1 + 3) σ.2.1 st (σ.2.2.2.1, am_up2 σ.2.2.2.2.1 r k x, σ.2.2.2.2.2) else none
    | _ => none
  | _ => none
def o_putl (ci k : Nat) : AmOp := fun σ => match σ.2.2.1 with
  | .long x :: .ref r :: st => match σ.2.2.2.1[r]? with
    | some (0, c, rs) => if c = ci ∧ rs[k]? = some (-2) then am_nx (σ.1 + 3) σ.2.1 st (σ.2.2.2.1, σ.2.2.2.2.1, am_up2 σ.2.2.2.2.2 r k x) else none
    | _ => none
  | _ => none
def o_putr (ci k : Nat) : AmOp := fun σ => match σ.2.2.1 with
  | .ref v :: .ref r :: st => match σ.2.2.2.1[r]? with
    | some (0, c, rs) => if c = ci ∧ k < rs.length then am_nx (σ.1 + 3) σ.2.1 st (σ.2.2.2.1.set r (0, c, rs.set k (Int.ofNat v)), σ.2.2.2.2.1, σ.2.2.2.2.2) else none
    | _ => none
  | _ => none
/-- t: 1 an int's row, 2 a byte's, 3 a boolean's -/
def o_iald (t : Nat) : AmOp := fun σ => match σ.2.2.1 with
  | .int i :: .ref r :: st => match σ.2.2.2.1[r]? with
    | some (u, n, _) => if u = t ∧ ¬ (i < 0 ∨ n ≤ i.toNatClampNeg) then am_nx (σ.1 + 1) σ.2.1 (.int (σ.2.2.2.2.1 r i.toNatClampNeg) :: st) σ.2.2.2 else none
    | _ => none
  | _ => none
def o_lald : AmOp := fun σ => match σ.2.2.1 with
  | .int i :: .ref r :: st => match σ.2.2.2.1[r]? with
    | some (u, n, _) => if u = 4 ∧ ¬ (i < 0 ∨ n ≤ i.toNatClampNeg) then am_nx (σ.1 + 1) σ.2.1 (.long (σ.2.2.2.2.2 r i.toNatClampNeg) :: st) σ.2.2.2 else none
    | _ => none
  | _ => none
def o_aald : AmOp := fun σ => match σ.2.2.1 with
  | .int i :: .ref r :: st => match σ.2.2.2.1[r]? with
    | some (u, n, rs) => if u = 5 ∧ ¬ (i < 0 ∨ n ≤ i.toNatClampNeg) then match rs[i.toNatClampNeg]? with
      | some z => am_nx (σ.1 + 1) σ.2.1 (.ref z.toNat :: st) σ.2.2.2
      | none => none
      else none
    | _ => none
  | _ => none
def o_iast (t : Nat) (f : Int32 → Int32) : AmOp := fun σ => match σ.2.2.1 with
  | .int x :: .int i :: .ref r :: st => match σ.2.2.2.1[r]? with
    | some (u, n, _) => if u = t ∧ ¬ (i < 0 ∨ n ≤ i.toNatClampNeg) then am_nx (σ.1 + 1) σ.2.1 st (σ.2.2.2.1, am_up2 σ.2.2.2.2.1 r i.toNatClampNeg (f x), σ.2.2.2.2.2) else none
    | _ => none
  | _ => none
def o_last : AmOp := fun σ => match σ.2.2.1 with
  | .long x :: .int i :: .ref r :: st => match σ.2.2.2.1[r]? with
    | some (u, n, _) => if u = 4 ∧ ¬ (i < 0 ∨ n ≤ i.toNatClampNeg) then am_nx (σ.1 + 1) σ.2.1 st (σ.2.2.2.1, σ.2.2.2.2.1, am_up2 σ.2.2.2.2.2 r i.toNatClampNeg x) else none
    | _ => none
  | _ => none
def o_alen : AmOp := fun σ => match σ.2.2.1 with
  | .ref r :: st => match σ.2.2.2.1[r]? with
    | some (u, n, _) => if u = 1 then am_nx (σ.1 + 1) σ.2.1 (.int (Int32.ofNat n) :: st) σ.2.2.2 else none
    | _ => none
  | _ => none
def o_newa (t : Nat) : AmOp := fun σ => match σ.2.2.1 with
  | .int n :: st => if n < 0 ∨ 100000 < n.toNatClampNeg ∨ 900000 ≤ σ.2.2.2.1.length then none else
    am_nx (σ.1 + 2) σ.2.1 (.ref σ.2.2.2.1.length :: st) (σ.2.2.2.1 ++ [(t, n.toNatClampNeg, [])], am_z2 σ.2.2.2.2.1 σ.2.2.2.1.length 1 0, am_z2 σ.2.2.2.2.2 σ.2.2.2.1.length 1 0)
  | _ => none
def o_mna : AmOp := fun σ => match σ.2.2.1 with
  | .int k :: .int n :: st => if n < 0 ∨ k < 0 ∨ 10000 < n.toNatClampNeg ∨ 10000 < k.toNatClampNeg ∨ 900000 ≤ σ.2.2.2.1.length then none else
    am_nx (σ.1 + 4) σ.2.1 (.ref σ.2.2.2.1.length :: st)
      (σ.2.2.2.1 ++ ((5, n.toNatClampNeg, (List.range n.toNatClampNeg).map (fun i => Int.ofNat (σ.2.2.2.1.length + 1 + i))) :: List.replicate n.toNatClampNeg (1, k.toNatClampNeg, [])), am_z2 σ.2.2.2.2.1 σ.2.2.2.1.length (n.toNatClampNeg + 1) 0, am_z2 σ.2.2.2.2.2 σ.2.2.2.1.length (n.toNatClampNeg + 1) 0)
  | _ => none
def o_new (ci : Nat) (rs : List Int) : AmOp := fun σ => if 900000 ≤ σ.2.2.2.1.length then none else
  am_nx (σ.1 + 3) σ.2.1 (.ref σ.2.2.2.1.length :: σ.2.2.1) (σ.2.2.2.1 ++ [(0, ci, rs)], am_z2 σ.2.2.2.2.1 σ.2.2.2.1.length 1 0, am_z2 σ.2.2.2.2.2 σ.2.2.2.1.length 1 0)
def o_oini : AmOp := fun σ => match σ.2.2.1 with
  | .ref _ :: st => if am_cs st ≤ 8 then am_nx (σ.1 + 3) σ.2.1 st σ.2.2.2 else none
  | _ => none
/-- a call: callee y, n arguments besides the receiver, which is an object of kind ci, nl the callee's locals -/
def o_callv (y n ci nl : Nat) : AmOp := fun σ => match σ.2.2.1.drop n with
  | .ref r :: st => match σ.2.2.2.1[r]? with
    | some (0, c, _) => if c = ci ∧ am_cs st ≤ 8 ∧ (lg_sl (.ref r :: (σ.2.2.1.take n).reverse)).length ≤ nl then
        some (.inr (.inr (y, .ref r :: (σ.2.2.1.take n).reverse, σ.2.2.2, σ.1 + 3, σ.2.1, st))) else none
    | _ => none
  | _ => none
def o_calls (y n nl : Nat) : AmOp := fun σ =>
  if n ≤ σ.2.2.1.length ∧ am_cs (σ.2.2.1.drop n) ≤ 8 ∧ (lg_sl (σ.2.2.1.take n).reverse).length ≤ nl then
    some (.inr (.inr (y, (σ.2.2.1.take n).reverse, σ.2.2.2, σ.1 + 3, σ.2.1, σ.2.2.1.drop n))) else none
/-- Math.max, Math.min -/
def o_mth (f : Int32 → Int32 → Int32) : AmOp := fun σ => match σ.2.2.1 with
  | .int y :: .int x :: st => if am_cs st ≤ 8 then am_nx (σ.1 + 3) σ.2.1 (.int (f x y) :: st) σ.2.2.2 else none
  | _ => none
def o_iret : AmOp := fun σ => match σ.2.2.1 with
  | [.int x] => some (.inr (.inl (some (.int x), σ.2.2.2)))
  | _ => none
def o_zret : AmOp := fun σ => match σ.2.2.1 with
  | [.int x] => if x = 0 ∨ x = 1 then some (.inr (.inl (some (.int x), σ.2.2.2))) else none
  | _ => none
def o_nret (ty : FieldType) : AmOp := fun σ => match σ.2.2.1 with
  | [.int x] => if narrow ty (.int x) = .int x then some (.inr (.inl (some (.int x), σ.2.2.2))) else none
  | _ => none
def o_lret : AmOp := fun σ => match σ.2.2.1 with
  | [.long x] => some (.inr (.inl (some (.long x), σ.2.2.2)))
  | _ => none
def o_aret : AmOp := fun σ => match σ.2.2.1 with
  | [.ref x] => some (.inr (.inl (some (.ref x), σ.2.2.2)))
  | _ => none
def o_vret : AmOp := fun σ => match σ.2.2.1 with
  | [] => some (.inr (.inl (none, σ.2.2.2)))
  | _ => none
/-- the script: its cell is known as 1000100 -/
def o_sld (Ls : Nat) (xs : Nat → Int32) : AmOp := fun σ => match σ.2.2.1 with
  | .int i :: .ref r :: st => if r = 1000100 ∧ ¬ (i < 0 ∨ Ls ≤ i.toNatClampNeg) then am_nx (σ.1 + 1) σ.2.1 (.int (xs i.toNatClampNeg) :: st) σ.2.2.2 else none
  | _ => none
def o_slen (Ls : Nat) : AmOp := fun σ => match σ.2.2.1 with
  | .ref r :: st => if r = 1000100 then am_nx (σ.1 + 1) σ.2.1 (.int (Int32.ofNat Ls) :: st) σ.2.2.2 else none
  | _ => none
/-- the texts of String constants: the object i is known as 1000000 + i, its bytes as 1000010 + i -/
def am_tx : List (List Int32) := [[103, 114, 111, 117, 110, 100], [104, 111, 117, 115, 101], [115, 117, 110], [112, 101, 114, 115, 111, 110], [103, 114, 101, 121]]
def o_xval : AmOp := fun σ => match σ.2.2.1 with
  | .ref r :: st => if 1000000 ≤ r ∧ r < 1000005 then am_nx (σ.1 + 3) σ.2.1 (.ref (r + 10) :: st) σ.2.2.2 else none
  | _ => none
def o_xcod : AmOp := fun σ => match σ.2.2.1 with
  | .ref r :: st => if 1000000 ≤ r ∧ r < 1000005 then am_nx (σ.1 + 3) σ.2.1 (.int 0 :: st) σ.2.2.2 else none
  | _ => none
def o_xlen : AmOp := fun σ => match σ.2.2.1 with
  | .ref r :: st => if 1000010 ≤ r ∧ r < 1000015 then am_nx (σ.1 + 1) σ.2.1 (.int (Int32.ofNat (am_tx.getD (r - 1000010) []).length) :: st) σ.2.2.2 else none
  | _ => none
def o_xald : AmOp := fun σ => match σ.2.2.1 with
  | .int i :: .ref r :: st => if (1000010 ≤ r ∧ r < 1000015) ∧ ¬ (i < 0 ∨ (am_tx.getD (r - 1000010) []).length ≤ i.toNatClampNeg) then am_nx (σ.1 + 1) σ.2.1 (.int ((am_tx.getD (r - 1000010) []).getD i.toNatClampNeg 0) :: st) σ.2.2.2 else none
  | _ => none
/-- a call on a String constant -/
def o_callx (y n nl : Nat) : AmOp := fun σ => match σ.2.2.1.drop n with
  | .ref r :: st => if (1000000 ≤ r ∧ r < 1000005) ∧ am_cs st ≤ 8 ∧ (lg_sl (.ref r :: (σ.2.2.1.take n).reverse)).length ≤ nl then
        some (.inr (.inr (y, .ref r :: (σ.2.2.1.take n).reverse, σ.2.2.2, σ.1 + 3, σ.2.1, st))) else none
  | _ => none
/-- the runs -/
def am_run (tb : Nat → Nat → Option AmOp) : Nat → Nat → AmSt → Option AmRes
  | 0, _, _ => none
  | n + 1, k, σ => match tb k σ.1 with
    | none => none
    | some f => match f σ with
      | none => none
      | some (.inl τ) => am_run tb n k τ
      | some (.inr (.inl r)) => some r
      | some (.inr (.inr q)) => match am_run tb n q.1 (0, lv_args 0 q.2.1, [], q.2.2.1) with
        | none => none
        | some r => am_run tb n k (q.2.2.2.1, q.2.2.2.2.1, r.1.toList ++ q.2.2.2.2.2, r.2)
