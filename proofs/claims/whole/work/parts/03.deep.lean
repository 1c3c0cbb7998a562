/-! THE DEEP MACHINE: a small machine over the cells that the class and the reference make at the start (no cell is made later): ints alone in them, references by the layout. -/
abbrev dm_LV : Type := List (Option Value)
abbrev dm_M : Type := Nat → Nat → Int32
def dm_up (M : dm_M) (q k : Nat) (v : Int32) : dm_M := fun a b => if a = q ∧ b = k then v else M a b
/-- the cells: kind, and per field 0 (an int), 9999 (the reader's tape), or 1 and the cell it refers to; of an array its length (of one of cords: the cells) -/
def dm_LYb (o : Nat) : List (Nat × List Nat) := [(0, [0, o + 2, o + 3, o + 4, 0, o + 5, 0, o + 6, 0, o + 7, 0]), (100, [4]), (100, [4]), (102, [o + 7, o + 10, o + 13, o + 16, o + 19]), (100, [5]), (100, [100]), (100, [8]),
  (1, [0, 0, 0, 0, o + 9]), (3, [o + 10, 0]), (100, [49]), (1, [0, 0, 0, 0, o + 12]), (3, [o + 13, 0]), (100, [49]), (1, [0, 0, 0, 0, o + 15]), (3, [o + 16, 0]), (100, [49]), (1, [0, 0, 0, 0, o + 18]), (3, [o + 19, 0]), (100, [49]), (1, [0, 0, 0, 0, o + 21]), (3, [o + 22, 0]), (100, [49])]
def dm_LY : List (Nat × List Nat) := [(4, [2, 24, 0, 46, 47, 0, 48, 50, 52])] ++ dm_LYb 1 ++ dm_LYb 23 ++
  [(2, [9999, 0, 0, 0, 0]), (100, [20]), (3, [49, 0]), (100, [49]), (3, [51, 0]), (100, [49]), (3, [53, 0]), (100, [49]),
   (5, [0, 55, 56, 0, 0, 0, 0, 0, 0, 57, 58, 59, 0, 0, 60, 0, 61, 62, 0, 0, 0, 0]), (100, [1099]), (100, [1099]), (101, [64]), (100, [49]), (100, [49]), (100, [49]), (101, [16]), (100, [20]),
   (103, [7]), (103, [21]), (104, []), (6, [68, 0]), (6, [69, 0]), (107, [5]), (107, [3])]
def dm_kd (q : Nat) : Nat := (dm_LY.getD q (999, [])).1
def dm_fs (q : Nat) : List Nat := (dm_LY.getD q (999, [])).2
def dm_ln (q : Nat) : Nat := (dm_fs q).getD 0 0
def dm_fv (c : Nat) (x : Int32) : Value := if c = 0 then .int x else if c = 9999 then (if x = 0 then .null else .ref 6) else .ref (c - 1)
def dm_cat (st : List Value) : Nat := (st.map fun v => v.category).sum
abbrev dm_R : Type := Nat × dm_LV × List Value × dm_M
def dm_i1 (st : List Value) (f : Int32 → List Value → Option dm_R) : Option dm_R := match st with | .int x :: r => f x r | _ => none
def dm_i2 (st : List Value) (f : Int32 → Int32 → List Value → Option dm_R) : Option dm_R := match st with | .int y :: .int x :: r => f x y r | _ => none
def dm_l1 (st : List Value) (f : Int64 → List Value → Option dm_R) : Option dm_R := match st with | .long x :: r => f x r | _ => none
def dm_l2 (st : List Value) (f : Int64 → Int64 → List Value → Option dm_R) : Option dm_R := match st with | .long y :: .long x :: r => f x y r | _ => none
def dm_r1 (st : List Value) (f : Nat → List Value → Option dm_R) : Option dm_R := match st with | .ref x :: r => f x r | _ => none
/-- a cell's place: its index an int below it on the stack -/
def dm_ri (st : List Value) (f : Nat → Int32 → List Value → Option dm_R) : Option dm_R := match st with | .int i :: .ref q :: r => f q i r | _ => none
def dm_rii (st : List Value) (f : Nat → Int32 → Int32 → List Value → Option dm_R) : Option dm_R := match st with | .int x :: .int i :: .ref q :: r => f q i x r | _ => none
/-- a reference or null on the stack -/
def dm_a1 (st : List Value) (f : Value → List Value → Option dm_R) : Option dm_R := match st with | .ref q :: r => f (.ref q) r | .null :: r => f .null r | _ => none
/-- whether it is null; not of a reference that isn't known -/
def dm_n1 (st : List Value) (f : Bool → List Value → Option dm_R) : Option dm_R := match st with | .ref q :: r => if q = 70 then none else f false r | .null :: r => f true r | _ => none
/-- an int into a field, or the tape into the reader's -/
def dm_pf (st : List Value) (f : Int32 → Nat → List Value → Option dm_R) (g : List Value → Option dm_R) : Option dm_R := match st with | .int x :: .ref q :: r => f x q r | .ref a :: .ref b :: r => if a = 6 ∧ b = 45 then g r else none | _ => none
/-- so many of one row onto another, both from their first on -/
def dm_ac (st : List Value) (f : Int32 → Nat → Nat → List Value → Option dm_R) : Option dm_R := match st with | .int n :: .int z1 :: .ref q1 :: .int z0 :: .ref q0 :: r => if z1 = 0 ∧ z0 = 0 then f n q1 q0 r else none | _ => none
def dm_s1 (st : List Value) (f : Value → List Value → Option dm_R) : Option dm_R := match st with | .int x :: r => f (.int x) r | .ref q :: r => f (.ref q) r | .null :: r => f .null r | _ => none
def dm_gi (L : dm_LV) (i : Nat) (f : Int32 → Option dm_R) : Option dm_R := match L[i]? with | some (some (.int x)) => f x | _ => none
def dm_gl (L : dm_LV) (i : Nat) (f : Int64 → Option dm_R) : Option dm_R := match L[i]? with | some (some (.long x)) => f x | _ => none
def dm_ga (L : dm_LV) (i : Nat) (f : Value → Option dm_R) : Option dm_R := match L[i]? with | some (some (.ref q)) => f (.ref q) | some (some .null) => f .null | _ => none
/-- a long's first half that a store behind it takes away -/
def dm_nl (o : Option Value) : Option Value := match o with | some (.long _) => none | some (.double _) => none | z => z
def dm_kl : dm_LV → Nat → dm_LV
  | a :: L, 1 => dm_nl a :: L
  | a :: L, n + 2 => a :: dm_kl L (n + 1)
  | L, _ => L
def dm_st (L : dm_LV) (i : Nat) (v : Value) (f : dm_LV → Option dm_R) : Option dm_R := if i < L.length then f ((dm_kl L i).set i (some v)) else none
def dm_stl (L : dm_LV) (i : Nat) (v : Value) (f : dm_LV → Option dm_R) : Option dm_R := if i + 1 < L.length then f (((dm_kl L i).set i (some v)).set (i + 1) none) else none
def dm_q1 (c : ClassFile.Cond) (x : Int32) : Bool := match c with
  | .eq => decide (x = 0) | .ne => decide (¬ x = 0) | .lt => decide (x < 0) | .ge => decide (0 ≤ x) | .gt => decide (0 < x) | .le => decide (x ≤ 0)
def dm_q2 (c : ClassFile.Cond) (x y : Int32) : Bool := match c with
  | .eq => decide (x = y) | .ne => decide (¬ x = y) | .lt => decide (x < y) | .ge => decide (y ≤ x) | .gt => decide (y < x) | .le => decide (x ≤ y)
/-- where a switch of a table goes -/
def dm_sw (x : Int32) (d lo hi : Int) (offs : Array Int) : Nat := if x.toInt < lo ∨ hi < x.toInt then d.toNat else (offs.getD (x.toInt - lo).toNat d).toNat
def dm_step (i : Instr) (pc : Nat) (L : dm_LV) (st : List Value) (M : dm_M) : Option dm_R :=
  match i with
  | .nop => none
  | .iconst n => some (pc + 1, L, .int (Int32.ofInt n) :: st, M)
  | .bipush n => some (pc + 2, L, .int (Int8.ofInt n).toInt32 :: st, M)
  | .sipush n => some (pc + 3, L, .int (Int16.ofInt n).toInt32 :: st, M)
  | .lconst n => some (pc + 1, L, .long (Int64.ofNat n) :: st, M)
  | .aconst_null => some (pc + 1, L, .null :: st, M)
  | .iload_n k => dm_gi L k fun x => some (pc + 1, L, .int x :: st, M)
  | .iload k => dm_gi L k fun x => some (pc + 2, L, .int x :: st, M)
  | .lload_n k => dm_gl L k fun x => some (pc + 1, L, .long x :: st, M)
  | .lload k => dm_gl L k fun x => some (pc + 2, L, .long x :: st, M)
  | .aload_n k => dm_ga L k fun x => some (pc + 1, L, x :: st, M)
  | .aload k => dm_ga L k fun x => some (pc + 2, L, x :: st, M)
  | .istore_n k => dm_i1 st fun x r => dm_st L k (.int x) fun L' => some (pc + 1, L', r, M)
  | .istore k => dm_i1 st fun x r => dm_st L k (.int x) fun L' => some (pc + 2, L', r, M)
  | .lstore_n k => dm_l1 st fun x r => dm_stl L k (.long x) fun L' => some (pc + 1, L', r, M)
  | .lstore k => dm_l1 st fun x r => dm_stl L k (.long x) fun L' => some (pc + 2, L', r, M)
  | .astore_n k => dm_a1 st fun x r => dm_st L k x fun L' => some (pc + 1, L', r, M)
  | .astore k => dm_a1 st fun x r => dm_st L k x fun L' => some (pc + 2, L', r, M)
  | .iinc k n => dm_gi L k fun x => dm_st L k (.int (x + Int32.ofInt n)) fun L' => some (pc + 3, L', st, M)
  | .iadd => dm_i2 st fun x y r => some (pc + 1, L, .int (x + y) :: r, M)
  | .isub => dm_i2 st fun x y r => some (pc + 1, L, .int (x - y) :: r, M)
  | .imul => dm_i2 st fun x y r => some (pc + 1, L, .int (x * y) :: r, M)
  | .idiv => dm_i2 st fun x y r => if y = 0 then none else some (pc + 1, L, .int (x / y) :: r, M)
  | .irem => dm_i2 st fun x y r => if y = 0 then none else some (pc + 1, L, .int (x - x / y * y) :: r, M)
  | .ineg => dm_i1 st fun x r => some (pc + 1, L, .int (-x) :: r, M)
  | .ishl => dm_i2 st fun x y r => some (pc + 1, L, .int (x <<< (y &&& 31)) :: r, M)
  | .ishr => dm_i2 st fun x y r => some (pc + 1, L, .int (x >>> (y &&& 31)) :: r, M)
  | .iushr => dm_i2 st fun x y r => some (pc + 1, L, .int ((x.toUInt32 >>> (y.toUInt32 &&& Int32.toUInt32 31)).toInt32) :: r, M)
  | .iand => dm_i2 st fun x y r => some (pc + 1, L, .int (x &&& y) :: r, M)
  | .ior => dm_i2 st fun x y r => some (pc + 1, L, .int (x ||| y) :: r, M)
  | .ixor => dm_i2 st fun x y r => some (pc + 1, L, .int (x ^^^ y) :: r, M)
  | .ladd => dm_l2 st fun x y r => some (pc + 1, L, .long (x + y) :: r, M)
  | .lsub => dm_l2 st fun x y r => some (pc + 1, L, .long (x - y) :: r, M)
  | .lmul => dm_l2 st fun x y r => some (pc + 1, L, .long (x * y) :: r, M)
  | .ldiv => dm_l2 st fun x y r => if y = 0 then none else some (pc + 1, L, .long (x / y) :: r, M)
  | .lrem => dm_l2 st fun x y r => if y = 0 then none else some (pc + 1, L, .long (x - x / y * y) :: r, M)
  | .lcmp => dm_l2 st fun x y r => some (pc + 1, L, .int (lg_cmp x y) :: r, M)
  | .i2l => dm_i1 st fun x r => some (pc + 1, L, .long x.toInt64 :: r, M)
  | .i2c => dm_i1 st fun x r => some (pc + 1, L, .int (x.toUInt32 % 65536).toInt32 :: r, M)
  | .pop => dm_s1 st fun _ r => some (pc + 1, L, r, M)
  | .dup => dm_s1 st fun x r => some (pc + 1, L, x :: x :: r, M)
  | .dup2 => dm_ri st fun q i r => some (pc + 1, L, .int i :: .ref q :: .int i :: .ref q :: r, M)
  | .goto t => some (t.toNat, L, st, M)
  | .ifCond c t => dm_i1 st fun x r => some (if dm_q1 c x = true then t.toNat else pc + 3, L, r, M)
  | .if_icmp c t => dm_i2 st fun x y r => some (if dm_q2 c x y = true then t.toNat else pc + 3, L, r, M)
  | .ifnull t => dm_n1 st fun x r => some (if x = true then t.toNat else pc + 3, L, r, M)
  | .ifnonnull t => dm_n1 st fun x r => some (if x = true then pc + 3 else t.toNat, L, r, M)
  | .tableswitch d lo hi offs => dm_i1 st fun x r => some (dm_sw x d lo hi offs, L, r, M)
  | .lookupswitch d ps => dm_i1 st fun x r => some ((Op.lookupswitch.offset ps.toList d x.toInt).toNat, L, r, M)
  | .getfield j => match dm_FL[j]? with
    | some (_, _, ci, k, _) => dm_r1 st fun q r => if dm_kd q = ci then (match (dm_fs q)[k]? with | some c => some (pc + 3, L, dm_fv c (M q k) :: r, M) | none => none) else none
    | none => none
  | .putfield j => match dm_FL[j]? with
    | some (_, _, ci, k, _, fk, fin) => dm_pf st (fun x q r => if dm_kd q = ci ∧ (dm_fs q)[k]? = some 0 ∧ fin = false ∧ (fk = 0 ∨ fk = 1 ∧ (x = 0 ∨ x = 1)) then some (pc + 3, L, r, dm_up M q k x) else none)
        (fun r => if ci = 2 ∧ k = 0 ∧ fin = false then some (pc + 3, L, r, dm_up M 45 0 1) else none)
    | none => none
  | .getstatic j => match dm_SL[j]? with
    | some (_, _, _, _, _, v) => some (pc + 3, L, v :: st, M)
    | none => none
  | .ldc j => match dm_CL[j]? with
    | some (_, _, v) => if v.category = 1 then some (pc + 2, L, v :: st, M) else none
    | none => none
  | .ldc_w j => match dm_CL[j]? with
    | some (_, _, .int v) => some (pc + 3, L, .int v :: st, M)
    | _ => none
  | .ldc2_w j => match dm_CL[j]? with
    | some (_, _, .long v) => some (pc + 3, L, .long v :: st, M)
    | _ => none
  | .iaload => dm_ri st fun q i r => if dm_kd q = 100 ∨ dm_kd q = 103 then (if i < 0 ∨ dm_ln q ≤ i.toNatClampNeg then none else some (pc + 1, L, .int (M q i.toNatClampNeg) :: r, M))
      else if dm_kd q = 104 then (if i < 0 ∨ (M 69 0).toNatClampNeg ≤ i.toNatClampNeg then none else some (pc + 1, L, .int (M q i.toNatClampNeg) :: r, M)) else none
  | .baload => dm_ri st fun q i r => if dm_kd q = 101 ∨ dm_kd q = 107 then (if i < 0 ∨ dm_ln q ≤ i.toNatClampNeg then none else some (pc + 1, L, .int (M q i.toNatClampNeg) :: r, M)) else none
  | .iastore => dm_rii st fun q i x r => if dm_kd q = 100 then (if i < 0 ∨ dm_ln q ≤ i.toNatClampNeg then none else some (pc + 1, L, r, dm_up M q i.toNatClampNeg x)) else none
  | .bastore => dm_rii st fun q i x r => if dm_kd q = 101 ∧ (x = 0 ∨ x = 1) then (if i < 0 ∨ dm_ln q ≤ i.toNatClampNeg then none else some (pc + 1, L, r, dm_up M q i.toNatClampNeg x)) else none
  | .aaload => dm_ri st fun q i r => if dm_kd q = 102 then (if i < 0 then none else match (dm_fs q)[i.toNatClampNeg]? with | some c => some (pc + 1, L, .ref c :: r, M) | none => none) else none
  | .arraylength => dm_r1 st fun q r => if dm_kd q = 100 ∨ dm_kd q = 107 then some (pc + 1, L, .int (Int32.ofNat (dm_ln q)) :: r, M)
      else if dm_kd q = 104 then some (pc + 1, L, .int (M 69 0) :: r, M) else none
  | .invokestatic j => match dm_ML[j]? with
    | some (_, _, mid, _) => if mid = 900 then dm_i1 st fun x r => if dm_cat r ≤ 8 then some (pc + 3, L, .int (if 0 ≤ x then x else 0 - x) :: r, M) else none
      else if mid = 901 then dm_ac st fun n q1 q0 r => if dm_kd q0 = 100 ∧ dm_kd q1 = 100 ∧ dm_cat r ≤ 8 ∧ ¬ n < 0 ∧ n.toNatClampNeg ≤ dm_ln q0 ∧ n.toNatClampNeg ≤ dm_ln q1 then some (pc + 3, L, r, fun a b => if a = q1 ∧ b < n.toNatClampNeg then M q0 b else M a b) else none
      else none
    | none => none
  | _ => none
def dm_mo (k : Nat) : dm_T := dm_mt.getD k (⟨"", "", ""⟩, ⟨#[]⟩, 0, none, false, 0, 0)
def dm_y (k : Nat) : MethodName := (dm_mo k).1
def dm_b (k : Nat) : ByteArray := (dm_mo k).2.1
def dm_ml (k : Nat) : Nat := (dm_mo k).2.2.1
def dm_rt (k : Nat) : Option FieldType := (dm_mo k).2.2.2.1
def dm_sta (k : Nat) : Bool := (dm_mo k).2.2.2.2.1
def dm_na (k : Nat) : Nat := (dm_mo k).2.2.2.2.2.1
def dm_cl (k : Nat) : Nat := (dm_mo k).2.2.2.2.2.2
def dm_find : List dm_I → Nat → Option (Instr × Nat)
  | [], _ => none
  | (a, x) :: l, pc => if a = pc then some x else dm_find l pc
def dm_at (k pc : Nat) : Option (Instr × Nat) := dm_find (dm_cds.getD k []) pc
/-- the end of a method: its answer -/
def dm_ret (k : Nat) (i : Instr) (st : List Value) : Option (Option Value) := match i, st with
  | .return_, [] => if dm_rt k = none then some none else none
  | .ireturn, [.int v] => match dm_rt k with
    | some .int => some (some (.int v))
    | some .boolean => if v = 0 ∨ v = 1 then some (some (.int v)) else none
    | some .byte => if narrow .byte (.int v) = .int v then some (some (.int v)) else none
    | some .char => if narrow .char (.int v) = .int v then some (some (.int v)) else none
    | _ => none
  | .lreturn, [.long v] => if dm_rt k = some .long then some (some (.long v)) else none
  | .areturn, [.ref v] => match dm_rt k with | some (.object _) => some (some (.ref v)) | _ => none
  | .areturn, [.null] => match dm_rt k with | some (.object _) => some (some .null) | _ => none
  | _, _ => none
/-- a call: the method, its arguments, what stays on the stack -/
def dm_call (i : Instr) (st : List Value) : Option (Nat × List Value × List Value) := match i with
  | .invokestatic j => match dm_ML[j]? with
    | some (_, _, y, _) => if y < 900 ∧ dm_sta y = true ∧ dm_na y ≤ st.length then some (y, (st.take (dm_na y)).reverse, st.drop (dm_na y)) else none
    | none => none
  | .invokevirtual j => match dm_ML[j]? with
    | some (_, _, y, _) => if y < 900 ∧ dm_sta y = false ∧ dm_na y ≤ st.length then (match (st.take (dm_na y)).reverse with
        | .ref q :: as => if dm_kd q = dm_cl y then some (y, .ref q :: as, st.drop (dm_na y)) else none
        | _ => none) else none
    | none => none
  | _ => none
def dm_args : List Value → dm_LV
  | [] => []
  | v :: r => if v.category = 2 then some v :: none :: dm_args r else some v :: dm_args r
def dm_ini (k : Nat) (as : List Value) : dm_LV := dm_args as ++ List.replicate (dm_ml k - (dm_args as).length) none
def dm_run : Nat → Nat → Nat → Nat → dm_LV → List Value → dm_M → Option (Option Value × dm_M)
  | 0, _, _, _, _, _, _ => none
  | n + 1, d, k, pc, L, st, M =>
    match dm_at k pc with
    | none => none
    | some (i, _) =>
      match dm_ret k i st with
      | some r => some (r, M)
      | none =>
        match dm_call i st with
        | some (y, as, rest) =>
          match d with
          | 0 => none
          | e + 1 => if dm_cat rest ≤ 8 ∧ (dm_args as).length ≤ dm_ml y then
              match dm_run n e y 0 (dm_ini y as) [] M with
              | some (r, M') => dm_run n (e + 1) k (pc + 3) L (r.toList ++ rest) M'
              | none => none
            else none
        | none =>
          match dm_step i pc L st M with
          | some (pc', L', st', M') => dm_run n d k pc' L' st' M'
          | none => none
/-- the deep machine comes to an end with Q -/
def dm_wp (d k pc : Nat) (L : dm_LV) (st : List Value) (M : dm_M) (Q : Option Value → dm_M → Prop) : Prop := ∃ n r M', dm_run n d k pc L st M = some (r, M') ∧ Q r M'
def dm_cp (d k : Nat) (as : List Value) (M : dm_M) (Q : Option Value → dm_M → Prop) : Prop := (dm_args as).length ≤ dm_ml k ∧ dm_wp d k 0 (dm_ini k as) [] M Q
theorem dm_mono : ∀ (n d k pc : Nat) (L : dm_LV) (st : List Value) (M : dm_M) (z : Option Value × dm_M), dm_run n d k pc L st M = some z → ∀ m, dm_run (n + m) d k pc L st M = some z := by
  intro n
  induction n with
  | zero => intro d k pc L st M z h; exact absurd h (by simp [dm_run])
  | succ n ih =>
    intro d k pc L st M z h m
    rw [show n + 1 + m = (n + m) + 1 by omega]
    unfold dm_run at h ⊢
    cases ha : dm_at k pc with
    | none => rw [ha] at h; exact absurd h (by simp)
    | some x =>
      obtain ⟨i, cp⟩ := x
      rw [ha] at h
      dsimp only at h ⊢
      cases hr : dm_ret k i st with
      | some r => rw [hr] at h; exact h
      | none =>
        rw [hr] at h
        dsimp only at h ⊢
        cases hc : dm_call i st with
        | some w =>
          obtain ⟨y, as, rest⟩ := w
          rw [hc] at h
          dsimp only at h ⊢
          cases d with
          | zero => exact absurd h (by simp)
          | succ e =>
            dsimp only at h ⊢
            by_cases hq : dm_cat rest ≤ 8 ∧ (dm_args as).length ≤ dm_ml y
            · rw [if_pos hq] at h ⊢
              cases h1 : dm_run n e y 0 (dm_ini y as) [] M with
              | none => rw [h1] at h; exact absurd h (by simp)
              | some w1 =>
                obtain ⟨r, M'⟩ := w1
                rw [h1] at h
                dsimp only at h
                rw [ih _ _ _ _ _ _ _ h1 m]
                exact ih _ _ _ _ _ _ _ h m
            · rw [if_neg hq] at h
              exact absurd h (by simp)
        | none =>
          rw [hc] at h
          dsimp only at h ⊢
          cases hs : dm_step i pc L st M with
          | none => rw [hs] at h; exact absurd h (by simp)
          | some w =>
            obtain ⟨pc', L', st', M'⟩ := w
            rw [hs] at h
            dsimp only at h ⊢
            exact ih _ _ _ _ _ _ _ h m
theorem dm_wp_ret {d k pc cp : Nat} {i : Instr} {L : dm_LV} {st : List Value} {M : dm_M} {Q : Option Value → dm_M → Prop} {r : Option Value} (ha : dm_at k pc = some (i, cp)) (hr : dm_ret k i st = some r) : dm_wp d k pc L st M Q ↔ Q r M := by
  constructor
  · rintro ⟨n, r', M', h, hq⟩
    cases n with
    | zero => exact absurd h (by simp [dm_run])
    | succ n =>
      unfold dm_run at h
      rw [ha] at h
      dsimp only at h
      rw [hr] at h
      dsimp only at h
      obtain ⟨rfl, rfl⟩ := Prod.mk.inj (Option.some.inj h)
      exact hq
  · intro hq
    refine ⟨1, r, M, ?_, hq⟩
    unfold dm_run
    rw [ha]
    dsimp only
    rw [hr]
theorem dm_wp_step {d k pc cp pc' : Nat} {i : Instr} {L L' : dm_LV} {st st' : List Value} {M M' : dm_M} {Q : Option Value → dm_M → Prop} (ha : dm_at k pc = some (i, cp)) (hr : dm_ret k i st = none) (hc : dm_call i st = none) (hs : dm_step i pc L st M = some (pc', L', st', M')) : dm_wp d k pc L st M Q ↔ dm_wp d k pc' L' st' M' Q := by
  have key : ∀ n, dm_run (n + 1) d k pc L st M = dm_run n d k pc' L' st' M' := by
    intro n
    conv => lhs; unfold dm_run
    rw [ha]
    dsimp only
    rw [hr]
    dsimp only
    rw [hc]
    dsimp only
    rw [hs]
  constructor
  · rintro ⟨n, r, M1, h, hq⟩
    cases n with
    | zero => exact absurd h (by simp [dm_run])
    | succ n => rw [key] at h; exact ⟨n, r, M1, h, hq⟩
  · rintro ⟨n, r, M1, h, hq⟩
    exact ⟨n + 1, r, M1, by rw [key]; exact h, hq⟩
theorem dm_wp_call {e k pc cp y : Nat} {i : Instr} {L : dm_LV} {st as rest : List Value} {M : dm_M} {Q : Option Value → dm_M → Prop} (ha : dm_at k pc = some (i, cp)) (hr : dm_ret k i st = none) (hc : dm_call i st = some (y, as, rest)) (hq : dm_cat rest ≤ 8) :
    dm_wp (e + 1) k pc L st M Q ↔ dm_cp e y as M (fun r M' => dm_wp (e + 1) k (pc + 3) L (r.toList ++ rest) M' Q) := by
  constructor
  · rintro ⟨n, r, M1, h, hQ⟩
    cases n with
    | zero => exact absurd h (by simp [dm_run])
    | succ n =>
      unfold dm_run at h
      rw [ha] at h
      dsimp only at h
      rw [hr] at h
      dsimp only at h
      rw [hc] at h
      dsimp only at h
      by_cases hw : dm_cat rest ≤ 8 ∧ (dm_args as).length ≤ dm_ml y
      · rw [if_pos hw] at h
        cases h1 : dm_run n e y 0 (dm_ini y as) [] M with
        | none => rw [h1] at h; exact absurd h (by simp)
        | some w =>
          obtain ⟨r1, M2⟩ := w
          rw [h1] at h
          dsimp only at h
          exact ⟨hw.2, n, r1, M2, h1, n, r, M1, h, hQ⟩
      · rw [if_neg hw] at h
        exact absurd h (by simp)
  · rintro ⟨hw, n, r1, M2, h1, n2, r, M1, h, hQ⟩
    refine ⟨n + n2 + 1, r, M1, ?_, hQ⟩
    unfold dm_run
    rw [ha]
    dsimp only
    rw [hr]
    dsimp only
    rw [hc]
    dsimp only
    rw [if_pos ⟨hq, hw⟩, dm_mono _ _ _ _ _ _ _ _ h1 n2]
    dsimp only
    rw [Nat.add_comm n n2]
    exact dm_mono _ _ _ _ _ _ _ _ h n
theorem dm_wp_if {d k a b : Nat} {c : Prop} [h : Decidable c] {L : dm_LV} {st : List Value} {M : dm_M} {Q : Option Value → dm_M → Prop} : dm_wp d k (if c then a else b) L st M Q ↔ (if c then dm_wp d k a L st M Q else dm_wp d k b L st M Q) := by
  cases h with
  | isTrue h => rw [if_pos h, if_pos h]
  | isFalse h => rw [if_neg h, if_neg h]
theorem dm_wp_mono {d k pc : Nat} {L : dm_LV} {st : List Value} {M : dm_M} {Q Q' : Option Value → dm_M → Prop} (h : dm_wp d k pc L st M Q) (hq : ∀ r M', Q r M' → Q' r M') : dm_wp d k pc L st M Q' := by
  obtain ⟨n, r, M', h1, h2⟩ := h
  exact ⟨n, r, M', h1, hq _ _ h2⟩
theorem dm_cp_mono {d k : Nat} {as : List Value} {M : dm_M} {Q Q' : Option Value → dm_M → Prop} (h : dm_cp d k as M Q) (hq : ∀ r M', Q r M' → Q' r M') : dm_cp d k as M Q' := ⟨h.1, dm_wp_mono h.2 hq⟩
theorem dm_kd_big {q : Nat} (h : 69 ≤ q) : dm_kd q = 999 := by
  unfold dm_kd
  rw [List.getD_eq_getElem?_getD, List.getElem?_eq_none (by rw [show dm_LY.length = 69 by decide +kernel]; exact h)]
  rfl
theorem dm_kd_fin (P : Nat → Nat → Prop) (h : ∀ q, q < 69 → P q (dm_kd q)) (h2 : ∀ q, 69 ≤ q → P q 999) (q : Nat) : P q (dm_kd q) := by
  rcases Nat.lt_or_ge q 69 with z | z
  · exact h q z
  · rw [dm_kd_big z]; exact h2 q z
