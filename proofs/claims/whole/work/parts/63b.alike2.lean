/-! alike: the class's rows that close up and turn back -/
section
variable {d i n sets : Nat} {x y z : Int32} {M : dm_M} {Q : Option Value → dm_M → Prop} {s : Sg} {f : Bool}
theorem cu_loop {q : Nat} {A : List Nat} {l3 l4 : Option Value} (hq : dm_kd q = 3) (hA : RowIs M q A) (ha8 : ∀ t ∈ A, t < 8) (h0 : 0 < A.length) :
    ∀ (r off : Nat), off + r = A.length → 2 * off ≤ A.length → (dm_wp (d + 1) 62 9 [some (.ref q), some (.int (nI off)), some (.int (nI (A.length - 1 - off))), l3, l4] [] M Q ↔
      dm_wp (d + 1) 62 38 [some (.ref q), some (.int (nI (offN A r off))), some (.int (nI (A.length - 1 - offN A r off))), l3, l4] [] M Q) := by
  have h49 := hA.2.1
  intro r
  induction r with
  | zero => intro off h1 h2; omega
  | succ r ih =>
    intro off h1 h2
    have e1 : offN A (r + 1) off = if 2 * off + 1 < A.length ∧ A.getD off 0 = A.getD (A.length - 1 - off) 0 ^^^ 1 then offN A r (off + 1) else off := rfl
    rw [e1]
    have hT := fun (j : Nat) (hj : j < A.length) (d : Nat) (Q : Option Value → dm_M → Prop) => s_turnAt_in (d := d) (Q := Q) hq hA hj
    by_cases hc : 2 * off + 1 < A.length
    · have b8 := getD_lt ha8 (i := A.length - 1 - off) (by omega)
      have a8 := getD_lt ha8 (i := off) (by omega)
      have hfl : nI (A.getD (A.length - 1 - off) 0) ^^^ nI 1 = nI (A.getD (A.length - 1 - off) 0 ^^^ 1) := (nI_flip _ b8).1
      have hf8 := (nI_flip _ b8).2
      by_cases he : A.getD off 0 = A.getD (A.length - 1 - off) 0 ^^^ 1
      · rw [if_pos ⟨hc, he⟩, ← ih (off + 1) (by omega) (by omega), p62_9]
        have em : A.length - 1 - off - 1 = A.length - 1 - (off + 1) := by omega
        simp (disch := first | assumption | exact b01_01 | exact Or.inl rfl | exact Or.inr rfl | ((try simp (disch := omega) only [kd0, kd1, kd2, kd3, kd4, kd5, kd6, kd7, kd8, kd9, kd10, kd11, kd12, kd13, kd14, kd15, kd16, kd17, kd18, kd19, kd20, kd21, kd22, kd23, kd24, kd25, kd26, kd27, kd28, kd29, kd30, kd31, kd32, kd33, kd34, kd35, kd36, kd37, kd38, kd39, kd40, kd41, kd42, kd43, kd44, kd45, kd46, kd47, kd48, kd49, kd50, kd51, kd52, kd53, kd54, kd55, kd56, kd57, kd58, kd59, kd60, kd61, kd62, kd63, kd64, kd65, kd66, kd67, kd68, ln2, ln3, ln5, ln6, ln7, ln10, ln13, ln16, ln19, ln22, ln24, ln25, ln27, ln28, ln29, ln32, ln35, ln38, ln41, ln44, ln46, ln48, ln50, ln52, ln54, ln55, ln56, ln57, ln58, ln59, ln60, ln61, ln62, ln63, ln67, ln68, i0, i1, cl_nI, lt_F, le_F, eq_F, not_false_eq_true]) <;> omega) | fail) only [p62_10, p62_11, p62_14, p62_14n, p62_15, p62_16, p62_19, p62_19n, p62_20, p62_21, p62_24, p62_25, p62_26, p62_29, p62_32, p62_35, ↓reduceIte, Nat.reduceAdd, Nat.reduceMul, Nat.reduceSub, i0, i1, i2, i3, i4, i5, i6, i7, i8, i9, i10, i14, i15, i16, i18, i20, i21, i23, i28, i31, i32, i33, i38, i40, i41, i48, i49, i51, i57, i60, i61, i62, i63, i97, i99, i100, i110, i124, i127, i140, i199, i200, i278, i286, i294, i394, i399, i1000, i1099, lt_T, lt_F, le_T, le_F, eq_T, eq_F, nI_add, pk_mul, pk_sub, nI_m1, cl_nI, dm_up_n1, dm_up_eq, dm_up_n2, not_true_eq_false, not_false_eq_true, if_true, if_false, true_and, and_true, false_and, and_false, true_or, or_true, false_or, or_false, Option.toList, List.cons_append, List.nil_append, b01_01, b01_T, b01_F, b01_n0, b01_n1, ite_self, pk_div, pk_rem, nI_shrA, nI_bt, nI_bt0, nI_bt1, t_hasBit, nsc, Nat.add_sub_cancel_left, Nat.add_sub_cancel, hT, hfl, em]
      · rw [if_neg (fun z => he z.2), p62_9]
        simp (disch := first | assumption | exact b01_01 | exact Or.inl rfl | exact Or.inr rfl | ((try simp (disch := omega) only [kd0, kd1, kd2, kd3, kd4, kd5, kd6, kd7, kd8, kd9, kd10, kd11, kd12, kd13, kd14, kd15, kd16, kd17, kd18, kd19, kd20, kd21, kd22, kd23, kd24, kd25, kd26, kd27, kd28, kd29, kd30, kd31, kd32, kd33, kd34, kd35, kd36, kd37, kd38, kd39, kd40, kd41, kd42, kd43, kd44, kd45, kd46, kd47, kd48, kd49, kd50, kd51, kd52, kd53, kd54, kd55, kd56, kd57, kd58, kd59, kd60, kd61, kd62, kd63, kd64, kd65, kd66, kd67, kd68, ln2, ln3, ln5, ln6, ln7, ln10, ln13, ln16, ln19, ln22, ln24, ln25, ln27, ln28, ln29, ln32, ln35, ln38, ln41, ln44, ln46, ln48, ln50, ln52, ln54, ln55, ln56, ln57, ln58, ln59, ln60, ln61, ln62, ln63, ln67, ln68, i0, i1, cl_nI, lt_F, le_F, eq_F, not_false_eq_true]) <;> omega) | fail) only [p62_10, p62_11, p62_14, p62_14n, p62_15, p62_16, p62_19, p62_19n, p62_20, p62_21, p62_24, p62_25, p62_26, p62_29, p62_32, p62_35, ↓reduceIte, Nat.reduceAdd, Nat.reduceMul, Nat.reduceSub, i0, i1, i2, i3, i4, i5, i6, i7, i8, i9, i10, i14, i15, i16, i18, i20, i21, i23, i28, i31, i32, i33, i38, i40, i41, i48, i49, i51, i57, i60, i61, i62, i63, i97, i99, i100, i110, i124, i127, i140, i199, i200, i278, i286, i294, i394, i399, i1000, i1099, lt_T, lt_F, le_T, le_F, eq_T, eq_F, nI_add, pk_mul, pk_sub, nI_m1, cl_nI, dm_up_n1, dm_up_eq, dm_up_n2, not_true_eq_false, not_false_eq_true, if_true, if_false, true_and, and_true, false_and, and_false, true_or, or_true, false_or, or_false, Option.toList, List.cons_append, List.nil_append, b01_01, b01_T, b01_F, b01_n0, b01_n1, ite_self, pk_div, pk_rem, nI_shrA, nI_bt, nI_bt0, nI_bt1, t_hasBit, nsc, Nat.add_sub_cancel_left, Nat.add_sub_cancel, hT, hfl]
    · rw [if_neg (fun z => hc z.1), p62_9]
      simp (disch := first | assumption | exact b01_01 | exact Or.inl rfl | exact Or.inr rfl | ((try simp (disch := omega) only [kd0, kd1, kd2, kd3, kd4, kd5, kd6, kd7, kd8, kd9, kd10, kd11, kd12, kd13, kd14, kd15, kd16, kd17, kd18, kd19, kd20, kd21, kd22, kd23, kd24, kd25, kd26, kd27, kd28, kd29, kd30, kd31, kd32, kd33, kd34, kd35, kd36, kd37, kd38, kd39, kd40, kd41, kd42, kd43, kd44, kd45, kd46, kd47, kd48, kd49, kd50, kd51, kd52, kd53, kd54, kd55, kd56, kd57, kd58, kd59, kd60, kd61, kd62, kd63, kd64, kd65, kd66, kd67, kd68, ln2, ln3, ln5, ln6, ln7, ln10, ln13, ln16, ln19, ln22, ln24, ln25, ln27, ln28, ln29, ln32, ln35, ln38, ln41, ln44, ln46, ln48, ln50, ln52, ln54, ln55, ln56, ln57, ln58, ln59, ln60, ln61, ln62, ln63, ln67, ln68, i0, i1, cl_nI, lt_F, le_F, eq_F, not_false_eq_true]) <;> omega) | fail) only [p62_10, p62_11, p62_14, p62_14n, p62_15, p62_16, p62_19, p62_19n, p62_20, p62_21, p62_24, p62_25, p62_26, p62_29, p62_32, p62_35, ↓reduceIte, Nat.reduceAdd, Nat.reduceMul, Nat.reduceSub, i0, i1, i2, i3, i4, i5, i6, i7, i8, i9, i10, i14, i15, i16, i18, i20, i21, i23, i28, i31, i32, i33, i38, i40, i41, i48, i49, i51, i57, i60, i61, i62, i63, i97, i99, i100, i110, i124, i127, i140, i199, i200, i278, i286, i294, i394, i399, i1000, i1099, lt_T, lt_F, le_T, le_F, eq_T, eq_F, nI_add, pk_mul, pk_sub, nI_m1, cl_nI, dm_up_n1, dm_up_eq, dm_up_n2, not_true_eq_false, not_false_eq_true, if_true, if_false, true_and, and_true, false_and, and_false, true_or, or_true, false_or, or_false, Option.toList, List.cons_append, List.nil_append, b01_01, b01_T, b01_F, b01_n0, b01_n1, ite_self, pk_div, pk_rem, nI_shrA, nI_bt, nI_bt0, nI_bt1, t_hasBit, nsc, Nat.add_sub_cancel_left, Nat.add_sub_cancel]
/-- the row with its turns from off on put ahead, i of them so far -/
def ShK (q : Nat) (A : List Nat) (off i : Nat) (M : dm_M) : Prop := ∀ k, k < A.length → M (q + 1) k = nI (if k < i then A.getD (off + k) 0 else A.getD k 0)
theorem sh_loop {q off : Nat} {A : List Nat} {M0 : dm_M} {l2 : Option Value} (hq : dm_kd q = 3) (hl : A.length ≤ 49) (hoff : 2 * off ≤ A.length) (hQ : ∀ M', RowIs M' q (closeL A off) → RowK q M0 M' → Q none M') :
    ∀ (r i : Nat) (M : dm_M), i + r = A.length - 2 * off → ShK q A off i M → RowK q M0 M → dm_wp (d + 1) 62 47 [some (.ref q), some (.int (nI off)), l2, some (.int (nI (A.length - 2 * off))), some (.int (nI i))] [] M Q := by
  obtain ⟨r1, r2, r3⟩ := dm_row3 q hq
  have hal : Int32.ofNat 49 = nI 49 := rfl
  intro r
  induction r with
  | zero =>
    intro i M hi hS hK
    have e : i = A.length - 2 * off := by omega
    subst e
    simp (disch := first | assumption | exact b01_01 | exact Or.inl rfl | exact Or.inr rfl | ((try simp (disch := omega) only [kd0, kd1, kd2, kd3, kd4, kd5, kd6, kd7, kd8, kd9, kd10, kd11, kd12, kd13, kd14, kd15, kd16, kd17, kd18, kd19, kd20, kd21, kd22, kd23, kd24, kd25, kd26, kd27, kd28, kd29, kd30, kd31, kd32, kd33, kd34, kd35, kd36, kd37, kd38, kd39, kd40, kd41, kd42, kd43, kd44, kd45, kd46, kd47, kd48, kd49, kd50, kd51, kd52, kd53, kd54, kd55, kd56, kd57, kd58, kd59, kd60, kd61, kd62, kd63, kd64, kd65, kd66, kd67, kd68, ln2, ln3, ln5, ln6, ln7, ln10, ln13, ln16, ln19, ln22, ln24, ln25, ln27, ln28, ln29, ln32, ln35, ln38, ln41, ln44, ln46, ln48, ln50, ln52, ln54, ln55, ln56, ln57, ln58, ln59, ln60, ln61, ln62, ln63, ln67, ln68, i0, i1, cl_nI, lt_F, le_F, eq_F, not_false_eq_true]) <;> omega) | fail) only [p62_47, p62_49, p62_50, p62_87, p62_87n, p62_88, p62_89, p62_92, ↓reduceIte, Nat.reduceAdd, Nat.reduceMul, Nat.reduceSub, i0, i1, i2, i3, i4, i5, i6, i7, i8, i9, i10, i14, i15, i16, i18, i20, i21, i23, i28, i31, i32, i33, i38, i40, i41, i48, i49, i51, i57, i60, i61, i62, i63, i97, i99, i100, i110, i124, i127, i140, i199, i200, i278, i286, i294, i394, i399, i1000, i1099, lt_T, lt_F, le_T, le_F, eq_T, eq_F, nI_add, pk_mul, pk_sub, nI_m1, cl_nI, dm_up_n1, dm_up_eq, dm_up_n2, not_true_eq_false, not_false_eq_true, if_true, if_false, true_and, and_true, false_and, and_false, true_or, or_true, false_or, or_false, Option.toList, List.cons_append, List.nil_append, b01_01, b01_T, b01_F, b01_n0, b01_n1, ite_self, pk_div, pk_rem, nI_shrA, nI_bt, nI_bt0, nI_bt1, t_hasBit, nsc, Nat.add_sub_cancel_left, Nat.add_sub_cancel]
    refine hQ _ ⟨by rw [dm_up_eq, closeL_len], by rw [closeL_len]; omega, fun k hk => ?_⟩ (fun a h1 h2 => by rw [up_ne h1]; exact hK a h1 h2)
    rw [closeL_len] at hk
    rw [dm_up_n1 (by omega), closeL_get hk, hS k (by omega), if_pos hk]
  | succ r ih =>
    intro i M hi hS hK
    have h1 := hS (off + i) (by omega)
    have h2 : M (q + 1) (off + i) = nI (A.getD (off + i) 0) := by
      rw [h1]
      split
      · rename_i z
        have : off = 0 := by omega
        omega
      · rfl
    have hlt : ¬ 49 ≤ off + i := by omega
    have hlt2 : ¬ 49 ≤ i := by omega
    have ih := ih (i + 1) (dm_up M (q + 1) i (nI (A.getD (off + i) 0))) (by omega) (fun k hk => by
      by_cases e : k = i
      · subst e
        rw [dm_up_eq, if_pos (by omega)]
      · rw [dm_up_n2 e, hS k hk]
        by_cases e2 : k < i
        · rw [if_pos e2, if_pos (by omega)]
        · rw [if_neg e2, if_neg (by omega)]) (fun a h1 h2 => by rw [up_ne h2]; exact hK a h1 h2)
    rw [p62_47]
    simp (disch := first | assumption | ((try simp (disch := omega) only [kd0, kd1, kd2, kd3, kd4, kd5, kd6, kd7, kd8, kd9, kd10, kd11, kd12, kd13, kd14, kd15, kd16, kd17, kd18, kd19, kd20, kd21, kd22, kd23, kd24, kd25, kd26, kd27, kd28, kd29, kd30, kd31, kd32, kd33, kd34, kd35, kd36, kd37, kd38, kd39, kd40, kd41, kd42, kd43, kd44, kd45, kd46, kd47, kd48, kd49, kd50, kd51, kd52, kd53, kd54, kd55, kd56, kd57, kd58, kd59, kd60, kd61, kd62, kd63, kd64, kd65, kd66, kd67, kd68, ln2, ln3, ln5, ln6, ln7, ln10, ln13, ln16, ln19, ln22, ln24, ln25, ln27, ln28, ln29, ln32, ln35, ln38, ln41, ln44, ln46, ln48, ln50, ln52, ln54, ln55, ln56, ln57, ln58, ln59, ln60, ln61, ln62, ln63, ln67, ln68, r3, i0, i1, cl_nI, lt_F, le_F, eq_F, not_false_eq_true]) <;> omega) | fail) only [p62_49, p62_50, p62_53, p62_54, p62_56, p62_57, p62_57n, p62_58, p62_61, p62_62, p62_65, p62_65n, p62_66, p62_69, p62_71, p62_71n, p62_72, p62_75, p62_76, p62_78, p62_79, p62_80, p62_81, p62_84, ↓reduceIte, Nat.reduceAdd, Nat.reduceMul, Nat.reduceSub, i0, i1, i2, i3, i4, i5, i6, i7, i8, i9, i10, i14, i15, i16, i18, i20, i21, i23, i28, i31, i32, i33, i38, i40, i41, i48, i49, i51, i57, i60, i61, i62, i63, i97, i99, i100, i110, i124, i127, i140, i199, i200, i278, i286, i294, i394, i399, i1000, i1099, lt_T, lt_F, le_T, le_F, eq_T, eq_F, nI_add, pk_mul, pk_sub, nI_m1, cl_nI, dm_up_n1, dm_up_eq, dm_up_n2, not_true_eq_false, not_false_eq_true, if_true, if_false, true_and, and_true, false_and, and_false, true_or, or_true, false_or, or_false, Option.toList, List.cons_append, List.nil_append, b01_01, b01_T, b01_F, b01_n0, b01_n1, ite_self, pk_div, pk_rem, nI_shrA, nI_bt, nI_bt0, nI_bt1, t_hasBit, nsc, Nat.add_sub_cancel_left, Nat.add_sub_cancel, r1, r3, hal, h2]
    exact ih
theorem t_closeUp {q : Nat} {A : List Nat} (hq : dm_kd q = 3) (hA : RowIs M q A) (ha8 : ∀ t ∈ A, t < 8) (hQ : ∀ M', RowIs M' q (closeN A) → RowK q M M' → Q none M') : dm_cp (d + 1) 62 [.ref q] M Q := by
  have h49 := hA.2.1
  have hs := hA.1
  rw [e62]
  have hsh0 : ∀ off, ShK q A off 0 M := fun off k hk => by rw [if_neg (Nat.not_lt_zero k)]; exact hA.2.2 k hk
  rcases Nat.eq_zero_or_pos A.length with e | e
  · have e1 : offN A A.length 0 = 0 := by rw [e]; rfl
    have hL := sh_loop (d := d) (q := q) (off := 0) (A := A) (M0 := M) (l2 := some (.int (-nI 1))) (Q := Q) hq h49 (by omega) (fun M' a b => hQ M' (by unfold closeN; rw [e1]; exact a) b) (A.length - 2 * 0) 0 M (Nat.zero_add _) (hsh0 0) RowK.refl
    rw [e] at hs hL
    have z1 : nI 0 - nI 1 = -nI 1 := by decide
    have z2 : (-nI 1 ≤ nI 0) = True := eq_true (by decide)
    have z3 : -nI 1 - nI 0 + nI 1 = nI 0 := by decide
    have z4 : (nI 0 < -nI 1) = False := eq_false (by decide)
    simp (disch := first | assumption | fail) only [p62_0, p62_1, p62_2, p62_2n, p62_3, p62_6, p62_7, p62_8, p62_9, p62_10, p62_11, p62_38, p62_39, p62_40, p62_41, p62_42, p62_43, p62_44, p62_45, ↓reduceIte, i0, i1, hs, z1, z2, z3, z4, if_true, if_false]
    exact hL
  · have hoff := offN_le (A := A) (r := A.length) (off := 0) (by omega)
    have hL := fun l2 => sh_loop (d := d) (q := q) (off := offN A A.length 0) (A := A) (M0 := M) (l2 := l2) (Q := Q) hq h49 hoff (fun M' a b => hQ M' a b) (A.length - 2 * offN A A.length 0) 0 M (Nat.zero_add _) (hsh0 _) RowK.refl
    have z1 : nI A.length - nI 1 = nI (A.length - 1 - 0) := by rw [pk_sub (by omega), Nat.sub_zero]
    simp (disch := first | assumption | fail) only [p62_0, p62_1, p62_2, p62_2n, p62_3, p62_6, p62_7, p62_8, i0, i1, hs, z1]
    refine (cu_loop (d := d) (Q := Q) hq hA ha8 e A.length 0 (Nat.zero_add _) (by omega)).mpr ?_
    generalize offN A A.length 0 = off at *
    have z2 : nI (A.length - 1 - off) - nI off + nI 1 = nI (A.length - 2 * off) := by
      rcases Nat.lt_or_ge (2 * off) A.length with z | z
      · rw [pk_sub (by omega), nI_add]
        congr 1
        omega
      · have ez : A.length - 1 - off + 1 = off := by omega
        rw [show A.length - 2 * off = 0 by omega, Int32.sub_eq_add_neg, Int32.add_assoc, Int32.add_comm (-nI off), ← Int32.add_assoc, nI_add, ez, ← Int32.sub_eq_add_neg, Int32.sub_self]
        rfl
    simp (disch := first | assumption | fail) only [p62_38, p62_39, p62_40, p62_41, p62_42, p62_43, p62_44, p62_45, i0, i1, z2]
    exact hL _
/-- j turns at either end are changed over -/
def TbK (q : Nat) (A : List Nat) (j : Nat) (M : dm_M) : Prop := ∀ k, k < A.length → M (q + 1) k = nI (if k < j ∨ A.length - 1 - k < j then A.getD (A.length - 1 - k) 0 ^^^ 1 else A.getD k 0)
theorem tb_loop {q : Nat} {A : List Nat} {M0 : dm_M} (hq : dm_kd q = 3) (hA : RowIs M0 q A) (ha8 : ∀ t ∈ A, t < 8) (hQ : ∀ M', RowIs M' q (backL A) → RowK q M0 M' → Q none M') :
    ∀ (r j : Nat) (M : dm_M) (l3 : Option Value), j + r = A.length → TbK q A j M → M q = M0 q → RowK q M0 M → dm_wp (d + 1) 65 9 [some (.ref q), some (.int (nI j)), some (.int (nI (A.length - j) - nI 1)), l3] [] M Q := by
  obtain ⟨r1, r2, r3⟩ := dm_row3 q hq
  have h49 := hA.2.1
  have hal : Int32.ofNat 49 = nI 49 := rfl
  have hend : ∀ (j : Nat) (M : dm_M) (l3 : Option Value) (w : Int32), A.length ≤ 2 * j → w < nI j → TbK q A j M → M q = M0 q → RowK q M0 M → dm_wp (d + 1) 65 9 [some (.ref q), some (.int (nI j)), some (.int w), l3] [] M Q := by
    intro j M l3 w hj hw hT hM hK
    have hw2 : (w < nI j) = True := eq_true hw
    simp (disch := first | assumption | exact b01_01 | exact Or.inl rfl | exact Or.inr rfl | ((try simp (disch := omega) only [kd0, kd1, kd2, kd3, kd4, kd5, kd6, kd7, kd8, kd9, kd10, kd11, kd12, kd13, kd14, kd15, kd16, kd17, kd18, kd19, kd20, kd21, kd22, kd23, kd24, kd25, kd26, kd27, kd28, kd29, kd30, kd31, kd32, kd33, kd34, kd35, kd36, kd37, kd38, kd39, kd40, kd41, kd42, kd43, kd44, kd45, kd46, kd47, kd48, kd49, kd50, kd51, kd52, kd53, kd54, kd55, kd56, kd57, kd58, kd59, kd60, kd61, kd62, kd63, kd64, kd65, kd66, kd67, kd68, ln2, ln3, ln5, ln6, ln7, ln10, ln13, ln16, ln19, ln22, ln24, ln25, ln27, ln28, ln29, ln32, ln35, ln38, ln41, ln44, ln46, ln48, ln50, ln52, ln54, ln55, ln56, ln57, ln58, ln59, ln60, ln61, ln62, ln63, ln67, ln68, i0, i1, cl_nI, lt_F, le_F, eq_F, not_false_eq_true]) <;> omega) | fail) only [p65_9, p65_10, p65_11, p65_62, ↓reduceIte, Nat.reduceAdd, Nat.reduceMul, Nat.reduceSub, i0, i1, i2, i3, i4, i5, i6, i7, i8, i9, i10, i14, i15, i16, i18, i20, i21, i23, i28, i31, i32, i33, i38, i40, i41, i48, i49, i51, i57, i60, i61, i62, i63, i97, i99, i100, i110, i124, i127, i140, i199, i200, i278, i286, i294, i394, i399, i1000, i1099, lt_T, lt_F, le_T, le_F, eq_T, eq_F, nI_add, pk_mul, pk_sub, nI_m1, cl_nI, dm_up_n1, dm_up_eq, dm_up_n2, not_true_eq_false, not_false_eq_true, if_true, if_false, true_and, and_true, false_and, and_false, true_or, or_true, false_or, or_false, Option.toList, List.cons_append, List.nil_append, b01_01, b01_T, b01_F, b01_n0, b01_n1, ite_self, pk_div, pk_rem, nI_shrA, nI_bt, nI_bt0, nI_bt1, t_hasBit, nsc, Nat.add_sub_cancel_left, Nat.add_sub_cancel, hw2]
    refine hQ M ⟨by rw [hM, backL_len]; exact hA.1, by rw [backL_len]; exact h49, fun k hk => ?_⟩ hK
    rw [backL_len] at hk
    rw [backL_get hk, hT k hk, if_pos (by omega)]
  intro r
  induction r with
  | zero =>
    intro j M l3 hj hT hM hK
    refine hend j M l3 _ (by omega) ?_ hT hM hK
    rw [show A.length - j = 0 by omega, show nI 0 - nI 1 = -nI 1 from by decide]
    have : ¬ nI j < 0 := nI_pos (by omega)
    exact Int32.lt_of_lt_of_le (by decide) (nI_pos' (by omega))
  | succ r ih =>
    intro j M l3 hj hT hM hK
    have e0 : nI (A.length - j) - nI 1 = nI (A.length - 1 - j) := by rw [pk_sub (by omega)]; congr 1; omega
    rw [e0]
    rcases Nat.lt_or_ge (A.length - 1 - j) j with z | z
    · exact hend j M l3 _ (by omega) (nI_lt z (by omega)) hT hM hK
    · have h1 : M (q + 1) j = nI (A.getD j 0) := by rw [hT j (by omega), if_neg (by omega)]
      have h2 : M (q + 1) (A.length - 1 - j) = nI (A.getD (A.length - 1 - j) 0) := by rw [hT _ (by omega), if_neg (by omega)]
      have b8 := getD_lt ha8 (i := A.length - 1 - j) (by omega)
      have a8 := getD_lt ha8 (i := j) (by omega)
      have hfa : nI (A.getD j 0) ^^^ nI 1 = nI (A.getD j 0 ^^^ 1) := (nI_flip _ a8).1
      have hfb : nI (A.getD (A.length - 1 - j) 0) ^^^ nI 1 = nI (A.getD (A.length - 1 - j) 0 ^^^ 1) := (nI_flip _ b8).1
      have ee : nI (A.length - 1 - j) + -nI 1 = nI (A.length - (j + 1)) - nI 1 := by rw [show A.length - (j + 1) = A.length - 1 - j by omega, Int32.sub_eq_add_neg]
      have ih := fun l3 => ih (j + 1) (dm_up (dm_up M (q + 1) j (nI (A.getD (A.length - 1 - j) 0 ^^^ 1))) (q + 1) (A.length - 1 - j) (nI (A.getD j 0 ^^^ 1))) l3 (by omega) (fun k hk => by
        by_cases e1 : k = A.length - 1 - j
        · have e3 : A.length - 1 - k = j := by omega
          rw [e1, dm_up_eq, if_pos (by omega), ← e1, e3]
        · rw [dm_up_n2 e1]
          by_cases e2 : k = j
          · subst e2
            rw [dm_up_eq, if_pos (by omega)]
          · rw [dm_up_n2 e2, hT k hk]
            by_cases e3 : k < j ∨ A.length - 1 - k < j
            · rw [if_pos e3, if_pos (by omega)]
            · rw [if_neg e3, if_neg (by omega)]) (by rw [up_ne (by omega), up_ne (by omega)]; exact hM) (fun a h1 h2 => by rw [up_ne h2, up_ne h2]; exact hK a h1 h2)
      rw [← ee] at ih
      have hlt : ¬ 49 ≤ A.length - 1 - j := by omega
      have hlt2 : ¬ 49 ≤ j := by omega
      rw [p65_9]
      simp (disch := first | assumption | ((try simp (disch := omega) only [kd0, kd1, kd2, kd3, kd4, kd5, kd6, kd7, kd8, kd9, kd10, kd11, kd12, kd13, kd14, kd15, kd16, kd17, kd18, kd19, kd20, kd21, kd22, kd23, kd24, kd25, kd26, kd27, kd28, kd29, kd30, kd31, kd32, kd33, kd34, kd35, kd36, kd37, kd38, kd39, kd40, kd41, kd42, kd43, kd44, kd45, kd46, kd47, kd48, kd49, kd50, kd51, kd52, kd53, kd54, kd55, kd56, kd57, kd58, kd59, kd60, kd61, kd62, kd63, kd64, kd65, kd66, kd67, kd68, ln2, ln3, ln5, ln6, ln7, ln10, ln13, ln16, ln19, ln22, ln24, ln25, ln27, ln28, ln29, ln32, ln35, ln38, ln41, ln44, ln46, ln48, ln50, ln52, ln54, ln55, ln56, ln57, ln58, ln59, ln60, ln61, ln62, ln63, ln67, ln68, r3, i0, i1, cl_nI, lt_F, le_F, eq_F, not_false_eq_true]) <;> omega) | fail) only [p65_10, p65_11, p65_14, p65_15, p65_15n, p65_16, p65_19, p65_20, p65_23, p65_23n, p65_24, p65_27, p65_28, p65_29, p65_30, p65_30n, p65_31, p65_34, p65_35, p65_35n, p65_36, p65_39, p65_40, p65_41, p65_42, p65_43, p65_44, p65_44n, p65_45, p65_48, p65_49, p65_50, p65_51, p65_52, p65_53, p65_56, p65_59, ↓reduceIte, i0, i1, lt_T, lt_F, le_T, le_F, cl_nI, nI_add, not_true_eq_false, not_false_eq_true, if_true, if_false, r1, r3, hal, h1, h2, hfa, hfb]
      exact ih _
theorem t_turnBack {q : Nat} {A : List Nat} (hq : dm_kd q = 3) (hA : RowIs M q A) (ha8 : ∀ t ∈ A, t < 8) (hQ : ∀ M', RowIs M' q (backL A) → RowK q M M' → Q none M') : dm_cp (d + 1) 65 [.ref q] M Q := by
  have hs := hA.1
  rw [e65]
  have hL := tb_loop (d := d) (Q := Q) (M0 := M) hq hA ha8 hQ A.length 0 M none (Nat.zero_add _) (fun k hk => by rw [if_neg (by omega)]; exact hA.2.2 k hk) rfl RowK.refl
  rw [Nat.sub_zero] at hL
  simp (disch := first | assumption | fail) only [p65_0, p65_1, p65_2, p65_2n, p65_3, p65_6, p65_7, p65_8, i0, i1, hs]
  exact hL
end
