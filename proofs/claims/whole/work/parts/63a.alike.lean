/-! alike: the class -/
def allF (p : Nat → Bool) : Nat → Nat → Bool
  | 0, _ => true
  | r + 1, i => p i && allF p r (i + 1)
def exF (p : Nat → Bool) : Nat → Nat → Bool
  | 0, _ => false
  | r + 1, i => p i || exF p r (i + 1)
theorem allF_iff {p : Nat → Bool} : ∀ {r i : Nat}, allF p r i = true ↔ ∀ j, i ≤ j → j < i + r → p j = true
  | 0, i => ⟨fun _ j h1 h2 => absurd h2 (by omega), fun _ => rfl⟩
  | r + 1, i => by
    unfold allF
    rw [Bool.and_eq_true, allF_iff]
    constructor
    · rintro ⟨h1, h2⟩ j h3 h4
      by_cases e : j = i
      · rw [e]; exact h1
      · exact h2 j (by omega) (by omega)
    · intro h
      exact ⟨h i (Nat.le_refl _) (by omega), fun j h3 h4 => h j (by omega) (by omega)⟩
theorem exF_none {p : Nat → Bool} : ∀ {r i : Nat}, (∀ j, i ≤ j → j < i + r → p j = false) → exF p r i = false
  | 0, _, _ => rfl
  | r + 1, i, h => by
    unfold exF
    rw [h i (Nat.le_refl _) (by omega), exF_none (fun j a b => h j (by omega) (by omega))]
    rfl
def rotP (A B : List Nat) (f i : Nat) : Bool := decide (A.getD i 0 = B.getD (if f + i < A.length then f + i else f + i - A.length) 0)
def sameR (A B : List Nat) (f : Nat) : Bool := allF (rotP A B f) A.length 0
def sameF (A B : List Nat) (f : Nat) : Bool := if A.length = B.length then sameR A B f else false
def rolledB (A B : List Nat) : Bool := if A.length = B.length then (if A.length = 0 then true else exF (sameR A B) A.length 0) else false
def offN (A : List Nat) : Nat → Nat → Nat
  | 0, off => off
  | r + 1, off => if 2 * off + 1 < A.length ∧ A.getD off 0 = A.getD (A.length - 1 - off) 0 ^^^ 1 then offN A r (off + 1) else off
def closeL (A : List Nat) (off : Nat) : List Nat := (A.drop off).take (A.length - 2 * off)
def closeN (A : List Nat) : List Nat := closeL A (offN A A.length 0)
def backL (A : List Nat) : List Nat := (List.range A.length).map fun i => A.getD (A.length - 1 - i) 0 ^^^ 1
theorem backL_len {A : List Nat} : (backL A).length = A.length := by unfold backL; rw [List.length_map, List.length_range]
theorem backL_get {A : List Nat} {i : Nat} (h : i < A.length) : (backL A).getD i 0 = A.getD (A.length - 1 - i) 0 ^^^ 1 := by
  unfold backL
  rw [List.getD_eq_getElem?_getD, List.getElem?_map, List.getElem?_range h]
  rfl
theorem closeL_len {A : List Nat} {off : Nat} : (closeL A off).length = A.length - 2 * off := by
  unfold closeL
  rw [List.length_take, List.length_drop]
  omega
theorem closeL_get {A : List Nat} {off i : Nat} (h : i < A.length - 2 * off) : (closeL A off).getD i 0 = A.getD (off + i) 0 := by
  unfold closeL
  rw [List.getD_eq_getElem?_getD, List.getD_eq_getElem?_getD, List.getElem?_take_of_lt h, List.getElem?_drop]
theorem offN_le {A : List Nat} : ∀ {r off : Nat}, 2 * off ≤ A.length → 2 * offN A r off ≤ A.length
  | 0, _, h => h
  | r + 1, off, h => by
    unfold offN
    split
    · rename_i z
      exact offN_le (by omega)
    · exact h
section
variable {d i n sets : Nat} {x y z : Int32} {M : dm_M} {Q : Option Value → dm_M → Prop} {s : Sg} {f : Bool}
theorem sf_loop {q o g : Nat} {A B : List Nat} {l4 : Option Value} (hq : dm_kd q = 3) (ho : dm_kd o = 3) (hA : RowIs M q A) (hB : RowIs M o B) (ha8 : ∀ t ∈ A, t < 8) (hb8 : ∀ t ∈ B, t < 8) (hl : A.length = B.length) (hg : g < A.length ∨ g = 0) :
    ∀ (r i : Nat) (l4 : Option Value), i + r = A.length → (dm_wp (d + 1) 64 15 [some (.ref q), some (.ref o), some (.int (nI g)), some (.int (nI i)), l4] [] M Q ↔ Q (some (.int (nI (allF (rotP A B g) r i).toNat))) M) := by
  have h49 := hA.2.1
  have hs := hA.1
  intro r
  induction r with
  | zero =>
    intro i l4 hi
    have e : i = A.length := by omega
    subst e
    simp (disch := first | assumption | exact b01_01 | exact Or.inl rfl | exact Or.inr rfl | ((try simp (disch := omega) only [kd0, kd1, kd2, kd3, kd4, kd5, kd6, kd7, kd8, kd9, kd10, kd11, kd12, kd13, kd14, kd15, kd16, kd17, kd18, kd19, kd20, kd21, kd22, kd23, kd24, kd25, kd26, kd27, kd28, kd29, kd30, kd31, kd32, kd33, kd34, kd35, kd36, kd37, kd38, kd39, kd40, kd41, kd42, kd43, kd44, kd45, kd46, kd47, kd48, kd49, kd50, kd51, kd52, kd53, kd54, kd55, kd56, kd57, kd58, kd59, kd60, kd61, kd62, kd63, kd64, kd65, kd66, kd67, kd68, ln2, ln3, ln5, ln6, ln7, ln10, ln13, ln16, ln19, ln22, ln24, ln25, ln27, ln28, ln29, ln32, ln35, ln38, ln41, ln44, ln46, ln48, ln50, ln52, ln54, ln55, ln56, ln57, ln58, ln59, ln60, ln61, ln62, ln63, ln67, ln68, i0, i1, cl_nI, lt_F, le_F, eq_F, not_false_eq_true]) <;> omega) | fail) only [p64_15, p64_16, p64_16n, p64_17, p64_20, p64_71, p64_72, ↓reduceIte, Nat.reduceAdd, Nat.reduceMul, Nat.reduceSub, i0, i1, i2, i3, i4, i5, i6, i7, i8, i9, i10, i14, i15, i16, i18, i20, i21, i23, i28, i31, i32, i33, i38, i40, i41, i48, i49, i51, i57, i60, i61, i62, i63, i97, i99, i100, i110, i124, i127, i140, i199, i200, i278, i286, i294, i394, i399, i1000, i1099, lt_T, lt_F, le_T, le_F, eq_T, eq_F, nI_add, pk_mul, pk_sub, nI_m1, cl_nI, dm_up_n1, dm_up_eq, dm_up_n2, not_true_eq_false, not_false_eq_true, if_true, if_false, true_and, and_true, false_and, and_false, true_or, or_true, false_or, or_false, Option.toList, List.cons_append, List.nil_append, b01_01, b01_T, b01_F, b01_n0, b01_n1, ite_self, pk_div, pk_rem, nI_shrA, nI_bt, nI_bt0, nI_bt1, t_hasBit, nsc, Nat.add_sub_cancel_left, Nat.add_sub_cancel, hs]
    exact Iff.rfl
  | succ r ih =>
    intro i l4 hi
    have ih := fun l4 => ih (i + 1) l4 (by omega)
    have hTA := fun (d : Nat) (Q : Option Value → dm_M → Prop) => s_turnAt_in (d := d) (Q := Q) hq hA (i := i) (by omega)
    have hTB := fun (j : Nat) (hj : j < B.length) (d : Nat) (Q : Option Value → dm_M → Prop) => s_turnAt_in (d := d) (Q := Q) ho hB hj
    have a8 := getD_lt ha8 (i := i) (by omega)
    rw [p64_15]
    unfold allF
    by_cases hw : g + i < A.length
    · have b8 := getD_lt hb8 (i := g + i) (by omega)
      have e1 : rotP A B g i = decide (A.getD i 0 = B.getD (g + i) 0) := by unfold rotP; rw [if_pos hw]
      rw [e1]
      by_cases he : A.getD i 0 = B.getD (g + i) 0
      · rw [decide_eq_true he, Bool.true_and, ← ih (some (.int (nI (g + i))))]
        simp (disch := first | assumption | exact b01_01 | exact Or.inl rfl | exact Or.inr rfl | ((try simp (disch := omega) only [kd0, kd1, kd2, kd3, kd4, kd5, kd6, kd7, kd8, kd9, kd10, kd11, kd12, kd13, kd14, kd15, kd16, kd17, kd18, kd19, kd20, kd21, kd22, kd23, kd24, kd25, kd26, kd27, kd28, kd29, kd30, kd31, kd32, kd33, kd34, kd35, kd36, kd37, kd38, kd39, kd40, kd41, kd42, kd43, kd44, kd45, kd46, kd47, kd48, kd49, kd50, kd51, kd52, kd53, kd54, kd55, kd56, kd57, kd58, kd59, kd60, kd61, kd62, kd63, kd64, kd65, kd66, kd67, kd68, ln2, ln3, ln5, ln6, ln7, ln10, ln13, ln16, ln19, ln22, ln24, ln25, ln27, ln28, ln29, ln32, ln35, ln38, ln41, ln44, ln46, ln48, ln50, ln52, ln54, ln55, ln56, ln57, ln58, ln59, ln60, ln61, ln62, ln63, ln67, ln68, i0, i1, cl_nI, lt_F, le_F, eq_F, not_false_eq_true]) <;> omega) | fail) only [p64_16, p64_16n, p64_17, p64_20, p64_23, p64_24, p64_25, p64_26, p64_26n, p64_27, p64_30, p64_33, p64_34, p64_35, p64_36, p64_39, p64_40, p64_41, p64_42, p64_42n, p64_43, p64_46, p64_47, p64_49, p64_49n, p64_50, p64_51, p64_54, p64_54n, p64_55, p64_57, p64_60, p64_63, p64_64, p64_65, p64_68, ↓reduceIte, Nat.reduceAdd, Nat.reduceMul, Nat.reduceSub, i0, i1, i2, i3, i4, i5, i6, i7, i8, i9, i10, i14, i15, i16, i18, i20, i21, i23, i28, i31, i32, i33, i38, i40, i41, i48, i49, i51, i57, i60, i61, i62, i63, i97, i99, i100, i110, i124, i127, i140, i199, i200, i278, i286, i294, i394, i399, i1000, i1099, lt_T, lt_F, le_T, le_F, eq_T, eq_F, nI_add, pk_mul, pk_sub, nI_m1, cl_nI, dm_up_n1, dm_up_eq, dm_up_n2, not_true_eq_false, not_false_eq_true, if_true, if_false, true_and, and_true, false_and, and_false, true_or, or_true, false_or, or_false, Option.toList, List.cons_append, List.nil_append, b01_01, b01_T, b01_F, b01_n0, b01_n1, ite_self, pk_div, pk_rem, nI_shrA, nI_bt, nI_bt0, nI_bt1, t_hasBit, nsc, Nat.add_sub_cancel_left, Nat.add_sub_cancel, hs, hTA, hTB]
      · rw [decide_eq_false he, Bool.false_and]
        simp (disch := first | assumption | exact b01_01 | exact Or.inl rfl | exact Or.inr rfl | ((try simp (disch := omega) only [kd0, kd1, kd2, kd3, kd4, kd5, kd6, kd7, kd8, kd9, kd10, kd11, kd12, kd13, kd14, kd15, kd16, kd17, kd18, kd19, kd20, kd21, kd22, kd23, kd24, kd25, kd26, kd27, kd28, kd29, kd30, kd31, kd32, kd33, kd34, kd35, kd36, kd37, kd38, kd39, kd40, kd41, kd42, kd43, kd44, kd45, kd46, kd47, kd48, kd49, kd50, kd51, kd52, kd53, kd54, kd55, kd56, kd57, kd58, kd59, kd60, kd61, kd62, kd63, kd64, kd65, kd66, kd67, kd68, ln2, ln3, ln5, ln6, ln7, ln10, ln13, ln16, ln19, ln22, ln24, ln25, ln27, ln28, ln29, ln32, ln35, ln38, ln41, ln44, ln46, ln48, ln50, ln52, ln54, ln55, ln56, ln57, ln58, ln59, ln60, ln61, ln62, ln63, ln67, ln68, i0, i1, cl_nI, lt_F, le_F, eq_F, not_false_eq_true]) <;> omega) | fail) only [p64_16, p64_16n, p64_17, p64_20, p64_23, p64_24, p64_25, p64_26, p64_26n, p64_27, p64_30, p64_33, p64_34, p64_35, p64_36, p64_39, p64_40, p64_41, p64_42, p64_42n, p64_43, p64_46, p64_47, p64_49, p64_49n, p64_50, p64_51, p64_54, p64_54n, p64_55, p64_57, p64_60, p64_63, p64_64, p64_65, p64_68, ↓reduceIte, Nat.reduceAdd, Nat.reduceMul, Nat.reduceSub, i0, i1, i2, i3, i4, i5, i6, i7, i8, i9, i10, i14, i15, i16, i18, i20, i21, i23, i28, i31, i32, i33, i38, i40, i41, i48, i49, i51, i57, i60, i61, i62, i63, i97, i99, i100, i110, i124, i127, i140, i199, i200, i278, i286, i294, i394, i399, i1000, i1099, lt_T, lt_F, le_T, le_F, eq_T, eq_F, nI_add, pk_mul, pk_sub, nI_m1, cl_nI, dm_up_n1, dm_up_eq, dm_up_n2, not_true_eq_false, not_false_eq_true, if_true, if_false, true_and, and_true, false_and, and_false, true_or, or_true, false_or, or_false, Option.toList, List.cons_append, List.nil_append, b01_01, b01_T, b01_F, b01_n0, b01_n1, ite_self, pk_div, pk_rem, nI_shrA, nI_bt, nI_bt0, nI_bt1, t_hasBit, nsc, Nat.add_sub_cancel_left, Nat.add_sub_cancel, hs, hTA, hTB]
        exact Iff.rfl
    · have b8 := getD_lt hb8 (i := g + i - A.length) (by omega)
      have e1 : rotP A B g i = decide (A.getD i 0 = B.getD (g + i - A.length) 0) := by unfold rotP; rw [if_neg hw]
      rw [e1]
      by_cases he : A.getD i 0 = B.getD (g + i - A.length) 0
      · rw [decide_eq_true he, Bool.true_and, ← ih (some (.int (nI (g + i - A.length))))]
        simp (disch := first | assumption | exact b01_01 | exact Or.inl rfl | exact Or.inr rfl | ((try simp (disch := omega) only [kd0, kd1, kd2, kd3, kd4, kd5, kd6, kd7, kd8, kd9, kd10, kd11, kd12, kd13, kd14, kd15, kd16, kd17, kd18, kd19, kd20, kd21, kd22, kd23, kd24, kd25, kd26, kd27, kd28, kd29, kd30, kd31, kd32, kd33, kd34, kd35, kd36, kd37, kd38, kd39, kd40, kd41, kd42, kd43, kd44, kd45, kd46, kd47, kd48, kd49, kd50, kd51, kd52, kd53, kd54, kd55, kd56, kd57, kd58, kd59, kd60, kd61, kd62, kd63, kd64, kd65, kd66, kd67, kd68, ln2, ln3, ln5, ln6, ln7, ln10, ln13, ln16, ln19, ln22, ln24, ln25, ln27, ln28, ln29, ln32, ln35, ln38, ln41, ln44, ln46, ln48, ln50, ln52, ln54, ln55, ln56, ln57, ln58, ln59, ln60, ln61, ln62, ln63, ln67, ln68, i0, i1, cl_nI, lt_F, le_F, eq_F, not_false_eq_true]) <;> omega) | fail) only [p64_16, p64_16n, p64_17, p64_20, p64_23, p64_24, p64_25, p64_26, p64_26n, p64_27, p64_30, p64_33, p64_34, p64_35, p64_36, p64_39, p64_40, p64_41, p64_42, p64_42n, p64_43, p64_46, p64_47, p64_49, p64_49n, p64_50, p64_51, p64_54, p64_54n, p64_55, p64_57, p64_60, p64_63, p64_64, p64_65, p64_68, ↓reduceIte, Nat.reduceAdd, Nat.reduceMul, Nat.reduceSub, i0, i1, i2, i3, i4, i5, i6, i7, i8, i9, i10, i14, i15, i16, i18, i20, i21, i23, i28, i31, i32, i33, i38, i40, i41, i48, i49, i51, i57, i60, i61, i62, i63, i97, i99, i100, i110, i124, i127, i140, i199, i200, i278, i286, i294, i394, i399, i1000, i1099, lt_T, lt_F, le_T, le_F, eq_T, eq_F, nI_add, pk_mul, pk_sub, nI_m1, cl_nI, dm_up_n1, dm_up_eq, dm_up_n2, not_true_eq_false, not_false_eq_true, if_true, if_false, true_and, and_true, false_and, and_false, true_or, or_true, false_or, or_false, Option.toList, List.cons_append, List.nil_append, b01_01, b01_T, b01_F, b01_n0, b01_n1, ite_self, pk_div, pk_rem, nI_shrA, nI_bt, nI_bt0, nI_bt1, t_hasBit, nsc, Nat.add_sub_cancel_left, Nat.add_sub_cancel, hs, hTA, hTB]
      · rw [decide_eq_false he, Bool.false_and]
        simp (disch := first | assumption | exact b01_01 | exact Or.inl rfl | exact Or.inr rfl | ((try simp (disch := omega) only [kd0, kd1, kd2, kd3, kd4, kd5, kd6, kd7, kd8, kd9, kd10, kd11, kd12, kd13, kd14, kd15, kd16, kd17, kd18, kd19, kd20, kd21, kd22, kd23, kd24, kd25, kd26, kd27, kd28, kd29, kd30, kd31, kd32, kd33, kd34, kd35, kd36, kd37, kd38, kd39, kd40, kd41, kd42, kd43, kd44, kd45, kd46, kd47, kd48, kd49, kd50, kd51, kd52, kd53, kd54, kd55, kd56, kd57, kd58, kd59, kd60, kd61, kd62, kd63, kd64, kd65, kd66, kd67, kd68, ln2, ln3, ln5, ln6, ln7, ln10, ln13, ln16, ln19, ln22, ln24, ln25, ln27, ln28, ln29, ln32, ln35, ln38, ln41, ln44, ln46, ln48, ln50, ln52, ln54, ln55, ln56, ln57, ln58, ln59, ln60, ln61, ln62, ln63, ln67, ln68, i0, i1, cl_nI, lt_F, le_F, eq_F, not_false_eq_true]) <;> omega) | fail) only [p64_16, p64_16n, p64_17, p64_20, p64_23, p64_24, p64_25, p64_26, p64_26n, p64_27, p64_30, p64_33, p64_34, p64_35, p64_36, p64_39, p64_40, p64_41, p64_42, p64_42n, p64_43, p64_46, p64_47, p64_49, p64_49n, p64_50, p64_51, p64_54, p64_54n, p64_55, p64_57, p64_60, p64_63, p64_64, p64_65, p64_68, ↓reduceIte, Nat.reduceAdd, Nat.reduceMul, Nat.reduceSub, i0, i1, i2, i3, i4, i5, i6, i7, i8, i9, i10, i14, i15, i16, i18, i20, i21, i23, i28, i31, i32, i33, i38, i40, i41, i48, i49, i51, i57, i60, i61, i62, i63, i97, i99, i100, i110, i124, i127, i140, i199, i200, i278, i286, i294, i394, i399, i1000, i1099, lt_T, lt_F, le_T, le_F, eq_T, eq_F, nI_add, pk_mul, pk_sub, nI_m1, cl_nI, dm_up_n1, dm_up_eq, dm_up_n2, not_true_eq_false, not_false_eq_true, if_true, if_false, true_and, and_true, false_and, and_false, true_or, or_true, false_or, or_false, Option.toList, List.cons_append, List.nil_append, b01_01, b01_T, b01_F, b01_n0, b01_n1, ite_self, pk_div, pk_rem, nI_shrA, nI_bt, nI_bt0, nI_bt1, t_hasBit, nsc, Nat.add_sub_cancel_left, Nat.add_sub_cancel, hs, hTA, hTB]
        exact Iff.rfl
theorem t_sameF {q o g : Nat} {A B : List Nat} (hq : dm_kd q = 3) (ho : dm_kd o = 3) (hA : RowIs M q A) (hB : RowIs M o B) (ha8 : ∀ t ∈ A, t < 8) (hb8 : ∀ t ∈ B, t < 8) (hg : g < A.length ∨ g = 0) : dm_cp (d + 1) 64 [.ref q, .ref o, .int (nI g)] M Q ↔ Q (some (.int (nI (sameF A B g).toNat))) M := by
  have h49 := hA.2.1
  have h49b := hB.2.1
  have hs := hA.1
  have hs2 := hB.1
  rw [e64]
  unfold sameF
  by_cases hl : A.length = B.length
  · rw [if_pos hl]
    unfold sameR
    rw [← sf_loop (d := d) (l4 := none) (Q := Q) hq ho hA hB ha8 hb8 hl hg A.length 0 none (Nat.zero_add _)]
    simp (disch := first | assumption | exact b01_01 | exact Or.inl rfl | exact Or.inr rfl | ((try simp (disch := omega) only [kd0, kd1, kd2, kd3, kd4, kd5, kd6, kd7, kd8, kd9, kd10, kd11, kd12, kd13, kd14, kd15, kd16, kd17, kd18, kd19, kd20, kd21, kd22, kd23, kd24, kd25, kd26, kd27, kd28, kd29, kd30, kd31, kd32, kd33, kd34, kd35, kd36, kd37, kd38, kd39, kd40, kd41, kd42, kd43, kd44, kd45, kd46, kd47, kd48, kd49, kd50, kd51, kd52, kd53, kd54, kd55, kd56, kd57, kd58, kd59, kd60, kd61, kd62, kd63, kd64, kd65, kd66, kd67, kd68, ln2, ln3, ln5, ln6, ln7, ln10, ln13, ln16, ln19, ln22, ln24, ln25, ln27, ln28, ln29, ln32, ln35, ln38, ln41, ln44, ln46, ln48, ln50, ln52, ln54, ln55, ln56, ln57, ln58, ln59, ln60, ln61, ln62, ln63, ln67, ln68, i0, i1, cl_nI, lt_F, le_F, eq_F, not_false_eq_true]) <;> omega) | fail) only [p64_0, p64_0n, p64_1, p64_4, p64_4n, p64_5, p64_8, p64_11, p64_12, p64_13, p64_14, ↓reduceIte, Nat.reduceAdd, Nat.reduceMul, Nat.reduceSub, i0, i1, i2, i3, i4, i5, i6, i7, i8, i9, i10, i14, i15, i16, i18, i20, i21, i23, i28, i31, i32, i33, i38, i40, i41, i48, i49, i51, i57, i60, i61, i62, i63, i97, i99, i100, i110, i124, i127, i140, i199, i200, i278, i286, i294, i394, i399, i1000, i1099, lt_T, lt_F, le_T, le_F, eq_T, eq_F, nI_add, pk_mul, pk_sub, nI_m1, cl_nI, dm_up_n1, dm_up_eq, dm_up_n2, not_true_eq_false, not_false_eq_true, if_true, if_false, true_and, and_true, false_and, and_false, true_or, or_true, false_or, or_false, Option.toList, List.cons_append, List.nil_append, b01_01, b01_T, b01_F, b01_n0, b01_n1, ite_self, pk_div, pk_rem, nI_shrA, nI_bt, nI_bt0, nI_bt1, t_hasBit, nsc, Nat.add_sub_cancel_left, Nat.add_sub_cancel, hs, hs2]
  · rw [if_neg hl]
    simp (disch := first | assumption | exact b01_01 | exact Or.inl rfl | exact Or.inr rfl | ((try simp (disch := omega) only [kd0, kd1, kd2, kd3, kd4, kd5, kd6, kd7, kd8, kd9, kd10, kd11, kd12, kd13, kd14, kd15, kd16, kd17, kd18, kd19, kd20, kd21, kd22, kd23, kd24, kd25, kd26, kd27, kd28, kd29, kd30, kd31, kd32, kd33, kd34, kd35, kd36, kd37, kd38, kd39, kd40, kd41, kd42, kd43, kd44, kd45, kd46, kd47, kd48, kd49, kd50, kd51, kd52, kd53, kd54, kd55, kd56, kd57, kd58, kd59, kd60, kd61, kd62, kd63, kd64, kd65, kd66, kd67, kd68, ln2, ln3, ln5, ln6, ln7, ln10, ln13, ln16, ln19, ln22, ln24, ln25, ln27, ln28, ln29, ln32, ln35, ln38, ln41, ln44, ln46, ln48, ln50, ln52, ln54, ln55, ln56, ln57, ln58, ln59, ln60, ln61, ln62, ln63, ln67, ln68, i0, i1, cl_nI, lt_F, le_F, eq_F, not_false_eq_true]) <;> omega) | fail) only [p64_0, p64_0n, p64_1, p64_4, p64_4n, p64_5, p64_8, p64_11, p64_12, p64_13, p64_14, ↓reduceIte, Nat.reduceAdd, Nat.reduceMul, Nat.reduceSub, i0, i1, i2, i3, i4, i5, i6, i7, i8, i9, i10, i14, i15, i16, i18, i20, i21, i23, i28, i31, i32, i33, i38, i40, i41, i48, i49, i51, i57, i60, i61, i62, i63, i97, i99, i100, i110, i124, i127, i140, i199, i200, i278, i286, i294, i394, i399, i1000, i1099, lt_T, lt_F, le_T, le_F, eq_T, eq_F, nI_add, pk_mul, pk_sub, nI_m1, cl_nI, dm_up_n1, dm_up_eq, dm_up_n2, not_true_eq_false, not_false_eq_true, if_true, if_false, true_and, and_true, false_and, and_false, true_or, or_true, false_or, or_false, Option.toList, List.cons_append, List.nil_append, b01_01, b01_T, b01_F, b01_n0, b01_n1, ite_self, pk_div, pk_rem, nI_shrA, nI_bt, nI_bt0, nI_bt1, t_hasBit, nsc, Nat.add_sub_cancel_left, Nat.add_sub_cancel, hs, hs2]
    exact Iff.rfl
theorem rl_loop {q o : Nat} {A B : List Nat} (hq : dm_kd q = 3) (ho : dm_kd o = 3) (hA : RowIs M q A) (hB : RowIs M o B) (ha8 : ∀ t ∈ A, t < 8) (hb8 : ∀ t ∈ B, t < 8) (hl : A.length = B.length) :
    ∀ (r i : Nat), i + r = A.length → (dm_wp (d + 2) 63 13 [some (.ref q), some (.ref o), some (.int (nI i))] [] M Q ↔ Q (some (.int (nI (exF (sameR A B) r i).toNat))) M) := by
  have h49 := hA.2.1
  have hs := hA.1
  intro r
  induction r with
  | zero =>
    intro i hi
    have e : i = A.length := by omega
    subst e
    simp (disch := first | assumption | exact b01_01 | exact Or.inl rfl | exact Or.inr rfl | ((try simp (disch := omega) only [kd0, kd1, kd2, kd3, kd4, kd5, kd6, kd7, kd8, kd9, kd10, kd11, kd12, kd13, kd14, kd15, kd16, kd17, kd18, kd19, kd20, kd21, kd22, kd23, kd24, kd25, kd26, kd27, kd28, kd29, kd30, kd31, kd32, kd33, kd34, kd35, kd36, kd37, kd38, kd39, kd40, kd41, kd42, kd43, kd44, kd45, kd46, kd47, kd48, kd49, kd50, kd51, kd52, kd53, kd54, kd55, kd56, kd57, kd58, kd59, kd60, kd61, kd62, kd63, kd64, kd65, kd66, kd67, kd68, ln2, ln3, ln5, ln6, ln7, ln10, ln13, ln16, ln19, ln22, ln24, ln25, ln27, ln28, ln29, ln32, ln35, ln38, ln41, ln44, ln46, ln48, ln50, ln52, ln54, ln55, ln56, ln57, ln58, ln59, ln60, ln61, ln62, ln63, ln67, ln68, i0, i1, cl_nI, lt_F, le_F, eq_F, not_false_eq_true]) <;> omega) | fail) only [p63_13, p63_14, p63_14n, p63_15, p63_18, p63_38, p63_39, ↓reduceIte, Nat.reduceAdd, Nat.reduceMul, Nat.reduceSub, i0, i1, i2, i3, i4, i5, i6, i7, i8, i9, i10, i14, i15, i16, i18, i20, i21, i23, i28, i31, i32, i33, i38, i40, i41, i48, i49, i51, i57, i60, i61, i62, i63, i97, i99, i100, i110, i124, i127, i140, i199, i200, i278, i286, i294, i394, i399, i1000, i1099, lt_T, lt_F, le_T, le_F, eq_T, eq_F, nI_add, pk_mul, pk_sub, nI_m1, cl_nI, dm_up_n1, dm_up_eq, dm_up_n2, not_true_eq_false, not_false_eq_true, if_true, if_false, true_and, and_true, false_and, and_false, true_or, or_true, false_or, or_false, Option.toList, List.cons_append, List.nil_append, b01_01, b01_T, b01_F, b01_n0, b01_n1, ite_self, pk_div, pk_rem, nI_shrA, nI_bt, nI_bt0, nI_bt1, t_hasBit, nsc, Nat.add_sub_cancel_left, Nat.add_sub_cancel, hs]
    exact Iff.rfl
  | succ r ih =>
    intro i hi
    have ih := ih (i + 1) (by omega)
    have hS := fun (d : Nat) (Q : Option Value → dm_M → Prop) => t_sameF (d := d) (Q := Q) hq ho hA hB ha8 hb8 (g := i) (Or.inl (by omega))
    have e1 : sameF A B i = sameR A B i := by unfold sameF; rw [if_pos hl]
    rw [e1] at hS
    rw [p63_13]
    unfold exF
    cases hb : sameR A B i with
    | true =>
      rw [hb] at hS
      simp (disch := first | assumption | exact b01_01 | exact Or.inl rfl | exact Or.inr rfl | ((try simp (disch := omega) only [kd0, kd1, kd2, kd3, kd4, kd5, kd6, kd7, kd8, kd9, kd10, kd11, kd12, kd13, kd14, kd15, kd16, kd17, kd18, kd19, kd20, kd21, kd22, kd23, kd24, kd25, kd26, kd27, kd28, kd29, kd30, kd31, kd32, kd33, kd34, kd35, kd36, kd37, kd38, kd39, kd40, kd41, kd42, kd43, kd44, kd45, kd46, kd47, kd48, kd49, kd50, kd51, kd52, kd53, kd54, kd55, kd56, kd57, kd58, kd59, kd60, kd61, kd62, kd63, kd64, kd65, kd66, kd67, kd68, ln2, ln3, ln5, ln6, ln7, ln10, ln13, ln16, ln19, ln22, ln24, ln25, ln27, ln28, ln29, ln32, ln35, ln38, ln41, ln44, ln46, ln48, ln50, ln52, ln54, ln55, ln56, ln57, ln58, ln59, ln60, ln61, ln62, ln63, ln67, ln68, i0, i1, cl_nI, lt_F, le_F, eq_F, not_false_eq_true]) <;> omega) | fail) only [p63_14, p63_14n, p63_15, p63_18, p63_21, p63_21n, p63_22, p63_22n, p63_23, p63_24, p63_27, p63_30, p63_31, p63_32, p63_35, ↓reduceIte, Nat.reduceAdd, Nat.reduceMul, Nat.reduceSub, i0, i1, i2, i3, i4, i5, i6, i7, i8, i9, i10, i14, i15, i16, i18, i20, i21, i23, i28, i31, i32, i33, i38, i40, i41, i48, i49, i51, i57, i60, i61, i62, i63, i97, i99, i100, i110, i124, i127, i140, i199, i200, i278, i286, i294, i394, i399, i1000, i1099, lt_T, lt_F, le_T, le_F, eq_T, eq_F, nI_add, pk_mul, pk_sub, nI_m1, cl_nI, dm_up_n1, dm_up_eq, dm_up_n2, not_true_eq_false, not_false_eq_true, if_true, if_false, true_and, and_true, false_and, and_false, true_or, or_true, false_or, or_false, Option.toList, List.cons_append, List.nil_append, b01_01, b01_T, b01_F, b01_n0, b01_n1, ite_self, pk_div, pk_rem, nI_shrA, nI_bt, nI_bt0, nI_bt1, t_hasBit, nsc, Nat.add_sub_cancel_left, Nat.add_sub_cancel, hs, hS, Bool.toNat_true, Bool.true_or]
    | false =>
      rw [hb] at hS
      rw [Bool.false_or, ← ih]
      simp (disch := first | assumption | exact b01_01 | exact Or.inl rfl | exact Or.inr rfl | ((try simp (disch := omega) only [kd0, kd1, kd2, kd3, kd4, kd5, kd6, kd7, kd8, kd9, kd10, kd11, kd12, kd13, kd14, kd15, kd16, kd17, kd18, kd19, kd20, kd21, kd22, kd23, kd24, kd25, kd26, kd27, kd28, kd29, kd30, kd31, kd32, kd33, kd34, kd35, kd36, kd37, kd38, kd39, kd40, kd41, kd42, kd43, kd44, kd45, kd46, kd47, kd48, kd49, kd50, kd51, kd52, kd53, kd54, kd55, kd56, kd57, kd58, kd59, kd60, kd61, kd62, kd63, kd64, kd65, kd66, kd67, kd68, ln2, ln3, ln5, ln6, ln7, ln10, ln13, ln16, ln19, ln22, ln24, ln25, ln27, ln28, ln29, ln32, ln35, ln38, ln41, ln44, ln46, ln48, ln50, ln52, ln54, ln55, ln56, ln57, ln58, ln59, ln60, ln61, ln62, ln63, ln67, ln68, i0, i1, cl_nI, lt_F, le_F, eq_F, not_false_eq_true]) <;> omega) | fail) only [p63_14, p63_14n, p63_15, p63_18, p63_21, p63_21n, p63_22, p63_22n, p63_23, p63_24, p63_27, p63_30, p63_31, p63_32, p63_35, ↓reduceIte, Nat.reduceAdd, Nat.reduceMul, Nat.reduceSub, i0, i1, i2, i3, i4, i5, i6, i7, i8, i9, i10, i14, i15, i16, i18, i20, i21, i23, i28, i31, i32, i33, i38, i40, i41, i48, i49, i51, i57, i60, i61, i62, i63, i97, i99, i100, i110, i124, i127, i140, i199, i200, i278, i286, i294, i394, i399, i1000, i1099, lt_T, lt_F, le_T, le_F, eq_T, eq_F, nI_add, pk_mul, pk_sub, nI_m1, cl_nI, dm_up_n1, dm_up_eq, dm_up_n2, not_true_eq_false, not_false_eq_true, if_true, if_false, true_and, and_true, false_and, and_false, true_or, or_true, false_or, or_false, Option.toList, List.cons_append, List.nil_append, b01_01, b01_T, b01_F, b01_n0, b01_n1, ite_self, pk_div, pk_rem, nI_shrA, nI_bt, nI_bt0, nI_bt1, t_hasBit, nsc, Nat.add_sub_cancel_left, Nat.add_sub_cancel, hs, hS, Bool.toNat_false]
theorem t_rolled {q o : Nat} {A B : List Nat} (hq : dm_kd q = 3) (ho : dm_kd o = 3) (hA : RowIs M q A) (hB : RowIs M o B) (ha8 : ∀ t ∈ A, t < 8) (hb8 : ∀ t ∈ B, t < 8) : dm_cp (d + 2) 63 [.ref q, .ref o] M Q ↔ Q (some (.int (nI (rolledB A B).toNat))) M := by
  have h49 := hA.2.1
  have hs := hA.1
  have hS := fun (g : Nat) (hg : g < A.length ∨ g = 0) (d : Nat) (Q : Option Value → dm_M → Prop) => t_sameF (d := d) (Q := Q) hq ho hA hB ha8 hb8 (g := g) hg
  have hS0 := hS 0 (Or.inr rfl)
  rw [e63]
  unfold rolledB
  by_cases hl : A.length = B.length
  · have e1 : ∀ g, sameF A B g = sameR A B g := fun g => by unfold sameF; rw [if_pos hl]
    rw [e1] at hS0
    rw [if_pos hl]
    by_cases h0 : A.length = 0
    · rw [if_pos h0]
      have e2 : sameR A B 0 = true := by unfold sameR; rw [h0]; rfl
      rw [e2] at hS0
      simp (disch := first | assumption | exact b01_01 | exact Or.inl rfl | exact Or.inr rfl | ((try simp (disch := omega) only [kd0, kd1, kd2, kd3, kd4, kd5, kd6, kd7, kd8, kd9, kd10, kd11, kd12, kd13, kd14, kd15, kd16, kd17, kd18, kd19, kd20, kd21, kd22, kd23, kd24, kd25, kd26, kd27, kd28, kd29, kd30, kd31, kd32, kd33, kd34, kd35, kd36, kd37, kd38, kd39, kd40, kd41, kd42, kd43, kd44, kd45, kd46, kd47, kd48, kd49, kd50, kd51, kd52, kd53, kd54, kd55, kd56, kd57, kd58, kd59, kd60, kd61, kd62, kd63, kd64, kd65, kd66, kd67, kd68, ln2, ln3, ln5, ln6, ln7, ln10, ln13, ln16, ln19, ln22, ln24, ln25, ln27, ln28, ln29, ln32, ln35, ln38, ln41, ln44, ln46, ln48, ln50, ln52, ln54, ln55, ln56, ln57, ln58, ln59, ln60, ln61, ln62, ln63, ln67, ln68, i0, i1, cl_nI, lt_F, le_F, eq_F, not_false_eq_true]) <;> omega) | fail) only [p63_0, p63_0n, p63_1, p63_1n, p63_2, p63_3, p63_6, p63_9, p63_10, p63_11, p63_12, ↓reduceIte, Nat.reduceAdd, Nat.reduceMul, Nat.reduceSub, i0, i1, i2, i3, i4, i5, i6, i7, i8, i9, i10, i14, i15, i16, i18, i20, i21, i23, i28, i31, i32, i33, i38, i40, i41, i48, i49, i51, i57, i60, i61, i62, i63, i97, i99, i100, i110, i124, i127, i140, i199, i200, i278, i286, i294, i394, i399, i1000, i1099, lt_T, lt_F, le_T, le_F, eq_T, eq_F, nI_add, pk_mul, pk_sub, nI_m1, cl_nI, dm_up_n1, dm_up_eq, dm_up_n2, not_true_eq_false, not_false_eq_true, if_true, if_false, true_and, and_true, false_and, and_false, true_or, or_true, false_or, or_false, Option.toList, List.cons_append, List.nil_append, b01_01, b01_T, b01_F, b01_n0, b01_n1, ite_self, pk_div, pk_rem, nI_shrA, nI_bt, nI_bt0, nI_bt1, t_hasBit, nsc, Nat.add_sub_cancel_left, Nat.add_sub_cancel, hS0, Bool.toNat_true]
    · rw [if_neg h0]
      cases hb : sameR A B 0 with
      | true =>
        rw [hb] at hS0
        have e3 : exF (sameR A B) A.length 0 = true := by
          obtain ⟨m, hm⟩ : ∃ m, A.length = m + 1 := ⟨A.length - 1, by omega⟩
          rw [hm]
          unfold exF
          rw [hb]
          rfl
        rw [e3]
        simp (disch := first | assumption | exact b01_01 | exact Or.inl rfl | exact Or.inr rfl | ((try simp (disch := omega) only [kd0, kd1, kd2, kd3, kd4, kd5, kd6, kd7, kd8, kd9, kd10, kd11, kd12, kd13, kd14, kd15, kd16, kd17, kd18, kd19, kd20, kd21, kd22, kd23, kd24, kd25, kd26, kd27, kd28, kd29, kd30, kd31, kd32, kd33, kd34, kd35, kd36, kd37, kd38, kd39, kd40, kd41, kd42, kd43, kd44, kd45, kd46, kd47, kd48, kd49, kd50, kd51, kd52, kd53, kd54, kd55, kd56, kd57, kd58, kd59, kd60, kd61, kd62, kd63, kd64, kd65, kd66, kd67, kd68, ln2, ln3, ln5, ln6, ln7, ln10, ln13, ln16, ln19, ln22, ln24, ln25, ln27, ln28, ln29, ln32, ln35, ln38, ln41, ln44, ln46, ln48, ln50, ln52, ln54, ln55, ln56, ln57, ln58, ln59, ln60, ln61, ln62, ln63, ln67, ln68, i0, i1, cl_nI, lt_F, le_F, eq_F, not_false_eq_true]) <;> omega) | fail) only [p63_0, p63_0n, p63_1, p63_1n, p63_2, p63_3, p63_6, p63_9, p63_10, p63_11, p63_12, ↓reduceIte, Nat.reduceAdd, Nat.reduceMul, Nat.reduceSub, i0, i1, i2, i3, i4, i5, i6, i7, i8, i9, i10, i14, i15, i16, i18, i20, i21, i23, i28, i31, i32, i33, i38, i40, i41, i48, i49, i51, i57, i60, i61, i62, i63, i97, i99, i100, i110, i124, i127, i140, i199, i200, i278, i286, i294, i394, i399, i1000, i1099, lt_T, lt_F, le_T, le_F, eq_T, eq_F, nI_add, pk_mul, pk_sub, nI_m1, cl_nI, dm_up_n1, dm_up_eq, dm_up_n2, not_true_eq_false, not_false_eq_true, if_true, if_false, true_and, and_true, false_and, and_false, true_or, or_true, false_or, or_false, Option.toList, List.cons_append, List.nil_append, b01_01, b01_T, b01_F, b01_n0, b01_n1, ite_self, pk_div, pk_rem, nI_shrA, nI_bt, nI_bt0, nI_bt1, t_hasBit, nsc, Nat.add_sub_cancel_left, Nat.add_sub_cancel, hS0, Bool.toNat_true]
      | false =>
        rw [hb] at hS0
        have e3 : exF (sameR A B) A.length 0 = exF (sameR A B) (A.length - 1) 1 := by
          obtain ⟨m, hm⟩ : ∃ m, A.length = m + 1 := ⟨A.length - 1, by omega⟩
          rw [hm]
          conv => lhs; unfold exF
          rw [hb, Bool.false_or]
          rfl
        rw [e3, ← rl_loop (d := d) (Q := Q) hq ho hA hB ha8 hb8 hl (A.length - 1) 1 (by omega)]
        simp (disch := first | assumption | exact b01_01 | exact Or.inl rfl | exact Or.inr rfl | ((try simp (disch := omega) only [kd0, kd1, kd2, kd3, kd4, kd5, kd6, kd7, kd8, kd9, kd10, kd11, kd12, kd13, kd14, kd15, kd16, kd17, kd18, kd19, kd20, kd21, kd22, kd23, kd24, kd25, kd26, kd27, kd28, kd29, kd30, kd31, kd32, kd33, kd34, kd35, kd36, kd37, kd38, kd39, kd40, kd41, kd42, kd43, kd44, kd45, kd46, kd47, kd48, kd49, kd50, kd51, kd52, kd53, kd54, kd55, kd56, kd57, kd58, kd59, kd60, kd61, kd62, kd63, kd64, kd65, kd66, kd67, kd68, ln2, ln3, ln5, ln6, ln7, ln10, ln13, ln16, ln19, ln22, ln24, ln25, ln27, ln28, ln29, ln32, ln35, ln38, ln41, ln44, ln46, ln48, ln50, ln52, ln54, ln55, ln56, ln57, ln58, ln59, ln60, ln61, ln62, ln63, ln67, ln68, i0, i1, cl_nI, lt_F, le_F, eq_F, not_false_eq_true]) <;> omega) | fail) only [p63_0, p63_0n, p63_1, p63_1n, p63_2, p63_3, p63_6, p63_9, p63_10, p63_11, p63_12, ↓reduceIte, Nat.reduceAdd, Nat.reduceMul, Nat.reduceSub, i0, i1, i2, i3, i4, i5, i6, i7, i8, i9, i10, i14, i15, i16, i18, i20, i21, i23, i28, i31, i32, i33, i38, i40, i41, i48, i49, i51, i57, i60, i61, i62, i63, i97, i99, i100, i110, i124, i127, i140, i199, i200, i278, i286, i294, i394, i399, i1000, i1099, lt_T, lt_F, le_T, le_F, eq_T, eq_F, nI_add, pk_mul, pk_sub, nI_m1, cl_nI, dm_up_n1, dm_up_eq, dm_up_n2, not_true_eq_false, not_false_eq_true, if_true, if_false, true_and, and_true, false_and, and_false, true_or, or_true, false_or, or_false, Option.toList, List.cons_append, List.nil_append, b01_01, b01_T, b01_F, b01_n0, b01_n1, ite_self, pk_div, pk_rem, nI_shrA, nI_bt, nI_bt0, nI_bt1, t_hasBit, nsc, Nat.add_sub_cancel_left, Nat.add_sub_cancel, hS0, Bool.toNat_false]
  · have e1 : sameF A B 0 = false := by unfold sameF; rw [if_neg hl]
    rw [e1] at hS0
    rw [if_neg hl]
    -- no place is the same
    have key : ∀ (r i : Nat), i + r = max A.length 1 → 1 ≤ i → (dm_wp (d + 2) 63 13 [some (.ref q), some (.ref o), some (.int (nI i))] [] M Q ↔ Q (some (.int (nI 0))) M) := by
      intro r
      induction r with
      | zero =>
        intro i hi h1
        simp (disch := first | assumption | exact b01_01 | exact Or.inl rfl | exact Or.inr rfl | ((try simp (disch := omega) only [kd0, kd1, kd2, kd3, kd4, kd5, kd6, kd7, kd8, kd9, kd10, kd11, kd12, kd13, kd14, kd15, kd16, kd17, kd18, kd19, kd20, kd21, kd22, kd23, kd24, kd25, kd26, kd27, kd28, kd29, kd30, kd31, kd32, kd33, kd34, kd35, kd36, kd37, kd38, kd39, kd40, kd41, kd42, kd43, kd44, kd45, kd46, kd47, kd48, kd49, kd50, kd51, kd52, kd53, kd54, kd55, kd56, kd57, kd58, kd59, kd60, kd61, kd62, kd63, kd64, kd65, kd66, kd67, kd68, ln2, ln3, ln5, ln6, ln7, ln10, ln13, ln16, ln19, ln22, ln24, ln25, ln27, ln28, ln29, ln32, ln35, ln38, ln41, ln44, ln46, ln48, ln50, ln52, ln54, ln55, ln56, ln57, ln58, ln59, ln60, ln61, ln62, ln63, ln67, ln68, i0, i1, cl_nI, lt_F, le_F, eq_F, not_false_eq_true]) <;> omega) | fail) only [p63_13, p63_14, p63_14n, p63_15, p63_18, p63_38, p63_39, ↓reduceIte, Nat.reduceAdd, Nat.reduceMul, Nat.reduceSub, i0, i1, i2, i3, i4, i5, i6, i7, i8, i9, i10, i14, i15, i16, i18, i20, i21, i23, i28, i31, i32, i33, i38, i40, i41, i48, i49, i51, i57, i60, i61, i62, i63, i97, i99, i100, i110, i124, i127, i140, i199, i200, i278, i286, i294, i394, i399, i1000, i1099, lt_T, lt_F, le_T, le_F, eq_T, eq_F, nI_add, pk_mul, pk_sub, nI_m1, cl_nI, dm_up_n1, dm_up_eq, dm_up_n2, not_true_eq_false, not_false_eq_true, if_true, if_false, true_and, and_true, false_and, and_false, true_or, or_true, false_or, or_false, Option.toList, List.cons_append, List.nil_append, b01_01, b01_T, b01_F, b01_n0, b01_n1, ite_self, pk_div, pk_rem, nI_shrA, nI_bt, nI_bt0, nI_bt1, t_hasBit, nsc, Nat.add_sub_cancel_left, Nat.add_sub_cancel, hs]
      | succ r ih =>
        intro i hi h1
        have hS1 := hS i (Or.inl (by omega))
        have e2 : sameF A B i = false := by unfold sameF; rw [if_neg hl]
        rw [e2] at hS1
        rw [← ih (i + 1) (by omega) (by omega), p63_13]
        simp (disch := first | assumption | exact b01_01 | exact Or.inl rfl | exact Or.inr rfl | ((try simp (disch := omega) only [kd0, kd1, kd2, kd3, kd4, kd5, kd6, kd7, kd8, kd9, kd10, kd11, kd12, kd13, kd14, kd15, kd16, kd17, kd18, kd19, kd20, kd21, kd22, kd23, kd24, kd25, kd26, kd27, kd28, kd29, kd30, kd31, kd32, kd33, kd34, kd35, kd36, kd37, kd38, kd39, kd40, kd41, kd42, kd43, kd44, kd45, kd46, kd47, kd48, kd49, kd50, kd51, kd52, kd53, kd54, kd55, kd56, kd57, kd58, kd59, kd60, kd61, kd62, kd63, kd64, kd65, kd66, kd67, kd68, ln2, ln3, ln5, ln6, ln7, ln10, ln13, ln16, ln19, ln22, ln24, ln25, ln27, ln28, ln29, ln32, ln35, ln38, ln41, ln44, ln46, ln48, ln50, ln52, ln54, ln55, ln56, ln57, ln58, ln59, ln60, ln61, ln62, ln63, ln67, ln68, i0, i1, cl_nI, lt_F, le_F, eq_F, not_false_eq_true]) <;> omega) | fail) only [p63_14, p63_14n, p63_15, p63_18, p63_21, p63_21n, p63_22, p63_22n, p63_23, p63_24, p63_27, p63_30, p63_31, p63_32, p63_35, ↓reduceIte, Nat.reduceAdd, Nat.reduceMul, Nat.reduceSub, i0, i1, i2, i3, i4, i5, i6, i7, i8, i9, i10, i14, i15, i16, i18, i20, i21, i23, i28, i31, i32, i33, i38, i40, i41, i48, i49, i51, i57, i60, i61, i62, i63, i97, i99, i100, i110, i124, i127, i140, i199, i200, i278, i286, i294, i394, i399, i1000, i1099, lt_T, lt_F, le_T, le_F, eq_T, eq_F, nI_add, pk_mul, pk_sub, nI_m1, cl_nI, dm_up_n1, dm_up_eq, dm_up_n2, not_true_eq_false, not_false_eq_true, if_true, if_false, true_and, and_true, false_and, and_false, true_or, or_true, false_or, or_false, Option.toList, List.cons_append, List.nil_append, b01_01, b01_T, b01_F, b01_n0, b01_n1, ite_self, pk_div, pk_rem, nI_shrA, nI_bt, nI_bt0, nI_bt1, t_hasBit, nsc, Nat.add_sub_cancel_left, Nat.add_sub_cancel, hs, hS1, Bool.toNat_false]
    rw [Bool.toNat_false, ← key (max A.length 1 - 1) 1 (by omega) (Nat.le_refl _)]
    simp (disch := first | assumption | exact b01_01 | exact Or.inl rfl | exact Or.inr rfl | ((try simp (disch := omega) only [kd0, kd1, kd2, kd3, kd4, kd5, kd6, kd7, kd8, kd9, kd10, kd11, kd12, kd13, kd14, kd15, kd16, kd17, kd18, kd19, kd20, kd21, kd22, kd23, kd24, kd25, kd26, kd27, kd28, kd29, kd30, kd31, kd32, kd33, kd34, kd35, kd36, kd37, kd38, kd39, kd40, kd41, kd42, kd43, kd44, kd45, kd46, kd47, kd48, kd49, kd50, kd51, kd52, kd53, kd54, kd55, kd56, kd57, kd58, kd59, kd60, kd61, kd62, kd63, kd64, kd65, kd66, kd67, kd68, ln2, ln3, ln5, ln6, ln7, ln10, ln13, ln16, ln19, ln22, ln24, ln25, ln27, ln28, ln29, ln32, ln35, ln38, ln41, ln44, ln46, ln48, ln50, ln52, ln54, ln55, ln56, ln57, ln58, ln59, ln60, ln61, ln62, ln63, ln67, ln68, i0, i1, cl_nI, lt_F, le_F, eq_F, not_false_eq_true]) <;> omega) | fail) only [p63_0, p63_0n, p63_1, p63_1n, p63_2, p63_3, p63_6, p63_9, p63_10, p63_11, p63_12, ↓reduceIte, Nat.reduceAdd, Nat.reduceMul, Nat.reduceSub, i0, i1, i2, i3, i4, i5, i6, i7, i8, i9, i10, i14, i15, i16, i18, i20, i21, i23, i28, i31, i32, i33, i38, i40, i41, i48, i49, i51, i57, i60, i61, i62, i63, i97, i99, i100, i110, i124, i127, i140, i199, i200, i278, i286, i294, i394, i399, i1000, i1099, lt_T, lt_F, le_T, le_F, eq_T, eq_F, nI_add, pk_mul, pk_sub, nI_m1, cl_nI, dm_up_n1, dm_up_eq, dm_up_n2, not_true_eq_false, not_false_eq_true, if_true, if_false, true_and, and_true, false_and, and_false, true_or, or_true, false_or, or_false, Option.toList, List.cons_append, List.nil_append, b01_01, b01_T, b01_F, b01_n0, b01_n1, ite_self, pk_div, pk_rem, nI_shrA, nI_bt, nI_bt0, nI_bt1, t_hasBit, nsc, Nat.add_sub_cancel_left, Nat.add_sub_cancel, hS0, Bool.toNat_false]
end
