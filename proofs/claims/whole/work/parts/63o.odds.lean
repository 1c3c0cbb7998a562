/-! odds, hangs: numbers -/
theorem j0 : (0 : Int64) = lN 0 := rfl
theorem j1 : (1 : Int64) = lN 1 := rfl
theorem j10 : (10 : Int64) = lN 10 := rfl
theorem lgz {a : Nat} (h : a < 2 ^ 63) : (lg_cmp (lN a) (lN 0) = nI 0) = (a = 0) := propext (by
  have := lg_cmp_eq (lN a) (lN 0)
  exact this.trans (pk_lEQ h (by decide)))
theorem lgp {a : Nat} (h : a < 2 ^ 63) : (nI 0 < lg_cmp (lN a) (lN 0)) = (0 < a) := propext (by
  have := lg_cmp_gt (lN a) (lN 0)
  exact this.trans (pk_lLT (by decide) h))
/-- in how many cases just a set has given way, by so many nails -/
def chN (W : Nat → Nat) (dd set : Nat) : Nat → Nat
  | 0 => 1
  | k + 1 => chN W dd set k * (if set.testBit k = true then 10 ^ dd - (10 - W k) ^ dd else (10 - W k) ^ dd)
def sumS (f : Nat → Nat) : Nat → Nat
  | 0 => 0
  | t + 1 => sumS f t + f t
def sumB (p : Nat → Bool) (W : Nat → Nat) (dd n : Nat) (m : Nat) : Nat := sumS (fun t => if p t = true then chN W dd t n else 0) m
theorem sumS_cong {f g : Nat → Nat} : ∀ {m : Nat}, (∀ t, t < m → f t = g t) → sumS f m = sumS g m
  | 0, _ => rfl
  | m + 1, h => by
    unfold sumS
    rw [sumS_cong (fun t ht => h t (by omega)), h m (by omega)]
theorem sumS_add {f : Nat → Nat} {a : Nat} : ∀ {b : Nat}, sumS f (a + b) = sumS f a + sumS (fun t => f (a + t)) b
  | 0 => rfl
  | b + 1 => by
    show sumS f (a + b) + f (a + b) = _
    rw [sumS_add (b := b)]
    show _ = sumS f a + (sumS (fun t => f (a + t)) b + f (a + b))
    omega
theorem sumS_mul {f : Nat → Nat} {c : Nat} : ∀ {m : Nat}, sumS (fun t => f t * c) m = sumS f m * c
  | 0 => (Nat.zero_mul c).symm
  | m + 1 => by
    show sumS (fun t => f t * c) m + f m * c = (sumS f m + f m) * c
    rw [sumS_mul, Nat.add_mul]
theorem sumS_two {f g : Nat → Nat} : ∀ {m : Nat}, sumS (fun t => f t + g t) m = sumS f m + sumS g m
  | 0 => rfl
  | m + 1 => by
    show sumS (fun t => f t + g t) m + (f m + g m) = (sumS f m + f m) + (sumS g m + g m)
    rw [sumS_two]
    omega
theorem chN_low {W : Nat → Nat} {dd n t : Nat} (ht : t < 2 ^ n) : ∀ k, k ≤ n → chN W dd (2 ^ n + t) k = chN W dd t k
  | 0, _ => rfl
  | k + 1, h => by
    unfold chN
    rw [chN_low ht k (by omega), Nat.testBit_two_pow_add_gt (by omega)]
theorem stay_le {w dd : Nat} : (10 - w) ^ dd ≤ 10 ^ dd := Nat.pow_le_pow_left (by omega) dd
theorem chN_all {W : Nat → Nat} {dd : Nat} : ∀ n, sumS (fun t => chN W dd t n) (2 ^ n) = (10 ^ dd) ^ n
  | 0 => rfl
  | n + 1 => by
    have ih := chN_all (W := W) (dd := dd) n
    rw [Nat.pow_succ, Nat.mul_two, sumS_add]
    have e1 : sumS (fun t => chN W dd t (n + 1)) (2 ^ n) = sumS (fun t => chN W dd t n) (2 ^ n) * (10 - W n) ^ dd := by
      rw [← sumS_mul]
      refine sumS_cong (fun t ht => ?_)
      show chN W dd t n * _ = _
      rw [Nat.testBit_lt_two_pow ht]
      rfl
    have e2 : sumS (fun t => chN W dd (2 ^ n + t) (n + 1)) (2 ^ n) = sumS (fun t => chN W dd t n) (2 ^ n) * (10 ^ dd - (10 - W n) ^ dd) := by
      rw [← sumS_mul]
      refine sumS_cong (fun t ht => ?_)
      show chN W dd (2 ^ n + t) n * _ = _
      have hb : (2 ^ n + t).testBit n = true := by
        rw [Nat.testBit_two_pow_add_eq, Nat.testBit_lt_two_pow ht]
        rfl
      rw [chN_low ht n (Nat.le_refl _), hb, if_pos rfl]
    have hs : (10 - W n) ^ dd ≤ 10 ^ dd := stay_le
    rw [e1, e2, ih, ← Nat.mul_add, show (10 - W n) ^ dd + (10 ^ dd - (10 - W n) ^ dd) = 10 ^ dd by omega, ← Nat.pow_succ]
theorem sumB_split {p : Nat → Bool} {W : Nat → Nat} {dd n : Nat} : sumB p W dd n (2 ^ n) + sumB (fun t => !p t) W dd n (2 ^ n) = (10 ^ dd) ^ n := by
  unfold sumB
  rw [← chN_all (W := W), ← sumS_two]
  refine sumS_cong (fun t _ => ?_)
  dsimp only
  by_cases hp : p t = true
  · rw [if_pos hp, if_neg (by rw [hp]; decide)]; rfl
  · rw [if_neg hp, if_pos (by rw [Bool.eq_false_iff.mpr hp]; rfl)]; exact Nat.zero_add _
theorem low_lt : ∀ dd, dd < 4 → ∀ n, n < 5 → (10 ^ dd) ^ n < 2 ^ 40 ∧ 0 < (10 ^ dd) ^ n ∧ 10 ^ dd < 2 ^ 40 := by decide +kernel
def lowF (S L part : Nat) : Int64 := lN ((if part = 0 then S else L) / Nat.gcd S L)
def f_likely (b : Bd) (c : Cd) (g : Bool) (dd part : Nat) : Int64 := lowF (sumB (fun t => flC (bN b) c t == g) (bW b) dd (bN b) (2 ^ bN b)) ((10 ^ dd) ^ bN b) part
def NOv : Int64 := -9223372036854775808
def f_odds (b : Bd) (x y : Int32) : Int64 := match ixo x (bC b).length with
  | none => NOv
  | some i => match ixo y 2 with
    | none => NOv
    | some p => f_likely b (bCd b i) true 1 p
def f_hangs (b : Bd) (x y z : Int32) : Int64 := match ixo x (bC b).length with
  | none => NOv
  | some i => match ixo y 4 with
    | none => NOv
    | some dd => match ixo z 2 with
      | none => NOv
      | some p => f_likely b (bCd b i) false dd p
section
variable {d i j n w : Nat} {x y z : Int32} {M : dm_M} {Q : Option Value → dm_M → Prop} {s : Sg} {f : Bool}
theorem pw_loop {b e : Nat} (he : e < 1000) : ∀ (r k : Nat), k + r = e → (dm_wp d 78 5 [some (.long (lN b)), none, some (.int (nI e)), some (.long (lN (b ^ k))), none, some (.int (nI k))] [] M Q ↔ Q (some (.long (lN (b ^ e)))) M) := by
  intro r
  induction r with
  | zero =>
    intro k hk
    have e1 : k = e := by omega
    subst e1
    simp (disch := first | assumption | exact b01_01 | exact Or.inl rfl | exact Or.inr rfl | ((try simp (disch := omega) only [kd0, kd1, kd2, kd3, kd4, kd5, kd6, kd7, kd8, kd9, kd10, kd11, kd12, kd13, kd14, kd15, kd16, kd17, kd18, kd19, kd20, kd21, kd22, kd23, kd24, kd25, kd26, kd27, kd28, kd29, kd30, kd31, kd32, kd33, kd34, kd35, kd36, kd37, kd38, kd39, kd40, kd41, kd42, kd43, kd44, kd45, kd46, kd47, kd48, kd49, kd50, kd51, kd52, kd53, kd54, kd55, kd56, kd57, kd58, kd59, kd60, kd61, kd62, kd63, kd64, kd65, kd66, kd67, kd68, ln2, ln3, ln5, ln6, ln7, ln10, ln13, ln16, ln19, ln22, ln24, ln25, ln27, ln28, ln29, ln32, ln35, ln38, ln41, ln44, ln46, ln48, ln50, ln52, ln54, ln55, ln56, ln57, ln58, ln59, ln60, ln61, ln62, ln63, ln67, ln68, i0, i1, cl_nI, lt_F, le_F, eq_F, not_false_eq_true]) <;> omega) | fail) only [p78_0, p78_1, p78_2, p78_3, p78_5, p78_7, p78_8, p78_11, p78_12, p78_13, p78_14, p78_15, p78_18, p78_21, p78_22, ↓reduceIte, Nat.reduceAdd, Nat.reduceMul, Nat.reduceSub, i0, i1, i2, i3, i4, i5, i6, i7, i8, i9, i10, i14, i15, i16, i18, i20, i21, i23, i28, i31, i32, i33, i38, i40, i41, i48, i49, i51, i57, i60, i61, i62, i63, i97, i99, i100, i110, i124, i127, i140, i199, i200, i278, i286, i294, i394, i399, i1000, i1099, lt_T, lt_F, le_T, le_F, eq_T, eq_F, nI_add, pk_mul, pk_sub, nI_m1, cl_nI, dm_up_n1, dm_up_eq, dm_up_n2, not_true_eq_false, not_false_eq_true, if_true, if_false, true_and, and_true, false_and, and_false, true_or, or_true, false_or, or_false, Option.toList, List.cons_append, List.nil_append, b01_01, b01_T, b01_F, b01_n0, b01_n1, ite_self, pk_div, pk_rem, nI_shrA, nI_bt, nI_bt0, nI_bt1, t_hasBit, nsc, Nat.add_sub_cancel_left, Nat.add_sub_cancel]
  | succ r ih =>
    intro k hk
    have ih := ih (k + 1) (by omega)
    rw [Nat.pow_succ] at ih
    rw [← ih, p78_5]
    simp (disch := first | assumption | exact b01_01 | exact Or.inl rfl | exact Or.inr rfl | ((try simp (disch := omega) only [kd0, kd1, kd2, kd3, kd4, kd5, kd6, kd7, kd8, kd9, kd10, kd11, kd12, kd13, kd14, kd15, kd16, kd17, kd18, kd19, kd20, kd21, kd22, kd23, kd24, kd25, kd26, kd27, kd28, kd29, kd30, kd31, kd32, kd33, kd34, kd35, kd36, kd37, kd38, kd39, kd40, kd41, kd42, kd43, kd44, kd45, kd46, kd47, kd48, kd49, kd50, kd51, kd52, kd53, kd54, kd55, kd56, kd57, kd58, kd59, kd60, kd61, kd62, kd63, kd64, kd65, kd66, kd67, kd68, ln2, ln3, ln5, ln6, ln7, ln10, ln13, ln16, ln19, ln22, ln24, ln25, ln27, ln28, ln29, ln32, ln35, ln38, ln41, ln44, ln46, ln48, ln50, ln52, ln54, ln55, ln56, ln57, ln58, ln59, ln60, ln61, ln62, ln63, ln67, ln68, i0, i1, cl_nI, lt_F, le_F, eq_F, not_false_eq_true]) <;> omega) | fail) only [p78_7, p78_8, p78_11, p78_12, p78_13, p78_14, p78_15, p78_18, ↓reduceIte, Nat.reduceAdd, Nat.reduceMul, Nat.reduceSub, i0, i1, i2, i3, i4, i5, i6, i7, i8, i9, i10, i14, i15, i16, i18, i20, i21, i23, i28, i31, i32, i33, i38, i40, i41, i48, i49, i51, i57, i60, i61, i62, i63, i97, i99, i100, i110, i124, i127, i140, i199, i200, i278, i286, i294, i394, i399, i1000, i1099, lt_T, lt_F, le_T, le_F, eq_T, eq_F, nI_add, pk_mul, pk_sub, nI_m1, cl_nI, dm_up_n1, dm_up_eq, dm_up_n2, not_true_eq_false, not_false_eq_true, if_true, if_false, true_and, and_true, false_and, and_false, true_or, or_true, false_or, or_false, Option.toList, List.cons_append, List.nil_append, b01_01, b01_T, b01_F, b01_n0, b01_n1, ite_self, pk_div, pk_rem, nI_shrA, nI_bt, nI_bt0, nI_bt1, t_hasBit, nsc, Nat.add_sub_cancel_left, Nat.add_sub_cancel, lN_mul]
theorem t_power {b e : Nat} (he : e < 1000) : dm_cp d 78 [.long (lN b), .int (nI e)] M Q ↔ Q (some (.long (lN (b ^ e)))) M := by
  rw [e78, ← pw_loop (d := d) (M := M) (Q := Q) (b := b) he e 0 (Nat.zero_add _)]
  simp (disch := first | assumption | exact b01_01 | exact Or.inl rfl | exact Or.inr rfl | ((try simp (disch := omega) only [kd0, kd1, kd2, kd3, kd4, kd5, kd6, kd7, kd8, kd9, kd10, kd11, kd12, kd13, kd14, kd15, kd16, kd17, kd18, kd19, kd20, kd21, kd22, kd23, kd24, kd25, kd26, kd27, kd28, kd29, kd30, kd31, kd32, kd33, kd34, kd35, kd36, kd37, kd38, kd39, kd40, kd41, kd42, kd43, kd44, kd45, kd46, kd47, kd48, kd49, kd50, kd51, kd52, kd53, kd54, kd55, kd56, kd57, kd58, kd59, kd60, kd61, kd62, kd63, kd64, kd65, kd66, kd67, kd68, ln2, ln3, ln5, ln6, ln7, ln10, ln13, ln16, ln19, ln22, ln24, ln25, ln27, ln28, ln29, ln32, ln35, ln38, ln41, ln44, ln46, ln48, ln50, ln52, ln54, ln55, ln56, ln57, ln58, ln59, ln60, ln61, ln62, ln63, ln67, ln68, i0, i1, cl_nI, lt_F, le_F, eq_F, not_false_eq_true]) <;> omega) | fail) only [p78_0, p78_1, p78_2, p78_3, ↓reduceIte, Nat.reduceAdd, Nat.reduceMul, Nat.reduceSub, i0, i1, i2, i3, i4, i5, i6, i7, i8, i9, i10, i14, i15, i16, i18, i20, i21, i23, i28, i31, i32, i33, i38, i40, i41, i48, i49, i51, i57, i60, i61, i62, i63, i97, i99, i100, i110, i124, i127, i140, i199, i200, i278, i286, i294, i394, i399, i1000, i1099, lt_T, lt_F, le_T, le_F, eq_T, eq_F, nI_add, pk_mul, pk_sub, nI_m1, cl_nI, dm_up_n1, dm_up_eq, dm_up_n2, not_true_eq_false, not_false_eq_true, if_true, if_false, true_and, and_true, false_and, and_false, true_or, or_true, false_or, or_false, Option.toList, List.cons_append, List.nil_append, b01_01, b01_T, b01_F, b01_n0, b01_n1, ite_self, pk_div, pk_rem, nI_shrA, nI_bt, nI_bt0, nI_bt1, t_hasBit, nsc, Nat.add_sub_cancel_left, Nat.add_sub_cancel, j1]
  exact Iff.rfl
theorem mpw_loop {b e : Nat} (he : e < 1000) : ∀ (r k : Nat), k + r = e → (dm_wp d 162 5 [some (.long (lN b)), none, some (.int (nI e)), some (.long (lN (b ^ k))), none, some (.int (nI k))] [] M Q ↔ Q (some (.long (lN (b ^ e)))) M) := by
  intro r
  induction r with
  | zero =>
    intro k hk
    have e1 : k = e := by omega
    subst e1
    simp (disch := first | assumption | exact b01_01 | exact Or.inl rfl | exact Or.inr rfl | ((try simp (disch := omega) only [kd0, kd1, kd2, kd3, kd4, kd5, kd6, kd7, kd8, kd9, kd10, kd11, kd12, kd13, kd14, kd15, kd16, kd17, kd18, kd19, kd20, kd21, kd22, kd23, kd24, kd25, kd26, kd27, kd28, kd29, kd30, kd31, kd32, kd33, kd34, kd35, kd36, kd37, kd38, kd39, kd40, kd41, kd42, kd43, kd44, kd45, kd46, kd47, kd48, kd49, kd50, kd51, kd52, kd53, kd54, kd55, kd56, kd57, kd58, kd59, kd60, kd61, kd62, kd63, kd64, kd65, kd66, kd67, kd68, ln2, ln3, ln5, ln6, ln7, ln10, ln13, ln16, ln19, ln22, ln24, ln25, ln27, ln28, ln29, ln32, ln35, ln38, ln41, ln44, ln46, ln48, ln50, ln52, ln54, ln55, ln56, ln57, ln58, ln59, ln60, ln61, ln62, ln63, ln67, ln68, i0, i1, cl_nI, lt_F, le_F, eq_F, not_false_eq_true]) <;> omega) | fail) only [p162_0, p162_1, p162_2, p162_3, p162_5, p162_7, p162_8, p162_11, p162_12, p162_13, p162_14, p162_15, p162_18, p162_21, p162_22, ↓reduceIte, Nat.reduceAdd, Nat.reduceMul, Nat.reduceSub, i0, i1, i2, i3, i4, i5, i6, i7, i8, i9, i10, i14, i15, i16, i18, i20, i21, i23, i28, i31, i32, i33, i38, i40, i41, i48, i49, i51, i57, i60, i61, i62, i63, i97, i99, i100, i110, i124, i127, i140, i199, i200, i278, i286, i294, i394, i399, i1000, i1099, lt_T, lt_F, le_T, le_F, eq_T, eq_F, nI_add, pk_mul, pk_sub, nI_m1, cl_nI, dm_up_n1, dm_up_eq, dm_up_n2, not_true_eq_false, not_false_eq_true, if_true, if_false, true_and, and_true, false_and, and_false, true_or, or_true, false_or, or_false, Option.toList, List.cons_append, List.nil_append, b01_01, b01_T, b01_F, b01_n0, b01_n1, ite_self, pk_div, pk_rem, nI_shrA, nI_bt, nI_bt0, nI_bt1, t_hasBit, nsc, Nat.add_sub_cancel_left, Nat.add_sub_cancel]
  | succ r ih =>
    intro k hk
    have ih := ih (k + 1) (by omega)
    rw [Nat.pow_succ] at ih
    rw [← ih, p162_5]
    simp (disch := first | assumption | exact b01_01 | exact Or.inl rfl | exact Or.inr rfl | ((try simp (disch := omega) only [kd0, kd1, kd2, kd3, kd4, kd5, kd6, kd7, kd8, kd9, kd10, kd11, kd12, kd13, kd14, kd15, kd16, kd17, kd18, kd19, kd20, kd21, kd22, kd23, kd24, kd25, kd26, kd27, kd28, kd29, kd30, kd31, kd32, kd33, kd34, kd35, kd36, kd37, kd38, kd39, kd40, kd41, kd42, kd43, kd44, kd45, kd46, kd47, kd48, kd49, kd50, kd51, kd52, kd53, kd54, kd55, kd56, kd57, kd58, kd59, kd60, kd61, kd62, kd63, kd64, kd65, kd66, kd67, kd68, ln2, ln3, ln5, ln6, ln7, ln10, ln13, ln16, ln19, ln22, ln24, ln25, ln27, ln28, ln29, ln32, ln35, ln38, ln41, ln44, ln46, ln48, ln50, ln52, ln54, ln55, ln56, ln57, ln58, ln59, ln60, ln61, ln62, ln63, ln67, ln68, i0, i1, cl_nI, lt_F, le_F, eq_F, not_false_eq_true]) <;> omega) | fail) only [p162_7, p162_8, p162_11, p162_12, p162_13, p162_14, p162_15, p162_18, ↓reduceIte, Nat.reduceAdd, Nat.reduceMul, Nat.reduceSub, i0, i1, i2, i3, i4, i5, i6, i7, i8, i9, i10, i14, i15, i16, i18, i20, i21, i23, i28, i31, i32, i33, i38, i40, i41, i48, i49, i51, i57, i60, i61, i62, i63, i97, i99, i100, i110, i124, i127, i140, i199, i200, i278, i286, i294, i394, i399, i1000, i1099, lt_T, lt_F, le_T, le_F, eq_T, eq_F, nI_add, pk_mul, pk_sub, nI_m1, cl_nI, dm_up_n1, dm_up_eq, dm_up_n2, not_true_eq_false, not_false_eq_true, if_true, if_false, true_and, and_true, false_and, and_false, true_or, or_true, false_or, or_false, Option.toList, List.cons_append, List.nil_append, b01_01, b01_T, b01_F, b01_n0, b01_n1, ite_self, pk_div, pk_rem, nI_shrA, nI_bt, nI_bt0, nI_bt1, t_hasBit, nsc, Nat.add_sub_cancel_left, Nat.add_sub_cancel, lN_mul]
theorem t_Mpower {b e : Nat} (he : e < 1000) : dm_cp d 162 [.long (lN b), .int (nI e)] M Q ↔ Q (some (.long (lN (b ^ e)))) M := by
  rw [e162, ← mpw_loop (d := d) (M := M) (Q := Q) (b := b) he e 0 (Nat.zero_add _)]
  simp (disch := first | assumption | exact b01_01 | exact Or.inl rfl | exact Or.inr rfl | ((try simp (disch := omega) only [kd0, kd1, kd2, kd3, kd4, kd5, kd6, kd7, kd8, kd9, kd10, kd11, kd12, kd13, kd14, kd15, kd16, kd17, kd18, kd19, kd20, kd21, kd22, kd23, kd24, kd25, kd26, kd27, kd28, kd29, kd30, kd31, kd32, kd33, kd34, kd35, kd36, kd37, kd38, kd39, kd40, kd41, kd42, kd43, kd44, kd45, kd46, kd47, kd48, kd49, kd50, kd51, kd52, kd53, kd54, kd55, kd56, kd57, kd58, kd59, kd60, kd61, kd62, kd63, kd64, kd65, kd66, kd67, kd68, ln2, ln3, ln5, ln6, ln7, ln10, ln13, ln16, ln19, ln22, ln24, ln25, ln27, ln28, ln29, ln32, ln35, ln38, ln41, ln44, ln46, ln48, ln50, ln52, ln54, ln55, ln56, ln57, ln58, ln59, ln60, ln61, ln62, ln63, ln67, ln68, i0, i1, cl_nI, lt_F, le_F, eq_F, not_false_eq_true]) <;> omega) | fail) only [p162_0, p162_1, p162_2, p162_3, ↓reduceIte, Nat.reduceAdd, Nat.reduceMul, Nat.reduceSub, i0, i1, i2, i3, i4, i5, i6, i7, i8, i9, i10, i14, i15, i16, i18, i20, i21, i23, i28, i31, i32, i33, i38, i40, i41, i48, i49, i51, i57, i60, i61, i62, i63, i97, i99, i100, i110, i124, i127, i140, i199, i200, i278, i286, i294, i394, i399, i1000, i1099, lt_T, lt_F, le_T, le_F, eq_T, eq_F, nI_add, pk_mul, pk_sub, nI_m1, cl_nI, dm_up_n1, dm_up_eq, dm_up_n2, not_true_eq_false, not_false_eq_true, if_true, if_false, true_and, and_true, false_and, and_false, true_or, or_true, false_or, or_false, Option.toList, List.cons_append, List.nil_append, b01_01, b01_T, b01_F, b01_n0, b01_n1, ite_self, pk_div, pk_rem, nI_shrA, nI_bt, nI_bt0, nI_bt1, t_hasBit, nsc, Nat.add_sub_cancel_left, Nat.add_sub_cancel, j1]
  exact Iff.rfl
theorem half_mod {a b : Nat} (h : 0 < a % b) (hb : 0 < b) : 2 * (b % (a % b)) < b := by
  have h1 : a % b < b := Nat.mod_lt _ hb
  have h2 : b % (a % b) < a % b := Nat.mod_lt _ h
  have h3 := Nat.div_add_mod b (a % b)
  have h4 : 1 ≤ b / (a % b) := Nat.div_pos (by omega) h
  have h5 : a % b * 1 ≤ a % b * (b / (a % b)) := Nat.mul_le_mul_left _ h4
  omega
theorem gcd_s {a b : Nat} : Nat.gcd b (a % b) = Nat.gcd a b := by
  rw [Nat.gcd_comm a b, Nat.gcd_rec b a, Nat.gcd_comm]
theorem co_loop {l0 l2 : Int64} : ∀ (k r i one other : Nat) (l9 l10 : Option Value), i + r = 1000 → 2 * k ≤ r → one < 2 ^ 62 → other < 2 ^ k → k ≤ 62 → (l10 = none) →
    (dm_wp d 79 9 [some (.long l0), none, some (.long l2), none, some (.long (lN one)), none, some (.long (lN other)), none, some (.int (nI i)), l9, l10] [] M Q ↔ Q (some (.long (lN (Nat.gcd one other)))) M) := by
  have hz : ∀ (i one : Nat) (l9 l10 : Option Value), i ≤ 1000 → (dm_wp d 79 9 [some (.long l0), none, some (.long l2), none, some (.long (lN one)), none, some (.long (lN 0)), none, some (.int (nI i)), l9, l10] [] M Q ↔ Q (some (.long (lN (Nat.gcd one 0)))) M) := by
    intro i one l9 l10 hi
    rw [Nat.gcd_zero_right]
    have hlg : (lg_cmp (lN 0) (lN 0) = nI 0) = True := (lgz (by decide)).trans (eq_true rfl)
    by_cases hi2 : i < 1000
    · simp (disch := first | assumption | exact b01_01 | exact Or.inl rfl | exact Or.inr rfl | ((try simp (disch := omega) only [kd0, kd1, kd2, kd3, kd4, kd5, kd6, kd7, kd8, kd9, kd10, kd11, kd12, kd13, kd14, kd15, kd16, kd17, kd18, kd19, kd20, kd21, kd22, kd23, kd24, kd25, kd26, kd27, kd28, kd29, kd30, kd31, kd32, kd33, kd34, kd35, kd36, kd37, kd38, kd39, kd40, kd41, kd42, kd43, kd44, kd45, kd46, kd47, kd48, kd49, kd50, kd51, kd52, kd53, kd54, kd55, kd56, kd57, kd58, kd59, kd60, kd61, kd62, kd63, kd64, kd65, kd66, kd67, kd68, ln2, ln3, ln5, ln6, ln7, ln10, ln13, ln16, ln19, ln22, ln24, ln25, ln27, ln28, ln29, ln32, ln35, ln38, ln41, ln44, ln46, ln48, ln50, ln52, ln54, ln55, ln56, ln57, ln58, ln59, ln60, ln61, ln62, ln63, ln67, ln68, i0, i1, cl_nI, lt_F, le_F, eq_F, not_false_eq_true]) <;> omega) | fail) only [p79_9, p79_11, p79_14, p79_17, p79_19, p79_20, p79_21, p79_24, p79_26, p79_28, p79_29, p79_31, p79_33, p79_35, p79_37, p79_39, p79_42, p79_45, p79_47, ↓reduceIte, Nat.reduceAdd, Nat.reduceMul, Nat.reduceSub, i0, i1, i2, i3, i4, i5, i6, i7, i8, i9, i10, i14, i15, i16, i18, i20, i21, i23, i28, i31, i32, i33, i38, i40, i41, i48, i49, i51, i57, i60, i61, i62, i63, i97, i99, i100, i110, i124, i127, i140, i199, i200, i278, i286, i294, i394, i399, i1000, i1099, lt_T, lt_F, le_T, le_F, eq_T, eq_F, nI_add, pk_mul, pk_sub, nI_m1, cl_nI, dm_up_n1, dm_up_eq, dm_up_n2, not_true_eq_false, not_false_eq_true, if_true, if_false, true_and, and_true, false_and, and_false, true_or, or_true, false_or, or_false, Option.toList, List.cons_append, List.nil_append, b01_01, b01_T, b01_F, b01_n0, b01_n1, ite_self, pk_div, pk_rem, nI_shrA, nI_bt, nI_bt0, nI_bt1, t_hasBit, nsc, Nat.add_sub_cancel_left, Nat.add_sub_cancel, j0, hlg]
    · simp (disch := first | assumption | exact b01_01 | exact Or.inl rfl | exact Or.inr rfl | ((try simp (disch := omega) only [kd0, kd1, kd2, kd3, kd4, kd5, kd6, kd7, kd8, kd9, kd10, kd11, kd12, kd13, kd14, kd15, kd16, kd17, kd18, kd19, kd20, kd21, kd22, kd23, kd24, kd25, kd26, kd27, kd28, kd29, kd30, kd31, kd32, kd33, kd34, kd35, kd36, kd37, kd38, kd39, kd40, kd41, kd42, kd43, kd44, kd45, kd46, kd47, kd48, kd49, kd50, kd51, kd52, kd53, kd54, kd55, kd56, kd57, kd58, kd59, kd60, kd61, kd62, kd63, kd64, kd65, kd66, kd67, kd68, ln2, ln3, ln5, ln6, ln7, ln10, ln13, ln16, ln19, ln22, ln24, ln25, ln27, ln28, ln29, ln32, ln35, ln38, ln41, ln44, ln46, ln48, ln50, ln52, ln54, ln55, ln56, ln57, ln58, ln59, ln60, ln61, ln62, ln63, ln67, ln68, i0, i1, cl_nI, lt_F, le_F, eq_F, not_false_eq_true]) <;> omega) | fail) only [p79_9, p79_11, p79_14, p79_45, p79_47, ↓reduceIte, Nat.reduceAdd, Nat.reduceMul, Nat.reduceSub, i0, i1, i2, i3, i4, i5, i6, i7, i8, i9, i10, i14, i15, i16, i18, i20, i21, i23, i28, i31, i32, i33, i38, i40, i41, i48, i49, i51, i57, i60, i61, i62, i63, i97, i99, i100, i110, i124, i127, i140, i199, i200, i278, i286, i294, i394, i399, i1000, i1099, lt_T, lt_F, le_T, le_F, eq_T, eq_F, nI_add, pk_mul, pk_sub, nI_m1, cl_nI, dm_up_n1, dm_up_eq, dm_up_n2, not_true_eq_false, not_false_eq_true, if_true, if_false, true_and, and_true, false_and, and_false, true_or, or_true, false_or, or_false, Option.toList, List.cons_append, List.nil_append, b01_01, b01_T, b01_F, b01_n0, b01_n1, ite_self, pk_div, pk_rem, nI_shrA, nI_bt, nI_bt0, nI_bt1, t_hasBit, nsc, Nat.add_sub_cancel_left, Nat.add_sub_cancel]
  intro k
  induction k with
  | zero =>
    intro r i one other l9 l10 hi hr ho hoth hk h10
    have e : other = 0 := by omega
    subst e
    exact hz i one l9 l10 (by omega)
  | succ k ih =>
    intro r i one other l9 l10 hi hr ho hoth hk h10
    subst h10
    have hp : 2 ^ (k + 1) = 2 * 2 ^ k := by rw [Nat.pow_succ]; omega
    have hp62 : 2 ^ (k + 1) ≤ 2 ^ 62 := Nat.pow_le_pow_right (by decide) hk
    rcases Nat.eq_zero_or_pos other with e | e
    · subst e
      exact hz i one l9 none (by omega)
    · have step : ∀ (i one other : Nat) (l9 : Option Value), i < 1000 → one < 2 ^ 62 → other < 2 ^ 62 → 0 < other →
        (dm_wp d 79 9 [some (.long l0), none, some (.long l2), none, some (.long (lN one)), none, some (.long (lN other)), none, some (.int (nI i)), l9, none] [] M Q ↔
         dm_wp d 79 9 [some (.long l0), none, some (.long l2), none, some (.long (lN other)), none, some (.long (lN (one % other))), none, some (.int (nI (i + 1))), some (.long (lN (one % other))), none] [] M Q) := by
        intro i one other l9 hi h1 h2 h3
        have hlg : (lg_cmp (lN other) (lN 0) = nI 0) = False := (lgz (by omega)).trans (eq_false (by omega))
        have hne : ¬ lN other = 0 := fun z => by have := (pk_lEQ (a := other) (b := 0) (by omega) (by decide)).mp z; omega
        have hrem : lN one - lN one / lN other * lN other = lN (one % other) := pk_lRem (by omega) h3 (by omega)
        rw [p79_9]
        simp (disch := first | assumption | exact b01_01 | exact Or.inl rfl | exact Or.inr rfl | ((try simp (disch := omega) only [kd0, kd1, kd2, kd3, kd4, kd5, kd6, kd7, kd8, kd9, kd10, kd11, kd12, kd13, kd14, kd15, kd16, kd17, kd18, kd19, kd20, kd21, kd22, kd23, kd24, kd25, kd26, kd27, kd28, kd29, kd30, kd31, kd32, kd33, kd34, kd35, kd36, kd37, kd38, kd39, kd40, kd41, kd42, kd43, kd44, kd45, kd46, kd47, kd48, kd49, kd50, kd51, kd52, kd53, kd54, kd55, kd56, kd57, kd58, kd59, kd60, kd61, kd62, kd63, kd64, kd65, kd66, kd67, kd68, ln2, ln3, ln5, ln6, ln7, ln10, ln13, ln16, ln19, ln22, ln24, ln25, ln27, ln28, ln29, ln32, ln35, ln38, ln41, ln44, ln46, ln48, ln50, ln52, ln54, ln55, ln56, ln57, ln58, ln59, ln60, ln61, ln62, ln63, ln67, ln68, i0, i1, cl_nI, lt_F, le_F, eq_F, not_false_eq_true]) <;> omega) | fail) only [p79_11, p79_14, p79_17, p79_19, p79_20, p79_21, p79_24, p79_26, p79_28, p79_29, p79_31, p79_33, p79_35, p79_37, p79_39, p79_42, ↓reduceIte, Nat.reduceAdd, Nat.reduceMul, Nat.reduceSub, i0, i1, i2, i3, i4, i5, i6, i7, i8, i9, i10, i14, i15, i16, i18, i20, i21, i23, i28, i31, i32, i33, i38, i40, i41, i48, i49, i51, i57, i60, i61, i62, i63, i97, i99, i100, i110, i124, i127, i140, i199, i200, i278, i286, i294, i394, i399, i1000, i1099, lt_T, lt_F, le_T, le_F, eq_T, eq_F, nI_add, pk_mul, pk_sub, nI_m1, cl_nI, dm_up_n1, dm_up_eq, dm_up_n2, not_true_eq_false, not_false_eq_true, if_true, if_false, true_and, and_true, false_and, and_false, true_or, or_true, false_or, or_false, Option.toList, List.cons_append, List.nil_append, b01_01, b01_T, b01_F, b01_n0, b01_n1, ite_self, pk_div, pk_rem, nI_shrA, nI_bt, nI_bt0, nI_bt1, t_hasBit, nsc, Nat.add_sub_cancel_left, Nat.add_sub_cancel, j0, hlg, hrem]
      rw [step i one other l9 (by omega) ho (by omega) e]
      have hm : one % other < other := Nat.mod_lt _ e
      rcases Nat.eq_zero_or_pos (one % other) with e2 | e2
      · have eg : Nat.gcd one other = Nat.gcd other 0 := by rw [← gcd_s, e2]
        rw [e2, hz (i + 1) other _ none (by omega), eg]
      · rw [step (i + 1) other (one % other) _ (by omega) (by omega) (by omega) e2]
        have hhalf := half_mod e2 e
        rw [ih (r - 2) (i + 1 + 1) (one % other) (other % (one % other)) _ _ (by omega) (by omega) (by omega) (by omega) (by omega) rfl, gcd_s, gcd_s]
theorem t_common {a b : Nat} (ha : a < 2 ^ 62) (hb : b < 2 ^ 62) : dm_cp d 79 [.long (lN a), .long (lN b)] M Q ↔ Q (some (.long (lN (Nat.gcd a b)))) M := by
  rw [e79, ← co_loop (d := d) (M := M) (Q := Q) (l0 := lN a) (l2 := lN b) 62 1000 0 a b none none (by decide) (by decide) ha hb (by decide) rfl]
  simp (disch := first | assumption | exact b01_01 | exact Or.inl rfl | exact Or.inr rfl | ((try simp (disch := omega) only [kd0, kd1, kd2, kd3, kd4, kd5, kd6, kd7, kd8, kd9, kd10, kd11, kd12, kd13, kd14, kd15, kd16, kd17, kd18, kd19, kd20, kd21, kd22, kd23, kd24, kd25, kd26, kd27, kd28, kd29, kd30, kd31, kd32, kd33, kd34, kd35, kd36, kd37, kd38, kd39, kd40, kd41, kd42, kd43, kd44, kd45, kd46, kd47, kd48, kd49, kd50, kd51, kd52, kd53, kd54, kd55, kd56, kd57, kd58, kd59, kd60, kd61, kd62, kd63, kd64, kd65, kd66, kd67, kd68, ln2, ln3, ln5, ln6, ln7, ln10, ln13, ln16, ln19, ln22, ln24, ln25, ln27, ln28, ln29, ln32, ln35, ln38, ln41, ln44, ln46, ln48, ln50, ln52, ln54, ln55, ln56, ln57, ln58, ln59, ln60, ln61, ln62, ln63, ln67, ln68, i0, i1, cl_nI, lt_F, le_F, eq_F, not_false_eq_true]) <;> omega) | fail) only [p79_0, p79_1, p79_3, p79_4, p79_6, p79_7, ↓reduceIte, Nat.reduceAdd, Nat.reduceMul, Nat.reduceSub, i0, i1, i2, i3, i4, i5, i6, i7, i8, i9, i10, i14, i15, i16, i18, i20, i21, i23, i28, i31, i32, i33, i38, i40, i41, i48, i49, i51, i57, i60, i61, i62, i63, i97, i99, i100, i110, i124, i127, i140, i199, i200, i278, i286, i294, i394, i399, i1000, i1099, lt_T, lt_F, le_T, le_F, eq_T, eq_F, nI_add, pk_mul, pk_sub, nI_m1, cl_nI, dm_up_n1, dm_up_eq, dm_up_n2, not_true_eq_false, not_false_eq_true, if_true, if_false, true_and, and_true, false_and, and_false, true_or, or_true, false_or, or_false, Option.toList, List.cons_append, List.nil_append, b01_01, b01_T, b01_F, b01_n0, b01_n1, ite_self, pk_div, pk_rem, nI_shrA, nI_bt, nI_bt0, nI_bt1, t_hasBit, nsc, Nat.add_sub_cancel_left, Nat.add_sub_cancel]
theorem lo_loop {up low part : Nat} (hu : up < 2 ^ 62) (hl : low < 2 ^ 62) (hp : part < 2) : ∀ (m one other : Nat) (l9 : Option Value), other ≤ m → one < 2 ^ 62 → other < 2 ^ 62 → (0 < one ∨ 0 < other) →
    (dm_wp d 163 6 [some (.long (lN up)), none, some (.long (lN low)), none, some (.int (nI part)), some (.long (lN one)), none, some (.long (lN other)), none, l9, none] [] M Q ↔ Q (some (.long (lN ((if part = 0 then up else low) / Nat.gcd one other)))) M) := by
  intro m
  induction m with
  | zero =>
    intro one other l9 hm h1 h2 h3
    have e : other = 0 := by omega
    subst e
    have hlg : (lg_cmp (lN 0) (lN 0) = nI 0) = True := (lgz (by decide)).trans (eq_true rfl)
    have hne : ¬ lN one = 0 := fun z => by have := (pk_lEQ (a := one) (b := 0) (by omega) (by decide)).mp z; omega
    have hd1 : lN up / lN one = lN (up / one) := pk_lDiv (by omega) (by omega) (by omega)
    have hd2 : lN low / lN one = lN (low / one) := pk_lDiv (by omega) (by omega) (by omega)
    rw [Nat.gcd_zero_right]
    rcases two hp with rfl | rfl
    · simp (disch := first | assumption | exact b01_01 | exact Or.inl rfl | exact Or.inr rfl | ((try simp (disch := omega) only [kd0, kd1, kd2, kd3, kd4, kd5, kd6, kd7, kd8, kd9, kd10, kd11, kd12, kd13, kd14, kd15, kd16, kd17, kd18, kd19, kd20, kd21, kd22, kd23, kd24, kd25, kd26, kd27, kd28, kd29, kd30, kd31, kd32, kd33, kd34, kd35, kd36, kd37, kd38, kd39, kd40, kd41, kd42, kd43, kd44, kd45, kd46, kd47, kd48, kd49, kd50, kd51, kd52, kd53, kd54, kd55, kd56, kd57, kd58, kd59, kd60, kd61, kd62, kd63, kd64, kd65, kd66, kd67, kd68, ln2, ln3, ln5, ln6, ln7, ln10, ln13, ln16, ln19, ln22, ln24, ln25, ln27, ln28, ln29, ln32, ln35, ln38, ln41, ln44, ln46, ln48, ln50, ln52, ln54, ln55, ln56, ln57, ln58, ln59, ln60, ln61, ln62, ln63, ln67, ln68, i0, i1, cl_nI, lt_F, le_F, eq_F, not_false_eq_true]) <;> omega) | fail) only [p163_6, p163_8, p163_9, p163_10, p163_13, p163_15, p163_17, p163_18, p163_20, p163_22, p163_24, p163_26, p163_28, p163_31, p163_33, p163_36, p163_37, p163_40, p163_41, p163_43, p163_44, ↓reduceIte, Nat.reduceAdd, Nat.reduceMul, Nat.reduceSub, i0, i1, i2, i3, i4, i5, i6, i7, i8, i9, i10, i14, i15, i16, i18, i20, i21, i23, i28, i31, i32, i33, i38, i40, i41, i48, i49, i51, i57, i60, i61, i62, i63, i97, i99, i100, i110, i124, i127, i140, i199, i200, i278, i286, i294, i394, i399, i1000, i1099, lt_T, lt_F, le_T, le_F, eq_T, eq_F, nI_add, pk_mul, pk_sub, nI_m1, cl_nI, dm_up_n1, dm_up_eq, dm_up_n2, not_true_eq_false, not_false_eq_true, if_true, if_false, true_and, and_true, false_and, and_false, true_or, or_true, false_or, or_false, Option.toList, List.cons_append, List.nil_append, b01_01, b01_T, b01_F, b01_n0, b01_n1, ite_self, pk_div, pk_rem, nI_shrA, nI_bt, nI_bt0, nI_bt1, t_hasBit, nsc, Nat.add_sub_cancel_left, Nat.add_sub_cancel, j0, hlg, hd1]
    · simp (disch := first | assumption | exact b01_01 | exact Or.inl rfl | exact Or.inr rfl | ((try simp (disch := omega) only [kd0, kd1, kd2, kd3, kd4, kd5, kd6, kd7, kd8, kd9, kd10, kd11, kd12, kd13, kd14, kd15, kd16, kd17, kd18, kd19, kd20, kd21, kd22, kd23, kd24, kd25, kd26, kd27, kd28, kd29, kd30, kd31, kd32, kd33, kd34, kd35, kd36, kd37, kd38, kd39, kd40, kd41, kd42, kd43, kd44, kd45, kd46, kd47, kd48, kd49, kd50, kd51, kd52, kd53, kd54, kd55, kd56, kd57, kd58, kd59, kd60, kd61, kd62, kd63, kd64, kd65, kd66, kd67, kd68, ln2, ln3, ln5, ln6, ln7, ln10, ln13, ln16, ln19, ln22, ln24, ln25, ln27, ln28, ln29, ln32, ln35, ln38, ln41, ln44, ln46, ln48, ln50, ln52, ln54, ln55, ln56, ln57, ln58, ln59, ln60, ln61, ln62, ln63, ln67, ln68, i0, i1, cl_nI, lt_F, le_F, eq_F, not_false_eq_true]) <;> omega) | fail) only [p163_6, p163_8, p163_9, p163_10, p163_13, p163_15, p163_17, p163_18, p163_20, p163_22, p163_24, p163_26, p163_28, p163_31, p163_33, p163_36, p163_37, p163_40, p163_41, p163_43, p163_44, ↓reduceIte, Nat.reduceAdd, Nat.reduceMul, Nat.reduceSub, i0, i1, i2, i3, i4, i5, i6, i7, i8, i9, i10, i14, i15, i16, i18, i20, i21, i23, i28, i31, i32, i33, i38, i40, i41, i48, i49, i51, i57, i60, i61, i62, i63, i97, i99, i100, i110, i124, i127, i140, i199, i200, i278, i286, i294, i394, i399, i1000, i1099, lt_T, lt_F, le_T, le_F, eq_T, eq_F, nI_add, pk_mul, pk_sub, nI_m1, cl_nI, dm_up_n1, dm_up_eq, dm_up_n2, not_true_eq_false, not_false_eq_true, if_true, if_false, true_and, and_true, false_and, and_false, true_or, or_true, false_or, or_false, Option.toList, List.cons_append, List.nil_append, b01_01, b01_T, b01_F, b01_n0, b01_n1, ite_self, pk_div, pk_rem, nI_shrA, nI_bt, nI_bt0, nI_bt1, t_hasBit, nsc, Nat.add_sub_cancel_left, Nat.add_sub_cancel, j0, hlg, hd2]
      exact Iff.rfl
  | succ m ih =>
    intro one other l9 hm h1 h2 h3
    rcases Nat.eq_zero_or_pos other with e | e
    · exact ih one other l9 (by omega) h1 h2 h3
    · have hlg : (lg_cmp (lN other) (lN 0) = nI 0) = False := (lgz (by omega)).trans (eq_false (by omega))
      have hne : ¬ lN other = 0 := fun z => by have := (pk_lEQ (a := other) (b := 0) (by omega) (by decide)).mp z; omega
      have hrem : lN one - lN one / lN other * lN other = lN (one % other) := pk_lRem (by omega) e (by omega)
      have hmm : one % other < other := Nat.mod_lt _ e
      rw [← gcd_s, ← ih other (one % other) (some (.long (lN (one % other)))) (by omega) h2 (by omega) (Or.inl e), p163_6]
      simp (disch := first | assumption | exact b01_01 | exact Or.inl rfl | exact Or.inr rfl | ((try simp (disch := omega) only [kd0, kd1, kd2, kd3, kd4, kd5, kd6, kd7, kd8, kd9, kd10, kd11, kd12, kd13, kd14, kd15, kd16, kd17, kd18, kd19, kd20, kd21, kd22, kd23, kd24, kd25, kd26, kd27, kd28, kd29, kd30, kd31, kd32, kd33, kd34, kd35, kd36, kd37, kd38, kd39, kd40, kd41, kd42, kd43, kd44, kd45, kd46, kd47, kd48, kd49, kd50, kd51, kd52, kd53, kd54, kd55, kd56, kd57, kd58, kd59, kd60, kd61, kd62, kd63, kd64, kd65, kd66, kd67, kd68, ln2, ln3, ln5, ln6, ln7, ln10, ln13, ln16, ln19, ln22, ln24, ln25, ln27, ln28, ln29, ln32, ln35, ln38, ln41, ln44, ln46, ln48, ln50, ln52, ln54, ln55, ln56, ln57, ln58, ln59, ln60, ln61, ln62, ln63, ln67, ln68, i0, i1, cl_nI, lt_F, le_F, eq_F, not_false_eq_true]) <;> omega) | fail) only [p163_8, p163_9, p163_10, p163_13, p163_15, p163_17, p163_18, p163_20, p163_22, p163_24, p163_26, p163_28, ↓reduceIte, Nat.reduceAdd, Nat.reduceMul, Nat.reduceSub, i0, i1, i2, i3, i4, i5, i6, i7, i8, i9, i10, i14, i15, i16, i18, i20, i21, i23, i28, i31, i32, i33, i38, i40, i41, i48, i49, i51, i57, i60, i61, i62, i63, i97, i99, i100, i110, i124, i127, i140, i199, i200, i278, i286, i294, i394, i399, i1000, i1099, lt_T, lt_F, le_T, le_F, eq_T, eq_F, nI_add, pk_mul, pk_sub, nI_m1, cl_nI, dm_up_n1, dm_up_eq, dm_up_n2, not_true_eq_false, not_false_eq_true, if_true, if_false, true_and, and_true, false_and, and_false, true_or, or_true, false_or, or_false, Option.toList, List.cons_append, List.nil_append, b01_01, b01_T, b01_F, b01_n0, b01_n1, ite_self, pk_div, pk_rem, nI_shrA, nI_bt, nI_bt0, nI_bt1, t_hasBit, nsc, Nat.add_sub_cancel_left, Nat.add_sub_cancel, j0, hlg, hrem]
theorem t_lowest {up low part : Nat} (hu : up < 2 ^ 62) (hl : low < 2 ^ 62) (hl0 : 0 < low) (hp : part < 2) : dm_cp d 163 [.long (lN up), .long (lN low), .int (nI part)] M Q ↔ Q (some (.long (lowF up low part))) M := by
  rw [e163]
  unfold lowF
  rw [← lo_loop (d := d) (M := M) (Q := Q) hu hl hp low up low none (Nat.le_refl _) hu hl (Or.inr hl0)]
  simp (disch := first | assumption | exact b01_01 | exact Or.inl rfl | exact Or.inr rfl | ((try simp (disch := omega) only [kd0, kd1, kd2, kd3, kd4, kd5, kd6, kd7, kd8, kd9, kd10, kd11, kd12, kd13, kd14, kd15, kd16, kd17, kd18, kd19, kd20, kd21, kd22, kd23, kd24, kd25, kd26, kd27, kd28, kd29, kd30, kd31, kd32, kd33, kd34, kd35, kd36, kd37, kd38, kd39, kd40, kd41, kd42, kd43, kd44, kd45, kd46, kd47, kd48, kd49, kd50, kd51, kd52, kd53, kd54, kd55, kd56, kd57, kd58, kd59, kd60, kd61, kd62, kd63, kd64, kd65, kd66, kd67, kd68, ln2, ln3, ln5, ln6, ln7, ln10, ln13, ln16, ln19, ln22, ln24, ln25, ln27, ln28, ln29, ln32, ln35, ln38, ln41, ln44, ln46, ln48, ln50, ln52, ln54, ln55, ln56, ln57, ln58, ln59, ln60, ln61, ln62, ln63, ln67, ln68, i0, i1, cl_nI, lt_F, le_F, eq_F, not_false_eq_true]) <;> omega) | fail) only [p163_0, p163_1, p163_3, p163_4, ↓reduceIte, Nat.reduceAdd, Nat.reduceMul, Nat.reduceSub, i0, i1, i2, i3, i4, i5, i6, i7, i8, i9, i10, i14, i15, i16, i18, i20, i21, i23, i28, i31, i32, i33, i38, i40, i41, i48, i49, i51, i57, i60, i61, i62, i63, i97, i99, i100, i110, i124, i127, i140, i199, i200, i278, i286, i294, i394, i399, i1000, i1099, lt_T, lt_F, le_T, le_F, eq_T, eq_F, nI_add, pk_mul, pk_sub, nI_m1, cl_nI, dm_up_n1, dm_up_eq, dm_up_n2, not_true_eq_false, not_false_eq_true, if_true, if_false, true_and, and_true, false_and, and_false, true_or, or_true, false_or, or_false, Option.toList, List.cons_append, List.nil_append, b01_01, b01_T, b01_F, b01_n0, b01_n1, ite_self, pk_div, pk_rem, nI_shrA, nI_bt, nI_bt0, nI_bt1, t_hasBit, nsc, Nat.add_sub_cancel_left, Nat.add_sub_cancel]
end
