/-! by which sets a cord falls, in numbers -/
def flC (n : Nat) (c : Cd) (t : Nat) : Bool := flS (nI c.1) (nI c.2.1) (nI c.2.2.1) (nI t) (ownS (nI c.2.1) (nI n)) c.2.2.2
def setsC (n : Nat) (c : Cd) : Nat := orN (flC n c) (2 ^ n)
theorem setsC_bit {n t : Nat} {c : Cd} (h : t < 2 ^ n) : (setsC n c).testBit t = flC n c t := by
  unfold setsC
  rw [orN_bit, decide_eq_true h, Bool.true_and]
theorem p2_16 {n : Nat} (h : n < 5) : 2 ^ n ≤ 16 ∧ 0 < 2 ^ n := ⟨(nI_pow n h).2.1, Nat.two_pow_pos n⟩
theorem setsC_lt {n : Nat} {c : Cd} (h : n < 5) : setsC n c < 65536 := Nat.lt_of_lt_of_le (orN_lt _ _) (Nat.pow_le_pow_right (n := 2) (by decide) (p2_16 h).1)
theorem orN_T {f : Nat → Bool} {i : Nat} (h : f i = true) : nI (orN f i) ||| nI (2 ^ i) = nI (orN f (i + 1)) := by
  rw [nI_or, Nat.or_comm, ← pow_or (orN_lt f i), Nat.add_comm]
  conv => rhs; unfold orN
  rw [if_pos h]
theorem orN_F {f : Nat → Bool} {i : Nat} (h : f i = false) : orN f (i + 1) = orN f i := by
  conv => lhs; unfold orN
  rw [if_neg (by rw [h]; decide)]
theorem nI_maskN {n t : Nat} : nI t &&& nI (2 ^ n - 1) = nI (t % 2 ^ n) := by rw [nI_and, Nat.and_two_pow_sub_one_eq_mod]
theorem b01_b {b : Bool} : b01 (b = true) = nI b.toNat := by cases b <;> rfl
theorem nI_b0A {b : Bool} : nI b.toNat = nI 0 ∨ nI b.toNat = nI 1 := by cases b <;> decide
def f_falls (b : Bd) (x y : Int32) : Int32 := match ixo x (bC b).length with
  | none => -1
  | some i => match ixo y (2 ^ bN b) with
    | none => -2
    | some t => nI (flC (bN b) (bCd b i) t).toNat
section
variable {d i n : Nat} {x y z : Int32} {M : dm_M} {Q : Option Value → dm_M → Prop} {s : Sg} {f : Bool}
theorem t_turnAt {q : Nat} {ts : List Nat} (h : dm_kd q = 3) (hR : RowIs M q ts) : dm_cp d 3 [.ref q, .int x] M Q ↔ Q (some (.int (match ixo x ts.length with | some j => nI (ts.getD j 0) | none => -1))) M := by
  have h49 := hR.2.1
  cases hx : ixo x ts.length with
  | some j =>
    obtain ⟨h1, rfl, -⟩ := ixo_some hx
    exact s_turnAt_in h hR h1
  | none =>
    rw [s_turnAt h, hR.1, if_neg]
    rcases ixo_none (by omega) hx with z | z
    · exact fun q => q.1 z
    · exact fun q => q.2.1 z
/-- a cord of this kind, number, sets told, wound so, in the class -/
theorem t_fallsBy {c o t : Nat} {k : Cd} {ts : List Nat} (hc : dm_kd c = 1) (ho : dm_kd o = 3) (hne : o ≠ 47) (ht : ∀ t ∈ ts, t < 8) (hR : RowIs M o ts) (h1 : M c 1 = nI k.1) (h2 : M c 2 = nI k.2.1) (h3 : M c 3 = nI k.2.2.1) (hn : M 1 0 = nI n) (hn0 : 0 < n) (hn5 : n < 5)
    (hQ : ∀ M', (∀ a, a ≠ 47 → a ≠ 48 → M' a = M a) → Q (some (.int (nI (flC n (setTs k ts) (t % 2 ^ n)).toNat))) M') : dm_cp (d + 2) 22 [.ref 0, .ref c, .ref o, .int (nI t)] M Q := by
  refine s_fallsBy (x := nI t) hc ho hne ht hR h1 h2 h3 (by rw [hn]; exact nI_lt (a := 0) hn0 (by omega)) (fun M' hF => ?_)
  have := hQ M' hF
  unfold flC at this
  rw [hn, (nI_pow n hn5).2.2, nI_maskN, b01_b]
  exact this
theorem t_setsOf {c : Nat} {k : Cd} (hc : dm_kd c = 1) (hC : CordIs M c (nI k.1) (nI k.2.1) (nI k.2.2.1) k.2.2.2) (hN : M 1 0 = nI n) (hn0 : 0 < n) (hn5 : n < 5)
    (hQ : ∀ M', (∀ a, a ≠ 47 → a ≠ 48 → M' a = M a) → Q (some (.int (nI (setsC n k)))) M') : dm_cp (d + 3) 20 [.ref 0, .ref c] M Q := by
  refine s_setsOf hc hn0 hn5 hC hN (fun M' hF => ?_)
  rw [orB_nI _ _ (by have := (p2_16 hn5).1; omega)]
  exact hQ M' hF
theorem t_MsetsOf {c : Nat} {k : Cd} (hc : c < 5) (hn0 : 0 < n) (hn5 : n < 5) (hC : MCord M 54 c (nI k.1) (nI k.2.1) (nI k.2.2.1) k.2.2.2) (ht : k.2.2.1 < 65536) (hN : M 54 4 = nI n)
    (hQ : ∀ M', WorkF M M' → Q (some (.int (nI (setsC n k)))) M') : dm_cp (d + 4) 134 [.ref 53, .int (nI c)] M Q := by
  refine s_MsetsOf hc hn0 hn5 hC ht hN (fun M' hF => ?_)
  rw [orB_nI _ _ (by have := (p2_16 hn5).1; omega)]
  exact hQ M' hF
theorem RC.work {M' : dm_M} (h : RC M s) (e : ∀ a, a ≠ 47 → a ≠ 48 → M' a = M a) : RC M' s ∧ KC M M' := ⟨h.keep (fun a h1 h2 => e a (by omega) (by omega)), fun a h1 => e a (by omega) (by omega)⟩
theorem RM.work {M' : dm_M} (h : RM M s) (e : WorkF M M') : RM M' s ∧ KM M M' := by
  refine ⟨h.keep e.s (funext fun b => e 55 b (by decide) (by decide) (fun z => absurd z (by decide))) (funext fun b => e 61 b (by decide) (by decide) (fun z => absurd z (by decide))) (e 53 3 (by decide) (by decide) (fun _ => by decide)) (e 53 18 (by decide) (by decide) (fun _ => by decide)), fun a h1 => funext fun b => e a b (by omega) (by omega) (fun z => by omega)⟩
theorem t_setsMany (h : M 54 4 = nI n) (hn : n < 5) : dm_cp d 116 [.ref 53] M Q ↔ Q (some (.int (nI (2 ^ n)))) M := by
  rw [s_setsMany, h, (nI_pow n hn).1]
theorem t_setCount (h : M 1 0 = nI n) (hn : n < 5) : dm_cp d 21 [.ref 1] M Q ↔ Q (some (.int (nI (2 ^ n)))) M := by
  rw [s_setCount kd1, h, (nI_pow n hn).1]
theorem t_allNails (h : M 1 0 = nI n) (hn : n < 5) : dm_cp d 14 [.ref 1] M Q ↔ Q (some (.int (nI (2 ^ n - 1)))) M := by
  rw [s_allNails kd1, h, (nI_pow n hn).2.2]
theorem c_falls (h : RC M s) (hQ : ∀ M', RC M' s → KC M M' → Q (some (.int (f_falls (sB s) x y))) M') : dm_cp (d + 3) 47 [.ref 0, .int x, .int y] M Q := by
  obtain ⟨n0, n5⟩ := h.n5
  have hH := fun (d : Nat) (x : Int32) (Q : Option Value → dm_M → Prop) => t_hasSet (d := d) (x := x) (M := M) (Q := Q) kd1 h.n n5
  rw [e47]
  unfold f_falls at hQ
  cases hx : ixo x (bC (sB s)).length with
  | none =>
    rw [hx] at hQ
    have hq := hQ M h (KC.refl M)
    have hA := fun (d : Nat) (Q : Option Value → dm_M → Prop) => t_cordN (d := d) (Q := Q) h hx
    simp (disch := first | assumption | exact b01_01 | exact Or.inl rfl | exact Or.inr rfl | ((try simp (disch := omega) only [kd0, kd1, kd2, kd3, kd4, kd5, kd6, kd7, kd8, kd9, kd10, kd11, kd12, kd13, kd14, kd15, kd16, kd17, kd18, kd19, kd20, kd21, kd22, kd23, kd24, kd25, kd26, kd27, kd28, kd29, kd30, kd31, kd32, kd33, kd34, kd35, kd36, kd37, kd38, kd39, kd40, kd41, kd42, kd43, kd44, kd45, kd46, kd47, kd48, kd49, kd50, kd51, kd52, kd53, kd54, kd55, kd56, kd57, kd58, kd59, kd60, kd61, kd62, kd63, kd64, kd65, kd66, kd67, kd68, ln2, ln3, ln5, ln6, ln7, ln10, ln13, ln16, ln19, ln22, ln24, ln25, ln27, ln28, ln29, ln32, ln35, ln38, ln41, ln44, ln46, ln48, ln50, ln52, ln54, ln55, ln56, ln57, ln58, ln59, ln60, ln61, ln62, ln63, ln67, ln68, i0, i1, cl_nI, lt_F, le_F, eq_F, not_false_eq_true]) <;> omega) | fail) only [p47_0, p47_0n, p47_1, p47_4, p47_5, p47_8, p47_8n, p47_9, p47_9n, p47_10, p47_10n, p47_13, p47_14, p47_15, p47_15n, p47_16, p47_19, p47_20, p47_23, p47_26, p47_28, p47_29, p47_29n, p47_30, p47_30n, p47_31, p47_31n, p47_32, p47_35, p47_36, p47_39, p47_42, p47_43, p47_46, p47_47, kd0, kd1, kd2, kd3, kd4, kd5, kd6, kd7, kd8, kd9, kd10, kd11, kd12, kd13, kd14, kd15, kd16, kd17, kd18, kd19, kd20, kd21, kd22, kd23, kd24, kd25, kd26, kd27, kd28, kd29, kd30, kd31, kd32, kd33, kd34, kd35, kd36, kd37, kd38, kd39, kd40, kd41, kd42, kd43, kd44, kd45, kd46, kd47, kd48, kd49, kd50, kd51, kd52, kd53, kd54, kd55, kd56, kd57, kd58, kd59, kd60, kd61, kd62, kd63, kd64, kd65, kd66, kd67, kd68, rf0_0, rf0_1, rf0_3, rf0_4, rf0_6, rf0_7, rf0_8, rf1_1, rf1_2, rf1_3, rf1_5, rf1_7, rf1_9, rf8_4, rf9_0, rf11_4, rf12_0, rf14_4, rf15_0, rf17_4, rf18_0, rf20_4, rf21_0, rf23_1, rf23_2, rf23_3, rf23_5, rf23_7, rf23_9, rf30_4, rf31_0, rf33_4, rf34_0, rf36_4, rf37_0, rf39_4, rf40_0, rf42_4, rf43_0, rf47_0, rf49_0, rf51_0, rf53_1, rf53_2, rf53_9, rf53_10, rf53_11, rf53_14, rf53_16, rf53_17, rf65_0, rf66_0, ↓reduceIte, Nat.reduceAdd, Nat.reduceMul, Nat.reduceSub, i0, i1, i2, i3, i4, i5, i6, i7, i8, i9, i10, i14, i15, i16, i18, i20, i21, i23, i28, i31, i32, i33, i38, i40, i41, i48, i49, i51, i57, i60, i61, i62, i63, i97, i99, i100, i110, i124, i127, i140, i199, i200, i278, i286, i294, i394, i399, i1000, i1099, lt_T, lt_F, le_T, le_F, eq_T, eq_F, nI_add, pk_mul, pk_sub, nI_m1, cl_nI, dm_up_n1, dm_up_eq, dm_up_n2, not_true_eq_false, not_false_eq_true, if_true, if_false, true_and, and_true, false_and, and_false, true_or, or_true, false_or, or_false, Option.toList, List.cons_append, List.nil_append, b01_01, b01_T, b01_F, b01_n0, b01_n1, ite_self, pk_div, pk_rem, nI_shrA, nI_bt, nI_bt0, nI_bt1, t_hasBit, nsc, Nat.add_sub_cancel_left, Nat.add_sub_cancel, hA]
    exact hq
  | some i =>
    rw [hx] at hQ
    have h1 := (ixo_some hx).1
    obtain ⟨c, hc, k1, r1, k2, b1, b2, hnum, hC⟩ := h.cord h1
    have hA := fun (d : Nat) (Q : Option Value → dm_M → Prop) => t_cordS (d := d) (Q := Q) h hx hc
    dsimp only at hQ
    cases hy : ixo y (2 ^ bN (sB s)) with
    | none =>
      rw [hy] at hQ
      have hq := hQ M h (KC.refl M)
      simp (disch := first | assumption | exact b01_01 | exact Or.inl rfl | exact Or.inr rfl | ((try simp (disch := omega) only [kd0, kd1, kd2, kd3, kd4, kd5, kd6, kd7, kd8, kd9, kd10, kd11, kd12, kd13, kd14, kd15, kd16, kd17, kd18, kd19, kd20, kd21, kd22, kd23, kd24, kd25, kd26, kd27, kd28, kd29, kd30, kd31, kd32, kd33, kd34, kd35, kd36, kd37, kd38, kd39, kd40, kd41, kd42, kd43, kd44, kd45, kd46, kd47, kd48, kd49, kd50, kd51, kd52, kd53, kd54, kd55, kd56, kd57, kd58, kd59, kd60, kd61, kd62, kd63, kd64, kd65, kd66, kd67, kd68, ln2, ln3, ln5, ln6, ln7, ln10, ln13, ln16, ln19, ln22, ln24, ln25, ln27, ln28, ln29, ln32, ln35, ln38, ln41, ln44, ln46, ln48, ln50, ln52, ln54, ln55, ln56, ln57, ln58, ln59, ln60, ln61, ln62, ln63, ln67, ln68, i0, i1, cl_nI, lt_F, le_F, eq_F, not_false_eq_true]) <;> omega) | fail) only [p47_0, p47_0n, p47_1, p47_4, p47_5, p47_8, p47_8n, p47_9, p47_9n, p47_10, p47_10n, p47_13, p47_14, p47_15, p47_15n, p47_16, p47_19, p47_20, p47_23, p47_26, p47_28, p47_29, p47_29n, p47_30, p47_30n, p47_31, p47_31n, p47_32, p47_35, p47_36, p47_39, p47_42, p47_43, p47_46, p47_47, kd0, kd1, kd2, kd3, kd4, kd5, kd6, kd7, kd8, kd9, kd10, kd11, kd12, kd13, kd14, kd15, kd16, kd17, kd18, kd19, kd20, kd21, kd22, kd23, kd24, kd25, kd26, kd27, kd28, kd29, kd30, kd31, kd32, kd33, kd34, kd35, kd36, kd37, kd38, kd39, kd40, kd41, kd42, kd43, kd44, kd45, kd46, kd47, kd48, kd49, kd50, kd51, kd52, kd53, kd54, kd55, kd56, kd57, kd58, kd59, kd60, kd61, kd62, kd63, kd64, kd65, kd66, kd67, kd68, rf0_0, rf0_1, rf0_3, rf0_4, rf0_6, rf0_7, rf0_8, rf1_1, rf1_2, rf1_3, rf1_5, rf1_7, rf1_9, rf8_4, rf9_0, rf11_4, rf12_0, rf14_4, rf15_0, rf17_4, rf18_0, rf20_4, rf21_0, rf23_1, rf23_2, rf23_3, rf23_5, rf23_7, rf23_9, rf30_4, rf31_0, rf33_4, rf34_0, rf36_4, rf37_0, rf39_4, rf40_0, rf42_4, rf43_0, rf47_0, rf49_0, rf51_0, rf53_1, rf53_2, rf53_9, rf53_10, rf53_11, rf53_14, rf53_16, rf53_17, rf65_0, rf66_0, ↓reduceIte, Nat.reduceAdd, Nat.reduceMul, Nat.reduceSub, i0, i1, i2, i3, i4, i5, i6, i7, i8, i9, i10, i14, i15, i16, i18, i20, i21, i23, i28, i31, i32, i33, i38, i40, i41, i48, i49, i51, i57, i60, i61, i62, i63, i97, i99, i100, i110, i124, i127, i140, i199, i200, i278, i286, i294, i394, i399, i1000, i1099, lt_T, lt_F, le_T, le_F, eq_T, eq_F, nI_add, pk_mul, pk_sub, nI_m1, cl_nI, dm_up_n1, dm_up_eq, dm_up_n2, not_true_eq_false, not_false_eq_true, if_true, if_false, true_and, and_true, false_and, and_false, true_or, or_true, false_or, or_false, Option.toList, List.cons_append, List.nil_append, b01_01, b01_T, b01_F, b01_n0, b01_n1, ite_self, pk_div, pk_rem, nI_shrA, nI_bt, nI_bt0, nI_bt1, t_hasBit, nsc, Nat.add_sub_cancel_left, Nat.add_sub_cancel, hA, hH, hy, Option.isSome_none, reduceCtorEq]
      exact hq
    | some t =>
      rw [hy] at hQ
      obtain ⟨h3, rfl, h4⟩ := ixo_some hy
      dsimp only at hQ
      simp (disch := first | assumption | exact b01_01 | exact Or.inl rfl | exact Or.inr rfl | ((try simp (disch := omega) only [kd0, kd1, kd2, kd3, kd4, kd5, kd6, kd7, kd8, kd9, kd10, kd11, kd12, kd13, kd14, kd15, kd16, kd17, kd18, kd19, kd20, kd21, kd22, kd23, kd24, kd25, kd26, kd27, kd28, kd29, kd30, kd31, kd32, kd33, kd34, kd35, kd36, kd37, kd38, kd39, kd40, kd41, kd42, kd43, kd44, kd45, kd46, kd47, kd48, kd49, kd50, kd51, kd52, kd53, kd54, kd55, kd56, kd57, kd58, kd59, kd60, kd61, kd62, kd63, kd64, kd65, kd66, kd67, kd68, ln2, ln3, ln5, ln6, ln7, ln10, ln13, ln16, ln19, ln22, ln24, ln25, ln27, ln28, ln29, ln32, ln35, ln38, ln41, ln44, ln46, ln48, ln50, ln52, ln54, ln55, ln56, ln57, ln58, ln59, ln60, ln61, ln62, ln63, ln67, ln68, i0, i1, cl_nI, lt_F, le_F, eq_F, not_false_eq_true]) <;> omega) | fail) only [p47_0, p47_0n, p47_1, p47_4, p47_5, p47_8, p47_8n, p47_9, p47_9n, p47_10, p47_10n, p47_13, p47_14, p47_15, p47_15n, p47_16, p47_19, p47_20, p47_23, p47_26, p47_28, p47_29, p47_29n, p47_30, p47_30n, p47_31, p47_31n, p47_32, p47_35, p47_36, p47_39, p47_42, p47_43, p47_46, p47_47, kd0, kd1, kd2, kd3, kd4, kd5, kd6, kd7, kd8, kd9, kd10, kd11, kd12, kd13, kd14, kd15, kd16, kd17, kd18, kd19, kd20, kd21, kd22, kd23, kd24, kd25, kd26, kd27, kd28, kd29, kd30, kd31, kd32, kd33, kd34, kd35, kd36, kd37, kd38, kd39, kd40, kd41, kd42, kd43, kd44, kd45, kd46, kd47, kd48, kd49, kd50, kd51, kd52, kd53, kd54, kd55, kd56, kd57, kd58, kd59, kd60, kd61, kd62, kd63, kd64, kd65, kd66, kd67, kd68, rf0_0, rf0_1, rf0_3, rf0_4, rf0_6, rf0_7, rf0_8, rf1_1, rf1_2, rf1_3, rf1_5, rf1_7, rf1_9, rf8_4, rf9_0, rf11_4, rf12_0, rf14_4, rf15_0, rf17_4, rf18_0, rf20_4, rf21_0, rf23_1, rf23_2, rf23_3, rf23_5, rf23_7, rf23_9, rf30_4, rf31_0, rf33_4, rf34_0, rf36_4, rf37_0, rf39_4, rf40_0, rf42_4, rf43_0, rf47_0, rf49_0, rf51_0, rf53_1, rf53_2, rf53_9, rf53_10, rf53_11, rf53_14, rf53_16, rf53_17, rf65_0, rf66_0, ↓reduceIte, Nat.reduceAdd, Nat.reduceMul, Nat.reduceSub, i0, i1, i2, i3, i4, i5, i6, i7, i8, i9, i10, i14, i15, i16, i18, i20, i21, i23, i28, i31, i32, i33, i38, i40, i41, i48, i49, i51, i57, i60, i61, i62, i63, i97, i99, i100, i110, i124, i127, i140, i199, i200, i278, i286, i294, i394, i399, i1000, i1099, lt_T, lt_F, le_T, le_F, eq_T, eq_F, nI_add, pk_mul, pk_sub, nI_m1, cl_nI, dm_up_n1, dm_up_eq, dm_up_n2, not_true_eq_false, not_false_eq_true, if_true, if_false, true_and, and_true, false_and, and_false, true_or, or_true, false_or, or_false, Option.toList, List.cons_append, List.nil_append, b01_01, b01_T, b01_F, b01_n0, b01_n1, ite_self, pk_div, pk_rem, nI_shrA, nI_bt, nI_bt0, nI_bt1, t_hasBit, nsc, Nat.add_sub_cancel_left, Nat.add_sub_cancel, hA, hH, hy, Option.isSome_some, r1]
      refine t_fallsBy (k := bCd (sB s) i) k1 k2 (by omega) hC.2.2.2.2 hC.2.2.2.1 hC.1 hC.2.1 hC.2.2.1 h.n n0 n5 (fun M' hF => ?_)
      obtain ⟨q1, q2⟩ := h.work hF
      have hq := hQ M' q1 q2
      rw [Nat.mod_eq_of_lt h3]
      cases hb : flC (bN (sB s)) (bCd (sB s) i) t with
      | false =>
        rw [show setTs (bCd (sB s) i) (bCd (sB s) i).2.2.2 = bCd (sB s) i from rfl, hb]
        rw [hb] at hq
        simp (disch := first | assumption | exact b01_01 | exact Or.inl rfl | exact Or.inr rfl | ((try simp (disch := omega) only [kd0, kd1, kd2, kd3, kd4, kd5, kd6, kd7, kd8, kd9, kd10, kd11, kd12, kd13, kd14, kd15, kd16, kd17, kd18, kd19, kd20, kd21, kd22, kd23, kd24, kd25, kd26, kd27, kd28, kd29, kd30, kd31, kd32, kd33, kd34, kd35, kd36, kd37, kd38, kd39, kd40, kd41, kd42, kd43, kd44, kd45, kd46, kd47, kd48, kd49, kd50, kd51, kd52, kd53, kd54, kd55, kd56, kd57, kd58, kd59, kd60, kd61, kd62, kd63, kd64, kd65, kd66, kd67, kd68, ln2, ln3, ln5, ln6, ln7, ln10, ln13, ln16, ln19, ln22, ln24, ln25, ln27, ln28, ln29, ln32, ln35, ln38, ln41, ln44, ln46, ln48, ln50, ln52, ln54, ln55, ln56, ln57, ln58, ln59, ln60, ln61, ln62, ln63, ln67, ln68, i0, i1, cl_nI, lt_F, le_F, eq_F, not_false_eq_true]) <;> omega) | fail) only [p47_39, p47_42, p47_43, p47_46, p47_47, ↓reduceIte, Nat.reduceAdd, Nat.reduceMul, Nat.reduceSub, i0, i1, i2, i3, i4, i5, i6, i7, i8, i9, i10, i14, i15, i16, i18, i20, i21, i23, i28, i31, i32, i33, i38, i40, i41, i48, i49, i51, i57, i60, i61, i62, i63, i97, i99, i100, i110, i124, i127, i140, i199, i200, i278, i286, i294, i394, i399, i1000, i1099, lt_T, lt_F, le_T, le_F, eq_T, eq_F, nI_add, pk_mul, pk_sub, nI_m1, cl_nI, dm_up_n1, dm_up_eq, dm_up_n2, not_true_eq_false, not_false_eq_true, if_true, if_false, true_and, and_true, false_and, and_false, true_or, or_true, false_or, or_false, Option.toList, List.cons_append, List.nil_append, b01_01, b01_T, b01_F, b01_n0, b01_n1, ite_self, pk_div, pk_rem, nI_shrA, nI_bt, nI_bt0, nI_bt1, t_hasBit, nsc, Nat.add_sub_cancel_left, Nat.add_sub_cancel, Bool.toNat_false]
        exact hq
      | true =>
        rw [show setTs (bCd (sB s) i) (bCd (sB s) i).2.2.2 = bCd (sB s) i from rfl, hb]
        rw [hb] at hq
        simp (disch := first | assumption | exact b01_01 | exact Or.inl rfl | exact Or.inr rfl | ((try simp (disch := omega) only [kd0, kd1, kd2, kd3, kd4, kd5, kd6, kd7, kd8, kd9, kd10, kd11, kd12, kd13, kd14, kd15, kd16, kd17, kd18, kd19, kd20, kd21, kd22, kd23, kd24, kd25, kd26, kd27, kd28, kd29, kd30, kd31, kd32, kd33, kd34, kd35, kd36, kd37, kd38, kd39, kd40, kd41, kd42, kd43, kd44, kd45, kd46, kd47, kd48, kd49, kd50, kd51, kd52, kd53, kd54, kd55, kd56, kd57, kd58, kd59, kd60, kd61, kd62, kd63, kd64, kd65, kd66, kd67, kd68, ln2, ln3, ln5, ln6, ln7, ln10, ln13, ln16, ln19, ln22, ln24, ln25, ln27, ln28, ln29, ln32, ln35, ln38, ln41, ln44, ln46, ln48, ln50, ln52, ln54, ln55, ln56, ln57, ln58, ln59, ln60, ln61, ln62, ln63, ln67, ln68, i0, i1, cl_nI, lt_F, le_F, eq_F, not_false_eq_true]) <;> omega) | fail) only [p47_39, p47_42, p47_43, p47_46, p47_47, ↓reduceIte, Nat.reduceAdd, Nat.reduceMul, Nat.reduceSub, i0, i1, i2, i3, i4, i5, i6, i7, i8, i9, i10, i14, i15, i16, i18, i20, i21, i23, i28, i31, i32, i33, i38, i40, i41, i48, i49, i51, i57, i60, i61, i62, i63, i97, i99, i100, i110, i124, i127, i140, i199, i200, i278, i286, i294, i394, i399, i1000, i1099, lt_T, lt_F, le_T, le_F, eq_T, eq_F, nI_add, pk_mul, pk_sub, nI_m1, cl_nI, dm_up_n1, dm_up_eq, dm_up_n2, not_true_eq_false, not_false_eq_true, if_true, if_false, true_and, and_true, false_and, and_false, true_or, or_true, false_or, or_false, Option.toList, List.cons_append, List.nil_append, b01_01, b01_T, b01_F, b01_n0, b01_n1, ite_self, pk_div, pk_rem, nI_shrA, nI_bt, nI_bt0, nI_bt1, t_hasBit, nsc, Nat.add_sub_cancel_left, Nat.add_sub_cancel, Bool.toNat_true]
        exact hq
theorem m_falls (h : RM M s) (hQ : ∀ M', RM M' s → KM M M' → Q (some (.int (f_falls (sB s) x y))) M') : dm_cp (d + 5) 140 [.ref 53, .int x, .int y] M Q := by
  obtain ⟨n0, n5⟩ := h.n5
  have h5 := h.1.1.2.2.2.1
  have hCo := fun (d : Nat) (x : Int32) (Q : Option Value → dm_M → Prop) => t_isCord (d := d) (x := x) (M := M) (Q := Q) h.2.1.2.2.1 (by omega)
  have hSm := fun (d : Nat) (Q : Option Value → dm_M → Prop) => t_setsMany (d := d) (Q := Q) h.n n5
  obtain ⟨p16, p0⟩ := p2_16 n5
  have hI := in_ixoA (x := y) p0 (by omega)
  rw [e140]
  unfold f_falls at hQ
  cases hx : ixo x (bC (sB s)).length with
  | none =>
    rw [hx] at hQ
    have hq := hQ M h (KM.refl M)
    simp (disch := first | assumption | exact b01_01 | exact Or.inl rfl | exact Or.inr rfl | ((try simp (disch := omega) only [kd0, kd1, kd2, kd3, kd4, kd5, kd6, kd7, kd8, kd9, kd10, kd11, kd12, kd13, kd14, kd15, kd16, kd17, kd18, kd19, kd20, kd21, kd22, kd23, kd24, kd25, kd26, kd27, kd28, kd29, kd30, kd31, kd32, kd33, kd34, kd35, kd36, kd37, kd38, kd39, kd40, kd41, kd42, kd43, kd44, kd45, kd46, kd47, kd48, kd49, kd50, kd51, kd52, kd53, kd54, kd55, kd56, kd57, kd58, kd59, kd60, kd61, kd62, kd63, kd64, kd65, kd66, kd67, kd68, ln2, ln3, ln5, ln6, ln7, ln10, ln13, ln16, ln19, ln22, ln24, ln25, ln27, ln28, ln29, ln32, ln35, ln38, ln41, ln44, ln46, ln48, ln50, ln52, ln54, ln55, ln56, ln57, ln58, ln59, ln60, ln61, ln62, ln63, ln67, ln68, i0, i1, cl_nI, lt_F, le_F, eq_F, not_false_eq_true]) <;> omega) | fail) only [p140_0, p140_0n, p140_1, p140_2, p140_5, p140_8, p140_9, p140_10, p140_11, p140_12, p140_12n, p140_13, p140_16, p140_17, p140_18, p140_21, p140_24, p140_24n, p140_25, p140_26, p140_29, p140_30, p140_31, p140_32, p140_33, p140_36, p140_38, kd0, kd1, kd2, kd3, kd4, kd5, kd6, kd7, kd8, kd9, kd10, kd11, kd12, kd13, kd14, kd15, kd16, kd17, kd18, kd19, kd20, kd21, kd22, kd23, kd24, kd25, kd26, kd27, kd28, kd29, kd30, kd31, kd32, kd33, kd34, kd35, kd36, kd37, kd38, kd39, kd40, kd41, kd42, kd43, kd44, kd45, kd46, kd47, kd48, kd49, kd50, kd51, kd52, kd53, kd54, kd55, kd56, kd57, kd58, kd59, kd60, kd61, kd62, kd63, kd64, kd65, kd66, kd67, kd68, rf0_0, rf0_1, rf0_3, rf0_4, rf0_6, rf0_7, rf0_8, rf1_1, rf1_2, rf1_3, rf1_5, rf1_7, rf1_9, rf8_4, rf9_0, rf11_4, rf12_0, rf14_4, rf15_0, rf17_4, rf18_0, rf20_4, rf21_0, rf23_1, rf23_2, rf23_3, rf23_5, rf23_7, rf23_9, rf30_4, rf31_0, rf33_4, rf34_0, rf36_4, rf37_0, rf39_4, rf40_0, rf42_4, rf43_0, rf47_0, rf49_0, rf51_0, rf53_1, rf53_2, rf53_9, rf53_10, rf53_11, rf53_14, rf53_16, rf53_17, rf65_0, rf66_0, ↓reduceIte, Nat.reduceAdd, Nat.reduceMul, Nat.reduceSub, i0, i1, i2, i3, i4, i5, i6, i7, i8, i9, i10, i14, i15, i16, i18, i20, i21, i23, i28, i31, i32, i33, i38, i40, i41, i48, i49, i51, i57, i60, i61, i62, i63, i97, i99, i100, i110, i124, i127, i140, i199, i200, i278, i286, i294, i394, i399, i1000, i1099, lt_T, lt_F, le_T, le_F, eq_T, eq_F, nI_add, pk_mul, pk_sub, nI_m1, cl_nI, dm_up_n1, dm_up_eq, dm_up_n2, not_true_eq_false, not_false_eq_true, if_true, if_false, true_and, and_true, false_and, and_false, true_or, or_true, false_or, or_false, Option.toList, List.cons_append, List.nil_append, b01_01, b01_T, b01_F, b01_n0, b01_n1, ite_self, pk_div, pk_rem, nI_shrA, nI_bt, nI_bt0, nI_bt1, t_hasBit, nsc, Nat.add_sub_cancel_left, Nat.add_sub_cancel, hCo, hx, Option.isSome_none, reduceCtorEq]
    exact hq
  | some i =>
    rw [hx] at hQ
    obtain ⟨h1, rfl, -⟩ := ixo_some hx
    obtain ⟨hC, i5⟩ := h.cord h1
    have hok := h.1.1.cd h1
    dsimp only at hQ
    cases hy : ixo y (2 ^ bN (sB s)) with
    | none =>
      rw [hy] at hQ hI
      have hq := hQ M h (KM.refl M)
      simp (disch := first | assumption | exact b01_01 | exact Or.inl rfl | exact Or.inr rfl | ((try simp (disch := omega) only [kd0, kd1, kd2, kd3, kd4, kd5, kd6, kd7, kd8, kd9, kd10, kd11, kd12, kd13, kd14, kd15, kd16, kd17, kd18, kd19, kd20, kd21, kd22, kd23, kd24, kd25, kd26, kd27, kd28, kd29, kd30, kd31, kd32, kd33, kd34, kd35, kd36, kd37, kd38, kd39, kd40, kd41, kd42, kd43, kd44, kd45, kd46, kd47, kd48, kd49, kd50, kd51, kd52, kd53, kd54, kd55, kd56, kd57, kd58, kd59, kd60, kd61, kd62, kd63, kd64, kd65, kd66, kd67, kd68, ln2, ln3, ln5, ln6, ln7, ln10, ln13, ln16, ln19, ln22, ln24, ln25, ln27, ln28, ln29, ln32, ln35, ln38, ln41, ln44, ln46, ln48, ln50, ln52, ln54, ln55, ln56, ln57, ln58, ln59, ln60, ln61, ln62, ln63, ln67, ln68, i0, i1, cl_nI, lt_F, le_F, eq_F, not_false_eq_true]) <;> omega) | fail) only [p140_0, p140_0n, p140_1, p140_2, p140_5, p140_8, p140_9, p140_10, p140_11, p140_12, p140_12n, p140_13, p140_16, p140_17, p140_18, p140_21, p140_24, p140_24n, p140_25, p140_26, p140_29, p140_30, p140_31, p140_32, p140_33, p140_36, p140_38, kd0, kd1, kd2, kd3, kd4, kd5, kd6, kd7, kd8, kd9, kd10, kd11, kd12, kd13, kd14, kd15, kd16, kd17, kd18, kd19, kd20, kd21, kd22, kd23, kd24, kd25, kd26, kd27, kd28, kd29, kd30, kd31, kd32, kd33, kd34, kd35, kd36, kd37, kd38, kd39, kd40, kd41, kd42, kd43, kd44, kd45, kd46, kd47, kd48, kd49, kd50, kd51, kd52, kd53, kd54, kd55, kd56, kd57, kd58, kd59, kd60, kd61, kd62, kd63, kd64, kd65, kd66, kd67, kd68, rf0_0, rf0_1, rf0_3, rf0_4, rf0_6, rf0_7, rf0_8, rf1_1, rf1_2, rf1_3, rf1_5, rf1_7, rf1_9, rf8_4, rf9_0, rf11_4, rf12_0, rf14_4, rf15_0, rf17_4, rf18_0, rf20_4, rf21_0, rf23_1, rf23_2, rf23_3, rf23_5, rf23_7, rf23_9, rf30_4, rf31_0, rf33_4, rf34_0, rf36_4, rf37_0, rf39_4, rf40_0, rf42_4, rf43_0, rf47_0, rf49_0, rf51_0, rf53_1, rf53_2, rf53_9, rf53_10, rf53_11, rf53_14, rf53_16, rf53_17, rf65_0, rf66_0, ↓reduceIte, Nat.reduceAdd, Nat.reduceMul, Nat.reduceSub, i0, i1, i2, i3, i4, i5, i6, i7, i8, i9, i10, i14, i15, i16, i18, i20, i21, i23, i28, i31, i32, i33, i38, i40, i41, i48, i49, i51, i57, i60, i61, i62, i63, i97, i99, i100, i110, i124, i127, i140, i199, i200, i278, i286, i294, i394, i399, i1000, i1099, lt_T, lt_F, le_T, le_F, eq_T, eq_F, nI_add, pk_mul, pk_sub, nI_m1, cl_nI, dm_up_n1, dm_up_eq, dm_up_n2, not_true_eq_false, not_false_eq_true, if_true, if_false, true_and, and_true, false_and, and_false, true_or, or_true, false_or, or_false, Option.toList, List.cons_append, List.nil_append, b01_01, b01_T, b01_F, b01_n0, b01_n1, ite_self, pk_div, pk_rem, nI_shrA, nI_bt, nI_bt0, nI_bt1, t_hasBit, nsc, Nat.add_sub_cancel_left, Nat.add_sub_cancel, hCo, hx, hSm, t_in, hI, Option.isSome_none, Option.isSome_some, reduceCtorEq]
      exact hq
    | some t =>
      rw [hy] at hQ hI
      obtain ⟨h3, rfl, h4⟩ := ixo_some hy
      simp (disch := first | assumption | exact b01_01 | exact Or.inl rfl | exact Or.inr rfl | ((try simp (disch := omega) only [kd0, kd1, kd2, kd3, kd4, kd5, kd6, kd7, kd8, kd9, kd10, kd11, kd12, kd13, kd14, kd15, kd16, kd17, kd18, kd19, kd20, kd21, kd22, kd23, kd24, kd25, kd26, kd27, kd28, kd29, kd30, kd31, kd32, kd33, kd34, kd35, kd36, kd37, kd38, kd39, kd40, kd41, kd42, kd43, kd44, kd45, kd46, kd47, kd48, kd49, kd50, kd51, kd52, kd53, kd54, kd55, kd56, kd57, kd58, kd59, kd60, kd61, kd62, kd63, kd64, kd65, kd66, kd67, kd68, ln2, ln3, ln5, ln6, ln7, ln10, ln13, ln16, ln19, ln22, ln24, ln25, ln27, ln28, ln29, ln32, ln35, ln38, ln41, ln44, ln46, ln48, ln50, ln52, ln54, ln55, ln56, ln57, ln58, ln59, ln60, ln61, ln62, ln63, ln67, ln68, i0, i1, cl_nI, lt_F, le_F, eq_F, not_false_eq_true]) <;> omega) | fail) only [p140_0, p140_0n, p140_1, p140_2, p140_5, p140_8, p140_9, p140_10, p140_11, p140_12, p140_12n, p140_13, p140_16, p140_17, p140_18, p140_21, p140_24, p140_24n, p140_25, p140_26, p140_29, p140_30, p140_31, p140_32, p140_33, p140_36, p140_38, kd0, kd1, kd2, kd3, kd4, kd5, kd6, kd7, kd8, kd9, kd10, kd11, kd12, kd13, kd14, kd15, kd16, kd17, kd18, kd19, kd20, kd21, kd22, kd23, kd24, kd25, kd26, kd27, kd28, kd29, kd30, kd31, kd32, kd33, kd34, kd35, kd36, kd37, kd38, kd39, kd40, kd41, kd42, kd43, kd44, kd45, kd46, kd47, kd48, kd49, kd50, kd51, kd52, kd53, kd54, kd55, kd56, kd57, kd58, kd59, kd60, kd61, kd62, kd63, kd64, kd65, kd66, kd67, kd68, rf0_0, rf0_1, rf0_3, rf0_4, rf0_6, rf0_7, rf0_8, rf1_1, rf1_2, rf1_3, rf1_5, rf1_7, rf1_9, rf8_4, rf9_0, rf11_4, rf12_0, rf14_4, rf15_0, rf17_4, rf18_0, rf20_4, rf21_0, rf23_1, rf23_2, rf23_3, rf23_5, rf23_7, rf23_9, rf30_4, rf31_0, rf33_4, rf34_0, rf36_4, rf37_0, rf39_4, rf40_0, rf42_4, rf43_0, rf47_0, rf49_0, rf51_0, rf53_1, rf53_2, rf53_9, rf53_10, rf53_11, rf53_14, rf53_16, rf53_17, rf65_0, rf66_0, ↓reduceIte, Nat.reduceAdd, Nat.reduceMul, Nat.reduceSub, i0, i1, i2, i3, i4, i5, i6, i7, i8, i9, i10, i14, i15, i16, i18, i20, i21, i23, i28, i31, i32, i33, i38, i40, i41, i48, i49, i51, i57, i60, i61, i62, i63, i97, i99, i100, i110, i124, i127, i140, i199, i200, i278, i286, i294, i394, i399, i1000, i1099, lt_T, lt_F, le_T, le_F, eq_T, eq_F, nI_add, pk_mul, pk_sub, nI_m1, cl_nI, dm_up_n1, dm_up_eq, dm_up_n2, not_true_eq_false, not_false_eq_true, if_true, if_false, true_and, and_true, false_and, and_false, true_or, or_true, false_or, or_false, Option.toList, List.cons_append, List.nil_append, b01_01, b01_T, b01_F, b01_n0, b01_n1, ite_self, pk_div, pk_rem, nI_shrA, nI_bt, nI_bt0, nI_bt1, t_hasBit, nsc, Nat.add_sub_cancel_left, Nat.add_sub_cancel, hCo, hx, hSm, t_in, hI, Option.isSome_some]
      refine t_MsetsOf i5 n0 n5 hC hok.2.2.1 h.n (fun M' hF => ?_)
      obtain ⟨q1, q2⟩ := h.work hF
      have hq := hQ M' q1 q2
      have hlt := setsC_lt (c := bCd (sB s) i) n5
      simp (disch := first | assumption | exact b01_01 | exact Or.inl rfl | exact Or.inr rfl | ((try simp (disch := omega) only [kd0, kd1, kd2, kd3, kd4, kd5, kd6, kd7, kd8, kd9, kd10, kd11, kd12, kd13, kd14, kd15, kd16, kd17, kd18, kd19, kd20, kd21, kd22, kd23, kd24, kd25, kd26, kd27, kd28, kd29, kd30, kd31, kd32, kd33, kd34, kd35, kd36, kd37, kd38, kd39, kd40, kd41, kd42, kd43, kd44, kd45, kd46, kd47, kd48, kd49, kd50, kd51, kd52, kd53, kd54, kd55, kd56, kd57, kd58, kd59, kd60, kd61, kd62, kd63, kd64, kd65, kd66, kd67, kd68, ln2, ln3, ln5, ln6, ln7, ln10, ln13, ln16, ln19, ln22, ln24, ln25, ln27, ln28, ln29, ln32, ln35, ln38, ln41, ln44, ln46, ln48, ln50, ln52, ln54, ln55, ln56, ln57, ln58, ln59, ln60, ln61, ln62, ln63, ln67, ln68, i0, i1, cl_nI, lt_F, le_F, eq_F, not_false_eq_true]) <;> omega) | fail) only [p140_29, p140_30, p140_31, p140_32, p140_33, p140_36, p140_38, ↓reduceIte, Nat.reduceAdd, Nat.reduceMul, Nat.reduceSub, i0, i1, i2, i3, i4, i5, i6, i7, i8, i9, i10, i14, i15, i16, i18, i20, i21, i23, i28, i31, i32, i33, i38, i40, i41, i48, i49, i51, i57, i60, i61, i62, i63, i97, i99, i100, i110, i124, i127, i140, i199, i200, i278, i286, i294, i394, i399, i1000, i1099, lt_T, lt_F, le_T, le_F, eq_T, eq_F, nI_add, pk_mul, pk_sub, nI_m1, cl_nI, dm_up_n1, dm_up_eq, dm_up_n2, not_true_eq_false, not_false_eq_true, if_true, if_false, true_and, and_true, false_and, and_false, true_or, or_true, false_or, or_false, Option.toList, List.cons_append, List.nil_append, b01_01, b01_T, b01_F, b01_n0, b01_n1, ite_self, pk_div, pk_rem, nI_shrA, nI_bt, nI_bt0, nI_bt1, t_hasBit, nsc, Nat.add_sub_cancel_left, Nat.add_sub_cancel, setsC_bit]
      exact hq
end
