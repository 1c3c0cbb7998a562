/-! LAW of the reference: LAW -/
section
variable {d i n o j : Nat} {x y z : Int32} {M : dm_M} {Q : Option Value → dm_M → Prop} {T : List Nat} {p : Nat} {bad : Bool} {g : Nat → PR} {code : List Int32} {s : Sg}
theorem LawIs.keep2 {M M' : dm_M} {q l : Nat} (h : LawIs M q j l) (e : M' q (394 + j) = M q (394 + j)) (hM : ∀ k, k < 140 → M' q (399 + 140 * j + k) = M q (399 + 140 * j + k)) : LawIs M' q j l := by
  obtain ⟨code, a, b, c, f⟩ := h
  exact ⟨code, by rw [e]; exact a, b, fun i hi => by rw [hM i (by omega)]; exact c i hi, f⟩
theorem m_law (h : RM M s) (hS : StrOk M) (hQ : ∀ M', RM M' (f_law s).2 → KM M M' → Q (some (.int (f_law s).1)) M') : dm_cp (d + 23) 97 [.ref 53] M Q := by
  have h100 := h.1.1.2.2.2.2.2.2.2.1
  have hT := h.1.1.2.2.2.2.2.2.2.2.1
  have hL5 := h.1.1.2.2.2.2.2.1
  have hL6 := h.1.1.2.2.2.2.2.2.1
  have hS8 := h.1.1.2.2.2.2.2.2.2.2.2.1
  obtain ⟨g1, g2, -, -, g3, g4, g5, g6, g7, g8⟩ := id h.2.1
  rw [e97]
  unfold f_law at hQ
  by_cases hl : (bL (sB s)).length = 5
  · rw [if_pos hl] at hQ
    have hq := hQ M h (KM.refl M)
    simp (disch := first | assumption | exact b01_01 | exact Or.inl rfl | exact Or.inr rfl | ((try simp (disch := omega) only [kd0, kd1, kd2, kd3, kd4, kd5, kd6, kd7, kd8, kd9, kd10, kd11, kd12, kd13, kd14, kd15, kd16, kd17, kd18, kd19, kd20, kd21, kd22, kd23, kd24, kd25, kd26, kd27, kd28, kd29, kd30, kd31, kd32, kd33, kd34, kd35, kd36, kd37, kd38, kd39, kd40, kd41, kd42, kd43, kd44, kd45, kd46, kd47, kd48, kd49, kd50, kd51, kd52, kd53, kd54, kd55, kd56, kd57, kd58, kd59, kd60, kd61, kd62, kd63, kd64, kd65, kd66, kd67, kd68, ln2, ln3, ln5, ln6, ln7, ln10, ln13, ln16, ln19, ln22, ln24, ln25, ln27, ln28, ln29, ln32, ln35, ln38, ln41, ln44, ln46, ln48, ln50, ln52, ln54, ln55, ln56, ln57, ln58, ln59, ln60, ln61, ln62, ln63, ln67, ln68, i0, i1, cl_nI, lt_F, le_F, eq_F, not_false_eq_true]) <;> omega) | fail) only [p97_0, p97_0n, p97_1, p97_4, p97_5, p97_6, p97_7, p97_10, p97_12, kd0, kd1, kd2, kd3, kd4, kd5, kd6, kd7, kd8, kd9, kd10, kd11, kd12, kd13, kd14, kd15, kd16, kd17, kd18, kd19, kd20, kd21, kd22, kd23, kd24, kd25, kd26, kd27, kd28, kd29, kd30, kd31, kd32, kd33, kd34, kd35, kd36, kd37, kd38, kd39, kd40, kd41, kd42, kd43, kd44, kd45, kd46, kd47, kd48, kd49, kd50, kd51, kd52, kd53, kd54, kd55, kd56, kd57, kd58, kd59, kd60, kd61, kd62, kd63, kd64, kd65, kd66, kd67, kd68, ln2, ln3, ln5, ln6, ln7, ln10, ln13, ln16, ln19, ln22, ln24, ln25, ln27, ln28, ln29, ln32, ln35, ln38, ln41, ln44, ln46, ln48, ln50, ln52, ln54, ln55, ln56, ln57, ln58, ln59, ln60, ln61, ln62, ln63, ln67, ln68, rf0_0, rf0_1, rf0_3, rf0_4, rf0_6, rf0_7, rf0_8, rf1_1, rf1_2, rf1_3, rf1_5, rf1_7, rf1_9, rf8_4, rf9_0, rf11_4, rf12_0, rf14_4, rf15_0, rf17_4, rf18_0, rf20_4, rf21_0, rf23_1, rf23_2, rf23_3, rf23_5, rf23_7, rf23_9, rf30_4, rf31_0, rf33_4, rf34_0, rf36_4, rf37_0, rf39_4, rf40_0, rf42_4, rf43_0, rf47_0, rf49_0, rf51_0, rf53_1, rf53_2, rf53_9, rf53_10, rf53_11, rf53_14, rf53_16, rf53_17, rf65_0, rf66_0, ↓reduceIte, Nat.reduceAdd, Nat.reduceMul, Nat.reduceSub, i0, i1, i2, i3, i4, i5, i6, i7, i8, i9, i10, i14, i15, i16, i18, i20, i21, i23, i28, i31, i32, i33, i38, i40, i41, i48, i49, i51, i57, i60, i61, i62, i63, i97, i99, i100, i110, i124, i127, i140, i199, i200, i278, i286, i294, i394, i399, i1000, i1099, lt_T, lt_F, le_T, le_F, eq_T, eq_F, nI_add, pk_mul, pk_sub, nI_m1, cl_nI, dm_up_n1, dm_up_eq, dm_up_n2, not_true_eq_false, not_false_eq_true, if_true, if_false, true_and, and_true, false_and, and_false, true_or, or_true, false_or, or_false, Option.toList, List.cons_append, List.nil_append, b01_01, b01_T, b01_F, b01_n0, b01_n1, ite_self, pk_div, pk_rem, nI_shrA, nI_bt, nI_bt0, nI_bt1, t_hasBit, nsc, Nat.add_sub_cancel_left, Nat.add_sub_cancel, g3, hl]
    exact hq
  · rw [if_neg hl] at hQ
    have hl4 : (bL (sB s)).length < 5 := by omega
    generalize hj : (bL (sB s)).length = j at *
    have hR := m_factor (j := j) hT h100 5 (Nat.le_refl _)
    have hB : RdM (bT (sB s)) (pB (bT (sB s)) (pF (bT (sB s)) 5)) 99 21 j 0 := m_every hR (pF_Gd hT 5) h100
    have hE : RdM (bT (sB s)) (pE (bT (sB s)) (pF (bT (sB s)) 5)) 98 22 j 0 := m_some hB (pB_Gd (pF_Gd hT 5)) h100
    simp (disch := first | assumption | exact b01_01 | exact Or.inl rfl | exact Or.inr rfl | ((try simp (disch := omega) only [kd0, kd1, kd2, kd3, kd4, kd5, kd6, kd7, kd8, kd9, kd10, kd11, kd12, kd13, kd14, kd15, kd16, kd17, kd18, kd19, kd20, kd21, kd22, kd23, kd24, kd25, kd26, kd27, kd28, kd29, kd30, kd31, kd32, kd33, kd34, kd35, kd36, kd37, kd38, kd39, kd40, kd41, kd42, kd43, kd44, kd45, kd46, kd47, kd48, kd49, kd50, kd51, kd52, kd53, kd54, kd55, kd56, kd57, kd58, kd59, kd60, kd61, kd62, kd63, kd64, kd65, kd66, kd67, kd68, ln2, ln3, ln5, ln6, ln7, ln10, ln13, ln16, ln19, ln22, ln24, ln25, ln27, ln28, ln29, ln32, ln35, ln38, ln41, ln44, ln46, ln48, ln50, ln52, ln54, ln55, ln56, ln57, ln58, ln59, ln60, ln61, ln62, ln63, ln67, ln68, i0, i1, cl_nI, lt_F, le_F, eq_F, not_false_eq_true]) <;> omega) | fail) only [p97_0, p97_0n, p97_1, p97_4, p97_5, p97_6, p97_7, p97_10, p97_12, p97_13, p97_13n, p97_14, p97_14n, p97_15, p97_18, p97_19, p97_20, p97_23, p97_23n, p97_24, p97_24n, p97_25, p97_28, p97_29, p97_30, p97_33, p97_33n, p97_34, p97_37, p97_38, p97_39, p97_40, p97_40n, p97_41, p97_44, p97_47, p97_47n, p97_48, p97_51, p97_52, p97_53, p97_54, p97_54n, p97_55, p97_56, p97_59, p97_59n, p97_60, p97_61, p97_64, p97_64n, p97_65, p97_66, p97_69, p97_69n, p97_70, kd0, kd1, kd2, kd3, kd4, kd5, kd6, kd7, kd8, kd9, kd10, kd11, kd12, kd13, kd14, kd15, kd16, kd17, kd18, kd19, kd20, kd21, kd22, kd23, kd24, kd25, kd26, kd27, kd28, kd29, kd30, kd31, kd32, kd33, kd34, kd35, kd36, kd37, kd38, kd39, kd40, kd41, kd42, kd43, kd44, kd45, kd46, kd47, kd48, kd49, kd50, kd51, kd52, kd53, kd54, kd55, kd56, kd57, kd58, kd59, kd60, kd61, kd62, kd63, kd64, kd65, kd66, kd67, kd68, ln2, ln3, ln5, ln6, ln7, ln10, ln13, ln16, ln19, ln22, ln24, ln25, ln27, ln28, ln29, ln32, ln35, ln38, ln41, ln44, ln46, ln48, ln50, ln52, ln54, ln55, ln56, ln57, ln58, ln59, ln60, ln61, ln62, ln63, ln67, ln68, rf0_0, rf0_1, rf0_3, rf0_4, rf0_6, rf0_7, rf0_8, rf1_1, rf1_2, rf1_3, rf1_5, rf1_7, rf1_9, rf8_4, rf9_0, rf11_4, rf12_0, rf14_4, rf15_0, rf17_4, rf18_0, rf20_4, rf21_0, rf23_1, rf23_2, rf23_3, rf23_5, rf23_7, rf23_9, rf30_4, rf31_0, rf33_4, rf34_0, rf36_4, rf37_0, rf39_4, rf40_0, rf42_4, rf43_0, rf47_0, rf49_0, rf51_0, rf53_1, rf53_2, rf53_9, rf53_10, rf53_11, rf53_14, rf53_16, rf53_17, rf65_0, rf66_0, ↓reduceIte, Nat.reduceAdd, Nat.reduceMul, Nat.reduceSub, i0, i1, i2, i3, i4, i5, i6, i7, i8, i9, i10, i14, i15, i16, i18, i20, i21, i23, i28, i31, i32, i33, i38, i40, i41, i48, i49, i51, i57, i60, i61, i62, i63, i97, i99, i100, i110, i124, i127, i140, i199, i200, i278, i286, i294, i394, i399, i1000, i1099, lt_T, lt_F, le_T, le_F, eq_T, eq_F, nI_add, pk_mul, pk_sub, nI_m1, cl_nI, dm_up_n1, dm_up_eq, dm_up_n2, not_true_eq_false, not_false_eq_true, if_true, if_false, true_and, and_true, false_and, and_false, true_or, or_true, false_or, or_false, Option.toList, List.cons_append, List.nil_append, b01_01, b01_T, b01_F, b01_n0, b01_n1, ite_self, pk_div, pk_rem, nI_shrA, nI_bt, nI_bt0, nI_bt1, t_hasBit, nsc, Nat.add_sub_cancel_left, Nat.add_sub_cancel, g3, g5]
    have hgo : ∀ M0 : dm_M, MRs M0 (bT (sB s)) j 0 false 0 [] → (∀ a, a ≠ 53 → a ≠ 54 → M0 a = M a) → (∀ k, k ≠ 4 → k ≠ 5 → k ≠ 6 → k ≠ 7 → k ≠ 8 → M0 53 k = M 53 k) → (∀ k, k ≠ 3 → k ≠ 394 + j → M0 54 k = M 54 k) → M0 54 3 = nI 0 → dm_cp (d + 22) 98 [.ref 53] M0 (fun r M' => dm_wp (d + 22 + 1) 97 73 [some (.ref 53)] (r.toList ++ []) M' Q) := by
      intro M0 hM0 c1 c2 c3 c4
      refine hE (d + 22) 0 [] M0 _ (by omega) hM0 (Nat.zero_le _) (Nat.le_refl _) (fun M' m1 hk => ?_)
      rw [List.nil_append] at m1
      have hGd := rAll_Gd hT
      change MRs M' (bT (sB s)) j (rAll (bT (sB s))).1 (rAll (bT (sB s))).2.1 0 (rAll (bT (sB s))).2.2.1 at m1
      generalize hz : rAll (bT (sB s)) = z at *
      obtain ⟨b1, b2, b3, b4, b5, b6, b7, b8⟩ := m1
      obtain ⟨k1, k2, k3⟩ := hk
      have f54 : ∀ k, k < 394 → k ≠ 3 → M' 54 k = M 54 k := fun k h1 h2 => (k3 k (by omega) (by omega)).trans (c3 k h2 (by omega))
      have f543 : M' 54 3 = nI 0 := (k3 3 (by omega) (by omega)).trans c4
      have f53 : ∀ k, k ≠ 4 → k ≠ 5 → k ≠ 6 → k ≠ 7 → k ≠ 8 → M' 53 k = M 53 k := fun k h1 h2 h3 h4 h5 => (k2 k h2 h4 h5).trans (c2 k h1 h2 h3 h4 h5)
      have fa : ∀ a, a ≠ 53 → a ≠ 54 → M' a = M a := fun a h1 h2 => (k1 a h1 h2).trans (c1 a h1 h2)
      have fl : ∀ i, i < j → LawIs M' 54 i ((bL (sB s)).getD i 0) := fun i hi => (g4 i hi).keep2 ((k3 _ (by omega) (by omega)).trans (c3 _ (by omega) (by omega))) (fun k hk => (k3 _ (by omega) (by omega)).trans (c3 _ (by omega) (by omega)))
      have hTn : BdOk (setT (sB s) []) := h.1.1.setT (Nat.zero_le _) (fun t ht => absurd ht (by simp))
      have g3' : M' 54 1 = nI j := (f54 1 (by omega) (by omega)).trans g3
      by_cases hc : z.2.1 = true ∨ z.1 < (bT (sB s)).length
      · rw [if_pos hc] at hQ
        have hRM : RM M' (setB s (setT (sB s) [])) := by
          refine h.setB hTn (h.2.1.chg h.1.1.2.2.2.1 h.1.1.c48 rfl (fun k h1 h2 => f54 k (by omega) (by omega)) (f54 0 (by omega) (by omega)) ((f54 4 (by omega) (by omega)).trans g1) (fun i hi => ⟨(f54 _ (by omega) (by omega)).trans (g2 i hi).1, (f54 _ (by omega) (by omega)).trans (g2 i hi).2⟩) (g3'.trans (congrArg nI hj.symm)) (fun i hi => fl i (by have hi : i < (bL (sB s)).length := hi; omega)) f543 (fun i hi => absurd hi (Nat.not_lt_zero _)) ((f54 2 (by omega) (by omega)).trans g7) (fun i hi => ⟨(f54 _ (by have hi : i < (bS (sB s)).length := hi; omega) (by omega)).trans (g8 i hi).1, (f54 _ (by have hi : i < (bS (sB s)).length := hi; omega) (by omega)).trans (g8 i hi).2⟩)) (fa 55 (by decide) (by decide)) (fa 61 (by decide) (by decide)) (f53 3 (by decide) (by decide) (by decide) (by decide) (by decide)) (f53 18 (by decide) (by decide) (by decide) (by decide) (by decide))
        have hq := hQ M' hRM (fun a ha => fa a (by omega) (by omega))
        cases hb : z.2.1 with
        | true =>
          rw [hb, show nI true.toNat = nI 1 from rfl] at b3
          simp (disch := first | assumption | exact b01_01 | exact Or.inl rfl | exact Or.inr rfl | ((try simp (disch := omega) only [kd0, kd1, kd2, kd3, kd4, kd5, kd6, kd7, kd8, kd9, kd10, kd11, kd12, kd13, kd14, kd15, kd16, kd17, kd18, kd19, kd20, kd21, kd22, kd23, kd24, kd25, kd26, kd27, kd28, kd29, kd30, kd31, kd32, kd33, kd34, kd35, kd36, kd37, kd38, kd39, kd40, kd41, kd42, kd43, kd44, kd45, kd46, kd47, kd48, kd49, kd50, kd51, kd52, kd53, kd54, kd55, kd56, kd57, kd58, kd59, kd60, kd61, kd62, kd63, kd64, kd65, kd66, kd67, kd68, ln2, ln3, ln5, ln6, ln7, ln10, ln13, ln16, ln19, ln22, ln24, ln25, ln27, ln28, ln29, ln32, ln35, ln38, ln41, ln44, ln46, ln48, ln50, ln52, ln54, ln55, ln56, ln57, ln58, ln59, ln60, ln61, ln62, ln63, ln67, ln68, i0, i1, cl_nI, lt_F, le_F, eq_F, not_false_eq_true]) <;> omega) | fail) only [p97_73, p97_73n, p97_74, p97_77, p97_80, p97_80n, p97_81, p97_84, p97_84n, p97_85, p97_88, p97_91, p97_93, p97_93n, p97_94, p97_97, p97_98, kd0, kd1, kd2, kd3, kd4, kd5, kd6, kd7, kd8, kd9, kd10, kd11, kd12, kd13, kd14, kd15, kd16, kd17, kd18, kd19, kd20, kd21, kd22, kd23, kd24, kd25, kd26, kd27, kd28, kd29, kd30, kd31, kd32, kd33, kd34, kd35, kd36, kd37, kd38, kd39, kd40, kd41, kd42, kd43, kd44, kd45, kd46, kd47, kd48, kd49, kd50, kd51, kd52, kd53, kd54, kd55, kd56, kd57, kd58, kd59, kd60, kd61, kd62, kd63, kd64, kd65, kd66, kd67, kd68, ↓reduceIte, Nat.reduceAdd, Nat.reduceMul, Nat.reduceSub, i0, i1, i2, i3, i4, i5, i6, i7, i8, i9, i10, i14, i15, i16, i18, i20, i21, i23, i28, i31, i32, i33, i38, i40, i41, i48, i49, i51, i57, i60, i61, i62, i63, i97, i99, i100, i110, i124, i127, i140, i199, i200, i278, i286, i294, i394, i399, i1000, i1099, lt_T, lt_F, le_T, le_F, eq_T, eq_F, nI_add, pk_mul, pk_sub, nI_m1, cl_nI, dm_up_n1, dm_up_eq, dm_up_n2, not_true_eq_false, not_false_eq_true, if_true, if_false, true_and, and_true, false_and, and_false, true_or, or_true, false_or, or_false, Option.toList, List.cons_append, List.nil_append, b01_01, b01_T, b01_F, b01_n0, b01_n1, ite_self, pk_div, pk_rem, nI_shrA, nI_bt, nI_bt0, nI_bt1, t_hasBit, nsc, Nat.add_sub_cancel_left, Nat.add_sub_cancel, b1, b2, b3]
          exact hq
        | false =>
          rw [hb, show nI false.toNat = nI 0 from rfl] at b3
          have hlt : z.1 < (bT (sB s)).length := by
            rcases hc with q | q
            · rw [hb] at q; exact absurd q (by decide)
            · exact q
          simp (disch := first | assumption | exact b01_01 | exact Or.inl rfl | exact Or.inr rfl | ((try simp (disch := omega) only [kd0, kd1, kd2, kd3, kd4, kd5, kd6, kd7, kd8, kd9, kd10, kd11, kd12, kd13, kd14, kd15, kd16, kd17, kd18, kd19, kd20, kd21, kd22, kd23, kd24, kd25, kd26, kd27, kd28, kd29, kd30, kd31, kd32, kd33, kd34, kd35, kd36, kd37, kd38, kd39, kd40, kd41, kd42, kd43, kd44, kd45, kd46, kd47, kd48, kd49, kd50, kd51, kd52, kd53, kd54, kd55, kd56, kd57, kd58, kd59, kd60, kd61, kd62, kd63, kd64, kd65, kd66, kd67, kd68, ln2, ln3, ln5, ln6, ln7, ln10, ln13, ln16, ln19, ln22, ln24, ln25, ln27, ln28, ln29, ln32, ln35, ln38, ln41, ln44, ln46, ln48, ln50, ln52, ln54, ln55, ln56, ln57, ln58, ln59, ln60, ln61, ln62, ln63, ln67, ln68, i0, i1, cl_nI, lt_F, le_F, eq_F, not_false_eq_true]) <;> omega) | fail) only [p97_73, p97_73n, p97_74, p97_77, p97_80, p97_80n, p97_81, p97_84, p97_84n, p97_85, p97_88, p97_91, p97_93, p97_93n, p97_94, p97_97, p97_98, kd0, kd1, kd2, kd3, kd4, kd5, kd6, kd7, kd8, kd9, kd10, kd11, kd12, kd13, kd14, kd15, kd16, kd17, kd18, kd19, kd20, kd21, kd22, kd23, kd24, kd25, kd26, kd27, kd28, kd29, kd30, kd31, kd32, kd33, kd34, kd35, kd36, kd37, kd38, kd39, kd40, kd41, kd42, kd43, kd44, kd45, kd46, kd47, kd48, kd49, kd50, kd51, kd52, kd53, kd54, kd55, kd56, kd57, kd58, kd59, kd60, kd61, kd62, kd63, kd64, kd65, kd66, kd67, kd68, ↓reduceIte, Nat.reduceAdd, Nat.reduceMul, Nat.reduceSub, i0, i1, i2, i3, i4, i5, i6, i7, i8, i9, i10, i14, i15, i16, i18, i20, i21, i23, i28, i31, i32, i33, i38, i40, i41, i48, i49, i51, i57, i60, i61, i62, i63, i97, i99, i100, i110, i124, i127, i140, i199, i200, i278, i286, i294, i394, i399, i1000, i1099, lt_T, lt_F, le_T, le_F, eq_T, eq_F, nI_add, pk_mul, pk_sub, nI_m1, cl_nI, dm_up_n1, dm_up_eq, dm_up_n2, not_true_eq_false, not_false_eq_true, if_true, if_false, true_and, and_true, false_and, and_false, true_or, or_true, false_or, or_false, Option.toList, List.cons_append, List.nil_append, b01_01, b01_T, b01_F, b01_n0, b01_n1, ite_self, pk_div, pk_rem, nI_shrA, nI_bt, nI_bt0, nI_bt1, t_hasBit, nsc, Nat.add_sub_cancel_left, Nat.add_sub_cancel, b1, b2, b3]
          exact hq
      · rw [if_neg hc] at hQ
        have hb : z.2.1 = false := by
          cases hzz : z.2.1 with
          | true => exact absurd (Or.inl hzz) hc
          | false => rfl
        have hz1 := hGd.2.1
        have hze : z.1 = (bT (sB s)).length := by
          have : ¬ z.1 < (bT (sB s)).length := fun q => hc (Or.inr q)
          omega
        obtain ⟨t1, t2, t3, t4, t5⟩ := hGd.2.2 hb
        obtain ⟨u1, u2⟩ := b7 hb
        have hNew : LawIs M' 54 j z.2.2.2 := by
          refine ⟨z.2.2.1, u1, by omega, fun i hi => ⟨u2 i hi, ?_⟩, fun set hs => t5 set hs [] (by rw [List.length_nil]; omega)⟩
          have : z.2.2.1.getD i 0 ∈ z.2.2.1 := by
            rw [List.getD_eq_getElem?_getD, List.getElem?_eq_getElem hi]
            exact List.getElem_mem hi
          exact t3 _ this
        have hRM : RM (dm_up M' 54 1 (nI (j + 1))) (setB s (setL (setT (sB s) []) (bL (sB s) ++ [z.2.2.2]))) := by
          have v54 : ∀ k, k < 394 → k ≠ 3 → k ≠ 1 → dm_up M' 54 1 (nI (j + 1)) 54 k = M 54 k := fun k h1 h2 h3 => (dm_up_n2 h3).trans (f54 k h1 h2)
          refine h.setB (hTn.setL (by rw [lapp]; omega) (fun t ht => by
            rcases List.mem_append.mp ht with e | e
            · exact hL6 t e
            · rw [List.mem_singleton.mp e]; exact t4)) (h.2.1.chg h.1.1.2.2.2.1 h.1.1.c48 rfl (fun k h1 h2 => v54 k (by omega) (by omega) (by omega)) (v54 0 (by omega) (by omega) (by omega)) ((v54 4 (by omega) (by omega) (by omega)).trans g1) (fun i hi => ⟨(v54 _ (by omega) (by omega) (by omega)).trans (g2 i hi).1, (v54 _ (by omega) (by omega) (by omega)).trans (g2 i hi).2⟩) ?_ (fun i hi => ?_) ((dm_up_n2 (by decide)).trans f543) (fun i hi => absurd hi (Nat.not_lt_zero _)) ((v54 2 (by omega) (by omega) (by omega)).trans g7) (fun i hi => ⟨(v54 _ (by have hi : i < (bS (sB s)).length := hi; omega) (by omega) (by omega)).trans (g8 i hi).1, (v54 _ (by have hi : i < (bS (sB s)).length := hi; omega) (by omega) (by omega)).trans (g8 i hi).2⟩)) ((up_ne (by decide)).trans (fa 55 (by decide) (by decide))) ((up_ne (by decide)).trans (fa 61 (by decide) (by decide))) (by rw [up_ne (by decide)]; exact f53 3 (by decide) (by decide) (by decide) (by decide) (by decide)) (by rw [up_ne (by decide)]; exact f53 18 (by decide) (by decide) (by decide) (by decide) (by decide))
          · rw [dm_up_eq]
            exact congrArg nI (by show j + 1 = (bL (sB s) ++ [z.2.2.2]).length; rw [lapp, hj])
          · have hi : i < (bL (sB s) ++ [z.2.2.2]).length := hi
            show LawIs _ 54 i ((bL (sB s) ++ [z.2.2.2]).getD i 0)
            rw [lapp, hj] at hi
            rw [gapp (by omega)]
            by_cases e : i = j
            · subst e
              rw [if_pos hj.symm]
              exact hNew.keep2 (dm_up_n2 (by omega)) (fun k _ => dm_up_n2 (by omega))
            · rw [if_neg (by omega)]
              exact (fl i (by omega)).keep2 (dm_up_n2 (by omega)) (fun k _ => dm_up_n2 (by omega))
        have hq := hQ _ hRM (fun a ha => by rw [up_ne (by omega)]; exact fa a (by omega) (by omega))
        rw [hb, show nI false.toNat = nI 0 from rfl] at b3
        simp (disch := first | assumption | exact b01_01 | exact Or.inl rfl | exact Or.inr rfl | ((try simp (disch := omega) only [kd0, kd1, kd2, kd3, kd4, kd5, kd6, kd7, kd8, kd9, kd10, kd11, kd12, kd13, kd14, kd15, kd16, kd17, kd18, kd19, kd20, kd21, kd22, kd23, kd24, kd25, kd26, kd27, kd28, kd29, kd30, kd31, kd32, kd33, kd34, kd35, kd36, kd37, kd38, kd39, kd40, kd41, kd42, kd43, kd44, kd45, kd46, kd47, kd48, kd49, kd50, kd51, kd52, kd53, kd54, kd55, kd56, kd57, kd58, kd59, kd60, kd61, kd62, kd63, kd64, kd65, kd66, kd67, kd68, ln2, ln3, ln5, ln6, ln7, ln10, ln13, ln16, ln19, ln22, ln24, ln25, ln27, ln28, ln29, ln32, ln35, ln38, ln41, ln44, ln46, ln48, ln50, ln52, ln54, ln55, ln56, ln57, ln58, ln59, ln60, ln61, ln62, ln63, ln67, ln68, i0, i1, cl_nI, lt_F, le_F, eq_F, not_false_eq_true]) <;> omega) | fail) only [p97_73, p97_73n, p97_74, p97_77, p97_80, p97_80n, p97_81, p97_84, p97_84n, p97_85, p97_88, p97_99, p97_99n, p97_100, p97_103, p97_104, p97_105, p97_106, p97_107, p97_108, p97_109, p97_109n, p97_110, p97_113, kd0, kd1, kd2, kd3, kd4, kd5, kd6, kd7, kd8, kd9, kd10, kd11, kd12, kd13, kd14, kd15, kd16, kd17, kd18, kd19, kd20, kd21, kd22, kd23, kd24, kd25, kd26, kd27, kd28, kd29, kd30, kd31, kd32, kd33, kd34, kd35, kd36, kd37, kd38, kd39, kd40, kd41, kd42, kd43, kd44, kd45, kd46, kd47, kd48, kd49, kd50, kd51, kd52, kd53, kd54, kd55, kd56, kd57, kd58, kd59, kd60, kd61, kd62, kd63, kd64, kd65, kd66, kd67, kd68, ln2, ln3, ln5, ln6, ln7, ln10, ln13, ln16, ln19, ln22, ln24, ln25, ln27, ln28, ln29, ln32, ln35, ln38, ln41, ln44, ln46, ln48, ln50, ln52, ln54, ln55, ln56, ln57, ln58, ln59, ln60, ln61, ln62, ln63, ln67, ln68, rf0_0, rf0_1, rf0_3, rf0_4, rf0_6, rf0_7, rf0_8, rf1_1, rf1_2, rf1_3, rf1_5, rf1_7, rf1_9, rf8_4, rf9_0, rf11_4, rf12_0, rf14_4, rf15_0, rf17_4, rf18_0, rf20_4, rf21_0, rf23_1, rf23_2, rf23_3, rf23_5, rf23_7, rf23_9, rf30_4, rf31_0, rf33_4, rf34_0, rf36_4, rf37_0, rf39_4, rf40_0, rf42_4, rf43_0, rf47_0, rf49_0, rf51_0, rf53_1, rf53_2, rf53_9, rf53_10, rf53_11, rf53_14, rf53_16, rf53_17, rf65_0, rf66_0, ↓reduceIte, Nat.reduceAdd, Nat.reduceMul, Nat.reduceSub, i0, i1, i2, i3, i4, i5, i6, i7, i8, i9, i10, i14, i15, i16, i18, i20, i21, i23, i28, i31, i32, i33, i38, i40, i41, i48, i49, i51, i57, i60, i61, i62, i63, i97, i99, i100, i110, i124, i127, i140, i199, i200, i278, i286, i294, i394, i399, i1000, i1099, lt_T, lt_F, le_T, le_F, eq_T, eq_F, nI_add, pk_mul, pk_sub, nI_m1, cl_nI, dm_up_n1, dm_up_eq, dm_up_n2, not_true_eq_false, not_false_eq_true, if_true, if_false, true_and, and_true, false_and, and_false, true_or, or_true, false_or, or_false, Option.toList, List.cons_append, List.nil_append, b01_01, b01_T, b01_F, b01_n0, b01_n1, ite_self, pk_div, pk_rem, nI_shrA, nI_bt, nI_bt0, nI_bt1, t_hasBit, nsc, Nat.add_sub_cancel_left, Nat.add_sub_cancel, b1, b2, b3, b5, hze, g3']
        exact hq
    refine hgo _ ⟨?_, ?_, ?_, ?_, ?_, fun i hi => ?_, fun _ => ⟨?_, fun i hi => absurd hi (Nat.not_lt_zero _)⟩, h100, hl4, hT, hS.keep (fun a ha => ?_)⟩ (fun a h1 h2 => ?_) (fun k h1 h2 h3 h4 h5 => ?_) (fun k h1 h2 => ?_) ?_
    · simp (disch := omega) only [dm_up_n1, dm_up_n2, dm_up_eq]
    · simp (disch := omega) only [dm_up_n1, dm_up_n2, dm_up_eq]
    · simp (disch := omega) only [dm_up_n1, dm_up_n2, dm_up_eq]; rfl
    · simp (disch := omega) only [dm_up_n1, dm_up_n2, dm_up_eq]
    · simp (disch := omega) only [dm_up_n1, dm_up_n2, dm_up_eq]
    · simp (disch := omega) only [dm_up_n1, dm_up_n2, dm_up_eq]; exact g6 i hi
    · simp (disch := omega) only [dm_up_n1, dm_up_n2, dm_up_eq]; rfl
    · simp (disch := omega) only [up_ne]
    · simp (disch := omega) only [up_ne]
    · simp (disch := omega) only [dm_up_n1, dm_up_n2, dm_up_eq]
    · simp (disch := omega) only [dm_up_n1, dm_up_n2, dm_up_eq]
    · simp (disch := omega) only [dm_up_n1, dm_up_n2, dm_up_eq]
end
