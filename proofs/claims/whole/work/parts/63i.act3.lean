/-! act: both -/
def setA (s : Sg) (l : List Nat) : Sg := (s.1, s.2.1, l.length, fun i => l.getD i 0)
def actV (k a : Nat) (num v x : Int32) : Int32 := if a = 0 then wV k num x else if a = 1 then hV k k num v x else tV k k num v x
def actT (k a : Nat) : List Nat := if a = 0 then wT k else if a = 1 then hT k k else tT k k
def f_act (s : Sg) (x y z : Int32) : Int32 × Sg := match ixo x (bC (sB s)).length with
  | none => (0, setA s [])
  | some i => match ixo y 3 with
    | none => (0, setA s [])
    | some a => (actV (bCd (sB s) i).1 a (nI i) (nI (bCd (sB s) i).2.1) z, setA s (actT (bCd (sB s) i).1 a))
theorem actT_ok {k a : Nat} (hk : k < 7) (ha : a < 3) : (actT k a).length < 20 ∧ ∀ t ∈ actT k a, t < 100 := by
  obtain ⟨h1, h2, h3, h4, h5, h6⟩ := trT_lt k hk k hk
  rcases three ha with rfl | rfl | rfl
  · exact ⟨by show (wT k).length < 20; omega, h4⟩
  · exact ⟨by show (hT k k).length < 20; omega, h5⟩
  · exact ⟨by show (tT k k).length < 20; omega, h6⟩
theorem gA100 {l : List Nat} (h : ∀ t ∈ l, t < 100) (i : Nat) : l.getD i 0 < 100 := by
  rw [List.getD_eq_getElem?_getD]
  rcases Nat.lt_or_ge i l.length with z | z
  · rw [List.getElem?_eq_getElem z]
    exact h _ (List.getElem_mem z)
  · rw [List.getElem?_eq_none z]
    exact Nat.zero_lt_succ _
section
variable {d i j n sets : Nat} {x y z : Int32} {M : dm_M} {Q : Option Value → dm_M → Prop} {s : Sg} {f : Bool}
theorem RC.act {M' : dm_M} {l : List Nat} (h : RC M s) (hK : ActK M M') (hL : TrL M' l) (hl : l.length < 20) (h100 : ∀ t ∈ l, t < 100) : RC M' (setA s l) ∧ KC M M' := by
  obtain ⟨h1, h2, h3, h4, h5, h6, h7⟩ := h
  refine ⟨⟨⟨h1.1, h1.2.1, (by show l.length < 100; omega), fun i => gA100 h100 i⟩, h2.keep h1.1.2.2.2.1 (fun a _ _ => hK.cell (by omega) (by omega)), by rw [hK 0 2 (by decide) (fun _ => by decide)]; exact h3, fun b hb => (h4 b hb).keep (h1.2.1 b hb).2.2.2.1 (fun a _ _ => hK.cell (by omega) (by omega)), fun i hi => by rw [hK.cell (by omega) (by omega)]; exact h5 i hi, hL.1, fun i h8 _ => hL.2 i h8⟩, fun a ha => hK.cell (by omega) (by omega)⟩
theorem c_act (hTb : Tab M) (h : RC M s) (hQ : ∀ M', RC M' (f_act s x y z).2 → KC M M' → Q (some (.int (f_act s x y z).1)) M') : dm_cp (d + 8) 82 [.ref 0, .int x, .int y, .int z] M Q := by
  have hK0 : ActK M (dm_up M 0 5 (nI 0)) := fun a b e1 e2 => by rw [dm_up_at, if_neg (fun z => e2 z.1 z.2)]
  have hL0 : TrL (dm_up M 0 5 (nI 0)) [] := ⟨dm_up_eq, fun i hi => absurd hi (Nat.not_lt_zero _)⟩
  have h0 := h.act hK0 hL0 (by decide) (fun t ht => absurd ht List.not_mem_nil)
  rw [e82]
  unfold f_act at hQ
  have hx' : (bC (sB (setA s []))).length = (bC (sB s)).length := rfl
  cases hx : ixo x (bC (sB s)).length with
  | none =>
    rw [hx] at hQ
    have hq := hQ _ h0.1 h0.2
    have hA := fun (d : Nat) (Q : Option Value → dm_M → Prop) => t_cordN (d := d) (Q := Q) h0.1 (x := x) (by rw [hx']; exact hx)
    simp (disch := first | assumption | exact b01_01 | exact Or.inl rfl | exact Or.inr rfl | ((try simp (disch := omega) only [kd0, kd1, kd2, kd3, kd4, kd5, kd6, kd7, kd8, kd9, kd10, kd11, kd12, kd13, kd14, kd15, kd16, kd17, kd18, kd19, kd20, kd21, kd22, kd23, kd24, kd25, kd26, kd27, kd28, kd29, kd30, kd31, kd32, kd33, kd34, kd35, kd36, kd37, kd38, kd39, kd40, kd41, kd42, kd43, kd44, kd45, kd46, kd47, kd48, kd49, kd50, kd51, kd52, kd53, kd54, kd55, kd56, kd57, kd58, kd59, kd60, kd61, kd62, kd63, kd64, kd65, kd66, kd67, kd68, ln2, ln3, ln5, ln6, ln7, ln10, ln13, ln16, ln19, ln22, ln24, ln25, ln27, ln28, ln29, ln32, ln35, ln38, ln41, ln44, ln46, ln48, ln50, ln52, ln54, ln55, ln56, ln57, ln58, ln59, ln60, ln61, ln62, ln63, ln67, ln68, i0, i1, cl_nI, lt_F, le_F, eq_F, not_false_eq_true]) <;> omega) | fail) only [p82_0, p82_0n, p82_1, p82_2, p82_5, p82_5n, p82_6, p82_9, p82_10, p82_13, p82_13n, p82_15, p82_15n, p82_17, p82_17n, p82_20, p82_21, p82_24, p82_25, p82_26, p82_29, p82_30, p82_31, p82_31n, p82_32, p82_32n, p82_34, p82_34n, p82_36, p82_39, p82_40, p82_41, p82_42, p82_45, kd0, kd1, kd2, kd3, kd4, kd5, kd6, kd7, kd8, kd9, kd10, kd11, kd12, kd13, kd14, kd15, kd16, kd17, kd18, kd19, kd20, kd21, kd22, kd23, kd24, kd25, kd26, kd27, kd28, kd29, kd30, kd31, kd32, kd33, kd34, kd35, kd36, kd37, kd38, kd39, kd40, kd41, kd42, kd43, kd44, kd45, kd46, kd47, kd48, kd49, kd50, kd51, kd52, kd53, kd54, kd55, kd56, kd57, kd58, kd59, kd60, kd61, kd62, kd63, kd64, kd65, kd66, kd67, kd68, rf0_0, rf0_1, rf0_3, rf0_4, rf0_6, rf0_7, rf0_8, rf1_1, rf1_2, rf1_3, rf1_5, rf1_7, rf1_9, rf8_4, rf9_0, rf11_4, rf12_0, rf14_4, rf15_0, rf17_4, rf18_0, rf20_4, rf21_0, rf23_1, rf23_2, rf23_3, rf23_5, rf23_7, rf23_9, rf30_4, rf31_0, rf33_4, rf34_0, rf36_4, rf37_0, rf39_4, rf40_0, rf42_4, rf43_0, rf47_0, rf49_0, rf51_0, rf53_1, rf53_2, rf53_9, rf53_10, rf53_11, rf53_14, rf53_16, rf53_17, rf65_0, rf66_0, ↓reduceIte, Nat.reduceAdd, Nat.reduceMul, Nat.reduceSub, i0, i1, i2, i3, i4, i5, i6, i7, i8, i9, i10, i14, i15, i16, i18, i20, i21, i23, i28, i31, i32, i33, i38, i40, i41, i48, i49, i51, i57, i60, i61, i62, i63, i97, i99, i100, i110, i124, i127, i140, i199, i200, i278, i286, i294, i394, i399, i1000, i1099, lt_T, lt_F, le_T, le_F, eq_T, eq_F, nI_add, pk_mul, pk_sub, nI_m1, cl_nI, dm_up_n1, dm_up_eq, dm_up_n2, not_true_eq_false, not_false_eq_true, if_true, if_false, true_and, and_true, false_and, and_false, true_or, or_true, false_or, or_false, Option.toList, List.cons_append, List.nil_append, b01_01, b01_T, b01_F, b01_n0, b01_n1, ite_self, pk_div, pk_rem, nI_shrA, nI_bt, nI_bt0, nI_bt1, t_hasBit, nsc, Nat.add_sub_cancel_left, Nat.add_sub_cancel, hA]
    exact hq
  | some i =>
    rw [hx] at hQ
    have h1 := (ixo_some hx).1
    obtain ⟨c, hc, k1, r1, k2, b1, b2, hnum, hC⟩ := h0.1.cord (i := i) h1
    have hA := fun (d : Nat) (Q : Option Value → dm_M → Prop) => t_cordS (d := d) (Q := Q) h0.1 (x := x) (by rw [hx']; exact hx) hc
    have hok := h.1.1.cd h1
    obtain ⟨e1, e2, e3, hR, h8⟩ := hC
    have hCd : CdA (dm_up M 0 5 (nI 0)) c i (bCd (sB s) i).1 (bCd (sB s) i).2.1 := ⟨k1, by omega, by omega, hnum, e1, e2⟩
    have e1' : dm_up M 0 5 (nI 0) c 1 = nI (bCd (sB s) i).1 := e1
    dsimp only at hQ
    cases hy : ixo y 3 with
    | none =>
      rw [hy] at hQ
      have hq := hQ _ h0.1 h0.2
      rcases ixo_none (by decide) hy with z0 | z0
      · obtain ⟨g1, g2, g3, g4, g5⟩ := neg_facts z0
        simp (disch := first | assumption | exact b01_01 | exact Or.inl rfl | exact Or.inr rfl | ((try simp (disch := omega) only [kd0, kd1, kd2, kd3, kd4, kd5, kd6, kd7, kd8, kd9, kd10, kd11, kd12, kd13, kd14, kd15, kd16, kd17, kd18, kd19, kd20, kd21, kd22, kd23, kd24, kd25, kd26, kd27, kd28, kd29, kd30, kd31, kd32, kd33, kd34, kd35, kd36, kd37, kd38, kd39, kd40, kd41, kd42, kd43, kd44, kd45, kd46, kd47, kd48, kd49, kd50, kd51, kd52, kd53, kd54, kd55, kd56, kd57, kd58, kd59, kd60, kd61, kd62, kd63, kd64, kd65, kd66, kd67, kd68, ln2, ln3, ln5, ln6, ln7, ln10, ln13, ln16, ln19, ln22, ln24, ln25, ln27, ln28, ln29, ln32, ln35, ln38, ln41, ln44, ln46, ln48, ln50, ln52, ln54, ln55, ln56, ln57, ln58, ln59, ln60, ln61, ln62, ln63, ln67, ln68, i0, i1, cl_nI, lt_F, le_F, eq_F, not_false_eq_true]) <;> omega) | fail) only [p82_0, p82_0n, p82_1, p82_2, p82_5, p82_5n, p82_6, p82_9, p82_10, p82_13, p82_13n, p82_15, p82_15n, p82_17, p82_17n, p82_20, p82_21, p82_24, p82_25, p82_26, p82_29, p82_30, p82_31, p82_31n, p82_32, p82_32n, p82_34, p82_34n, p82_36, p82_39, p82_40, p82_41, p82_42, p82_45, kd0, kd1, kd2, kd3, kd4, kd5, kd6, kd7, kd8, kd9, kd10, kd11, kd12, kd13, kd14, kd15, kd16, kd17, kd18, kd19, kd20, kd21, kd22, kd23, kd24, kd25, kd26, kd27, kd28, kd29, kd30, kd31, kd32, kd33, kd34, kd35, kd36, kd37, kd38, kd39, kd40, kd41, kd42, kd43, kd44, kd45, kd46, kd47, kd48, kd49, kd50, kd51, kd52, kd53, kd54, kd55, kd56, kd57, kd58, kd59, kd60, kd61, kd62, kd63, kd64, kd65, kd66, kd67, kd68, rf0_0, rf0_1, rf0_3, rf0_4, rf0_6, rf0_7, rf0_8, rf1_1, rf1_2, rf1_3, rf1_5, rf1_7, rf1_9, rf8_4, rf9_0, rf11_4, rf12_0, rf14_4, rf15_0, rf17_4, rf18_0, rf20_4, rf21_0, rf23_1, rf23_2, rf23_3, rf23_5, rf23_7, rf23_9, rf30_4, rf31_0, rf33_4, rf34_0, rf36_4, rf37_0, rf39_4, rf40_0, rf42_4, rf43_0, rf47_0, rf49_0, rf51_0, rf53_1, rf53_2, rf53_9, rf53_10, rf53_11, rf53_14, rf53_16, rf53_17, rf65_0, rf66_0, ↓reduceIte, Nat.reduceAdd, Nat.reduceMul, Nat.reduceSub, i0, i1, i2, i3, i4, i5, i6, i7, i8, i9, i10, i14, i15, i16, i18, i20, i21, i23, i28, i31, i32, i33, i38, i40, i41, i48, i49, i51, i57, i60, i61, i62, i63, i97, i99, i100, i110, i124, i127, i140, i199, i200, i278, i286, i294, i394, i399, i1000, i1099, lt_T, lt_F, le_T, le_F, eq_T, eq_F, nI_add, pk_mul, pk_sub, nI_m1, cl_nI, dm_up_n1, dm_up_eq, dm_up_n2, not_true_eq_false, not_false_eq_true, if_true, if_false, true_and, and_true, false_and, and_false, true_or, or_true, false_or, or_false, Option.toList, List.cons_append, List.nil_append, b01_01, b01_T, b01_F, b01_n0, b01_n1, ite_self, pk_div, pk_rem, nI_shrA, nI_bt, nI_bt0, nI_bt1, t_hasBit, nsc, Nat.add_sub_cancel_left, Nat.add_sub_cancel, hA, g1, g2, g3, g4, g5]
        exact hq
      · obtain ⟨g1, g2, g3, g4, g5⟩ := big_facts (by decide) z0
        simp (disch := first | assumption | exact b01_01 | exact Or.inl rfl | exact Or.inr rfl | ((try simp (disch := omega) only [kd0, kd1, kd2, kd3, kd4, kd5, kd6, kd7, kd8, kd9, kd10, kd11, kd12, kd13, kd14, kd15, kd16, kd17, kd18, kd19, kd20, kd21, kd22, kd23, kd24, kd25, kd26, kd27, kd28, kd29, kd30, kd31, kd32, kd33, kd34, kd35, kd36, kd37, kd38, kd39, kd40, kd41, kd42, kd43, kd44, kd45, kd46, kd47, kd48, kd49, kd50, kd51, kd52, kd53, kd54, kd55, kd56, kd57, kd58, kd59, kd60, kd61, kd62, kd63, kd64, kd65, kd66, kd67, kd68, ln2, ln3, ln5, ln6, ln7, ln10, ln13, ln16, ln19, ln22, ln24, ln25, ln27, ln28, ln29, ln32, ln35, ln38, ln41, ln44, ln46, ln48, ln50, ln52, ln54, ln55, ln56, ln57, ln58, ln59, ln60, ln61, ln62, ln63, ln67, ln68, i0, i1, cl_nI, lt_F, le_F, eq_F, not_false_eq_true]) <;> omega) | fail) only [p82_0, p82_0n, p82_1, p82_2, p82_5, p82_5n, p82_6, p82_9, p82_10, p82_13, p82_13n, p82_15, p82_15n, p82_17, p82_17n, p82_20, p82_21, p82_24, p82_25, p82_26, p82_29, p82_30, p82_31, p82_31n, p82_32, p82_32n, p82_34, p82_34n, p82_36, p82_39, p82_40, p82_41, p82_42, p82_45, kd0, kd1, kd2, kd3, kd4, kd5, kd6, kd7, kd8, kd9, kd10, kd11, kd12, kd13, kd14, kd15, kd16, kd17, kd18, kd19, kd20, kd21, kd22, kd23, kd24, kd25, kd26, kd27, kd28, kd29, kd30, kd31, kd32, kd33, kd34, kd35, kd36, kd37, kd38, kd39, kd40, kd41, kd42, kd43, kd44, kd45, kd46, kd47, kd48, kd49, kd50, kd51, kd52, kd53, kd54, kd55, kd56, kd57, kd58, kd59, kd60, kd61, kd62, kd63, kd64, kd65, kd66, kd67, kd68, rf0_0, rf0_1, rf0_3, rf0_4, rf0_6, rf0_7, rf0_8, rf1_1, rf1_2, rf1_3, rf1_5, rf1_7, rf1_9, rf8_4, rf9_0, rf11_4, rf12_0, rf14_4, rf15_0, rf17_4, rf18_0, rf20_4, rf21_0, rf23_1, rf23_2, rf23_3, rf23_5, rf23_7, rf23_9, rf30_4, rf31_0, rf33_4, rf34_0, rf36_4, rf37_0, rf39_4, rf40_0, rf42_4, rf43_0, rf47_0, rf49_0, rf51_0, rf53_1, rf53_2, rf53_9, rf53_10, rf53_11, rf53_14, rf53_16, rf53_17, rf65_0, rf66_0, ↓reduceIte, Nat.reduceAdd, Nat.reduceMul, Nat.reduceSub, i0, i1, i2, i3, i4, i5, i6, i7, i8, i9, i10, i14, i15, i16, i18, i20, i21, i23, i28, i31, i32, i33, i38, i40, i41, i48, i49, i51, i57, i60, i61, i62, i63, i97, i99, i100, i110, i124, i127, i140, i199, i200, i278, i286, i294, i394, i399, i1000, i1099, lt_T, lt_F, le_T, le_F, eq_T, eq_F, nI_add, pk_mul, pk_sub, nI_m1, cl_nI, dm_up_n1, dm_up_eq, dm_up_n2, not_true_eq_false, not_false_eq_true, if_true, if_false, true_and, and_true, false_and, and_false, true_or, or_true, false_or, or_false, Option.toList, List.cons_append, List.nil_append, b01_01, b01_T, b01_F, b01_n0, b01_n1, ite_self, pk_div, pk_rem, nI_shrA, nI_bt, nI_bt0, nI_bt1, t_hasBit, nsc, Nat.add_sub_cancel_left, Nat.add_sub_cancel, hA, g1, g2, g3, g4, g5]
        exact hq
    | some a =>
      rw [hy] at hQ
      obtain ⟨h3, rfl, h4⟩ := ixo_some hy
      dsimp only at hQ
      have hTb2 : Tab (dm_up M 0 5 (nI 0)) := hK0.tab hTb
      have hfin : ∀ M', TrL M' ([] ++ actT (bCd (sB s) i).1 a) → ActK (dm_up M 0 5 (nI 0)) M' → Q (some (.int (actV (bCd (sB s) i).1 a (nI i) (nI (bCd (sB s) i).2.1) z))) M' := by
        intro M' hL' hK'
        rw [List.nil_append] at hL'
        obtain ⟨o1, o2⟩ := actT_ok hok.1 h3
        obtain ⟨q1, q2⟩ := h.act (hK0.trans hK') hL' o1 o2
        exact hQ M' q1 q2
      have hk70 : ¬ c = 70 := by omega
      have hc0 : ¬ c = 0 := by omega
      generalize hM0 : dm_up M 0 5 (nI 0) = M0 at *
      simp (disch := first | assumption | exact b01_01 | exact Or.inl rfl | exact Or.inr rfl | ((try simp (disch := omega) only [kd0, kd1, kd2, kd3, kd4, kd5, kd6, kd7, kd8, kd9, kd10, kd11, kd12, kd13, kd14, kd15, kd16, kd17, kd18, kd19, kd20, kd21, kd22, kd23, kd24, kd25, kd26, kd27, kd28, kd29, kd30, kd31, kd32, kd33, kd34, kd35, kd36, kd37, kd38, kd39, kd40, kd41, kd42, kd43, kd44, kd45, kd46, kd47, kd48, kd49, kd50, kd51, kd52, kd53, kd54, kd55, kd56, kd57, kd58, kd59, kd60, kd61, kd62, kd63, kd64, kd65, kd66, kd67, kd68, ln2, ln3, ln5, ln6, ln7, ln10, ln13, ln16, ln19, ln22, ln24, ln25, ln27, ln28, ln29, ln32, ln35, ln38, ln41, ln44, ln46, ln48, ln50, ln52, ln54, ln55, ln56, ln57, ln58, ln59, ln60, ln61, ln62, ln63, ln67, ln68, i0, i1, cl_nI, lt_F, le_F, eq_F, not_false_eq_true]) <;> omega) | fail) only [p82_0, p82_0n, p82_1, p82_2, p82_5, p82_5n, p82_6, p82_9, p82_10, p82_13, p82_13n, p82_15, p82_15n, p82_17, p82_17n, p82_20, p82_21, p82_24, p82_25, p82_26, p82_29, p82_30, p82_31, p82_31n, p82_32, p82_32n, p82_34, p82_34n, p82_36, p82_39, p82_40, p82_41, p82_42, p82_45, kd0, kd1, kd2, kd3, kd4, kd5, kd6, kd7, kd8, kd9, kd10, kd11, kd12, kd13, kd14, kd15, kd16, kd17, kd18, kd19, kd20, kd21, kd22, kd23, kd24, kd25, kd26, kd27, kd28, kd29, kd30, kd31, kd32, kd33, kd34, kd35, kd36, kd37, kd38, kd39, kd40, kd41, kd42, kd43, kd44, kd45, kd46, kd47, kd48, kd49, kd50, kd51, kd52, kd53, kd54, kd55, kd56, kd57, kd58, kd59, kd60, kd61, kd62, kd63, kd64, kd65, kd66, kd67, kd68, rf0_0, rf0_1, rf0_3, rf0_4, rf0_6, rf0_7, rf0_8, rf1_1, rf1_2, rf1_3, rf1_5, rf1_7, rf1_9, rf8_4, rf9_0, rf11_4, rf12_0, rf14_4, rf15_0, rf17_4, rf18_0, rf20_4, rf21_0, rf23_1, rf23_2, rf23_3, rf23_5, rf23_7, rf23_9, rf30_4, rf31_0, rf33_4, rf34_0, rf36_4, rf37_0, rf39_4, rf40_0, rf42_4, rf43_0, rf47_0, rf49_0, rf51_0, rf53_1, rf53_2, rf53_9, rf53_10, rf53_11, rf53_14, rf53_16, rf53_17, rf65_0, rf66_0, ↓reduceIte, Nat.reduceAdd, Nat.reduceMul, Nat.reduceSub, i0, i1, i2, i3, i4, i5, i6, i7, i8, i9, i10, i14, i15, i16, i18, i20, i21, i23, i28, i31, i32, i33, i38, i40, i41, i48, i49, i51, i57, i60, i61, i62, i63, i97, i99, i100, i110, i124, i127, i140, i199, i200, i278, i286, i294, i394, i399, i1000, i1099, lt_T, lt_F, le_T, le_F, eq_T, eq_F, nI_add, pk_mul, pk_sub, nI_m1, cl_nI, dm_up_n1, dm_up_eq, dm_up_n2, not_true_eq_false, not_false_eq_true, if_true, if_false, true_and, and_true, false_and, and_false, true_or, or_true, false_or, or_false, Option.toList, List.cons_append, List.nil_append, b01_01, b01_T, b01_F, b01_n0, b01_n1, ite_self, pk_div, pk_rem, nI_shrA, nI_bt, nI_bt0, nI_bt1, t_hasBit, nsc, Nat.add_sub_cancel_left, Nat.add_sub_cancel, hA, hM0, e1']
      rcases three h3 with rfl | rfl | rfl
      · exact t_W (d := d + 4) (dep := 0) hTb2 hok.1 hCd (by omega) hL0 (by decide) (fun M2 hL2 hK2 => by
          simp only [p82_45, Option.toList, List.cons_append, List.nil_append]
          exact hfin M2 hL2 hK2)
      · exact t_H (d := d + 2) (dep := 0) hTb2 hok.1 hok.1 hCd (by omega) hL0 (by decide) (fun M2 hL2 hK2 => by
          simp only [p82_45, Option.toList, List.cons_append, List.nil_append]
          exact hfin M2 hL2 hK2)
      · exact t_Tl (d := d) (dep := 0) hTb2 hok.1 hCd (by omega) hL0 (by decide) (fun M2 hL2 hK2 => by
          simp only [p82_45, Option.toList, List.cons_append, List.nil_append]
          exact hfin M2 hL2 hK2)
end
