/-! weave: both -/
def revx (W : List Nat) : Nat → List Nat
  | 0 => []
  | j + 1 => revx W j ++ [W.getD (W.length - 1 - j) 0 ^^^ 1]
def curW (W : List Nat) (k j : Nat) : List Nat := W ++ ([2 * k] ++ revx W j)
def wv1 (W : List Nat) (k : Nat) : List Nat := if W.length = 0 then [2 * k] else curW W k W.length ++ [2 * k + 1]
def wvN (set : Nat) : Nat → List Nat
  | 0 => []
  | k + 1 => if set.testBit k = true then wv1 (wvN set k) k else wvN set k
theorem revx_len {W : List Nat} : ∀ j, (revx W j).length = j
  | 0 => rfl
  | j + 1 => by
    unfold revx
    rw [lapp, revx_len j]
theorem curW_len {W : List Nat} {k j : Nat} : (curW W k j).length = W.length + 1 + j := by
  unfold curW
  rw [List.length_append, List.length_append, revx_len]
  show W.length + (1 + j) = _
  omega
theorem curW_s {W : List Nat} {k j : Nat} : curW W k (j + 1) = curW W k j ++ [W.getD (W.length - 1 - j) 0 ^^^ 1] := by
  unfold curW
  conv => lhs; unfold revx
  rw [← List.append_assoc, ← List.append_assoc, ← List.append_assoc]
theorem curW_0 {W : List Nat} {k : Nat} : curW W k 0 = W ++ [2 * k] := by
  unfold curW revx
  rw [List.append_nil]
theorem curW_get {W : List Nat} {k j i : Nat} (h : i < W.length) : (curW W k j).getD i 0 = W.getD i 0 := by
  unfold curW
  rw [List.getD_eq_getElem?_getD, List.getD_eq_getElem?_getD, List.getElem?_append_left h]
theorem wv1_len {W : List Nat} {k : Nat} : (wv1 W k).length ≤ 2 * W.length + 2 := by
  unfold wv1
  split
  · show 1 ≤ _; omega
  · rw [lapp, curW_len]; omega
theorem wvN_s {set k : Nat} : wvN set (k + 1) = if set.testBit k = true then wv1 (wvN set k) k else wvN set k := rfl
def wvL : Nat → Nat
  | 0 => 0
  | k + 1 => 2 * wvL k + 2
theorem wvN_len {set : Nat} : ∀ k, (wvN set k).length ≤ wvL k
  | 0 => Nat.le_refl _
  | k + 1 => by
    have ih := wvN_len (set := set) k
    rw [wvN_s]
    unfold wvL
    split
    · have := wv1_len (W := wvN set k) (k := k)
      omega
    · omega
theorem wvL_30 {k : Nat} (h : k < 5) : wvL k ≤ 30 := by
  have : ∀ k, k < 5 → wvL k ≤ 30 := by decide
  exact this k h
theorem flip_lt : ∀ k, k < 5 → ∀ t, t < 2 * k → t ^^^ 1 < 2 * k := by decide
theorem wvN_lt {set : Nat} : ∀ k, k < 5 → ∀ t ∈ wvN set k, t < 2 * k
  | 0, _ => fun t ht => absurd ht List.not_mem_nil
  | k + 1, hk => by
    have ih := wvN_lt (set := set) k (by omega)
    have hr : ∀ j, ∀ t ∈ revx (wvN set k) j, j ≤ (wvN set k).length → t < 2 * k := by
      intro j
      induction j with
      | zero => intro t ht _; exact absurd ht List.not_mem_nil
      | succ j ihj =>
        intro t ht hj
        unfold revx at ht
        rcases List.mem_append.mp ht with z | z
        · exact ihj t z (by omega)
        · rw [List.mem_singleton.mp z]
          refine flip_lt k (by omega) _ (ih _ ?_)
          rw [List.getD_eq_getElem?_getD, List.getElem?_eq_getElem (by omega)]
          exact List.getElem_mem _
    rw [wvN_s]
    intro t ht
    split at ht
    · unfold wv1 at ht
      split at ht
      · rw [List.mem_singleton.mp ht]; omega
      · rcases List.mem_append.mp ht with z | z
        · unfold curW at z
          rcases List.mem_append.mp z with z | z
          · have := ih t z; omega
          · rcases List.mem_append.mp z with z | z
            · rw [List.mem_singleton.mp z]; omega
            · have := hr _ t z (Nat.le_refl _); omega
        · rw [List.mem_singleton.mp z]; omega
    · have := ih t ht; omega
def f_weave (s : Sg) (x y : Int32) : Int32 × Sg := match ixo x (bC (sB s)).length with
  | none => (-1, s)
  | some i => match ixo y (2 ^ bN (sB s)) with
    | none => (-2, s)
    | some t => if t = 0 then (-2, s) else (nI (wvN t (bN (sB s))).length, setB s (setC (sB s) ((bC (sB s)).set i (setTs (bCd (sB s) i) (wvN t (bN (sB s)))))))
section
variable {d i n sets : Nat} {x y z : Int32} {M : dm_M} {Q : Option Value → dm_M → Prop} {s : Sg} {f : Bool}
/-- nothing but a row has changed -/
def RowK (q : Nat) (M0 M : dm_M) : Prop := ∀ a, a ≠ q → a ≠ q + 1 → M a = M0 a
theorem RowK.refl {q : Nat} : RowK q M M := fun _ _ _ => rfl
theorem RowK.trans {q : Nat} {M1 M2 M3 : dm_M} (h1 : RowK q M1 M2) (h2 : RowK q M2 M3) : RowK q M1 M3 := fun a b c => (h2 a b c).trans (h1 a b c)
theorem t_add {q t : Nat} {ts : List Nat} (h : dm_kd q = 3) (hR : RowIs M q ts) (hl : ts.length < 49) (hQ : ∀ M', RowIs M' q (ts ++ [t]) → RowK q M M' → Q none M') : dm_cp d 11 [.ref q, .int (nI t)] M Q :=
  (s_add h hR.1 hl).mpr (hQ _ (hR.push hl) (fun a h1 h2 => by rw [up_ne h1, up_ne h2]))
theorem wi_loop {q k : Nat} {W : List Nat} {M0 : dm_M} (hq : dm_kd q = 3) (hW : ∀ t ∈ W, t < 8) (hl : 2 * W.length + 2 ≤ 48)
    (hQ : ∀ M', RowIs M' q (curW W k W.length) → RowK q M0 M' → dm_wp (d + 1) 16 42 [some (.ref q), some (.int (nI k)), some (.int (nI W.length)), some (.int (-nI 1))] [] M' Q) :
    ∀ (r j : Nat) (M : dm_M), j + r = W.length → RowIs M q (curW W k j) → RowK q M0 M → dm_wp (d + 1) 16 21 [some (.ref q), some (.int (nI k)), some (.int (nI W.length)), some (.int (nI (W.length - j) - nI 1))] [] M Q := by
  intro r
  induction r with
  | zero =>
    intro j M hj hR hK
    have e : j = W.length := by omega
    subst e
    rw [Nat.sub_self, show nI 0 - nI 1 = -nI 1 from by decide]
    have e1 : (-nI 1 < nI 0) = True := eq_true (by decide)
    simp (disch := omega) only [p16_21, p16_22, i0, e1, if_true]
    exact hQ M hR hK
  | succ r ih =>
    intro j M hj hR hK
    have e0 : nI (W.length - j) - nI 1 = nI (W.length - 1 - j) := by rw [pk_sub (by omega)]; congr 1; omega
    have ee : nI (W.length - 1 - j) + -nI 1 = nI (W.length - (j + 1)) - nI 1 := by rw [show W.length - (j + 1) = W.length - 1 - j by omega, Int32.sub_eq_add_neg]
    have hlt : W.length - 1 - j < (curW W k j).length := by rw [curW_len]; omega
    have hT := fun (d : Nat) (Q : Option Value → dm_M → Prop) => s_turnAt_in (d := d) (Q := Q) hq hR hlt
    rw [curW_get (by omega)] at hT
    have h8 : W.getD (W.length - 1 - j) 0 < 8 := getD_lt hW (by omega)
    have hfl : nI (W.getD (W.length - 1 - j) 0) ^^^ nI 1 = nI (W.getD (W.length - 1 - j) 0 ^^^ 1) := (nI_flip _ h8).1
    rw [e0, p16_21]
    simp (disch := first | assumption | omega | fail) only [p16_22, p16_25, p16_25n, p16_26, p16_26n, p16_27, p16_28, p16_31, p16_32, p16_33, ↓reduceIte, i0, i1, lt_F, Option.toList, List.cons_append, List.nil_append, hT, hfl]
    refine t_add hq hR (by rw [curW_len]; omega) (fun M' hR' hK' => ?_)
    rw [← curW_s] at hR'
    have ih := ih (j + 1) M' (by omega) hR' (hK.trans hK')
    rw [← ee] at ih
    simp (disch := first | assumption | omega | fail) only [p16_36, p16_39, i0, i1, Option.toList, List.cons_append, List.nil_append]
    exact ih
theorem t_weaveIn {q k : Nat} {W : List Nat} (hk : k < 5) (hq : dm_kd q = 3) (hW : ∀ t ∈ W, t < 8) (hl : 2 * W.length + 2 ≤ 48) (hR : RowIs M q W) (hQ : ∀ M', RowIs M' q (wv1 W k) → RowK q M M' → Q none M') : dm_cp (d + 1) 16 [.ref q, .int (nI k)] M Q := by
  have hs := hR.1
  rw [e16]
  simp (disch := first | assumption | exact b01_01 | exact Or.inl rfl | exact Or.inr rfl | ((try simp (disch := omega) only [kd0, kd1, kd2, kd3, kd4, kd5, kd6, kd7, kd8, kd9, kd10, kd11, kd12, kd13, kd14, kd15, kd16, kd17, kd18, kd19, kd20, kd21, kd22, kd23, kd24, kd25, kd26, kd27, kd28, kd29, kd30, kd31, kd32, kd33, kd34, kd35, kd36, kd37, kd38, kd39, kd40, kd41, kd42, kd43, kd44, kd45, kd46, kd47, kd48, kd49, kd50, kd51, kd52, kd53, kd54, kd55, kd56, kd57, kd58, kd59, kd60, kd61, kd62, kd63, kd64, kd65, kd66, kd67, kd68, ln2, ln3, ln5, ln6, ln7, ln10, ln13, ln16, ln19, ln22, ln24, ln25, ln27, ln28, ln29, ln32, ln35, ln38, ln41, ln44, ln46, ln48, ln50, ln52, ln54, ln55, ln56, ln57, ln58, ln59, ln60, ln61, ln62, ln63, ln67, ln68, i0, i1, cl_nI, lt_F, le_F, eq_F, not_false_eq_true]) <;> omega) | fail) only [p16_0, p16_0n, p16_1, p16_4, p16_5, p16_5n, p16_6, p16_7, p16_8, p16_9, ↓reduceIte, Nat.reduceAdd, Nat.reduceMul, Nat.reduceSub, i0, i1, i2, i3, i4, i5, i6, i7, i8, i9, i10, i14, i15, i16, i18, i20, i21, i23, i28, i31, i32, i33, i38, i40, i41, i48, i49, i51, i57, i60, i61, i62, i63, i97, i99, i100, i110, i124, i127, i140, i199, i200, i278, i286, i294, i394, i399, i1000, i1099, lt_T, lt_F, le_T, le_F, eq_T, eq_F, nI_add, pk_mul, pk_sub, nI_m1, cl_nI, dm_up_n1, dm_up_eq, dm_up_n2, not_true_eq_false, not_false_eq_true, if_true, if_false, true_and, and_true, false_and, and_false, true_or, or_true, false_or, or_false, Option.toList, List.cons_append, List.nil_append, b01_01, b01_T, b01_F, b01_n0, b01_n1, ite_self, pk_div, pk_rem, nI_shrA, nI_bt, nI_bt0, nI_bt1, t_hasBit, nsc, Nat.add_sub_cancel_left, Nat.add_sub_cancel, hs]
  refine t_add hq hR (by omega) (fun M1 hR1 hK1 => ?_)
  unfold wv1 at hQ
  rcases Nat.eq_zero_or_pos W.length with e | e
  · rw [if_pos e] at hQ
    have eW : W = [] := List.length_eq_zero_iff.mp e
    rw [e]
    simp (disch := first | assumption | exact b01_01 | exact Or.inl rfl | exact Or.inr rfl | ((try simp (disch := omega) only [kd0, kd1, kd2, kd3, kd4, kd5, kd6, kd7, kd8, kd9, kd10, kd11, kd12, kd13, kd14, kd15, kd16, kd17, kd18, kd19, kd20, kd21, kd22, kd23, kd24, kd25, kd26, kd27, kd28, kd29, kd30, kd31, kd32, kd33, kd34, kd35, kd36, kd37, kd38, kd39, kd40, kd41, kd42, kd43, kd44, kd45, kd46, kd47, kd48, kd49, kd50, kd51, kd52, kd53, kd54, kd55, kd56, kd57, kd58, kd59, kd60, kd61, kd62, kd63, kd64, kd65, kd66, kd67, kd68, ln2, ln3, ln5, ln6, ln7, ln10, ln13, ln16, ln19, ln22, ln24, ln25, ln27, ln28, ln29, ln32, ln35, ln38, ln41, ln44, ln46, ln48, ln50, ln52, ln54, ln55, ln56, ln57, ln58, ln59, ln60, ln61, ln62, ln63, ln67, ln68, i0, i1, cl_nI, lt_F, le_F, eq_F, not_false_eq_true]) <;> omega) | fail) only [p16_12, p16_13, p16_16, ↓reduceIte, Nat.reduceAdd, Nat.reduceMul, Nat.reduceSub, i0, i1, i2, i3, i4, i5, i6, i7, i8, i9, i10, i14, i15, i16, i18, i20, i21, i23, i28, i31, i32, i33, i38, i40, i41, i48, i49, i51, i57, i60, i61, i62, i63, i97, i99, i100, i110, i124, i127, i140, i199, i200, i278, i286, i294, i394, i399, i1000, i1099, lt_T, lt_F, le_T, le_F, eq_T, eq_F, nI_add, pk_mul, pk_sub, nI_m1, cl_nI, dm_up_n1, dm_up_eq, dm_up_n2, not_true_eq_false, not_false_eq_true, if_true, if_false, true_and, and_true, false_and, and_false, true_or, or_true, false_or, or_false, Option.toList, List.cons_append, List.nil_append, b01_01, b01_T, b01_F, b01_n0, b01_n1, ite_self, pk_div, pk_rem, nI_shrA, nI_bt, nI_bt0, nI_bt1, t_hasBit, nsc, Nat.add_sub_cancel_left, Nat.add_sub_cancel]
    refine hQ M1 ?_ hK1
    rw [eW, List.nil_append] at hR1
    exact hR1
  · rw [if_neg (by omega)] at hQ
    have e0 : nI W.length - nI 1 = nI (W.length - 0) - nI 1 := by rw [Nat.sub_zero]
    rw [← curW_0] at hR1
    have hL := wi_loop (d := d) (k := k) (Q := Q) (M0 := M) hq hW hl (fun M' hR' hK' => by
      simp (disch := first | assumption | exact b01_01 | exact Or.inl rfl | exact Or.inr rfl | ((try simp (disch := omega) only [kd0, kd1, kd2, kd3, kd4, kd5, kd6, kd7, kd8, kd9, kd10, kd11, kd12, kd13, kd14, kd15, kd16, kd17, kd18, kd19, kd20, kd21, kd22, kd23, kd24, kd25, kd26, kd27, kd28, kd29, kd30, kd31, kd32, kd33, kd34, kd35, kd36, kd37, kd38, kd39, kd40, kd41, kd42, kd43, kd44, kd45, kd46, kd47, kd48, kd49, kd50, kd51, kd52, kd53, kd54, kd55, kd56, kd57, kd58, kd59, kd60, kd61, kd62, kd63, kd64, kd65, kd66, kd67, kd68, ln2, ln3, ln5, ln6, ln7, ln10, ln13, ln16, ln19, ln22, ln24, ln25, ln27, ln28, ln29, ln32, ln35, ln38, ln41, ln44, ln46, ln48, ln50, ln52, ln54, ln55, ln56, ln57, ln58, ln59, ln60, ln61, ln62, ln63, ln67, ln68, i0, i1, cl_nI, lt_F, le_F, eq_F, not_false_eq_true]) <;> omega) | fail) only [p16_42, p16_42n, p16_43, p16_44, p16_45, p16_46, p16_47, p16_48, ↓reduceIte, Nat.reduceAdd, Nat.reduceMul, Nat.reduceSub, i0, i1, i2, i3, i4, i5, i6, i7, i8, i9, i10, i14, i15, i16, i18, i20, i21, i23, i28, i31, i32, i33, i38, i40, i41, i48, i49, i51, i57, i60, i61, i62, i63, i97, i99, i100, i110, i124, i127, i140, i199, i200, i278, i286, i294, i394, i399, i1000, i1099, lt_T, lt_F, le_T, le_F, eq_T, eq_F, nI_add, pk_mul, pk_sub, nI_m1, cl_nI, dm_up_n1, dm_up_eq, dm_up_n2, not_true_eq_false, not_false_eq_true, if_true, if_false, true_and, and_true, false_and, and_false, true_or, or_true, false_or, or_false, Option.toList, List.cons_append, List.nil_append, b01_01, b01_T, b01_F, b01_n0, b01_n1, ite_self, pk_div, pk_rem, nI_shrA, nI_bt, nI_bt0, nI_bt1, t_hasBit, nsc, Nat.add_sub_cancel_left, Nat.add_sub_cancel]
      refine t_add hq hR' (by rw [curW_len]; omega) (fun M2 hR2 hK2 => ?_)
      simp (disch := first | assumption | exact b01_01 | exact Or.inl rfl | exact Or.inr rfl | ((try simp (disch := omega) only [kd0, kd1, kd2, kd3, kd4, kd5, kd6, kd7, kd8, kd9, kd10, kd11, kd12, kd13, kd14, kd15, kd16, kd17, kd18, kd19, kd20, kd21, kd22, kd23, kd24, kd25, kd26, kd27, kd28, kd29, kd30, kd31, kd32, kd33, kd34, kd35, kd36, kd37, kd38, kd39, kd40, kd41, kd42, kd43, kd44, kd45, kd46, kd47, kd48, kd49, kd50, kd51, kd52, kd53, kd54, kd55, kd56, kd57, kd58, kd59, kd60, kd61, kd62, kd63, kd64, kd65, kd66, kd67, kd68, ln2, ln3, ln5, ln6, ln7, ln10, ln13, ln16, ln19, ln22, ln24, ln25, ln27, ln28, ln29, ln32, ln35, ln38, ln41, ln44, ln46, ln48, ln50, ln52, ln54, ln55, ln56, ln57, ln58, ln59, ln60, ln61, ln62, ln63, ln67, ln68, i0, i1, cl_nI, lt_F, le_F, eq_F, not_false_eq_true]) <;> omega) | fail) only [p16_51, ↓reduceIte, Nat.reduceAdd, Nat.reduceMul, Nat.reduceSub, i0, i1, i2, i3, i4, i5, i6, i7, i8, i9, i10, i14, i15, i16, i18, i20, i21, i23, i28, i31, i32, i33, i38, i40, i41, i48, i49, i51, i57, i60, i61, i62, i63, i97, i99, i100, i110, i124, i127, i140, i199, i200, i278, i286, i294, i394, i399, i1000, i1099, lt_T, lt_F, le_T, le_F, eq_T, eq_F, nI_add, pk_mul, pk_sub, nI_m1, cl_nI, dm_up_n1, dm_up_eq, dm_up_n2, not_true_eq_false, not_false_eq_true, if_true, if_false, true_and, and_true, false_and, and_false, true_or, or_true, false_or, or_false, Option.toList, List.cons_append, List.nil_append, b01_01, b01_T, b01_F, b01_n0, b01_n1, ite_self, pk_div, pk_rem, nI_shrA, nI_bt, nI_bt0, nI_bt1, t_hasBit, nsc, Nat.add_sub_cancel_left, Nat.add_sub_cancel]
      exact hQ M2 hR2 (hK'.trans hK2)) W.length 0 M1 (Nat.zero_add _) hR1 hK1
    rw [← e0] at hL
    simp (disch := first | assumption | ((try simp (disch := omega) only [i0, i1, eq_F, not_false_eq_true]) <;> omega) | fail) only [p16_12, p16_13, p16_16, p16_17, p16_18, p16_19, p16_20, ↓reduceIte, i0, i1, eq_F, not_true_eq_false, not_false_eq_true, if_true, Option.toList, List.cons_append, List.nil_append]
    exact hL
theorem cw_loop {c ci t : Nat} {M0 : dm_M} (h : RC M0 s) (hc : dm_kd c = 1) (r1 : dm_rf c 4 = c + 1) (hq : dm_kd (c + 1) = 3) (hb1 : 8 ≤ c) (hb : c + 2 < 23) (ht : t < 2 ^ bN (sB s))
    (hQ : ∀ M', RowIs M' (c + 1) (wvN t (bN (sB s))) → RowK (c + 1) M0 M' → Q (some (.int (nI (wvN t (bN (sB s))).length))) M') :
    ∀ (r k : Nat) (M : dm_M), k + r = bN (sB s) → RowIs M (c + 1) (wvN t k) → RowK (c + 1) M0 M → dm_wp (d + 2) 12 44 [some (.ref 0), some (.int (nI ci)), some (.int (nI t)), some (.ref c), some (.int (nI k))] [] M Q := by
  obtain ⟨n0, n5⟩ := h.n5
  obtain ⟨p16, p0⟩ := p2_16 n5
  intro r
  induction r with
  | zero =>
    intro k M hk hR hK
    have e : k = bN (sB s) := by omega
    subst e
    have hn : M 1 0 = nI (bN (sB s)) := by rw [hK 1 (by omega) (by omega)]; exact h.n
    have hs := hR.1
    simp (disch := first | assumption | exact b01_01 | exact Or.inl rfl | exact Or.inr rfl | ((try simp (disch := omega) only [kd0, kd1, kd2, kd3, kd4, kd5, kd6, kd7, kd8, kd9, kd10, kd11, kd12, kd13, kd14, kd15, kd16, kd17, kd18, kd19, kd20, kd21, kd22, kd23, kd24, kd25, kd26, kd27, kd28, kd29, kd30, kd31, kd32, kd33, kd34, kd35, kd36, kd37, kd38, kd39, kd40, kd41, kd42, kd43, kd44, kd45, kd46, kd47, kd48, kd49, kd50, kd51, kd52, kd53, kd54, kd55, kd56, kd57, kd58, kd59, kd60, kd61, kd62, kd63, kd64, kd65, kd66, kd67, kd68, ln2, ln3, ln5, ln6, ln7, ln10, ln13, ln16, ln19, ln22, ln24, ln25, ln27, ln28, ln29, ln32, ln35, ln38, ln41, ln44, ln46, ln48, ln50, ln52, ln54, ln55, ln56, ln57, ln58, ln59, ln60, ln61, ln62, ln63, ln67, ln68, i0, i1, cl_nI, lt_F, le_F, eq_F, not_false_eq_true]) <;> omega) | fail) only [p12_44, p12_46, p12_46n, p12_47, p12_50, p12_53, p12_80, p12_80n, p12_81, p12_84, p12_87, kd0, kd1, kd2, kd3, kd4, kd5, kd6, kd7, kd8, kd9, kd10, kd11, kd12, kd13, kd14, kd15, kd16, kd17, kd18, kd19, kd20, kd21, kd22, kd23, kd24, kd25, kd26, kd27, kd28, kd29, kd30, kd31, kd32, kd33, kd34, kd35, kd36, kd37, kd38, kd39, kd40, kd41, kd42, kd43, kd44, kd45, kd46, kd47, kd48, kd49, kd50, kd51, kd52, kd53, kd54, kd55, kd56, kd57, kd58, kd59, kd60, kd61, kd62, kd63, kd64, kd65, kd66, kd67, kd68, rf0_0, rf0_1, rf0_3, rf0_4, rf0_6, rf0_7, rf0_8, rf1_1, rf1_2, rf1_3, rf1_5, rf1_7, rf1_9, rf8_4, rf9_0, rf11_4, rf12_0, rf14_4, rf15_0, rf17_4, rf18_0, rf20_4, rf21_0, rf23_1, rf23_2, rf23_3, rf23_5, rf23_7, rf23_9, rf30_4, rf31_0, rf33_4, rf34_0, rf36_4, rf37_0, rf39_4, rf40_0, rf42_4, rf43_0, rf47_0, rf49_0, rf51_0, rf53_1, rf53_2, rf53_9, rf53_10, rf53_11, rf53_14, rf53_16, rf53_17, rf65_0, rf66_0, ↓reduceIte, Nat.reduceAdd, Nat.reduceMul, Nat.reduceSub, i0, i1, i2, i3, i4, i5, i6, i7, i8, i9, i10, i14, i15, i16, i18, i20, i21, i23, i28, i31, i32, i33, i38, i40, i41, i48, i49, i51, i57, i60, i61, i62, i63, i97, i99, i100, i110, i124, i127, i140, i199, i200, i278, i286, i294, i394, i399, i1000, i1099, lt_T, lt_F, le_T, le_F, eq_T, eq_F, nI_add, pk_mul, pk_sub, nI_m1, cl_nI, dm_up_n1, dm_up_eq, dm_up_n2, not_true_eq_false, not_false_eq_true, if_true, if_false, true_and, and_true, false_and, and_false, true_or, or_true, false_or, or_false, Option.toList, List.cons_append, List.nil_append, b01_01, b01_T, b01_F, b01_n0, b01_n1, ite_self, pk_div, pk_rem, nI_shrA, nI_bt, nI_bt0, nI_bt1, t_hasBit, nsc, Nat.add_sub_cancel_left, Nat.add_sub_cancel, hn, r1, hs]
    exact hQ M hR hK
  | succ r ih =>
    intro k M hk hR hK
    have hn : M 1 0 = nI (bN (sB s)) := by rw [hK 1 (by omega) (by omega)]; exact h.n
    have ih := fun M => ih (k + 1) M (by omega)
    rw [wvN_s] at ih
    have h1 := wvN_len (set := t) k
    have h2 : wvL k ≤ 14 := by
      have : ∀ k, k < 4 → wvL k ≤ 14 := by decide
      exact this k (by omega)
    have h8 := wvN_lt (set := t) k (by omega)
    rw [p12_44]
    cases hb2 : t.testBit k with
    | false =>
      rw [hb2, if_neg (by decide)] at ih
      simp (disch := first | assumption | exact b01_01 | exact Or.inl rfl | exact Or.inr rfl | ((try simp (disch := omega) only [kd0, kd1, kd2, kd3, kd4, kd5, kd6, kd7, kd8, kd9, kd10, kd11, kd12, kd13, kd14, kd15, kd16, kd17, kd18, kd19, kd20, kd21, kd22, kd23, kd24, kd25, kd26, kd27, kd28, kd29, kd30, kd31, kd32, kd33, kd34, kd35, kd36, kd37, kd38, kd39, kd40, kd41, kd42, kd43, kd44, kd45, kd46, kd47, kd48, kd49, kd50, kd51, kd52, kd53, kd54, kd55, kd56, kd57, kd58, kd59, kd60, kd61, kd62, kd63, kd64, kd65, kd66, kd67, kd68, ln2, ln3, ln5, ln6, ln7, ln10, ln13, ln16, ln19, ln22, ln24, ln25, ln27, ln28, ln29, ln32, ln35, ln38, ln41, ln44, ln46, ln48, ln50, ln52, ln54, ln55, ln56, ln57, ln58, ln59, ln60, ln61, ln62, ln63, ln67, ln68, i0, i1, cl_nI, lt_F, le_F, eq_F, not_false_eq_true]) <;> omega) | fail) only [p12_46, p12_46n, p12_47, p12_50, p12_53, p12_56, p12_57, p12_59, p12_62, p12_65, p12_65n, p12_66, p12_69, p12_71, p12_74, p12_77, kd0, kd1, kd2, kd3, kd4, kd5, kd6, kd7, kd8, kd9, kd10, kd11, kd12, kd13, kd14, kd15, kd16, kd17, kd18, kd19, kd20, kd21, kd22, kd23, kd24, kd25, kd26, kd27, kd28, kd29, kd30, kd31, kd32, kd33, kd34, kd35, kd36, kd37, kd38, kd39, kd40, kd41, kd42, kd43, kd44, kd45, kd46, kd47, kd48, kd49, kd50, kd51, kd52, kd53, kd54, kd55, kd56, kd57, kd58, kd59, kd60, kd61, kd62, kd63, kd64, kd65, kd66, kd67, kd68, rf0_0, rf0_1, rf0_3, rf0_4, rf0_6, rf0_7, rf0_8, rf1_1, rf1_2, rf1_3, rf1_5, rf1_7, rf1_9, rf8_4, rf9_0, rf11_4, rf12_0, rf14_4, rf15_0, rf17_4, rf18_0, rf20_4, rf21_0, rf23_1, rf23_2, rf23_3, rf23_5, rf23_7, rf23_9, rf30_4, rf31_0, rf33_4, rf34_0, rf36_4, rf37_0, rf39_4, rf40_0, rf42_4, rf43_0, rf47_0, rf49_0, rf51_0, rf53_1, rf53_2, rf53_9, rf53_10, rf53_11, rf53_14, rf53_16, rf53_17, rf65_0, rf66_0, ↓reduceIte, Nat.reduceAdd, Nat.reduceMul, Nat.reduceSub, i0, i1, i2, i3, i4, i5, i6, i7, i8, i9, i10, i14, i15, i16, i18, i20, i21, i23, i28, i31, i32, i33, i38, i40, i41, i48, i49, i51, i57, i60, i61, i62, i63, i97, i99, i100, i110, i124, i127, i140, i199, i200, i278, i286, i294, i394, i399, i1000, i1099, lt_T, lt_F, le_T, le_F, eq_T, eq_F, nI_add, pk_mul, pk_sub, nI_m1, cl_nI, dm_up_n1, dm_up_eq, dm_up_n2, not_true_eq_false, not_false_eq_true, if_true, if_false, true_and, and_true, false_and, and_false, true_or, or_true, false_or, or_false, Option.toList, List.cons_append, List.nil_append, b01_01, b01_T, b01_F, b01_n0, b01_n1, ite_self, pk_div, pk_rem, nI_shrA, nI_bt, nI_bt0, nI_bt1, t_hasBit, nsc, Nat.add_sub_cancel_left, Nat.add_sub_cancel, hn, hb2, Bool.toNat_false]
      exact ih M hR hK
    | true =>
      rw [hb2, if_pos rfl] at ih
      simp (disch := first | assumption | exact b01_01 | exact Or.inl rfl | exact Or.inr rfl | ((try simp (disch := omega) only [kd0, kd1, kd2, kd3, kd4, kd5, kd6, kd7, kd8, kd9, kd10, kd11, kd12, kd13, kd14, kd15, kd16, kd17, kd18, kd19, kd20, kd21, kd22, kd23, kd24, kd25, kd26, kd27, kd28, kd29, kd30, kd31, kd32, kd33, kd34, kd35, kd36, kd37, kd38, kd39, kd40, kd41, kd42, kd43, kd44, kd45, kd46, kd47, kd48, kd49, kd50, kd51, kd52, kd53, kd54, kd55, kd56, kd57, kd58, kd59, kd60, kd61, kd62, kd63, kd64, kd65, kd66, kd67, kd68, ln2, ln3, ln5, ln6, ln7, ln10, ln13, ln16, ln19, ln22, ln24, ln25, ln27, ln28, ln29, ln32, ln35, ln38, ln41, ln44, ln46, ln48, ln50, ln52, ln54, ln55, ln56, ln57, ln58, ln59, ln60, ln61, ln62, ln63, ln67, ln68, i0, i1, cl_nI, lt_F, le_F, eq_F, not_false_eq_true]) <;> omega) | fail) only [p12_46, p12_46n, p12_47, p12_50, p12_53, p12_56, p12_57, p12_59, p12_62, p12_65, p12_65n, p12_66, p12_69, p12_71, kd0, kd1, kd2, kd3, kd4, kd5, kd6, kd7, kd8, kd9, kd10, kd11, kd12, kd13, kd14, kd15, kd16, kd17, kd18, kd19, kd20, kd21, kd22, kd23, kd24, kd25, kd26, kd27, kd28, kd29, kd30, kd31, kd32, kd33, kd34, kd35, kd36, kd37, kd38, kd39, kd40, kd41, kd42, kd43, kd44, kd45, kd46, kd47, kd48, kd49, kd50, kd51, kd52, kd53, kd54, kd55, kd56, kd57, kd58, kd59, kd60, kd61, kd62, kd63, kd64, kd65, kd66, kd67, kd68, rf0_0, rf0_1, rf0_3, rf0_4, rf0_6, rf0_7, rf0_8, rf1_1, rf1_2, rf1_3, rf1_5, rf1_7, rf1_9, rf8_4, rf9_0, rf11_4, rf12_0, rf14_4, rf15_0, rf17_4, rf18_0, rf20_4, rf21_0, rf23_1, rf23_2, rf23_3, rf23_5, rf23_7, rf23_9, rf30_4, rf31_0, rf33_4, rf34_0, rf36_4, rf37_0, rf39_4, rf40_0, rf42_4, rf43_0, rf47_0, rf49_0, rf51_0, rf53_1, rf53_2, rf53_9, rf53_10, rf53_11, rf53_14, rf53_16, rf53_17, rf65_0, rf66_0, ↓reduceIte, Nat.reduceAdd, Nat.reduceMul, Nat.reduceSub, i0, i1, i2, i3, i4, i5, i6, i7, i8, i9, i10, i14, i15, i16, i18, i20, i21, i23, i28, i31, i32, i33, i38, i40, i41, i48, i49, i51, i57, i60, i61, i62, i63, i97, i99, i100, i110, i124, i127, i140, i199, i200, i278, i286, i294, i394, i399, i1000, i1099, lt_T, lt_F, le_T, le_F, eq_T, eq_F, nI_add, pk_mul, pk_sub, nI_m1, cl_nI, dm_up_n1, dm_up_eq, dm_up_n2, not_true_eq_false, not_false_eq_true, if_true, if_false, true_and, and_true, false_and, and_false, true_or, or_true, false_or, or_false, Option.toList, List.cons_append, List.nil_append, b01_01, b01_T, b01_F, b01_n0, b01_n1, ite_self, pk_div, pk_rem, nI_shrA, nI_bt, nI_bt0, nI_bt1, t_hasBit, nsc, Nat.add_sub_cancel_left, Nat.add_sub_cancel, hn, hb2, Bool.toNat_true, r1]
      refine t_weaveIn (by omega) hq (fun t ht => by have := h8 t ht; omega) (by omega) hR (fun M' hR' hK' => ?_)
      simp (disch := first | assumption | exact b01_01 | exact Or.inl rfl | exact Or.inr rfl | ((try simp (disch := omega) only [kd0, kd1, kd2, kd3, kd4, kd5, kd6, kd7, kd8, kd9, kd10, kd11, kd12, kd13, kd14, kd15, kd16, kd17, kd18, kd19, kd20, kd21, kd22, kd23, kd24, kd25, kd26, kd27, kd28, kd29, kd30, kd31, kd32, kd33, kd34, kd35, kd36, kd37, kd38, kd39, kd40, kd41, kd42, kd43, kd44, kd45, kd46, kd47, kd48, kd49, kd50, kd51, kd52, kd53, kd54, kd55, kd56, kd57, kd58, kd59, kd60, kd61, kd62, kd63, kd64, kd65, kd66, kd67, kd68, ln2, ln3, ln5, ln6, ln7, ln10, ln13, ln16, ln19, ln22, ln24, ln25, ln27, ln28, ln29, ln32, ln35, ln38, ln41, ln44, ln46, ln48, ln50, ln52, ln54, ln55, ln56, ln57, ln58, ln59, ln60, ln61, ln62, ln63, ln67, ln68, i0, i1, cl_nI, lt_F, le_F, eq_F, not_false_eq_true]) <;> omega) | fail) only [p12_74, p12_77, kd0, kd1, kd2, kd3, kd4, kd5, kd6, kd7, kd8, kd9, kd10, kd11, kd12, kd13, kd14, kd15, kd16, kd17, kd18, kd19, kd20, kd21, kd22, kd23, kd24, kd25, kd26, kd27, kd28, kd29, kd30, kd31, kd32, kd33, kd34, kd35, kd36, kd37, kd38, kd39, kd40, kd41, kd42, kd43, kd44, kd45, kd46, kd47, kd48, kd49, kd50, kd51, kd52, kd53, kd54, kd55, kd56, kd57, kd58, kd59, kd60, kd61, kd62, kd63, kd64, kd65, kd66, kd67, kd68, rf0_0, rf0_1, rf0_3, rf0_4, rf0_6, rf0_7, rf0_8, rf1_1, rf1_2, rf1_3, rf1_5, rf1_7, rf1_9, rf8_4, rf9_0, rf11_4, rf12_0, rf14_4, rf15_0, rf17_4, rf18_0, rf20_4, rf21_0, rf23_1, rf23_2, rf23_3, rf23_5, rf23_7, rf23_9, rf30_4, rf31_0, rf33_4, rf34_0, rf36_4, rf37_0, rf39_4, rf40_0, rf42_4, rf43_0, rf47_0, rf49_0, rf51_0, rf53_1, rf53_2, rf53_9, rf53_10, rf53_11, rf53_14, rf53_16, rf53_17, rf65_0, rf66_0, ↓reduceIte, Nat.reduceAdd, Nat.reduceMul, Nat.reduceSub, i0, i1, i2, i3, i4, i5, i6, i7, i8, i9, i10, i14, i15, i16, i18, i20, i21, i23, i28, i31, i32, i33, i38, i40, i41, i48, i49, i51, i57, i60, i61, i62, i63, i97, i99, i100, i110, i124, i127, i140, i199, i200, i278, i286, i294, i394, i399, i1000, i1099, lt_T, lt_F, le_T, le_F, eq_T, eq_F, nI_add, pk_mul, pk_sub, nI_m1, cl_nI, dm_up_n1, dm_up_eq, dm_up_n2, not_true_eq_false, not_false_eq_true, if_true, if_false, true_and, and_true, false_and, and_false, true_or, or_true, false_or, or_false, Option.toList, List.cons_append, List.nil_append, b01_01, b01_T, b01_F, b01_n0, b01_n1, ite_self, pk_div, pk_rem, nI_shrA, nI_bt, nI_bt0, nI_bt1, t_hasBit, nsc, Nat.add_sub_cancel_left, Nat.add_sub_cancel]
      exact ih M' hR' (hK.trans hK')
theorem c_weave (h : RC M s) (hQ : ∀ M', RC M' (f_weave s x y).2 → KC M M' → Q (some (.int (f_weave s x y).1)) M') : dm_cp (d + 3) 12 [.ref 0, .int x, .int y] M Q := by
  obtain ⟨n0, n5⟩ := h.n5
  have hH := fun (d : Nat) (x : Int32) (Q : Option Value → dm_M → Prop) => t_hasSet (d := d) (x := x) (M := M) (Q := Q) kd1 h.n n5
  obtain ⟨p16, p0⟩ := p2_16 n5
  rw [e12]
  unfold f_weave at hQ
  cases hx : ixo x (bC (sB s)).length with
  | none =>
    rw [hx] at hQ
    have hq := hQ M h (KC.refl M)
    have hA := fun (d : Nat) (Q : Option Value → dm_M → Prop) => t_cordN (d := d) (Q := Q) h hx
    simp (disch := first | assumption | exact b01_01 | exact Or.inl rfl | exact Or.inr rfl | ((try simp (disch := omega) only [kd0, kd1, kd2, kd3, kd4, kd5, kd6, kd7, kd8, kd9, kd10, kd11, kd12, kd13, kd14, kd15, kd16, kd17, kd18, kd19, kd20, kd21, kd22, kd23, kd24, kd25, kd26, kd27, kd28, kd29, kd30, kd31, kd32, kd33, kd34, kd35, kd36, kd37, kd38, kd39, kd40, kd41, kd42, kd43, kd44, kd45, kd46, kd47, kd48, kd49, kd50, kd51, kd52, kd53, kd54, kd55, kd56, kd57, kd58, kd59, kd60, kd61, kd62, kd63, kd64, kd65, kd66, kd67, kd68, ln2, ln3, ln5, ln6, ln7, ln10, ln13, ln16, ln19, ln22, ln24, ln25, ln27, ln28, ln29, ln32, ln35, ln38, ln41, ln44, ln46, ln48, ln50, ln52, ln54, ln55, ln56, ln57, ln58, ln59, ln60, ln61, ln62, ln63, ln67, ln68, i0, i1, cl_nI, lt_F, le_F, eq_F, not_false_eq_true]) <;> omega) | fail) only [p12_0, p12_0n, p12_1, p12_4, p12_5, p12_8, p12_8n, p12_9, p12_9n, p12_10, p12_10n, p12_13, p12_14, p12_15, p12_16, p12_17, p12_20, p12_20n, p12_21, p12_24, p12_25, p12_28, p12_31, p12_33, p12_34, p12_34n, p12_35, p12_38, p12_41, p12_42, kd0, kd1, kd2, kd3, kd4, kd5, kd6, kd7, kd8, kd9, kd10, kd11, kd12, kd13, kd14, kd15, kd16, kd17, kd18, kd19, kd20, kd21, kd22, kd23, kd24, kd25, kd26, kd27, kd28, kd29, kd30, kd31, kd32, kd33, kd34, kd35, kd36, kd37, kd38, kd39, kd40, kd41, kd42, kd43, kd44, kd45, kd46, kd47, kd48, kd49, kd50, kd51, kd52, kd53, kd54, kd55, kd56, kd57, kd58, kd59, kd60, kd61, kd62, kd63, kd64, kd65, kd66, kd67, kd68, rf0_0, rf0_1, rf0_3, rf0_4, rf0_6, rf0_7, rf0_8, rf1_1, rf1_2, rf1_3, rf1_5, rf1_7, rf1_9, rf8_4, rf9_0, rf11_4, rf12_0, rf14_4, rf15_0, rf17_4, rf18_0, rf20_4, rf21_0, rf23_1, rf23_2, rf23_3, rf23_5, rf23_7, rf23_9, rf30_4, rf31_0, rf33_4, rf34_0, rf36_4, rf37_0, rf39_4, rf40_0, rf42_4, rf43_0, rf47_0, rf49_0, rf51_0, rf53_1, rf53_2, rf53_9, rf53_10, rf53_11, rf53_14, rf53_16, rf53_17, rf65_0, rf66_0, ↓reduceIte, Nat.reduceAdd, Nat.reduceMul, Nat.reduceSub, i0, i1, i2, i3, i4, i5, i6, i7, i8, i9, i10, i14, i15, i16, i18, i20, i21, i23, i28, i31, i32, i33, i38, i40, i41, i48, i49, i51, i57, i60, i61, i62, i63, i97, i99, i100, i110, i124, i127, i140, i199, i200, i278, i286, i294, i394, i399, i1000, i1099, lt_T, lt_F, le_T, le_F, eq_T, eq_F, nI_add, pk_mul, pk_sub, nI_m1, cl_nI, dm_up_n1, dm_up_eq, dm_up_n2, not_true_eq_false, not_false_eq_true, if_true, if_false, true_and, and_true, false_and, and_false, true_or, or_true, false_or, or_false, Option.toList, List.cons_append, List.nil_append, b01_01, b01_T, b01_F, b01_n0, b01_n1, ite_self, pk_div, pk_rem, nI_shrA, nI_bt, nI_bt0, nI_bt1, t_hasBit, nsc, Nat.add_sub_cancel_left, Nat.add_sub_cancel, hA]
    exact hq
  | some i =>
    rw [hx] at hQ
    obtain ⟨h1, rfl, -⟩ := ixo_some hx
    obtain ⟨c, hc, k1, r1, k2, b1, b2, hnum, hC⟩ := h.cord h1
    have hA := fun (d : Nat) (Q : Option Value → dm_M → Prop) => t_cordS (d := d) (Q := Q) h hx hc
    have hok := h.1.1.cd h1
    have hcs : 1 + 7 + 3 * i = c := by omega
    have hcl := fun (d : Nat) (M : dm_M) (Q : Option Value → dm_M → Prop) => s_clear (d := d) (M := M) (Q := Q) k2
    dsimp only at hQ
    cases hy : ixo y (2 ^ bN (sB s)) with
    | none =>
      rw [hy] at hQ
      have hq := hQ M h (KC.refl M)
      by_cases hy0 : y < nI 1
      · have hy1 : (y < nI 1) = True := eq_true hy0
        simp (disch := first | assumption | exact b01_01 | exact Or.inl rfl | exact Or.inr rfl | ((try simp (disch := omega) only [kd0, kd1, kd2, kd3, kd4, kd5, kd6, kd7, kd8, kd9, kd10, kd11, kd12, kd13, kd14, kd15, kd16, kd17, kd18, kd19, kd20, kd21, kd22, kd23, kd24, kd25, kd26, kd27, kd28, kd29, kd30, kd31, kd32, kd33, kd34, kd35, kd36, kd37, kd38, kd39, kd40, kd41, kd42, kd43, kd44, kd45, kd46, kd47, kd48, kd49, kd50, kd51, kd52, kd53, kd54, kd55, kd56, kd57, kd58, kd59, kd60, kd61, kd62, kd63, kd64, kd65, kd66, kd67, kd68, ln2, ln3, ln5, ln6, ln7, ln10, ln13, ln16, ln19, ln22, ln24, ln25, ln27, ln28, ln29, ln32, ln35, ln38, ln41, ln44, ln46, ln48, ln50, ln52, ln54, ln55, ln56, ln57, ln58, ln59, ln60, ln61, ln62, ln63, ln67, ln68, i0, i1, cl_nI, lt_F, le_F, eq_F, not_false_eq_true]) <;> omega) | fail) only [p12_0, p12_0n, p12_1, p12_4, p12_5, p12_8, p12_8n, p12_9, p12_9n, p12_10, p12_10n, p12_13, p12_14, p12_15, p12_16, p12_17, p12_20, p12_20n, p12_21, p12_24, p12_25, p12_28, p12_31, p12_33, p12_34, p12_34n, p12_35, p12_38, p12_41, p12_42, kd0, kd1, kd2, kd3, kd4, kd5, kd6, kd7, kd8, kd9, kd10, kd11, kd12, kd13, kd14, kd15, kd16, kd17, kd18, kd19, kd20, kd21, kd22, kd23, kd24, kd25, kd26, kd27, kd28, kd29, kd30, kd31, kd32, kd33, kd34, kd35, kd36, kd37, kd38, kd39, kd40, kd41, kd42, kd43, kd44, kd45, kd46, kd47, kd48, kd49, kd50, kd51, kd52, kd53, kd54, kd55, kd56, kd57, kd58, kd59, kd60, kd61, kd62, kd63, kd64, kd65, kd66, kd67, kd68, rf0_0, rf0_1, rf0_3, rf0_4, rf0_6, rf0_7, rf0_8, rf1_1, rf1_2, rf1_3, rf1_5, rf1_7, rf1_9, rf8_4, rf9_0, rf11_4, rf12_0, rf14_4, rf15_0, rf17_4, rf18_0, rf20_4, rf21_0, rf23_1, rf23_2, rf23_3, rf23_5, rf23_7, rf23_9, rf30_4, rf31_0, rf33_4, rf34_0, rf36_4, rf37_0, rf39_4, rf40_0, rf42_4, rf43_0, rf47_0, rf49_0, rf51_0, rf53_1, rf53_2, rf53_9, rf53_10, rf53_11, rf53_14, rf53_16, rf53_17, rf65_0, rf66_0, ↓reduceIte, Nat.reduceAdd, Nat.reduceMul, Nat.reduceSub, i0, i1, i2, i3, i4, i5, i6, i7, i8, i9, i10, i14, i15, i16, i18, i20, i21, i23, i28, i31, i32, i33, i38, i40, i41, i48, i49, i51, i57, i60, i61, i62, i63, i97, i99, i100, i110, i124, i127, i140, i199, i200, i278, i286, i294, i394, i399, i1000, i1099, lt_T, lt_F, le_T, le_F, eq_T, eq_F, nI_add, pk_mul, pk_sub, nI_m1, cl_nI, dm_up_n1, dm_up_eq, dm_up_n2, not_true_eq_false, not_false_eq_true, if_true, if_false, true_and, and_true, false_and, and_false, true_or, or_true, false_or, or_false, Option.toList, List.cons_append, List.nil_append, b01_01, b01_T, b01_F, b01_n0, b01_n1, ite_self, pk_div, pk_rem, nI_shrA, nI_bt, nI_bt0, nI_bt1, t_hasBit, nsc, Nat.add_sub_cancel_left, Nat.add_sub_cancel, hA, hy1]
        exact hq
      · have hy1 : (y < nI 1) = False := eq_false hy0
        simp (disch := first | assumption | exact b01_01 | exact Or.inl rfl | exact Or.inr rfl | ((try simp (disch := omega) only [kd0, kd1, kd2, kd3, kd4, kd5, kd6, kd7, kd8, kd9, kd10, kd11, kd12, kd13, kd14, kd15, kd16, kd17, kd18, kd19, kd20, kd21, kd22, kd23, kd24, kd25, kd26, kd27, kd28, kd29, kd30, kd31, kd32, kd33, kd34, kd35, kd36, kd37, kd38, kd39, kd40, kd41, kd42, kd43, kd44, kd45, kd46, kd47, kd48, kd49, kd50, kd51, kd52, kd53, kd54, kd55, kd56, kd57, kd58, kd59, kd60, kd61, kd62, kd63, kd64, kd65, kd66, kd67, kd68, ln2, ln3, ln5, ln6, ln7, ln10, ln13, ln16, ln19, ln22, ln24, ln25, ln27, ln28, ln29, ln32, ln35, ln38, ln41, ln44, ln46, ln48, ln50, ln52, ln54, ln55, ln56, ln57, ln58, ln59, ln60, ln61, ln62, ln63, ln67, ln68, i0, i1, cl_nI, lt_F, le_F, eq_F, not_false_eq_true]) <;> omega) | fail) only [p12_0, p12_0n, p12_1, p12_4, p12_5, p12_8, p12_8n, p12_9, p12_9n, p12_10, p12_10n, p12_13, p12_14, p12_15, p12_16, p12_17, p12_20, p12_20n, p12_21, p12_24, p12_25, p12_28, p12_31, p12_33, p12_34, p12_34n, p12_35, p12_38, p12_41, p12_42, kd0, kd1, kd2, kd3, kd4, kd5, kd6, kd7, kd8, kd9, kd10, kd11, kd12, kd13, kd14, kd15, kd16, kd17, kd18, kd19, kd20, kd21, kd22, kd23, kd24, kd25, kd26, kd27, kd28, kd29, kd30, kd31, kd32, kd33, kd34, kd35, kd36, kd37, kd38, kd39, kd40, kd41, kd42, kd43, kd44, kd45, kd46, kd47, kd48, kd49, kd50, kd51, kd52, kd53, kd54, kd55, kd56, kd57, kd58, kd59, kd60, kd61, kd62, kd63, kd64, kd65, kd66, kd67, kd68, rf0_0, rf0_1, rf0_3, rf0_4, rf0_6, rf0_7, rf0_8, rf1_1, rf1_2, rf1_3, rf1_5, rf1_7, rf1_9, rf8_4, rf9_0, rf11_4, rf12_0, rf14_4, rf15_0, rf17_4, rf18_0, rf20_4, rf21_0, rf23_1, rf23_2, rf23_3, rf23_5, rf23_7, rf23_9, rf30_4, rf31_0, rf33_4, rf34_0, rf36_4, rf37_0, rf39_4, rf40_0, rf42_4, rf43_0, rf47_0, rf49_0, rf51_0, rf53_1, rf53_2, rf53_9, rf53_10, rf53_11, rf53_14, rf53_16, rf53_17, rf65_0, rf66_0, ↓reduceIte, Nat.reduceAdd, Nat.reduceMul, Nat.reduceSub, i0, i1, i2, i3, i4, i5, i6, i7, i8, i9, i10, i14, i15, i16, i18, i20, i21, i23, i28, i31, i32, i33, i38, i40, i41, i48, i49, i51, i57, i60, i61, i62, i63, i97, i99, i100, i110, i124, i127, i140, i199, i200, i278, i286, i294, i394, i399, i1000, i1099, lt_T, lt_F, le_T, le_F, eq_T, eq_F, nI_add, pk_mul, pk_sub, nI_m1, cl_nI, dm_up_n1, dm_up_eq, dm_up_n2, not_true_eq_false, not_false_eq_true, if_true, if_false, true_and, and_true, false_and, and_false, true_or, or_true, false_or, or_false, Option.toList, List.cons_append, List.nil_append, b01_01, b01_T, b01_F, b01_n0, b01_n1, ite_self, pk_div, pk_rem, nI_shrA, nI_bt, nI_bt0, nI_bt1, t_hasBit, nsc, Nat.add_sub_cancel_left, Nat.add_sub_cancel, hA, hy1, hH, hy, Option.isSome_none, reduceCtorEq]
        exact hq
    | some t =>
      rw [hy] at hQ
      obtain ⟨h3, rfl, h4⟩ := ixo_some hy
      dsimp only at hQ
      by_cases ht0 : t = 0
      · rw [if_pos ht0] at hQ
        have hq := hQ M h (KC.refl M)
        simp (disch := first | assumption | exact b01_01 | exact Or.inl rfl | exact Or.inr rfl | ((try simp (disch := omega) only [kd0, kd1, kd2, kd3, kd4, kd5, kd6, kd7, kd8, kd9, kd10, kd11, kd12, kd13, kd14, kd15, kd16, kd17, kd18, kd19, kd20, kd21, kd22, kd23, kd24, kd25, kd26, kd27, kd28, kd29, kd30, kd31, kd32, kd33, kd34, kd35, kd36, kd37, kd38, kd39, kd40, kd41, kd42, kd43, kd44, kd45, kd46, kd47, kd48, kd49, kd50, kd51, kd52, kd53, kd54, kd55, kd56, kd57, kd58, kd59, kd60, kd61, kd62, kd63, kd64, kd65, kd66, kd67, kd68, ln2, ln3, ln5, ln6, ln7, ln10, ln13, ln16, ln19, ln22, ln24, ln25, ln27, ln28, ln29, ln32, ln35, ln38, ln41, ln44, ln46, ln48, ln50, ln52, ln54, ln55, ln56, ln57, ln58, ln59, ln60, ln61, ln62, ln63, ln67, ln68, i0, i1, cl_nI, lt_F, le_F, eq_F, not_false_eq_true]) <;> omega) | fail) only [p12_0, p12_0n, p12_1, p12_4, p12_5, p12_8, p12_8n, p12_9, p12_9n, p12_10, p12_10n, p12_13, p12_14, p12_15, p12_16, p12_17, p12_20, p12_20n, p12_21, p12_24, p12_25, p12_28, p12_31, p12_33, p12_34, p12_34n, p12_35, p12_38, p12_41, p12_42, kd0, kd1, kd2, kd3, kd4, kd5, kd6, kd7, kd8, kd9, kd10, kd11, kd12, kd13, kd14, kd15, kd16, kd17, kd18, kd19, kd20, kd21, kd22, kd23, kd24, kd25, kd26, kd27, kd28, kd29, kd30, kd31, kd32, kd33, kd34, kd35, kd36, kd37, kd38, kd39, kd40, kd41, kd42, kd43, kd44, kd45, kd46, kd47, kd48, kd49, kd50, kd51, kd52, kd53, kd54, kd55, kd56, kd57, kd58, kd59, kd60, kd61, kd62, kd63, kd64, kd65, kd66, kd67, kd68, rf0_0, rf0_1, rf0_3, rf0_4, rf0_6, rf0_7, rf0_8, rf1_1, rf1_2, rf1_3, rf1_5, rf1_7, rf1_9, rf8_4, rf9_0, rf11_4, rf12_0, rf14_4, rf15_0, rf17_4, rf18_0, rf20_4, rf21_0, rf23_1, rf23_2, rf23_3, rf23_5, rf23_7, rf23_9, rf30_4, rf31_0, rf33_4, rf34_0, rf36_4, rf37_0, rf39_4, rf40_0, rf42_4, rf43_0, rf47_0, rf49_0, rf51_0, rf53_1, rf53_2, rf53_9, rf53_10, rf53_11, rf53_14, rf53_16, rf53_17, rf65_0, rf66_0, ↓reduceIte, Nat.reduceAdd, Nat.reduceMul, Nat.reduceSub, i0, i1, i2, i3, i4, i5, i6, i7, i8, i9, i10, i14, i15, i16, i18, i20, i21, i23, i28, i31, i32, i33, i38, i40, i41, i48, i49, i51, i57, i60, i61, i62, i63, i97, i99, i100, i110, i124, i127, i140, i199, i200, i278, i286, i294, i394, i399, i1000, i1099, lt_T, lt_F, le_T, le_F, eq_T, eq_F, nI_add, pk_mul, pk_sub, nI_m1, cl_nI, dm_up_n1, dm_up_eq, dm_up_n2, not_true_eq_false, not_false_eq_true, if_true, if_false, true_and, and_true, false_and, and_false, true_or, or_true, false_or, or_false, Option.toList, List.cons_append, List.nil_append, b01_01, b01_T, b01_F, b01_n0, b01_n1, ite_self, pk_div, pk_rem, nI_shrA, nI_bt, nI_bt0, nI_bt1, t_hasBit, nsc, Nat.add_sub_cancel_left, Nat.add_sub_cancel, hA]
        exact hq
      · rw [if_neg ht0] at hQ
        have hlen := wvN_len (set := t) (bN (sB s))
        have hl30 := wvL_30 n5
        have hL := cw_loop (d := d + 1) (ci := i) (Q := Q) h k1 r1 k2 b1 b2 h3 (fun M' hR' hK' => hQ M' (h.setB (h.1.1.setCord ⟨hok.1, hok.2.1, hok.2.2.1, (by show (wvN t (bN (sB s))).length ≤ 48; omega), wvN_lt _ n5⟩) (h.2.1.setCord h.1.1.2.2.2.1 h1 (fun a _ _ _ _ _ => hK' a (by omega) (by omega)) (by rw [hcs, hK' c (by omega) (by omega)]; exact hnum) (by
          rw [hcs]
          exact ⟨by rw [hK' c (by omega) (by omega)]; exact hC.1, by rw [hK' c (by omega) (by omega)]; exact hC.2.1, by rw [hK' c (by omega) (by omega)]; exact hC.2.2.1, hR', fun t h => by have := wvN_lt _ n5 t h; omega⟩)) (fun a _ _ _ => hK' a (by omega) (by omega))) (fun a _ => hK' a (by omega) (by omega))) (bN (sB s)) 0 (dm_up M (c + 1) 1 (nI 0)) (Nat.zero_add _) (RowIs.nil dm_up_eq) (fun a h1 h2 => up_ne h1)
        simp (disch := first | assumption | exact b01_01 | exact Or.inl rfl | exact Or.inr rfl | ((try simp (disch := omega) only [kd0, kd1, kd2, kd3, kd4, kd5, kd6, kd7, kd8, kd9, kd10, kd11, kd12, kd13, kd14, kd15, kd16, kd17, kd18, kd19, kd20, kd21, kd22, kd23, kd24, kd25, kd26, kd27, kd28, kd29, kd30, kd31, kd32, kd33, kd34, kd35, kd36, kd37, kd38, kd39, kd40, kd41, kd42, kd43, kd44, kd45, kd46, kd47, kd48, kd49, kd50, kd51, kd52, kd53, kd54, kd55, kd56, kd57, kd58, kd59, kd60, kd61, kd62, kd63, kd64, kd65, kd66, kd67, kd68, ln2, ln3, ln5, ln6, ln7, ln10, ln13, ln16, ln19, ln22, ln24, ln25, ln27, ln28, ln29, ln32, ln35, ln38, ln41, ln44, ln46, ln48, ln50, ln52, ln54, ln55, ln56, ln57, ln58, ln59, ln60, ln61, ln62, ln63, ln67, ln68, i0, i1, cl_nI, lt_F, le_F, eq_F, not_false_eq_true]) <;> omega) | fail) only [p12_0, p12_0n, p12_1, p12_4, p12_5, p12_8, p12_8n, p12_9, p12_9n, p12_10, p12_10n, p12_13, p12_14, p12_15, p12_16, p12_17, p12_20, p12_20n, p12_21, p12_24, p12_25, p12_28, p12_31, p12_33, p12_34, p12_34n, p12_35, p12_38, p12_41, p12_42, kd0, kd1, kd2, kd3, kd4, kd5, kd6, kd7, kd8, kd9, kd10, kd11, kd12, kd13, kd14, kd15, kd16, kd17, kd18, kd19, kd20, kd21, kd22, kd23, kd24, kd25, kd26, kd27, kd28, kd29, kd30, kd31, kd32, kd33, kd34, kd35, kd36, kd37, kd38, kd39, kd40, kd41, kd42, kd43, kd44, kd45, kd46, kd47, kd48, kd49, kd50, kd51, kd52, kd53, kd54, kd55, kd56, kd57, kd58, kd59, kd60, kd61, kd62, kd63, kd64, kd65, kd66, kd67, kd68, rf0_0, rf0_1, rf0_3, rf0_4, rf0_6, rf0_7, rf0_8, rf1_1, rf1_2, rf1_3, rf1_5, rf1_7, rf1_9, rf8_4, rf9_0, rf11_4, rf12_0, rf14_4, rf15_0, rf17_4, rf18_0, rf20_4, rf21_0, rf23_1, rf23_2, rf23_3, rf23_5, rf23_7, rf23_9, rf30_4, rf31_0, rf33_4, rf34_0, rf36_4, rf37_0, rf39_4, rf40_0, rf42_4, rf43_0, rf47_0, rf49_0, rf51_0, rf53_1, rf53_2, rf53_9, rf53_10, rf53_11, rf53_14, rf53_16, rf53_17, rf65_0, rf66_0, ↓reduceIte, Nat.reduceAdd, Nat.reduceMul, Nat.reduceSub, i0, i1, i2, i3, i4, i5, i6, i7, i8, i9, i10, i14, i15, i16, i18, i20, i21, i23, i28, i31, i32, i33, i38, i40, i41, i48, i49, i51, i57, i60, i61, i62, i63, i97, i99, i100, i110, i124, i127, i140, i199, i200, i278, i286, i294, i394, i399, i1000, i1099, lt_T, lt_F, le_T, le_F, eq_T, eq_F, nI_add, pk_mul, pk_sub, nI_m1, cl_nI, dm_up_n1, dm_up_eq, dm_up_n2, not_true_eq_false, not_false_eq_true, if_true, if_false, true_and, and_true, false_and, and_false, true_or, or_true, false_or, or_false, Option.toList, List.cons_append, List.nil_append, b01_01, b01_T, b01_F, b01_n0, b01_n1, ite_self, pk_div, pk_rem, nI_shrA, nI_bt, nI_bt0, nI_bt1, t_hasBit, nsc, Nat.add_sub_cancel_left, Nat.add_sub_cancel, hA, hH, hy, Option.isSome_some, r1, hcl]
        exact hL
end
