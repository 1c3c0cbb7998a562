/-! rows of turns: the class's Row methods over lists of turns -/
/-- a row of the class holds these turns -/
def RowIs (M : dm_M) (q : Nat) (ts : List Nat) : Prop := M q 1 = nI ts.length ∧ ts.length ≤ 49 ∧ ∀ i, i < ts.length → M (q + 1) i = nI (ts.getD i 0)
theorem dm_up_at {M : dm_M} {q k a b : Nat} {v : Int32} : dm_up M q k v a b = if a = q ∧ b = k then v else M a b := rfl
theorem dm_up_eq {M : dm_M} {q k : Nat} {v : Int32} : dm_up M q k v q k = v := if_pos ⟨rfl, rfl⟩
theorem dm_up_n1 {M : dm_M} {q k a b : Nat} {v : Int32} (h : ¬ a = q) : dm_up M q k v a b = M a b := if_neg (fun z => h z.1)
theorem dm_up_n2 {M : dm_M} {q k a b : Nat} {v : Int32} (h : ¬ b = k) : dm_up M q k v a b = M a b := if_neg (fun z => h z.2)
theorem up_ne {M : dm_M} {q k a : Nat} {v : Int32} (h : a ≠ q) : dm_up M q k v a = M a := by
  funext b
  exact dm_up_n1 h
theorem ne_q1 {q : Nat} : ¬ q = q + 1 := by omega
theorem ne_1q {q : Nat} : ¬ q + 1 = q := by omega
section
variable {d b q n : Nat} {x y : Int32} {M : dm_M} {Q : Option Value → dm_M → Prop}
theorem s_add (h : dm_kd q = 3) (hn : M q 1 = nI n) (h49 : n < 49) : dm_cp d 11 [.ref q, .int x] M Q ↔ Q none (dm_up (dm_up M (q + 1) n x) q 1 (nI (n + 1))) := by
  obtain ⟨r1, r2, r3⟩ := dm_row3 q h
  have c1 : (nI n).toNatClampNeg = n := nI_clamp (by omega)
  have c2 : ¬ nI n < 0 := nI_pos (by omega)
  have c3 : ¬ Int32.ofNat 49 ≤ nI n := nI_ge (b := 49) h49 (by decide)
  have c4 : ¬ 49 ≤ n := by omega
  rw [e11]
  simp only [p11_0, p11_0n, p11_1, p11_4, p11_7, p11_7n, p11_8, p11_11, p11_11n, p11_12, p11_15, p11_16, p11_19, p11_19n, p11_20, p11_23, p11_23n, p11_24, p11_27, p11_28, p11_29, p11_29n, p11_30, p11_31, p11_34, p11_35, p11_36, p11_39, h, r1, r2, r3, hn, c1, c2, c3, c4, ne_q1, not_false_eq_true, if_true, if_false, dm_up_n1, nI_1]
/-- a row with one turn more -/
theorem RowIs.push {ts : List Nat} {t : Nat} (h : RowIs M q ts) (hl : ts.length < 49) : RowIs (dm_up (dm_up M (q + 1) ts.length (nI t)) q 1 (nI (ts.length + 1))) q (ts ++ [t]) := by
  obtain ⟨h1, h2, h3⟩ := h
  refine ⟨?_, ?_, fun i hi => ?_⟩
  · rw [dm_up_eq, List.length_append]
    rfl
  · rw [List.length_append]
    show ts.length + 1 ≤ 49
    omega
  · rw [dm_up_n1 ne_1q]
    rw [List.length_append] at hi
    have hi : i < ts.length + 1 := hi
    by_cases e : i = ts.length
    · subst e
      rw [dm_up_eq, List.getD_eq_getElem?_getD, List.getElem?_append_right (Nat.le_refl _), Nat.sub_self]
      rfl
    · rw [dm_up_n2 e, h3 i (by omega), List.getD_eq_getElem?_getD, List.getD_eq_getElem?_getD, List.getElem?_append_left (by omega)]
/-- a turn of a row -/
theorem RowIs.turn {ts : List Nat} (h : RowIs M q ts) {i : Nat} (hi : i < ts.length) : ¬ nI i < 0 ∧ ¬ M q 1 ≤ nI i ∧ ¬ 49 ≤ nI i ∧ (nI i).toNatClampNeg = i ∧ M (q + 1) i = nI (ts.getD i 0) := by
  obtain ⟨h1, h2, h3⟩ := h
  refine ⟨nI_pos (by omega), by rw [h1]; exact nI_ge hi (by omega), nI_ge (b := 49) (by omega) (by decide), nI_clamp (by omega), h3 i hi⟩
theorem s_turnAt_in {ts : List Nat} {i : Nat} (hq : dm_kd q = 3) (h : RowIs M q ts) (hi : i < ts.length) : dm_cp d 3 [.ref q, .int (nI i)] M Q ↔ Q (some (.int (nI (ts.getD i 0)))) M := by
  obtain ⟨c1, c2, c3, c4, c5⟩ := h.turn hi
  rw [s_turnAt hq, if_pos ⟨c1, c2, c3⟩, c4, c5]
theorem RowIs.keep {M' : dm_M} {ts : List Nat} (h : RowIs M q ts) (h1 : M' q = M q) (h2 : M' (q + 1) = M (q + 1)) : RowIs M' q ts := ⟨by rw [h1]; exact h.1, h.2.1, fun i hi => by rw [h2]; exact h.2.2 i hi⟩
theorem RowIs.nil (h : M q 1 = 0) : RowIs M q [] := ⟨h, Nat.zero_le _, fun i hi => absurd hi (Nat.not_lt_zero i)⟩
/-- cords -/
theorem dm_cords {b i : Nat} (h : b = 1 ∨ b = 23) (hi : i < 5) : (dm_fs (b + 3))[i]? = some (b + 7 + 3 * i) := by
  rcases h with rfl | rfl
  · have : ∀ i, i < 5 → (dm_fs 4)[i]? = some (8 + 3 * i) := by decide +kernel
    exact this i hi
  · have : ∀ i, i < 5 → (dm_fs 26)[i]? = some (30 + 3 * i) := by decide +kernel
    exact this i hi
theorem dm_board {b : Nat} (h : b = 1 ∨ b = 23) : dm_kd b = 0 ∧ dm_kd (b + 3) = 102 ∧ dm_rf b 1 = b + 1 ∧ dm_rf b 2 = b + 2 ∧ dm_rf b 3 = b + 3 ∧ dm_rf b 5 = b + 4 ∧ dm_rf b 7 = b + 5 ∧ dm_rf b 9 = b + 6 ∧ dm_kd (b + 1) = 100 ∧ dm_kd (b + 2) = 100 ∧ dm_kd (b + 4) = 100 ∧ dm_kd (b + 5) = 100 ∧ dm_kd (b + 6) = 100 := by
  rcases h with rfl | rfl <;> decide +kernel
theorem s_cordAt (hb : b = 1 ∨ b = 23) : dm_cp d 2 [.ref b, .int x] M Q ↔ if ¬ x < 0 ∧ ¬ M b 4 ≤ x ∧ ¬ 5 ≤ x then Q (some (.ref (b + 7 + 3 * x.toNatClampNeg))) M else Q (some .null) M := by
  obtain ⟨k0, k3, r1, r2, r3, r5, r7, r9, -⟩ := dm_board hb
  rw [e2]
  by_cases h1 : x < 0
  · simp only [p2_0, p2_1, p2_4, p2_5, p2_5n, p2_6, p2_9, p2_12, p2_13, p2_14, p2_17, p2_17n, p2_18, p2_21, p2_22, p2_23, p2_26, p2_27, p2_27n, h1, not_true_eq_false, false_and, if_true, if_false]
  · by_cases h2 : M b 4 ≤ x
    · simp only [p2_0, p2_1, p2_4, p2_5, p2_5n, p2_6, p2_9, p2_12, p2_13, p2_14, p2_17, p2_17n, p2_18, p2_21, p2_22, p2_23, p2_26, p2_27, p2_27n, h1, h2, k0, not_true_eq_false, not_false_eq_true, false_and, and_false, if_true, if_false]
    · by_cases h3 : 5 ≤ x
      · simp only [p2_0, p2_1, p2_4, p2_5, p2_5n, p2_6, p2_9, p2_12, p2_13, p2_14, p2_17, p2_17n, p2_18, p2_21, p2_22, p2_23, p2_26, p2_27, p2_27n, h1, h2, h3, k0, not_true_eq_false, not_false_eq_true, and_false, if_true, if_false]
      · have h5 : x.toNatClampNeg < 5 := by
          have e1 : x.toInt < 5 := Int32.lt_iff_toInt_lt.mp (Int32.not_le.mp h3)
          have e2 : x.toNatClampNeg = x.toInt.toNat := rfl
          omega
        have h6 := dm_cords hb h5
        simp only [p2_0, p2_1, p2_4, p2_5, p2_5n, p2_6, p2_9, p2_12, p2_13, p2_14, p2_17, p2_17n, p2_18, p2_21, p2_23, p2_26, p2_27, p2_27n, h1, h2, h3, k0, r3, not_false_eq_true, and_true, if_true, if_false]
        rw [p2_22 k3 h1 h6]
        simp only [p2_0, p2_1, p2_4, p2_5, p2_5n, p2_6, p2_9, p2_12, p2_13, p2_14, p2_17, p2_17n, p2_18, p2_21, p2_22, p2_23, p2_26, p2_27, p2_27n]
end
