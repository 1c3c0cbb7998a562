/-! the small methods of the class -/
def b01 (c : Prop) [Decidable c] : Int32 := if c then 1 else 0
theorem b01_eq0 {c : Prop} [Decidable c] : b01 c = 0 ↔ ¬ c := by
  unfold b01
  by_cases h : c
  · rw [if_pos h]; exact ⟨fun z => absurd z (by decide), fun z => absurd h z⟩
  · rw [if_neg h]; exact ⟨fun _ => h, fun _ => rfl⟩
theorem b01_01 {c : Prop} [Decidable c] : b01 c = 0 ∨ b01 c = 1 := by
  unfold b01
  by_cases h : c
  · rw [if_pos h]; exact Or.inr rfl
  · rw [if_neg h]; exact Or.inl rfl
theorem b01_t {c : Prop} [Decidable c] (h : c) : b01 c = 1 := if_pos h
theorem b01_f {c : Prop} [Decidable c] (h : ¬ c) : b01 c = 0 := if_neg h
theorem b01_c {c e : Prop} [Decidable c] [Decidable e] (h : c ↔ e) : b01 c = b01 e := by
  unfold b01
  by_cases q : c
  · rw [if_pos q, if_pos (h.mp q)]
  · rw [if_neg q, if_neg (fun z => q (h.mpr z))]
section
variable {d b q : Nat} {x y : Int32} {M : dm_M} {Q : Option Value → dm_M → Prop}
theorem s_hasNail (h : dm_kd b = 0) : dm_cp d 5 [.ref b, .int x] M Q ↔ Q (some (.int (b01 (¬ x < 0 ∧ ¬ M b 0 ≤ x ∧ ¬ 4 ≤ x)))) M := by
  rw [e5]
  simp only [p5_0, p5_1, p5_4, p5_5, p5_5n, p5_6, p5_9, p5_12, p5_13, p5_14, p5_17, p5_18, p5_21, p5_22, h, true_or, or_true]
  unfold b01
  repeat' split
  all_goals first | rfl | (simp_all; done)
theorem s_allNails (h : dm_kd b = 0) : dm_cp d 14 [.ref b] M Q ↔ Q (some (.int ((1 <<< (M b 0 &&& 31)) - 1))) M := by
  rw [e14]
  simp only [p14_0, p14_1, p14_1n, p14_2, p14_5, p14_6, p14_7, p14_8, h]
theorem s_setCount (h : dm_kd b = 0) : dm_cp d 21 [.ref b] M Q ↔ Q (some (.int (1 <<< (M b 0 &&& 31)))) M := by
  rw [e21]
  simp only [p21_0, p21_1, p21_1n, p21_2, p21_5, p21_6, h]
theorem s_hasSet (h : dm_kd b = 0) : dm_cp (d + 1) 13 [.ref b, .int x] M Q ↔ Q (some (.int (b01 (¬ x < 0 ∧ ¬ (1 <<< (M b 0 &&& 31)) - 1 < x)))) M := by
  rw [e13]
  simp only [p13_0, p13_1, p13_4, p13_5, p13_5n, p13_6, p13_9, p13_12, p13_13, p13_16, p13_17, h, s_allNails, Option.toList, List.cons_append, List.nil_append, true_or, or_true]
  unfold b01
  repeat' split
  all_goals first | rfl | (simp_all; done)
theorem s_nailOf (h : dm_kd b = 0) (h0 : 0 < M b 0) : dm_cp d 23 [.ref b, .int x] M Q ↔ Q (some (.int (x - x / M b 0 * M b 0))) M := by
  rw [e23]
  have h1 : ¬ M b 0 ≤ 0 := Int32.not_le.mpr h0
  have h2 : ¬ M b 0 = 0 := fun z => by rw [z] at h0; exact absurd h0 (by decide)
  simp only [p23_0, p23_0n, p23_1, p23_4, p23_7, p23_8, p23_8n, p23_9, p23_12, p23_13, p23_16, p23_17, h, h1, h2, if_false, not_false_eq_true]
theorem s_hasBit : dm_cp d 15 [.int x, .int y] M Q ↔ Q (some (.int (b01 (¬ (x >>> (y &&& 31)) &&& 1 = 0)))) M := by
  rw [e15]
  simp only [p15_0, p15_1, p15_2, p15_3, p15_4, p15_5, p15_8, p15_9, p15_12, p15_13, true_or, or_true]
  unfold b01
  repeat' split
  all_goals first | rfl | (simp_all; done)
theorem s_clear (h : dm_kd q = 3) : dm_cp d 9 [.ref q] M Q ↔ Q none (dm_up M q 1 0) := by
  rw [e9]
  simp only [p9_0, p9_0n, p9_1, p9_2, p9_5, h]
theorem s_dropLast (h : dm_kd q = 3) : dm_cp d 19 [.ref q] M Q ↔ Q none (if M q 1 ≤ 0 then M else dm_up M q 1 (M q 1 - 1)) := by
  rw [e19]
  simp only [p19_0, p19_0n, p19_1, p19_4, p19_7, p19_7n, p19_8, p19_9, p19_12, p19_13, p19_14, p19_17, h]
  split <;> rfl
/-- a row's turns are the cell behind it -/
theorem dm_row3 (q : Nat) (h : dm_kd q = 3) : dm_rf q 0 = q + 1 ∧ dm_kd (q + 1) = 100 ∧ dm_ln (q + 1) = 49 := by
  have := dm_kd_fin (fun q d => d = 3 → dm_rf q 0 = q + 1 ∧ dm_kd (q + 1) = 100 ∧ dm_ln (q + 1) = 49) (by decide +kernel) (fun q _ h => absurd h (by decide)) q
  exact this h
theorem s_turnAt (h : dm_kd q = 3) : dm_cp d 3 [.ref q, .int x] M Q ↔ Q (some (.int (if ¬ x < 0 ∧ ¬ M q 1 ≤ x ∧ ¬ 49 ≤ x then M (q + 1) x.toNatClampNeg else -1))) M := by
  obtain ⟨r1, r2, r3⟩ := dm_row3 q h
  rw [e3]
  simp only [p3_0, p3_1, p3_4, p3_5, p3_5n, p3_6, p3_9, p3_12, p3_13, p3_13n, p3_14, p3_17, p3_18, p3_21, p3_21n, p3_22, p3_25, p3_26, p3_30, p3_31, h, r1, r2, r3]
  by_cases h1 : x < 0
  · simp only [h1, not_true_eq_false, false_and, if_true, if_false]
  · by_cases h2 : M q 1 ≤ x
    · simp only [h1, h2, not_true_eq_false, not_false_eq_true, false_and, and_false, if_true, if_false]
    · by_cases h3 : 49 ≤ x
      · have h4 : Int32.ofNat 49 ≤ x := h3
        simp only [h1, h2, h3, h4, not_true_eq_false, not_false_eq_true, and_false, if_true, if_false]
      · have h4 : ¬ Int32.ofNat 49 ≤ x := h3
        have h5 : ¬ 49 ≤ x.toNatClampNeg := by
          have e1 : x.toInt < 49 := Int32.lt_iff_toInt_lt.mp (Int32.not_le.mp h3)
          have e2 : x.toNatClampNeg = x.toInt.toNat := rfl
          omega
        simp only [p3_0, p3_1, p3_4, p3_5, p3_5n, p3_6, p3_9, p3_12, p3_13, p3_13n, p3_14, p3_17, p3_18, p3_21, p3_21n, p3_22, p3_25, p3_26, p3_27, p3_30, p3_31, h, r1, r2, r3, h1, h2, h3, h4, h5, not_false_eq_true, and_true, if_true, if_false]
end
