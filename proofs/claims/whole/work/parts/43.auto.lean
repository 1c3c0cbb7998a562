/-! numbers as nI: what a run wants -/
theorem i0 : (0 : Int32) = nI 0 := rfl
theorem i1 : (1 : Int32) = nI 1 := rfl
theorem i2 : (2 : Int32) = nI 2 := rfl
theorem i3 : (3 : Int32) = nI 3 := rfl
theorem i4 : (4 : Int32) = nI 4 := rfl
theorem i5 : (5 : Int32) = nI 5 := rfl
theorem i6 : (6 : Int32) = nI 6 := rfl
theorem i7 : (7 : Int32) = nI 7 := rfl
theorem i8 : (8 : Int32) = nI 8 := rfl
theorem i9 : (9 : Int32) = nI 9 := rfl
theorem i10 : (10 : Int32) = nI 10 := rfl
theorem i14 : (14 : Int32) = nI 14 := rfl
theorem i15 : (15 : Int32) = nI 15 := rfl
theorem i16 : (16 : Int32) = nI 16 := rfl
theorem i18 : (18 : Int32) = nI 18 := rfl
theorem i20 : (20 : Int32) = nI 20 := rfl
theorem i21 : (21 : Int32) = nI 21 := rfl
theorem i23 : (23 : Int32) = nI 23 := rfl
theorem i28 : (28 : Int32) = nI 28 := rfl
theorem i31 : (31 : Int32) = nI 31 := rfl
theorem i32 : (32 : Int32) = nI 32 := rfl
theorem i33 : (33 : Int32) = nI 33 := rfl
theorem i38 : (38 : Int32) = nI 38 := rfl
theorem i40 : (40 : Int32) = nI 40 := rfl
theorem i41 : (41 : Int32) = nI 41 := rfl
theorem i48 : (48 : Int32) = nI 48 := rfl
theorem i49 : (49 : Int32) = nI 49 := rfl
theorem i51 : (51 : Int32) = nI 51 := rfl
theorem i57 : (57 : Int32) = nI 57 := rfl
theorem i60 : (60 : Int32) = nI 60 := rfl
theorem i61 : (61 : Int32) = nI 61 := rfl
theorem i62 : (62 : Int32) = nI 62 := rfl
theorem i63 : (63 : Int32) = nI 63 := rfl
theorem i97 : (97 : Int32) = nI 97 := rfl
theorem i99 : (99 : Int32) = nI 99 := rfl
theorem i100 : (100 : Int32) = nI 100 := rfl
theorem i110 : (110 : Int32) = nI 110 := rfl
theorem i124 : (124 : Int32) = nI 124 := rfl
theorem i127 : (127 : Int32) = nI 127 := rfl
theorem i140 : (140 : Int32) = nI 140 := rfl
theorem i199 : (199 : Int32) = nI 199 := rfl
theorem i200 : (200 : Int32) = nI 200 := rfl
theorem i278 : (278 : Int32) = nI 278 := rfl
theorem i286 : (286 : Int32) = nI 286 := rfl
theorem i294 : (294 : Int32) = nI 294 := rfl
theorem i394 : (394 : Int32) = nI 394 := rfl
theorem i399 : (399 : Int32) = nI 399 := rfl
theorem i1000 : (1000 : Int32) = nI 1000 := rfl
theorem i1099 : (1099 : Int32) = nI 1099 := rfl
theorem lt_T {a b : Nat} (h : a < b) (hb : b < 2 ^ 31) : (nI a < nI b) = True := eq_true (nI_lt h hb)
theorem lt_F {a b : Nat} (h : b ≤ a) (hb : a < 2 ^ 31) : (nI a < nI b) = False := eq_false (nI_nlt h hb)
theorem le_T {a b : Nat} (h : a ≤ b) (hb : b < 2 ^ 31) : (nI a ≤ nI b) = True := eq_true (nI_le h hb)
theorem le_F {a b : Nat} (h : b < a) (hb : a < 2 ^ 31) : (nI a ≤ nI b) = False := eq_false (nI_ge h hb)
theorem eq_T {a b : Nat} (h : a = b) : (nI a = nI b) = True := eq_true (by rw [h])
theorem eq_F {a b : Nat} (h : a ≠ b) (ha : a < 2 ^ 31) (hb : b < 2 ^ 31) : (nI a = nI b) = False := eq_false (fun z => h ((nI_eq ha hb).mp z))
theorem nI_m1 {n : Nat} (h : 0 < n) : nI n + -nI 1 = nI (n - 1) := by
  obtain ⟨k, rfl⟩ : ∃ k, n = k + 1 := ⟨n - 1, by omega⟩
  exact pk_m1 k
theorem b01_T {h : Decidable True} : @b01 True h = nI 1 := b01_t trivial
theorem b01_F {h : Decidable False} : @b01 False h = nI 0 := b01_f (fun z => z)
theorem b01_n0 {c : Prop} [Decidable c] : (b01 c = nI 0) = ¬ c := propext b01_eq0
theorem b01_n1 {c : Prop} [Decidable c] : (b01 c = nI 1) = c := propext (by
  by_cases h : c
  · rw [b01_t h]; exact ⟨fun _ => h, fun _ => rfl⟩
  · rw [b01_f h]; exact ⟨fun z => absurd z (by decide), fun z => absurd z h⟩)
theorem nI_shrA {t s : Nat} (ht : t < 2 ^ 31) (hs : s < 32) : nI t >>> (nI s &&& nI 31) = nI (t / 2 ^ s) := nI_shr ht hs
theorem nI_bt {t s : Nat} : nI (t / 2 ^ s) &&& nI 1 = nI (t.testBit s).toNat := by
  rw [nI_and, Nat.and_one_is_mod, Nat.testBit_eq_decide_div_mod_eq]
  congr 1
  rcases Nat.mod_two_eq_zero_or_one (t / 2 ^ s) with h | h <;> simp [h]
theorem nI_bt0 {b : Bool} : (nI b.toNat = nI 0) = (b = false) := by cases b <;> decide
theorem nI_bt1 {b : Bool} : (nI b.toNat = nI 1) = (b = true) := by cases b <;> decide
theorem t_hasBit {d t k : Nat} {M : dm_M} {Q : Option Value → dm_M → Prop} (ht : t < 2 ^ 31) (hk : k < 32) : dm_cp d 15 [.int (nI t), .int (nI k)] M Q ↔ Q (some (.int (nI (t.testBit k).toNat))) M := by
  rw [s_hasBit]
  have e := nI_bit0 ht hk
  cases hb : t.testBit k with
  | false =>
    have q := e.mpr hb
    have q2 : b01 (¬ (nI t >>> (nI k &&& 31)) &&& 1 = 0) = 0 := b01_eq0.mpr (fun z => z q)
    rw [q2]; exact Iff.rfl
  | true =>
    have q : ¬ (nI t >>> (nI k &&& 31)) &&& 1 = 0 := fun z => by rw [e.mp z] at hb; exact absurd hb (by decide)
    have q2 : b01 (¬ (nI t >>> (nI k &&& 31)) &&& 1 = 0) = 1 := b01_t q
    rw [q2]; exact Iff.rfl
theorem nsc {a b i : Nat} : a + (b + i) - b = a + i := by omega
theorem cl_nI {n : Nat} (h : n < 2 ^ 31) : (nI n).toNatClampNeg = n := nI_clamp h
theorem neg_facts {x : Int32} (h : x < 0) : (∀ k, k < 2 ^ 31 → (x < nI k) = True) ∧ (∀ k, k < 2 ^ 31 → (nI k ≤ x) = False) ∧ (∀ k, k < 2 ^ 31 → (x ≤ nI k) = True) ∧ (∀ k, k < 2 ^ 31 → (nI k < x) = False) ∧ ∀ k, k < 2 ^ 31 → (x = nI k) = False := by
  have h0 : x.toInt < 0 := Int32.lt_iff_toInt_lt.mp h
  refine ⟨fun k hk => eq_true (Int32.lt_iff_toInt_lt.mpr ?_), fun k hk => eq_false (fun z => ?_), fun k hk => eq_true (Int32.le_iff_toInt_le.mpr ?_), fun k hk => eq_false (fun z => ?_), fun k hk => eq_false (fun z => ?_)⟩
  · rw [nI_toInt hk]; omega
  · have := Int32.le_iff_toInt_le.mp z; rw [nI_toInt hk] at this; omega
  · rw [nI_toInt hk]; omega
  · have := Int32.lt_iff_toInt_lt.mp z; rw [nI_toInt hk] at this; omega
  · rw [z, nI_toInt hk] at h0; omega
theorem big_facts {x : Int32} {N : Nat} (hN : N < 2 ^ 31) (h : nI N ≤ x) : (∀ k, k ≤ N → (x < nI k) = False) ∧ (∀ k, k ≤ N → (nI k ≤ x) = True) ∧ (∀ k, k < N → (x ≤ nI k) = False) ∧ (∀ k, k < N → (nI k < x) = True) ∧ ∀ k, k < N → (x = nI k) = False := by
  have h0 := Int32.le_iff_toInt_le.mp h
  rw [nI_toInt hN] at h0
  refine ⟨fun k hk => eq_false (fun z => ?_), fun k hk => eq_true (Int32.le_iff_toInt_le.mpr ?_), fun k hk => eq_false (fun z => ?_), fun k hk => eq_true (Int32.lt_iff_toInt_lt.mpr ?_), fun k hk => eq_false (fun z => ?_)⟩
  · have := Int32.lt_iff_toInt_lt.mp z; rw [nI_toInt (by omega)] at this; omega
  · rw [nI_toInt (by omega)]; omega
  · have := Int32.le_iff_toInt_le.mp z; rw [nI_toInt (by omega)] at this; omega
  · rw [nI_toInt (by omega)]; omega
  · rw [z, nI_toInt (by omega)] at h0; omega
/-- an argument as an index below n -/
def ixo (x : Int32) (n : Nat) : Option Nat := if x < 0 then none else if x.toNatClampNeg < n then some x.toNatClampNeg else none
theorem ixo_neg {x : Int32} {n : Nat} (h : x < 0) : ixo x n = none := if_pos h
theorem ixo_big {x : Int32} {n N : Nat} (hN : N < 2 ^ 31) (hn : n ≤ N) (h : nI N ≤ x) : ixo x n = none := by
  unfold ixo
  have h0 := Int32.le_iff_toInt_le.mp h
  rw [nI_toInt hN] at h0
  have e : x.toNatClampNeg = x.toInt.toNat := rfl
  split
  · rfl
  · rw [if_neg (by omega)]
theorem ixo_in {j n : Nat} (h : j < n) (hj : j < 2 ^ 31) : ixo (nI j) n = some j := by
  unfold ixo
  rw [if_neg (nI_pos hj), nI_clamp hj, if_pos h]
theorem ixo_out {j n : Nat} (h : n ≤ j) (hj : j < 2 ^ 31) : ixo (nI j) n = none := by
  unfold ixo
  rw [if_neg (nI_pos hj), nI_clamp hj, if_neg (by omega)]
theorem ixo_some {x : Int32} {n i : Nat} (h : ixo x n = some i) : i < n ∧ x = nI i ∧ i < 2 ^ 31 := by
  unfold ixo at h
  split at h
  · exact absurd h (by simp)
  · rename_i h0
    split at h
    · rename_i h1
      have e := Option.some.inj h
      obtain ⟨j, hj, rfl⟩ := nI_of h0
      rw [nI_clamp hj] at e h1
      subst e
      exact ⟨h1, rfl, hj⟩
    · exact absurd h (by simp)
theorem ixo_none {x : Int32} {n : Nat} (hn : n < 2 ^ 31) (h : ixo x n = none) : x < 0 ∨ nI n ≤ x := by
  rcases pk_ix x hn with z | z | ⟨j, hj, rfl⟩
  · exact Or.inl z
  · exact Or.inr z
  · rw [ixo_in hj (by omega)] at h
    exact absurd h (by simp)
section
variable {d b : Nat} {x y z : Int32} {M : dm_M} {Q : Option Value → dm_M → Prop} {n : Nat}
theorem t_cordAt (hb : b = 1 ∨ b = 23) (h4 : M b 4 = nI n) (h5 : n ≤ 5) : dm_cp d 2 [.ref b, .int x] M Q ↔ Q (some (match ixo x n with | some i => .ref (b + 7 + 3 * i) | none => .null)) M := by
  rw [s_cordAt hb, h4]
  cases hx : ixo x n with
  | some i =>
    obtain ⟨h1, rfl, h2⟩ := ixo_some hx
    rw [if_pos ⟨nI_pos h2, nI_ge h1 (by omega), nI_ge (b := 5) (by omega) (by decide)⟩, nI_clamp h2]
  | none =>
    rw [if_neg]
    rcases ixo_none (by omega) hx with z | z
    · exact fun q => q.1 z
    · exact fun q => q.2.1 z
theorem t_hasNail (h : dm_kd b = 0) (h0 : M b 0 = nI n) (h4 : n ≤ 4) : dm_cp d 5 [.ref b, .int x] M Q ↔ Q (some (.int (b01 ((ixo x n).isSome = true)))) M := by
  have e : (¬ x < 0 ∧ ¬ nI n ≤ x ∧ ¬ 4 ≤ x) ↔ (ixo x n).isSome = true := by
    cases hx : ixo x n with
    | some i =>
      obtain ⟨h1, rfl, h2⟩ := ixo_some hx
      exact ⟨fun _ => rfl, fun _ => ⟨nI_pos h2, nI_ge h1 (by omega), nI_ge (b := 4) (by omega) (by decide)⟩⟩
    | none =>
      rcases ixo_none (by omega) hx with z | z
      · exact ⟨fun q => absurd z q.1, fun q => absurd q (by simp)⟩
      · exact ⟨fun q => absurd z q.2.1, fun q => absurd q (by simp)⟩
  rw [s_hasNail h, h0, b01_c e]
theorem t_in : dm_cp d 96 [.int x, .int y, .int z] M Q ↔ Q (some (.int (b01 (y ≤ x ∧ x ≤ z)))) M := by
  rw [e96]
  simp only [p96_0, p96_1, p96_2, p96_5, p96_6, p96_7, p96_10, p96_11, p96_14, p96_15, true_or, or_true]
  by_cases h1 : x < y
  · rw [if_pos h1, b01_f (fun q => absurd q.1 (Int32.not_le.mpr h1))]
  · rw [if_neg h1]
    by_cases h2 : z < x
    · rw [if_pos h2, b01_f (fun q => absurd q.2 (Int32.not_le.mpr h2))]
    · rw [if_neg h2, b01_t ⟨Int32.not_lt.mp h1, Int32.not_lt.mp h2⟩]
/-- from 0 to one below n -/
theorem in_ixo {m : Nat} (hn : n < 2 ^ 31) : b01 (0 ≤ x ∧ x ≤ nI n - 1) = b01 ((ixo x n).isSome = true) := by
  apply b01_c
  cases hx : ixo x n with
  | some i =>
    obtain ⟨h1, rfl, h2⟩ := ixo_some hx
    refine ⟨fun _ => rfl, fun _ => ⟨nI_pos' h2, ?_⟩⟩
    rw [show nI n - 1 = nI (n - 1) from pk_sub (b := 1) (by omega)]
    exact nI_le (by omega) (by omega)
  | none =>
    refine ⟨fun q => ?_, fun q => absurd q (by simp)⟩
    rcases ixo_none hn hx with z | z
    · exact absurd z (Int32.not_lt.mpr q.1)
    · rcases Nat.eq_zero_or_pos n with e | e
      · subst e
        exact absurd (Int32.le_trans q.1 q.2) (by decide)
      · have h3 := q.2
        rw [show nI n - 1 = nI (n - 1) from pk_sub (b := 1) (by omega)] at h3
        exact absurd (Int32.le_trans z h3) (nI_ge (by omega) (by omega))
theorem cl0 : (0 : Int32).toNatClampNeg = 0 := by decide
theorem cl1 : (1 : Int32).toNatClampNeg = 1 := by decide
theorem t_isNail (h0 : M 54 4 = nI n) (h : n < 2 ^ 31) : dm_cp (d + 1) 122 [.ref 53, .int x] M Q ↔ Q (some (.int (b01 ((ixo x n).isSome = true)))) M := by
  rw [e122]
  simp only [p122_0, p122_1, p122_2, p122_2n, p122_3, p122_6, p122_7, p122_8, p122_9, p122_10, p122_13, kd53, kd54, rf53_1, ln54, cl4, nz4, lt4, h0, t_in, in_ixo h (m := 0), Option.toList, List.cons_append, List.nil_append, not_false_eq_true, b01_01]
theorem t_isCord (h0 : M 54 0 = nI n) (h : n < 2 ^ 31) : dm_cp (d + 1) 126 [.ref 53, .int x] M Q ↔ Q (some (.int (b01 ((ixo x n).isSome = true)))) M := by
  rw [e126]
  simp only [p126_0, p126_1, p126_2, p126_2n, p126_3, p126_6, p126_7, p126_8, p126_9, p126_10, p126_13, kd53, kd54, rf53_1, ln54, cl0, show ¬ (0 : Int32) < 0 by decide, show ¬ 1099 ≤ 0 by decide, h0, t_in, in_ixo h (m := 0), Option.toList, List.cons_append, List.nil_append, not_false_eq_true, b01_01]
theorem t_isLaw (h0 : M 54 1 = nI n) (h : n < 2 ^ 31) : dm_cp (d + 1) 114 [.ref 53, .int x] M Q ↔ Q (some (.int (b01 ((ixo x n).isSome = true)))) M := by
  rw [e114]
  simp only [p114_0, p114_1, p114_2, p114_2n, p114_3, p114_6, p114_7, p114_8, p114_9, p114_10, p114_13, kd53, kd54, rf53_1, ln54, cl1, show ¬ (1 : Int32) < 0 by decide, show ¬ 1099 ≤ 1 by decide, h0, t_in, in_ixo h (m := 0), Option.toList, List.cons_append, List.nil_append, not_false_eq_true, b01_01]
theorem t_hasLaw (hb : dm_kd b = 0) (h4 : M b 6 = nI n) (h5 : n ≤ 5) : dm_cp d 45 [.ref b, .int x] M Q ↔ Q (some (.int (b01 ((ixo x n).isSome = true)))) M := by
  rw [e45]
  simp only [p45_0, p45_1, p45_4, p45_5, p45_5n, p45_6, p45_9, p45_12, p45_13, p45_14, p45_17, p45_18, p45_21, p45_22, hb, h4, true_or, or_true]
  cases hx : ixo x n with
  | some i =>
    obtain ⟨h1, rfl, h2⟩ := ixo_some hx
    have h3 : ¬ (5 : Int32) ≤ nI i := nI_ge (b := 5) (by omega) (by decide)
    rw [if_neg (nI_pos h2), if_neg (nI_ge h1 (by omega)), if_neg h3, b01_t (show (some i).isSome = true from rfl)]
  | none =>
    rw [b01_f (by simp)]
    rcases ixo_none (by omega) hx with z | z
    · rw [if_pos z]
    · rw [if_pos z]
      split <;> rfl
theorem t_hasSet (h : dm_kd b = 0) (h0 : M b 0 = nI n) (h4 : n < 5) : dm_cp (d + 1) 13 [.ref b, .int x] M Q ↔ Q (some (.int (b01 ((ixo x (2 ^ n)).isSome = true)))) M := by
  obtain ⟨p1, p2, p3⟩ := nI_pow n h4
  have hp : 0 < 2 ^ n := Nat.two_pow_pos n
  have e : (¬ x < 0 ∧ ¬ nI (2 ^ n - 1) < x) ↔ (ixo x (2 ^ n)).isSome = true := by
    cases hx : ixo x (2 ^ n) with
    | some i =>
      obtain ⟨h1, rfl, h2⟩ := ixo_some hx
      exact ⟨fun _ => rfl, fun _ => ⟨nI_pos h2, nI_nlt (by omega) (by omega)⟩⟩
    | none =>
      rcases ixo_none (by omega) hx with z | z
      · exact ⟨fun q => absurd z q.1, fun q => absurd q (by simp)⟩
      · refine ⟨fun q => absurd ?_ q.2, fun q => absurd q (by simp)⟩
        exact Int32.lt_of_lt_of_le (nI_lt (by omega) (by omega)) z
  rw [s_hasSet h, h0, p3, b01_c e]
end
