/-! the reference takes a cord's row -/
def RowF (M0 M : dm_M) : Prop := ∀ a b, a ≠ 57 → (a = 53 → b ≠ 12) → M a b = M0 a b
theorem RowF.turns {M0 M : dm_M} {c : Nat} {ts : List Nat} (hF : RowF M0 M) (h : MTurns M0 54 c ts) : MTurns M 54 c ts := ⟨by rw [hF 54 _ (by decide) (fun z => absurd z (by decide))]; exact h.1, h.2.1, fun i hi => by rw [hF 54 _ (by decide) (fun z => absurd z (by decide))]; exact h.2.2 i hi⟩
section
variable {d c : Nat} {M : dm_M} {Q : Option Value → dm_M → Prop} {ts : List Nat}
theorem tr_loop {M0 : dm_M} (hc : c < 5) (hT : MTurns M0 54 c ts) (hQ : ∀ M', MRow M' ts → RowF M0 M' → Q none M') :
    ∀ (n i : Nat) (M : dm_M), i + n = ts.length → RowF M0 M → M 53 12 = nI ts.length → (∀ j, j < i → M 57 j = nI (ts.getD j 0)) →
      dm_wp d 132 15 [some (.ref 53), some (.int (nI c)), some (.int (nI i))] [] M Q := by
  intro n
  induction n with
  | zero =>
    intro i M hi hF hm hj
    have e : i = ts.length := by omega
    subst e
    have h2 : nI ts.length ≤ nI ts.length := nI_le (Nat.le_refl _) (by have := hT.2.1; omega)
    simp only [p132_0, p132_0n, p132_1, p132_1n, p132_2, p132_5, p132_7, p132_8, p132_9, p132_10, p132_13, p132_14, p132_15, p132_16, p132_16n, p132_17, p132_20, p132_23, p132_23n, p132_24, p132_27, p132_28, p132_28n, p132_29, p132_32, p132_34, p132_36, p132_37, p132_38, p132_39, p132_40, p132_41, p132_42, p132_43, p132_46, p132_49, kd53, hm, h2, if_true]
    exact hQ M ⟨hm, by have := hT.2.1; omega, hj⟩ hF
  | succ n ih =>
    intro i M hi hF hm hj
    have hlt : i < ts.length := by omega
    have h48 := hT.2.1
    have h2 : ¬ nI ts.length ≤ nI i := nI_ge hlt (by omega)
    obtain ⟨a1, a2⟩ := ix i (by omega)
    obtain ⟨b1, b2⟩ := ix (38 + 48 * c + i) (by omega)
    have b3 : ¬ 1099 ≤ 38 + 48 * c + i := by omega
    have a3 : ¬ 49 ≤ i := by omega
    have e1 : (48 : Int32) * nI c = nI (48 * c) := pk_mul 48 c
    have e2 : (38 : Int32) + nI (48 * c) = nI (38 + 48 * c) := nI_add 38 (48 * c)
    have e3 : nI (38 + 48 * c) + nI i = nI (38 + 48 * c + i) := nI_add _ _
    have h4 : M 54 (38 + 48 * c + i) = nI (ts.getD i 0) := (hF.turns hT).2.2 i hlt
    rw [p132_15]
    simp only [p132_0, p132_0n, p132_1, p132_1n, p132_2, p132_5, p132_7, p132_8, p132_9, p132_10, p132_13, p132_14, p132_16, p132_16n, p132_17, p132_20, p132_23, p132_23n, p132_24, p132_27, p132_28, p132_28n, p132_29, p132_32, p132_34, p132_36, p132_37, p132_38, p132_39, p132_40, p132_41, p132_42, p132_43, p132_46, p132_49, kd53, kd54, kd57, rf53_1, rf53_10, ln54, ln57, hm, h2, a1, a2, a3, b1, b2, b3, e1, e2, e3, h4, not_false_eq_true, if_false, nI_1]
    refine ih (i + 1) _ (by omega) (fun a b h5 h6 => ?_) ?_ (fun j hji => ?_)
    · rw [dm_up_n1 h5]; exact hF a b h5 h6
    · rw [dm_up_n1 (by decide)]; exact hm
    · by_cases e : j = i
      · subst e; exact dm_up_eq
      · rw [dm_up_n2 e]; exact hj j (by omega)
theorem s_takesRow (hc : c < 5) (hT : MTurns M 54 c ts) (hQ : ∀ M', MRow M' ts → RowF M M' → Q none M') : dm_cp d 132 [.ref 53, .int (nI c)] M Q := by
  obtain ⟨b1, b2⟩ := ix (28 + c) (by omega)
  have b3 : ¬ 1099 ≤ 28 + c := by omega
  have e1 : (28 : Int32) + nI c = nI (28 + c) := nI_add 28 c
  rw [e132]
  simp only [p132_0, p132_0n, p132_1, p132_1n, p132_2, p132_5, p132_7, p132_8, p132_9, p132_10, p132_13, p132_14, kd53, kd54, rf53_1, ln54, b1, b2, b3, e1, hT.1, not_false_eq_true]
  refine tr_loop hc hT hQ ts.length 0 _ (Nat.zero_add _) (fun a b h5 h6 => ?_) dm_up_eq (fun j hj => absurd hj (Nat.not_lt_zero j))
  rw [dm_up_at, if_neg (fun z => h6 z.1 z.2)]
end
