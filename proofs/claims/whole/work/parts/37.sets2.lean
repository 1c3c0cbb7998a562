/-! sets as bits: the reference -/
theorem ix (n : Nat) (h : n < 2 ^ 31) : ¬ nI n < 0 ∧ (nI n).toNatClampNeg = n := ⟨nI_pos h, nI_clamp h⟩
theorem or0 (x : Int32) : x ||| 0 = x := by simp
/-- a cord's turns in the reference's row of numbers at q -/
def MTurns (M : dm_M) (q c : Nat) (ts : List Nat) : Prop := M q (28 + c) = nI ts.length ∧ ts.length ≤ 48 ∧ ∀ i, i < ts.length → M q (38 + 48 * c + i) = nI (ts.getD i 0)
section
variable {d c n : Nat} {M : dm_M} {Q : Option Value → dm_M → Prop} {k v told : Int32} {ts : List Nat}
theorem s_setsMany : dm_cp d 116 [.ref 53] M Q ↔ Q (some (.int (1 <<< (M 54 4 &&& 31)))) M := by
  rw [e116]
  simp only [p116_0, p116_1, p116_1n, p116_2, p116_5, p116_6, p116_7, p116_8, kd53, kd54, rf53_1, ln54, cl4, nz4, lt4, not_false_eq_true]
theorem sr_loop {M0 : dm_M} (k6 : ¬ k = 6) (ht : ∀ t ∈ ts, t < 8) (hR : MRow M0 ts) (hn0 : 0 < n) (hn5 : n < 5) (hN : M0 54 4 = nI n)
    (hQ : ∀ M', LeftF M0 M' → Q (some (.int (orB (fun s => flS k v 0 (nI s) (ownS v (nI n)) ts) (2 ^ n)))) M') :
    ∀ (r i : Nat) (M : dm_M), i + r = 2 ^ n → LeftF M0 M →
      dm_wp (d + 3) 136 5 [some (.ref 53), some (.int k), some (.int v), some (.int (orB (fun s => flS k v 0 (nI s) (ownS v (nI n)) ts) i)), some (.int (nI i))] [] M Q := by
  obtain ⟨p1, p2, p3⟩ := nI_pow n hn5
  intro r
  induction r with
  | zero =>
    intro i M hi hF
    have e : i = 2 ^ n := by omega
    subst e
    have h1 : M 54 4 = nI n := by rw [hF 54 4 (by decide) (fun z => absurd z (by decide))]; exact hN
    have hS := fun (d : Nat) (Q : Option Value → dm_M → Prop) => s_setsMany (d := d) (M := M) (Q := Q)
    rw [h1, p1] at hS
    have h2 : nI (2 ^ n) ≤ nI (2 ^ n) := nI_le (Nat.le_refl _) (by omega)
    simp only [p136_0, p136_1, p136_2, p136_3, p136_5, p136_7, p136_7n, p136_8, p136_11, p136_14, p136_15, p136_15n, p136_16, p136_17, p136_18, p136_20, p136_23, p136_26, p136_27, p136_29, p136_30, p136_33, p136_34, p136_35, p136_36, p136_39, p136_42, p136_43, kd53, hS, h2, Option.toList, List.cons_append, List.nil_append, if_true]
    exact hQ M hF
  | succ r ih =>
    intro i M hi hF
    have hlt : i < 2 ^ n := by omega
    have h1 : M 54 4 = nI n := by rw [hF 54 4 (by decide) (fun z => absurd z (by decide))]; exact hN
    have hS := fun (d : Nat) (Q : Option Value → dm_M → Prop) => s_setsMany (d := d) (M := M) (Q := Q)
    rw [h1, p1] at hS
    have h2 : ¬ nI (2 ^ n) ≤ nI i := nI_ge hlt (by omega)
    rw [p136_5]
    simp only [p136_7, p136_7n, p136_8, p136_11, p136_14, p136_15, p136_15n, p136_16, p136_17, p136_18, p136_20, kd53, hS, h2, Option.toList, List.cons_append, List.nil_append, if_false]
    refine s_doesFall k6 ht (hF.row hR) (by rw [h1]; exact nI_ne0 hn0 (by omega)) (fun M' hF' => ?_)
    rw [h1]
    have hF2 : LeftF M0 M' := fun a b h3 h4 => (hF' a b h3 h4).trans (hF a b h3 h4)
    have := ih (i + 1) M' (by omega) hF2
    unfold orB at this
    by_cases e : flS k v 0 (nI i) (ownS v (nI n)) ts = true
    · rw [if_pos e] at this
      simp only [p136_23, p136_26, p136_27, p136_29, p136_30, p136_33, p136_34, p136_35, p136_36, p136_39, Option.toList, List.cons_append, List.nil_append, b01_eq0, e, not_true_eq_false, if_false, nI_1]
      exact this
    · rw [if_neg e] at this
      simp only [p136_23, p136_26, p136_27, p136_29, p136_30, p136_33, p136_34, p136_35, p136_36, p136_39, Option.toList, List.cons_append, List.nil_append, b01_eq0, e, or0, not_false_eq_true, if_true, nI_1]
      exact this
theorem s_setsByRow (k6 : ¬ k = 6) (ht : ∀ t ∈ ts, t < 8) (hR : MRow M ts) (hn0 : 0 < n) (hn5 : n < 5) (hN : M 54 4 = nI n)
    (hQ : ∀ M', LeftF M M' → Q (some (.int (orB (fun s => flS k v 0 (nI s) (ownS v (nI n)) ts) (2 ^ n)))) M') : dm_cp (d + 3) 136 [.ref 53, .int k, .int v] M Q := by
  rw [e136]
  simp only [p136_0, p136_1, p136_2, p136_3]
  exact sr_loop k6 ht hR hn0 hn5 hN hQ (2 ^ n) 0 M (Nat.zero_add _) (fun _ _ _ _ => rfl)
end
