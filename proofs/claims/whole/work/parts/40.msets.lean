/-! the reference: SETS of a cord -/
/-- nothing but the rows to work in has changed -/
def WorkF (M0 M : dm_M) : Prop := ∀ a b, a ≠ 57 → a ≠ 58 → (a = 53 → b ≠ 12 ∧ b ≠ 13) → M a b = M0 a b
theorem WorkF.refl (M : dm_M) : WorkF M M := fun _ _ _ _ _ => rfl
theorem WorkF.trans {M0 M1 M2 : dm_M} (h1 : WorkF M0 M1) (h2 : WorkF M1 M2) : WorkF M0 M2 := fun a b x y z => (h2 a b x y z).trans (h1 a b x y z)
theorem RowF.work {M0 M : dm_M} (h : RowF M0 M) : WorkF M0 M := fun a b x _ z => h a b x (fun e => (z e).1)
theorem LeftF.work {M0 M : dm_M} (h : LeftF M0 M) : WorkF M0 M := fun a b _ y z => h a b y (fun e => (z e).2)
theorem flS_told {k v told p own : Int32} {ts : List Nat} (h : ¬ k = 6) : flS k v told p own ts = flS k v 0 p own ts := by
  unfold flS
  rw [if_neg h, if_neg h]
theorem flS_6 {v own : Int32} {t s : Nat} {ts : List Nat} (ht : t < 65536) (hs : s < 32) : flS 6 v (nI t) (nI s) own ts = t.testBit s := by
  unfold flS
  rw [if_pos rfl]
  have h := nI_bit0 (t := t) (s := s) (by omega) hs
  cases hb : t.testBit s with
  | false => exact decide_eq_false (fun z => z (h.mpr hb))
  | true => exact decide_eq_true (fun z => by rw [h.mp z] at hb; exact absurd hb (by decide))
/-- a cord in the reference's row of numbers at q -/
def MCord (M : dm_M) (q c : Nat) (k v told : Int32) (ts : List Nat) : Prop := M q (18 + c) = k ∧ M q (23 + c) = v ∧ M q (33 + c) = told ∧ MTurns M q c ts ∧ ∀ t ∈ ts, t < 8
section
variable {d c n : Nat} {M : dm_M} {Q : Option Value → dm_M → Prop} {k v told : Int32} {ts : List Nat}
theorem MCord.keep {M' : dm_M} {q : Nat} (h : MCord M q c k v told ts) (e : M' q = M q) : MCord M' q c k v told ts := by
  obtain ⟨a, b, x, ⟨f1, f2, f3⟩, g⟩ := h
  exact ⟨by rw [e]; exact a, by rw [e]; exact b, by rw [e]; exact x, ⟨by rw [e]; exact f1, f2, fun i hi => by rw [e]; exact f3 i hi⟩, g⟩
theorem WorkF.s {M0 : dm_M} (h : WorkF M0 M) : M 54 = M0 54 := by
  funext b
  exact h 54 b (by decide) (by decide) (fun z => absurd z (by decide))
theorem s_allSets (hn5 : n < 5) (hN : M 54 4 = nI n) : dm_cp (d + 1) 135 [.ref 53] M Q ↔ Q (some (.int (nI (2 ^ 2 ^ n - 1)))) M := by
  obtain ⟨p1, p2, p3⟩ := nI_pow n hn5
  have e1 : (1 : Int32) <<< (nI (2 ^ n) &&& 31) = nI (2 ^ 2 ^ n) := nI_shl (by omega)
  have e2 : nI (2 ^ 2 ^ n) - 1 = nI (2 ^ 2 ^ n - 1) := pk_sub (b := 1) (Nat.one_le_two_pow)
  rw [e135]
  simp only [p135_0, p135_1, p135_1n, p135_2, p135_5, p135_6, p135_7, p135_8, kd53, s_setsMany, hN, p1, e1, e2, Option.toList, List.cons_append, List.nil_append]
theorem s_MsetsOf {t : Nat} (hc : c < 5) (hn0 : 0 < n) (hn5 : n < 5) (hC : MCord M 54 c k v (nI t) ts) (ht : t < 65536) (hN : M 54 4 = nI n)
    (hQ : ∀ M', WorkF M M' → Q (some (.int (orB (fun s => flS k v (nI t) (nI s) (ownS v (nI n)) ts) (2 ^ n)))) M') : dm_cp (d + 4) 134 [.ref 53, .int (nI c)] M Q := by
  obtain ⟨c1, c2, c3, c4, c5⟩ := hC
  obtain ⟨p1, p2, p3⟩ := nI_pow n hn5
  obtain ⟨a1, a2⟩ := ix (18 + c) (by omega)
  have a3 : ¬ 1099 ≤ 18 + c := by omega
  have a4 : (18 : Int32) + nI c = nI (18 + c) := nI_add 18 c
  obtain ⟨b1, b2⟩ := ix (33 + c) (by omega)
  have b3 : ¬ 1099 ≤ 33 + c := by omega
  have b4 : (33 : Int32) + nI c = nI (33 + c) := nI_add 33 c
  obtain ⟨g1, g2⟩ := ix (23 + c) (by omega)
  have g3 : ¬ 1099 ≤ 23 + c := by omega
  have g4 : (23 : Int32) + nI c = nI (23 + c) := nI_add 23 c
  rw [e134]
  by_cases k6 : k = 6
  · subst k6
    have hA := fun (d : Nat) (Q : Option Value → dm_M → Prop) => s_allSets (d := d) (M := M) (Q := Q) hn5 hN
    simp only [p134_0, p134_0n, p134_1, p134_4, p134_6, p134_7, p134_8, p134_9, p134_11, p134_14, p134_14n, p134_15, p134_18, p134_20, p134_21, p134_22, p134_23, p134_23n, p134_24, p134_27, p134_28, p134_29, p134_29n, p134_30, p134_31, p134_34, p134_34n, p134_35, p134_35n, p134_36, p134_39, p134_41, p134_42, p134_43, p134_44, p134_44n, p134_45, p134_48, p134_50, p134_51, p134_52, p134_53, p134_56, kd53, kd54, rf53_1, ln54, a1, a2, a3, a4, b1, b2, b3, b4, c1, c3, hA, Option.toList, List.cons_append, List.nil_append, not_false_eq_true, not_true_eq_false, if_false]
    have hq := hQ M (WorkF.refl M)
    have e : orB (fun s => flS 6 v (nI t) (nI s) (ownS v (nI n)) ts) (2 ^ n) = nI t &&& nI (2 ^ 2 ^ n - 1) := by
      rw [orB_cong (g := fun s => t.testBit s) (fun i hi => flS_6 ht (by omega)), orB_nI _ _ (by omega), orN_self, nI_and, Nat.and_two_pow_sub_one_eq_mod]
    rw [e] at hq
    exact hq
  · simp only [p134_0, p134_0n, p134_1, p134_4, p134_6, p134_7, p134_8, p134_9, p134_11, p134_14, p134_14n, p134_15, p134_18, p134_20, p134_21, p134_22, p134_23, p134_23n, p134_24, p134_27, p134_28, p134_29, p134_29n, p134_30, p134_31, kd53, kd54, rf53_1, ln54, a1, a2, a3, a4, c1, k6, not_false_eq_true, if_true]
    refine s_takesRow hc c4 (fun M' hR hF => ?_)
    have hw := hF.work.s
    have d1 : M' 54 (18 + c) = k := by rw [hw]; exact c1
    have d2 : M' 54 (23 + c) = v := by rw [hw]; exact c2
    simp only [p134_34, p134_34n, p134_35, p134_35n, p134_36, p134_39, p134_41, p134_42, p134_43, p134_44, p134_44n, p134_45, p134_48, p134_50, p134_51, p134_52, p134_53, kd53, kd54, rf53_1, ln54, a1, a2, a3, a4, g1, g2, g3, g4, d1, d2, Option.toList, List.nil_append, not_false_eq_true]
    refine s_setsByRow k6 c5 hR hn0 hn5 (by rw [hw]; exact hN) (fun M2 hF2 => ?_)
    simp only [p134_56, Option.toList, List.cons_append, List.nil_append]
    have hq := hQ M2 (hF.work.trans hF2.work)
    rw [orB_cong (g := fun s => flS k v 0 (nI s) (ownS v (nI n)) ts) (fun i _ => flS_told k6)] at hq
    exact hq
end
