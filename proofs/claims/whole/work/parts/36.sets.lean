/-! sets as bits: the class -/
def orB (f : Nat → Bool) : Nat → Int32
  | 0 => 0
  | i + 1 => if f i = true then orB f i ||| (1 <<< (nI i &&& 31)) else orB f i
theorem orB_cong {f g : Nat → Bool} : ∀ {n : Nat}, (∀ i, i < n → f i = g i) → orB f n = orB g n
  | 0, _ => rfl
  | n + 1, h => by
    unfold orB
    rw [h n (Nat.lt_succ_self n), orB_cong (fun i hi => h i (Nat.lt_succ_of_lt hi))]
/-- how many sets there are of n nails -/
theorem nI_pow : ∀ n, n < 5 → (1 : Int32) <<< (nI n &&& 31) = nI (2 ^ n) ∧ 2 ^ n ≤ 16 ∧ (1 : Int32) <<< (nI n &&& 31) - 1 = nI (2 ^ n - 1) := by decide
theorem nI_mask : ∀ n, n < 5 → ∀ s, s < 2 ^ n → nI s &&& nI (2 ^ n - 1) = nI s := by decide
/-- a cord of the class -/
def CordIs (M : dm_M) (c : Nat) (k v told : Int32) (ts : List Nat) : Prop := M c 1 = k ∧ M c 2 = v ∧ M c 3 = told ∧ RowIs M (c + 1) ts ∧ ∀ t ∈ ts, t < 8
theorem dm_cord1 (c : Nat) (h : dm_kd c = 1) : dm_rf c 4 = c + 1 ∧ dm_kd (c + 1) = 3 ∧ c + 1 ≠ 47 ∧ c + 1 ≠ 49 ∧ c + 1 ≠ 51 ∧ c + 2 < 45 := by
  have := dm_kd_fin (fun q d => d = 1 → dm_rf q 4 = q + 1 ∧ dm_kd (q + 1) = 3 ∧ q + 1 ≠ 47 ∧ q + 1 ≠ 49 ∧ q + 1 ≠ 51 ∧ q + 2 < 45) (by decide +kernel) (fun q _ h => absurd h (by decide)) c
  exact this h
theorem CordIs.keep {M M' : dm_M} {c : Nat} {k v told : Int32} {ts : List Nat} (h : CordIs M c k v told ts) (h1 : M' c = M c) (h2 : M' (c + 1) = M (c + 1)) (h3 : M' (c + 2) = M (c + 2)) : CordIs M' c k v told ts := by
  obtain ⟨a, b, e, f, g⟩ := h
  exact ⟨by rw [h1]; exact a, by rw [h1]; exact b, by rw [h1]; exact e, f.keep h2 h3, g⟩
section
variable {d c n : Nat} {M : dm_M} {Q : Option Value → dm_M → Prop} {k v told : Int32} {ts : List Nat}
theorem so_loop {M0 : dm_M} (hc : dm_kd c = 1) (hn0 : 0 < n) (hn5 : n < 5) (hC : CordIs M0 c k v told ts) (hN : M0 1 0 = nI n)
    (hQ : ∀ M', (∀ a, a ≠ 47 → a ≠ 48 → M' a = M0 a) → Q (some (.int (orB (fun s => flS k v told (nI s) (ownS v (nI n)) ts) (2 ^ n)))) M') :
    ∀ (r i : Nat) (M : dm_M), i + r = 2 ^ n → (∀ a, a ≠ 47 → a ≠ 48 → M a = M0 a) →
      dm_wp (d + 3) 20 4 [some (.ref 0), some (.ref c), some (.int (orB (fun s => flS k v told (nI s) (ownS v (nI n)) ts) i)), some (.int (nI i))] [] M Q := by
  obtain ⟨p1, p2, p3⟩ := nI_pow n hn5
  obtain ⟨r4, k3, r47, -, -, r45⟩ := dm_cord1 c hc
  intro r
  induction r with
  | zero =>
    intro i M hi hF
    have e : i = 2 ^ n := by omega
    subst e
    have h1 : M 1 0 = nI n := by rw [hF 1 (by decide) (by decide)]; exact hN
    have hS := fun (d : Nat) (Q : Option Value → dm_M → Prop) => s_setCount (d := d) (M := M) (Q := Q) kd1
    rw [h1, p1] at hS
    have h2 : nI (2 ^ n) ≤ nI (2 ^ n) := nI_le (Nat.le_refl _) (by omega)
    simp only [p20_0, p20_1, p20_2, p20_3, p20_4, p20_5, p20_5n, p20_6, p20_9, p20_12, p20_15, p20_15n, p20_16, p20_16n, p20_17, p20_17n, p20_18, p20_21, p20_22, p20_25, p20_28, p20_29, p20_30, p20_31, p20_32, p20_33, p20_34, p20_37, p20_40, p20_41, kd0, kd1, rf0_0, hS, h2, Option.toList, List.cons_append, List.nil_append, if_true]
    exact hQ M hF
  | succ r ih =>
    intro i M hi hF
    have hlt : i < 2 ^ n := by omega
    have h1 : M 1 0 = nI n := by rw [hF 1 (by decide) (by decide)]; exact hN
    have hS := fun (d : Nat) (Q : Option Value → dm_M → Prop) => s_setCount (d := d) (M := M) (Q := Q) kd1
    rw [h1, p1] at hS
    have h2 : ¬ nI (2 ^ n) ≤ nI i := nI_ge hlt (by omega)
    have hC2 := hC.keep (hF c (by omega) (by omega)) (hF (c + 1) r47 (by omega)) (hF (c + 2) (by omega) (by omega))
    obtain ⟨c1, c2, c3, c4, c5⟩ := hC2
    rw [p20_4]
    simp only [p20_5, p20_5n, p20_6, p20_9, p20_12, p20_15, p20_15n, p20_16, p20_16n, p20_17, p20_17n, p20_18, p20_21, p20_22, kd0, kd1, rf0_0, hc, r4, hS, h2, Option.toList, List.cons_append, List.nil_append, if_false]
    refine s_fallsBy hc k3 r47 c5 c4 c1 c2 c3 (by rw [h1]; exact nI_lt (a := 0) hn0 (by omega)) (fun M' hF' => ?_)
    rw [h1, p3, nI_mask n hn5 i hlt]
    have hF2 : ∀ a, a ≠ 47 → a ≠ 48 → M' a = M0 a := fun a h3 h4 => (hF' a h3 h4).trans (hF a h3 h4)
    have := ih (i + 1) M' (by omega) hF2
    unfold orB at this
    by_cases e : flS k v told (nI i) (ownS v (nI n)) ts = true
    · rw [if_pos e] at this
      simp only [p20_25, p20_28, p20_29, p20_30, p20_31, p20_32, p20_33, p20_34, p20_37, Option.toList, List.cons_append, List.nil_append, b01_eq0, e, not_true_eq_false, if_false, nI_1]
      exact this
    · rw [if_neg e] at this
      simp only [p20_25, p20_28, p20_29, p20_30, p20_31, p20_32, p20_33, p20_34, p20_37, Option.toList, List.cons_append, List.nil_append, b01_eq0, e, not_false_eq_true, if_true, nI_1]
      exact this
theorem s_setsOf (hc : dm_kd c = 1) (hn0 : 0 < n) (hn5 : n < 5) (hC : CordIs M c k v told ts) (hN : M 1 0 = nI n)
    (hQ : ∀ M', (∀ a, a ≠ 47 → a ≠ 48 → M' a = M a) → Q (some (.int (orB (fun s => flS k v told (nI s) (ownS v (nI n)) ts) (2 ^ n)))) M') : dm_cp (d + 3) 20 [.ref 0, .ref c] M Q := by
  rw [e20]
  simp only [p20_0, p20_1, p20_2, p20_3]
  exact so_loop hc hn0 hn5 hC hN hQ (2 ^ n) 0 M (Nat.zero_add _) (fun _ _ _ => rfl)
end
