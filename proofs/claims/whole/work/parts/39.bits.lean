/-! bits -/
def orN (f : Nat → Bool) : Nat → Nat
  | 0 => 0
  | i + 1 => if f i = true then orN f i + 2 ^ i else orN f i
theorem orN_lt (f : Nat → Bool) : ∀ m, orN f m < 2 ^ m
  | 0 => Nat.one_pos
  | m + 1 => by
    have h := orN_lt f m
    unfold orN
    rw [Nat.pow_succ]
    split <;> omega
theorem pow_or {i b : Nat} (h : b < 2 ^ i) : 2 ^ i + b = 2 ^ i ||| b := by
  have := Nat.two_pow_add_eq_or_of_lt h 1
  rwa [Nat.mul_one] at this
theorem orN_bit (f : Nat → Bool) : ∀ m i, (orN f m).testBit i = (decide (i < m) && f i)
  | 0, i => by simp [orN]
  | m + 1, i => by
    have h := orN_lt f m
    have ih := orN_bit f m i
    unfold orN
    by_cases hf : f m = true
    · rw [if_pos hf, Nat.add_comm, pow_or h, Nat.testBit_or, ih, Nat.testBit_two_pow]
      by_cases e : m = i
      · subst e; simp [hf]
      · by_cases hlt : i < m
        · simp [e, hlt, Nat.lt_succ_of_lt hlt]
        · simp [e, hlt, show ¬ i < m + 1 by omega]
    · rw [if_neg hf, ih]
      by_cases e : i = m
      · subst e; simp [hf]
      · by_cases hlt : i < m
        · simp [hlt, Nat.lt_succ_of_lt hlt]
        · simp [hlt, show ¬ i < m + 1 by omega]
theorem sh_ok : ∀ n, n < 32 → ((nI n &&& 31).toBitVec.smod 32).toNat = n := by decide
theorem nI_bv (a : Nat) : (nI a).toBitVec = BitVec.ofNat 32 a := rfl
theorem nI_or (a b : Nat) : nI a ||| nI b = nI (a ||| b) := by
  apply Int32.toBitVec_inj.mp
  rw [Int32.toBitVec_or, nI_bv, nI_bv, nI_bv]
  apply BitVec.eq_of_toNat_eq
  rw [BitVec.toNat_or, BitVec.toNat_ofNat, BitVec.toNat_ofNat, BitVec.toNat_ofNat, Nat.or_mod_two_pow]
theorem nI_and (a b : Nat) : nI a &&& nI b = nI (a &&& b) := by
  apply Int32.toBitVec_inj.mp
  rw [Int32.toBitVec_and, nI_bv, nI_bv, nI_bv]
  apply BitVec.eq_of_toNat_eq
  rw [BitVec.toNat_and, BitVec.toNat_ofNat, BitVec.toNat_ofNat, BitVec.toNat_ofNat, Nat.and_mod_two_pow]
theorem nI_xor (a b : Nat) : nI a ^^^ nI b = nI (a ^^^ b) := by
  apply Int32.toBitVec_inj.mp
  rw [Int32.toBitVec_xor, nI_bv, nI_bv, nI_bv]
  apply BitVec.eq_of_toNat_eq
  rw [BitVec.toNat_xor, BitVec.toNat_ofNat, BitVec.toNat_ofNat, BitVec.toNat_ofNat, Nat.xor_mod_two_pow]
theorem nI_shl {s : Nat} (hs : s < 31) : (1 : Int32) <<< (nI s &&& 31) = nI (2 ^ s) := by
  have h := pk_shlN (n := 1) (nI s &&& 31) s (sh_ok s (by omega)) (by
    rw [Nat.one_mul]
    exact Nat.pow_lt_pow_right (by decide) (by omega))
  rw [Nat.one_mul] at h
  exact h
theorem nI_shr {t s : Nat} (ht : t < 2 ^ 31) (hs : s < 32) : nI t >>> (nI s &&& 31) = nI (t / 2 ^ s) := pk_shrN ht (nI s &&& 31) s (sh_ok s hs)
theorem nI_bit {t s : Nat} (ht : t < 2 ^ 31) (hs : s < 32) : (nI t >>> (nI s &&& 31)) &&& 1 = nI (t.testBit s).toNat := by
  rw [nI_shr ht hs, show (1 : Int32) = nI 1 from rfl, nI_and, Nat.and_one_is_mod, Nat.testBit_eq_decide_div_mod_eq]
  congr 1
  rcases Nat.mod_two_eq_zero_or_one (t / 2 ^ s) with h | h <;> simp [h]
theorem nI_bit0 {t s : Nat} (ht : t < 2 ^ 31) (hs : s < 32) : (nI t >>> (nI s &&& 31)) &&& 1 = 0 ↔ t.testBit s = false := by
  rw [nI_bit ht hs]
  cases t.testBit s <;> decide
theorem nI_bit1 {t s : Nat} (ht : t < 2 ^ 31) (hs : s < 32) : (nI t >>> (nI s &&& 31)) &&& 1 = 1 ↔ t.testBit s = true := by
  rw [nI_bit ht hs]
  cases t.testBit s <;> decide
theorem orB_nI (f : Nat → Bool) : ∀ m, m ≤ 31 → orB f m = nI (orN f m)
  | 0, _ => rfl
  | m + 1, h => by
    have ih := orB_nI f m (by omega)
    have hl := orN_lt f m
    unfold orB orN
    rw [ih]
    split
    · rw [nI_shl (by omega), nI_or, Nat.or_comm, ← pow_or hl, Nat.add_comm]
    · rfl
theorem orN_self {t m : Nat} : orN (fun s => t.testBit s) m = t % 2 ^ m := by
  apply Nat.eq_of_testBit_eq
  intro i
  rw [orN_bit, Nat.testBit_mod_two_pow]
