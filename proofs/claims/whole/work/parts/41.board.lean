/-! THE RELATION: an abstract board, and what it says of the class's cells and of the reference's -/
/-- kind, number, sets told (bits), turns -/
abbrev Cd : Type := Nat × Nat × Nat × List Nat
/-- nails; places; weaknesses; cords; laws (bits); tape; seen -/
abbrev Bd : Type := Nat × (Nat → Nat) × (Nat → Nat) × List Cd × List Nat × List Nat × List (Nat × Bool)
def bN (b : Bd) : Nat := b.1
def bP (b : Bd) : Nat → Nat := b.2.1
def bW (b : Bd) : Nat → Nat := b.2.2.1
def bC (b : Bd) : List Cd := b.2.2.2.1
def bL (b : Bd) : List Nat := b.2.2.2.2.1
def bT (b : Bd) : List Nat := b.2.2.2.2.2.1
def bS (b : Bd) : List (Nat × Bool) := b.2.2.2.2.2.2
def cd0 : Cd := (0, 0, 0, [])
def bCd (b : Bd) (i : Nat) : Cd := (bC b).getD i cd0
def cdOk (n : Nat) (c : Cd) : Prop := c.1 < 7 ∧ c.2.1 < 10 ∧ c.2.2.1 < 65536 ∧ c.2.2.2.length ≤ 48 ∧ ∀ t ∈ c.2.2.2, t < 2 * n
/-- a board as it may be -/
def BdOk (b : Bd) : Prop := 0 < bN b ∧ bN b < 5 ∧ (∀ i, i < 4 → bP b i < 100 ∧ bW b i < 11) ∧ (bC b).length ≤ 5 ∧ (∀ c ∈ bC b, cdOk (bN b) c) ∧ (bL b).length ≤ 5 ∧ (∀ l ∈ bL b, l < 65536) ∧ (bT b).length ≤ 100 ∧ (∀ t ∈ bT b, t < 128) ∧ (bS b).length ≤ 8 ∧ ∀ s ∈ bS b, s.1 < 16
/-- the class's board at o -/
def ClsB (M : dm_M) (o : Nat) (b : Bd) : Prop :=
  M o 0 = nI (bN b) ∧ (∀ i, i < 4 → M (o + 1) i = nI (bP b i) ∧ M (o + 2) i = nI (bW b i)) ∧ M o 4 = nI (bC b).length ∧
  (∀ i, i < (bC b).length → CordIs M (o + 7 + 3 * i) (nI (bCd b i).1) (nI (bCd b i).2.1) (nI (bCd b i).2.2.1) (bCd b i).2.2.2) ∧
  M o 6 = nI (bL b).length ∧ (∀ i, i < (bL b).length → M (o + 4) i = nI ((bL b).getD i 0)) ∧
  M o 8 = nI (bT b).length ∧ (∀ i, i < (bT b).length → M (o + 5) i = nI ((bT b).getD i 0)) ∧
  M o 10 = nI (bS b).length ∧ (∀ i, i < (bS b).length → M (o + 6) i = nI (2 * ((bS b).getD i (0, false)).1 + ((bS b).getD i (0, false)).2.toNat)) ∧
  ∀ i, i < 5 → M (o + 7 + 3 * i) 0 = nI i
/-- the cells of the class's board -/
theorem bCd_mem {b : Bd} {i : Nat} (h : i < (bC b).length) : bCd b i ∈ bC b := by
  unfold bCd
  rw [List.getD_eq_getElem?_getD, List.getElem?_eq_getElem h]
  exact List.getElem_mem h
theorem BdOk.cd {b : Bd} (h : BdOk b) {i : Nat} (hi : i < (bC b).length) : cdOk (bN b) (bCd b i) := h.2.2.2.2.1 _ (bCd_mem hi)
theorem cd_8 {n : Nat} {c : Cd} (hn : n < 5) (h : cdOk n c) : ∀ t ∈ c.2.2.2, t < 8 := fun t ht => by have := h.2.2.2.2 t ht; omega
theorem cell_at {o : Nat} (h : o = 1 ∨ o = 23) {i : Nat} (hi : i < 5) : dm_kd (o + 7 + 3 * i) = 1 ∧ o + 7 + 3 * i + 2 < o + 22 := by
  rcases h with rfl | rfl
  · have : ∀ i, i < 5 → dm_kd (1 + 7 + 3 * i) = 1 := by decide +kernel
    exact ⟨this i hi, by omega⟩
  · have : ∀ i, i < 5 → dm_kd (23 + 7 + 3 * i) = 1 := by decide +kernel
    exact ⟨this i hi, by omega⟩
theorem ClsB.keep {M M' : dm_M} {o : Nat} {b : Bd} (h : ClsB M o b) (hc : (bC b).length ≤ 5) (e : ∀ a, o ≤ a → a < o + 22 → M' a = M a) : ClsB M' o b := by
  obtain ⟨h1, h2, h3, h4, h5, h6, h7, h8, h9, h10, h11⟩ := h
  have e0 := e o (by omega) (by omega)
  have e1 := e (o + 1) (by omega) (by omega)
  have e2 := e (o + 2) (by omega) (by omega)
  have e4 := e (o + 4) (by omega) (by omega)
  have e5 := e (o + 5) (by omega) (by omega)
  have e6 := e (o + 6) (by omega) (by omega)
  refine ⟨by rw [e0]; exact h1, fun i hi => by rw [e1, e2]; exact h2 i hi, by rw [e0]; exact h3, fun i hi => ?_, by rw [e0]; exact h5, fun i hi => by rw [e4]; exact h6 i hi, by rw [e0]; exact h7, fun i hi => by rw [e5]; exact h8 i hi, by rw [e0]; exact h9, fun i hi => by rw [e6]; exact h10 i hi, fun i hi => by rw [e _ (by omega) (by omega)]; exact h11 i hi⟩
  exact (h4 i hi).keep (e _ (by omega) (by omega)) (e _ (by omega) (by omega)) (e _ (by omega) (by omega))
