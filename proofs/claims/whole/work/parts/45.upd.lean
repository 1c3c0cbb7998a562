/-! boards that change in one place -/
theorem gset {α : Type} {l : List α} {i j : Nat} {x d : α} (hi : i < l.length) : (l.set i x).getD j d = if j = i then x else l.getD j d := by
  rw [List.getD_eq_getElem?_getD, List.getD_eq_getElem?_getD, List.getElem?_set]
  by_cases e : i = j
  · subst e
    rw [if_pos rfl, if_pos hi, if_pos rfl]
    rfl
  · rw [if_neg e, if_neg (fun z => e z.symm)]
theorem gapp {α : Type} {l : List α} {j : Nat} {x d : α} (hj : j ≤ l.length) : (l ++ [x]).getD j d = if j = l.length then x else l.getD j d := by
  rw [List.getD_eq_getElem?_getD, List.getD_eq_getElem?_getD]
  by_cases e : j = l.length
  · subst e
    rw [if_pos rfl, List.getElem?_append_right (Nat.le_refl _), Nat.sub_self]
    rfl
  · rw [if_neg e, List.getElem?_append_left (by omega)]
theorem lapp {α : Type} {l : List α} {x : α} : (l ++ [x]).length = l.length + 1 := by rw [List.length_append]; rfl
section
variable {M M' : dm_M} {o q i : Nat} {b : Bd} {c : Cd}
/-- the class: one cord is another -/
theorem ClsB.setCord (h : ClsB M o b) (h5 : (bC b).length ≤ 5) (hi : i < (bC b).length) (hM : ∀ a, o ≤ a → a < o + 22 → a ≠ o + 7 + 3 * i → a ≠ o + 7 + 3 * i + 1 → a ≠ o + 7 + 3 * i + 2 → M' a = M a) (hn : M' (o + 7 + 3 * i) 0 = nI i)
    (hc : CordIs M' (o + 7 + 3 * i) (nI c.1) (nI c.2.1) (nI c.2.2.1) c.2.2.2) : ClsB M' o (setC b ((bC b).set i c)) := by
  obtain ⟨h1, h2, h3, h4, h6, h7, h8, h9, h10, h11, h12⟩ := h
  have e0 := hM o (by omega) (by omega) (by omega) (by omega) (by omega)
  have e1 := hM (o + 1) (by omega) (by omega) (by omega) (by omega) (by omega)
  have e2 := hM (o + 2) (by omega) (by omega) (by omega) (by omega) (by omega)
  have e4 := hM (o + 4) (by omega) (by omega) (by omega) (by omega) (by omega)
  have e5 := hM (o + 5) (by omega) (by omega) (by omega) (by omega) (by omega)
  have e6 := hM (o + 6) (by omega) (by omega) (by omega) (by omega) (by omega)
  refine ⟨by rw [e0]; exact h1, fun j hj => by rw [e1, e2]; exact h2 j hj, ?_, fun j hj => ?_, by rw [e0]; exact h6, fun j hj => by rw [e4]; exact h7 j hj, by rw [e0]; exact h8, fun j hj => by rw [e5]; exact h9 j hj, by rw [e0]; exact h10, fun j hj => by rw [e6]; exact h11 j hj, fun j hj => ?_⟩
  · rw [e0, h3]
    show _ = nI ((bC b).set i c).length
    rw [List.length_set]
  · have hj : j < (bC b).length := by have : j < ((bC b).set i c).length := hj; rwa [List.length_set] at this
    have e : bCd (setC b ((bC b).set i c)) j = if j = i then c else bCd b j := gset hi
    rw [e]
    by_cases z : j = i
    · subst z
      rw [if_pos rfl]
      exact hc
    · rw [if_neg z]
      exact (h4 j hj).keep (hM _ (by omega) (by omega) (by omega) (by omega) (by omega)) (hM _ (by omega) (by omega) (by omega) (by omega) (by omega)) (hM _ (by omega) (by omega) (by omega) (by omega) (by omega))
  · by_cases z : j = i
    · subst z; exact hn
    · rw [hM _ (by omega) (by omega) (by omega) (by omega) (by omega)]; exact h12 j hj
/-- the class: one cord more -/
theorem ClsB.pushCord (h : ClsB M o b) (h5 : (bC b).length < 5) (hi : i = (bC b).length) (hM : ∀ a, o ≤ a → a < o + 22 → a ≠ o → a ≠ o + 7 + 3 * i → a ≠ o + 7 + 3 * i + 1 → a ≠ o + 7 + 3 * i + 2 → M' a = M a) (hM0 : ∀ k, k ≠ 4 → M' o k = M o k) (hl : M' o 4 = nI ((bC b).length + 1)) (hn : M' (o + 7 + 3 * i) 0 = nI i)
    (hc : CordIs M' (o + 7 + 3 * i) (nI c.1) (nI c.2.1) (nI c.2.2.1) c.2.2.2) : ClsB M' o (setC b (bC b ++ [c])) := by
  obtain ⟨h1, h2, h3, h4, h6, h7, h8, h9, h10, h11, h12⟩ := h
  subst hi
  have e1 := hM (o + 1) (by omega) (by omega) (by omega) (by omega) (by omega) (by omega)
  have e2 := hM (o + 2) (by omega) (by omega) (by omega) (by omega) (by omega) (by omega)
  have e4 := hM (o + 4) (by omega) (by omega) (by omega) (by omega) (by omega) (by omega)
  have e5 := hM (o + 5) (by omega) (by omega) (by omega) (by omega) (by omega) (by omega)
  have e6 := hM (o + 6) (by omega) (by omega) (by omega) (by omega) (by omega) (by omega)
  refine ⟨by rw [hM0 0 (by decide)]; exact h1, fun j hj => by rw [e1, e2]; exact h2 j hj, ?_, fun j hj => ?_, by rw [hM0 6 (by decide)]; exact h6, fun j hj => by rw [e4]; exact h7 j hj, by rw [hM0 8 (by decide)]; exact h8, fun j hj => by rw [e5]; exact h9 j hj, by rw [hM0 10 (by decide)]; exact h10, fun j hj => by rw [e6]; exact h11 j hj, fun j hj => ?_⟩
  · rw [hl]
    show _ = nI (bC b ++ [c]).length
    rw [lapp]
  · have hj : j < (bC b).length + 1 := by have : j < (bC b ++ [c]).length := hj; rwa [lapp] at this
    have e : bCd (setC b (bC b ++ [c])) j = if j = (bC b).length then c else bCd b j := gapp (by omega)
    rw [e]
    by_cases z : j = (bC b).length
    · subst z
      rw [if_pos rfl]
      exact hc
    · rw [if_neg z]
      exact (h4 j (by omega)).keep (hM _ (by omega) (by omega) (by omega) (by omega) (by omega) (by omega)) (hM _ (by omega) (by omega) (by omega) (by omega) (by omega) (by omega)) (hM _ (by omega) (by omega) (by omega) (by omega) (by omega) (by omega))
  · by_cases z : j = (bC b).length
    · subst z; exact hn
    · rw [hM _ (by omega) (by omega) (by omega) (by omega) (by omega) (by omega)]; exact h12 j hj
/-- the reference: one cord is another -/
theorem MdlB.setCord (h : MdlB M q b) (h5 : (bC b).length ≤ 5) (hi : i < (bC b).length) (hM : ∀ k, k ≠ 18 + i → k ≠ 23 + i → k ≠ 28 + i → k ≠ 33 + i → ¬ (38 + 48 * i ≤ k ∧ k < 86 + 48 * i) → M' q k = M q k)
    (hc : MCord M' q i (nI c.1) (nI c.2.1) (nI c.2.2.1) c.2.2.2) (hT : (bT b).length ≤ 100) (hS : (bS b).length ≤ 8) (hL : (bL b).length ≤ 5) (h48 : ∀ j, j < (bC b).length → (bCd b j).2.2.2.length ≤ 48) : MdlB M' q (setC b ((bC b).set i c)) := by
  obtain ⟨h1, h2, h3, h4, h6, h7, h8, h9, h10, h11⟩ := h
  have hK : ∀ k, k < 18 ∨ 278 ≤ k → M' q k = M q k := fun k hk => hM k (by omega) (by omega) (by omega) (by omega) (by omega)
  refine ⟨by rw [hK 4 (by omega)]; exact h1, fun j hj => by rw [hK _ (by omega), hK _ (by omega)]; exact h2 j hj, ?_, fun j hj => ?_, by rw [hK 1 (by omega)]; exact h6, fun j hj => ?_, by rw [hK 3 (by omega)]; exact h8, fun j hj => by rw [hK _ (by omega)]; exact h9 j hj, by rw [hK 2 (by omega)]; exact h10, fun j hj => ?_⟩
  · rw [hK 0 (by omega), h3]
    show _ = nI ((bC b).set i c).length
    rw [List.length_set]
  · have hj : j < (bC b).length := by have : j < ((bC b).set i c).length := hj; rwa [List.length_set] at this
    have e : bCd (setC b ((bC b).set i c)) j = if j = i then c else bCd b j := gset hi
    rw [e]
    by_cases z : j = i
    · subst z
      rw [if_pos rfl]
      exact hc
    · rw [if_neg z]
      have hl := h48 j hj
      obtain ⟨a, b1, x, ⟨f1, f2, f3⟩, g⟩ := h4 j hj
      exact ⟨by rw [hM _ (by omega) (by omega) (by omega) (by omega) (by omega)]; exact a, by rw [hM _ (by omega) (by omega) (by omega) (by omega) (by omega)]; exact b1, by rw [hM _ (by omega) (by omega) (by omega) (by omega) (by omega)]; exact x, ⟨by rw [hM _ (by omega) (by omega) (by omega) (by omega) (by omega)]; exact f1, f2, fun k hk => by rw [hM _ (by omega) (by omega) (by omega) (by omega) (by omega)]; exact f3 k hk⟩, g⟩
  · have hj : j < (bL b).length := hj
    obtain ⟨code, a, b1, c1, d1⟩ := h7 j hj
    exact ⟨code, by rw [hK _ (by omega)]; exact a, b1, fun k hk => by rw [hK _ (by omega)]; exact c1 k hk, d1⟩
  · have hj : j < (bS b).length := hj
    rw [hK _ (by omega), hK _ (by omega)]
    exact h11 j hj
theorem MdlB.pushCord (h : MdlB M q b) (h5 : (bC b).length < 5) (hi : i = (bC b).length) (hM : ∀ k, k ≠ 0 → k ≠ 18 + i → k ≠ 23 + i → k ≠ 28 + i → k ≠ 33 + i → ¬ (38 + 48 * i ≤ k ∧ k < 86 + 48 * i) → M' q k = M q k) (hl : M' q 0 = nI ((bC b).length + 1))
    (hc : MCord M' q i (nI c.1) (nI c.2.1) (nI c.2.2.1) c.2.2.2) (hT : (bT b).length ≤ 100) (hS : (bS b).length ≤ 8) (hL : (bL b).length ≤ 5) (h48 : ∀ j, j < (bC b).length → (bCd b j).2.2.2.length ≤ 48) : MdlB M' q (setC b (bC b ++ [c])) := by
  obtain ⟨h1, h2, h3, h4, h6, h7, h8, h9, h10, h11⟩ := h
  subst hi
  have hK : ∀ k, (0 < k ∧ k < 18) ∨ 278 ≤ k → M' q k = M q k := fun k hk => hM k (by omega) (by omega) (by omega) (by omega) (by omega) (by omega)
  refine ⟨by rw [hK 4 (by omega)]; exact h1, fun j hj => by rw [hK _ (by omega), hK _ (by omega)]; exact h2 j hj, ?_, fun j hj => ?_, by rw [hK 1 (by omega)]; exact h6, fun j hj => ?_, by rw [hK 3 (by omega)]; exact h8, fun j hj => by rw [hK _ (by omega)]; exact h9 j hj, by rw [hK 2 (by omega)]; exact h10, fun j hj => ?_⟩
  · rw [hl]
    show _ = nI (bC b ++ [c]).length
    rw [lapp]
  · have hj : j < (bC b).length + 1 := by have : j < (bC b ++ [c]).length := hj; rwa [lapp] at this
    have e : bCd (setC b (bC b ++ [c])) j = if j = (bC b).length then c else bCd b j := gapp (by omega)
    rw [e]
    by_cases z : j = (bC b).length
    · subst z
      rw [if_pos rfl]
      exact hc
    · rw [if_neg z]
      have hl := h48 j (by omega)
      obtain ⟨a, b1, x, ⟨f1, f2, f3⟩, g⟩ := h4 j (by omega)
      exact ⟨by rw [hM _ (by omega) (by omega) (by omega) (by omega) (by omega) (by omega)]; exact a, by rw [hM _ (by omega) (by omega) (by omega) (by omega) (by omega) (by omega)]; exact b1, by rw [hM _ (by omega) (by omega) (by omega) (by omega) (by omega) (by omega)]; exact x, ⟨by rw [hM _ (by omega) (by omega) (by omega) (by omega) (by omega) (by omega)]; exact f1, f2, fun k hk => by rw [hM _ (by omega) (by omega) (by omega) (by omega) (by omega) (by omega)]; exact f3 k hk⟩, g⟩
  · have hj : j < (bL b).length := hj
    obtain ⟨code, a, b1, c1, d1⟩ := h7 j hj
    exact ⟨code, by rw [hK _ (by omega)]; exact a, b1, fun k hk => by rw [hK _ (by omega)]; exact c1 k hk, d1⟩
  · have hj : j < (bS b).length := hj
    rw [hK _ (by omega), hK _ (by omega)]
    exact h11 j hj
theorem BdOk.setCord (h : BdOk b) (hc : cdOk (bN b) c) : BdOk (setC b ((bC b).set i c)) := by
  obtain ⟨a1, a2, a3, a4, a5, a6⟩ := h
  refine ⟨a1, a2, a3, ?_, fun x hx => ?_, a6⟩
  · show ((bC b).set i c).length ≤ 5
    rw [List.length_set]; exact a4
  · have hx : x ∈ (bC b).set i c := hx
    rcases List.mem_or_eq_of_mem_set hx with z | z
    · exact a5 x z
    · rw [z]; exact hc
theorem BdOk.pushCord (h : BdOk b) (hl : (bC b).length < 5) (hc : cdOk (bN b) c) : BdOk (setC b (bC b ++ [c])) := by
  obtain ⟨a1, a2, a3, a4, a5, a6⟩ := h
  refine ⟨a1, a2, a3, ?_, fun x hx => ?_, a6⟩
  · show (bC b ++ [c]).length ≤ 5
    rw [lapp]; omega
  · have hx : x ∈ bC b ++ [c] := hx
    rcases List.mem_append.mp hx with z | z
    · exact a5 x z
    · rw [List.mem_singleton.mp z]; exact hc
/-- an object with another board, all else as it was -/
theorem RC.setB {s : Sg} {b' : Bd} (h : RC M s) (hk : BdOk b') (hb : ClsB M' 1 b') (e : ∀ a, (a = 0 ∨ 22 < a) → a < 47 → a ≠ 45 → M' a = M a) : RC M' (setB s b') := by
  obtain ⟨h1, h2, h3, h4, h5, h6, h7⟩ := h
  have e0 := e 0 (by decide) (by decide) (by decide)
  have e46 := e 46 (by decide) (by decide) (by decide)
  exact ⟨⟨hk, h1.2.1, h1.2.2.1, h1.2.2.2⟩, hb, by rw [e0]; exact h3, fun b hb => (h4 b hb).keep (h1.2.1 b hb).2.2.2.1 (fun a _ _ => e a (by omega) (by omega) (by omega)), fun i hi => by rw [e _ (by omega) (by omega) (by omega)]; exact h5 i hi, by rw [e0]; exact h6, fun i h8 h9 => by rw [e46]; exact h7 i h8 h9⟩
theorem RM.setB {s : Sg} {b' : Bd} (h : RM M s) (hk : BdOk b') (hb : MdlB M' 54 b') (e55 : M' 55 = M 55) (e61 : M' 61 = M 61) (e3 : M' 53 3 = M 53 3) (e18 : M' 53 18 = M 53 18) : RM M' (setB s b') := by
  obtain ⟨h1, h2, h3, h4, h5, h6⟩ := h
  exact ⟨⟨hk, h1.2.1, h1.2.2.1, h1.2.2.2⟩, hb, by rw [e3]; exact h3, fun b hb => (h4 b hb).keep e55, by rw [e18]; exact h5, fun i a b => by rw [e61]; exact h6 i a b⟩
/-- a board of which but numbers in its cells have changed -/
theorem ClsB.chg {b' : Bd} (h : ClsB M o b) (h5 : (bC b).length ≤ 5) (hC : bC b' = bC b) (hM : ∀ a, o + 7 ≤ a → a < o + 22 → M' a = M a) (e4 : M' o 4 = M o 4)
    (g1 : M' o 0 = nI (bN b')) (g2 : ∀ i, i < 4 → M' (o + 1) i = nI (bP b' i) ∧ M' (o + 2) i = nI (bW b' i)) (g3 : M' o 6 = nI (bL b').length) (g4 : ∀ i, i < (bL b').length → M' (o + 4) i = nI ((bL b').getD i 0))
    (g5 : M' o 8 = nI (bT b').length) (g6 : ∀ i, i < (bT b').length → M' (o + 5) i = nI ((bT b').getD i 0))
    (g7 : M' o 10 = nI (bS b').length) (g8 : ∀ i, i < (bS b').length → M' (o + 6) i = nI (2 * ((bS b').getD i (0, false)).1 + ((bS b').getD i (0, false)).2.toNat)) : ClsB M' o b' := by
  have e := h.keep (M' := fun a => if o + 7 ≤ a then M' a else M a) h5 (fun a h1 h2 => by
    show (if o + 7 ≤ a then M' a else M a) = M a
    split
    · rename_i z; exact hM a z h2
    · rfl)
  obtain ⟨-, -, -, h4, -, -, -, -, -, -, h12⟩ := e
  refine ⟨g1, g2, by rw [e4, hC]; exact h.2.2.1, fun i hi => ?_, g3, g4, g5, g6, g7, g8, fun i hi => ?_⟩
  · rw [hC] at hi
    have z := h4 i hi
    have hh : ∀ a, o + 7 ≤ a → (fun a => if o + 7 ≤ a then M' a else M a) a = M' a := fun a ha => if_pos ha
    have := z.keep (M' := M') (hh _ (by omega)).symm (hh _ (by omega)).symm (hh _ (by omega)).symm
    unfold bCd
    rw [hC]
    exact this
  · have z := h12 i hi
    have hh : (fun a => if o + 7 ≤ a then M' a else M a) (o + 7 + 3 * i) = M' (o + 7 + 3 * i) := if_pos (by omega)
    rw [hh] at z
    exact z
theorem MdlB.chg {b' : Bd} (h : MdlB M q b) (h5 : (bC b).length ≤ 5) (h48 : ∀ j, j < (bC b).length → (bCd b j).2.2.2.length ≤ 48) (hC : bC b' = bC b) (hM : ∀ k, 18 ≤ k → k < 278 → M' q k = M q k) (e0 : M' q 0 = M q 0)
    (g1 : M' q 4 = nI (bN b')) (g2 : ∀ i, i < 4 → M' q (10 + i) = nI (bP b' i) ∧ M' q (14 + i) = nI (bW b' i)) (g3 : M' q 1 = nI (bL b').length) (g4 : ∀ i, i < (bL b').length → LawIs M' q i ((bL b').getD i 0))
    (g5 : M' q 3 = nI (bT b').length) (g6 : ∀ i, i < (bT b').length → M' q (294 + i) = nI ((bT b').getD i 0))
    (g7 : M' q 2 = nI (bS b').length) (g8 : ∀ i, i < (bS b').length → M' q (278 + i) = nI ((bS b').getD i (0, false)).1 ∧ M' q (286 + i) = nI ((bS b').getD i (0, false)).2.toNat) : MdlB M' q b' := by
  obtain ⟨h1, h2, h3, h4, h6, h7, h8, h9, h10, h11⟩ := h
  refine ⟨g1, g2, by rw [e0, hC]; exact h3, fun i hi => ?_, g3, g4, g5, g6, g7, g8⟩
  rw [hC] at hi
  have hl := h48 i hi
  unfold bCd
  rw [hC]
  obtain ⟨a, b1, x, ⟨f1, f2, f3⟩, g⟩ := h4 i hi
  exact ⟨by rw [hM _ (by omega) (by omega)]; exact a, by rw [hM _ (by omega) (by omega)]; exact b1, by rw [hM _ (by omega) (by omega)]; exact x, ⟨by rw [hM _ (by omega) (by omega)]; exact f1, f2, fun k hk => by have hk : k < (bCd b i).2.2.2.length := hk; rw [hM _ (by omega) (by omega)]; exact f3 k hk⟩, g⟩
theorem LawIs.keep {j l : Nat} (h : LawIs M q j l) (h5 : j < 5) (hM : ∀ k, 394 ≤ k → M' q k = M q k) : LawIs M' q j l := by
  obtain ⟨code, a, b1, c1, d1⟩ := h
  exact ⟨code, by rw [hM _ (by omega)]; exact a, b1, fun k hk => by rw [hM _ (by omega)]; exact c1 k hk, d1⟩
theorem BdOk.c48 (h : BdOk b) : ∀ j, j < (bC b).length → (bCd b j).2.2.2.length ≤ 48 := fun j hj => (h.cd hj).2.2.2.1
end
