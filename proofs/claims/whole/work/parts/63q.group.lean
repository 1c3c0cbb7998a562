/-! what is left, as words of a group: pure -/
theorem flip_8 : ∀ t, t < 8 → (t ^^^ 1) / 2 = t / 2 ∧ (t ^^^ 1) ^^^ 1 = t ∧ t ^^^ 1 < 8 := by decide
/-- no two turns beside one another undo one another -/
def red (a : List Nat) : Prop := ∀ i, i + 1 < a.length → a.getD (i + 1) 0 ≠ a.getD i 0 ^^^ 1
theorem red_nil : red [] := fun i h => absurd h (Nat.not_lt_zero _)
theorem gap1 {a : List Nat} {t i : Nat} (h : i < a.length) : (a ++ [t]).getD i 0 = a.getD i 0 := by
  rw [List.getD_eq_getElem?_getD, List.getD_eq_getElem?_getD, List.getElem?_append_left h]
theorem gap2 {a : List Nat} {t : Nat} : (a ++ [t]).getD a.length 0 = t := by
  rw [List.getD_eq_getElem?_getD, List.getElem?_append_right (Nat.le_refl _), Nat.sub_self]
  rfl
theorem red_drop {a : List Nat} (h : red a) : red a.dropLast := fun i hi => by
  rw [List.length_dropLast] at hi
  have := h i (by omega)
  rw [List.getD_eq_getElem?_getD, List.getD_eq_getElem?_getD] at this ⊢
  rw [List.getElem?_dropLast, List.getElem?_dropLast, if_pos (by omega), if_pos (by omega)]
  exact this
theorem glast {a : List Nat} {t : Nat} : (a ++ [t]).getLast? = some t := List.getLast?_concat
theorem red_push {a : List Nat} {t : Nat} (ht : t < 8) (h : red a) (hl : ¬ a.getLast? = some (t ^^^ 1)) : red (a ++ [t]) := fun i hi => by
  rw [lapp] at hi
  by_cases e : i + 1 = a.length
  · rw [e, gap2, gap1 (by omega)]
    intro z
    apply hl
    rw [getLast_getD (by omega), show a.length - 1 = i by omega, z, (flip_8 _ ?_).2.1]
    rw [z] at ht
    by_cases hz : a.getD i 0 < 8
    · exact hz
    · exfalso
      have h1 : (a.getD i 0 ^^^ 1) / 2 = a.getD i 0 / 2 ^^^ 1 / 2 := Nat.xor_div_two
      rw [show 1 / 2 = 0 from rfl, Nat.xor_zero] at h1
      omega
  · rw [gap1 (by omega), gap1 (by omega)]
    exact h i (by omega)
theorem red_step {ps : Nat → Bool} {a : List Nat} {t : Nat} (ht : t < 8) (h : red a) : red (lstep ps a t) := by
  unfold lstep
  split
  · exact h
  · split
    · exact red_drop h
    · rename_i z; exact red_push ht h z
/-- a turn and what undoes it -/
theorem cancel {ps : Nat → Bool} {a : List Nat} {t : Nat} (ht : t < 8) (h : red a) : lstep ps (lstep ps a t) (t ^^^ 1) = a := by
  obtain ⟨f1, f2, f3⟩ := flip_8 t ht
  by_cases hp : ps (t / 2) = true
  · unfold lstep
    rw [f1, if_pos hp, if_pos hp]
  · have e1 : ∀ b, lstep ps b (t ^^^ 1) = if b.getLast? = some t then b.dropLast else b ++ [t ^^^ 1] := fun b => by
      unfold lstep
      rw [f1, if_neg hp, f2]
    have e2 : lstep ps a t = if a.getLast? = some (t ^^^ 1) then a.dropLast else a ++ [t] := by
      unfold lstep
      rw [if_neg hp]
    rw [e1, e2]
    by_cases hl : a.getLast? = some (t ^^^ 1)
    · rw [if_pos hl]
      have hne : a ≠ [] := fun z => by rw [z] at hl; exact absurd hl (by simp)
      have hpos : 0 < a.length := by
        rcases Nat.eq_zero_or_pos a.length with z | z
        · exact absurd (List.length_eq_zero_iff.mp z) hne
        · exact z
      have hlast : a.getD (a.length - 1) 0 = t ^^^ 1 := by
        have := getLast_getD hpos
        rw [hl] at this
        exact (Option.some.inj this).symm
      have hn : ¬ a.dropLast.getLast? = some t := by
        intro z
        have hp2 : 0 < a.dropLast.length := by
          rcases Nat.eq_zero_or_pos a.dropLast.length with q | q
          · rw [List.length_eq_zero_iff.mp q] at z; exact absurd z (by simp)
          · exact q
        have hg := getLast_getD hp2
        rw [z, List.length_dropLast] at hg
        rw [List.length_dropLast] at hp2
        have hg := Option.some.inj hg
        rw [List.getD_eq_getElem?_getD, List.getElem?_dropLast, if_pos (by omega), ← List.getD_eq_getElem?_getD] at hg
        have := h (a.length - 1 - 1) (by omega)
        rw [show a.length - 1 - 1 + 1 = a.length - 1 by omega, hlast, ← hg] at this
        exact this rfl
      rw [if_neg hn]
      have : a.dropLast ++ [a.getLast hne] = a := List.dropLast_concat_getLast hne
      have h2 : a.getLast hne = t ^^^ 1 := by
        have := List.getLast?_eq_some_getLast hne
        rw [hl] at this
        exact (Option.some.inj this).symm
      rw [h2] at this
      exact this
    · rw [if_neg hl, glast, if_pos rfl, List.dropLast_concat]
theorem red_fold {ps : Nat → Bool} : ∀ (r a : List Nat), (∀ t ∈ r, t < 8) → red a → red (r.foldl (lstep ps) a)
  | [], _, _, h => h
  | t :: r, a, h8, h => red_fold r _ (fun u hu => h8 u (List.mem_cons_of_mem _ hu)) (red_step (h8 t List.mem_cons_self) h)
theorem red_lefts {ps : Nat → Bool} {r : List Nat} (h : ∀ t ∈ r, t < 8) : red (lefts ps r) := red_fold r [] h red_nil
theorem lefts_app {ps : Nat → Bool} {a b : List Nat} : lefts ps (a ++ b) = b.foldl (lstep ps) (lefts ps a) := List.foldl_append
theorem lefts_snoc {ps : Nat → Bool} {a : List Nat} {t : Nat} : lefts ps (a ++ [t]) = lstep ps (lefts ps a) t := lefts_app
/-- two that undo one another may be left out -/
theorem lefts_cancel {ps : Nat → Bool} {a b : List Nat} {t : Nat} (ht : t < 8) (h8 : ∀ t ∈ a, t < 8) : lefts ps (a ++ (t :: (t ^^^ 1) :: b)) = lefts ps (a ++ b) := by
  rw [lefts_app, lefts_app]
  show b.foldl (lstep ps) (lstep ps (lstep ps (lefts ps a) t) (t ^^^ 1)) = _
  rw [cancel ht (red_lefts h8)]
/-- more nails pulled: of what is left -/
theorem lefts_more {ps ps' : Nat → Bool} (hps : ∀ k, k < 4 → ps k = true → ps' k = true) : ∀ (r : List Nat), (∀ t ∈ r, t < 8) → lefts ps' r = lefts ps' (lefts ps r) := by
  have key : ∀ (r a : List Nat), (∀ t ∈ r, t < 8) → (∀ t ∈ a, t < 8) → r.foldl (lstep ps') (lefts ps' a) = lefts ps' (r.foldl (lstep ps) a) := by
    intro r
    induction r with
    | nil => intro a _ _; rfl
    | cons t r ih =>
      intro a h8 ha
      have ht := h8 t List.mem_cons_self
      obtain ⟨f1, f2, f3⟩ := flip_8 t ht
      have hr := fun u hu => h8 u (List.mem_cons_of_mem t hu)
      show r.foldl (lstep ps') (lstep ps' (lefts ps' a) t) = lefts ps' (r.foldl (lstep ps) (lstep ps a t))
      have hst : lstep ps' (lefts ps' a) t = lefts ps' (lstep ps a t) := by
        by_cases hp : ps (t / 2) = true
        · have e1 : lstep ps a t = a := by unfold lstep; rw [if_pos hp]
          have e2 : lstep ps' (lefts ps' a) t = lefts ps' a := by unfold lstep; rw [if_pos (hps _ (by omega) hp)]
          rw [e1, e2]
        · by_cases hl : a.getLast? = some (t ^^^ 1)
          · have e1 : lstep ps a t = a.dropLast := by unfold lstep; rw [if_neg hp, if_pos hl]
            have hne : a ≠ [] := fun z => by rw [z] at hl; exact absurd hl (by simp)
            have h2 : a.getLast hne = t ^^^ 1 := by
              have := List.getLast?_eq_some_getLast hne
              rw [hl] at this
              exact (Option.some.inj this).symm
            have h3 : a.dropLast ++ [t ^^^ 1] = a := by
              have := List.dropLast_concat_getLast hne
              rw [h2] at this
              exact this
            have hd8 : ∀ u ∈ a.dropLast, u < 8 := fun u hu => ha u (List.dropLast_subset _ hu)
            rw [e1]
            have h4 : lefts ps' a = lstep ps' (lefts ps' a.dropLast) (t ^^^ 1) := by
              conv => lhs; rw [← h3]
              exact lefts_snoc
            rw [h4]
            have := cancel (ps := ps') (a := lefts ps' a.dropLast) f3 (red_lefts hd8)
            rw [f2] at this
            exact this
          · have e1 : lstep ps a t = a ++ [t] := by unfold lstep; rw [if_neg hp, if_neg hl]
            rw [e1, lefts_snoc]
      rw [hst]
      refine ih _ hr (fun u hu => ?_)
      unfold lstep at hu
      split at hu
      · exact ha u hu
      · split at hu
        · exact ha u (List.dropLast_subset _ hu)
        · rcases List.mem_append.mp hu with z | z
          · exact ha u z
          · rw [List.mem_singleton.mp z]; exact ht
  intro r h8
  exact key r [] h8 (fun t ht => absurd ht List.not_mem_nil)
theorem lefts_empty {ps ps' : Nat → Bool} {r : List Nat} (hps : ∀ k, k < 4 → ps k = true → ps' k = true) (h8 : ∀ t ∈ r, t < 8) (h : lefts ps r = []) : lefts ps' r = [] := by
  rw [lefts_more hps r h8, h]
  rfl
theorem lefts_all {ps : Nat → Bool} {r : List Nat} (h : ∀ t ∈ r, ps (t / 2) = true) : lefts ps r = [] := by
  have key : ∀ (r : List Nat), (∀ t ∈ r, ps (t / 2) = true) → r.foldl (lstep ps) [] = [] := by
    intro r
    induction r with
    | nil => intro _; rfl
    | cons t r ih =>
      intro h
      show r.foldl (lstep ps) (lstep ps [] t) = []
      have e1 : lstep ps [] t = [] := by unfold lstep; rw [if_pos (h t List.mem_cons_self)]
      rw [e1]
      exact ih (fun u hu => h u (List.mem_cons_of_mem _ hu))
  exact key r h
theorem lstep_ge {ps : Nat → Bool} {a : List Nat} {t : Nat} : a.length ≤ (lstep ps a t).length + 1 := by
  unfold lstep
  split
  · omega
  · split
    · rw [List.length_dropLast]; omega
    · rw [lapp]; omega
theorem lefts_ge {ps : Nat → Bool} {a : List Nat} : ∀ (b : List Nat), (lefts ps a).length ≤ (lefts ps (a ++ b)).length + b.length := by
  intro b
  rw [lefts_app]
  have key : ∀ (b a : List Nat), a.length ≤ (b.foldl (lstep ps) a).length + b.length := by
    intro b
    induction b with
    | nil => intro a; exact Nat.le_refl _
    | cons t b ih =>
      intro a
      have h1 := ih (lstep ps a t)
      have h2 := lstep_ge (ps := ps) (a := a) (t := t)
      show a.length ≤ (b.foldl (lstep ps) (lstep ps a t)).length + (b.length + 1)
      omega
  exact key b _
theorem ib_tb {t k : Nat} (ht : t < 2 ^ 31) (hk : k < 32) : ib (nI t) k = t.testBit k := by
  unfold ib
  have e := nI_bit0 ht hk
  cases hb : t.testBit k with
  | false => exact decide_eq_false (fun z => z (e.mpr hb))
  | true => exact decide_eq_true (fun z => by rw [e.mp z] at hb; exact absurd hb (by decide))
