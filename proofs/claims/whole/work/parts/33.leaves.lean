/-! the reference's rows: the row (57), what is left (58) -/
def MRow (M : dm_M) (ts : List Nat) : Prop := M 53 12 = nI ts.length ∧ ts.length ≤ 49 ∧ ∀ i, i < ts.length → M 57 i = nI (ts.getD i 0)
def MLeft (M : dm_M) (ts : List Nat) : Prop := M 53 13 = nI ts.length ∧ ts.length ≤ 49 ∧ ∀ i, i < ts.length → M 58 i = nI (ts.getD i 0)
theorem nI_even : ∀ t, t < 8 → (t % 2 = 0 → nI t - nI t / 2 * 2 = 0 ∧ nI t + 1 = nI (t ^^^ 1)) ∧ (¬ t % 2 = 0 → ¬ nI t - nI t / 2 * 2 = 0 ∧ nI t - 1 = nI (t ^^^ 1)) := by decide
theorem nI_div2 : ∀ t, t < 8 → nI t / 2 = nI (t / 2) := by decide
theorem i32_20 : ¬ (2 : Int32) = 0 := by decide
section
variable {d n : Nat} {M : dm_M} {Q : Option Value → dm_M → Prop}
theorem s_other {t : Nat} (h : t < 8) : dm_cp d 129 [.int (nI t)] M Q ↔ Q (some (.int (nI (t ^^^ 1)))) M := by
  obtain ⟨h1, h2⟩ := nI_even t h
  rw [e129]
  by_cases e : t % 2 = 0
  · obtain ⟨a, b⟩ := h1 e
    simp only [p129_0, p129_1, p129_2, p129_3, p129_6, p129_7, p129_8, p129_9, p129_12, p129_13, p129_14, p129_15, i32_20, a, b, not_false_eq_true, not_true_eq_false, if_true, if_false]
  · obtain ⟨a, b⟩ := h2 e
    simp only [p129_0, p129_1, p129_2, p129_3, p129_6, p129_7, p129_8, p129_9, p129_12, p129_13, p129_14, p129_15, i32_20, a, b, not_false_eq_true, if_true, if_false]
theorem MLeft.push {ts : List Nat} {t : Nat} (h : MLeft M ts) (hl : ts.length < 49) : MLeft (dm_up (dm_up M 58 ts.length (nI t)) 53 13 (nI (ts.length + 1))) (ts ++ [t]) := by
  obtain ⟨h1, h2, h3⟩ := h
  refine ⟨?_, ?_, fun i hi => ?_⟩
  · rw [dm_up_eq, List.length_append]
    rfl
  · rw [List.length_append]
    show ts.length + 1 ≤ 49
    omega
  · rw [dm_up_n1 (by decide)]
    rw [List.length_append] at hi
    have hi : i < ts.length + 1 := hi
    by_cases e : i = ts.length
    · subst e
      rw [dm_up_eq, List.getD_eq_getElem?_getD, List.getElem?_append_right (Nat.le_refl _), Nat.sub_self]
      rfl
    · rw [dm_up_n2 e, h3 i (by omega), List.getD_eq_getElem?_getD, List.getD_eq_getElem?_getD, List.getElem?_append_left (by omega)]
theorem MLeft.drop {ts : List Nat} (h : MLeft M ts) : MLeft (dm_up M 53 13 (nI (ts.length - 1))) ts.dropLast := by
  obtain ⟨h1, h2, h3⟩ := h
  refine ⟨by rw [dm_up_eq, List.length_dropLast], by rw [List.length_dropLast]; omega, fun i hi => ?_⟩
  rw [List.length_dropLast] at hi
  rw [dm_up_n1 (by decide), h3 i (by omega), List.getD_eq_getElem?_getD, List.getD_eq_getElem?_getD, List.getElem?_dropLast, if_pos hi]
/-- nothing but what is left has changed -/
def LeftF (M0 M : dm_M) : Prop := ∀ a b, a ≠ 58 → (a = 53 → b ≠ 13) → M a b = M0 a b
theorem LeftF.row {M0 : dm_M} {ts : List Nat} (hF : LeftF M0 M) (h : MRow M0 ts) : MRow M ts := ⟨by rw [hF 53 12 (by decide) (fun _ => by decide)]; exact h.1, h.2.1, fun i hi => by rw [hF 57 i (by decide) (fun z => absurd z (by decide))]; exact h.2.2 i hi⟩
theorem lv_loop {ts : List Nat} {M0 : dm_M} {pulled : Int32} (ht : ∀ t ∈ ts, t < 8)
    (hQ : ∀ M', MLeft M' (lefts (ib pulled) ts) → LeftF M0 M' → Q none M') (hR : MRow M0 ts) :
    ∀ (n i : Nat) (M : dm_M) (l3 : Option Value), i + n = ts.length → MLeft M (lefts (ib pulled) (ts.take i)) → LeftF M0 M →
      dm_wp (d + 1) 133 7 [some (.ref 53), some (.int pulled), some (.int (nI i)), l3] [] M Q := by
  intro n
  induction n with
  | zero =>
    intro i M l3 hi hL hF
    have e : i = ts.length := by omega
    subst e
    have h1 : M 53 12 = nI ts.length := (hF.row hR).1
    have h2 : nI ts.length ≤ nI ts.length := nI_le (Nat.le_refl _) (by have := hR.2.1; omega)
    simp only [p133_0, p133_0n, p133_1, p133_2, p133_5, p133_6, p133_7, p133_8, p133_8n, p133_9, p133_12, p133_15, p133_15n, p133_16, p133_19, p133_20, p133_21, p133_22, p133_23, p133_24, p133_25, p133_26, p133_27, p133_28, p133_29, p133_32, p133_32n, p133_33, p133_36, p133_39, p133_39n, p133_40, p133_43, p133_43n, p133_44, p133_47, p133_48, p133_49, p133_50, p133_51, p133_54, p133_57, p133_57n, p133_58, p133_59, p133_62, p133_63, p133_64, p133_67, p133_70, p133_70n, p133_71, p133_74, p133_74n, p133_75, p133_78, p133_79, p133_80, p133_80n, p133_81, p133_82, p133_85, p133_86, p133_87, p133_90, p133_93, p133_96, kd53, h1, h2, if_true]
    rw [List.take_length] at hL
    exact hQ M hL hF
  | succ n ih =>
    intro i M l3 hi hL hF
    have hlt : i < ts.length := by omega
    have hl49 := hR.2.1
    have hRo := hF.row hR
    have h1 : M 53 12 = nI ts.length := hRo.1
    have h2 : ¬ nI ts.length ≤ nI i := nI_ge hlt (by omega)
    have h3 : M 57 i = nI (ts.getD i 0) := hRo.2.2 i hlt
    have c1 : ¬ nI i < 0 := nI_pos (by omega)
    have c2 : (nI i).toNatClampNeg = i := nI_clamp (by omega)
    have c3 : ¬ 49 ≤ i := by omega
    have h8 : ts.getD i 0 < 8 := getD_lt ht hlt
    have hacc := lefts_lt (ps := ib pulled) (ts := ts.take i) (fun t h => ht t (List.mem_of_mem_take h))
    have hal : (lefts (ib pulled) (ts.take i)).length ≤ i := by
      have := lefts_len (ib pulled) (ts.take i)
      rw [List.length_take] at this
      omega
    have hstep := lefts_take (ps := ib pulled) hlt
    generalize hta : ts.getD i 0 = t at *
    generalize hac : lefts (ib pulled) (ts.take i) = acc at *
    have hd2 := nI_div2 t h8
    by_cases hp : ib pulled (t / 2) = true
    · have hp2 : ¬ (pulled >>> (nI (t / 2) &&& 31)) &&& 1 = 0 := of_decide_eq_true hp
      rw [p133_7]
      simp only [p133_0, p133_0n, p133_1, p133_2, p133_5, p133_6, p133_8, p133_8n, p133_9, p133_12, p133_15, p133_15n, p133_16, p133_19, p133_20, p133_21, p133_22, p133_23, p133_24, p133_25, p133_26, p133_27, p133_28, p133_29, p133_32, p133_32n, p133_33, p133_36, p133_39, p133_39n, p133_40, p133_43, p133_43n, p133_44, p133_47, p133_48, p133_49, p133_50, p133_51, p133_54, p133_57, p133_57n, p133_58, p133_59, p133_62, p133_63, p133_64, p133_67, p133_70, p133_70n, p133_71, p133_74, p133_74n, p133_75, p133_78, p133_79, p133_80, p133_80n, p133_81, p133_82, p133_85, p133_86, p133_87, p133_90, p133_93, p133_96, kd53, kd57, rf53_10, ln57, h1, h2, h3, c1, c2, c3, hd2, i32_20, hp2, not_false_eq_true, not_true_eq_false, if_true, if_false, nI_1]
      refine ih (i + 1) M _ (by omega) ?_ hF
      rw [hstep]
      unfold lstep
      rw [if_pos hp]
      exact hL
    · have hp2 : (pulled >>> (nI (t / 2) &&& 31)) &&& 1 = 0 := Classical.byContradiction (fun z => hp (decide_eq_true z))
      have hm : M 53 13 = nI acc.length := hL.1
      have g1 : ¬ nI acc.length < 0 := nI_pos (by omega)
      have g2 : (nI acc.length).toNatClampNeg = acc.length := nI_clamp (by omega)
      have g3 : ¬ 49 ≤ acc.length := by omega
      have hO := fun (d : Nat) (M : dm_M) (Q : Option Value → dm_M → Prop) => s_other (d := d) (M := M) (Q := Q) h8
      have hu : dm_up M 58 acc.length (nI t) 53 13 = nI acc.length := by rw [dm_up_n1 (by decide)]; exact hm
      have hadd : ∀ (l3 : Option Value), lstep (ib pulled) acc t = acc ++ [t] → dm_wp (d + 1) 133 7 [some (.ref 53), some (.int pulled), some (.int (nI (i + 1))), l3] [] (dm_up (dm_up M 58 acc.length (nI t)) 53 13 (nI (acc.length + 1))) Q := by
        intro l3 e
        refine ih (i + 1) _ _ (by omega) ?_ (fun a b h3 h4 => ?_)
        · rw [hstep, e]
          exact hL.push (by omega)
        · rw [dm_up_at, if_neg (fun z => h4 z.1 z.2), dm_up_n1 h3]
          exact hF a b h3 h4
      rcases Nat.eq_zero_or_pos acc.length with hz | hz
      · have hm2 : nI acc.length ≤ 0 := by rw [hz]; decide
        rw [p133_7]
        simp only [p133_0, p133_0n, p133_1, p133_2, p133_5, p133_6, p133_8, p133_8n, p133_9, p133_12, p133_15, p133_15n, p133_16, p133_19, p133_20, p133_21, p133_22, p133_23, p133_24, p133_25, p133_26, p133_27, p133_28, p133_29, p133_32, p133_32n, p133_33, p133_36, p133_39, p133_39n, p133_40, p133_43, p133_43n, p133_44, p133_47, p133_48, p133_49, p133_50, p133_51, p133_54, p133_57, p133_57n, p133_58, p133_59, p133_62, p133_63, p133_64, p133_67, p133_70, p133_70n, p133_71, p133_74, p133_74n, p133_75, p133_78, p133_79, p133_80, p133_80n, p133_81, p133_82, p133_85, p133_86, p133_87, p133_90, p133_93, p133_96, kd53, kd57, kd58, rf53_10, rf53_11, ln57, ln58, h1, h2, h3, c1, c2, c3, g1, g2, g3, hd2, i32_20, hp2, hm, hm2, hu, not_false_eq_true, not_true_eq_false, if_true, if_false, nI_1]
        refine hadd _ ?_
        unfold lstep
        rw [if_neg hp, if_neg]
        have : acc = [] := List.length_eq_zero_iff.mp hz
        rw [this]
        simp
      · have hm2 : ¬ nI acc.length ≤ 0 := nI_nle hz (by omega)
        have hm3 : nI acc.length - 1 = nI (acc.length - 1) := pk_sub (a := acc.length) (b := 1) hz
        have j1 : ¬ nI (acc.length - 1) < 0 := nI_pos (by omega)
        have j2 : (nI (acc.length - 1)).toNatClampNeg = acc.length - 1 := nI_clamp (by omega)
        have j3 : ¬ 49 ≤ acc.length - 1 := by omega
        have j4 : M 58 (acc.length - 1) = nI (acc.getD (acc.length - 1) 0) := hL.2.2 _ (by omega)
        have hlast := getLast_getD hz
        have hg8 : acc.getD (acc.length - 1) 0 < 8 := getD_lt hacc (by omega)
        generalize hg : acc.getD (acc.length - 1) 0 = g at *
        by_cases he : g = t ^^^ 1
        · have he2 : nI g = nI (t ^^^ 1) := by rw [he]
          rw [p133_7]
          simp only [p133_0, p133_0n, p133_1, p133_2, p133_5, p133_6, p133_8, p133_8n, p133_9, p133_12, p133_15, p133_15n, p133_16, p133_19, p133_20, p133_21, p133_22, p133_23, p133_24, p133_25, p133_26, p133_27, p133_28, p133_29, p133_32, p133_32n, p133_33, p133_36, p133_39, p133_39n, p133_40, p133_43, p133_43n, p133_44, p133_47, p133_48, p133_49, p133_50, p133_51, p133_54, p133_57, p133_57n, p133_58, p133_59, p133_62, p133_63, p133_64, p133_67, p133_70, p133_70n, p133_71, p133_74, p133_74n, p133_75, p133_78, p133_79, p133_80, p133_80n, p133_81, p133_82, p133_85, p133_86, p133_87, p133_90, p133_93, p133_96, kd53, kd57, kd58, rf53_10, rf53_11, ln57, ln58, h1, h2, h3, c1, c2, c3, hd2, i32_20, hp2, hm, hm2, hm3, j1, j2, j3, j4, hO, he2, Option.toList, List.cons_append, List.nil_append, not_false_eq_true, not_true_eq_false, if_true, if_false, nI_1]
          refine ih (i + 1) _ _ (by omega) ?_ (fun a b h3 h4 => ?_)
          · rw [hstep]
            unfold lstep
            rw [if_neg hp, hlast, he, if_pos rfl]
            exact hL.drop
          · rw [dm_up_at, if_neg (fun z => h4 z.1 z.2)]
            exact hF a b h3 h4
        · have he2 : ¬ nI g = nI (t ^^^ 1) := fun z => he ((nI_eq (by omega) (by have := (nI_flip t h8).2; omega)).mp z)
          rw [p133_7]
          simp only [p133_0, p133_0n, p133_1, p133_2, p133_5, p133_6, p133_8, p133_8n, p133_9, p133_12, p133_15, p133_15n, p133_16, p133_19, p133_20, p133_21, p133_22, p133_23, p133_24, p133_25, p133_26, p133_27, p133_28, p133_29, p133_32, p133_32n, p133_33, p133_36, p133_39, p133_39n, p133_40, p133_43, p133_43n, p133_44, p133_47, p133_48, p133_49, p133_50, p133_51, p133_54, p133_57, p133_57n, p133_58, p133_59, p133_62, p133_63, p133_64, p133_67, p133_70, p133_70n, p133_71, p133_74, p133_74n, p133_75, p133_78, p133_79, p133_80, p133_80n, p133_81, p133_82, p133_85, p133_86, p133_87, p133_90, p133_93, p133_96, kd53, kd57, kd58, rf53_10, rf53_11, ln57, ln58, h1, h2, h3, c1, c2, c3, g1, g2, g3, hd2, i32_20, hp2, hm, hm2, hm3, j1, j2, j3, j4, hO, he2, hu, Option.toList, List.cons_append, List.nil_append, not_false_eq_true, not_true_eq_false, if_true, if_false, nI_1]
          refine hadd _ ?_
          unfold lstep
          rw [if_neg hp, if_neg]
          rw [hlast]
          intro z
          exact he (Option.some.inj z)
theorem s_leaves {ts : List Nat} {pulled : Int32} (ht : ∀ t ∈ ts, t < 8) (hR : MRow M ts) (hQ : ∀ M', MLeft M' (lefts (ib pulled) ts) → LeftF M M' → Q none M') : dm_cp (d + 1) 133 [.ref 53, .int pulled] M Q := by
  rw [e133]
  simp only [p133_0, p133_0n, p133_1, p133_2, p133_5, p133_6, kd53]
  refine lv_loop (M0 := M) (ts := ts) ht hQ hR ts.length 0 _ _ (Nat.zero_add _) ?_ (fun a b h1 h2 => ?_)
  · exact ⟨dm_up_eq, Nat.zero_le _, fun i hi => absurd hi (Nat.not_lt_zero i)⟩
  · rw [dm_up_at, if_neg (fun z => h2 z.1 z.2)]
end
