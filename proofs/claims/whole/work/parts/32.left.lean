/-! what is left of a row -/
/-- is the bit of a nail in a set -/
def ib (x : Int32) (k : Nat) : Bool := decide (¬ (x >>> (nI k &&& 31)) &&& 1 = 0)
def lstep (ps : Nat → Bool) (acc : List Nat) (t : Nat) : List Nat := if ps (t / 2) = true then acc else if acc.getLast? = some (t ^^^ 1) then acc.dropLast else acc ++ [t]
def lefts (ps : Nat → Bool) (ts : List Nat) : List Nat := ts.foldl (lstep ps) []
theorem lefts_take {ps : Nat → Bool} {ts : List Nat} {i : Nat} (h : i < ts.length) : lefts ps (ts.take (i + 1)) = lstep ps (lefts ps (ts.take i)) (ts.getD i 0) := by
  have e : ts.take (i + 1) = ts.take i ++ [ts.getD i 0] := by
    rw [List.take_add_one, List.getElem?_eq_getElem h, List.getD_eq_getElem?_getD, List.getElem?_eq_getElem h]
    rfl
  unfold lefts
  rw [e, List.foldl_append]
  rfl
theorem lstep_len {ps : Nat → Bool} {acc : List Nat} {t : Nat} : (lstep ps acc t).length ≤ acc.length + 1 := by
  unfold lstep
  split
  · omega
  · split
    · rw [List.length_dropLast]; omega
    · rw [List.length_append]; exact Nat.le_refl _
theorem lefts_len (ps : Nat → Bool) (ts : List Nat) : (lefts ps ts).length ≤ ts.length := by
  have key : ∀ (ts acc : List Nat), (ts.foldl (lstep ps) acc).length ≤ acc.length + ts.length := by
    intro ts
    induction ts with
    | nil => intro acc; exact Nat.le_refl _
    | cons a r ih =>
      intro acc
      have h1 := ih (lstep ps acc a)
      have h2 := lstep_len (ps := ps) (acc := acc) (t := a)
      rw [List.foldl_cons, List.length_cons]
      omega
  have := key ts []
  rw [List.length_nil, Nat.zero_add] at this
  exact this
theorem lefts_lt {ps : Nat → Bool} {ts : List Nat} (h : ∀ t ∈ ts, t < 8) : ∀ t ∈ lefts ps ts, t < 8 := by
  have key : ∀ (ts acc : List Nat), (∀ t ∈ ts, t < 8) → (∀ t ∈ acc, t < 8) → ∀ t ∈ ts.foldl (lstep ps) acc, t < 8 := by
    intro ts
    induction ts with
    | nil => intro acc _ h2; exact h2
    | cons a r ih =>
      intro acc h1 h2
      rw [List.foldl_cons]
      refine ih _ (fun t ht => h1 t (List.mem_cons_of_mem _ ht)) (fun t ht => ?_)
      unfold lstep at ht
      split at ht
      · exact h2 t ht
      · split at ht
        · exact h2 t (List.dropLast_subset _ ht)
        · rcases List.mem_append.mp ht with z | z
          · exact h2 t z
          · rw [List.mem_singleton.mp z]; exact h1 a List.mem_cons_self
  exact key ts [] h (fun t ht => absurd ht List.not_mem_nil)
theorem nI_half : ∀ t, t < 8 → nI t >>> ((1 : Int32) &&& 31) = nI (t / 2) := by decide
theorem nI_flip : ∀ t, t < 8 → nI t ^^^ 1 = nI (t ^^^ 1) ∧ t ^^^ 1 < 8 := by decide
theorem getD_lt {ts : List Nat} (h : ∀ t ∈ ts, t < 8) {i : Nat} (hi : i < ts.length) : ts.getD i 0 < 8 := by
  rw [List.getD_eq_getElem?_getD, List.getElem?_eq_getElem hi]
  exact h _ (List.getElem_mem hi)
theorem getLast_getD {acc : List Nat} (h : 0 < acc.length) : acc.getLast? = some (acc.getD (acc.length - 1) 0) := by
  rw [List.getLast?_eq_getElem?, List.getD_eq_getElem?_getD, List.getElem?_eq_getElem (by omega)]
  rfl
section
variable {d q o : Nat} {pulled : Int32} {M : dm_M} {Q : Option Value → dm_M → Prop}
/-- a row with its last turn away -/
theorem RowIs.drop {ts : List Nat} (h : RowIs M q ts) : RowIs (dm_up M q 1 (nI (ts.length - 1))) q ts.dropLast := by
  obtain ⟨h1, h2, h3⟩ := h
  refine ⟨by rw [dm_up_eq, List.length_dropLast], by rw [List.length_dropLast]; omega, fun i hi => ?_⟩
  rw [List.length_dropLast] at hi
  rw [dm_up_n1 ne_1q, h3 i (by omega), List.getD_eq_getElem?_getD, List.getD_eq_getElem?_getD, List.getElem?_dropLast, if_pos hi]
theorem tl_loop {ts : List Nat} {M0 : dm_M} (hq : dm_kd q = 3) (ho : dm_kd o = 3) (hne : o ≠ q) (ht : ∀ t ∈ ts, t < 8)
    (hQ : ∀ M', RowIs M' q (lefts (ib pulled) ts) → (∀ a, a ≠ q → a ≠ q + 1 → M' a = M0 a) → Q none M') (hR : RowIs M0 o ts) :
    ∀ (n i : Nat) (M : dm_M) (l4 : Option Value), i + n = ts.length → RowIs M q (lefts (ib pulled) (ts.take i)) → (∀ a, a ≠ q → a ≠ q + 1 → M a = M0 a) →
      dm_wp (d + 1) 18 7 [some (.ref q), some (.ref o), some (.int pulled), some (.int (nI i)), l4] [] M Q := by
  have hqo : o ≠ q + 1 := fun z => by rw [z, (dm_row3 q hq).2.1] at ho; exact absurd ho (by decide)
  have hoq : o + 1 ≠ q := fun z => by rw [← z, (dm_row3 o ho).2.1] at hq; exact absurd hq (by decide)
  intro n
  induction n with
  | zero =>
    intro i M l4 hi hL hF
    have e : i = ts.length := by omega
    subst e
    have h1 : M o 1 = nI ts.length := by rw [hF o hne hqo]; exact hR.1
    have h2 : nI ts.length ≤ nI ts.length := nI_le (Nat.le_refl _) (by have := hR.2.1; omega)
    simp only [p18_0, p18_0n, p18_1, p18_2, p18_5, p18_6, p18_7, p18_8, p18_8n, p18_9, p18_12, p18_15, p18_15n, p18_16, p18_17, p18_20, p18_22, p18_23, p18_25, p18_26, p18_27, p18_30, p18_33, p18_36, p18_36n, p18_37, p18_40, p18_43, p18_43n, p18_44, p18_44n, p18_45, p18_48, p18_49, p18_50, p18_53, p18_55, p18_56, p18_57, p18_60, p18_60n, p18_61, p18_64, p18_67, p18_67n, p18_68, p18_70, p18_73, p18_76, p18_79, ho, h1, h2, if_true]
    rw [List.take_length] at hL
    exact hQ M hL hF
  | succ n ih =>
    intro i M l4 hi hL hF
    have hlt : i < ts.length := by omega
    have hl49 := hR.2.1
    have hRo : RowIs M o ts := hR.keep (hF o hne hqo) (hF (o + 1) hoq (by omega))
    have h1 : M o 1 = nI ts.length := hRo.1
    have h2 : ¬ nI ts.length ≤ nI i := nI_ge hlt (by omega)
    have h8 : ts.getD i 0 < 8 := getD_lt ht hlt
    obtain ⟨f1, f2⟩ := nI_flip _ h8
    have hacc := lefts_lt (ps := ib pulled) (ts := ts.take i) (fun t h => ht t (List.mem_of_mem_take h))
    have hal : (lefts (ib pulled) (ts.take i)).length ≤ i := by
      have := lefts_len (ib pulled) (ts.take i)
      rw [List.length_take] at this
      omega
    have hstep := lefts_take (ps := ib pulled) hlt
    generalize hta : ts.getD i 0 = t at *
    generalize hac : lefts (ib pulled) (ts.take i) = acc at *
    have hT := fun (d : Nat) (Q : Option Value → dm_M → Prop) => s_turnAt_in (d := d) (Q := Q) ho hRo hlt
    rw [hta] at hT
    by_cases hp : ib pulled (t / 2) = true
    · have hp2 : ¬ (pulled >>> (nI (t / 2) &&& 31)) &&& 1 = 0 := of_decide_eq_true hp
      rw [p18_7]
      simp only [p18_0, p18_0n, p18_1, p18_2, p18_5, p18_6, p18_8, p18_8n, p18_9, p18_12, p18_15, p18_15n, p18_16, p18_17, p18_20, p18_22, p18_23, p18_25, p18_26, p18_27, p18_30, p18_33, p18_36, p18_36n, p18_37, p18_40, p18_43, p18_43n, p18_44, p18_44n, p18_45, p18_48, p18_49, p18_50, p18_53, p18_55, p18_56, p18_57, p18_60, p18_60n, p18_61, p18_64, p18_67, p18_67n, p18_68, p18_70, p18_73, p18_76, p18_79, ho, h1, h2, hT, Option.toList, List.cons_append, List.nil_append, nI_half t h8, s_hasBit, b01_eq0, hp2, not_false_eq_true, not_true_eq_false, if_true, if_false, nI_1]
      refine ih (i + 1) M _ (by omega) ?_ hF
      rw [hstep]
      unfold lstep
      rw [if_pos hp]
      exact hL
    · have hp2 : (pulled >>> (nI (t / 2) &&& 31)) &&& 1 = 0 := Classical.byContradiction (fun z => hp (decide_eq_true z))
      have hadd : ∀ (l4 : Option Value), lstep (ib pulled) acc t = acc ++ [t] → dm_wp (d + 1) 18 7 [some (.ref q), some (.ref o), some (.int pulled), some (.int (nI (i + 1))), l4] [] (dm_up (dm_up M (q + 1) acc.length (nI t)) q 1 (nI (acc.length + 1))) Q := by
        intro l4 e
        refine ih (i + 1) _ _ (by omega) ?_ (fun a h3 h4 => ?_)
        · rw [hstep, e]
          exact hL.push (by omega)
        · rw [up_ne h3, up_ne h4]
          exact hF a h3 h4
      rcases Nat.eq_zero_or_pos acc.length with hz | hz
      · have hm : M q 1 = 0 := by rw [hL.1, hz]; rfl
        have hm2 : (0 : Int32) ≤ 0 := by decide
        have hA := fun (d : Nat) (Q : Option Value → dm_M → Prop) => s_add (d := d) (Q := Q) (x := nI t) hq hL.1 (by omega)
        rw [p18_7]
        simp only [p18_0, p18_0n, p18_1, p18_2, p18_5, p18_6, p18_8, p18_8n, p18_9, p18_12, p18_15, p18_15n, p18_16, p18_17, p18_20, p18_22, p18_23, p18_25, p18_26, p18_27, p18_30, p18_33, p18_36, p18_36n, p18_37, p18_40, p18_43, p18_43n, p18_44, p18_44n, p18_45, p18_48, p18_49, p18_50, p18_53, p18_55, p18_56, p18_57, p18_60, p18_60n, p18_61, p18_64, p18_67, p18_67n, p18_68, p18_70, p18_73, p18_76, p18_79, ho, hq, h1, h2, hT, hA, hm, hm2, Option.toList, List.cons_append, List.nil_append, nI_half t h8, s_hasBit, b01_eq0, hp2, not_false_eq_true, not_true_eq_false, if_true, if_false, nI_1]
        refine hadd _ ?_
        unfold lstep
        rw [if_neg hp, if_neg]
        have : acc = [] := List.length_eq_zero_iff.mp hz
        rw [this]
        simp
      · have hm : M q 1 = nI acc.length := hL.1
        have hm2 : ¬ nI acc.length ≤ 0 := nI_nle hz (by omega)
        have hm3 : nI acc.length - 1 = nI (acc.length - 1) := pk_sub (a := acc.length) (b := 1) hz
        have hT2 := fun (d : Nat) (Q : Option Value → dm_M → Prop) => s_turnAt_in (d := d) (Q := Q) hq hL (i := acc.length - 1) (by omega)
        have hlast := getLast_getD hz
        have hg8 : acc.getD (acc.length - 1) 0 < 8 := getD_lt hacc (by omega)
        generalize hg : acc.getD (acc.length - 1) 0 = g at *
        by_cases he : g = t ^^^ 1
        · have he2 : nI g = nI (t ^^^ 1) := by rw [he]
          have hD := fun (d : Nat) (Q : Option Value → dm_M → Prop) => s_dropLast (d := d) (M := M) (Q := Q) hq
          rw [p18_7]
          simp only [p18_0, p18_0n, p18_1, p18_2, p18_5, p18_6, p18_8, p18_8n, p18_9, p18_12, p18_15, p18_15n, p18_16, p18_17, p18_20, p18_22, p18_23, p18_25, p18_26, p18_27, p18_30, p18_33, p18_36, p18_36n, p18_37, p18_40, p18_43, p18_43n, p18_44, p18_44n, p18_45, p18_48, p18_49, p18_50, p18_53, p18_55, p18_56, p18_57, p18_60, p18_60n, p18_61, p18_64, p18_67, p18_67n, p18_68, p18_70, p18_73, p18_76, p18_79, ho, hq, h1, h2, hT, hT2, hD, hm, hm2, hm3, f1, he2, Option.toList, List.cons_append, List.nil_append, nI_half t h8, s_hasBit, b01_eq0, hp2, not_false_eq_true, not_true_eq_false, if_true, if_false, nI_1]
          refine ih (i + 1) _ _ (by omega) ?_ (fun a h3 h4 => ?_)
          · rw [hstep]
            unfold lstep
            rw [if_neg hp, hlast, he, if_pos rfl]
            exact hL.drop
          · rw [up_ne h3]
            exact hF a h3 h4
        · have he2 : ¬ nI g = nI (t ^^^ 1) := fun z => he ((nI_eq (by omega) (by omega)).mp z)
          have hA := fun (d : Nat) (Q : Option Value → dm_M → Prop) => s_add (d := d) (Q := Q) (x := nI t) hq hL.1 (by omega)
          rw [p18_7]
          simp only [p18_0, p18_0n, p18_1, p18_2, p18_5, p18_6, p18_8, p18_8n, p18_9, p18_12, p18_15, p18_15n, p18_16, p18_17, p18_20, p18_22, p18_23, p18_25, p18_26, p18_27, p18_30, p18_33, p18_36, p18_36n, p18_37, p18_40, p18_43, p18_43n, p18_44, p18_44n, p18_45, p18_48, p18_49, p18_50, p18_53, p18_55, p18_56, p18_57, p18_60, p18_60n, p18_61, p18_64, p18_67, p18_67n, p18_68, p18_70, p18_73, p18_76, p18_79, ho, hq, h1, h2, hT, hT2, hA, hm, hm2, hm3, f1, he2, Option.toList, List.cons_append, List.nil_append, nI_half t h8, s_hasBit, b01_eq0, hp2, not_false_eq_true, not_true_eq_false, if_true, if_false, nI_1]
          refine hadd _ ?_
          unfold lstep
          rw [if_neg hp, if_neg]
          rw [hlast]
          intro z
          exact he (Option.some.inj z)
/-- what is left of a row comes into another -/
theorem s_takeLeft {ts : List Nat} (hq : dm_kd q = 3) (ho : dm_kd o = 3) (hne : o ≠ q) (ht : ∀ t ∈ ts, t < 8) (hR : RowIs M o ts)
    (hQ : ∀ M', RowIs M' q (lefts (ib pulled) ts) → (∀ a, a ≠ q → a ≠ q + 1 → M' a = M a) → Q none M') : dm_cp (d + 1) 18 [.ref q, .ref o, .int pulled] M Q := by
  have hqo : o ≠ q + 1 := fun z => by rw [z, (dm_row3 q hq).2.1] at ho; exact absurd ho (by decide)
  have hoq : o + 1 ≠ q := fun z => by rw [← z, (dm_row3 o ho).2.1] at hq; exact absurd hq (by decide)
  rw [e18]
  simp only [p18_0, p18_0n, p18_1, p18_2, p18_5, p18_6, hq]
  refine tl_loop (M0 := M) (ts := ts) hq ho hne ht hQ hR ts.length 0 _ _ (Nat.zero_add _) ?_ (fun a h1 h2 => up_ne h1)
  exact RowIs.nil dm_up_eq
end
