/-! by which sets a cord falls: the reference -/
theorem cl4 : (4 : Int32).toNatClampNeg = 4 := by decide
theorem nz4 : ¬ (4 : Int32) < 0 := by decide
theorem lt4 : ¬ 1099 ≤ 4 := by decide
section
variable {d : Nat} {M : dm_M} {Q : Option Value → dm_M → Prop} {k v S : Int32} {ts : List Nat}
theorem df_tail {own : Int32} (k6 : ¬ k = 6) (ht : ∀ t ∈ ts, t < 8) (hR : MRow M ts)
    (hQ : ∀ M', LeftF M M' → Q (some (.int (b01 (flS k v 0 S own ts = true)))) M') (M' : dm_M) (hL : MLeft M' (lefts (ib (plS k S own)) ts)) (hF : LeftF M M') {l5 : Option Value} :
    dm_wp (d + 2) 137 55 [some (.ref 53), some (.int k), some (.int v), some (.int S), some (.int own), l5] [] M' Q := by
  have hq := hQ M' hF
  unfold flS at hq
  rw [if_neg k6] at hq
  have h1 : M' 53 13 = nI (lefts (ib (plS k S own)) ts).length := hL.1
  have hlen : (lefts (ib (plS k S own)) ts).length ≤ 49 := hL.2.1
  generalize (lefts (ib (plS k S own)) ts).length = n at *
  unfold limS at hq
  have e52 : ¬ (5 : Int32) = 2 := by decide
  have e24 : ¬ (2 : Int32) = 4 := by decide
  have e54 : ¬ (5 : Int32) = 4 := by decide
  by_cases e2 : k = 2
  · subst e2
    rw [if_neg (fun z => e24 z.1), if_pos (Or.inl rfl), b01_c decide_eq_true_iff] at hq
    simp only [p137_55, p137_56, p137_57, p137_60, p137_61, p137_62, p137_65, p137_65n, p137_66, p137_69, p137_70, p137_71, p137_72, p137_75, p137_76, p137_79, p137_80, p137_81, p137_81n, p137_82, p137_85, p137_88, p137_89, p137_90, p137_93, p137_94, p137_96, p137_97, p137_100, p137_101, p137_104, p137_105, kd53, h1, i32_30, not_false_eq_true, not_true_eq_false, true_or, or_true, if_true, if_false]
    by_cases e : v - v / 3 * 3 < nI n
    · rw [if_pos e]; rw [b01_f (fun z => z e)] at hq; exact hq
    · rw [if_neg e]; rw [b01_t e] at hq; exact hq
  · by_cases e5 : k = 5
    · subst e5
      rw [if_neg (fun z => e54 z.1), if_pos (Or.inr rfl), b01_c decide_eq_true_iff] at hq
      simp only [p137_55, p137_56, p137_57, p137_60, p137_61, p137_62, p137_65, p137_65n, p137_66, p137_69, p137_70, p137_71, p137_72, p137_75, p137_76, p137_79, p137_80, p137_81, p137_81n, p137_82, p137_85, p137_88, p137_89, p137_90, p137_93, p137_94, p137_96, p137_97, p137_100, p137_101, p137_104, p137_105, kd53, h1, e52, i32_30, not_false_eq_true, not_true_eq_false, true_or, or_true, if_true, if_false]
      by_cases e : v - v / 3 * 3 < nI n
      · rw [if_pos e]; rw [b01_f (fun z => z e)] at hq; exact hq
      · rw [if_neg e]; rw [b01_t e] at hq; exact hq
    · have hz : (¬ (0 : Int32) < nI n) ↔ nI n = 0 := by
        rcases Nat.eq_zero_or_pos n with z | z
        · subst z; decide
        · exact ⟨fun q => absurd (nI_lt (a := 0) z (by omega)) q, fun q => absurd q (nI_ne0 z (by omega))⟩
      simp only [p137_55, p137_56, p137_57, p137_60, p137_61, p137_62, p137_65, p137_65n, p137_66, p137_69, p137_70, p137_71, p137_72, p137_75, p137_76, p137_79, p137_80, p137_81, p137_81n, p137_82, p137_85, p137_88, p137_89, p137_90, p137_93, p137_94, p137_96, p137_97, p137_100, p137_101, p137_104, p137_105, kd53, h1, e2, e5, not_false_eq_true, not_true_eq_false, true_or, or_true, if_true, if_false]
      by_cases en : nI n = 0
      · by_cases e4 : k = 4
        · by_cases ez : S &&& own = 0
          · rw [if_pos ⟨e4, ez⟩, b01_f (by decide)] at hq
            simp only [en, e4, ez, not_true_eq_false, if_true, if_false]
            exact hq
          · rw [if_neg (fun z => ez z.2), if_neg (fun z => z.elim e2 e5), b01_c decide_eq_true_iff, b01_t (hz.mpr en)] at hq
            simp only [en, e4, ez, not_false_eq_true, not_true_eq_false, if_true, if_false]
            exact hq
        · rw [if_neg (fun z => e4 z.1), if_neg (fun z => z.elim e2 e5), b01_c decide_eq_true_iff, b01_t (hz.mpr en)] at hq
          simp only [en, e4, not_false_eq_true, not_true_eq_false, if_true, if_false]
          exact hq
      · by_cases e4 : k = 4 ∧ S &&& own = 0
        · rw [if_pos e4, b01_f (by decide)] at hq
          simp only [en, not_false_eq_true, if_true]
          exact hq
        · rw [if_neg e4, if_neg (fun z => z.elim e2 e5), b01_c decide_eq_true_iff, b01_f (fun z => en (hz.mp z))] at hq
          simp only [en, not_false_eq_true, if_true]
          exact hq
theorem s_doesFall (k6 : ¬ k = 6) (ht : ∀ t ∈ ts, t < 8) (hR : MRow M ts) (hn : ¬ M 54 4 = 0)
    (hQ : ∀ M', LeftF M M' → Q (some (.int (b01 (flS k v 0 S (ownS v (M 54 4)) ts = true)))) M') : dm_cp (d + 2) 137 [.ref 53, .int k, .int v, .int S] M Q := by
  rw [e137]
  simp only [p137_0, p137_1, p137_2, p137_2n, p137_3, p137_6, p137_7, p137_8, p137_9, p137_10, kd53, kd54, rf53_1, ln54, cl4, nz4, lt4, hn, not_false_eq_true]
  have hown : (1 : Int32) <<< ((v - v / M 54 4 * M 54 4) &&& 31) = ownS v (M 54 4) := rfl
  rw [hown]
  generalize ownS v (M 54 4) = own at *
  have T := fun (M' : dm_M) (l5 : Option Value) hL hF => df_tail (d := d) (v := v) (S := S) (own := own) k6 ht hR hQ M' hL hF (l5 := l5)
  have q35 : ¬ (5 : Int32) = 3 := by decide
  by_cases e3 : k = 3
  · have e1 : plS k S own = S ||| own := by unfold plS; rw [if_pos (Or.inl e3)]
    rw [e1] at T
    simp only [p137_12, p137_13, p137_14, p137_17, p137_18, p137_19, p137_22, p137_23, p137_25, p137_26, p137_27, p137_28, p137_31, p137_32, p137_35, p137_36, p137_38, p137_38n, p137_39, p137_41, p137_44, p137_45, p137_47, p137_48, p137_51, p137_52, kd53, e3, not_true_eq_false, not_false_eq_true, if_true, if_false]
    rw [e3] at T
    simp only [p137_12, p137_13, p137_14, p137_17, p137_18, p137_19, p137_22, p137_23, p137_25, p137_26, p137_27, p137_28, p137_31, p137_32, p137_35, p137_36, p137_38, p137_38n, p137_39, p137_41, p137_44, p137_45, p137_47, p137_48, p137_51, p137_52, kd53, show ¬ (1 : Int32) = 0 by decide, if_false]
    exact s_leaves ht hR (fun M' hL hF => T M' _ hL hF)
  · by_cases e5 : k = 5
    · by_cases ez : S &&& (own ^^^ (-1)) = 0
      · have e1 : plS k S own = S := by unfold plS; rw [if_neg (by rintro (z | z); exact e3 z; exact z.2 ez)]
        rw [e1] at T
        simp only [p137_12, p137_13, p137_14, p137_17, p137_18, p137_19, p137_22, p137_23, p137_25, p137_26, p137_27, p137_28, p137_31, p137_32, p137_35, p137_36, p137_38, p137_38n, p137_39, p137_41, p137_44, p137_45, p137_47, p137_48, p137_51, p137_52, kd53, e3, e5, ez, q35, not_true_eq_false, not_false_eq_true, if_true, if_false]
        rw [e5] at T
        exact s_leaves ht hR (fun M' hL hF => T M' _ hL hF)
      · have e1 : plS k S own = S ||| own := by unfold plS; rw [if_pos (Or.inr ⟨e5, ez⟩)]
        rw [e1] at T
        simp only [p137_12, p137_13, p137_14, p137_17, p137_18, p137_19, p137_22, p137_23, p137_25, p137_26, p137_27, p137_28, p137_31, p137_32, p137_35, p137_36, p137_38, p137_38n, p137_39, p137_41, p137_44, p137_45, p137_47, p137_48, p137_51, p137_52, kd53, e3, e5, ez, q35, show ¬ (1 : Int32) = 0 by decide, not_true_eq_false, not_false_eq_true, if_true, if_false]
        rw [e5] at T
        exact s_leaves ht hR (fun M' hL hF => T M' _ hL hF)
    · have e1 : plS k S own = S := by unfold plS; rw [if_neg (by rintro (z | z); exact e3 z; exact e5 z.1)]
      rw [e1] at T
      simp only [p137_12, p137_13, p137_14, p137_17, p137_18, p137_19, p137_22, p137_23, p137_25, p137_26, p137_27, p137_28, p137_31, p137_32, p137_35, p137_36, p137_38, p137_38n, p137_39, p137_41, p137_44, p137_45, p137_47, p137_48, p137_51, p137_52, kd53, e3, e5, not_true_eq_false, not_false_eq_true, if_true, if_false]
      exact s_leaves ht hR (fun M' hL hF => T M' _ hL hF)
end
