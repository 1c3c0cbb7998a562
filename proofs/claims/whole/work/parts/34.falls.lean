/-! by which sets a cord falls: the class -/
/-- the nails pulled, with the cord's own where its kind says so -/
def plS (k pulled own : Int32) : Int32 := if k = 3 ∨ (k = 5 ∧ ¬ pulled &&& (own ^^^ (-1)) = 0) then pulled ||| own else pulled
/-- how many turns may be left -/
def limS (k v : Int32) : Int32 := if k = 2 ∨ k = 5 then v - v / 3 * 3 else 0
/-- whether a cord of a kind, a number, sets told falls, wound as ts, if just these are pulled -/
def flS (k v told pulled own : Int32) (ts : List Nat) : Bool :=
  if k = 6 then decide (¬ (told >>> (pulled &&& 31)) &&& 1 = 0)
  else if k = 4 ∧ pulled &&& own = 0 then false
  else decide (¬ limS k v < nI (lefts (ib (plS k pulled own)) ts).length)
def ownS (v n : Int32) : Int32 := 1 <<< ((v - v / n * n) &&& 31)
theorem i32_30 : ¬ (3 : Int32) = 0 := by decide
section
variable {d c o : Nat} {M : dm_M} {Q : Option Value → dm_M → Prop} {p k v : Int32} {ts : List Nat}
theorem kd1_ne {c : Nat} (h : dm_kd c = 1) : c ≠ 47 ∧ c ≠ 48 := ⟨fun z => by rw [z, kd47] at h; exact absurd h (by decide), fun z => by rw [z, kd48] at h; exact absurd h (by decide)⟩
theorem fb_tail {l3 l5 : Option Value} (hc : dm_kd c = 1) (ho : dm_kd o = 3) (hne : o ≠ 47) (ht : ∀ t ∈ ts, t < 8) (hR : RowIs M o ts) (hk : M c 1 = k) (hv : M c 2 = v)
    (hQ : ∀ M', (∀ a, a ≠ 47 → a ≠ 48 → M' a = M a) → Q (some (.int (b01 (¬ limS k v < nI (lefts (ib p) ts).length)))) M') :
    dm_wp (d + 2) 22 96 [some (.ref 0), some (.ref c), some (.ref o), l3, some (.int p), l5] [] M Q := by
  simp only [p22_96, p22_96n, p22_97, p22_100, p22_100n, p22_101, p22_103, kd0, kd47, rf0_6]
  refine s_takeLeft (ts := ts) kd47 ho hne ht hR (fun M' hL hF => ?_)
  have h1 : M' 47 1 = nI (lefts (ib p) ts).length := hL.1
  have hcc := hF c (kd1_ne hc).1 (kd1_ne hc).2
  have h2 : M' c 1 = k := by rw [hcc]; exact hk
  have h3 : M' c 2 = v := by rw [hcc]; exact hv
  have hq := hQ M' hF
  unfold limS at hq
  by_cases e2 : k = 2
  · rw [if_pos (Or.inl e2)] at hq
    simp only [p22_106, p22_106n, p22_107, p22_110, p22_113, p22_113n, p22_114, p22_117, p22_118, p22_121, p22_121n, p22_122, p22_125, p22_126, p22_129, p22_129n, p22_130, p22_133, p22_134, p22_135, p22_138, p22_139, p22_142, p22_143, p22_146, p22_147, Option.toList, List.nil_append, kd0, kd47, rf0_6, hc, h1, h2, h3, e2, i32_30, not_false_eq_true, not_true_eq_false, true_or, or_true, if_true, if_false]
    by_cases e : v - v / 3 * 3 < nI (lefts (ib p) ts).length
    · rw [if_pos e]; rw [b01_f (fun z => z e)] at hq; exact hq
    · rw [if_neg e]; rw [b01_t e] at hq; exact hq
  · by_cases e5 : k = 5
    · rw [if_pos (Or.inr e5)] at hq
      have e52 : ¬ (5 : Int32) = 2 := by decide
      simp only [p22_106, p22_106n, p22_107, p22_110, p22_113, p22_113n, p22_114, p22_117, p22_118, p22_121, p22_121n, p22_122, p22_125, p22_126, p22_129, p22_129n, p22_130, p22_133, p22_134, p22_135, p22_138, p22_139, p22_142, p22_143, p22_146, p22_147, Option.toList, List.nil_append, kd0, kd47, rf0_6, hc, h1, h2, h3, e5, e52, i32_30, not_false_eq_true, not_true_eq_false, true_or, or_true, if_true, if_false]
      by_cases e : v - v / 3 * 3 < nI (lefts (ib p) ts).length
      · rw [if_pos e]; rw [b01_f (fun z => z e)] at hq; exact hq
      · rw [if_neg e]; rw [b01_t e] at hq; exact hq
    · rw [if_neg (fun z => z.elim e2 e5)] at hq
      simp only [p22_106, p22_106n, p22_107, p22_110, p22_113, p22_113n, p22_114, p22_117, p22_118, p22_121, p22_121n, p22_122, p22_125, p22_126, p22_129, p22_129n, p22_130, p22_133, p22_134, p22_135, p22_138, p22_139, p22_142, p22_143, p22_146, p22_147, Option.toList, List.nil_append, kd0, kd47, rf0_6, hc, h1, h2, h3, e2, e5, i32_30, not_false_eq_true, not_true_eq_false, true_or, or_true, if_true, if_false]
      by_cases e : 0 < nI (lefts (ib p) ts).length
      · rw [if_pos e]; rw [b01_f (fun z => z e)] at hq; exact hq
      · rw [if_neg e]; rw [b01_t e] at hq; exact hq
theorem s_fallsBy {x told : Int32} (hc : dm_kd c = 1) (ho : dm_kd o = 3) (hne : o ≠ 47) (ht : ∀ t ∈ ts, t < 8) (hR : RowIs M o ts) (hk : M c 1 = k) (hv : M c 2 = v) (htd : M c 3 = told) (hn : 0 < M 1 0)
    (hQ : ∀ M', (∀ a, a ≠ 47 → a ≠ 48 → M' a = M a) → Q (some (.int (b01 (flS k v told (x &&& ((1 <<< (M 1 0 &&& 31)) - 1)) (ownS v (M 1 0)) ts = true)))) M') :
    dm_cp (d + 2) 22 [.ref 0, .ref c, .ref o, .int x] M Q := by
  have hA := fun (d : Nat) (Q : Option Value → dm_M → Prop) => s_allNails (d := d) (M := M) (Q := Q) kd1
  have hN := fun (d : Nat) (Q : Option Value → dm_M → Prop) => s_nailOf (d := d) (x := v) (M := M) (Q := Q) kd1 hn
  rw [e22]
  simp only [p22_0, p22_1, p22_1n, p22_2, p22_5, p22_8, p22_9, p22_11, p22_12, p22_12n, p22_13, p22_16, p22_16n, p22_17, p22_20, p22_23, p22_24, p22_26, p22_26n, p22_27, p22_30, kd0, kd1, rf0_0, hc, hA, hN, hk, hv, Option.toList, List.cons_append, List.nil_append]
  generalize hp : x &&& ((1 <<< (M 1 0 &&& 31)) - 1) = p at *
  have hown : (1 : Int32) <<< ((v - v / M 1 0 * M 1 0) &&& 31) = ownS v (M 1 0) := rfl
  rw [hown]
  generalize ownS v (M 1 0) = own at *
  unfold flS at hQ
  rw [p22_32]
  by_cases e6 : k = 6
  · rw [if_neg (fun z => z e6)]
    simp only [p22_35, p22_35n, p22_36, p22_39, p22_41, p22_44, hc, htd, s_hasBit, Option.toList, List.cons_append, List.nil_append, b01_01]
    have hq := hQ M (fun _ _ _ => rfl)
    rw [if_pos e6, b01_c (decide_eq_true_iff)] at hq
    exact hq
  · rw [if_pos e6]
    rw [if_neg e6] at hQ
    by_cases e4 : k = 4
    · have q3 : ¬ (4 : Int32) = 3 := by decide
      have q5 : ¬ (4 : Int32) = 5 := by decide
      subst e4
      by_cases ez : p &&& own = 0
      · simp only [p22_45, p22_45n, p22_46, p22_49, p22_50, p22_53, p22_55, p22_57, p22_58, p22_61, p22_62, p22_63, p22_63n, p22_64, p22_67, p22_68, p22_71, p22_71n, p22_72, p22_75, p22_76, p22_79, p22_81, p22_83, p22_84, p22_85, p22_86, p22_89, p22_91, p22_93, p22_94, hc, hk, ez, not_true_eq_false, if_true, if_false, true_or]
        have hq := hQ M (fun _ _ _ => rfl)
        rw [if_pos ⟨rfl, ez⟩, b01_f (by decide)] at hq
        exact hq
      · simp only [p22_45, p22_45n, p22_46, p22_49, p22_50, p22_53, p22_55, p22_57, p22_58, p22_61, p22_62, p22_63, p22_63n, p22_64, p22_67, p22_68, p22_71, p22_71n, p22_72, p22_75, p22_76, p22_79, p22_81, p22_83, p22_84, p22_85, p22_86, p22_89, p22_91, p22_93, p22_94, hc, hk, ez, q3, q5, not_true_eq_false, not_false_eq_true, if_true, if_false]
        rw [if_neg (fun z => ez z.2)] at hQ
        have e1 : plS 4 p own = p := by unfold plS; rw [if_neg (by rintro (z | z); exact q3 z; exact q5 z.1)]
        rw [e1] at hQ
        exact fb_tail hc ho hne ht hR hk hv (fun M' hF => by have := hQ M' hF; rw [b01_c (decide_eq_true_iff)] at this; exact this)
    · rw [if_neg (fun z => e4 z.1)] at hQ
      have hQ2 : ∀ M', (∀ a, a ≠ 47 → a ≠ 48 → M' a = M a) → Q (some (.int (b01 (¬ limS k v < nI (lefts (ib (plS k p own)) ts).length)))) M' := fun M' hF => by have := hQ M' hF; rw [b01_c (decide_eq_true_iff)] at this; exact this
      by_cases e3 : k = 3
      · have e1 : plS k p own = p ||| own := by unfold plS; rw [if_pos (Or.inl e3)]
        rw [e1] at hQ2
        simp only [p22_45, p22_45n, p22_46, p22_49, p22_50, p22_53, p22_55, p22_57, p22_58, p22_61, p22_62, p22_63, p22_63n, p22_64, p22_67, p22_68, p22_71, p22_71n, p22_72, p22_75, p22_76, p22_79, p22_81, p22_83, p22_84, p22_85, p22_86, p22_89, p22_91, p22_93, p22_94, hc, hk, e4, e3, not_true_eq_false, not_false_eq_true, if_true, if_false]
        exact fb_tail hc ho hne ht hR hk hv hQ2
      · by_cases e5 : k = 5
        · by_cases ez : p &&& (own ^^^ (-1)) = 0
          · have e1 : plS k p own = p := by unfold plS; rw [if_neg (by rintro (z | z); exact e3 z; exact z.2 ez)]
            rw [e1] at hQ2
            simp only [p22_45, p22_45n, p22_46, p22_49, p22_50, p22_53, p22_55, p22_57, p22_58, p22_61, p22_62, p22_63, p22_63n, p22_64, p22_67, p22_68, p22_71, p22_71n, p22_72, p22_75, p22_76, p22_79, p22_81, p22_83, p22_84, p22_85, p22_86, p22_89, p22_91, p22_93, p22_94, hc, hk, e4, e3, e5, ez, not_true_eq_false, not_false_eq_true, if_true, if_false]
            exact fb_tail hc ho hne ht hR hk hv hQ2
          · have e1 : plS k p own = p ||| own := by unfold plS; rw [if_pos (Or.inr ⟨e5, ez⟩)]
            rw [e1] at hQ2
            simp only [p22_45, p22_45n, p22_46, p22_49, p22_50, p22_53, p22_55, p22_57, p22_58, p22_61, p22_62, p22_63, p22_63n, p22_64, p22_67, p22_68, p22_71, p22_71n, p22_72, p22_75, p22_76, p22_79, p22_81, p22_83, p22_84, p22_85, p22_86, p22_89, p22_91, p22_93, p22_94, hc, hk, e4, e3, e5, ez, not_true_eq_false, not_false_eq_true, if_true, if_false]
            exact fb_tail hc ho hne ht hR hk hv hQ2
        · have e1 : plS k p own = p := by unfold plS; rw [if_neg (by rintro (z | z); exact e3 z; exact e5 z.1)]
          rw [e1] at hQ2
          simp only [p22_45, p22_45n, p22_46, p22_49, p22_50, p22_53, p22_55, p22_57, p22_58, p22_61, p22_62, p22_63, p22_63n, p22_64, p22_67, p22_68, p22_71, p22_71n, p22_72, p22_75, p22_76, p22_79, p22_81, p22_83, p22_84, p22_85, p22_86, p22_89, p22_91, p22_93, p22_94, hc, hk, e4, e3, e5, not_true_eq_false, not_false_eq_true, if_true, if_false]
          exact fb_tail hc ho hne ht hR hk hv hQ2
end
