/-! what is known at the law's entry -/
theorem lw_in {w : Jvm.Cond} (i : Nat) (h : tables_1[i]? = some w) : w ∈ lw_tbl := List.mem_append_right _ (List.mem_of_getElem? h)
theorem lw_env {s : State} {args : Array Value} (hts : ∀ w ∈ lw_tbl, w.before args s = true) : ∃ (dC : Nat → ClassId) (dI : Nat → Nat → Nat) (cI cZ cO : ClassId), ct_E dC dI cI cZ cO s := by
  have htsG : ∀ w ∈ dm_GW, w.before args s = true := fun w hw => hts w (List.mem_filter.mp hw).1
  have hk : ∀ ci : Nat, ∃ (cC : ClassId) (iS : Nat → Nat), ci < 6 → u_Kn s (dm_cn ci) (dm_fn ci) (dm_cN ci) cC iS := by
    intro ci
    by_cases h : ci < 6
    · have hi : (Jvm.Cond.instantiable (dm_cn ci) (dm_cN ci)).before args s = true := by
        match ci, h with
        | 0, _ => exact hts _ (lw_in 23 (by decide +kernel))
        | 1, _ => exact hts _ (lw_in 30 (by decide +kernel))
        | 2, _ => exact hts _ (lw_in 117 (by decide +kernel))
        | 3, _ => exact hts _ (lw_in 36 (by decide +kernel))
        | 4, _ => exact hts _ (lw_in 15 (by decide +kernel))
        | 5, _ => exact hts _ (lw_in 570 (by decide +kernel))
      obtain ⟨cC, iS, h1⟩ := u_known htsG (dm_lay_in ci h) hi
      exact ⟨cC, iS, fun _ => h1⟩
    · exact ⟨0, fun _ => 0, fun z => absurd z h⟩
  refine ⟨fun ci => (hk ci).choose, fun ci => (hk ci).choose_spec.choose, ?_⟩
  obtain ⟨cI, a1, a2⟩ := ct_prim (hts (.arrayClass .int) (lw_in 50 (by decide +kernel)))
  obtain ⟨cZ, b1, b2⟩ := ct_prim (hts (.arrayClass .boolean) (lw_in 641 (by decide +kernel)))
  have hao := hts (.arrayOver (.object "AnyNail$Cord")) (lw_in 29 (by decide +kernel))
  obtain ⟨comp, cO, kO, c1, -, c3, c4, c5⟩ := Cond.arrayOver_spec hao
  refine ⟨cI, cZ, cO, ⟨fun ci q hq => ?_, fun k q hq => ?_⟩, fun w hw => va_Nw.of (dm_NW_word w hw) (hts w (List.mem_filter.mp hw).1), va_AO.of hao⟩
  · have h6 : ci < 6 := dm_lt_of hq
    have := dm_vw h6
    rw [hq] at this
    cases this
    exact (hk ci).choose_spec.choose_spec h6
  · match k, hq with
    | 0, hq => cases hq; exact ⟨a1, a2⟩
    | 1, hq => cases hq; exact ⟨b1, b2⟩
    | 2, hq => cases hq; exact ⟨fun N z => ⟨(fun k h => by cases h), kO, c3, comp, c4⟩, kO, comp, c3, c4, c1, c5⟩
    | k + 3, hq => simp [ct_T] at hq
theorem tv_len : ∀ (tm : Term) (args : Array Value) (s : State) (z : Int32), (Cond.eq (.length tm) (.int z)).before args s = true → (Term.length tm).eval args s none [] s = some (.int z) := fun tm args s z h => va_eqt h
def gv1 : Jvm.Cond := Jvm.Cond.and given_1 narrow_1
theorem gm_bod : ∀ j, j < 21 → Cond.eq (.elem (.static "AnyNail" "BODIES" "[I") (.int (Int32.ofNat j))) (.int (bodL.getD j 0)) ∈ flatC gv1 := by decide +kernel
theorem gm_abv : ∀ j, j < 7 → Cond.eq (.elem (.static "AnyNail" "ABOVE" "[I") (.int (Int32.ofNat j))) (.int (abvL.getD j 0)) ∈ flatC gv1 := by decide +kernel
theorem gm_1 : Cond.arrayOf (.static "AnyNail" "BODIES" "[I") .int ∈ flatC gv1 ∧ Cond.eq (.length (.static "AnyNail" "BODIES" "[I")) (.int 21) ∈ flatC gv1 ∧ Cond.arrayOf (.static "AnyNail" "ABOVE" "[I") .int ∈ flatC gv1 ∧ Cond.eq (.length (.static "AnyNail" "ABOVE" "[I")) (.int 7) ∈ flatC gv1 ∧
    Cond.eq (.static "java/lang/String" "COMPACT_STRINGS" "Z") (.int 1) ∈ flatC gv1 ∧ Cond.isRef (.static "jdk/internal/util/Preconditions" "SIOOBE_FORMATTER" "Ljava/util/function/BiFunction;") ∈ flatC gv1 := by decide +kernel
def stm (i : Nat) : Term := .string "AnyNailModel" (if i = 0 then 87 else 93)
theorem gm_str : ∀ i, i < 2 → Cond.exactly (stm i) "java/lang/String" ∈ flatC gv1 ∧ Cond.eq (.field (stm i) "java/lang/String" "coder" "B") (.int 0) ∈ flatC gv1 ∧ Cond.arrayOf (.field (stm i) "java/lang/String" "value" "[B") .byte ∈ flatC gv1 ∧
    Cond.eq (.length (.field (stm i) "java/lang/String" "value" "[B")) (.int (Int32.ofNat ([5, 3].getD i 0))) ∈ flatC gv1 ∧ ∀ j, j < [5, 3].getD i 0 → Cond.eq (.elem (.field (stm i) "java/lang/String" "value" "[B") (.int (Int32.ofNat j))) (.int ((strL.getD i []).getD j 0)) ∈ flatC gv1 := by decide +kernel
theorem gm_ne : Cond.not (Cond.eq (stm 0) (stm 1)) ∈ flatC gv1 := by decide +kernel
theorem lw_stat {s : State} {args : Array Value} (hts : ∀ w ∈ lw_tbl, w.before args s = true) (hgv : gv1.before args s = true) :
    ∃ (fm : Value) (t62 t63 : Nat) (adK adV : Nat → Nat), (fm = .null ∨ ∃ x, fm = .ref x) ∧
      va_Z "AnyNail" "BODIES" "[I" (.ref t63) (fun q => s.heap.size ≤ q) s s.heap ∧ va_Z "AnyNail" "ABOVE" "[I" (.ref t62) (fun q => s.heap.size ≤ q) s s.heap ∧
      va_Z "java/lang/String" "COMPACT_STRINGS" "Z" (.int 1) (fun q => s.heap.size ≤ q) s s.heap ∧ va_Z "jdk/internal/util/Preconditions" "SIOOBE_FORMATTER" "Ljava/util/function/BiFunction;" fm (fun q => s.heap.size ≤ q) s s.heap ∧
      va_T .int t62 7 (fun j => .int (abvL.getD j 0)) (fun q => s.heap.size ≤ q) s s.heap ∧ va_T .int t63 21 (fun j => .int (bodL.getD j 0)) (fun q => s.heap.size ≤ q) s s.heap ∧
      vk_S 2 [5, 3] strL adK adV (fun q => s.heap.size ≤ q) s s.heap ∧ vk_R "AnyNailModel" 87 "abcdn" (adK 0) s ∧ vk_R "AnyNailModel" 93 "<=>" (adK 1) s := by
  have hs := flat_of_before _ hgv
  have hA : ∀ a : Nat, a < s.heap.size → ¬ s.heap.size ≤ a := fun a h => Nat.not_le.mpr h
  obtain ⟨m1, m2, m3, m4, m5, m6⟩ := gm_1
  obtain ⟨t63, e63, T63⟩ := va_Tof (s := s) (args := args) (N := 21) (f := fun j => .int (bodL.getD j 0)) (A := fun q => s.heap.size ≤ q) (by decide) (hs _ m1) (va_eqt (hs _ m2)) (fun j hj => va_eqt (hs _ (gm_bod j hj))) hA
  obtain ⟨t62, e62, T62⟩ := va_Tof (s := s) (args := args) (N := 7) (f := fun j => .int (abvL.getD j 0)) (A := fun q => s.heap.size ≤ q) (by decide) (hs _ m3) (va_eqt (hs _ m4)) (fun j hj => va_eqt (hs _ (gm_abv j hj))) hA
  have hne := hs _ gm_ne
  obtain ⟨adK, adV, hV, hVe⟩ := vk_Sof (s := s) (args := args) (N := 2) (tm := stm) (len := [5, 3]) (byt := strL) (A := fun q => s.heap.size ≤ q) (by decide) (fun i hi => hs _ (gm_str i hi).1) (fun i hi => hs _ (gm_str i hi).2.1) (fun i hi => hs _ (gm_str i hi).2.2.1) (fun i hi => hs _ (gm_str i hi).2.2.2.1) (fun i hi j hj => hs _ ((gm_str i hi).2.2.2.2 j hj)) (fun i j hi hj hij => by
    match i, j, hi, hj with
    | 0, 1, _, _ => exact Or.inl hne
    | 1, 0, _, _ => exact Or.inr hne
    | 0, 0, _, _ => exact absurd rfl hij
    | 1, 1, _, _ => exact absurd rfl hij
    | _ + 2, _, h, _ => omega
    | _, _ + 2, _, h => omega) hA
  have hfm := va_Zqof (hts (.laysStatic "jdk/internal/util/Preconditions" "SIOOBE_FORMATTER" "Ljava/util/function/BiFunction;") (lw_in 707 (by decide +kernel))) (hts (.initialized "jdk/internal/util/Preconditions") (lw_in 11 (by decide +kernel))) (hs _ m6) hA
  have hz : ∃ fm : Value, (fm = .null ∨ ∃ x, fm = .ref x) ∧ va_Z "jdk/internal/util/Preconditions" "SIOOBE_FORMATTER" "Ljava/util/function/BiFunction;" fm (fun q => s.heap.size ≤ q) s s.heap := by
    rcases hfm with h | ⟨t, h⟩
    · exact ⟨.null, Or.inl rfl, h⟩
    · exact ⟨.ref t, Or.inr ⟨t, rfl⟩, h⟩
  obtain ⟨fm, hf1, hf2⟩ := hz
  exact ⟨fm, t62, t63, adK, adV, hf1, va_Zref (hts (.laysStatic "AnyNail" "BODIES" "[I") (lw_in 524 (by decide +kernel))) (hts (.initialized "AnyNail") (lw_in 1 (by decide +kernel))) e63 hA, va_Zref (hts (.laysStatic "AnyNail" "ABOVE" "[I") (lw_in 529 (by decide +kernel))) (hts (.initialized "AnyNail") (lw_in 1 (by decide +kernel))) e62 hA,
    va_Zof (hts (.laysStatic "java/lang/String" "COMPACT_STRINGS" "Z") (lw_in 691 (by decide +kernel))) (hts (.initialized "java/lang/String") (lw_in 9 (by decide +kernel))) (va_eqi (hs _ m5)) hA, hf2, T62, T63, hV, vk_R.of (hts (.stringRef "AnyNailModel" 87 "abcdn") (lw_in 677 (by decide +kernel))) (hVe 0 (by decide)), vk_R.of (hts (.stringRef "AnyNailModel" 93 "<=>") (lw_in 730 (by decide +kernel))) (hVe 1 (by decide))⟩
/-- the state that the law begins with -/
def bd0 : Bd := (3, fun _ => 0, fun _ => 1, [], [], [], [])
def sg0 : Sg := (bd0, none, 0, fun _ => 0)
section
variable {L : Nat} {xs : Nat → Int32}
theorem bd0_ok : BdOk bd0 := ⟨by decide, by decide, fun i _ => ⟨show 0 < 100 by decide, show 1 < 11 by decide⟩, by decide, fun c h => absurd h (by simp [bd0, bC]), by decide, fun c h => absurd h (by simp [bd0, bL]), by decide, fun c h => absurd h (by simp [bd0, bT]), by decide, fun c h => absurd h (by simp [bd0, bS])⟩
theorem sg0_ok : SgOk sg0 := ⟨bd0_ok, fun b h => (by cases h), by decide, fun i => show 0 < 100 by decide⟩
theorem lw_rc0 : RC (SM0 L xs) sg0 := by
  refine ⟨sg0_ok, ⟨rfl, fun i hi => ?_, rfl, fun i hi => absurd hi (Nat.not_lt_zero _), rfl, fun i hi => absurd hi (Nat.not_lt_zero _), rfl, fun i hi => absurd hi (Nat.not_lt_zero _), rfl, fun i hi => absurd hi (Nat.not_lt_zero _), fun i hi => ?_⟩, rfl, fun b h => (by cases h), fun i hi => ?_, rfl, fun i hi => absurd hi (Nat.not_lt_zero _)⟩
  · match i, hi with
    | 0, _ => exact ⟨rfl, rfl⟩
    | 1, _ => exact ⟨rfl, rfl⟩
    | 2, _ => exact ⟨rfl, rfl⟩
    | 3, _ => exact ⟨rfl, rfl⟩
  · match i, hi with
    | 0, _ => rfl
    | 1, _ => rfl
    | 2, _ => rfl
    | 3, _ => rfl
    | 4, _ => rfl
  · match i, hi with
    | 0, _ => rfl
    | 1, _ => rfl
    | 2, _ => rfl
    | 3, _ => rfl
    | 4, _ => rfl
theorem lw_rm0 : RM (SM0 L xs) sg0 := by
  refine ⟨sg0_ok, ⟨rfl, fun i hi => ?_, rfl, fun i hi => absurd hi (Nat.not_lt_zero _), rfl, fun i hi => absurd hi (Nat.not_lt_zero _), rfl, fun i hi => absurd hi (Nat.not_lt_zero _), rfl, fun i hi => absurd hi (Nat.not_lt_zero _)⟩, rfl, fun b h => (by cases h), rfl, fun i hi => absurd hi (Nat.not_lt_zero _)⟩
  match i, hi with
  | 0, _ => exact ⟨rfl, rfl⟩
  | 1, _ => exact ⟨rfl, rfl⟩
  | 2, _ => exact ⟨rfl, rfl⟩
  | 3, _ => exact ⟨rfl, rfl⟩
theorem lw_tab0 : Tab (SM0 L xs) := by
  have h62 : SM0 L xs 62 = fun j => abvL.getD j 0 := rfl
  have h63 : SM0 L xs 63 = fun j => bodL.getD j 0 := rfl
  have h67 : SM0 L xs 67 = fun j => (strL.getD 0 []).getD j 0 := rfl
  have h68 : SM0 L xs 68 = fun j => (strL.getD 1 []).getD j 0 := rfl
  refine ⟨?_, ?_, rfl, rfl, ?_, ?_⟩
  · rw [h62]; decide +kernel
  · rw [h63]; decide +kernel
  · rw [h67]; decide +kernel
  · rw [h68]; decide +kernel
end
