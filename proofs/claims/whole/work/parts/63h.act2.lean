/-! act: the class, the acts -/
def lsw (x : Int) : Nat := (Op.lookupswitch.offset [((1), 160), ((2), 168), ((3), 188), ((11), 205), ((21), 220), ((31), 234), ((41), 250), ((51), 279), ((61), 297)] 315 x).toNat
section
variable {d i j n sets : Nat} {x y z : Int32} {M : dm_M} {Q : Option Value → dm_M → Prop} {s : Sg} {f : Bool}
/-- a cord's number, kind, v -/
def CdA (M : dm_M) (c num o v : Nat) : Prop := dm_kd c = 1 ∧ c ≠ 0 ∧ c ≠ 46 ∧ M c 0 = nI num ∧ M c 1 = nI o ∧ M c 2 = nI v
theorem CdA.keep {M0 : dm_M} {c num o v : Nat} (h : CdA M0 c num o v) (hK : ActK M0 M) : CdA M c num o v := by
  obtain ⟨a, b, e, g1, g2, g3⟩ := h
  have := hK.cell e b
  exact ⟨a, b, e, by rw [this]; exact g1, by rw [this]; exact g2, by rw [this]; exact g3⟩
theorem p83_sw {l0 l1 l2 l3 l4 l5 l6 l7 l8 l9 : Option Value} : dm_wp d 83 78 [l0, l1, l2, l3, l4, l5, l6, l7, l8, l9] [.int x] M Q ↔ dm_wp d 83 (lsw x.toInt) [l0, l1, l2, l3, l4, l5, l6, l7, l8, l9] [] M Q := p83_78
theorem t_W0 {c k dep num o v : Nat} {l : List Nat} (hT : Tab M) (hk : k < 7) (hw : k = 0 ∨ k = 2 ∨ k = 3 ∨ k = 6) (hC : CdA M c num o v) (hd : dep ≤ 19) (hL : TrL M l) (hl : l.length < 20)
    (hQ : ∀ M', TrL M' (l ++ wT k) → ActK M M' → Q (some (.int (wV k (nI num) x))) M') : dm_cp (d + 2) 83 [.ref 0, .ref c, .int (nI k), .int (nI 0), .int x, .int (nI dep)] M Q := by
  refine t_run1 hT hk (by decide) (by omega) hL hl (fun M' hL' hK' => ?_)
  obtain ⟨a1, a2, a3, g1, g2, g3⟩ := hC.keep hK'
  have h1 : lsw (nI 1).toInt = 160 := by decide
  rcases hw with rfl | rfl | rfl | rfl <;>
    (have hq := hQ M' hL' hK'
     simp (disch := first | assumption | exact kd0 | fail) only [p83_76, p83_sw, show bdT 0 0 = 1 from rfl, show bdT 2 0 = 1 from rfl, show bdT 3 0 = 1 from rfl, show bdT 6 0 = 1 from rfl, h1, p83_160, p83_162, p83_162n, p83_163, p83_166, p83_167, g1]
     exact hq)
theorem t_W {c k dep num o v : Nat} {l : List Nat} (hT : Tab M) (hk : k < 7) (hC : CdA M c num o v) (hd : dep ≤ 18) (hL : TrL M l) (hl : l.length < 19)
    (hQ : ∀ M', TrL M' (l ++ wT k) → ActK M M' → Q (some (.int (wV k (nI num) x))) M') : dm_cp (d + 3) 83 [.ref 0, .ref c, .int (nI k), .int (nI 0), .int x, .int (nI dep)] M Q := by
  by_cases hw : k = 0 ∨ k = 2 ∨ k = 3 ∨ k = 6
  · exact t_W0 (d := d + 1) hT hk hw hC (by omega) hL (by omega) hQ
  · refine t_run1 (d := d + 1) hT hk (by decide) (by omega) hL (by omega) (fun M' hL' hK' => ?_)
    have hC' := hC.keep hK'
    obtain ⟨a1, a2, a3, g1, g2, g3⟩ := hC'
    have hk2 : k = 1 ∨ k = 4 ∨ k = 5 := by omega
    have h11 : lsw (nI 11).toInt = 205 := by decide
    have h51 : lsw (nI 51).toInt = 279 := by decide
    rcases hk2 with rfl | rfl | rfl
    · simp (disch := first | assumption | exact kd0 | fail) only [p83_76, p83_sw, show bdT 1 0 = 11 from rfl, h11, p83_205, p83_205n, p83_206, p83_206n, p83_207, p83_209, p83_210, p83_212, p83_213, p83_214, p83_216, show abT 1 0 = nI 0 from rfl, i0]
      refine t_W0 (k := 0) (dep := dep + 1) (hK'.tab hT) (by decide) (Or.inl rfl) (hC.keep hK') (by omega) hL' (by rw [lapp]; omega) (fun M2 hL2 hK2 => ?_)
      have hq := hQ M2 (by rw [List.append_assoc] at hL2; exact hL2) (hK'.trans hK2)
      simp only [p83_219, Option.toList, List.cons_append, List.nil_append]
      exact hq
    · simp (disch := first | assumption | exact kd0 | fail) only [p83_76, p83_sw, show bdT 4 0 = 11 from rfl, h11, p83_205, p83_205n, p83_206, p83_206n, p83_207, p83_209, p83_210, p83_212, p83_213, p83_214, p83_216, show abT 4 0 = nI 0 from rfl, i0]
      refine t_W0 (k := 0) (dep := dep + 1) (hK'.tab hT) (by decide) (Or.inl rfl) (hC.keep hK') (by omega) hL' (by rw [lapp]; omega) (fun M2 hL2 hK2 => ?_)
      have hq := hQ M2 (by rw [List.append_assoc] at hL2; exact hL2) (hK'.trans hK2)
      simp only [p83_219, Option.toList, List.cons_append, List.nil_append]
      exact hq
    · simp (disch := first | assumption | exact kd0 | fail) only [p83_76, p83_sw, show bdT 5 0 = 51 from rfl, h51, p83_279, p83_279n, p83_280, p83_280n, p83_281, p83_283, p83_284, p83_286, p83_288, show abT 5 0 = nI 2 from rfl, i0]
      refine t_W0 (k := 2) (dep := dep + 1) (hK'.tab hT) (by decide) (Or.inr (Or.inl rfl)) (hC.keep hK') (by omega) hL' (by rw [lapp]; omega) (fun M2 hL2 hK2 => ?_)
      obtain ⟨b1, b2, b3, e1, e2, e3⟩ := (hC.keep hK').keep hK2
      have hq := hQ M2 (by rw [List.append_assoc] at hL2; exact hL2) (hK'.trans hK2)
      simp (disch := first | assumption | exact kd0 | fail) only [p83_291, p83_291n, p83_292, p83_295, p83_296, Option.toList, List.cons_append, List.nil_append, e1]
      exact hq
theorem t_H0 {c k dep num o v : Nat} {l : List Nat} (hTb : Tab M) (hk : k < 7) (ho : o < 7) (hw : k = 0 ∨ k = 1 ∨ k = 3 ∨ k = 4) (hC : CdA M c num o v) (hd : dep ≤ 17) (hL : TrL M l) (hl : l.length < 18)
    (hQ : ∀ M', TrL M' (l ++ hT o k) → ActK M M' → Q (some (.int (hV o k (nI num) (nI v) x))) M') : dm_cp (d + 4) 83 [.ref 0, .ref c, .int (nI k), .int (nI 1), .int x, .int (nI dep)] M Q := by
  refine t_run1 (d := d + 2) hTb hk (by decide) (by omega) hL (by omega) (fun M' hL' hK' => ?_)
  obtain ⟨a1, a2, a3, g1, g2, g3⟩ := hC.keep hK'
  have h1 : lsw (nI 2).toInt = 168 := by decide
  rcases hw with rfl | rfl | rfl | rfl <;>
    (simp (disch := first | assumption | exact kd0 | fail) only [p83_76, p83_sw, show bdT 0 1 = 2 from rfl, show bdT 1 1 = 2 from rfl, show bdT 3 1 = 2 from rfl, show bdT 4 1 = 2 from rfl, h1, p83_168, p83_168n, p83_169, p83_169n, p83_170, p83_170n, p83_171, p83_174, p83_175, p83_177, p83_179, g2, i0]
     refine t_W (dep := dep + 1) (hK'.tab hTb) ho (hC.keep hK') (by omega) hL' (by rw [lapp]; omega) (fun M2 hL2 hK2 => ?_)
     obtain ⟨b1, b2, b3, e1, e2, e3⟩ := (hC.keep hK').keep hK2
     have hq := hQ M2 (by rw [List.append_assoc] at hL2; exact hL2) (hK'.trans hK2)
     simp (disch := first | assumption | exact kd0 | fail) only [p83_182, p83_182n, p83_183, p83_186, p83_187, Option.toList, List.cons_append, List.nil_append, e3]
     exact hq)
theorem t_H {c k dep num o v : Nat} {l : List Nat} (hTb : Tab M) (hk : k < 7) (ho : o < 7) (hC : CdA M c num o v) (hd : dep ≤ 16) (hL : TrL M l) (hl : l.length < 17)
    (hQ : ∀ M', TrL M' (l ++ hT o k) → ActK M M' → Q (some (.int (hV o k (nI num) (nI v) x))) M') : dm_cp (d + 5) 83 [.ref 0, .ref c, .int (nI k), .int (nI 1), .int x, .int (nI dep)] M Q := by
  by_cases hw : k = 0 ∨ k = 1 ∨ k = 3 ∨ k = 4
  · exact t_H0 (d := d + 1) hTb hk ho hw hC (by omega) hL (by omega) hQ
  · refine t_run1 (d := d + 3) hTb hk (by decide) (by omega) hL (by omega) (fun M' hL' hK' => ?_)
    have h21 : lsw (nI 21).toInt = 220 := by decide
    have h61 : lsw (nI 61).toInt = 297 := by decide
    have hk2 : k = 2 ∨ k = 5 ∨ k = 6 := by omega
    rcases hk2 with rfl | rfl | rfl
    · simp (disch := first | assumption | exact kd0 | fail) only [p83_76, p83_sw, show bdT 2 1 = 21 from rfl, h21, p83_220, p83_220n, p83_221, p83_221n, p83_222, p83_224, p83_225, p83_227, p83_229, show abT 2 1 = nI 0 from rfl, i1]
      refine t_H0 (k := 0) (dep := dep + 1) (hK'.tab hTb) (by decide) ho (Or.inl rfl) (hC.keep hK') (by omega) hL' (by rw [lapp]; omega) (fun M2 hL2 hK2 => ?_)
      have hq := hQ M2 (by rw [List.append_assoc] at hL2; exact hL2) (hK'.trans hK2)
      simp only [p83_232, p83_233, Option.toList, List.cons_append, List.nil_append]
      exact hq
    · simp (disch := first | assumption | exact kd0 | fail) only [p83_76, p83_sw, show bdT 5 1 = 21 from rfl, h21, p83_220, p83_220n, p83_221, p83_221n, p83_222, p83_224, p83_225, p83_227, p83_229, show abT 5 1 = nI 0 from rfl, i1]
      refine t_H0 (k := 0) (dep := dep + 1) (hK'.tab hTb) (by decide) ho (Or.inl rfl) (hC.keep hK') (by omega) hL' (by rw [lapp]; omega) (fun M2 hL2 hK2 => ?_)
      have hq := hQ M2 (by rw [List.append_assoc] at hL2; exact hL2) (hK'.trans hK2)
      simp only [p83_232, p83_233, Option.toList, List.cons_append, List.nil_append]
      exact hq
    · simp (disch := first | assumption | exact kd0 | fail) only [p83_76, p83_sw, show bdT 6 1 = 61 from rfl, h61, p83_297, p83_297n, p83_298, p83_298n, p83_299, p83_301, p83_302, p83_304, p83_306, show abT 6 1 = nI 3 from rfl, i1]
      refine t_H0 (k := 3) (dep := dep + 1) (hK'.tab hTb) (by decide) ho (by omega) (hC.keep hK') (by omega) hL' (by rw [lapp]; omega) (fun M2 hL2 hK2 => ?_)
      obtain ⟨b1, b2, b3, e1, e2, e3⟩ := (hC.keep hK').keep hK2
      have hq := hQ M2 (by rw [List.append_assoc] at hL2; exact hL2) (hK'.trans hK2)
      simp (disch := first | assumption | exact kd0 | fail) only [p83_309, p83_309n, p83_310, p83_313, p83_314, Option.toList, List.cons_append, List.nil_append, e3]
      exact hq
theorem t_Tl0 {c k dep num o v : Nat} {l : List Nat} (hTb : Tab M) (hk : k < 7) (ho : o < 7) (hw : k = 0 ∨ k = 1 ∨ k = 2 ∨ k = 5) (hC : CdA M c num o v) (hd : dep ≤ 15) (hL : TrL M l) (hl : l.length < 16)
    (hQ : ∀ M', TrL M' (l ++ [3] ++ hT o o) → ActK M M' → Q (some (.int (hV o o (nI num) (nI v) x * 2))) M') : dm_cp (d + 6) 83 [.ref 0, .ref c, .int (nI k), .int (nI 2), .int x, .int (nI dep)] M Q := by
  refine t_run1 (d := d + 4) hTb hk (by decide) (by omega) hL (by omega) (fun M' hL' hK' => ?_)
  obtain ⟨a1, a2, a3, g1, g2, g3⟩ := hC.keep hK'
  have h1 : lsw (nI 3).toInt = 188 := by decide
  rcases hw with rfl | rfl | rfl | rfl <;>
    (simp (disch := first | assumption | exact kd0 | fail) only [p83_76, p83_sw, show bdT 0 2 = 3 from rfl, show bdT 1 2 = 3 from rfl, show bdT 2 2 = 3 from rfl, show bdT 5 2 = 3 from rfl, h1, p83_188, p83_188n, p83_189, p83_189n, p83_190, p83_190n, p83_191, p83_194, p83_195, p83_197, p83_199, g2, i1]
     refine t_H (dep := dep + 1) (hK'.tab hTb) ho ho (hC.keep hK') (by omega) hL' (by rw [lapp]; omega) (fun M2 hL2 hK2 => ?_)
     have hq := hQ M2 hL2 (hK'.trans hK2)
     simp (disch := first | assumption | exact kd0 | fail) only [p83_202, p83_203, p83_204, Option.toList, List.cons_append, List.nil_append]
     exact hq)
theorem t_Tl {c k dep num v : Nat} {l : List Nat} (hTb : Tab M) (hk : k < 7) (hC : CdA M c num k v) (hd : dep ≤ 14) (hL : TrL M l) (hl : l.length < 10)
    (hQ : ∀ M', TrL M' (l ++ tT k k) → ActK M M' → Q (some (.int (tV k k (nI num) (nI v) x))) M') : dm_cp (d + 7) 83 [.ref 0, .ref c, .int (nI k), .int (nI 2), .int x, .int (nI dep)] M Q := by
  by_cases hw : k = 0 ∨ k = 1 ∨ k = 2 ∨ k = 5
  · refine t_Tl0 (d := d + 1) hTb hk hk hw hC (by omega) hL (by omega) (fun M' hL' hK' => ?_)
    rw [List.append_assoc] at hL'
    rcases hw with rfl | rfl | rfl | rfl <;> exact hQ M' hL' hK'
  · refine t_run1 (d := d + 5) hTb hk (by decide) (by omega) hL (by omega) (fun M' hL' hK' => ?_)
    have h31 : lsw (nI 31).toInt = 234 := by decide
    have h41 : lsw (nI 41).toInt = 250 := by decide
    have hk2 : k = 3 ∨ k = 6 ∨ k = 4 := by omega
    rcases hk2 with rfl | rfl | rfl
    · simp (disch := first | assumption | exact kd0 | fail) only [p83_76, p83_sw, show bdT 3 2 = 31 from rfl, h31, p83_234, p83_234n, p83_235, p83_235n, p83_236, p83_238, p83_239, p83_241, p83_243, show abT 3 2 = nI 0 from rfl, i2]
      refine t_Tl0 (k := 0) (dep := dep + 1) (hK'.tab hTb) (by decide) hk (Or.inl rfl) (hC.keep hK') (by omega) hL' (by rw [lapp]; omega) (fun M2 hL2 hK2 => ?_)
      have hq := hQ M2 (by rw [List.append_assoc, List.append_assoc] at hL2; exact hL2) (hK'.trans hK2)
      simp only [p83_246, p83_248, p83_249, Option.toList, List.cons_append, List.nil_append]
      exact hq
    · simp (disch := first | assumption | exact kd0 | fail) only [p83_76, p83_sw, show bdT 6 2 = 31 from rfl, h31, p83_234, p83_234n, p83_235, p83_235n, p83_236, p83_238, p83_239, p83_241, p83_243, show abT 6 2 = nI 0 from rfl, i2]
      refine t_Tl0 (k := 0) (dep := dep + 1) (hK'.tab hTb) (by decide) hk (Or.inl rfl) (hC.keep hK') (by omega) hL' (by rw [lapp]; omega) (fun M2 hL2 hK2 => ?_)
      have hq := hQ M2 (by rw [List.append_assoc, List.append_assoc] at hL2; exact hL2) (hK'.trans hK2)
      simp only [p83_246, p83_248, p83_249, Option.toList, List.cons_append, List.nil_append]
      exact hq
    · simp (disch := first | assumption | exact kd0 | fail) only [p83_76, p83_sw, show bdT 4 2 = 41 from rfl, h41, p83_250, p83_250n, p83_251, p83_251n, p83_252, p83_254, p83_255, p83_257, p83_258, p83_259, p83_261, show abT 4 2 = nI 1 from rfl, i2]
      refine t_Tl0 (k := 1) (dep := dep + 1) (x := x - 1) (hK'.tab hTb) (by decide) hk (by omega) (hC.keep hK') (by omega) hL' (by rw [lapp]; omega) (fun M2 hL2 hK2 => ?_)
      obtain ⟨b1, b2, b3, e1, e2, e3⟩ := (hC.keep hK').keep hK2
      simp (disch := first | assumption | exact kd0 | fail) only [p83_264, p83_264n, p83_265, p83_265n, p83_266, p83_266n, p83_267, p83_270, p83_271, p83_272, p83_274, Option.toList, List.cons_append, List.nil_append, e2, i0]
      have hl2 : (l ++ [bdT 4 2] ++ [3] ++ hT 4 4).length < 19 := by
        have := (trT_lt 4 (by decide) 4 (by decide)).2.1
        rw [List.length_append, lapp, lapp]
        omega
      refine t_W (dep := dep + 1) (hK2.tab (hK'.tab hTb)) hk ((hC.keep hK').keep hK2) (by omega) hL2 hl2 (fun M3 hL3 hK3 => ?_)
      have hq := hQ M3 (by
        rw [List.append_assoc, List.append_assoc, List.append_assoc] at hL3
        exact hL3) (hK'.trans (hK2.trans hK3))
      simp only [p83_277, p83_278, Option.toList, List.cons_append, List.nil_append]
      exact hq
end
