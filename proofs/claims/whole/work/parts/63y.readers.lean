/-! a law read: what its code comes to; the class's readers -/
theorem evs_app {set : Nat} {l2 : List Int32} : ∀ (l1 : List Int32) (st st1 : List Bool), evs set l1 st = some st1 → evs set (l1 ++ l2) st = evs set l2 st1
  | [], st, st1, h => by
    have := Option.some.inj h
    subst this
    rfl
  | a :: l1, st, st1, h => by
    have h : (match ev1 set a st with | some st' => evs set l1 st' | none => none) = some st1 := h
    show (match ev1 set a st with | some st' => evs set (l1 ++ l2) st' | none => none) = evs set l2 st1
    cases e : ev1 set a st with
    | none =>
      rw [e] at h
      exact absurd h (by simp)
    | some st2 =>
      rw [e] at h
      exact evs_app l1 st2 st1 h
theorem evs_one {set : Nat} {c : Int32} {st st1 : List Bool} (h : ev1 set c st = some st1) : evs set [c] st = some st1 := by
  unfold evs
  rw [h]
  rfl
/-- a result of reading from p on -/
def GdR (T : List Nat) (p : Nat) (a : PR) : Prop := p ≤ a.1 ∧ a.1 ≤ T.length ∧ (a.2.1 = false → p + 3 ≤ a.1 ∧ a.2.2.1.length + p ≤ a.1 ∧ (∀ c ∈ a.2.2.1, c < 4096 ∧ (-3) ≤ c) ∧ a.2.2.2 < 65536 ∧ ∀ set, set < 16 → ∀ st : List Bool, 3 * st.length + a.1 ≤ 192 + p → evs set a.2.2.1 st = some (a.2.2.2.testBit set :: st))
theorem GdR.no {T : List Nat} {p q : Nat} (h1 : p ≤ q) (h2 : q ≤ T.length) : GdR T p (noT q) := ⟨h1, h2, fun z => absurd (show true = false from z) (by decide)⟩
theorem lt3_4096 {n : Nat} (h : n < 4096) : nI n < 4096 ∧ (-3) ≤ nI n := by
  rw [Int32.lt_iff_toInt_lt, Int32.le_iff_toInt_le, nI_toInt (by omega)]
  exact ⟨by rw [show (4096 : Int32).toInt = 4096 from rfl]; omega, by rw [show (-3 : Int32).toInt = -3 from rfl]; omega⟩
theorem tcode {set p w h v : Nat} {st : List Bool} (hs : set < 16) (hw : w < 5) (hh : h < 3) (hv : v < 100) (hl : st.length < 64) : evs set [nI (w + 8 * h + 32 * v)] st = some ((bitsT w h v).testBit set :: st) := by
  apply evs_one
  unfold ev1
  have h0 : (0 : Int32) ≤ nI (w + 8 * h + 32 * v) := by
    rw [Int32.le_iff_toInt_le, nI_toInt (by omega), show (0 : Int32).toInt = 0 from rfl]
    omega
  rw [if_pos h0, if_pos hl, cl_nI (by omega)]
  have e1 : (w + 8 * h + 32 * v) / 8 % 4 = h := by omega
  have e2 : (w + 8 * h + 32 * v) % 8 = w := by omega
  have e3 : (w + 8 * h + 32 * v) / 32 = v := by omega
  rw [e1, e2, e3]
  unfold bitsT
  rw [orN_bit, decide_eq_true hs, Bool.true_and]
theorem okT_Gd {T : List Nat} {p q w h v : Nat} (h1 : p + 3 ≤ q) (h2 : q ≤ T.length) (hw : w < 5) (hh : h < 3) (hv : v < 100) : GdR T p (okT q w h v) := by
  refine ⟨show p ≤ q by omega, h2, fun _ => ⟨h1, show 1 + p ≤ q by omega, ?_, (by have := orN_lt (fun t => tcmp h (tval t w) v) 16; exact this), ?_⟩⟩
  · intro c hc
    have : c = nI (w + 8 * h + 32 * v) := List.mem_singleton.1 hc
    rw [this]
    exact lt3_4096 (by omega)
  · intro set hs st hl
    have hl : 3 * st.length + q ≤ 192 + p := hl
    exact tcode (p := p) hs hw hh hv (by omega)
theorem chT_in {T : List Nat} {p : Nat} (h : ¬ chT T p = 1000) : p < T.length := by
  refine Classical.byContradiction (fun z => ?_)
  exact h (chT_out (by omega))
theorem rTest_Gd {T : List Nat} (hT : ∀ t ∈ T, t < 128) {p : Nat} (hp : p ≤ T.length) : GdR T p (rTest T p) := by
  unfold rTest
  cases hw : w5 (chT T p) with
  | none => exact GdR.no (Nat.le_refl _) hp
  | some w =>
    dsimp only
    have hp1 : p < T.length := chT_in (fun z => by rw [z] at hw; exact absurd (show (none : Option Nat) = some w from hw) (by simp))
    obtain ⟨w1, w2, w3⟩ := w5_some _ (chT_lt hT hp1).1 w hw
    cases hh : h3 (chT T (p + 1)) with
    | none => exact GdR.no (by omega) (by omega)
    | some h =>
      dsimp only
      have hp2 : p + 1 < T.length := chT_in (fun z => by rw [z] at hh; exact absurd (show (none : Option Nat) = some h from hh) (by simp))
      have h31 := (h3_some hh).1
      by_cases hd : isDg (chT T (p + 2)) = true
      · rw [if_pos hd]
        have hp3 : p + 2 < T.length := chT_in (fun z => by rw [z] at hd; exact absurd hd (by decide))
        have hd1 := dg_lt hd
        by_cases he : 48 < chT T (p + 2) ∧ isDg (chT T (p + 3)) = true
        · rw [if_pos he]
          have hp4 : p + 3 < T.length := chT_in (fun z => by rw [z] at he; exact absurd he.2 (by decide))
          have hd2 := dg_lt he.2
          exact okT_Gd (by omega) (by omega) w1 h31 (by omega)
        · rw [if_neg he]
          exact okT_Gd (by omega) (by omega) w1 h31 (by omega)
      · rw [if_neg hd]
        exact GdR.no (by omega) (by omega)
/-- a code of two operands -/
def CbOk (sc : Int32) (cb : Nat → Nat → Nat) : Prop := (sc < 4096 ∧ (-3) ≤ sc) ∧ (∀ a b, a < 65536 → b < 65536 → cb a b < 65536) ∧ ∀ set a b st, ev1 set sc (b.testBit set :: a.testBit set :: st) = some ((cb a b).testBit set :: st)
theorem cb_and : CbOk (-2) (fun a b => a &&& b) := by
  refine ⟨by decide, fun a b ha hb => Nat.lt_of_le_of_lt Nat.and_le_left ha, fun set a b st => ?_⟩
  unfold ev1
  rw [if_neg (by decide), if_neg (by decide)]
  dsimp only
  rw [if_pos rfl, Nat.testBit_and]
theorem cb_or : CbOk (-3) (fun a b => a ||| b) := by
  refine ⟨by decide, fun a b ha hb => Nat.or_lt_two_pow (n := 16) ha hb, fun set a b st => ?_⟩
  unfold ev1
  rw [if_neg (by decide), if_neg (by decide)]
  dsimp only
  rw [if_neg (by decide), Nat.testBit_or]
theorem pA_step {T : List Nat} {g : Nat → PR} {sc : Int32} {cb : Nat → Nat → Nat} (hcb : CbOk sc cb) {p op : Nat} (ho : op < 1000) {a : PR} (h : GdR T p a) (hg : GdR T (a.1 + 1) (g (a.1 + 1))) (hb : a.2.1 = false) : GdR T p ((g (a.1 + 1)).1, (g (a.1 + 1)).2.1, a.2.2.1 ++ (g (a.1 + 1)).2.2.1 ++ [sc], cb a.2.2.2 (g (a.1 + 1)).2.2.2) := by
  obtain ⟨h1, h2, h3⟩ := h
  obtain ⟨g1, g2, g3⟩ := hg
  obtain ⟨a1, a2, a3, a4, a5⟩ := h3 hb
  refine ⟨show p ≤ (g (a.1 + 1)).1 by omega, g2, fun z => ?_⟩
  obtain ⟨b1, b2, b3, b4, b5⟩ := g3 z
  refine ⟨show p + 3 ≤ (g (a.1 + 1)).1 by omega, ?_, ?_, hcb.2.1 _ _ a4 b4, ?_⟩
  · show (a.2.2.1 ++ (g (a.1 + 1)).2.2.1 ++ [sc]).length + p ≤ (g (a.1 + 1)).1
    rw [List.length_append, List.length_append]
    have : [sc].length = 1 := rfl
    omega
  · intro c hc
    rcases List.mem_append.1 hc with hc | hc
    · rcases List.mem_append.1 hc with hc | hc
      · exact a3 c hc
      · exact b3 c hc
    · rw [List.mem_singleton.1 hc]
      exact hcb.1
  · intro set hs st hl
    have hl : 3 * st.length + (g (a.1 + 1)).1 ≤ 192 + p := hl
    show evs set (a.2.2.1 ++ (g (a.1 + 1)).2.2.1 ++ [sc]) st = some ((cb a.2.2.2 (g (a.1 + 1)).2.2.2).testBit set :: st)
    have e1 := a5 set hs st (by omega)
    have e2 := b5 set hs (a.2.2.2.testBit set :: st) (by rw [List.length_cons]; omega)
    have e3 := evs_app (l2 := (g (a.1 + 1)).2.2.1) _ _ _ e1
    rw [e2] at e3
    rw [evs_app _ _ _ e3]
    exact evs_one (hcb.2.2 set _ _ st)
theorem pA_Gd {T : List Nat} {g : Nat → PR} {sc : Int32} {cb : Nat → Nat → Nat} (hcb : CbOk sc cb) {p op : Nat} (ho : op < 1000) (hg : ∀ q, q ≤ T.length → GdR T q (g q)) : ∀ (k : Nat) (a : PR), GdR T p a → GdR T p (pA T g op sc cb k a)
  | 0, a, h => h
  | k + 1, a, h => by
    unfold pA
    by_cases hc : a.2.1 = false ∧ chT T a.1 = op
    · rw [if_pos hc]
      have : a.1 < T.length := chT_in (by rw [hc.2]; omega)
      exact pA_Gd hcb ho hg k _ (pA_step hcb ho h (hg _ (by omega)) hc.1)
    · rw [if_neg hc]
      exact h
theorem pB_Gd {T : List Nat} {g : Nat → PR} (hg : ∀ q, q ≤ T.length → GdR T q (g q)) : ∀ q, q ≤ T.length → GdR T q (pB T g q) := fun q hq => pA_Gd cb_and (by omega) hg _ _ (hg q hq)
theorem pE_Gd {T : List Nat} {g : Nat → PR} (hg : ∀ q, q ≤ T.length → GdR T q (g q)) : ∀ q, q ≤ T.length → GdR T q (pE T g q) := fun q hq => pA_Gd cb_or (by omega) (pB_Gd hg) _ _ (pB_Gd hg q hq)
theorem tb_not {set a : Nat} (hs : set < 16) : (65535 ^^^ a).testBit set = !(a.testBit set) := by
  rw [Nat.testBit_xor, show (65535 : Nat) = 2 ^ 16 - 1 from rfl, Nat.testBit_two_pow_sub_one, decide_eq_true hs, Bool.true_xor]
theorem pF_Gd {T : List Nat} (hT : ∀ t ∈ T, t < 128) : ∀ (r q : Nat), q ≤ T.length → GdR T q (pF T r q)
  | 0, q, hq => by
    unfold pF
    by_cases hc : chT T q = 33 ∨ chT T q = 40
    · rw [if_pos hc]
      exact GdR.no (Nat.le_refl _) hq
    · rw [if_neg hc]
      exact rTest_Gd hT hq
  | r + 1, q, hq => by
    unfold pF
    by_cases h33 : chT T q = 33
    · rw [if_pos h33]
      have hq1 : q < T.length := chT_in (by omega)
      obtain ⟨g1, g2, g3⟩ := pF_Gd hT r (q + 1) (by omega)
      generalize hz : pF T r (q + 1) = z at *
      refine ⟨show q ≤ z.1 by omega, g2, fun hb => ?_⟩
      obtain ⟨b1, b2, b3, b4, b5⟩ := g3 hb
      refine ⟨show q + 3 ≤ z.1 by omega, ?_, ?_, Nat.xor_lt_two_pow (n := 16) (by decide) b4, ?_⟩
      · show (z.2.2.1 ++ [-1]).length + q ≤ z.1
        rw [List.length_append]
        have : [(-1 : Int32)].length = 1 := rfl
        omega
      · intro c hc
        rcases List.mem_append.1 hc with hc | hc
        · exact b3 c hc
        · rw [List.mem_singleton.1 hc]
          decide
      · intro set hs st hl
        have hl : 3 * st.length + z.1 ≤ 192 + q := hl
        show evs set (z.2.2.1 ++ [-1]) st = some ((65535 ^^^ z.2.2.2).testBit set :: st)
        rw [evs_app _ _ _ (b5 set hs st (by omega)), tb_not hs]
        apply evs_one
        unfold ev1
        rw [if_neg (by decide), if_pos rfl]
    · rw [if_neg h33]
      by_cases h40 : chT T q = 40
      · rw [if_pos h40]
        have hq1 : q < T.length := chT_in (by omega)
        obtain ⟨g1, g2, g3⟩ := pE_Gd (pF_Gd hT r) (q + 1) (by omega)
        generalize hz : pE T (pF T r) (q + 1) = z at *
        by_cases hb : z.2.1 = true
        · rw [if_pos hb]
          exact GdR.no (by omega) g2
        · rw [if_neg hb]
          by_cases hc : chT T z.1 = 41
          · rw [if_pos hc]
            have hq2 : z.1 < T.length := chT_in (by omega)
            obtain ⟨b1, b2, b3, b4, b5⟩ := g3 (by simpa using hb)
            refine ⟨show q ≤ z.1 + 1 by omega, show z.1 + 1 ≤ T.length by omega, fun _ => ⟨show q + 3 ≤ z.1 + 1 by omega, show z.2.2.1.length + q ≤ z.1 + 1 by omega, b3, b4, fun set hs st hl => ?_⟩⟩
            have hl : 3 * st.length + (z.1 + 1) ≤ 192 + q := hl
            exact b5 set hs st (by omega)
          · rw [if_neg hc]
            exact GdR.no (by omega) g2
      · rw [if_neg h40]
        exact rTest_Gd hT hq
/-- the class reads as g says -/
def RdC (T : List Nat) (g : Nat → PR) (N h o : Nat) : Prop := ∀ (d p : Nat) (M : dm_M) (Q : Option Value → dm_M → Prop), h ≤ d → LRs M T p false → p ≤ T.length → (∀ M' y, LRs M' T (g p).1 (g p).2.1 → ((g p).2.1 = false → y = nI (g p).2.2.2) → LrK M M' → Q (some (.int y)) M') → dm_cp d N [.ref 45, .int (nI o)] M Q
section
variable {d i n o : Nat} {x y z : Int32} {M : dm_M} {Q : Option Value → dm_M → Prop} {T : List Nat} {p : Nat} {bad : Bool} {g : Nat → PR}
theorem rb_loop {h : Nat} (hR : RdC T g 35 h o) (hd : h ≤ d) (hg : ∀ q, q ≤ T.length → GdR T q (g q)) : ∀ (k i : Nat) (a : PR) (x : Int32) (M : dm_M), i + k = 100 → GdR T p a → LRs M T a.1 a.2.1 → (a.2.1 = false → x = nI a.2.2.2) →
    (∀ M' y, LRs M' T (pA T g 38 (-2) (fun a b => a &&& b) k a).1 (pA T g 38 (-2) (fun a b => a &&& b) k a).2.1 → ((pA T g 38 (-2) (fun a b => a &&& b) k a).2.1 = false → y = nI (pA T g 38 (-2) (fun a b => a &&& b) k a).2.2.2) → LrK M M' → Q (some (.int y)) M') →
    dm_wp (d + 1) 34 8 [some (.ref 45), some (.int (nI o)), some (.int x), some (.int (nI i))] [] M Q := by
  intro k
  induction k with
  | zero =>
    intro i a x M hi ha hL hx hQ
    have e : i = 100 := by omega
    subst e
    have hq := hQ M x hL hx LrK.refl
    simp (disch := first | assumption | exact b01_01 | exact Or.inl rfl | exact Or.inr rfl | ((try simp (disch := omega) only [kd0, kd1, kd2, kd3, kd4, kd5, kd6, kd7, kd8, kd9, kd10, kd11, kd12, kd13, kd14, kd15, kd16, kd17, kd18, kd19, kd20, kd21, kd22, kd23, kd24, kd25, kd26, kd27, kd28, kd29, kd30, kd31, kd32, kd33, kd34, kd35, kd36, kd37, kd38, kd39, kd40, kd41, kd42, kd43, kd44, kd45, kd46, kd47, kd48, kd49, kd50, kd51, kd52, kd53, kd54, kd55, kd56, kd57, kd58, kd59, kd60, kd61, kd62, kd63, kd64, kd65, kd66, kd67, kd68, ln2, ln3, ln5, ln6, ln7, ln10, ln13, ln16, ln19, ln22, ln24, ln25, ln27, ln28, ln29, ln32, ln35, ln38, ln41, ln44, ln46, ln48, ln50, ln52, ln54, ln55, ln56, ln57, ln58, ln59, ln60, ln61, ln62, ln63, ln67, ln68, i0, i1, cl_nI, lt_F, le_F, eq_F, not_false_eq_true]) <;> omega) | fail) only [p34_0, p34_0n, p34_1, p34_2, p34_5, p34_6, p34_7, p34_8, p34_9, p34_11, p34_14, p34_14n, p34_15, p34_18, p34_20, p34_23, p34_23n, p34_24, p34_25, p34_28, p34_29, p34_30, p34_33, p34_34, p34_34n, p34_35, p34_36, p34_39, p34_40, p34_41, p34_44, p34_47, p34_48, ↓reduceIte, Nat.reduceAdd, Nat.reduceMul, Nat.reduceSub, i0, i1, i2, i3, i4, i5, i6, i7, i8, i9, i10, i14, i15, i16, i18, i20, i21, i23, i28, i31, i32, i33, i38, i40, i41, i48, i49, i51, i57, i60, i61, i62, i63, i97, i99, i100, i110, i124, i127, i140, i199, i200, i278, i286, i294, i394, i399, i1000, i1099, lt_T, lt_F, le_T, le_F, eq_T, eq_F, nI_add, pk_mul, pk_sub, nI_m1, cl_nI, dm_up_n1, dm_up_eq, dm_up_n2, not_true_eq_false, not_false_eq_true, if_true, if_false, true_and, and_true, false_and, and_false, true_or, or_true, false_or, or_false, Option.toList, List.cons_append, List.nil_append, b01_01, b01_T, b01_F, b01_n0, b01_n1, ite_self, pk_div, pk_rem, nI_shrA, nI_bt, nI_bt0, nI_bt1, t_hasBit, nsc, Nat.add_sub_cancel_left, Nat.add_sub_cancel]
    exact hq
  | succ k ih =>
    intro i a x M hi ha hL hx hQ
    have hN := fun (d : Nat) (Q : Option Value → dm_M → Prop) => t_next (d := d) (Q := Q) hL (by have := ha.2.1; have := hL.2.2.2.2.1; omega)
    have hE := nxC_eq (p := a.1) (bad := a.2.1) hL.2.2.2.2.2.2 (show 38 < 128 by omega)
    unfold pA at hQ
    by_cases hc : a.2.1 = false ∧ chT T a.1 = 38
    · rw [if_pos hc] at hQ
      have h2 : a.1 < T.length := chT_in (by rw [hc.2]; omega)
      have e2 := hL.2.2.1
      rw [p34_8]
      rw [hc.1] at hN hE
      simp (disch := first | assumption | exact b01_01 | exact Or.inl rfl | exact Or.inr rfl | ((try simp (disch := omega) only [kd0, kd1, kd2, kd3, kd4, kd5, kd6, kd7, kd8, kd9, kd10, kd11, kd12, kd13, kd14, kd15, kd16, kd17, kd18, kd19, kd20, kd21, kd22, kd23, kd24, kd25, kd26, kd27, kd28, kd29, kd30, kd31, kd32, kd33, kd34, kd35, kd36, kd37, kd38, kd39, kd40, kd41, kd42, kd43, kd44, kd45, kd46, kd47, kd48, kd49, kd50, kd51, kd52, kd53, kd54, kd55, kd56, kd57, kd58, kd59, kd60, kd61, kd62, kd63, kd64, kd65, kd66, kd67, kd68, ln2, ln3, ln5, ln6, ln7, ln10, ln13, ln16, ln19, ln22, ln24, ln25, ln27, ln28, ln29, ln32, ln35, ln38, ln41, ln44, ln46, ln48, ln50, ln52, ln54, ln55, ln56, ln57, ln58, ln59, ln60, ln61, ln62, ln63, ln67, ln68, i0, i1, cl_nI, lt_F, le_F, eq_F, not_false_eq_true]) <;> omega) | fail) only [p34_9, p34_11, p34_14, p34_14n, p34_15, p34_18, p34_20, p34_23, p34_23n, p34_24, p34_25, p34_28, p34_29, p34_30, p34_33, p34_34, p34_34n, p34_35, p34_36, kd0, kd1, kd2, kd3, kd4, kd5, kd6, kd7, kd8, kd9, kd10, kd11, kd12, kd13, kd14, kd15, kd16, kd17, kd18, kd19, kd20, kd21, kd22, kd23, kd24, kd25, kd26, kd27, kd28, kd29, kd30, kd31, kd32, kd33, kd34, kd35, kd36, kd37, kd38, kd39, kd40, kd41, kd42, kd43, kd44, kd45, kd46, kd47, kd48, kd49, kd50, kd51, kd52, kd53, kd54, kd55, kd56, kd57, kd58, kd59, kd60, kd61, kd62, kd63, kd64, kd65, kd66, kd67, kd68, ↓reduceIte, Nat.reduceAdd, Nat.reduceMul, Nat.reduceSub, i0, i1, i2, i3, i4, i5, i6, i7, i8, i9, i10, i14, i15, i16, i18, i20, i21, i23, i28, i31, i32, i33, i38, i40, i41, i48, i49, i51, i57, i60, i61, i62, i63, i97, i99, i100, i110, i124, i127, i140, i199, i200, i278, i286, i294, i394, i399, i1000, i1099, lt_T, lt_F, le_T, le_F, eq_T, eq_F, nI_add, pk_mul, pk_sub, nI_m1, cl_nI, dm_up_n1, dm_up_eq, dm_up_n2, not_true_eq_false, not_false_eq_true, if_true, if_false, true_and, and_true, false_and, and_false, true_or, or_true, false_or, or_false, Option.toList, List.cons_append, List.nil_append, b01_01, b01_T, b01_F, b01_n0, b01_n1, ite_self, pk_div, pk_rem, nI_shrA, nI_bt, nI_bt0, nI_bt1, t_hasBit, nsc, Nat.add_sub_cancel_left, Nat.add_sub_cancel, hN, hE, hc.2, e2]
      refine hR d (a.1 + 1) _ _ hd (by have := hL.up (p' := a.1 + 1); rw [hc.1] at this; exact this) (by omega) (fun M' y h1 hy hk => ?_)
      have hxx := hx hc.1
      have ihh := fun hy' => ih (i + 1) _ (x &&& y) M' (by omega) (pA_step cb_and (op := 38) (by omega) ha (hg _ (by omega)) hc.1) h1 hy' (fun M2 y2 l1 l2 l3 => hQ M2 y2 l1 l2 ((up45.trans hk).trans l3))
      have ihh := ihh (fun hb => by rw [hxx, hy hb]; exact nI_and _ _)
      simp (disch := first | assumption | exact b01_01 | exact Or.inl rfl | exact Or.inr rfl | ((try simp (disch := omega) only [kd0, kd1, kd2, kd3, kd4, kd5, kd6, kd7, kd8, kd9, kd10, kd11, kd12, kd13, kd14, kd15, kd16, kd17, kd18, kd19, kd20, kd21, kd22, kd23, kd24, kd25, kd26, kd27, kd28, kd29, kd30, kd31, kd32, kd33, kd34, kd35, kd36, kd37, kd38, kd39, kd40, kd41, kd42, kd43, kd44, kd45, kd46, kd47, kd48, kd49, kd50, kd51, kd52, kd53, kd54, kd55, kd56, kd57, kd58, kd59, kd60, kd61, kd62, kd63, kd64, kd65, kd66, kd67, kd68, ln2, ln3, ln5, ln6, ln7, ln10, ln13, ln16, ln19, ln22, ln24, ln25, ln27, ln28, ln29, ln32, ln35, ln38, ln41, ln44, ln46, ln48, ln50, ln52, ln54, ln55, ln56, ln57, ln58, ln59, ln60, ln61, ln62, ln63, ln67, ln68, i0, i1, cl_nI, lt_F, le_F, eq_F, not_false_eq_true]) <;> omega) | fail) only [p34_39, p34_40, p34_41, p34_44, ↓reduceIte, Nat.reduceAdd, Nat.reduceMul, Nat.reduceSub, i0, i1, i2, i3, i4, i5, i6, i7, i8, i9, i10, i14, i15, i16, i18, i20, i21, i23, i28, i31, i32, i33, i38, i40, i41, i48, i49, i51, i57, i60, i61, i62, i63, i97, i99, i100, i110, i124, i127, i140, i199, i200, i278, i286, i294, i394, i399, i1000, i1099, lt_T, lt_F, le_T, le_F, eq_T, eq_F, nI_add, pk_mul, pk_sub, nI_m1, cl_nI, dm_up_n1, dm_up_eq, dm_up_n2, not_true_eq_false, not_false_eq_true, if_true, if_false, true_and, and_true, false_and, and_false, true_or, or_true, false_or, or_false, Option.toList, List.cons_append, List.nil_append, b01_01, b01_T, b01_F, b01_n0, b01_n1, ite_self, pk_div, pk_rem, nI_shrA, nI_bt, nI_bt0, nI_bt1, t_hasBit, nsc, Nat.add_sub_cancel_left, Nat.add_sub_cancel]
      exact ihh
    · rw [if_neg hc] at hQ
      have hq := hQ M x hL hx LrK.refl
      rw [p34_8]
      simp (disch := first | assumption | exact b01_01 | exact Or.inl rfl | exact Or.inr rfl | ((try simp (disch := omega) only [kd0, kd1, kd2, kd3, kd4, kd5, kd6, kd7, kd8, kd9, kd10, kd11, kd12, kd13, kd14, kd15, kd16, kd17, kd18, kd19, kd20, kd21, kd22, kd23, kd24, kd25, kd26, kd27, kd28, kd29, kd30, kd31, kd32, kd33, kd34, kd35, kd36, kd37, kd38, kd39, kd40, kd41, kd42, kd43, kd44, kd45, kd46, kd47, kd48, kd49, kd50, kd51, kd52, kd53, kd54, kd55, kd56, kd57, kd58, kd59, kd60, kd61, kd62, kd63, kd64, kd65, kd66, kd67, kd68, ln2, ln3, ln5, ln6, ln7, ln10, ln13, ln16, ln19, ln22, ln24, ln25, ln27, ln28, ln29, ln32, ln35, ln38, ln41, ln44, ln46, ln48, ln50, ln52, ln54, ln55, ln56, ln57, ln58, ln59, ln60, ln61, ln62, ln63, ln67, ln68, i0, i1, cl_nI, lt_F, le_F, eq_F, not_false_eq_true]) <;> omega) | fail) only [p34_9, p34_11, p34_14, p34_14n, p34_15, p34_18, p34_20, p34_47, p34_48, kd0, kd1, kd2, kd3, kd4, kd5, kd6, kd7, kd8, kd9, kd10, kd11, kd12, kd13, kd14, kd15, kd16, kd17, kd18, kd19, kd20, kd21, kd22, kd23, kd24, kd25, kd26, kd27, kd28, kd29, kd30, kd31, kd32, kd33, kd34, kd35, kd36, kd37, kd38, kd39, kd40, kd41, kd42, kd43, kd44, kd45, kd46, kd47, kd48, kd49, kd50, kd51, kd52, kd53, kd54, kd55, kd56, kd57, kd58, kd59, kd60, kd61, kd62, kd63, kd64, kd65, kd66, kd67, kd68, ↓reduceIte, Nat.reduceAdd, Nat.reduceMul, Nat.reduceSub, i0, i1, i2, i3, i4, i5, i6, i7, i8, i9, i10, i14, i15, i16, i18, i20, i21, i23, i28, i31, i32, i33, i38, i40, i41, i48, i49, i51, i57, i60, i61, i62, i63, i97, i99, i100, i110, i124, i127, i140, i199, i200, i278, i286, i294, i394, i399, i1000, i1099, lt_T, lt_F, le_T, le_F, eq_T, eq_F, nI_add, pk_mul, pk_sub, nI_m1, cl_nI, dm_up_n1, dm_up_eq, dm_up_n2, not_true_eq_false, not_false_eq_true, if_true, if_false, true_and, and_true, false_and, and_false, true_or, or_true, false_or, or_false, Option.toList, List.cons_append, List.nil_append, b01_01, b01_T, b01_F, b01_n0, b01_n1, ite_self, pk_div, pk_rem, nI_shrA, nI_bt, nI_bt0, nI_bt1, t_hasBit, nsc, Nat.add_sub_cancel_left, Nat.add_sub_cancel, hN, hE, hc]
      exact hq
theorem t_readBoth {h : Nat} (hR : RdC T g 35 h o) (hg : ∀ q, q ≤ T.length → GdR T q (g q)) : RdC T (pB T g) 34 (h + 1) o := by
  intro d' p M Q hd hL hp hQ
  obtain ⟨d, rfl⟩ : ∃ d, d' = d + 1 := ⟨d' - 1, by omega⟩
  rw [e34]
  simp (disch := first | assumption | exact b01_01 | exact Or.inl rfl | exact Or.inr rfl | ((try simp (disch := omega) only [kd0, kd1, kd2, kd3, kd4, kd5, kd6, kd7, kd8, kd9, kd10, kd11, kd12, kd13, kd14, kd15, kd16, kd17, kd18, kd19, kd20, kd21, kd22, kd23, kd24, kd25, kd26, kd27, kd28, kd29, kd30, kd31, kd32, kd33, kd34, kd35, kd36, kd37, kd38, kd39, kd40, kd41, kd42, kd43, kd44, kd45, kd46, kd47, kd48, kd49, kd50, kd51, kd52, kd53, kd54, kd55, kd56, kd57, kd58, kd59, kd60, kd61, kd62, kd63, kd64, kd65, kd66, kd67, kd68, ln2, ln3, ln5, ln6, ln7, ln10, ln13, ln16, ln19, ln22, ln24, ln25, ln27, ln28, ln29, ln32, ln35, ln38, ln41, ln44, ln46, ln48, ln50, ln52, ln54, ln55, ln56, ln57, ln58, ln59, ln60, ln61, ln62, ln63, ln67, ln68, i0, i1, cl_nI, lt_F, le_F, eq_F, not_false_eq_true]) <;> omega) | fail) only [p34_0, p34_0n, p34_1, p34_2, kd0, kd1, kd2, kd3, kd4, kd5, kd6, kd7, kd8, kd9, kd10, kd11, kd12, kd13, kd14, kd15, kd16, kd17, kd18, kd19, kd20, kd21, kd22, kd23, kd24, kd25, kd26, kd27, kd28, kd29, kd30, kd31, kd32, kd33, kd34, kd35, kd36, kd37, kd38, kd39, kd40, kd41, kd42, kd43, kd44, kd45, kd46, kd47, kd48, kd49, kd50, kd51, kd52, kd53, kd54, kd55, kd56, kd57, kd58, kd59, kd60, kd61, kd62, kd63, kd64, kd65, kd66, kd67, kd68, ↓reduceIte, Nat.reduceAdd, Nat.reduceMul, Nat.reduceSub, i0, i1, i2, i3, i4, i5, i6, i7, i8, i9, i10, i14, i15, i16, i18, i20, i21, i23, i28, i31, i32, i33, i38, i40, i41, i48, i49, i51, i57, i60, i61, i62, i63, i97, i99, i100, i110, i124, i127, i140, i199, i200, i278, i286, i294, i394, i399, i1000, i1099, lt_T, lt_F, le_T, le_F, eq_T, eq_F, nI_add, pk_mul, pk_sub, nI_m1, cl_nI, dm_up_n1, dm_up_eq, dm_up_n2, not_true_eq_false, not_false_eq_true, if_true, if_false, true_and, and_true, false_and, and_false, true_or, or_true, false_or, or_false, Option.toList, List.cons_append, List.nil_append, b01_01, b01_T, b01_F, b01_n0, b01_n1, ite_self, pk_div, pk_rem, nI_shrA, nI_bt, nI_bt0, nI_bt1, t_hasBit, nsc, Nat.add_sub_cancel_left, Nat.add_sub_cancel]
  refine hR d p M _ (by omega) hL hp (fun M' y h1 hy hk => ?_)
  have hl := rb_loop (d := d) (Q := Q) hR (by omega) hg 100 0 (g p) y M' rfl (hg p hp) h1 hy (fun M2 y2 l1 l2 l3 => hQ M2 y2 l1 l2 (hk.trans l3))
  simp (disch := first | assumption | exact b01_01 | exact Or.inl rfl | exact Or.inr rfl | ((try simp (disch := omega) only [kd0, kd1, kd2, kd3, kd4, kd5, kd6, kd7, kd8, kd9, kd10, kd11, kd12, kd13, kd14, kd15, kd16, kd17, kd18, kd19, kd20, kd21, kd22, kd23, kd24, kd25, kd26, kd27, kd28, kd29, kd30, kd31, kd32, kd33, kd34, kd35, kd36, kd37, kd38, kd39, kd40, kd41, kd42, kd43, kd44, kd45, kd46, kd47, kd48, kd49, kd50, kd51, kd52, kd53, kd54, kd55, kd56, kd57, kd58, kd59, kd60, kd61, kd62, kd63, kd64, kd65, kd66, kd67, kd68, ln2, ln3, ln5, ln6, ln7, ln10, ln13, ln16, ln19, ln22, ln24, ln25, ln27, ln28, ln29, ln32, ln35, ln38, ln41, ln44, ln46, ln48, ln50, ln52, ln54, ln55, ln56, ln57, ln58, ln59, ln60, ln61, ln62, ln63, ln67, ln68, i0, i1, cl_nI, lt_F, le_F, eq_F, not_false_eq_true]) <;> omega) | fail) only [p34_5, p34_6, p34_7, ↓reduceIte, Nat.reduceAdd, Nat.reduceMul, Nat.reduceSub, i0, i1, i2, i3, i4, i5, i6, i7, i8, i9, i10, i14, i15, i16, i18, i20, i21, i23, i28, i31, i32, i33, i38, i40, i41, i48, i49, i51, i57, i60, i61, i62, i63, i97, i99, i100, i110, i124, i127, i140, i199, i200, i278, i286, i294, i394, i399, i1000, i1099, lt_T, lt_F, le_T, le_F, eq_T, eq_F, nI_add, pk_mul, pk_sub, nI_m1, cl_nI, dm_up_n1, dm_up_eq, dm_up_n2, not_true_eq_false, not_false_eq_true, if_true, if_false, true_and, and_true, false_and, and_false, true_or, or_true, false_or, or_false, Option.toList, List.cons_append, List.nil_append, b01_01, b01_T, b01_F, b01_n0, b01_n1, ite_self, pk_div, pk_rem, nI_shrA, nI_bt, nI_bt0, nI_bt1, t_hasBit, nsc, Nat.add_sub_cancel_left, Nat.add_sub_cancel]
  exact hl
theorem re_loop {h : Nat} (hR : RdC T g 34 h o) (hd : h ≤ d) (hg : ∀ q, q ≤ T.length → GdR T q (g q)) : ∀ (k i : Nat) (a : PR) (x : Int32) (M : dm_M), i + k = 100 → GdR T p a → LRs M T a.1 a.2.1 → (a.2.1 = false → x = nI a.2.2.2) →
    (∀ M' y, LRs M' T (pA T g 124 (-3) (fun a b => a ||| b) k a).1 (pA T g 124 (-3) (fun a b => a ||| b) k a).2.1 → ((pA T g 124 (-3) (fun a b => a ||| b) k a).2.1 = false → y = nI (pA T g 124 (-3) (fun a b => a ||| b) k a).2.2.2) → LrK M M' → Q (some (.int y)) M') →
    dm_wp (d + 1) 33 8 [some (.ref 45), some (.int (nI o)), some (.int x), some (.int (nI i))] [] M Q := by
  intro k
  induction k with
  | zero =>
    intro i a x M hi ha hL hx hQ
    have e : i = 100 := by omega
    subst e
    have hq := hQ M x hL hx LrK.refl
    simp (disch := first | assumption | exact b01_01 | exact Or.inl rfl | exact Or.inr rfl | ((try simp (disch := omega) only [kd0, kd1, kd2, kd3, kd4, kd5, kd6, kd7, kd8, kd9, kd10, kd11, kd12, kd13, kd14, kd15, kd16, kd17, kd18, kd19, kd20, kd21, kd22, kd23, kd24, kd25, kd26, kd27, kd28, kd29, kd30, kd31, kd32, kd33, kd34, kd35, kd36, kd37, kd38, kd39, kd40, kd41, kd42, kd43, kd44, kd45, kd46, kd47, kd48, kd49, kd50, kd51, kd52, kd53, kd54, kd55, kd56, kd57, kd58, kd59, kd60, kd61, kd62, kd63, kd64, kd65, kd66, kd67, kd68, ln2, ln3, ln5, ln6, ln7, ln10, ln13, ln16, ln19, ln22, ln24, ln25, ln27, ln28, ln29, ln32, ln35, ln38, ln41, ln44, ln46, ln48, ln50, ln52, ln54, ln55, ln56, ln57, ln58, ln59, ln60, ln61, ln62, ln63, ln67, ln68, i0, i1, cl_nI, lt_F, le_F, eq_F, not_false_eq_true]) <;> omega) | fail) only [p33_0, p33_0n, p33_1, p33_2, p33_5, p33_6, p33_7, p33_8, p33_9, p33_11, p33_14, p33_14n, p33_15, p33_18, p33_20, p33_23, p33_23n, p33_24, p33_25, p33_28, p33_29, p33_30, p33_33, p33_34, p33_34n, p33_35, p33_36, p33_39, p33_40, p33_41, p33_44, p33_47, p33_48, ↓reduceIte, Nat.reduceAdd, Nat.reduceMul, Nat.reduceSub, i0, i1, i2, i3, i4, i5, i6, i7, i8, i9, i10, i14, i15, i16, i18, i20, i21, i23, i28, i31, i32, i33, i38, i40, i41, i48, i49, i51, i57, i60, i61, i62, i63, i97, i99, i100, i110, i124, i127, i140, i199, i200, i278, i286, i294, i394, i399, i1000, i1099, lt_T, lt_F, le_T, le_F, eq_T, eq_F, nI_add, pk_mul, pk_sub, nI_m1, cl_nI, dm_up_n1, dm_up_eq, dm_up_n2, not_true_eq_false, not_false_eq_true, if_true, if_false, true_and, and_true, false_and, and_false, true_or, or_true, false_or, or_false, Option.toList, List.cons_append, List.nil_append, b01_01, b01_T, b01_F, b01_n0, b01_n1, ite_self, pk_div, pk_rem, nI_shrA, nI_bt, nI_bt0, nI_bt1, t_hasBit, nsc, Nat.add_sub_cancel_left, Nat.add_sub_cancel]
    exact hq
  | succ k ih =>
    intro i a x M hi ha hL hx hQ
    have hN := fun (d : Nat) (Q : Option Value → dm_M → Prop) => t_next (d := d) (Q := Q) hL (by have := ha.2.1; have := hL.2.2.2.2.1; omega)
    have hE := nxC_eq (p := a.1) (bad := a.2.1) hL.2.2.2.2.2.2 (show 124 < 128 by omega)
    unfold pA at hQ
    by_cases hc : a.2.1 = false ∧ chT T a.1 = 124
    · rw [if_pos hc] at hQ
      have h2 : a.1 < T.length := chT_in (by rw [hc.2]; omega)
      have e2 := hL.2.2.1
      rw [p33_8]
      rw [hc.1] at hN hE
      simp (disch := first | assumption | exact b01_01 | exact Or.inl rfl | exact Or.inr rfl | ((try simp (disch := omega) only [kd0, kd1, kd2, kd3, kd4, kd5, kd6, kd7, kd8, kd9, kd10, kd11, kd12, kd13, kd14, kd15, kd16, kd17, kd18, kd19, kd20, kd21, kd22, kd23, kd24, kd25, kd26, kd27, kd28, kd29, kd30, kd31, kd32, kd33, kd34, kd35, kd36, kd37, kd38, kd39, kd40, kd41, kd42, kd43, kd44, kd45, kd46, kd47, kd48, kd49, kd50, kd51, kd52, kd53, kd54, kd55, kd56, kd57, kd58, kd59, kd60, kd61, kd62, kd63, kd64, kd65, kd66, kd67, kd68, ln2, ln3, ln5, ln6, ln7, ln10, ln13, ln16, ln19, ln22, ln24, ln25, ln27, ln28, ln29, ln32, ln35, ln38, ln41, ln44, ln46, ln48, ln50, ln52, ln54, ln55, ln56, ln57, ln58, ln59, ln60, ln61, ln62, ln63, ln67, ln68, i0, i1, cl_nI, lt_F, le_F, eq_F, not_false_eq_true]) <;> omega) | fail) only [p33_9, p33_11, p33_14, p33_14n, p33_15, p33_18, p33_20, p33_23, p33_23n, p33_24, p33_25, p33_28, p33_29, p33_30, p33_33, p33_34, p33_34n, p33_35, p33_36, kd0, kd1, kd2, kd3, kd4, kd5, kd6, kd7, kd8, kd9, kd10, kd11, kd12, kd13, kd14, kd15, kd16, kd17, kd18, kd19, kd20, kd21, kd22, kd23, kd24, kd25, kd26, kd27, kd28, kd29, kd30, kd31, kd32, kd33, kd34, kd35, kd36, kd37, kd38, kd39, kd40, kd41, kd42, kd43, kd44, kd45, kd46, kd47, kd48, kd49, kd50, kd51, kd52, kd53, kd54, kd55, kd56, kd57, kd58, kd59, kd60, kd61, kd62, kd63, kd64, kd65, kd66, kd67, kd68, ↓reduceIte, Nat.reduceAdd, Nat.reduceMul, Nat.reduceSub, i0, i1, i2, i3, i4, i5, i6, i7, i8, i9, i10, i14, i15, i16, i18, i20, i21, i23, i28, i31, i32, i33, i38, i40, i41, i48, i49, i51, i57, i60, i61, i62, i63, i97, i99, i100, i110, i124, i127, i140, i199, i200, i278, i286, i294, i394, i399, i1000, i1099, lt_T, lt_F, le_T, le_F, eq_T, eq_F, nI_add, pk_mul, pk_sub, nI_m1, cl_nI, dm_up_n1, dm_up_eq, dm_up_n2, not_true_eq_false, not_false_eq_true, if_true, if_false, true_and, and_true, false_and, and_false, true_or, or_true, false_or, or_false, Option.toList, List.cons_append, List.nil_append, b01_01, b01_T, b01_F, b01_n0, b01_n1, ite_self, pk_div, pk_rem, nI_shrA, nI_bt, nI_bt0, nI_bt1, t_hasBit, nsc, Nat.add_sub_cancel_left, Nat.add_sub_cancel, hN, hE, hc.2, e2]
      refine hR d (a.1 + 1) _ _ hd (by have := hL.up (p' := a.1 + 1); rw [hc.1] at this; exact this) (by omega) (fun M' y h1 hy hk => ?_)
      have hxx := hx hc.1
      have ihh := fun hy' => ih (i + 1) _ (x ||| y) M' (by omega) (pA_step cb_or (op := 124) (by omega) ha (hg _ (by omega)) hc.1) h1 hy' (fun M2 y2 l1 l2 l3 => hQ M2 y2 l1 l2 ((up45.trans hk).trans l3))
      have ihh := ihh (fun hb => by rw [hxx, hy hb]; exact nI_or _ _)
      simp (disch := first | assumption | exact b01_01 | exact Or.inl rfl | exact Or.inr rfl | ((try simp (disch := omega) only [kd0, kd1, kd2, kd3, kd4, kd5, kd6, kd7, kd8, kd9, kd10, kd11, kd12, kd13, kd14, kd15, kd16, kd17, kd18, kd19, kd20, kd21, kd22, kd23, kd24, kd25, kd26, kd27, kd28, kd29, kd30, kd31, kd32, kd33, kd34, kd35, kd36, kd37, kd38, kd39, kd40, kd41, kd42, kd43, kd44, kd45, kd46, kd47, kd48, kd49, kd50, kd51, kd52, kd53, kd54, kd55, kd56, kd57, kd58, kd59, kd60, kd61, kd62, kd63, kd64, kd65, kd66, kd67, kd68, ln2, ln3, ln5, ln6, ln7, ln10, ln13, ln16, ln19, ln22, ln24, ln25, ln27, ln28, ln29, ln32, ln35, ln38, ln41, ln44, ln46, ln48, ln50, ln52, ln54, ln55, ln56, ln57, ln58, ln59, ln60, ln61, ln62, ln63, ln67, ln68, i0, i1, cl_nI, lt_F, le_F, eq_F, not_false_eq_true]) <;> omega) | fail) only [p33_39, p33_40, p33_41, p33_44, ↓reduceIte, Nat.reduceAdd, Nat.reduceMul, Nat.reduceSub, i0, i1, i2, i3, i4, i5, i6, i7, i8, i9, i10, i14, i15, i16, i18, i20, i21, i23, i28, i31, i32, i33, i38, i40, i41, i48, i49, i51, i57, i60, i61, i62, i63, i97, i99, i100, i110, i124, i127, i140, i199, i200, i278, i286, i294, i394, i399, i1000, i1099, lt_T, lt_F, le_T, le_F, eq_T, eq_F, nI_add, pk_mul, pk_sub, nI_m1, cl_nI, dm_up_n1, dm_up_eq, dm_up_n2, not_true_eq_false, not_false_eq_true, if_true, if_false, true_and, and_true, false_and, and_false, true_or, or_true, false_or, or_false, Option.toList, List.cons_append, List.nil_append, b01_01, b01_T, b01_F, b01_n0, b01_n1, ite_self, pk_div, pk_rem, nI_shrA, nI_bt, nI_bt0, nI_bt1, t_hasBit, nsc, Nat.add_sub_cancel_left, Nat.add_sub_cancel]
      exact ihh
    · rw [if_neg hc] at hQ
      have hq := hQ M x hL hx LrK.refl
      rw [p33_8]
      simp (disch := first | assumption | exact b01_01 | exact Or.inl rfl | exact Or.inr rfl | ((try simp (disch := omega) only [kd0, kd1, kd2, kd3, kd4, kd5, kd6, kd7, kd8, kd9, kd10, kd11, kd12, kd13, kd14, kd15, kd16, kd17, kd18, kd19, kd20, kd21, kd22, kd23, kd24, kd25, kd26, kd27, kd28, kd29, kd30, kd31, kd32, kd33, kd34, kd35, kd36, kd37, kd38, kd39, kd40, kd41, kd42, kd43, kd44, kd45, kd46, kd47, kd48, kd49, kd50, kd51, kd52, kd53, kd54, kd55, kd56, kd57, kd58, kd59, kd60, kd61, kd62, kd63, kd64, kd65, kd66, kd67, kd68, ln2, ln3, ln5, ln6, ln7, ln10, ln13, ln16, ln19, ln22, ln24, ln25, ln27, ln28, ln29, ln32, ln35, ln38, ln41, ln44, ln46, ln48, ln50, ln52, ln54, ln55, ln56, ln57, ln58, ln59, ln60, ln61, ln62, ln63, ln67, ln68, i0, i1, cl_nI, lt_F, le_F, eq_F, not_false_eq_true]) <;> omega) | fail) only [p33_9, p33_11, p33_14, p33_14n, p33_15, p33_18, p33_20, p33_47, p33_48, kd0, kd1, kd2, kd3, kd4, kd5, kd6, kd7, kd8, kd9, kd10, kd11, kd12, kd13, kd14, kd15, kd16, kd17, kd18, kd19, kd20, kd21, kd22, kd23, kd24, kd25, kd26, kd27, kd28, kd29, kd30, kd31, kd32, kd33, kd34, kd35, kd36, kd37, kd38, kd39, kd40, kd41, kd42, kd43, kd44, kd45, kd46, kd47, kd48, kd49, kd50, kd51, kd52, kd53, kd54, kd55, kd56, kd57, kd58, kd59, kd60, kd61, kd62, kd63, kd64, kd65, kd66, kd67, kd68, ↓reduceIte, Nat.reduceAdd, Nat.reduceMul, Nat.reduceSub, i0, i1, i2, i3, i4, i5, i6, i7, i8, i9, i10, i14, i15, i16, i18, i20, i21, i23, i28, i31, i32, i33, i38, i40, i41, i48, i49, i51, i57, i60, i61, i62, i63, i97, i99, i100, i110, i124, i127, i140, i199, i200, i278, i286, i294, i394, i399, i1000, i1099, lt_T, lt_F, le_T, le_F, eq_T, eq_F, nI_add, pk_mul, pk_sub, nI_m1, cl_nI, dm_up_n1, dm_up_eq, dm_up_n2, not_true_eq_false, not_false_eq_true, if_true, if_false, true_and, and_true, false_and, and_false, true_or, or_true, false_or, or_false, Option.toList, List.cons_append, List.nil_append, b01_01, b01_T, b01_F, b01_n0, b01_n1, ite_self, pk_div, pk_rem, nI_shrA, nI_bt, nI_bt0, nI_bt1, t_hasBit, nsc, Nat.add_sub_cancel_left, Nat.add_sub_cancel, hN, hE, hc]
      exact hq
theorem t_readEither {h : Nat} (hR : RdC T g 34 h o) (hg : ∀ q, q ≤ T.length → GdR T q (g q)) : RdC T (fun p => pA T g 124 (-3) (fun a b => a ||| b) 100 (g p)) 33 (h + 1) o := by
  intro d' p M Q hd hL hp hQ
  obtain ⟨d, rfl⟩ : ∃ d, d' = d + 1 := ⟨d' - 1, by omega⟩
  rw [e33]
  simp (disch := first | assumption | exact b01_01 | exact Or.inl rfl | exact Or.inr rfl | ((try simp (disch := omega) only [kd0, kd1, kd2, kd3, kd4, kd5, kd6, kd7, kd8, kd9, kd10, kd11, kd12, kd13, kd14, kd15, kd16, kd17, kd18, kd19, kd20, kd21, kd22, kd23, kd24, kd25, kd26, kd27, kd28, kd29, kd30, kd31, kd32, kd33, kd34, kd35, kd36, kd37, kd38, kd39, kd40, kd41, kd42, kd43, kd44, kd45, kd46, kd47, kd48, kd49, kd50, kd51, kd52, kd53, kd54, kd55, kd56, kd57, kd58, kd59, kd60, kd61, kd62, kd63, kd64, kd65, kd66, kd67, kd68, ln2, ln3, ln5, ln6, ln7, ln10, ln13, ln16, ln19, ln22, ln24, ln25, ln27, ln28, ln29, ln32, ln35, ln38, ln41, ln44, ln46, ln48, ln50, ln52, ln54, ln55, ln56, ln57, ln58, ln59, ln60, ln61, ln62, ln63, ln67, ln68, i0, i1, cl_nI, lt_F, le_F, eq_F, not_false_eq_true]) <;> omega) | fail) only [p33_0, p33_0n, p33_1, p33_2, kd0, kd1, kd2, kd3, kd4, kd5, kd6, kd7, kd8, kd9, kd10, kd11, kd12, kd13, kd14, kd15, kd16, kd17, kd18, kd19, kd20, kd21, kd22, kd23, kd24, kd25, kd26, kd27, kd28, kd29, kd30, kd31, kd32, kd33, kd34, kd35, kd36, kd37, kd38, kd39, kd40, kd41, kd42, kd43, kd44, kd45, kd46, kd47, kd48, kd49, kd50, kd51, kd52, kd53, kd54, kd55, kd56, kd57, kd58, kd59, kd60, kd61, kd62, kd63, kd64, kd65, kd66, kd67, kd68, ↓reduceIte, Nat.reduceAdd, Nat.reduceMul, Nat.reduceSub, i0, i1, i2, i3, i4, i5, i6, i7, i8, i9, i10, i14, i15, i16, i18, i20, i21, i23, i28, i31, i32, i33, i38, i40, i41, i48, i49, i51, i57, i60, i61, i62, i63, i97, i99, i100, i110, i124, i127, i140, i199, i200, i278, i286, i294, i394, i399, i1000, i1099, lt_T, lt_F, le_T, le_F, eq_T, eq_F, nI_add, pk_mul, pk_sub, nI_m1, cl_nI, dm_up_n1, dm_up_eq, dm_up_n2, not_true_eq_false, not_false_eq_true, if_true, if_false, true_and, and_true, false_and, and_false, true_or, or_true, false_or, or_false, Option.toList, List.cons_append, List.nil_append, b01_01, b01_T, b01_F, b01_n0, b01_n1, ite_self, pk_div, pk_rem, nI_shrA, nI_bt, nI_bt0, nI_bt1, t_hasBit, nsc, Nat.add_sub_cancel_left, Nat.add_sub_cancel]
  refine hR d p M _ (by omega) hL hp (fun M' y h1 hy hk => ?_)
  have hl := re_loop (d := d) (Q := Q) hR (by omega) hg 100 0 (g p) y M' rfl (hg p hp) h1 hy (fun M2 y2 l1 l2 l3 => hQ M2 y2 l1 l2 (hk.trans l3))
  simp (disch := first | assumption | exact b01_01 | exact Or.inl rfl | exact Or.inr rfl | ((try simp (disch := omega) only [kd0, kd1, kd2, kd3, kd4, kd5, kd6, kd7, kd8, kd9, kd10, kd11, kd12, kd13, kd14, kd15, kd16, kd17, kd18, kd19, kd20, kd21, kd22, kd23, kd24, kd25, kd26, kd27, kd28, kd29, kd30, kd31, kd32, kd33, kd34, kd35, kd36, kd37, kd38, kd39, kd40, kd41, kd42, kd43, kd44, kd45, kd46, kd47, kd48, kd49, kd50, kd51, kd52, kd53, kd54, kd55, kd56, kd57, kd58, kd59, kd60, kd61, kd62, kd63, kd64, kd65, kd66, kd67, kd68, ln2, ln3, ln5, ln6, ln7, ln10, ln13, ln16, ln19, ln22, ln24, ln25, ln27, ln28, ln29, ln32, ln35, ln38, ln41, ln44, ln46, ln48, ln50, ln52, ln54, ln55, ln56, ln57, ln58, ln59, ln60, ln61, ln62, ln63, ln67, ln68, i0, i1, cl_nI, lt_F, le_F, eq_F, not_false_eq_true]) <;> omega) | fail) only [p33_5, p33_6, p33_7, ↓reduceIte, Nat.reduceAdd, Nat.reduceMul, Nat.reduceSub, i0, i1, i2, i3, i4, i5, i6, i7, i8, i9, i10, i14, i15, i16, i18, i20, i21, i23, i28, i31, i32, i33, i38, i40, i41, i48, i49, i51, i57, i60, i61, i62, i63, i97, i99, i100, i110, i124, i127, i140, i199, i200, i278, i286, i294, i394, i399, i1000, i1099, lt_T, lt_F, le_T, le_F, eq_T, eq_F, nI_add, pk_mul, pk_sub, nI_m1, cl_nI, dm_up_n1, dm_up_eq, dm_up_n2, not_true_eq_false, not_false_eq_true, if_true, if_false, true_and, and_true, false_and, and_false, true_or, or_true, false_or, or_false, Option.toList, List.cons_append, List.nil_append, b01_01, b01_T, b01_F, b01_n0, b01_n1, ite_self, pk_div, pk_rem, nI_shrA, nI_bt, nI_bt0, nI_bt1, t_hasBit, nsc, Nat.add_sub_cancel_left, Nat.add_sub_cancel]
  exact hl
theorem nxC_is (h : LRs M T p false) {c : Nat} (hc : c < 128) (he : chT T p = c) : nxC T p false = nI c := nxC_in h.2.2.2.2.2.2 he hc
/-- F, where none is left open -/
theorem t_readOne (hT : ∀ t ∈ T, t < 128) : ∀ r, r ≤ 5 → RdC T (pF T r) 35 (3 * r + 4) (5 - r) := by
  intro r
  induction r with
  | zero =>
    intro _ d' p M Q hd hL hp hQ
    obtain ⟨d, rfl⟩ : ∃ d, d' = d + 3 + 1 := ⟨d' - 4, by omega⟩
    have hN := fun (d : Nat) (Q : Option Value → dm_M → Prop) => t_next (d := d) (Q := Q) hL (by have := hL.2.2.2.2.1; omega)
    have hE1 := nxC_eq (p := p) (bad := false) hT (show 33 < 128 by omega)
    have hE2 := nxC_eq (p := p) (bad := false) hT (show 40 < 128 by omega)
    have hF := fun (d : Nat) (M : dm_M) (Q : Option Value → dm_M → Prop) => t_fault (d := d) (M := M) (Q := Q)
    unfold pF at hQ
    rw [e35]
    by_cases hc : chT T p = 33 ∨ chT T p = 40
    · rw [if_pos hc] at hQ
      have hq := hQ (dm_up M 45 3 (nI 1)) (nI 0) hL.flt (fun z => absurd (show true = false from z) (by decide)) up45
      rcases hc with hc | hc
      · simp (disch := first | assumption | exact b01_01 | exact Or.inl rfl | exact Or.inr rfl | ((try simp (disch := omega) only [kd0, kd1, kd2, kd3, kd4, kd5, kd6, kd7, kd8, kd9, kd10, kd11, kd12, kd13, kd14, kd15, kd16, kd17, kd18, kd19, kd20, kd21, kd22, kd23, kd24, kd25, kd26, kd27, kd28, kd29, kd30, kd31, kd32, kd33, kd34, kd35, kd36, kd37, kd38, kd39, kd40, kd41, kd42, kd43, kd44, kd45, kd46, kd47, kd48, kd49, kd50, kd51, kd52, kd53, kd54, kd55, kd56, kd57, kd58, kd59, kd60, kd61, kd62, kd63, kd64, kd65, kd66, kd67, kd68, ln2, ln3, ln5, ln6, ln7, ln10, ln13, ln16, ln19, ln22, ln24, ln25, ln27, ln28, ln29, ln32, ln35, ln38, ln41, ln44, ln46, ln48, ln50, ln52, ln54, ln55, ln56, ln57, ln58, ln59, ln60, ln61, ln62, ln63, ln67, ln68, i0, i1, cl_nI, lt_F, le_F, eq_F, not_false_eq_true]) <;> omega) | fail) only [p35_0, p35_0n, p35_1, p35_4, p35_5, p35_6, p35_8, p35_11, p35_12, p35_14, p35_17, p35_17n, p35_18, p35_21, p35_22, p35_23, p35_24, p35_27, p35_27n, p35_28, p35_31, kd0, kd1, kd2, kd3, kd4, kd5, kd6, kd7, kd8, kd9, kd10, kd11, kd12, kd13, kd14, kd15, kd16, kd17, kd18, kd19, kd20, kd21, kd22, kd23, kd24, kd25, kd26, kd27, kd28, kd29, kd30, kd31, kd32, kd33, kd34, kd35, kd36, kd37, kd38, kd39, kd40, kd41, kd42, kd43, kd44, kd45, kd46, kd47, kd48, kd49, kd50, kd51, kd52, kd53, kd54, kd55, kd56, kd57, kd58, kd59, kd60, kd61, kd62, kd63, kd64, kd65, kd66, kd67, kd68, ↓reduceIte, Nat.reduceAdd, Nat.reduceMul, Nat.reduceSub, i0, i1, i2, i3, i4, i5, i6, i7, i8, i9, i10, i14, i15, i16, i18, i20, i21, i23, i28, i31, i32, i33, i38, i40, i41, i48, i49, i51, i57, i60, i61, i62, i63, i97, i99, i100, i110, i124, i127, i140, i199, i200, i278, i286, i294, i394, i399, i1000, i1099, lt_T, lt_F, le_T, le_F, eq_T, eq_F, nI_add, pk_mul, pk_sub, nI_m1, cl_nI, dm_up_n1, dm_up_eq, dm_up_n2, not_true_eq_false, not_false_eq_true, if_true, if_false, true_and, and_true, false_and, and_false, true_or, or_true, false_or, or_false, Option.toList, List.cons_append, List.nil_append, b01_01, b01_T, b01_F, b01_n0, b01_n1, ite_self, pk_div, pk_rem, nI_shrA, nI_bt, nI_bt0, nI_bt1, t_hasBit, nsc, Nat.add_sub_cancel_left, Nat.add_sub_cancel, hN, hE1, hE2, hc, hF]
        exact hq
      · simp (disch := first | assumption | exact b01_01 | exact Or.inl rfl | exact Or.inr rfl | ((try simp (disch := omega) only [kd0, kd1, kd2, kd3, kd4, kd5, kd6, kd7, kd8, kd9, kd10, kd11, kd12, kd13, kd14, kd15, kd16, kd17, kd18, kd19, kd20, kd21, kd22, kd23, kd24, kd25, kd26, kd27, kd28, kd29, kd30, kd31, kd32, kd33, kd34, kd35, kd36, kd37, kd38, kd39, kd40, kd41, kd42, kd43, kd44, kd45, kd46, kd47, kd48, kd49, kd50, kd51, kd52, kd53, kd54, kd55, kd56, kd57, kd58, kd59, kd60, kd61, kd62, kd63, kd64, kd65, kd66, kd67, kd68, ln2, ln3, ln5, ln6, ln7, ln10, ln13, ln16, ln19, ln22, ln24, ln25, ln27, ln28, ln29, ln32, ln35, ln38, ln41, ln44, ln46, ln48, ln50, ln52, ln54, ln55, ln56, ln57, ln58, ln59, ln60, ln61, ln62, ln63, ln67, ln68, i0, i1, cl_nI, lt_F, le_F, eq_F, not_false_eq_true]) <;> omega) | fail) only [p35_0, p35_0n, p35_1, p35_4, p35_5, p35_6, p35_8, p35_11, p35_12, p35_14, p35_17, p35_17n, p35_18, p35_21, p35_22, p35_23, p35_24, p35_27, p35_27n, p35_28, p35_31, kd0, kd1, kd2, kd3, kd4, kd5, kd6, kd7, kd8, kd9, kd10, kd11, kd12, kd13, kd14, kd15, kd16, kd17, kd18, kd19, kd20, kd21, kd22, kd23, kd24, kd25, kd26, kd27, kd28, kd29, kd30, kd31, kd32, kd33, kd34, kd35, kd36, kd37, kd38, kd39, kd40, kd41, kd42, kd43, kd44, kd45, kd46, kd47, kd48, kd49, kd50, kd51, kd52, kd53, kd54, kd55, kd56, kd57, kd58, kd59, kd60, kd61, kd62, kd63, kd64, kd65, kd66, kd67, kd68, ↓reduceIte, Nat.reduceAdd, Nat.reduceMul, Nat.reduceSub, i0, i1, i2, i3, i4, i5, i6, i7, i8, i9, i10, i14, i15, i16, i18, i20, i21, i23, i28, i31, i32, i33, i38, i40, i41, i48, i49, i51, i57, i60, i61, i62, i63, i97, i99, i100, i110, i124, i127, i140, i199, i200, i278, i286, i294, i394, i399, i1000, i1099, lt_T, lt_F, le_T, le_F, eq_T, eq_F, nI_add, pk_mul, pk_sub, nI_m1, cl_nI, dm_up_n1, dm_up_eq, dm_up_n2, not_true_eq_false, not_false_eq_true, if_true, if_false, true_and, and_true, false_and, and_false, true_or, or_true, false_or, or_false, Option.toList, List.cons_append, List.nil_append, b01_01, b01_T, b01_F, b01_n0, b01_n1, ite_self, pk_div, pk_rem, nI_shrA, nI_bt, nI_bt0, nI_bt1, t_hasBit, nsc, Nat.add_sub_cancel_left, Nat.add_sub_cancel, hN, hE1, hE2, hc, hF]
        exact hq
    · rw [if_neg hc] at hQ
      have c1 : ¬ chT T p = 33 := fun z => hc (Or.inl z)
      have c2 : ¬ chT T p = 40 := fun z => hc (Or.inr z)
      simp (disch := first | assumption | exact b01_01 | exact Or.inl rfl | exact Or.inr rfl | ((try simp (disch := omega) only [kd0, kd1, kd2, kd3, kd4, kd5, kd6, kd7, kd8, kd9, kd10, kd11, kd12, kd13, kd14, kd15, kd16, kd17, kd18, kd19, kd20, kd21, kd22, kd23, kd24, kd25, kd26, kd27, kd28, kd29, kd30, kd31, kd32, kd33, kd34, kd35, kd36, kd37, kd38, kd39, kd40, kd41, kd42, kd43, kd44, kd45, kd46, kd47, kd48, kd49, kd50, kd51, kd52, kd53, kd54, kd55, kd56, kd57, kd58, kd59, kd60, kd61, kd62, kd63, kd64, kd65, kd66, kd67, kd68, ln2, ln3, ln5, ln6, ln7, ln10, ln13, ln16, ln19, ln22, ln24, ln25, ln27, ln28, ln29, ln32, ln35, ln38, ln41, ln44, ln46, ln48, ln50, ln52, ln54, ln55, ln56, ln57, ln58, ln59, ln60, ln61, ln62, ln63, ln67, ln68, i0, i1, cl_nI, lt_F, le_F, eq_F, not_false_eq_true]) <;> omega) | fail) only [p35_0, p35_0n, p35_1, p35_4, p35_5, p35_6, p35_8, p35_11, p35_12, p35_14, p35_17, p35_17n, p35_18, kd0, kd1, kd2, kd3, kd4, kd5, kd6, kd7, kd8, kd9, kd10, kd11, kd12, kd13, kd14, kd15, kd16, kd17, kd18, kd19, kd20, kd21, kd22, kd23, kd24, kd25, kd26, kd27, kd28, kd29, kd30, kd31, kd32, kd33, kd34, kd35, kd36, kd37, kd38, kd39, kd40, kd41, kd42, kd43, kd44, kd45, kd46, kd47, kd48, kd49, kd50, kd51, kd52, kd53, kd54, kd55, kd56, kd57, kd58, kd59, kd60, kd61, kd62, kd63, kd64, kd65, kd66, kd67, kd68, ↓reduceIte, Nat.reduceAdd, Nat.reduceMul, Nat.reduceSub, i0, i1, i2, i3, i4, i5, i6, i7, i8, i9, i10, i14, i15, i16, i18, i20, i21, i23, i28, i31, i32, i33, i38, i40, i41, i48, i49, i51, i57, i60, i61, i62, i63, i97, i99, i100, i110, i124, i127, i140, i199, i200, i278, i286, i294, i394, i399, i1000, i1099, lt_T, lt_F, le_T, le_F, eq_T, eq_F, nI_add, pk_mul, pk_sub, nI_m1, cl_nI, dm_up_n1, dm_up_eq, dm_up_n2, not_true_eq_false, not_false_eq_true, if_true, if_false, true_and, and_true, false_and, and_false, true_or, or_true, false_or, or_false, Option.toList, List.cons_append, List.nil_append, b01_01, b01_T, b01_F, b01_n0, b01_n1, ite_self, pk_div, pk_rem, nI_shrA, nI_bt, nI_bt0, nI_bt1, t_hasBit, nsc, Nat.add_sub_cancel_left, Nat.add_sub_cancel, hN, hE1, hE2, c1, c2]
      refine t_readTest hL hp (fun M' x h1 h2 h3 => ?_)
      have hq := hQ M' x h1 h2 h3
      simp (disch := first | assumption | exact b01_01 | exact Or.inl rfl | exact Or.inr rfl | ((try simp (disch := omega) only [kd0, kd1, kd2, kd3, kd4, kd5, kd6, kd7, kd8, kd9, kd10, kd11, kd12, kd13, kd14, kd15, kd16, kd17, kd18, kd19, kd20, kd21, kd22, kd23, kd24, kd25, kd26, kd27, kd28, kd29, kd30, kd31, kd32, kd33, kd34, kd35, kd36, kd37, kd38, kd39, kd40, kd41, kd42, kd43, kd44, kd45, kd46, kd47, kd48, kd49, kd50, kd51, kd52, kd53, kd54, kd55, kd56, kd57, kd58, kd59, kd60, kd61, kd62, kd63, kd64, kd65, kd66, kd67, kd68, ln2, ln3, ln5, ln6, ln7, ln10, ln13, ln16, ln19, ln22, ln24, ln25, ln27, ln28, ln29, ln32, ln35, ln38, ln41, ln44, ln46, ln48, ln50, ln52, ln54, ln55, ln56, ln57, ln58, ln59, ln60, ln61, ln62, ln63, ln67, ln68, i0, i1, cl_nI, lt_F, le_F, eq_F, not_false_eq_true]) <;> omega) | fail) only [p35_21, ↓reduceIte, Nat.reduceAdd, Nat.reduceMul, Nat.reduceSub, i0, i1, i2, i3, i4, i5, i6, i7, i8, i9, i10, i14, i15, i16, i18, i20, i21, i23, i28, i31, i32, i33, i38, i40, i41, i48, i49, i51, i57, i60, i61, i62, i63, i97, i99, i100, i110, i124, i127, i140, i199, i200, i278, i286, i294, i394, i399, i1000, i1099, lt_T, lt_F, le_T, le_F, eq_T, eq_F, nI_add, pk_mul, pk_sub, nI_m1, cl_nI, dm_up_n1, dm_up_eq, dm_up_n2, not_true_eq_false, not_false_eq_true, if_true, if_false, true_and, and_true, false_and, and_false, true_or, or_true, false_or, or_false, Option.toList, List.cons_append, List.nil_append, b01_01, b01_T, b01_F, b01_n0, b01_n1, ite_self, pk_div, pk_rem, nI_shrA, nI_bt, nI_bt0, nI_bt1, t_hasBit, nsc, Nat.add_sub_cancel_left, Nat.add_sub_cancel]
      exact hq
  | succ r ih =>
    intro hr d' p M Q hd hL hp hQ
    obtain ⟨d, rfl⟩ : ∃ d, d' = d + 3 + 1 := ⟨d' - 4, by omega⟩
    have ih := ih (by omega)
    have hN := fun (d : Nat) (Q : Option Value → dm_M → Prop) => t_next (d := d) (Q := Q) hL (by have := hL.2.2.2.2.1; omega)
    have hE1 := nxC_eq (p := p) (bad := false) hT (show 33 < 128 by omega)
    have hE2 := nxC_eq (p := p) (bad := false) hT (show 40 < 128 by omega)
    have hF := fun (d : Nat) (M : dm_M) (Q : Option Value → dm_M → Prop) => t_fault (d := d) (M := M) (Q := Q)
    have e2 := hL.2.2.1
    have eo : 5 - (r + 1) + 1 = 5 - r := by omega
    unfold pF at hQ
    rw [e35]
    by_cases h33 : chT T p = 33
    · rw [if_pos h33] at hQ
      have h2 : p < T.length := chT_in (by omega)
      simp (disch := first | assumption | exact b01_01 | exact Or.inl rfl | exact Or.inr rfl | ((try simp (disch := omega) only [kd0, kd1, kd2, kd3, kd4, kd5, kd6, kd7, kd8, kd9, kd10, kd11, kd12, kd13, kd14, kd15, kd16, kd17, kd18, kd19, kd20, kd21, kd22, kd23, kd24, kd25, kd26, kd27, kd28, kd29, kd30, kd31, kd32, kd33, kd34, kd35, kd36, kd37, kd38, kd39, kd40, kd41, kd42, kd43, kd44, kd45, kd46, kd47, kd48, kd49, kd50, kd51, kd52, kd53, kd54, kd55, kd56, kd57, kd58, kd59, kd60, kd61, kd62, kd63, kd64, kd65, kd66, kd67, kd68, ln2, ln3, ln5, ln6, ln7, ln10, ln13, ln16, ln19, ln22, ln24, ln25, ln27, ln28, ln29, ln32, ln35, ln38, ln41, ln44, ln46, ln48, ln50, ln52, ln54, ln55, ln56, ln57, ln58, ln59, ln60, ln61, ln62, ln63, ln67, ln68, i0, i1, cl_nI, lt_F, le_F, eq_F, not_false_eq_true]) <;> omega) | fail) only [p35_0, p35_0n, p35_1, p35_4, p35_5, p35_6, p35_8, p35_11, p35_12, p35_14, p35_17, p35_17n, p35_18, p35_21, p35_22, p35_23, p35_24, p35_27, p35_27n, p35_28, p35_31, p35_32, p35_32n, p35_33, p35_34, p35_37, p35_38, p35_39, p35_42, p35_43, p35_45, p35_48, p35_50, p35_50n, p35_51, p35_52, p35_53, p35_54, kd0, kd1, kd2, kd3, kd4, kd5, kd6, kd7, kd8, kd9, kd10, kd11, kd12, kd13, kd14, kd15, kd16, kd17, kd18, kd19, kd20, kd21, kd22, kd23, kd24, kd25, kd26, kd27, kd28, kd29, kd30, kd31, kd32, kd33, kd34, kd35, kd36, kd37, kd38, kd39, kd40, kd41, kd42, kd43, kd44, kd45, kd46, kd47, kd48, kd49, kd50, kd51, kd52, kd53, kd54, kd55, kd56, kd57, kd58, kd59, kd60, kd61, kd62, kd63, kd64, kd65, kd66, kd67, kd68, ↓reduceIte, Nat.reduceAdd, Nat.reduceMul, Nat.reduceSub, i0, i1, i2, i3, i4, i5, i6, i7, i8, i9, i10, i14, i15, i16, i18, i20, i21, i23, i28, i31, i32, i33, i38, i40, i41, i48, i49, i51, i57, i60, i61, i62, i63, i97, i99, i100, i110, i124, i127, i140, i199, i200, i278, i286, i294, i394, i399, i1000, i1099, lt_T, lt_F, le_T, le_F, eq_T, eq_F, nI_add, pk_mul, pk_sub, nI_m1, cl_nI, dm_up_n1, dm_up_eq, dm_up_n2, not_true_eq_false, not_false_eq_true, if_true, if_false, true_and, and_true, false_and, and_false, true_or, or_true, false_or, or_false, Option.toList, List.cons_append, List.nil_append, b01_01, b01_T, b01_F, b01_n0, b01_n1, ite_self, pk_div, pk_rem, nI_shrA, nI_bt, nI_bt0, nI_bt1, t_hasBit, nsc, Nat.add_sub_cancel_left, Nat.add_sub_cancel, hN, hE1, hE2, h33, nxC_is hL (show 33 < 128 by omega) h33, e2, eo]
      refine ih (d + 3) (p + 1) _ _ (by omega) hL.up (by omega) (fun M' y h1 hy hk => ?_)
      have hq := hQ M' ((65535 : Int32) ^^^ y) h1 (fun hb => by rw [hy hb]; exact nI_xor _ _) (up45.trans hk)
      simp (disch := first | assumption | exact b01_01 | exact Or.inl rfl | exact Or.inr rfl | ((try simp (disch := omega) only [kd0, kd1, kd2, kd3, kd4, kd5, kd6, kd7, kd8, kd9, kd10, kd11, kd12, kd13, kd14, kd15, kd16, kd17, kd18, kd19, kd20, kd21, kd22, kd23, kd24, kd25, kd26, kd27, kd28, kd29, kd30, kd31, kd32, kd33, kd34, kd35, kd36, kd37, kd38, kd39, kd40, kd41, kd42, kd43, kd44, kd45, kd46, kd47, kd48, kd49, kd50, kd51, kd52, kd53, kd54, kd55, kd56, kd57, kd58, kd59, kd60, kd61, kd62, kd63, kd64, kd65, kd66, kd67, kd68, ln2, ln3, ln5, ln6, ln7, ln10, ln13, ln16, ln19, ln22, ln24, ln25, ln27, ln28, ln29, ln32, ln35, ln38, ln41, ln44, ln46, ln48, ln50, ln52, ln54, ln55, ln56, ln57, ln58, ln59, ln60, ln61, ln62, ln63, ln67, ln68, i0, i1, cl_nI, lt_F, le_F, eq_F, not_false_eq_true]) <;> omega) | fail) only [p35_57, p35_58, ↓reduceIte, Nat.reduceAdd, Nat.reduceMul, Nat.reduceSub, i0, i1, i2, i3, i4, i5, i6, i7, i8, i9, i10, i14, i15, i16, i18, i20, i21, i23, i28, i31, i32, i33, i38, i40, i41, i48, i49, i51, i57, i60, i61, i62, i63, i97, i99, i100, i110, i124, i127, i140, i199, i200, i278, i286, i294, i394, i399, i1000, i1099, lt_T, lt_F, le_T, le_F, eq_T, eq_F, nI_add, pk_mul, pk_sub, nI_m1, cl_nI, dm_up_n1, dm_up_eq, dm_up_n2, not_true_eq_false, not_false_eq_true, if_true, if_false, true_and, and_true, false_and, and_false, true_or, or_true, false_or, or_false, Option.toList, List.cons_append, List.nil_append, b01_01, b01_T, b01_F, b01_n0, b01_n1, ite_self, pk_div, pk_rem, nI_shrA, nI_bt, nI_bt0, nI_bt1, t_hasBit, nsc, Nat.add_sub_cancel_left, Nat.add_sub_cancel]
      exact hq
    · rw [if_neg h33] at hQ
      by_cases h40 : chT T p = 40
      · rw [if_pos h40] at hQ
        have h2 : p < T.length := chT_in (by omega)
        have hB : RdC T (pB T (pF T r)) 34 (3 * r + 5) (5 - r) := t_readBoth ih (pF_Gd hT r)
        have hE : RdC T (pE T (pF T r)) 33 (3 * r + 6) (5 - r) := t_readEither hB (pB_Gd (pF_Gd hT r))
        have hGd := pE_Gd (pF_Gd hT r) (p + 1) (by omega)
        simp (disch := first | assumption | exact b01_01 | exact Or.inl rfl | exact Or.inr rfl | ((try simp (disch := omega) only [kd0, kd1, kd2, kd3, kd4, kd5, kd6, kd7, kd8, kd9, kd10, kd11, kd12, kd13, kd14, kd15, kd16, kd17, kd18, kd19, kd20, kd21, kd22, kd23, kd24, kd25, kd26, kd27, kd28, kd29, kd30, kd31, kd32, kd33, kd34, kd35, kd36, kd37, kd38, kd39, kd40, kd41, kd42, kd43, kd44, kd45, kd46, kd47, kd48, kd49, kd50, kd51, kd52, kd53, kd54, kd55, kd56, kd57, kd58, kd59, kd60, kd61, kd62, kd63, kd64, kd65, kd66, kd67, kd68, ln2, ln3, ln5, ln6, ln7, ln10, ln13, ln16, ln19, ln22, ln24, ln25, ln27, ln28, ln29, ln32, ln35, ln38, ln41, ln44, ln46, ln48, ln50, ln52, ln54, ln55, ln56, ln57, ln58, ln59, ln60, ln61, ln62, ln63, ln67, ln68, i0, i1, cl_nI, lt_F, le_F, eq_F, not_false_eq_true]) <;> omega) | fail) only [p35_0, p35_0n, p35_1, p35_4, p35_5, p35_6, p35_8, p35_11, p35_12, p35_14, p35_17, p35_17n, p35_18, p35_21, p35_22, p35_23, p35_24, p35_27, p35_27n, p35_28, p35_31, p35_32, p35_32n, p35_33, p35_34, p35_37, p35_38, p35_39, p35_42, p35_43, p35_45, p35_59, p35_59n, p35_60, p35_61, p35_62, p35_63, kd0, kd1, kd2, kd3, kd4, kd5, kd6, kd7, kd8, kd9, kd10, kd11, kd12, kd13, kd14, kd15, kd16, kd17, kd18, kd19, kd20, kd21, kd22, kd23, kd24, kd25, kd26, kd27, kd28, kd29, kd30, kd31, kd32, kd33, kd34, kd35, kd36, kd37, kd38, kd39, kd40, kd41, kd42, kd43, kd44, kd45, kd46, kd47, kd48, kd49, kd50, kd51, kd52, kd53, kd54, kd55, kd56, kd57, kd58, kd59, kd60, kd61, kd62, kd63, kd64, kd65, kd66, kd67, kd68, ↓reduceIte, Nat.reduceAdd, Nat.reduceMul, Nat.reduceSub, i0, i1, i2, i3, i4, i5, i6, i7, i8, i9, i10, i14, i15, i16, i18, i20, i21, i23, i28, i31, i32, i33, i38, i40, i41, i48, i49, i51, i57, i60, i61, i62, i63, i97, i99, i100, i110, i124, i127, i140, i199, i200, i278, i286, i294, i394, i399, i1000, i1099, lt_T, lt_F, le_T, le_F, eq_T, eq_F, nI_add, pk_mul, pk_sub, nI_m1, cl_nI, dm_up_n1, dm_up_eq, dm_up_n2, not_true_eq_false, not_false_eq_true, if_true, if_false, true_and, and_true, false_and, and_false, true_or, or_true, false_or, or_false, Option.toList, List.cons_append, List.nil_append, b01_01, b01_T, b01_F, b01_n0, b01_n1, ite_self, pk_div, pk_rem, nI_shrA, nI_bt, nI_bt0, nI_bt1, t_hasBit, nsc, Nat.add_sub_cancel_left, Nat.add_sub_cancel, hN, hE1, hE2, h33, h40, nxC_is hL (show 40 < 128 by omega) h40, e2, eo]
        refine hE (d + 3) (p + 1) _ _ (by omega) hL.up (by omega) (fun M' y h1 hy hk => ?_)
        generalize hz : pE T (pF T r) (p + 1) = z at *
        have hN' := fun (d : Nat) (Q : Option Value → dm_M → Prop) => t_next (d := d) (Q := Q) h1 (by have := hGd.2.1; have := h1.2.2.2.2.1; omega)
        have hE' := nxC_eq (p := z.1) (bad := z.2.1) hT (show 41 < 128 by omega)
        have e2' := h1.2.2.1
        by_cases hb : z.2.1 = true
        · rw [if_pos hb] at hQ
          have hq := hQ (dm_up M' 45 3 (nI 1)) (nI 0) h1.flt (fun z => absurd (show true = false from z) (by decide)) ((up45.trans hk).trans up45)
          have hb' : ¬ z.2.1 = false := by rw [hb]; decide
          simp (disch := first | assumption | exact b01_01 | exact Or.inl rfl | exact Or.inr rfl | ((try simp (disch := omega) only [kd0, kd1, kd2, kd3, kd4, kd5, kd6, kd7, kd8, kd9, kd10, kd11, kd12, kd13, kd14, kd15, kd16, kd17, kd18, kd19, kd20, kd21, kd22, kd23, kd24, kd25, kd26, kd27, kd28, kd29, kd30, kd31, kd32, kd33, kd34, kd35, kd36, kd37, kd38, kd39, kd40, kd41, kd42, kd43, kd44, kd45, kd46, kd47, kd48, kd49, kd50, kd51, kd52, kd53, kd54, kd55, kd56, kd57, kd58, kd59, kd60, kd61, kd62, kd63, kd64, kd65, kd66, kd67, kd68, ln2, ln3, ln5, ln6, ln7, ln10, ln13, ln16, ln19, ln22, ln24, ln25, ln27, ln28, ln29, ln32, ln35, ln38, ln41, ln44, ln46, ln48, ln50, ln52, ln54, ln55, ln56, ln57, ln58, ln59, ln60, ln61, ln62, ln63, ln67, ln68, i0, i1, cl_nI, lt_F, le_F, eq_F, not_false_eq_true]) <;> omega) | fail) only [p35_66, p35_67, p35_67n, p35_68, p35_71, p35_73, p35_76, p35_76n, p35_77, p35_80, kd0, kd1, kd2, kd3, kd4, kd5, kd6, kd7, kd8, kd9, kd10, kd11, kd12, kd13, kd14, kd15, kd16, kd17, kd18, kd19, kd20, kd21, kd22, kd23, kd24, kd25, kd26, kd27, kd28, kd29, kd30, kd31, kd32, kd33, kd34, kd35, kd36, kd37, kd38, kd39, kd40, kd41, kd42, kd43, kd44, kd45, kd46, kd47, kd48, kd49, kd50, kd51, kd52, kd53, kd54, kd55, kd56, kd57, kd58, kd59, kd60, kd61, kd62, kd63, kd64, kd65, kd66, kd67, kd68, ↓reduceIte, Nat.reduceAdd, Nat.reduceMul, Nat.reduceSub, i0, i1, i2, i3, i4, i5, i6, i7, i8, i9, i10, i14, i15, i16, i18, i20, i21, i23, i28, i31, i32, i33, i38, i40, i41, i48, i49, i51, i57, i60, i61, i62, i63, i97, i99, i100, i110, i124, i127, i140, i199, i200, i278, i286, i294, i394, i399, i1000, i1099, lt_T, lt_F, le_T, le_F, eq_T, eq_F, nI_add, pk_mul, pk_sub, nI_m1, cl_nI, dm_up_n1, dm_up_eq, dm_up_n2, not_true_eq_false, not_false_eq_true, if_true, if_false, true_and, and_true, false_and, and_false, true_or, or_true, false_or, or_false, Option.toList, List.cons_append, List.nil_append, b01_01, b01_T, b01_F, b01_n0, b01_n1, ite_self, pk_div, pk_rem, nI_shrA, nI_bt, nI_bt0, nI_bt1, t_hasBit, nsc, Nat.add_sub_cancel_left, Nat.add_sub_cancel, hN', hE', hb', hF]
          exact hq
        · rw [if_neg hb] at hQ
          have hb' : z.2.1 = false := by simpa using hb
          by_cases hc : chT T z.1 = 41
          · rw [if_pos hc] at hQ
            rw [hb'] at hN' hE'
            have hq := hQ (dm_up M' 45 2 (nI (z.1 + 1))) y (by have := h1.up (p' := z.1 + 1); rw [hb'] at this; exact this) (fun _ => hy hb') ((up45.trans hk).trans up45)
            simp (disch := first | assumption | exact b01_01 | exact Or.inl rfl | exact Or.inr rfl | ((try simp (disch := omega) only [kd0, kd1, kd2, kd3, kd4, kd5, kd6, kd7, kd8, kd9, kd10, kd11, kd12, kd13, kd14, kd15, kd16, kd17, kd18, kd19, kd20, kd21, kd22, kd23, kd24, kd25, kd26, kd27, kd28, kd29, kd30, kd31, kd32, kd33, kd34, kd35, kd36, kd37, kd38, kd39, kd40, kd41, kd42, kd43, kd44, kd45, kd46, kd47, kd48, kd49, kd50, kd51, kd52, kd53, kd54, kd55, kd56, kd57, kd58, kd59, kd60, kd61, kd62, kd63, kd64, kd65, kd66, kd67, kd68, ln2, ln3, ln5, ln6, ln7, ln10, ln13, ln16, ln19, ln22, ln24, ln25, ln27, ln28, ln29, ln32, ln35, ln38, ln41, ln44, ln46, ln48, ln50, ln52, ln54, ln55, ln56, ln57, ln58, ln59, ln60, ln61, ln62, ln63, ln67, ln68, i0, i1, cl_nI, lt_F, le_F, eq_F, not_false_eq_true]) <;> omega) | fail) only [p35_66, p35_67, p35_67n, p35_68, p35_71, p35_73, p35_81, p35_81n, p35_82, p35_83, p35_86, p35_87, p35_88, p35_91, p35_92, kd0, kd1, kd2, kd3, kd4, kd5, kd6, kd7, kd8, kd9, kd10, kd11, kd12, kd13, kd14, kd15, kd16, kd17, kd18, kd19, kd20, kd21, kd22, kd23, kd24, kd25, kd26, kd27, kd28, kd29, kd30, kd31, kd32, kd33, kd34, kd35, kd36, kd37, kd38, kd39, kd40, kd41, kd42, kd43, kd44, kd45, kd46, kd47, kd48, kd49, kd50, kd51, kd52, kd53, kd54, kd55, kd56, kd57, kd58, kd59, kd60, kd61, kd62, kd63, kd64, kd65, kd66, kd67, kd68, ↓reduceIte, Nat.reduceAdd, Nat.reduceMul, Nat.reduceSub, i0, i1, i2, i3, i4, i5, i6, i7, i8, i9, i10, i14, i15, i16, i18, i20, i21, i23, i28, i31, i32, i33, i38, i40, i41, i48, i49, i51, i57, i60, i61, i62, i63, i97, i99, i100, i110, i124, i127, i140, i199, i200, i278, i286, i294, i394, i399, i1000, i1099, lt_T, lt_F, le_T, le_F, eq_T, eq_F, nI_add, pk_mul, pk_sub, nI_m1, cl_nI, dm_up_n1, dm_up_eq, dm_up_n2, not_true_eq_false, not_false_eq_true, if_true, if_false, true_and, and_true, false_and, and_false, true_or, or_true, false_or, or_false, Option.toList, List.cons_append, List.nil_append, b01_01, b01_T, b01_F, b01_n0, b01_n1, ite_self, pk_div, pk_rem, nI_shrA, nI_bt, nI_bt0, nI_bt1, t_hasBit, nsc, Nat.add_sub_cancel_left, Nat.add_sub_cancel, hN', hE', hc, e2']
            exact hq
          · rw [if_neg hc] at hQ
            rw [hb'] at hN' hE'
            have hq := hQ (dm_up M' 45 3 (nI 1)) (nI 0) h1.flt (fun z => absurd (show true = false from z) (by decide)) ((up45.trans hk).trans up45)
            simp (disch := first | assumption | exact b01_01 | exact Or.inl rfl | exact Or.inr rfl | ((try simp (disch := omega) only [kd0, kd1, kd2, kd3, kd4, kd5, kd6, kd7, kd8, kd9, kd10, kd11, kd12, kd13, kd14, kd15, kd16, kd17, kd18, kd19, kd20, kd21, kd22, kd23, kd24, kd25, kd26, kd27, kd28, kd29, kd30, kd31, kd32, kd33, kd34, kd35, kd36, kd37, kd38, kd39, kd40, kd41, kd42, kd43, kd44, kd45, kd46, kd47, kd48, kd49, kd50, kd51, kd52, kd53, kd54, kd55, kd56, kd57, kd58, kd59, kd60, kd61, kd62, kd63, kd64, kd65, kd66, kd67, kd68, ln2, ln3, ln5, ln6, ln7, ln10, ln13, ln16, ln19, ln22, ln24, ln25, ln27, ln28, ln29, ln32, ln35, ln38, ln41, ln44, ln46, ln48, ln50, ln52, ln54, ln55, ln56, ln57, ln58, ln59, ln60, ln61, ln62, ln63, ln67, ln68, i0, i1, cl_nI, lt_F, le_F, eq_F, not_false_eq_true]) <;> omega) | fail) only [p35_66, p35_67, p35_67n, p35_68, p35_71, p35_73, p35_76, p35_76n, p35_77, p35_80, kd0, kd1, kd2, kd3, kd4, kd5, kd6, kd7, kd8, kd9, kd10, kd11, kd12, kd13, kd14, kd15, kd16, kd17, kd18, kd19, kd20, kd21, kd22, kd23, kd24, kd25, kd26, kd27, kd28, kd29, kd30, kd31, kd32, kd33, kd34, kd35, kd36, kd37, kd38, kd39, kd40, kd41, kd42, kd43, kd44, kd45, kd46, kd47, kd48, kd49, kd50, kd51, kd52, kd53, kd54, kd55, kd56, kd57, kd58, kd59, kd60, kd61, kd62, kd63, kd64, kd65, kd66, kd67, kd68, ↓reduceIte, Nat.reduceAdd, Nat.reduceMul, Nat.reduceSub, i0, i1, i2, i3, i4, i5, i6, i7, i8, i9, i10, i14, i15, i16, i18, i20, i21, i23, i28, i31, i32, i33, i38, i40, i41, i48, i49, i51, i57, i60, i61, i62, i63, i97, i99, i100, i110, i124, i127, i140, i199, i200, i278, i286, i294, i394, i399, i1000, i1099, lt_T, lt_F, le_T, le_F, eq_T, eq_F, nI_add, pk_mul, pk_sub, nI_m1, cl_nI, dm_up_n1, dm_up_eq, dm_up_n2, not_true_eq_false, not_false_eq_true, if_true, if_false, true_and, and_true, false_and, and_false, true_or, or_true, false_or, or_false, Option.toList, List.cons_append, List.nil_append, b01_01, b01_T, b01_F, b01_n0, b01_n1, ite_self, pk_div, pk_rem, nI_shrA, nI_bt, nI_bt0, nI_bt1, t_hasBit, nsc, Nat.add_sub_cancel_left, Nat.add_sub_cancel, hN', hE', hc, hF]
            exact hq
      · rw [if_neg h40] at hQ
        simp (disch := first | assumption | exact b01_01 | exact Or.inl rfl | exact Or.inr rfl | ((try simp (disch := omega) only [kd0, kd1, kd2, kd3, kd4, kd5, kd6, kd7, kd8, kd9, kd10, kd11, kd12, kd13, kd14, kd15, kd16, kd17, kd18, kd19, kd20, kd21, kd22, kd23, kd24, kd25, kd26, kd27, kd28, kd29, kd30, kd31, kd32, kd33, kd34, kd35, kd36, kd37, kd38, kd39, kd40, kd41, kd42, kd43, kd44, kd45, kd46, kd47, kd48, kd49, kd50, kd51, kd52, kd53, kd54, kd55, kd56, kd57, kd58, kd59, kd60, kd61, kd62, kd63, kd64, kd65, kd66, kd67, kd68, ln2, ln3, ln5, ln6, ln7, ln10, ln13, ln16, ln19, ln22, ln24, ln25, ln27, ln28, ln29, ln32, ln35, ln38, ln41, ln44, ln46, ln48, ln50, ln52, ln54, ln55, ln56, ln57, ln58, ln59, ln60, ln61, ln62, ln63, ln67, ln68, i0, i1, cl_nI, lt_F, le_F, eq_F, not_false_eq_true]) <;> omega) | fail) only [p35_0, p35_0n, p35_1, p35_4, p35_5, p35_6, p35_8, p35_11, p35_12, p35_14, p35_17, p35_17n, p35_18, kd0, kd1, kd2, kd3, kd4, kd5, kd6, kd7, kd8, kd9, kd10, kd11, kd12, kd13, kd14, kd15, kd16, kd17, kd18, kd19, kd20, kd21, kd22, kd23, kd24, kd25, kd26, kd27, kd28, kd29, kd30, kd31, kd32, kd33, kd34, kd35, kd36, kd37, kd38, kd39, kd40, kd41, kd42, kd43, kd44, kd45, kd46, kd47, kd48, kd49, kd50, kd51, kd52, kd53, kd54, kd55, kd56, kd57, kd58, kd59, kd60, kd61, kd62, kd63, kd64, kd65, kd66, kd67, kd68, ↓reduceIte, Nat.reduceAdd, Nat.reduceMul, Nat.reduceSub, i0, i1, i2, i3, i4, i5, i6, i7, i8, i9, i10, i14, i15, i16, i18, i20, i21, i23, i28, i31, i32, i33, i38, i40, i41, i48, i49, i51, i57, i60, i61, i62, i63, i97, i99, i100, i110, i124, i127, i140, i199, i200, i278, i286, i294, i394, i399, i1000, i1099, lt_T, lt_F, le_T, le_F, eq_T, eq_F, nI_add, pk_mul, pk_sub, nI_m1, cl_nI, dm_up_n1, dm_up_eq, dm_up_n2, not_true_eq_false, not_false_eq_true, if_true, if_false, true_and, and_true, false_and, and_false, true_or, or_true, false_or, or_false, Option.toList, List.cons_append, List.nil_append, b01_01, b01_T, b01_F, b01_n0, b01_n1, ite_self, pk_div, pk_rem, nI_shrA, nI_bt, nI_bt0, nI_bt1, t_hasBit, nsc, Nat.add_sub_cancel_left, Nat.add_sub_cancel, hN, hE1, hE2, h33, h40]
        refine t_readTest hL hp (fun M' x h1 h2 h3 => ?_)
        have hq := hQ M' x h1 h2 h3
        simp (disch := first | assumption | exact b01_01 | exact Or.inl rfl | exact Or.inr rfl | ((try simp (disch := omega) only [kd0, kd1, kd2, kd3, kd4, kd5, kd6, kd7, kd8, kd9, kd10, kd11, kd12, kd13, kd14, kd15, kd16, kd17, kd18, kd19, kd20, kd21, kd22, kd23, kd24, kd25, kd26, kd27, kd28, kd29, kd30, kd31, kd32, kd33, kd34, kd35, kd36, kd37, kd38, kd39, kd40, kd41, kd42, kd43, kd44, kd45, kd46, kd47, kd48, kd49, kd50, kd51, kd52, kd53, kd54, kd55, kd56, kd57, kd58, kd59, kd60, kd61, kd62, kd63, kd64, kd65, kd66, kd67, kd68, ln2, ln3, ln5, ln6, ln7, ln10, ln13, ln16, ln19, ln22, ln24, ln25, ln27, ln28, ln29, ln32, ln35, ln38, ln41, ln44, ln46, ln48, ln50, ln52, ln54, ln55, ln56, ln57, ln58, ln59, ln60, ln61, ln62, ln63, ln67, ln68, i0, i1, cl_nI, lt_F, le_F, eq_F, not_false_eq_true]) <;> omega) | fail) only [p35_21, ↓reduceIte, Nat.reduceAdd, Nat.reduceMul, Nat.reduceSub, i0, i1, i2, i3, i4, i5, i6, i7, i8, i9, i10, i14, i15, i16, i18, i20, i21, i23, i28, i31, i32, i33, i38, i40, i41, i48, i49, i51, i57, i60, i61, i62, i63, i97, i99, i100, i110, i124, i127, i140, i199, i200, i278, i286, i294, i394, i399, i1000, i1099, lt_T, lt_F, le_T, le_F, eq_T, eq_F, nI_add, pk_mul, pk_sub, nI_m1, cl_nI, dm_up_n1, dm_up_eq, dm_up_n2, not_true_eq_false, not_false_eq_true, if_true, if_false, true_and, and_true, false_and, and_false, true_or, or_true, false_or, or_false, Option.toList, List.cons_append, List.nil_append, b01_01, b01_T, b01_F, b01_n0, b01_n1, ite_self, pk_div, pk_rem, nI_shrA, nI_bt, nI_bt0, nI_bt1, t_hasBit, nsc, Nat.add_sub_cancel_left, Nat.add_sub_cancel]
        exact hq
end
