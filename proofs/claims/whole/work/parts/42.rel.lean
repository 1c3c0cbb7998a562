/-! the reference's board; the two objects -/
/-- how many nails are in a set -/
def cnt4 (set : Nat) : Nat := (set.testBit 0).toNat + (set.testBit 1).toNat + (set.testBit 2).toNat + (set.testBit 3).toNat
/-- what a test compares: a .. d, or n -/
def tval (set which : Nat) : Nat := if which = 4 then cnt4 set else (set.testBit which).toNat
def tcmp (how x v : Nat) : Bool := if how = 0 then decide (x < v) else if how = 1 then decide (x = v) else decide (v < x)
/-- one step of a law's code over a stack of truths, the last pushed first -/
def ev1 (set : Nat) (step : Int32) (st : List Bool) : Option (List Bool) :=
  if 0 ≤ step then (if st.length < 64 then some (tcmp (step.toNatClampNeg / 8 % 4) (tval set (step.toNatClampNeg % 8)) (step.toNatClampNeg / 32) :: st) else none)
  else if step = -1 then (match st with | b :: r => some ((!b) :: r) | [] => none)
  else (match st with | b :: a :: r => some ((if step = -2 then a && b else a || b) :: r) | _ => none)
def evs (set : Nat) : List Int32 → List Bool → Option (List Bool)
  | [], st => some st
  | x :: l, st => match ev1 set x st with | some st' => evs set l st' | none => none
/-- a law in the reference's row at q: its code comes to these bits -/
def LawIs (M : dm_M) (q j l : Nat) : Prop := ∃ code : List Int32, M q (394 + j) = nI code.length ∧ code.length ≤ 140 ∧ (∀ i, i < code.length → M q (399 + 140 * j + i) = code.getD i 0 ∧ code.getD i 0 < 4096 ∧ (-3) ≤ code.getD i 0) ∧ ∀ set, set < 16 → evs set code [] = some [l.testBit set]
/-- the reference's board in the row at q -/
def MdlB (M : dm_M) (q : Nat) (b : Bd) : Prop :=
  M q 4 = nI (bN b) ∧ (∀ i, i < 4 → M q (10 + i) = nI (bP b i) ∧ M q (14 + i) = nI (bW b i)) ∧ M q 0 = nI (bC b).length ∧
  (∀ i, i < (bC b).length → MCord M q i (nI (bCd b i).1) (nI (bCd b i).2.1) (nI (bCd b i).2.2.1) (bCd b i).2.2.2) ∧
  M q 1 = nI (bL b).length ∧ (∀ i, i < (bL b).length → LawIs M q i ((bL b).getD i 0)) ∧
  M q 3 = nI (bT b).length ∧ (∀ i, i < (bT b).length → M q (294 + i) = nI ((bT b).getD i 0)) ∧
  M q 2 = nI (bS b).length ∧ ∀ i, i < (bS b).length → M q (278 + i) = nI ((bS b).getD i (0, false)).1 ∧ M q (286 + i) = nI ((bS b).getD i (0, false)).2.toNat
/-- the board, the image, how many bodies ran, which -/
abbrev Sg : Type := Bd × Option Bd × Nat × (Nat → Nat)
def sB (s : Sg) : Bd := s.1
def sI (s : Sg) : Option Bd := s.2.1
def sR (s : Sg) : Nat := s.2.2.1
def sT (s : Sg) : Nat → Nat := s.2.2.2
def SgOk (s : Sg) : Prop := BdOk (sB s) ∧ (∀ b, sI s = some b → BdOk b) ∧ sR s < 100 ∧ ∀ i, sT s i < 100
/-- the class's object -/
def RC (M : dm_M) (s : Sg) : Prop := SgOk s ∧ ClsB M 1 (sB s) ∧ M 0 2 = (if (sI s).isSome then 1 else 0) ∧ (∀ b, sI s = some b → ClsB M 23 b) ∧ (∀ i, i < 5 → M (30 + 3 * i) 0 = nI i) ∧ M 0 5 = nI (sR s) ∧ ∀ i, i < sR s → i < 20 → M 46 i = nI (sT s i)
/-- the reference's object -/
def RM (M : dm_M) (s : Sg) : Prop := SgOk s ∧ MdlB M 54 (sB s) ∧ M 53 3 = (if (sI s).isSome then 1 else 0) ∧ (∀ b, sI s = some b → MdlB M 55 b) ∧ M 53 18 = nI (sR s) ∧ ∀ i, i < sR s → i < 20 → M 61 i = nI (sT s i)
theorem MdlB.keep {M M' : dm_M} {q : Nat} {b : Bd} (h : MdlB M q b) (e : M' q = M q) : MdlB M' q b := by
  obtain ⟨h1, h2, h3, h4, h5, h6, h7, h8, h9, h10⟩ := h
  refine ⟨by rw [e]; exact h1, fun i hi => by rw [e]; exact h2 i hi, by rw [e]; exact h3, fun i hi => (h4 i hi).keep e, by rw [e]; exact h5, fun i hi => ?_, by rw [e]; exact h7, fun i hi => by rw [e]; exact h8 i hi, by rw [e]; exact h9, fun i hi => by rw [e]; exact h10 i hi⟩
  obtain ⟨code, a, b1, c, d⟩ := h6 i hi
  exact ⟨code, by rw [e]; exact a, b1, fun j hj => by rw [e]; exact c j hj, d⟩
/-- the class's object stays, if but its rows to work in change -/
theorem RC.keep {M M' : dm_M} {s : Sg} (h : RC M s) (e : ∀ a, a < 47 → a ≠ 45 → M' a = M a) : RC M' s := by
  obtain ⟨h1, h2, h3, h4, h5, h6, h7⟩ := h
  have e0 := e 0 (by decide) (by decide)
  have e46 := e 46 (by decide) (by decide)
  exact ⟨h1, h2.keep h1.1.2.2.2.1 (fun a _ _ => e a (by omega) (by omega)), by rw [e0]; exact h3, fun b hb => (h4 b hb).keep (h1.2.1 b hb).2.2.2.1 (fun a _ _ => e a (by omega) (by omega)), fun i hi => by rw [e _ (by omega) (by omega)]; exact h5 i hi, by rw [e0]; exact h6, fun i h8 h9 => by rw [e46]; exact h7 i h8 h9⟩
theorem RM.keep {M M' : dm_M} {s : Sg} (h : RM M s) (e54 : M' 54 = M 54) (e55 : M' 55 = M 55) (e61 : M' 61 = M 61) (e3 : M' 53 3 = M 53 3) (e18 : M' 53 18 = M 53 18) : RM M' s := by
  obtain ⟨h1, h2, h3, h4, h5, h6⟩ := h
  exact ⟨h1, h2.keep e54, by rw [e3]; exact h3, fun b hb => (h4 b hb).keep e55, by rw [e18]; exact h5, fun i a b => by rw [e61]; exact h6 i a b⟩
