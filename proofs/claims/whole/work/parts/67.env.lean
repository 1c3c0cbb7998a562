/-! what a method of the deep machine finds at its start, beside the cells; that it stays so for a callee -/
def dm_E (ad : Nat → Nat) (fm : Value) (dC : Nat → ClassId) (dI : Nat → Nat → Nat) (cI cZ cO : ClassId) (L0 : Nat) (SM : dm_M) (U : State) : Prop :=
  va_K (dC, dI) vwCl [(cI, .int), (cZ, .boolean), (cO, .object "AnyNail$Cord")] U ∧
  (∀ w ∈ dm_NW, va_Nw w U) ∧
  (∀ x ∈ dm_SL, va_Z x.2.2.1 x.2.2.2.1 x.2.2.2.2.1 (dm_cv ad fm x.2.2.2.2.2) (dm_A ad) U U.heap) ∧
  (∀ q, q = 62 ∨ q = 63 → va_T .int (ad q) (dm_ln q) (fun j => .int (SM q j)) (dm_A ad) U U.heap) ∧
  (va_X (ad 64) L0 (SM 64) U U.heap ∧ ad 64 < U.heap.size ∧ ¬ dm_A ad (ad 64)) ∧
  (∀ q, q = 65 ∨ q = 66 → va_O "java/lang/String" (ad q) (dm_A ad) U U.heap ∧ va_OF "java/lang/String" "coder" "B" (.int (SM q 1)) (ad q) (dm_A ad) U U.heap ∧
    va_OF "java/lang/String" "value" "[B" (.ref (ad (q + 2))) (ad q) (dm_A ad) U U.heap ∧ va_T .byte (ad (q + 2)) (dm_ln (q + 2)) (fun j => .int (SM (q + 2) j)) (dm_A ad) U U.heap) ∧
  vk_R "AnyNailModel" 87 "abcdn" (ad 65) U ∧ vk_R "AnyNailModel" 93 "<=>" (ad 66) U
section
variable {ad : Nat → Nat} {fm : Value} {dC : Nat → ClassId} {dI : Nat → Nat → Nat} {cI cZ cO : ClassId} {L0 : Nat} {SM : dm_M}
theorem dm_NW_word : ∀ w ∈ dm_NW, w.onTables = true := by
  intro w h
  have h1 := (List.mem_filter.mp h).2
  cases w <;> first | rfl | exact absurd h1 (by simp [dm_nest])
theorem dm_Nw_warm {w : Jvm.Cond} {s U : State} (hn : dm_nest w = true) (hW : s.WarmedH U.vm) (h : va_Nw w s) : va_Nw w U := by
  cases w <;> first | exact va_Nw.warmF hW h | exact va_Nw.warmM hW h | exact absurd hn (by simp [dm_nest])
theorem dm_E_same {U : State} {g : JFrame} {mk : MethodId} {a : Array Value} (h : dm_E ad fm dC dI cI cZ cO L0 SM U) : dm_E ad fm dC dI cI cZ cO L0 SM (U.calling g mk a) := by
  obtain ⟨h1, h2, h3, h4, ⟨h5, h5b, h5c⟩, h6, h7, h8⟩ := h
  have hA : U.vm.Alike (U.calling g mk a).vm := Vm.Alike.refl U.vm
  exact ⟨va_K.moved hA h1, fun w hw => va_Nw.same (dm_NW_word w hw) (rfl : U.vm = (U.calling g mk a).vm) (h2 w hw), fun z hz => va_Z.moved hA (h3 z hz), fun q hq => va_T.moved hA (h4 q hq), ⟨va_X.moved hA h5, h5b, h5c⟩,
    fun q hq => ⟨va_O.moved hA (h6 q hq).1, va_OF.moved hA (h6 q hq).2.1, va_OF.moved hA (h6 q hq).2.2.1, va_T.moved hA (h6 q hq).2.2.2⟩, vk_R.same rfl h7, vk_R.same rfl h8⟩
theorem dm_E_to {s U : State} (hW : s.WarmedH U.vm) (hz : s.heap.size ≤ U.heap.size) (hq : ∀ a : Nat, a < s.heap.size → ¬ dm_A ad a → U.heap[a]? = s.heap[a]?) (h : dm_E ad fm dC dI cI cZ cO L0 SM s) : dm_E ad fm dC dI cI cZ cO L0 SM U := by
  obtain ⟨h1, h2, h3, h4, ⟨h5, h5b, h5c⟩, h6, h7, h8⟩ := h
  have hA : s.vm.Alike U.vm := hW.alike
  refine ⟨va_K.moved hA h1, fun w hw => dm_Nw_warm (List.mem_filter.mp hw).2 hW (h2 w hw), fun z hz => (va_Z.moved hA (h3 z hz)).kept hq, fun q hq2 => (va_T.moved hA (h4 q hq2)).kept hq, ⟨(va_X.moved hA h5).kept (hq _ h5b h5c), Nat.lt_of_lt_of_le h5b hz, h5c⟩,
    fun q hq2 => ⟨(va_O.moved hA (h6 q hq2).1).kept hq, (va_OF.moved hA (h6 q hq2).2.1).kept hq, (va_OF.moved hA (h6 q hq2).2.2.1).kept hq, (va_T.moved hA (h6 q hq2).2.2.2).kept hq⟩, vk_R.warm hW h7, vk_R.warm hW h8⟩
end
/-! one instruction: what a step of the deep machine says of the stack and the locals -/
theorem dm_i1_inv {st : List Value} {f : Int32 → List Value → Option dm_R} {z : dm_R} (h : dm_i1 st f = some z) : ∃ x r, st = .int x :: r ∧ f x r = some z := by
  unfold dm_i1 at h
  split at h
  · exact ⟨_, _, rfl, h⟩
  · cases h
theorem dm_i2_inv {st : List Value} {f : Int32 → Int32 → List Value → Option dm_R} {z : dm_R} (h : dm_i2 st f = some z) : ∃ x y r, st = .int y :: .int x :: r ∧ f x y r = some z := by
  unfold dm_i2 at h
  split at h
  · exact ⟨_, _, _, rfl, h⟩
  · cases h
theorem dm_l1_inv {st : List Value} {f : Int64 → List Value → Option dm_R} {z : dm_R} (h : dm_l1 st f = some z) : ∃ x r, st = .long x :: r ∧ f x r = some z := by
  unfold dm_l1 at h
  split at h
  · exact ⟨_, _, rfl, h⟩
  · cases h
theorem dm_l2_inv {st : List Value} {f : Int64 → Int64 → List Value → Option dm_R} {z : dm_R} (h : dm_l2 st f = some z) : ∃ x y r, st = .long y :: .long x :: r ∧ f x y r = some z := by
  unfold dm_l2 at h
  split at h
  · exact ⟨_, _, _, rfl, h⟩
  · cases h
theorem dm_r1_inv {st : List Value} {f : Nat → List Value → Option dm_R} {z : dm_R} (h : dm_r1 st f = some z) : ∃ x r, st = .ref x :: r ∧ f x r = some z := by
  unfold dm_r1 at h
  split at h
  · exact ⟨_, _, rfl, h⟩
  · cases h
theorem dm_ri_inv {st : List Value} {f : Nat → Int32 → List Value → Option dm_R} {z : dm_R} (h : dm_ri st f = some z) : ∃ q i r, st = .int i :: .ref q :: r ∧ f q i r = some z := by
  unfold dm_ri at h
  split at h
  · exact ⟨_, _, _, rfl, h⟩
  · cases h
theorem dm_rii_inv {st : List Value} {f : Nat → Int32 → Int32 → List Value → Option dm_R} {z : dm_R} (h : dm_rii st f = some z) : ∃ q i x r, st = .int x :: .int i :: .ref q :: r ∧ f q i x r = some z := by
  unfold dm_rii at h
  split at h
  · exact ⟨_, _, _, _, rfl, h⟩
  · cases h
theorem dm_a1_inv {st : List Value} {f : Value → List Value → Option dm_R} {z : dm_R} (h : dm_a1 st f = some z) : ∃ v r, st = v :: r ∧ (v = .null ∨ ∃ q, v = .ref q) ∧ f v r = some z := by
  unfold dm_a1 at h
  split at h
  · exact ⟨_, _, rfl, Or.inr ⟨_, rfl⟩, h⟩
  · exact ⟨_, _, rfl, Or.inl rfl, h⟩
  · cases h
theorem dm_n1_inv {st : List Value} {f : Bool → List Value → Option dm_R} {z : dm_R} (h : dm_n1 st f = some z) : (∃ q r, st = .ref q :: r ∧ q ≠ 70 ∧ f false r = some z) ∨ ∃ r, st = .null :: r ∧ f true r = some z := by
  unfold dm_n1 at h
  split at h
  · split at h
    · cases h
    · exact Or.inl ⟨_, _, rfl, by assumption, h⟩
  · exact Or.inr ⟨_, rfl, h⟩
  · cases h
theorem dm_pf_inv {st : List Value} {f : Int32 → Nat → List Value → Option dm_R} {g : List Value → Option dm_R} {z : dm_R} (h : dm_pf st f g = some z) : (∃ x q r, st = .int x :: .ref q :: r ∧ f x q r = some z) ∨ ∃ r, st = .ref 6 :: .ref 45 :: r ∧ g r = some z := by
  unfold dm_pf at h
  split at h
  · exact Or.inl ⟨_, _, _, rfl, h⟩
  · split at h
    next hc => exact Or.inr ⟨_, by rw [hc.1, hc.2], h⟩
    next => cases h
  · cases h
theorem dm_ac_inv {st : List Value} {f : Int32 → Nat → Nat → List Value → Option dm_R} {z : dm_R} (h : dm_ac st f = some z) : ∃ n q1 q0 r, st = .int n :: .int 0 :: .ref q1 :: .int 0 :: .ref q0 :: r ∧ f n q1 q0 r = some z := by
  unfold dm_ac at h
  split at h
  · split at h
    next hc => exact ⟨_, _, _, _, by rw [hc.1, hc.2], h⟩
    next => cases h
  · cases h
theorem dm_s1_inv {st : List Value} {f : Value → List Value → Option dm_R} {z : dm_R} (h : dm_s1 st f = some z) : ∃ v r, st = v :: r ∧ v.category = 1 ∧ f v r = some z := by
  unfold dm_s1 at h
  split at h
  · exact ⟨_, _, rfl, rfl, h⟩
  · exact ⟨_, _, rfl, rfl, h⟩
  · exact ⟨_, _, rfl, rfl, h⟩
  · cases h
theorem dm_gi_inv {L : dm_LV} {i : Nat} {f : Int32 → Option dm_R} {z : dm_R} (h : dm_gi L i f = some z) : ∃ x, L[i]? = some (some (.int x)) ∧ f x = some z := by
  unfold dm_gi at h
  split at h
  · exact ⟨_, by assumption, h⟩
  · cases h
theorem dm_gl_inv {L : dm_LV} {i : Nat} {f : Int64 → Option dm_R} {z : dm_R} (h : dm_gl L i f = some z) : ∃ x, L[i]? = some (some (.long x)) ∧ f x = some z := by
  unfold dm_gl at h
  split at h
  · exact ⟨_, by assumption, h⟩
  · cases h
theorem dm_ga_inv {L : dm_LV} {i : Nat} {f : Value → Option dm_R} {z : dm_R} (h : dm_ga L i f = some z) : ∃ v, L[i]? = some (some v) ∧ (v = .null ∨ ∃ q, v = .ref q) ∧ f v = some z := by
  unfold dm_ga at h
  split at h
  · exact ⟨_, by assumption, Or.inr ⟨_, rfl⟩, h⟩
  · exact ⟨_, by assumption, Or.inl rfl, h⟩
  · cases h
theorem dm_st_inv {L : dm_LV} {i : Nat} {v : Value} {f : dm_LV → Option dm_R} {z : dm_R} (h : dm_st L i v f = some z) : i < L.length ∧ f ((dm_kl L i).set i (some v)) = some z := by
  unfold dm_st at h
  split at h
  · exact ⟨by assumption, h⟩
  · cases h
theorem dm_stl_inv {L : dm_LV} {i : Nat} {v : Value} {f : dm_LV → Option dm_R} {z : dm_R} (h : dm_stl L i v f = some z) : i + 1 < L.length ∧ f (((dm_kl L i).set i (some v)).set (i + 1) none) = some z := by
  unfold dm_stl at h
  split at h
  · exact ⟨by assumption, h⟩
  · cases h
theorem dm_cv_a {ad : Nat → Nat} {fm : Value} (hfm : fm = .null ∨ ∃ x, fm = .ref x) {v : Value} (h : v = .null ∨ ∃ q, v = .ref q) : dm_cv ad fm v = .null ∨ ∃ x, dm_cv ad fm v = .ref x := by
  rcases h with rfl | ⟨q, rfl⟩
  · exact Or.inl rfl
  · unfold dm_cv
    dsimp only
    split
    · exact hfm
    · exact Or.inr ⟨_, rfl⟩
theorem dm_cv_r {ad : Nat → Nat} {fm : Value} {q : Nat} (h : q ≠ 70) : dm_cv ad fm (.ref q) = .ref (ad q) := by
  unfold dm_cv
  dsimp only
  rw [if_neg h]
