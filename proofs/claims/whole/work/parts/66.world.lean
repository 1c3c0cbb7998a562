/-! the deep machine's cells as a world of the machine; its words of the tables; its locals -/
theorem dm_T_in {w : Jvm.Cond} {i : Nat} (h : tables_1[i]? = some w) (hg : goodWord w = true) : w ∈ dm_GW := List.mem_filter.mpr ⟨List.mem_append_right _ (List.mem_of_getElem? h), hg⟩
theorem dm_S_in {w : Jvm.Cond} {i : Nat} (h : (k2_sels lw_privs)[i]? = some w) (hg : goodWord w = true) : w ∈ dm_GW := List.mem_filter.mpr ⟨List.mem_append_left _ (List.mem_of_getElem? h), hg⟩
theorem dm_N_in {w : Jvm.Cond} {i : Nat} (h : tables_1[i]? = some w) (hg : dm_nest w = true) : w ∈ dm_NW := List.mem_filter.mpr ⟨List.mem_append_right _ (List.mem_of_getElem? h), hg⟩
theorem dm_GW_good : ∀ w ∈ dm_GW, goodWord w = true := fun w h => (List.mem_filter.mp h).2
theorem dm_good (c c' : Jvm.Cond) (h : c' ∈ dm_GW) : GoodIn (c :: dm_GW) (c' :: dm_GW) := by
  intro w hw
  have h1 : w ∈ dm_GW := by
    rcases List.mem_cons.mp hw with rfl | h2
    · exact h
    · exact h2
  exact ⟨List.mem_cons_of_mem _ h1, good_of_word (dm_GW_good w h1)⟩
theorem dm_lt_of {α : Type} {l : List α} {j : Nat} {x : α} (h : l[j]? = some x) : j < l.length := (List.getElem?_eq_some_iff.mp h).1
theorem dm_FL_of {j : Nat} {x : String × Nat × Nat × Nat × String × Nat × Bool} (h : dm_FL[j]? = some x) : dm_okF j = true := List.all_eq_true.mp dm_okF_all j (List.mem_range.mpr (dm_lt_of h))
theorem dm_ML_of {j : Nat} {x : String × Nat × Nat × String} (h : dm_ML[j]? = some x) : dm_okM j = true := List.all_eq_true.mp dm_okM_all j (List.mem_range.mpr (dm_lt_of h))
theorem dm_SL_of {j : Nat} {x : String × Nat × String × String × String × Value} (h : dm_SL[j]? = some x) : dm_okS j = true := List.all_eq_true.mp dm_okS_all j (List.mem_range.mpr (dm_lt_of h))
theorem dm_CL_of {j : Nat} {x : String × Nat × Value} (h : dm_CL[j]? = some x) : dm_okC j = true := List.all_eq_true.mp dm_okC_all j (List.mem_range.mpr (dm_lt_of h))
/-- what is said of a field link -/
theorem dm_F_spec {j : Nat} {x : String × Nat × Nat × Nat × String × Nat × Bool} (h : dm_FL[j]? = some x) : (x.2.2.2.2.1 = "" ∧ dm_wF x ∈ dm_GW ∨ ¬ x.2.2.2.2.1 = "" ∧ dm_wF x ∈ dm_NW ∧ x.2.2.1 < 6) ∧ x.2.2.1 < 7 ∧ x.2.2.2.1 < dm_cN x.2.2.1 ∧ x.2.2.2.2.2.2 = (dm_fn x.2.2.1 x.2.2.2.1).2.2.2 ∧ (dm_fn x.2.2.1 x.2.2.2.1).1 = dm_cn x.2.2.1 ∧
    (x.2.2.2.2.2.1 = 0 → (dm_fn x.2.2.1 x.2.2.2.1).2.2.1 = "I") ∧ (x.2.2.2.2.2.1 = 1 → (dm_fn x.2.2.1 x.2.2.2.1).2.2.1 = "Z") := by
  have h1 := dm_FL_of h
  unfold dm_okF at h1
  rw [h] at h1
  cases hi : dm_FLi[j]? with
  | none => rw [hi] at h1; exact absurd h1 (by simp)
  | some i =>
    rw [hi] at h1
    dsimp only at h1
    simp only [Bool.and_eq_true, Bool.or_eq_true, decide_eq_true_eq] at h1
    obtain ⟨⟨⟨⟨⟨e1, e2⟩, e3⟩, e4⟩, e5⟩, e6⟩ := h1
    refine ⟨?_, e3.1, e3.2, e4, e5, fun z => by rw [if_pos z] at e6; exact e6, fun z => by rw [if_neg (by omega), if_pos z] at e6; exact e6⟩
    rcases e2 with ⟨q1, q2⟩ | ⟨⟨q1, q2⟩, q3⟩
    · exact Or.inl ⟨q1, dm_T_in e1 q2⟩
    · exact Or.inr ⟨q1, dm_N_in e1 q2, q3⟩
theorem dm_vw {ci : Nat} (h : ci < 6) : vwCl[ci]? = some (dm_cn ci, dm_fn ci, dm_cN ci) := by
  match ci, h with
  | 0, _ => rfl
  | 1, _ => rfl
  | 2, _ => rfl
  | 3, _ => rfl
  | 4, _ => rfl
  | 5, _ => rfl
theorem dm_ctyok {ci : Nat} (h : ci < 6) : ∀ k, k < dm_cN ci → parseFieldDescriptor (dm_fn ci k).2.2.1 = some (dm_cty ci k) := by
  match ci, h with
  | 0, _ => exact tyX0_ok
  | 1, _ => exact tyX1_ok
  | 2, _ => exact tyX2_ok
  | 3, _ => exact tyX3_ok
  | 4, _ => exact tyX4_ok
  | 5, _ => exact tyX5_ok
theorem dm_cnm {ci : Nat} (h : ci < 6) : ∀ a, a < dm_cN ci → ∀ b, b < dm_cN ci → a ≠ b → (dm_fn ci a).2.1 ≠ (dm_fn ci b).2.1 := by
  match ci, h with
  | 0, _ => exact nmX0
  | 1, _ => exact nmX1
  | 2, _ => exact nmX2
  | 3, _ => exact nmX3
  | 4, _ => exact nmX4
  | 5, _ => exact nmX5
theorem dm_kd_obj {q : Nat} (h : dm_kd q < 6) : q < 62 ∧ (dm_fs q).length = dm_cN (dm_kd q) := by
  have := dm_kd_fin (fun q d => d < 6 → q < 62 ∧ (dm_fs q).length = dm_cN d) (by decide +kernel) (fun q _ h => absurd h (by decide)) q
  exact this h
theorem dm_kd_arr {q : Nat} (h : dm_kd q = 100 ∨ dm_kd q = 101 ∨ dm_kd q = 102) : q < 62 := by
  have := dm_kd_fin (fun q d => d = 100 ∨ d = 101 ∨ d = 102 → q < 62) (by decide +kernel) (fun q _ h => absurd h (by decide)) q
  exact this h
theorem dm_kd_103 {q : Nat} (h : dm_kd q = 103) : q = 62 ∨ q = 63 := by
  have := dm_kd_fin (fun q d => d = 103 → q = 62 ∨ q = 63) (by decide +kernel) (fun q _ h => absurd h (by decide)) q
  exact this h
theorem dm_kd_104 {q : Nat} (h : dm_kd q = 104) : q = 64 := by
  have := dm_kd_fin (fun q d => d = 104 → q = 64) (by decide +kernel) (fun q _ h => absurd h (by decide)) q
  exact this h
theorem dm_kd_6 {q : Nat} (h : dm_kd q = 6) : q = 65 ∨ q = 66 := by
  have := dm_kd_fin (fun q d => d = 6 → q = 65 ∨ q = 66) (by decide +kernel) (fun q _ h => absurd h (by decide)) q
  exact this h
theorem dm_kd_107 {q : Nat} (h : dm_kd q = 107) : q = 67 ∨ q = 68 := by
  have := dm_kd_fin (fun q d => d = 107 → q = 67 ∨ q = 68) (by decide +kernel) (fun q _ h => absurd h (by decide)) q
  exact this h
theorem dm_kd_in : ∀ q, q < 62 → (dm_kd q < 6 ∨ dm_kd q = 100 ∨ dm_kd q = 101 ∨ dm_kd q = 102) := by decide +kernel
/-- no cell refers to what isn't known -/
theorem dm_fs_70 {q k : Nat} (h : (dm_fs q)[k]? = some 71) : False := by
  have h1 : ∀ q, q < 69 → 71 ∉ dm_fs q := by decide +kernel
  rcases Nat.lt_or_ge q 69 with z | z
  · exact h1 q z (List.mem_of_getElem? h)
  · have : dm_fs q = [] := by
      unfold dm_fs
      rw [List.getD_eq_getElem?_getD, List.getElem?_eq_none (by rw [show dm_LY.length = 69 by decide +kernel]; exact z)]
      rfl
    rw [this] at h
    exact absurd h (by simp)
def dm_cv (ad : Nat → Nat) (fm : Value) (v : Value) : Value := match v with
  | .ref q => if q = 70 then fm else .ref (ad q)
  | z => z
def dm_ce (ad : Nat → Nat) (fm : Value) (cI cZ cO : ClassId) (M : dm_M) (q : Nat) : va_E :=
  if dm_kd q = 100 then .inl (cI, dm_ln q, .inl (M q))
  else if dm_kd q = 101 then .inl (cZ, dm_ln q, .inl (M q))
  else if dm_kd q = 102 then .inl (cO, (dm_fs q).length, .inr (.inr (.inr (.inr (fun i => ((dm_fs q)[i]?).map ad)))))
  else .inr (dm_kd q, (dm_fs q).mapIdx (fun k c => dm_cv ad fm (dm_fv c (M q k))))
def dm_ws (ad : Nat → Nat) (fm : Value) (cI cZ cO : ClassId) (M : dm_M) : va_W := (List.range 62).map (fun q => (ad q, dm_ce ad fm cI cZ cO M q))
def dm_A (ad : Nat → Nat) : Nat → Prop := fun a => ∃ k, k < 62 ∧ a = ad k
def dm_J (ad : Nat → Nat) : Prop := ∀ i j, i < 62 → j < 62 → ad i = ad j → i = j
section
variable {ad : Nat → Nat} {fm : Value} {cI cZ cO : ClassId} {M M' : dm_M}
theorem dm_ws_at {q : Nat} (h : q < 62) : (dm_ws ad fm cI cZ cO M)[q]? = some (ad q, dm_ce ad fm cI cZ cO M q) := by
  unfold dm_ws
  rw [List.getElem?_map, List.getElem?_range h]
  rfl
theorem dm_ws_set {q : Nat} (h : q < 62) (ho : ∀ a, a < 62 → a ≠ q → dm_ce ad fm cI cZ cO M' a = dm_ce ad fm cI cZ cO M a) : (dm_ws ad fm cI cZ cO M).set q (ad q, dm_ce ad fm cI cZ cO M' q) = dm_ws ad fm cI cZ cO M' := by
  apply List.ext_getElem?
  intro i
  by_cases hi : i < 62
  · rw [dm_ws_at hi]
    by_cases e : i = q
    · subst e
      rw [List.getElem?_set_self (by unfold dm_ws; simp; exact hi)]
    · rw [List.getElem?_set_ne (fun z => e z.symm), dm_ws_at hi, ho i hi e]
  · rw [List.getElem?_eq_none (by unfold dm_ws; simp; omega), List.getElem?_eq_none (by unfold dm_ws; simp; omega)]
theorem dm_ws_D (hj : dm_J ad) : va_D (dm_A ad) (dm_ws ad fm cI cZ cO M) := by
  have key : ∀ (i : Nat) (p : Nat × va_E), (dm_ws ad fm cI cZ cO M)[i]? = some p → i < 62 ∧ p.1 = ad i := by
    intro i p h
    have hi : i < 62 := by
      have := dm_lt_of h
      unfold dm_ws at this
      simpa using this
    rw [dm_ws_at hi] at h
    cases h
    exact ⟨hi, rfl⟩
  refine ⟨fun i j p q h1 h2 e => ?_, fun k q h => ?_⟩
  · obtain ⟨a1, a2⟩ := key i p h1
    obtain ⟨b1, b2⟩ := key j q h2
    exact hj i j a1 b1 (by rw [← a2, ← b2]; exact e)
  · obtain ⟨a1, a2⟩ := key k q h
    exact ⟨k, a1, a2⟩
theorem dm_up_ne {q k a : Nat} {v : Int32} (h : a ≠ q) : dm_up M q k v a = M a := by
  funext b
  unfold dm_up
  rw [if_neg (fun z => h z.1)]
theorem dm_up_self {q k : Nat} {v : Int32} : dm_up M q k v q = upd (M q) k v := by
  funext b
  unfold dm_up upd
  by_cases h : b = k
  · rw [if_pos ⟨rfl, h⟩, if_pos h]
  · rw [if_neg (fun z => h z.2), if_neg h]
theorem dm_ce_of {a : Nat} (h : M' a = M a) : dm_ce ad fm cI cZ cO M' a = dm_ce ad fm cI cZ cO M a := by
  unfold dm_ce
  rw [h]
end
/-- the locals -/
def dm_lr (ad : Nat → Nat) (fm : Value) (ls : Array Slot) (n : Nat) (L : dm_LV) : Prop := ls.size = n ∧ lv_wf ls ∧ ∀ (i : Nat) (v : Value), L[i]? = some (some v) → ls[i]? = some (.val (dm_cv ad fm v))
def dm_al (ad : Nat → Nat) (fm : Value) (L : dm_LV) : List (Nat × Value) := (List.range L.length).filterMap (fun j => match L[j]? with | some (some v) => some (j, dm_cv ad fm v) | _ => none)
section
variable {ad : Nat → Nat} {fm : Value} {L : dm_LV} {ls : Array Slot} {n : Nat}
theorem dm_al_in {j : Nat} {w : Value} : (j, w) ∈ dm_al ad fm L ↔ ∃ v, L[j]? = some (some v) ∧ w = dm_cv ad fm v := by
  unfold dm_al
  rw [List.mem_filterMap]
  constructor
  · rintro ⟨a, -, h⟩
    split at h
    next v hv =>
      cases h
      exact ⟨v, hv, rfl⟩
    next => cases h
  · rintro ⟨v, h, rfl⟩
    exact ⟨j, List.mem_range.mpr (dm_lt_of h), by rw [h]⟩
theorem dm_lr_has (h : dm_lr ad fm ls n L) : lv_has ls n (dm_al ad fm L) := by
  refine ⟨h.1, h.2.1, fun q hq => ?_⟩
  obtain ⟨j, w⟩ := q
  obtain ⟨v, h1, rfl⟩ := dm_al_in.mp hq
  exact h.2.2 j v h1
theorem dm_kl_len : ∀ (L : dm_LV) (i : Nat), (dm_kl L i).length = L.length
  | [], _ => by simp [dm_kl]
  | _ :: _, 0 => by simp [dm_kl]
  | _ :: _, 1 => by simp [dm_kl]
  | a :: L, n + 2 => by simp only [dm_kl, List.length_cons]; rw [dm_kl_len L (n + 1)]
theorem dm_kl_at : ∀ (L : dm_LV) (i j : Nat) (v : Value), (dm_kl L i)[j]? = some (some v) → L[j]? = some (some v) ∧ (j + 1 = i → v.category = 1)
  | [], _, j, v, h => by simp [dm_kl] at h
  | a :: L, 0, j, v, h => by simp only [dm_kl] at h; exact ⟨h, fun e => by omega⟩
  | a :: L, 1, 0, v, h => by
    simp only [dm_kl, List.getElem?_cons_zero, Option.some.injEq] at h
    cases a with
    | none => simp [dm_nl] at h
    | some w => cases w <;> simp [dm_nl] at h <;> subst h <;> exact ⟨rfl, fun _ => rfl⟩
  | a :: L, 1, j + 1, v, h => by
    simp only [dm_kl, List.getElem?_cons_succ] at h ⊢
    exact ⟨h, fun e => by omega⟩
  | a :: L, n + 2, 0, v, h => by
    simp only [dm_kl, List.getElem?_cons_zero] at h ⊢
    exact ⟨h, fun e => by omega⟩
  | a :: L, n + 2, j + 1, v, h => by
    simp only [dm_kl, List.getElem?_cons_succ] at h ⊢
    obtain ⟨h1, h2⟩ := dm_kl_at L (n + 1) j v h
    exact ⟨h1, fun e => h2 (by omega)⟩
theorem dm_cv_cat {v : Value} (hfm : fm = .null ∨ ∃ x, fm = .ref x) : (dm_cv ad fm v).category = v.category := by
  cases v <;> try rfl
  unfold dm_cv
  dsimp only
  split
  · rcases hfm with rfl | ⟨x, rfl⟩ <;> rfl
  · rfl
theorem dm_lr_st {ls' : Array Slot} {i : Nat} {v : Value} (hfm : fm = .null ∨ ∃ x, fm = .ref x) (hi : i < L.length) (h : lv_has ls' n ((i, dm_cv ad fm v) :: (dm_al ad fm L).filter (fun q => !(q.1 == i) && !(q.1 + 1 == i && q.2.category == 2)))) : dm_lr ad fm ls' n ((dm_kl L i).set i (some v)) := by
  refine ⟨h.1, h.2.1, fun j w hj => ?_⟩
  by_cases e : j = i
  · subst e
    rw [List.getElem?_set_self (by rw [dm_kl_len]; exact hi)] at hj
    cases hj
    exact h.2.2 (j, dm_cv ad fm v) List.mem_cons_self
  · rw [List.getElem?_set_ne (fun z => e z.symm)] at hj
    obtain ⟨h1, h2⟩ := dm_kl_at L i j w hj
    refine h.2.2 (j, dm_cv ad fm w) (List.mem_cons_of_mem _ (List.mem_filter.mpr ⟨dm_al_in.mpr ⟨w, h1, rfl⟩, ?_⟩))
    simp only [Bool.and_eq_true, Bool.not_eq_true', beq_eq_false_iff_ne, ne_eq, Bool.and_eq_false_iff]
    refine ⟨e, ?_⟩
    by_cases z : j + 1 = i
    · right
      rw [dm_cv_cat hfm, h2 z]
      decide
    · left
      exact z
theorem dm_lr_stl {ls' : Array Slot} {i : Nat} {v : Value} (hfm : fm = .null ∨ ∃ x, fm = .ref x) (hi : i < L.length) (h : lv_has ls' n ((i, dm_cv ad fm v) :: (dm_al ad fm L).filter (fun q => !(q.1 == i) && (!(q.1 == i + 1) && !(q.1 + 1 == i && q.2.category == 2))))) : dm_lr ad fm ls' n (((dm_kl L i).set i (some v)).set (i + 1) none) := by
  refine ⟨h.1, h.2.1, fun j w hj => ?_⟩
  have e1 : j ≠ i + 1 := by
    intro e
    subst e
    by_cases hl : i + 1 < ((dm_kl L i).set i (some v)).length
    · rw [List.getElem?_set_self hl] at hj
      cases hj
    · rw [List.getElem?_eq_none (by rw [List.length_set]; omega)] at hj
      cases hj
  rw [List.getElem?_set_ne (fun z => e1 z.symm)] at hj
  by_cases e : j = i
  · subst e
    rw [List.getElem?_set_self (by rw [dm_kl_len]; exact hi)] at hj
    cases hj
    exact h.2.2 (j, dm_cv ad fm v) List.mem_cons_self
  · rw [List.getElem?_set_ne (fun z => e z.symm)] at hj
    obtain ⟨h1, h2⟩ := dm_kl_at L i j w hj
    refine h.2.2 (j, dm_cv ad fm w) (List.mem_cons_of_mem _ (List.mem_filter.mpr ⟨dm_al_in.mpr ⟨w, h1, rfl⟩, ?_⟩))
    simp only [Bool.and_eq_true, Bool.not_eq_true', beq_eq_false_iff_ne, ne_eq, Bool.and_eq_false_iff]
    refine ⟨e, e1, ?_⟩
    by_cases z : j + 1 = i
    · right
      rw [dm_cv_cat hfm, h2 z]
      decide
    · left
      exact z
end
