/-! the deep machine is sound: what it comes to, the machine comes to -/
def dm_rm (d : Nat) : Room := { frames := d + 1, cells := 0, slots := 0, locals := 40 * (d + 1) }
def dm_mw (k : Nat) : List Jvm.Cond := Jvm.Cond.code (dm_y k) (dm_b k) (dm_ml k) (dm_rt k) :: dm_GW
def dm_Pc (ad : Nat → Nat) (fm : Value) (dC : Nat → ClassId) (dI : Nat → Nat → Nat) (cI cZ cO : ClassId) (L0 : Nat) (SM : dm_M) (as : List Value) (M : dm_M) : Array Value → State → Prop := fun v U =>
  v = (as.map (dm_cv ad fm)).toArray ∧ va_P (dC, dI) vwCl (dm_ws ad fm cI cZ cO M) U.heap ∧ dm_E ad fm dC dI cI cZ cO L0 SM U
def dm_Qc (ad : Nat → Nat) (fm : Value) (dC : Nat → ClassId) (dI : Nat → Nat → Nat) (cI cZ cO : ClassId) (r : Option Value) (M' : dm_M) : Array Value → State → Outcome → State → Prop := fun _ st o t =>
  o = .returned (r.map (dm_cv ad fm)) ∧ va_P (dC, dI) vwCl (dm_ws ad fm cI cZ cO M') t.heap ∧ va_F (dm_A ad) st t
theorem dm_Y_spec {k : Nat} (hk : k < 179) : Jvm.Cond.code (dm_y k) (dm_b k) (dm_ml k) (dm_rt k) ∈ dm_GW ∧ Jvm.Cond.initialized (dm_y k).cls ∈ dm_GW ∧ plainName (dm_y k).cls = true ∧ ((dm_y k).cls ≠ "java/lang/invoke/MethodHandle" ∧ (dm_y k).cls ≠ "java/lang/invoke/VarHandle") ∧ dm_ml k ≤ 12 ∧
    (dm_sta k = true → Jvm.Cond.static (dm_y k) ∈ dm_GW ∧ (parseMethodDescriptor (dm_y k).desc).map (fun d => d.parameters.length) = some (dm_na k)) ∧
    (dm_sta k = false → Jvm.Cond.instanceMethod (dm_y k) ∈ dm_GW ∧ (parseMethodDescriptor (dm_y k).desc).map (fun d => d.parameters.length + 1) = some (dm_na k) ∧ Jvm.Cond.selects (dm_y k).cls (dm_y k) (dm_y k) ∈ dm_GW ∧ dm_cl k < 7 ∧ (dm_y k).cls = dm_cn (dm_cl k)) := by
  have h := dm_okY_all k hk
  have hc : Jvm.Cond.code (dm_y k) (dm_b k) (dm_ml k) (dm_rt k) ∈ dm_GW := dm_T_in (dm_okc_all k hk) rfl
  unfold dm_okY at h
  cases h1 : dm_ii[k]? with
  | none => rw [h1] at h; exact absurd h (by simp)
  | some b =>
    cases h2 : dm_ni[k]? with
    | none => rw [h1, h2] at h; exact absurd h (by simp)
    | some c =>
      cases h3 : dm_si[k]? with
      | none => rw [h1, h2, h3] at h; exact absurd h (by simp)
      | some d =>
        rw [h1, h2, h3] at h
        dsimp only at h
        simp only [Bool.and_eq_true, decide_eq_true_eq] at h
        obtain ⟨⟨⟨⟨⟨g1, g2⟩, g3⟩, g4⟩, g5⟩, g6⟩ := h
        refine ⟨hc, dm_T_in g1 g2, g3, g4, g5, fun hs => ?_, fun hs => ?_⟩
        · rw [if_pos hs] at g6
          simp only [Bool.and_eq_true, decide_eq_true_eq] at g6
          exact ⟨dm_T_in g6.1.1 g6.1.2, g6.2⟩
        · rw [if_neg (by rw [hs]; decide)] at g6
          simp only [Bool.and_eq_true, decide_eq_true_eq] at g6
          obtain ⟨⟨⟨⟨⟨q1, q2⟩, q3⟩, q4⟩, q5⟩, q6⟩ := g6
          refine ⟨dm_T_in q1 q2, q3, ?_, q6⟩
          by_cases hd : d < 1000
          · rw [if_pos hd] at q4
            exact dm_T_in q4 q5
          · rw [if_neg hd] at q4
            exact dm_S_in q4 q5
theorem dm_M_spec {j : Nat} {x : String × Nat × Nat × String} (h : dm_ML[j]? = some x) (hx : x.2.2.1 < 900) : x.2.2.1 < 179 ∧ (x.2.2.2 = "" ∧ Jvm.Cond.methodLink x.1 x.2.1 (dm_y x.2.2.1) ∈ dm_GW ∨ ¬ x.2.2.2 = "" ∧ Jvm.Cond.methodLinkNest x.1 x.2.1 (dm_y x.2.2.1) x.2.2.2 ∈ dm_NW) := by
  have h1 := dm_ML_of h
  have h9 : ∀ x ∈ dm_ML, x.2.2.1 ≠ 179 := by decide +kernel
  unfold dm_okM at h1
  rw [h] at h1
  cases hi : dm_MLi[j]? with
  | none => rw [hi] at h1; exact absurd h1 (by simp)
  | some i =>
    rw [hi] at h1
    dsimp only at h1
    rw [if_pos hx] at h1
    simp only [Bool.and_eq_true, Bool.or_eq_true, decide_eq_true_eq] at h1
    obtain ⟨⟨e1, e2⟩, e3⟩ := h1
    refine ⟨by have := h9 x (List.mem_of_getElem? h); omega, ?_⟩
    unfold dm_wM at e1 e2
    rcases e2 with ⟨q1, q2⟩ | ⟨q1, q2⟩
    · rw [if_pos q1] at e1 q2
      exact Or.inl ⟨q1, dm_T_in e1 q2⟩
    · rw [if_neg q1] at e1 q2
      exact Or.inr ⟨q1, dm_N_in e1 q2⟩
section
variable {ad : Nat → Nat} {fm : Value}
theorem dm_sl_len (hfm : fm = .null ∨ ∃ x, fm = .ref x) : ∀ as : List Value, (lg_sl (as.map (dm_cv ad fm))).length = (dm_args as).length
  | [] => rfl
  | v :: r => by
    have ih := dm_sl_len hfm r
    have e : lg_sl ((v :: r).map (dm_cv ad fm)) = (if (dm_cv ad fm v).category = 2 then [Slot.val (dm_cv ad fm v), Slot.second] else [Slot.val (dm_cv ad fm v)]) ++ lg_sl (r.map (dm_cv ad fm)) := rfl
    rw [e, dm_cv_cat hfm]
    unfold dm_args
    by_cases h : v.category = 2
    · rw [if_pos h, if_pos h, List.length_append, ih]
      simp only [List.length_cons, List.length_nil]
      omega
    · rw [if_neg h, if_neg h, List.length_append, ih]
      simp only [List.length_cons, List.length_nil]
      omega
theorem dm_args_at (hfm : fm = .null ∨ ∃ x, fm = .ref x) : ∀ (as : List Value) (i j : Nat) (v : Value), (dm_args as)[j]? = some (some v) → (i + j, dm_cv ad fm v) ∈ lv_args i (as.map (dm_cv ad fm))
  | [], i, j, v, h => by simp [dm_args] at h
  | w :: r, i, j, v, h => by
    unfold dm_args at h
    rw [List.map_cons]
    unfold lv_args
    rw [dm_cv_cat hfm]
    by_cases hc : w.category = 2
    · rw [if_pos hc] at h ⊢
      match j, h with
      | 0, h => cases h; exact List.mem_cons_self
      | 1, h => cases h
      | j + 2, h =>
        have := dm_args_at hfm r (i + 2) j v h
        rw [show i + (j + 2) = i + 2 + j by omega]
        exact List.mem_cons_of_mem _ this
    · rw [if_neg hc] at h ⊢
      match j, h with
      | 0, h => cases h; exact List.mem_cons_self
      | j + 1, h =>
        have := dm_args_at hfm r (i + 1) j v h
        rw [show i + (j + 1) = i + 1 + j by omega]
        exact List.mem_cons_of_mem _ this
theorem dm_ini_len {k : Nat} {as : List Value} (h : (dm_args as).length ≤ dm_ml k) : (dm_ini k as).length = dm_ml k := by
  unfold dm_ini
  rw [List.length_append, List.length_replicate]
  omega
theorem dm_ini_lr (hfm : fm = .null ∨ ∃ x, fm = .ref x) {k : Nat} {as : List Value} {ls : Array Slot} (h : lv_has ls (dm_ml k) (lv_args 0 (as.map (dm_cv ad fm)))) : dm_lr ad fm ls (dm_ml k) (dm_ini k as) := by
  refine ⟨h.1, h.2.1, fun i v hi => ?_⟩
  unfold dm_ini at hi
  rcases Nat.lt_or_ge i (dm_args as).length with q | q
  · rw [List.getElem?_append_left q] at hi
    have := h.2.2 _ (dm_args_at (ad := ad) hfm as 0 i v hi)
    rw [Nat.zero_add] at this
    exact this
  · rw [List.getElem?_append_right q] at hi
    have := List.mem_of_getElem? hi
    exact absurd (List.eq_of_mem_replicate this) (by simp)
end
section
variable {ad : Nat → Nat} {fm : Value} {dC : Nat → ClassId} {dI : Nat → Nat → Nat} {cI cZ cO : ClassId} {L0 : Nat} {SM : dm_M}
variable {p : Program} {l : Launch} {e : Env} {R : Room} {s : State} {m : MethodId} {args : Array Value} {below : List Frame} {meth : Method} {c : Code} {H : Heap} {locs : List Loc} {cells slots : Nat} {Q : State → Prop}
/-- behind a call of a method of the deep machine -/
theorem dm_callK {pc : Nat} {ls : Array Slot} {rest st0 : List Value} {a : Array Value} {r : Option Value} {M' : dm_M}
    (hr : va_Run p l e R s m args below meth c H locs cells slots 0 0 (F0 m pc ls st0) rest (dm_Qc ad fm dC dI cI cZ cO r M' a) (dm_A ad)) (hS : va_S (dm_A ad) s.heap H locs)
    (kk : ∀ (H1 : Heap) (locs1 : List Loc), va_P (dC, dI) vwCl (dm_ws ad fm cI cZ cO M') H1 → va_S (dm_A ad) s.heap H1 locs1 → W p l e R s m args below meth c H1 locs1 cells slots Q (F0 m (pc + 3) ls ((r.map (dm_cv ad fm)).toList ++ rest))) : W p l e R s m args below meth c H locs cells slots Q (F0 m pc ls st0) := by
  intro T hT X
  obtain ⟨v, st₀, t, T', L, h0, X', hL, e1, e2, ⟨hv, hp, hz, hk⟩, st⟩ := hr T hT X
  cases hv
  rw [h0] at hz hk
  rw [← e1] at hp hz hk
  obtain ⟨t2, a1, b1⟩ := kk T'.heap (locs ++ L) hp
    ⟨Nat.le_trans hS.1 hz, fun q h1 h2 => by rw [hk q (Nat.lt_of_lt_of_le h1 hS.1) h2]; exact hS.2.1 q h1 h2, fun q hq => by
      rcases List.mem_append.mp hq with h | h
      · exact hS.2.2 q h
      · exact hL q h⟩ T' rfl X'
  exact ⟨t2, st t2 a1, b1⟩
/-- a method's end -/
theorem dm_ret_sound {k pc cp : Nat} {i : Instr} {st : List Value} {r : Option Value} {M' : dm_M} {ls : Array Slot} {a : Array Value}
    (hx : p.tables.exec = Jvm.exec) (hb : c.code = dm_b k) (hr : meth.sig.returnType = dm_rt k) (hlocks : meth.locks = false) (hfm : fm = .null ∨ ∃ x, fm = .ref x)
    (hd : decode (dm_b k) pc = .ok (dm_raw pc i cp, dm_len pc i)) (hret : dm_ret k i st = some r)
    (hP : va_P (dC, dI) vwCl (dm_ws ad fm cI cZ cO M') H) (hS : va_S (dm_A ad) s.heap H locs) :
    W p l e R s m args below meth c H locs cells slots (MQ below (dm_Qc ad fm dC dI cI cZ cO r M') args s cells slots (dm_A ad)) (F0 m pc ls (st.map (dm_cv ad fm))) := by
  have hq : ∀ t : State, t.heap = H → s.WarmedH t.vm → dm_Qc ad fm dC dI cI cZ cO r M' args s (.returned (r.map (dm_cv ad fm))) t := fun t ht _ => ⟨rfl, by rw [ht]; exact hP, hS.F ht⟩
  unfold dm_ret at hret
  split at hret
  · split at hret
    next hn =>
      cases hret
      exact W.vret hx hb (by rw [hr]; exact hn) hq hS.2.2 hd hlocks
    next => cases hret
  · split at hret
    next hn =>
      cases hret
      exact W.iret hx hb (by rw [hr]; exact hn) hq hS.2.2 hd hlocks
    next hn =>
      split at hret
      next hv =>
        cases hret
        exact W.zret (ty := .boolean) hx hb (by rw [hr]; exact hn) (by rcases hv with rfl | rfl <;> rfl) hq hS.2.2 hd hlocks
      next => cases hret
    next hn =>
      split at hret
      next hv =>
        cases hret
        exact W.zret (ty := .byte) hx hb (by rw [hr]; exact hn) hv hq hS.2.2 hd hlocks
      next => cases hret
    next hn =>
      split at hret
      next hv =>
        cases hret
        exact W.zret (ty := .char) hx hb (by rw [hr]; exact hn) hv hq hS.2.2 hd hlocks
      next => cases hret
    next => cases hret
  · split at hret
    next hn =>
      cases hret
      exact W.lret hx hb (by rw [hr]; exact hn) hq hS.2.2 hd hlocks
    next => cases hret
  · split at hret
    next n hn =>
      cases hret
      exact W.aret hx hb (by rw [hr]; exact hn) (Or.inl ⟨n, rfl⟩) (dm_cv_a hfm (Or.inr ⟨_, rfl⟩)) hq hS.2.2 hd hlocks
    next => cases hret
  · split at hret
    next n hn =>
      cases hret
      exact W.aret hx hb (by rw [hr]; exact hn) (Or.inl ⟨n, rfl⟩) (Or.inl rfl) hq hS.2.2 hd hlocks
    next => cases hret
  · cases hret
end
/-- the deep machine's runs of n steps at most are the machine's -/
def dm_Snd (l : Launch) (ad : Nat → Nat) (fm : Value) (dC : Nat → ClassId) (dI : Nat → Nat → Nat) (cI cZ cO : ClassId) (L0 : Nat) (SM : dm_M) (n : Nat) : Prop :=
  ∀ (d k pc : Nat) (L : dm_LV) (st : List Value) (M : dm_M) (r : Option Value) (M' : dm_M), dm_run n d k pc L st M = some (r, M') → L.length = dm_ml k → (∀ q, 62 ≤ q → M q = SM q) →
  ∀ (p : Program) (e : Env) (R : Room) (s : State) (m : MethodId) (args : Array Value) (below : List Frame) (meth : Method) (c : Code) (H : Heap) (locs : List Loc) (cells slots : Nat) (Q : State → Prop) (ls : Array Slot),
  p.tables.exec = Jvm.exec → c.code = dm_b k → c.maxLocals = dm_ml k → s.vm.findClass (dm_y k).cls = some m.cls → (∀ w ∈ dm_GW, w.before args s = true) → dm_E ad fm dC dI cI cZ cO L0 SM s →
  va_S (dm_A ad) s.heap H locs → va_P (dC, dI) vwCl (dm_ws ad fm cI cZ cO M) H → dm_lr ad fm ls (dm_ml k) L → (d + 1 ≤ R.frames ∧ 40 * (d + 1) ≤ R.locals ∧ cells ≤ R.cells ∧ slots ≤ R.slots) →
  (∀ (pc' cp : Nat) (i : Instr) (st' : List Value) (ls' : Array Slot) (H' : Heap) (locs' : List Loc), dm_at k pc' = some (i, cp) → dm_ret k i st' = some r → va_P (dC, dI) vwCl (dm_ws ad fm cI cZ cO M') H' → va_S (dm_A ad) s.heap H' locs' → (∀ q, 62 ≤ q → M' q = SM q) →
    W p l e R s m args below meth c H' locs' cells slots Q (F0 m pc' ls' (st'.map (dm_cv ad fm)))) →
  W p l e R s m args below meth c H locs cells slots Q (F0 m pc ls (st.map (dm_cv ad fm)))
section
variable {l : Launch} {ad : Nat → Nat} {fm : Value} {dC : Nat → ClassId} {dI : Nat → Nat → Nat} {cI cZ cO : ClassId} {L0 : Nat} {SM : dm_M}
/-- a method's contract out of its run -/
theorem dm_met {n d k : Nat} {as : List Value} {M M' : dm_M} {r : Option Value} (hn : dm_Snd l ad fm dC dI cI cZ cO L0 SM n) (hfm : fm = .null ∨ ∃ x, fm = .ref x) (hk : k < 179) (hlen : (dm_args as).length ≤ dm_ml k) (hM : ∀ q, 62 ≤ q → M q = SM q) (hrun : dm_run n d k 0 (dm_ini k as) [] M = some (r, M')) :
    Met l (dm_y k) (dm_mw k) (dm_rm d) (dm_Pc ad fm dC dI cI cZ cO L0 SM as M) (dm_Qc ad fm dC dI cI cZ cO r M') 0 0 (dm_A ad) := by
  obtain ⟨y1, y2, y3, -⟩ := dm_Y_spec hk
  refine Met.ofW (cc := dm_b k) (maxL := dm_ml k) (ret := dm_rt k) y3 rfl ?_
  intro p e s m args below meth c s₁ B hml hv
  obtain ⟨rfl, hP, hE⟩ := hv
  have hts := atoms_spec (ws := dm_mw k) B.pre
  have hown : s.vm.findClass (dm_y k).cls = some m.cls := findClass_of_methodNamed B.named
  have hl := lv_entry (as.map (dm_cv ad fm)) (n := dm_ml k) (by rw [dm_sl_len hfm]; exact hlen)
  rw [lg_entry_eq]
  generalize (lg_sl (as.map (dm_cv ad fm)) ++ List.replicate (dm_ml k - (lg_sl (as.map (dm_cv ad fm))).length) Slot.unset).toArray = ls at hl ⊢
  have hl2 := dm_ini_lr hfm hl
  refine hn d k 0 (dm_ini k as) [] M r M' hrun (dm_ini_len hlen) hM p e _ s m _ below meth c s.heap [] 0 0 _ ls B.exec B.bytes hml hown (fun w hw => hts w (List.mem_cons_of_mem _ hw)) hE va_S.rf hP hl2 ⟨Nat.le_refl _, Nat.le_refl _, Nat.le_refl _, Nat.le_refl _⟩ ?_
  intro pc' cp i st' ls' H' locs' ha hret hP' hS' hM'
  exact dm_ret_sound (a := #[]) B.exec B.bytes B.returns B.notSynchronized hfm (dm_ck_of ha).1 hret hP' hS'
end
