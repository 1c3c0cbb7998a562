def dm_absI : Nat × Nat × Nat := (288, 7, 289)
def dm_cpyI : Nat × Nat × Nat := (552, 551, 13)
theorem dm_abs1 : tables_1[dm_absI.1]? = some (Jvm.Cond.static Lib.Math.abs.name) ∧ goodWord (Jvm.Cond.static Lib.Math.abs.name) = true := by decide +kernel
theorem dm_abs2 : tables_1[dm_absI.2.1]? = some (Jvm.Cond.initialized "java/lang/Math") ∧ goodWord (Jvm.Cond.initialized "java/lang/Math") = true := by decide +kernel
theorem dm_abs3 : tables_1[dm_absI.2.2]? = some (Jvm.Cond.code Lib.Math.abs.name Lib.Math.abs.code 1 (some .int)) ∧ goodWord (Jvm.Cond.code Lib.Math.abs.name Lib.Math.abs.code 1 (some .int)) = true := by decide +kernel
theorem dm_cpy1 : tables_1[dm_cpyI.1]? = some (Jvm.Cond.native arraycopyName) ∧ goodWord (Jvm.Cond.native arraycopyName) = true := by decide +kernel
theorem dm_cpy2 : tables_1[dm_cpyI.2.1]? = some (Jvm.Cond.static arraycopyName) ∧ goodWord (Jvm.Cond.static arraycopyName) = true := by decide +kernel
theorem dm_cpy3 : tables_1[dm_cpyI.2.2]? = some (Jvm.Cond.initialized "java/lang/System") ∧ goodWord (Jvm.Cond.initialized "java/lang/System") = true := by decide +kernel
/-! one step of the deep machine is a step of the machine -/
section
variable {ad : Nat → Nat} {fm : Value} {cI cZ cO : ClassId} {M : dm_M}
theorem dm_ce_obj {q : Nat} (h : dm_kd q < 6) : dm_ce ad fm cI cZ cO M q = .inr (dm_kd q, (dm_fs q).mapIdx (fun k c => dm_cv ad fm (dm_fv c (M q k)))) := by
  unfold dm_ce
  rw [if_neg (by omega), if_neg (by omega), if_neg (by omega)]
theorem dm_ce_100 {q : Nat} (h : dm_kd q = 100) : dm_ce ad fm cI cZ cO M q = .inl (cI, dm_ln q, .inl (M q)) := by
  unfold dm_ce
  rw [if_pos h]
theorem dm_ce_101 {q : Nat} (h : dm_kd q = 101) : dm_ce ad fm cI cZ cO M q = .inl (cZ, dm_ln q, .inl (M q)) := by
  unfold dm_ce
  rw [if_neg (by omega), if_pos h]
theorem dm_ce_102 {q : Nat} (h : dm_kd q = 102) : dm_ce ad fm cI cZ cO M q = .inl (cO, (dm_fs q).length, .inr (.inr (.inr (.inr (fun i => ((dm_fs q)[i]?).map ad))))) := by
  unfold dm_ce
  rw [if_neg (by omega), if_neg (by omega), if_pos h]
theorem dm_at_v {q k c : Nat} (h : (dm_fs q)[k]? = some c) : ((dm_fs q).mapIdx (fun k c => dm_cv ad fm (dm_fv c (M q k))))[k]? = some (dm_cv ad fm (dm_fv c (M q k))) := by
  rw [List.getElem?_mapIdx, h]
  rfl
/-- an int field is written -/
theorem dm_ce_put {q k : Nat} {x : Int32} (hq : dm_kd q < 6) (h : (dm_fs q)[k]? = some 0) : (.inr (dm_kd q, ((dm_fs q).mapIdx (fun k c => dm_cv ad fm (dm_fv c (M q k)))).set k (.int x)) : va_E) = dm_ce ad fm cI cZ cO (dm_up M q k x) q := by
  rw [dm_ce_obj hq]
  congr 2
  apply List.ext_getElem?
  intro i
  rw [List.getElem?_mapIdx]
  by_cases e : i = k
  · subst e
    rw [List.getElem?_set_self (by rw [List.length_mapIdx]; exact dm_lt_of h), h]
    have e2 : dm_up M q i x q i = x := by unfold dm_up; rw [if_pos ⟨rfl, rfl⟩]
    simp only [Option.map_some, e2]
    rfl
  · rw [List.getElem?_set_ne (fun z => e z.symm), List.getElem?_mapIdx]
    have e2 : dm_up M q k x q i = M q i := by unfold dm_up; rw [if_neg (fun z => e z.2)]
    rw [e2]
/-- the reader's tape is written -/
theorem dm_ce_tape (hfm : fm = .null ∨ ∃ x, fm = .ref x) : (.inr (dm_kd 45, ((dm_fs 45).mapIdx (fun k c => dm_cv ad fm (dm_fv c (M 45 k)))).set 0 (.ref (ad 6))) : va_E) = dm_ce ad fm cI cZ cO (dm_up M 45 0 1) 45 := by
  rw [dm_ce_obj (by decide +kernel)]
  rfl
theorem dm_ne70 {q : Nat} (h : q < 62) : q ≠ 70 := by omega
theorem dm_lsw {n : Nat} {ps : List (Int × Int)} {d x : Int} : Op.lookupswitch.offset (ps.map fun q => (q.1, q.2 - (n : Int))) (d - n) x = Op.lookupswitch.offset ps d x - n := by
  induction ps with
  | nil => rfl
  | cons a r ih =>
    obtain ⟨a, b⟩ := a
    simp only [List.map_cons, Op.lookupswitch.offset]
    split
    · rfl
    · exact ih
theorem dm_lsw_pos {ps : List (Int × Int)} {d x : Int} (hd : 0 ≤ d) (h : ∀ t ∈ ps, 0 ≤ t.2) : 0 ≤ Op.lookupswitch.offset ps d x := by
  induction ps with
  | nil => exact hd
  | cons a r ih =>
    obtain ⟨a, b⟩ := a
    simp only [Op.lookupswitch.offset]
    split
    · exact h (a, b) List.mem_cons_self
    · exact ih (fun t ht => h t (List.mem_cons_of_mem _ ht))
end
section
variable {ad : Nat → Nat} {fm : Value} {dC : Nat → ClassId} {dI : Nat → Nat → Nat} {cI cZ cO : ClassId} {L0 : Nat} {SM : dm_M}
variable {p : Program} {l : Launch} {e : Env} {R : Room} {s : State} {m : MethodId} {args : Array Value} {below : List Frame} {meth : Method} {c : Code} {H : Heap} {locs : List Loc} {cells slots : Nat} {Q : State → Prop}
set_option maxHeartbeats 4000000 in
theorem dm_step_sound {y pc cp pc' : Nat} {i : Instr} {L L' : dm_LV} {st st' : List Value} {M M' : dm_M} {ls : Array Slot}
    (hx : p.tables.exec = Jvm.exec) (hb : c.code = dm_b y) (hml : c.maxLocals = dm_ml y) (hown : s.vm.findClass (dm_y y).cls = some m.cls) (hts : ∀ w ∈ dm_GW, w.before args s = true) (hE : dm_E ad fm dC dI cI cZ cO L0 SM s)
    (hj : dm_J ad) (hfm : fm = .null ∨ ∃ x, fm = .ref x) (hM : ∀ q, 62 ≤ q → M q = SM q) (hL0 : SM 69 0 = Int32.ofNat L0) (hL1 : L0 < 2 ^ 31)
    (hS : va_S (dm_A ad) s.heap H locs) (hP : va_P (dC, dI) vwCl (dm_ws ad fm cI cZ cO M) H) (hl : dm_lr ad fm ls (dm_ml y) L) (hL : L.length = dm_ml y)
    (hR : 1 ≤ R.frames ∧ 40 ≤ R.locals ∧ cells ≤ R.cells ∧ slots ≤ R.slots)
    (hd : decode (dm_b y) pc = .ok (dm_raw pc i cp, dm_len pc i)) (hck : dm_ckI y i cp = true)
    (hst : dm_step i pc L st M = some (pc', L', st', M'))
    (kk : ∀ (ls' : Array Slot) (H' : Heap) (locs' : List Loc), dm_lr ad fm ls' (dm_ml y) L' → va_P (dC, dI) vwCl (dm_ws ad fm cI cZ cO M') H' → va_S (dm_A ad) s.heap H' locs' → W p l e R s m args below meth c H' locs' cells slots Q (F0 m pc' ls' (st'.map (dm_cv ad fm)))) :
    W p l e R s m args below meth c H locs cells slots Q (F0 m pc ls (st.map (dm_cv ad fm))) := by
  have hK := hE.1
  have hD : va_D (dm_A ad) (dm_ws ad fm cI cZ cO M) := dm_ws_D hj
  have hA := dm_lr_has hl
  cases i with
  | iconst n =>
    unfold dm_step at hst
    dsimp only at hst
    cases hst
    exact lv_iconst hx hb hd rfl (kk _ _ _ hl hP hS)
  | bipush n =>
    unfold dm_step at hst
    dsimp only at hst
    cases hst
    exact lv_bipush hx hb hd rfl (kk _ _ _ hl hP hS)
  | sipush n =>
    unfold dm_step at hst
    dsimp only at hst
    cases hst
    exact lv_sipush hx hb hd rfl (kk _ _ _ hl hP hS)
  | lconst n =>
    unfold dm_step at hst
    dsimp only at hst
    cases hst
    exact lv_lconst hx hb hd rfl (kk _ _ _ hl hP hS)
  | aconst_null =>
    unfold dm_step at hst
    dsimp only at hst
    cases hst
    exact lv_null hx hb hd (kk _ _ _ hl hP hS)
  | iload_n k =>
    unfold dm_step at hst
    dsimp only at hst
    obtain ⟨x, h1, h⟩ := dm_gi_inv hst
    cases h
    exact lv_iload_n hx hb hd rfl (hl.2.2 _ _ h1) (kk _ _ _ hl hP hS)
  | iload k =>
    unfold dm_step at hst
    dsimp only at hst
    obtain ⟨x, h1, h⟩ := dm_gi_inv hst
    cases h
    exact lv_iload hx hb hd (hl.2.2 _ _ h1) (kk _ _ _ hl hP hS)
  | lload_n k =>
    unfold dm_step at hst
    dsimp only at hst
    obtain ⟨x, h1, h⟩ := dm_gl_inv hst
    cases h
    exact lv_lload_n hx hb hd rfl (hl.2.2 _ _ h1) (kk _ _ _ hl hP hS)
  | lload k =>
    unfold dm_step at hst
    dsimp only at hst
    obtain ⟨x, h1, h⟩ := dm_gl_inv hst
    cases h
    exact lv_lload hx hb hd (hl.2.2 _ _ h1) (kk _ _ _ hl hP hS)
  | aload_n k =>
    unfold dm_step at hst
    dsimp only at hst
    obtain ⟨v, h1, hv, h⟩ := dm_ga_inv hst
    cases h
    have h2 := hl.2.2 _ _ h1
    have h3 := kk _ _ _ hl hP hS
    rw [List.map_cons] at h3
    rcases dm_cv_a (ad := ad) hfm hv with e1 | ⟨x, e1⟩
    · rw [e1] at h2 h3
      exact lv_aload_nN hx hb hd rfl h2 h3
    · rw [e1] at h2 h3
      exact lv_aload_n hx hb hd rfl h2 h3
  | aload k =>
    unfold dm_step at hst
    dsimp only at hst
    obtain ⟨v, h1, hv, h⟩ := dm_ga_inv hst
    cases h
    have h2 := hl.2.2 _ _ h1
    have h3 := kk _ _ _ hl hP hS
    rw [List.map_cons] at h3
    rcases dm_cv_a (ad := ad) hfm hv with e1 | ⟨x, e1⟩
    · rw [e1] at h2 h3
      exact lv_aloadN hx hb hd h2 h3
    · rw [e1] at h2 h3
      exact lv_aload hx hb hd h2 h3
  | istore_n k =>
    unfold dm_step at hst
    dsimp only at hst
    obtain ⟨x, r, rfl, h1⟩ := dm_i1_inv hst
    obtain ⟨h2, h⟩ := dm_st_inv h1
    cases h
    exact lv_istore_n hx hb hd rfl hA (by rw [← hL]; exact h2) rfl (fun ls' hl' => kk ls' _ _ (dm_lr_st (L := L) hfm h2 hl') hP hS)
  | istore k =>
    unfold dm_step at hst
    dsimp only at hst
    obtain ⟨x, r, rfl, h1⟩ := dm_i1_inv hst
    obtain ⟨h2, h⟩ := dm_st_inv h1
    cases h
    exact lv_istore hx hb hd hA (by rw [← hL]; exact h2) rfl (fun ls' hl' => kk ls' _ _ (dm_lr_st (L := L) hfm h2 hl') hP hS)
  | lstore_n k =>
    unfold dm_step at hst
    dsimp only at hst
    obtain ⟨x, r, rfl, h1⟩ := dm_l1_inv hst
    obtain ⟨h2, h⟩ := dm_stl_inv h1
    cases h
    exact lv_lstore_n hx hb hd rfl hA (by rw [← hL]; exact h2) rfl (fun ls' hl' => kk ls' _ _ (dm_lr_stl (L := L) hfm (by omega) hl') hP hS)
  | lstore k =>
    unfold dm_step at hst
    dsimp only at hst
    obtain ⟨x, r, rfl, h1⟩ := dm_l1_inv hst
    obtain ⟨h2, h⟩ := dm_stl_inv h1
    cases h
    exact lv_lstore hx hb hd hA (by rw [← hL]; exact h2) rfl (fun ls' hl' => kk ls' _ _ (dm_lr_stl (L := L) hfm (by omega) hl') hP hS)
  | astore_n k =>
    unfold dm_step at hst
    dsimp only at hst
    obtain ⟨v, r, rfl, hv, h1⟩ := dm_a1_inv hst
    obtain ⟨h2, h⟩ := dm_st_inv h1
    cases h
    rw [List.map_cons]
    rcases dm_cv_a (ad := ad) hfm hv with e1 | ⟨x, e1⟩
    · rw [e1]
      exact lv_astore_nN hx hb hd rfl hA (by rw [← hL]; exact h2) rfl (fun ls' hl' => kk ls' _ _ (dm_lr_st (L := L) hfm h2 (by rw [e1]; exact hl')) hP hS)
    · rw [e1]
      exact lv_astore_n hx hb hd rfl hA (by rw [← hL]; exact h2) rfl (fun ls' hl' => kk ls' _ _ (dm_lr_st (L := L) hfm h2 (by rw [e1]; exact hl')) hP hS)
  | astore k =>
    unfold dm_step at hst
    dsimp only at hst
    obtain ⟨v, r, rfl, hv, h1⟩ := dm_a1_inv hst
    obtain ⟨h2, h⟩ := dm_st_inv h1
    cases h
    rw [List.map_cons]
    rcases dm_cv_a (ad := ad) hfm hv with e1 | ⟨x, e1⟩
    · rw [e1]
      exact lv_astoreN hx hb hd hA (by rw [← hL]; exact h2) rfl (fun ls' hl' => kk ls' _ _ (dm_lr_st (L := L) hfm h2 (by rw [e1]; exact hl')) hP hS)
    · rw [e1]
      exact lv_astore hx hb hd hA (by rw [← hL]; exact h2) rfl (fun ls' hl' => kk ls' _ _ (dm_lr_st (L := L) hfm h2 (by rw [e1]; exact hl')) hP hS)
  | iinc k n =>
    unfold dm_step at hst
    dsimp only at hst
    obtain ⟨x, h1, h0⟩ := dm_gi_inv hst
    obtain ⟨h2, h⟩ := dm_st_inv h0
    cases h
    obtain ⟨a, ha⟩ := List.getElem?_of_mem (dm_al_in (ad := ad) (fm := fm).mpr ⟨_, h1, rfl⟩)
    exact lv_iinc hx hb hd hA ha rfl (by rw [← hL]; exact h2) rfl (fun ls' hl' => kk ls' _ _ (dm_lr_st (L := L) (v := .int (x + Int32.ofInt n)) hfm h2 hl') hP hS)
  | iadd =>
    unfold dm_step at hst
    dsimp only at hst
    obtain ⟨x, z, r, rfl, h⟩ := dm_i2_inv hst
    cases h
    exact lv_iadd hx hb hd (kk _ _ _ hl hP hS)
  | isub =>
    unfold dm_step at hst
    dsimp only at hst
    obtain ⟨x, z, r, rfl, h⟩ := dm_i2_inv hst
    cases h
    exact lv_isub hx hb hd (kk _ _ _ hl hP hS)
  | imul =>
    unfold dm_step at hst
    dsimp only at hst
    obtain ⟨x, z, r, rfl, h⟩ := dm_i2_inv hst
    cases h
    exact lv_imul hx hb hd (kk _ _ _ hl hP hS)
  | iand =>
    unfold dm_step at hst
    dsimp only at hst
    obtain ⟨x, z, r, rfl, h⟩ := dm_i2_inv hst
    cases h
    exact lv_iand hx hb hd (kk _ _ _ hl hP hS)
  | ior =>
    unfold dm_step at hst
    dsimp only at hst
    obtain ⟨x, z, r, rfl, h⟩ := dm_i2_inv hst
    cases h
    exact lv_ior hx hb hd (kk _ _ _ hl hP hS)
  | ixor =>
    unfold dm_step at hst
    dsimp only at hst
    obtain ⟨x, z, r, rfl, h⟩ := dm_i2_inv hst
    cases h
    exact lv_ixor hx hb hd (kk _ _ _ hl hP hS)
  | ishl =>
    unfold dm_step at hst
    dsimp only at hst
    obtain ⟨x, z, r, rfl, h⟩ := dm_i2_inv hst
    cases h
    exact lv_ishl hx hb hd (kk _ _ _ hl hP hS)
  | ishr =>
    unfold dm_step at hst
    dsimp only at hst
    obtain ⟨x, z, r, rfl, h⟩ := dm_i2_inv hst
    cases h
    exact lv_ishr hx hb hd (kk _ _ _ hl hP hS)
  | iushr =>
    unfold dm_step at hst
    dsimp only at hst
    obtain ⟨x, z, r, rfl, h⟩ := dm_i2_inv hst
    cases h
    exact lv_iushr hx hb hd rfl (kk _ _ _ hl hP hS)
  | idiv =>
    unfold dm_step at hst
    dsimp only at hst
    obtain ⟨x, z, r, rfl, h⟩ := dm_i2_inv hst
    split at h
    · cases h
    next hz =>
      cases h
      exact lv_idiv hx hb hd hz (kk _ _ _ hl hP hS)
  | irem =>
    unfold dm_step at hst
    dsimp only at hst
    obtain ⟨x, z, r, rfl, h⟩ := dm_i2_inv hst
    split at h
    · cases h
    next hz =>
      cases h
      exact lv_irem hx hb hd hz (kk _ _ _ hl hP hS)
  | ineg =>
    unfold dm_step at hst
    dsimp only at hst
    obtain ⟨x, r, rfl, h⟩ := dm_i1_inv hst
    cases h
    exact lv_ineg hx hb hd (kk _ _ _ hl hP hS)
  | ladd =>
    unfold dm_step at hst
    dsimp only at hst
    obtain ⟨x, z, r, rfl, h⟩ := dm_l2_inv hst
    cases h
    exact lv_ladd hx hb hd (kk _ _ _ hl hP hS)
  | lsub =>
    unfold dm_step at hst
    dsimp only at hst
    obtain ⟨x, z, r, rfl, h⟩ := dm_l2_inv hst
    cases h
    exact lv_lsub hx hb hd (kk _ _ _ hl hP hS)
  | lmul =>
    unfold dm_step at hst
    dsimp only at hst
    obtain ⟨x, z, r, rfl, h⟩ := dm_l2_inv hst
    cases h
    exact lv_lmul hx hb hd (kk _ _ _ hl hP hS)
  | ldiv =>
    unfold dm_step at hst
    dsimp only at hst
    obtain ⟨x, z, r, rfl, h⟩ := dm_l2_inv hst
    split at h
    · cases h
    next hz =>
      cases h
      exact lv_ldiv hx hb hd hz (kk _ _ _ hl hP hS)
  | lrem =>
    unfold dm_step at hst
    dsimp only at hst
    obtain ⟨x, z, r, rfl, h⟩ := dm_l2_inv hst
    split at h
    · cases h
    next hz =>
      cases h
      exact lv_lrem hx hb hd hz (kk _ _ _ hl hP hS)
  | lcmp =>
    unfold dm_step at hst
    dsimp only at hst
    obtain ⟨x, z, r, rfl, h⟩ := dm_l2_inv hst
    cases h
    exact W.lcmp hx hb hd (kk _ _ _ hl hP hS)
  | i2l =>
    unfold dm_step at hst
    dsimp only at hst
    obtain ⟨x, r, rfl, h⟩ := dm_i1_inv hst
    cases h
    exact lv_i2l hx hb hd rfl (kk _ _ _ hl hP hS)
  | i2c =>
    unfold dm_step at hst
    dsimp only at hst
    obtain ⟨x, r, rfl, h⟩ := dm_i1_inv hst
    cases h
    exact lv_i2c hx hb hd rfl (kk _ _ _ hl hP hS)
  | pop =>
    unfold dm_step at hst
    dsimp only at hst
    obtain ⟨v, r, rfl, hv, h⟩ := dm_s1_inv hst
    cases h
    exact lv_pop hx hb hd (by rw [dm_cv_cat hfm]; exact hv) (kk _ _ _ hl hP hS)
  | dup =>
    unfold dm_step at hst
    dsimp only at hst
    obtain ⟨v, r, rfl, hv, h⟩ := dm_s1_inv hst
    cases h
    exact lv_dup hx hb hd (by rw [dm_cv_cat hfm]; exact hv) (kk _ _ _ hl hP hS)
  | dup2 =>
    unfold dm_step at hst
    dsimp only at hst
    obtain ⟨q, z, r, rfl, h⟩ := dm_ri_inv hst
    cases h
    exact lv_dup2_11 hx hb hd rfl (by rw [dm_cv_cat hfm]; rfl) (kk _ _ _ hl hP hS)
  | goto t =>
    unfold dm_step at hst
    dsimp only at hst
    cases hst
    have ht : 0 ≤ t := of_decide_eq_true hck
    exact lv_goto (tgt := t.toNat) hx hb hd (by omega) (kk _ _ _ hl hP hS)
  | ifCond co t =>
    unfold dm_step at hst
    dsimp only at hst
    obtain ⟨x, r, rfl, h⟩ := dm_i1_inv hst
    cases h
    have ht : 0 ≤ t := of_decide_eq_true hck
    have h3 := kk _ _ _ hl hP hS
    cases co with
    | eq =>
      simp only [dm_q1, decide_eq_true_eq] at h3
      exact lv_if_eq (tgt := t.toNat) hx hb hd (by omega) (fun hc => by rw [if_pos hc] at h3; exact h3) (fun hc => by rw [if_neg hc] at h3; exact h3)
    | ne =>
      simp only [dm_q1, decide_eq_true_eq] at h3
      exact lv_if_ne (tgt := t.toNat) hx hb hd (by omega) (fun hc => by rw [if_pos hc] at h3; exact h3) (fun hc => by rw [if_neg (fun z => z hc)] at h3; exact h3)
    | lt =>
      simp only [dm_q1, decide_eq_true_eq] at h3
      exact lv_if_lt (tgt := t.toNat) hx hb hd (by omega) (fun hc => by rw [if_pos hc] at h3; exact h3) (fun hc => by rw [if_neg hc] at h3; exact h3)
    | ge =>
      simp only [dm_q1, decide_eq_true_eq] at h3
      exact lv_if_ge (tgt := t.toNat) hx hb hd (by omega) (fun hc => by rw [if_pos hc] at h3; exact h3) (fun hc => by rw [if_neg hc] at h3; exact h3)
    | gt =>
      simp only [dm_q1, decide_eq_true_eq] at h3
      exact lv_if_gt (tgt := t.toNat) hx hb hd (by omega) (fun hc => by rw [if_pos hc] at h3; exact h3) (fun hc => by rw [if_neg hc] at h3; exact h3)
    | le =>
      simp only [dm_q1, decide_eq_true_eq] at h3
      exact lv_if_le (tgt := t.toNat) hx hb hd (by omega) (fun hc => by rw [if_pos hc] at h3; exact h3) (fun hc => by rw [if_neg hc] at h3; exact h3)
  | if_icmp co t =>
    unfold dm_step at hst
    dsimp only at hst
    obtain ⟨x, z, r, rfl, h⟩ := dm_i2_inv hst
    cases h
    have ht : 0 ≤ t := of_decide_eq_true hck
    have h3 := kk _ _ _ hl hP hS
    cases co with
    | eq =>
      simp only [dm_q2, decide_eq_true_eq] at h3
      exact lv_icmp_eq (tgt := t.toNat) hx hb hd (by omega) (fun hc => by rw [if_pos hc] at h3; exact h3) (fun hc => by rw [if_neg hc] at h3; exact h3)
    | ne =>
      simp only [dm_q2, decide_eq_true_eq] at h3
      exact lv_icmp_ne (tgt := t.toNat) hx hb hd (by omega) (fun hc => by rw [if_pos hc] at h3; exact h3) (fun hc => by rw [if_neg (fun z => z hc)] at h3; exact h3)
    | lt =>
      simp only [dm_q2, decide_eq_true_eq] at h3
      exact lv_icmp_lt (tgt := t.toNat) hx hb hd (by omega) (fun hc => by rw [if_pos hc] at h3; exact h3) (fun hc => by rw [if_neg hc] at h3; exact h3)
    | ge =>
      simp only [dm_q2, decide_eq_true_eq] at h3
      exact lv_icmp_ge (tgt := t.toNat) hx hb hd (by omega) (fun hc => by rw [if_pos hc] at h3; exact h3) (fun hc => by rw [if_neg hc] at h3; exact h3)
    | gt =>
      simp only [dm_q2, decide_eq_true_eq] at h3
      exact lv_icmp_gt (tgt := t.toNat) hx hb hd (by omega) (fun hc => by rw [if_pos hc] at h3; exact h3) (fun hc => by rw [if_neg hc] at h3; exact h3)
    | le =>
      simp only [dm_q2, decide_eq_true_eq] at h3
      exact lv_icmp_le (tgt := t.toNat) hx hb hd (by omega) (fun hc => by rw [if_pos hc] at h3; exact h3) (fun hc => by rw [if_neg hc] at h3; exact h3)
  | ifnull t =>
    unfold dm_step at hst
    dsimp only at hst
    have ht : 0 ≤ t := of_decide_eq_true hck
    rcases dm_n1_inv hst with ⟨q, r, rfl, hq, h⟩ | ⟨r, rfl, h⟩
    · cases h
      rw [List.map_cons, dm_cv_r hq]
      exact lv_ifnull hx hb hd (kk _ _ _ hl hP hS)
    · cases h
      exact lv_ifnullN (tgt := t.toNat) hx hb hd (by omega) (kk _ _ _ hl hP hS)
  | ifnonnull t =>
    unfold dm_step at hst
    dsimp only at hst
    have ht : 0 ≤ t := of_decide_eq_true hck
    rcases dm_n1_inv hst with ⟨q, r, rfl, hq, h⟩ | ⟨r, rfl, h⟩
    · cases h
      rw [List.map_cons, dm_cv_r hq]
      exact lv_ifnonnull (tgt := t.toNat) hx hb hd (by omega) (kk _ _ _ hl hP hS)
    · cases h
      exact lv_ifnonnullN hx hb hd (kk _ _ _ hl hP hS)
  | tableswitch d lo hi offs =>
    unfold dm_step at hst
    dsimp only at hst
    obtain ⟨x, r, rfl, h⟩ := dm_i1_inv hst
    cases h
    unfold dm_ckI at hck
    simp only [Bool.and_eq_true, decide_eq_true_eq] at hck
    obtain ⟨⟨ht, ho⟩, hsz⟩ := hck
    have h3 := kk _ _ _ hl hP hS
    unfold dm_sw at h3
    by_cases hc : x.toInt < lo ∨ hi < x.toInt
    · rw [if_pos hc] at h3
      exact lv_tableOut (tgt := d.toNat) hx hb hd hc (by omega) h3
    · rw [if_neg hc] at h3
      have hlt : (x.toInt - lo).toNat < offs.size := by omega
      obtain ⟨tt, hg⟩ : ∃ tt, offs[(x.toInt - lo).toNat]? = some tt := ⟨_, Array.getElem?_eq_getElem hlt⟩
      have hpos : 0 ≤ tt := of_decide_eq_true (List.all_eq_true.mp ho tt (List.mem_of_getElem? (by rw [Array.getElem?_toList]; exact hg)))
      rw [show offs.getD (x.toInt - lo).toNat d = tt by rw [Array.getD_eq_getD_getElem?, hg]; rfl] at h3
      exact lv_tableIn (tgt := tt.toNat) (off := tt - (pc : Int)) hx hb hd (by omega) (by omega) (by rw [Array.getElem?_map, hg, Option.map_some]) (by omega) h3
  | lookupswitch d ps =>
    unfold dm_step at hst
    dsimp only at hst
    obtain ⟨x, r, rfl, h⟩ := dm_i1_inv hst
    cases h
    unfold dm_ckI at hck
    simp only [Bool.and_eq_true, decide_eq_true_eq] at hck
    obtain ⟨⟨ht, ho⟩, hsz⟩ := hck
    have hpos : 0 ≤ Op.lookupswitch.offset ps.toList d x.toInt := dm_lsw_pos ht (fun t h => of_decide_eq_true (List.all_eq_true.mp ho t h))
    refine lv_lookup (tgt := (Op.lookupswitch.offset ps.toList d x.toInt).toNat) (off := Op.lookupswitch.offset ps.toList d x.toInt - (pc : Int)) hx hb hd ?_ (by rw [Array.toList_map]; exact dm_lsw) (by omega) (kk _ _ _ hl hP hS)
    rw [Array.toList_map, ← List.map_drop, List.zip_map, List.all_map]
    exact hsz
  | getfield j =>
    unfold dm_step at hst
    dsimp only at hst
    cases hjj : dm_FL[j]? with
    | none => rw [hjj] at hst; cases hst
    | some x =>
      obtain ⟨ow, cp', ci, k, host, fk, fin⟩ := x
      rw [hjj] at hst
      dsimp only at hst
      obtain ⟨q, r, rfl, h⟩ := dm_r1_inv hst
      split at h
      next hq =>
        cases hc : (dm_fs q)[k]? with
        | none => rw [hc] at h; cases h
        | some cc =>
          rw [hc] at h
          cases h
          obtain ⟨f1, f2, f3, f4, f5, -⟩ := dm_F_spec hjj
          dsimp only at f1 f2 f3 f4 f5
          unfold dm_ckI at hck
          dsimp only at hck
          rw [hjj] at hck
          obtain ⟨rfl, rfl⟩ := of_decide_eq_true hck
          have h70 : q ≠ 70 := fun z => by rw [z] at hq; exact absurd (hq.symm.trans (dm_kd_big (by decide))) (by omega)
          have h3 := kk _ _ _ hl hP hS
          rw [List.map_cons] at h3 ⊢
          rw [dm_cv_r h70]
          by_cases h6 : ci < 6
          · subst hq
            obtain ⟨hq2, -⟩ := dm_kd_obj h6
            have he := dm_ws_at (ad := ad) (fm := fm) (cI := cI) (cZ := cZ) (cO := cO) (M := M) hq2
            rw [dm_ce_obj h6] at he
            rcases f1 with ⟨g1, g2⟩ | ⟨g1, g2, -⟩
            · have hw := hts _ g2
              unfold dm_wF at hw
              rw [if_pos g1] at hw
              exact va_get hx hb hts (dm_lay_in _ h6) hown hK hP q he (dm_vw h6) k f3 hw (fun _ h9 => h9) (dm_at_v hc) hd h3
            · have hw := hE.2.1 _ g2
              unfold dm_wF at hw
              rw [if_neg g1] at hw
              exact va_getN hx hb hts (dm_lay_in _ h6) hown hK hP q he (dm_vw h6) k f3 (va_Nw.use rfl hw) (fun _ h9 => h9) (dm_at_v hc) hd h3
          · have hc6 : ci = 6 := by omega
            subst hc6
            rcases f1 with ⟨g1, g2⟩ | ⟨-, -, g3⟩
            · have hw := hts _ g2
              unfold dm_wF at hw
              rw [if_pos g1] at hw
              have hq6 := dm_kd_6 hq
              obtain ⟨-, o1, o2, -⟩ := hE.2.2.2.2.2.1 q hq6
              have hk2 : k = 0 ∨ k = 1 := by
                have : k < 2 := f3
                omega
              rcases hk2 with rfl | rfl
              · have e1 : dm_cv ad fm (dm_fv cc (M q 0)) = .ref (ad (q + 2)) := by
                  rcases hq6 with rfl | rfl
                  · have e2 : cc = 68 := by have e3 : (dm_fs 65)[0]? = some 68 := by decide +kernel
                                            rw [e3] at hc; cases hc; rfl
                    subst e2
                    rfl
                  · have e2 : cc = 69 := by have e3 : (dm_fs 66)[0]? = some 69 := by decide +kernel
                                            rw [e3] at hc; cases hc; rfl
                    subst e2
                    rfl
                rw [e1] at h3
                exact vk_getf hx hb o2 hS hown hw (fun _ h9 => h9) hd h3
              · have e1 : dm_cv ad fm (dm_fv cc (M q 1)) = .int (SM q 1) := by
                  have hMq : M q = SM q := hM q (by omega)
                  rw [hMq]
                  rcases hq6 with rfl | rfl
                  · have e2 : cc = 0 := by have e3 : (dm_fs 65)[1]? = some 0 := by decide +kernel
                                           rw [e3] at hc; cases hc; rfl
                    subst e2
                    rfl
                  · have e2 : cc = 0 := by have e3 : (dm_fs 66)[1]? = some 0 := by decide +kernel
                                           rw [e3] at hc; cases hc; rfl
                    subst e2
                    rfl
                rw [e1] at h3
                exact vk_getf hx hb o1 hS hown hw (fun _ h9 => h9) hd h3
            · exact absurd g3 (by omega)
      next => cases h
  | putfield j =>
    unfold dm_step at hst
    dsimp only at hst
    cases hjj : dm_FL[j]? with
    | none => rw [hjj] at hst; cases hst
    | some x =>
      obtain ⟨ow, cp', ci, k, host, fk, fin⟩ := x
      rw [hjj] at hst
      dsimp only at hst
      obtain ⟨f1, f2, f3, f4, f5, f6, f7⟩ := dm_F_spec hjj
      dsimp only at f1 f2 f3 f4 f5 f6 f7
      unfold dm_ckI at hck
      dsimp only at hck
      rw [hjj] at hck
      obtain ⟨rfl, rfl⟩ := of_decide_eq_true hck
      rcases dm_pf_inv hst with ⟨x, q, r, rfl, h2⟩ | ⟨r, rfl, h2⟩
      · clear hst
        split at h2
        next hq =>
          obtain ⟨rfl, hc, rfl, hfk⟩ := hq
          cases h2
          have h6 : dm_kd q < 6 := by
            rcases Nat.lt_or_ge (dm_kd q) 6 with z | z
            · exact z
            · exfalso
              have e6 : dm_kd q = 6 := by omega
              rw [e6] at f4 f3
              rcases (show k = 0 ∨ k = 1 by have : k < 2 := f3; omega) with rfl | rfl
              · exact absurd f4 (by decide)
              · exact absurd f4 (by decide)
          obtain ⟨hq2, hlen⟩ := dm_kd_obj h6
          rw [List.map_cons, List.map_cons, dm_cv_r (dm_ne70 hq2)]
          have he := dm_ws_at (ad := ad) (fm := fm) (cI := cI) (cZ := cZ) (cO := cO) (M := M) hq2
          rw [dm_ce_obj h6] at he
          obtain ⟨ty, t1, t2, t3⟩ : ∃ ty, parseFieldDescriptor (dm_fn (dm_kd q) k).2.2.1 = some ty ∧ narrow ty (.int x) = .int x ∧ fits ty (.int x) = true := by
            rcases hfk with h0 | ⟨h1, h2⟩
            · exact ⟨.int, by rw [f6 h0]; decide +kernel, rfl, rfl⟩
            · refine ⟨.boolean, by rw [f7 h1]; decide +kernel, ?_, ?_⟩
              · rcases h2 with rfl | rfl <;> rfl
              · rcases h2 with rfl | rfl <;> rfl
          have fin2 : ∀ (H1 : Heap) (locs1 : List Loc), va_P (dC, dI) vwCl ((dm_ws ad fm cI cZ cO M).set q (ad q, .inr (dm_kd q, ((dm_fs q).mapIdx (fun k c => dm_cv ad fm (dm_fv c (M q k)))).set k (.int x)))) H1 → va_D (dm_A ad) ((dm_ws ad fm cI cZ cO M).set q (ad q, .inr (dm_kd q, ((dm_fs q).mapIdx (fun k c => dm_cv ad fm (dm_fv c (M q k)))).set k (.int x)))) → va_S (dm_A ad) s.heap H1 locs1 → W p l e R s m args below meth c H1 locs1 cells slots Q (F0 m (pc + 3) ls (st'.map (dm_cv ad fm))) := by
            intro H1 locs1 hP1 _ hS1
            rw [dm_ce_put (cI := cI) (cZ := cZ) (cO := cO) h6 hc, dm_ws_set hq2 (fun a _ hne => dm_ce_of (dm_up_ne hne))] at hP1
            exact kk _ _ _ hl hP1 hS1
          rcases f1 with ⟨g1, g2⟩ | ⟨g1, g2, -⟩
          · have hw := hts _ g2
            unfold dm_wF at hw
            rw [if_pos g1] at hw
            exact va_put (ty := ty) hx hb hts (dm_lay_in _ h6) _ (dm_ctyok h6) (dm_cnm h6) hown hK hP hD hS q he (dm_vw h6) k f3 hw (fun _ h9 => h9) f4.symm t1 t2 t3 (by rw [List.length_mapIdx, hlen]; exact f3) hd fin2
          · have hw := hE.2.1 _ g2
            unfold dm_wF at hw
            rw [if_neg g1] at hw
            exact va_putN (ty := ty) hx hb hts (dm_lay_in _ h6) _ (dm_ctyok h6) (dm_cnm h6) hown hK hP hD hS q he (dm_vw h6) k f3 (va_Nw.use rfl hw) (fun _ h9 => h9) f4.symm t1 t2 t3 (by rw [List.length_mapIdx, hlen]; exact f3) hd fin2
        next => cases h2
      · clear hst
        split at h2
        next hq =>
          obtain ⟨rfl, rfl, rfl⟩ := hq
          cases h2
          have h6 : dm_kd 45 < 6 := by decide +kernel
          rw [List.map_cons, List.map_cons, dm_cv_r (by decide), dm_cv_r (by decide)]
          have he := dm_ws_at (ad := ad) (fm := fm) (cI := cI) (cZ := cZ) (cO := cO) (M := M) (q := 45) (by decide)
          rw [dm_ce_obj h6] at he
          have fin2 : ∀ (H1 : Heap) (locs1 : List Loc), va_P (dC, dI) vwCl ((dm_ws ad fm cI cZ cO M).set 45 (ad 45, .inr (dm_kd 45, ((dm_fs 45).mapIdx (fun k c => dm_cv ad fm (dm_fv c (M 45 k)))).set 0 (.ref (ad 6))))) H1 → va_D (dm_A ad) ((dm_ws ad fm cI cZ cO M).set 45 (ad 45, .inr (dm_kd 45, ((dm_fs 45).mapIdx (fun k c => dm_cv ad fm (dm_fv c (M 45 k)))).set 0 (.ref (ad 6))))) → va_S (dm_A ad) s.heap H1 locs1 → W p l e R s m args below meth c H1 locs1 cells slots Q (F0 m (pc + 3) ls (st'.map (dm_cv ad fm))) := by
            intro H1 locs1 hP1 _ hS1
            rw [dm_ce_tape (cI := cI) (cZ := cZ) (cO := cO) hfm, dm_ws_set (by decide) (fun a _ hne => dm_ce_of (dm_up_ne hne))] at hP1
            exact kk _ _ _ hl hP1 hS1
          have hk2 : dm_kd 45 = 2 := by decide +kernel
          rw [hk2] at he fin2
          rcases f1 with ⟨g1, g2⟩ | ⟨g1, g2, -⟩
          · have hw := hts _ g2
            unfold dm_wF at hw
            rw [if_pos g1] at hw
            exact va_put (ty := .array .int) hx hb hts (dm_lay_in 2 (by decide)) _ (dm_ctyok (ci := 2) (by decide)) (dm_cnm (ci := 2) (by decide)) hown hK hP hD hS 45 he (dm_vw (ci := 2) (by decide)) 0 (by decide) hw (fun x9 h9 => h9) rfl (by decide +kernel) rfl rfl (by rw [List.length_mapIdx]; decide +kernel) hd fin2
          · have hw := hE.2.1 _ g2
            unfold dm_wF at hw
            rw [if_neg g1] at hw
            exact va_putN (ty := .array .int) hx hb hts (dm_lay_in 2 (by decide)) _ (dm_ctyok (ci := 2) (by decide)) (dm_cnm (ci := 2) (by decide)) hown hK hP hD hS 45 he (dm_vw (ci := 2) (by decide)) 0 (by decide) (va_Nw.use rfl hw) (fun x9 h9 => h9) rfl (by decide +kernel) rfl rfl (by rw [List.length_mapIdx]; decide +kernel) hd fin2
        next => cases h2
  | getstatic j =>
    unfold dm_step at hst
    dsimp only at hst
    cases hjj : dm_SL[j]? with
    | none => rw [hjj] at hst; cases hst
    | some x =>
      obtain ⟨ow, cp', rf, nm, ds, v⟩ := x
      rw [hjj] at hst
      cases hst
      unfold dm_ckI at hck
      dsimp only at hck
      rw [hjj] at hck
      obtain ⟨rfl, rfl⟩ := of_decide_eq_true hck
      have h1 := dm_SL_of hjj
      unfold dm_okS at h1
      rw [hjj] at h1
      cases hi : dm_SLi[j]? with
      | none => rw [hi] at h1; exact absurd h1 (by simp)
      | some ix =>
        rw [hi] at h1
        simp only [Bool.and_eq_true, decide_eq_true_eq] at h1
        have hw := hts _ (dm_T_in h1.1 h1.2)
        exact va_gets hx hb (hE.2.2.1 _ (List.mem_of_getElem? hjj)) hS hown hw (fun _ h9 => h9) hd (kk _ _ _ hl hP hS)
  | ldc j =>
    unfold dm_step at hst
    dsimp only at hst
    cases hjj : dm_CL[j]? with
    | none => rw [hjj] at hst; cases hst
    | some x =>
      obtain ⟨ow, cp', v⟩ := x
      rw [hjj] at hst
      unfold dm_ckI at hck
      dsimp only at hck
      rw [hjj] at hck
      obtain ⟨rfl, rfl⟩ := of_decide_eq_true hck
      have h1 := dm_CL_of hjj
      unfold dm_okC at h1
      rw [hjj] at h1
      cases hi : dm_CLi[j]? with
      | none => rw [hi] at h1; exact absurd h1 (by simp)
      | some ix =>
        rw [hi] at h1
        dsimp only at h1
        cases v with
        | int v =>
          have hst : some (pc + 2, L, Value.int v :: st, M) = some (pc', L', st', M') := hst
          cases hst
          simp only [Bool.and_eq_true, decide_eq_true_eq] at h1
          exact lv_ldc hx hb hown (hts _ (dm_T_in h1.1 h1.2)) hd (kk _ _ _ hl hP hS)
        | ref q =>
          have hst : some (pc + 2, L, Value.ref q :: st, M) = some (pc', L', st', M') := hst
          cases hst
          simp only [decide_eq_true_eq] at h1
          obtain ⟨h2, h3⟩ := h1
          rcases h3 with ⟨h4, rfl⟩ | ⟨h4, rfl⟩
          · have hz := hE.2.2.2.2.2.2.1
            have e5 := kk _ _ _ hl hP hS
            rw [List.map_cons, dm_cv_r (by decide)] at e5
            rw [← h2, ← h4] at hz
            exact va_ldcS hx hb hown hz hd e5
          · have hz := hE.2.2.2.2.2.2.2
            have e5 := kk _ _ _ hl hP hS
            rw [List.map_cons, dm_cv_r (by decide)] at e5
            rw [← h2, ← h4] at hz
            exact va_ldcS hx hb hown hz hd e5
        | long v =>
          have hst : (none : Option dm_R) = some (pc', L', st', M') := hst
          cases hst
        | _ => exact absurd h1 (by simp)
  | ldc_w j =>
    unfold dm_step at hst
    dsimp only at hst
    cases hjj : dm_CL[j]? with
    | none => rw [hjj] at hst; cases hst
    | some x =>
      obtain ⟨ow, cp', v⟩ := x
      rw [hjj] at hst
      unfold dm_ckI at hck
      dsimp only at hck
      rw [hjj] at hck
      obtain ⟨rfl, rfl⟩ := of_decide_eq_true hck
      have h1 := dm_CL_of hjj
      unfold dm_okC at h1
      rw [hjj] at h1
      cases hi : dm_CLi[j]? with
      | none => rw [hi] at h1; exact absurd h1 (by simp)
      | some ix =>
        rw [hi] at h1
        dsimp only at h1
        cases v with
        | int v =>
          cases hst
          simp only [Bool.and_eq_true, decide_eq_true_eq] at h1
          exact lv_ldcw hx hb hown (hts _ (dm_T_in h1.1 h1.2)) hd (kk _ _ _ hl hP hS)
        | _ => exact absurd hst (by simp)
  | ldc2_w j =>
    unfold dm_step at hst
    dsimp only at hst
    cases hjj : dm_CL[j]? with
    | none => rw [hjj] at hst; cases hst
    | some x =>
      obtain ⟨ow, cp', v⟩ := x
      rw [hjj] at hst
      unfold dm_ckI at hck
      dsimp only at hck
      rw [hjj] at hck
      obtain ⟨rfl, rfl⟩ := of_decide_eq_true hck
      have h1 := dm_CL_of hjj
      unfold dm_okC at h1
      rw [hjj] at h1
      cases hi : dm_CLi[j]? with
      | none => rw [hi] at h1; exact absurd h1 (by simp)
      | some ix =>
        rw [hi] at h1
        dsimp only at h1
        cases v with
        | long v =>
          cases hst
          simp only [Bool.and_eq_true, decide_eq_true_eq] at h1
          exact lv_ldc2 hx hb hown (hts _ (dm_T_in h1.1 h1.2)) hd (kk _ _ _ hl hP hS)
        | _ => exact absurd hst (by simp)
  | iaload =>
    unfold dm_step at hst
    dsimp only at hst
    obtain ⟨q, i, r, rfl, h⟩ := dm_ri_inv hst
    split at h
    next hq =>
      split at h
      next => cases h
      next hin =>
        cases h
        rcases hq with hq | hq
        · have hq2 := dm_kd_arr (Or.inl hq)
          have he := dm_ws_at (ad := ad) (fm := fm) (cI := cI) (cZ := cZ) (cO := cO) (M := M) hq2
          rw [dm_ce_100 hq] at he
          rw [List.map_cons, List.map_cons, dm_cv_r (by omega)]
          exact va_iald hx hb hK hP q 0 he rfl hin hd (kk _ _ _ hl hP hS)
        · have hq2 := dm_kd_103 hq
          rw [List.map_cons, List.map_cons, dm_cv_r (by omega)]
          have h3 := kk _ _ _ hl hP hS
          rw [hM q (by omega)] at h3
          exact va_ti hx hb (hE.2.2.2.1 q hq2) hS hin rfl hd h3
    next =>
      split at h
      next hq =>
        split at h
        next => cases h
        next hin =>
          cases h
          have hq2 := dm_kd_104 hq
          subst hq2
          rw [List.map_cons, List.map_cons, dm_cv_r (by decide)]
          have h3 := kk _ _ _ hl hP hS
          rw [hM 64 (by decide)] at h3
          rw [hM 69 (by decide), hL0, Int32.toNatClampNeg_ofNat_of_lt hL1] at hin
          obtain ⟨h5, h5b, h5c⟩ := hE.2.2.2.2.1
          exact va_sld hx hb h5 h5b h5c hS hin hd h3
      next => cases h
  | baload =>
    unfold dm_step at hst
    dsimp only at hst
    obtain ⟨q, i, r, rfl, h⟩ := dm_ri_inv hst
    split at h
    next hq =>
      split at h
      next => cases h
      next hin =>
        cases h
        rcases hq with hq | hq
        · have hq2 := dm_kd_arr (Or.inr (Or.inl hq))
          have he := dm_ws_at (ad := ad) (fm := fm) (cI := cI) (cZ := cZ) (cO := cO) (M := M) hq2
          rw [dm_ce_101 hq] at he
          rw [List.map_cons, List.map_cons, dm_cv_r (by omega)]
          exact va_zald hx hb hK hP q 1 he rfl hin hd (kk _ _ _ hl hP hS)
        · have hq2 := dm_kd_107 hq
          rw [List.map_cons, List.map_cons, dm_cv_r (by omega)]
          have h3 := kk _ _ _ hl hP hS
          rw [hM q (by omega)] at h3
          have hT : va_T .byte (ad q) (dm_ln q) (fun j => .int (SM q j)) (dm_A ad) s s.heap := by
            rcases hq2 with rfl | rfl
            · exact (hE.2.2.2.2.2.1 65 (Or.inl rfl)).2.2.2
            · exact (hE.2.2.2.2.2.1 66 (Or.inr rfl)).2.2.2
          exact va_tb hx hb hT hS hin rfl hd h3
    next => cases h
  | iastore =>
    unfold dm_step at hst
    dsimp only at hst
    obtain ⟨q, i, x, r, rfl, h⟩ := dm_rii_inv hst
    split at h
    next hq =>
      split at h
      next => cases h
      next hin =>
        cases h
        have hq2 := dm_kd_arr (Or.inl hq)
        have he := dm_ws_at (ad := ad) (fm := fm) (cI := cI) (cZ := cZ) (cO := cO) (M := M) hq2
        rw [dm_ce_100 hq] at he
        rw [List.map_cons, List.map_cons, List.map_cons, dm_cv_r (by omega)]
        refine va_iast hx hb hK hP hD hS q 0 he rfl hin hd (fun H1 locs1 hP1 _ hS1 => ?_)
        have e1 : (.inl (cI, dm_ln q, .inl (upd (M q) i.toNatClampNeg x)) : va_E) = dm_ce ad fm cI cZ cO (dm_up M q i.toNatClampNeg x) q := by rw [dm_ce_100 hq, dm_up_self]
        rw [e1, dm_ws_set hq2 (fun a _ hne => dm_ce_of (dm_up_ne hne))] at hP1
        exact kk _ _ _ hl hP1 hS1
    next => cases h
  | bastore =>
    unfold dm_step at hst
    dsimp only at hst
    obtain ⟨q, i, x, r, rfl, h⟩ := dm_rii_inv hst
    split at h
    next hq =>
      obtain ⟨hq, hx01⟩ := hq
      split at h
      next => cases h
      next hin =>
        cases h
        have hq2 := dm_kd_arr (Or.inr (Or.inl hq))
        have he := dm_ws_at (ad := ad) (fm := fm) (cI := cI) (cZ := cZ) (cO := cO) (M := M) hq2
        rw [dm_ce_101 hq] at he
        rw [List.map_cons, List.map_cons, List.map_cons, dm_cv_r (by omega)]
        refine va_zast hx hb hK hP hD hS q 1 he rfl hin hd (fun H1 locs1 hP1 _ hS1 => ?_)
        have e0 : vp_nar .boolean x = x := by rcases hx01 with rfl | rfl <;> rfl
        have e1 : (.inl (cZ, dm_ln q, .inl (upd (M q) i.toNatClampNeg (vp_nar .boolean x))) : va_E) = dm_ce ad fm cI cZ cO (dm_up M q i.toNatClampNeg x) q := by rw [dm_ce_101 hq, dm_up_self, e0]
        rw [e1, dm_ws_set hq2 (fun a _ hne => dm_ce_of (dm_up_ne hne))] at hP1
        exact kk _ _ _ hl hP1 hS1
    next => cases h
  | aaload =>
    unfold dm_step at hst
    dsimp only at hst
    obtain ⟨q, i, r, rfl, h⟩ := dm_ri_inv hst
    split at h
    next hq =>
      split at h
      next => cases h
      next hin =>
        cases hc : (dm_fs q)[i.toNatClampNeg]? with
        | none => rw [hc] at h; cases h
        | some cc =>
          rw [hc] at h
          cases h
          have hq2 := dm_kd_arr (Or.inr (Or.inr hq))
          have he := dm_ws_at (ad := ad) (fm := fm) (cI := cI) (cZ := cZ) (cO := cO) (M := M) hq2
          rw [dm_ce_102 hq] at he
          rw [List.map_cons, List.map_cons, dm_cv_r (by omega)]
          have h3 := kk _ _ _ hl hP hS
          have h70 : cc ≠ 70 := fun z => by
            subst z
            have h1 : ∀ q, q < 62 → dm_kd q = 102 → 70 ∉ dm_fs q := by decide +kernel
            exact h1 q hq2 hq (List.mem_of_getElem? hc)
          rw [List.map_cons, dm_cv_r h70] at h3
          refine va_aldq hx hb hK hP q 2 he rfl (i := i) (fun z => ?_) hd ?_
          · rcases z with z | z
            · exact hin z
            · exact absurd (dm_lt_of hc) (by omega)
          · rw [hc]
            exact h3
    next => cases h
  | arraylength =>
    unfold dm_step at hst
    dsimp only at hst
    obtain ⟨q, r, rfl, h⟩ := dm_r1_inv hst
    split at h
    next hq =>
      cases h
      rcases hq with hq | hq
      · have hq2 := dm_kd_arr (Or.inl hq)
        have he := dm_ws_at (ad := ad) (fm := fm) (cI := cI) (cZ := cZ) (cO := cO) (M := M) hq2
        rw [dm_ce_100 hq] at he
        rw [List.map_cons, dm_cv_r (by omega)]
        exact va_alen hx hb hK hP q 0 he rfl rfl hd (kk _ _ _ hl hP hS)
      · have hq2 := dm_kd_107 hq
        rw [List.map_cons, dm_cv_r (by omega)]
        have hT : va_T .byte (ad q) (dm_ln q) (fun j => .int (SM q j)) (dm_A ad) s s.heap := by
          rcases hq2 with rfl | rfl
          · exact (hE.2.2.2.2.2.1 65 (Or.inl rfl)).2.2.2
          · exact (hE.2.2.2.2.2.1 66 (Or.inr rfl)).2.2.2
        exact va_tlen hx hb hT hS rfl hd (kk _ _ _ hl hP hS)
    next =>
      split at h
      next hq =>
        cases h
        have hq2 := dm_kd_104 hq
        subst hq2
        rw [List.map_cons, dm_cv_r (by decide)]
        have h3 := kk _ _ _ hl hP hS
        rw [hM 69 (by decide), hL0] at h3
        obtain ⟨h5, h5b, h5c⟩ := hE.2.2.2.2.1
        exact va_slen hx hb h5 h5b h5c hS hd h3
      next => cases h
  | invokestatic j =>
    unfold dm_step at hst
    dsimp only at hst
    cases hjj : dm_ML[j]? with
    | none => rw [hjj] at hst; cases hst
    | some x =>
      obtain ⟨ow, cp', mid, host⟩ := x
      rw [hjj] at hst
      dsimp only at hst
      unfold dm_ckI at hck
      dsimp only at hck
      rw [hjj] at hck
      obtain ⟨rfl, rfl⟩ := of_decide_eq_true hck
      have h1 := dm_ML_of hjj
      unfold dm_okM at h1
      rw [hjj] at h1
      cases hi : dm_MLi[j]? with
      | none => rw [hi] at h1; exact absurd h1 (by simp)
      | some ix =>
        rw [hi] at h1
        dsimp only at h1
        split at hst
        next hmid =>
          subst hmid
          obtain ⟨x, r, rfl, h2⟩ := dm_i1_inv hst
          clear hst
          split at h2
          next hr2 =>
            cases h2
            rw [if_neg (by decide), if_pos rfl] at h1
            simp only [Bool.and_eq_true, decide_eq_true_eq] at h1
            have hcat : ((r.map (dm_cv ad fm)).map fun v => v.category).sum = dm_cat r := by
              unfold dm_cat
              rw [List.map_map]
              congr 1
              exact List.map_congr_left (fun v _ => dm_cv_cat hfm)
            exact va_mabs hx hb (by rw [hml, hl.1]) hown (hts _ (dm_T_in h1.1 h1.2)) (hts _ (dm_T_in (i := dm_absI.1) dm_abs1.1 dm_abs1.2)) (hts _ (dm_T_in (i := dm_absI.2.1) dm_abs2.1 dm_abs2.2)) (hts _ (dm_T_in (i := dm_absI.2.2) dm_abs3.1 dm_abs3.2)) hR.1 (by rw [hcat]; omega) hR.2.2.1 hR.2.2.2 hd (kk _ _ _ hl hP hS)
          next => cases h2
        next =>
         split at hst
         next hmid =>
          subst hmid
          obtain ⟨n, q1, q0, r, rfl, h2⟩ := dm_ac_inv hst
          clear hst
          split at h2
          next hq =>
            obtain ⟨k0, k1, hr2, hn, n0, n1⟩ := hq
            cases h2
            rw [if_neg (by decide), if_neg (by decide)] at h1
            simp only [Bool.and_eq_true, decide_eq_true_eq] at h1
            have hcat : ((st'.map (dm_cv ad fm)).map fun v => v.category).sum = dm_cat st' := by
              unfold dm_cat
              rw [List.map_map]
              congr 1
              exact List.map_congr_left (fun v _ => dm_cv_cat hfm)
            have hq0 := dm_kd_arr (Or.inl k0)
            have hq1 := dm_kd_arr (Or.inl k1)
            have he0 := dm_ws_at (ad := ad) (fm := fm) (cI := cI) (cZ := cZ) (cO := cO) (M := M) hq0
            have he1 := dm_ws_at (ad := ad) (fm := fm) (cI := cI) (cZ := cZ) (cO := cO) (M := M) hq1
            rw [dm_ce_100 k0] at he0
            rw [dm_ce_100 k1] at he1
            simp only [List.map_cons, dm_cv_r (dm_ne70 hq0), dm_cv_r (dm_ne70 hq1)]
            have z0 : (0 : Int32).toNatClampNeg = 0 := by decide
            refine va_copyi (ty := .int) (sp := 0) (dp := 0) hx hb (by rw [hml, hl.1]) hown (hts _ (dm_T_in h1.1 h1.2)) (hts _ (dm_T_in (i := dm_cpyI.1) dm_cpy1.1 dm_cpy1.2)) (hts _ (dm_T_in (i := dm_cpyI.2.1) dm_cpy2.1 dm_cpy2.2)) (hts _ (dm_T_in (i := dm_cpyI.2.2) dm_cpy3.1 dm_cpy3.2)) hK hP hD hS q0 q1 0 0 he0 he1 rfl rfl rfl (by decide) (by decide) hn (by rw [z0]; omega) (by rw [z0]; omega) (fun _ _ => rfl) hR.1 ?_ hd (fun H1 locs1 hP1 _ hS1 => ?_)
            · rw [hcat]
              have : nativeFrameWords "java/lang/System" "arraycopy" 5 + 11 ≤ 32 := by decide +kernel
              omega
            · have e1 : (.inl (cI, dm_ln q1, .inl (va_cpy (M q0) (M q1) (0 : Int32).toNatClampNeg (0 : Int32).toNatClampNeg n.toNatClampNeg)) : va_E) = dm_ce ad fm cI cZ cO (fun a b => if a = q1 ∧ b < n.toNatClampNeg then M q0 b else M a b) q1 := by
                rw [dm_ce_100 k1, z0]
                congr 4
                funext b
                unfold va_cpy
                by_cases hbn : b < n.toNatClampNeg
                · rw [if_pos (by omega), if_pos ⟨rfl, hbn⟩]
                  congr 1
                  omega
                · rw [if_neg (by omega), if_neg (fun z => hbn z.2)]
              rw [e1, dm_ws_set hq1 (fun a _ hne => dm_ce_of (by funext b; rw [if_neg (fun z => hne z.1)]))] at hP1
              exact kk _ _ _ hl hP1 hS1
          next => cases h2
         next => cases hst
  | _ =>
    unfold dm_step at hst
    exact absurd hst (by simp)
end
