/-- a constructor's cells -/
def rowW (cI : ClassId) (b : Nat) (u : Nat) : va_W := [(b, .inr (3, [.ref u, .int 0])), (u, .inl (cI, 49, .inl (fun _ => 0)))]
def cdW (cI : ClassId) (k : Int32) (b : Nat) (u : Nat × Nat) : va_W := [(b, .inr (1, [.int k, .int 0, .int 0, .int 0, .ref u.1]))] ++ rowW cI u.1 u.2
def wk4 : Nat → Int32 := upd (upd (upd (upd (fun _ => 0) 0 1) 1 1) 2 1) 3 1
def cds (a b c d e : Nat) : Nat → Option Nat := va_up (va_up (va_up (va_up (va_up (fun _ => none) 0 (some a)) 1 (some b)) 2 (some c)) 3 (some d)) 4 (some e)
abbrev BdU : Type := (Nat × Nat × Nat × Nat × Nat × Nat) × ((Nat × Nat × Nat) × (Nat × Nat × Nat) × (Nat × Nat × Nat) × (Nat × Nat × Nat) × (Nat × Nat × Nat))
def bdW (cI cO : ClassId) (b : Nat) (u : BdU) : va_W :=
  ((((([(b, .inr (0, [.int 3, .ref u.1.1, .ref u.1.2.1, .ref u.1.2.2.1, .int 0, .ref u.1.2.2.2.1, .int 0, .ref u.1.2.2.2.2.1, .int 0, .ref u.1.2.2.2.2.2, .int 0])), (u.1.1, .inl (cI, 4, .inl (fun _ => 0))), (u.1.2.1, .inl (cI, 4, .inl wk4)), (u.1.2.2.1, .inl (cO, 5, .inr (.inr (.inr (.inr (cds u.2.1.1 u.2.2.1.1 u.2.2.2.1.1 u.2.2.2.2.1.1 u.2.2.2.2.2.1)))))), (u.1.2.2.2.1, .inl (cI, 5, .inl (fun _ => 0))), (u.1.2.2.2.2.1, .inl (cI, 100, .inl (fun _ => 0))), (u.1.2.2.2.2.2, .inl (cI, 8, .inl (fun _ => 0)))] ++ cdW cI 0 u.2.1.1 u.2.1.2) ++ cdW cI 1 u.2.2.1.1 u.2.2.1.2) ++ cdW cI 2 u.2.2.2.1.1 u.2.2.2.1.2) ++ cdW cI 3 u.2.2.2.2.1.1 u.2.2.2.2.1.2) ++ cdW cI 4 u.2.2.2.2.2.1 u.2.2.2.2.2.2)
abbrev AnU : Type := (Nat × BdU) × (Nat × BdU) × Nat × Nat × (Nat × Nat) × (Nat × Nat) × (Nat × Nat)
def anW (cI cO : ClassId) (b : Nat) (u : AnU) : va_W :=
  ((((((([(b, .inr (4, [.ref u.1.1, .ref u.2.1.1, .int 0, .ref u.2.2.1, .ref u.2.2.2.1, .int 0, .ref u.2.2.2.2.1.1, .ref u.2.2.2.2.2.1.1, .ref u.2.2.2.2.2.2.1]))] ++ bdW cI cO u.1.1 u.1.2) ++ bdW cI cO u.2.1.1 u.2.1.2) ++ [(u.2.2.1, .inr (2, [.null, .int 0, .int 0, .int 0, .int 0]))]) ++ [(u.2.2.2.1, .inl (cI, 20, .inl (fun _ => 0)))]) ++ rowW cI u.2.2.2.2.1.1 u.2.2.2.2.1.2) ++ rowW cI u.2.2.2.2.2.1.1 u.2.2.2.2.2.1.2) ++ rowW cI u.2.2.2.2.2.2.1 u.2.2.2.2.2.2.2)
def ms0 : Nat → Int32 := upd (upd (upd (upd (upd (fun _ => 0) 4 3) 14 1) 15 1) 16 1) 17 1
abbrev MdU : Type := Nat × Nat × Nat × Nat × Nat × Nat × Nat × Nat
def mdW (cI cZ : ClassId) (b : Nat) (u : MdU) : va_W :=
  [(b, .inr (5, [.int 0, .ref u.1, .ref u.2.1, .int 0, .int 0, .int 0, .int 0, .int 0, .int 0, .ref u.2.2.1, .ref u.2.2.2.1, .ref u.2.2.2.2.1, .int 0, .int 0, .ref u.2.2.2.2.2.1, .int 0, .ref u.2.2.2.2.2.2.1, .ref u.2.2.2.2.2.2.2, .int 0, .int 0, .int 0, .int 0])), (u.1, .inl (cI, 1099, .inl ms0)), (u.2.1, .inl (cI, 1099, .inl (fun _ => 0))), (u.2.2.1, .inl (cZ, 64, .inl (fun _ => 0))), (u.2.2.2.1, .inl (cI, 49, .inl (fun _ => 0))), (u.2.2.2.2.1, .inl (cI, 49, .inl (fun _ => 0))), (u.2.2.2.2.2.1, .inl (cI, 49, .inl (fun _ => 0))), (u.2.2.2.2.2.2.1, .inl (cZ, 16, .inl (fun _ => 0))), (u.2.2.2.2.2.2.2, .inl (cI, 20, .inl (fun _ => 0)))]
theorem df_X0 : ∀ j, j < 11 → defaultValue (tyX0 j) = vp_V [.int 0, .null, .null, .null, .int 0, .null, .int 0, .null, .int 0, .null, .int 0] j := by decide +kernel
theorem df_X1 : ∀ j, j < 5 → defaultValue (tyX1 j) = vp_V [.int 0, .int 0, .int 0, .int 0, .null] j := by decide +kernel
theorem df_X2 : ∀ j, j < 5 → defaultValue (tyX2 j) = vp_V [.null, .int 0, .int 0, .int 0, .int 0] j := by decide +kernel
theorem df_X3 : ∀ j, j < 2 → defaultValue (tyX3 j) = vp_V [.null, .int 0] j := by decide +kernel
theorem df_X4 : ∀ j, j < 9 → defaultValue (tyX4 j) = vp_V [.null, .null, .int 0, .null, .null, .int 0, .null, .null, .null] j := by decide +kernel
theorem df_X5 : ∀ j, j < 22 → defaultValue (tyX5 j) = vp_V [.int 0, .null, .null, .int 0, .int 0, .int 0, .int 0, .int 0, .int 0, .null, .null, .null, .int 0, .int 0, .null, .int 0, .null, .null, .int 0, .int 0, .int 0, .int 0] j := by decide +kernel
theorem cw_arr_int : Jvm.Cond.arrayClass .int ∈ dm_GW := dm_T_in (i := 50) (by decide +kernel) rfl
theorem cw_arr_boolean : Jvm.Cond.arrayClass .boolean ∈ dm_GW := dm_T_in (i := 641) (by decide +kernel) rfl
theorem cw_objcode : Jvm.Cond.code objectInit ⟨#[0xb1]⟩ 1 none ∈ dm_GW := dm_T_in (i := 21) (by rfl) rfl
theorem kd_Row_0 : decode prog_5_method_1_code 0 = .ok (.aload_n 0, 1) := by decide +kernel
theorem kd_Row_1 : decode prog_5_method_1_code 1 = .ok (.invokespecial 3, 3) := by decide +kernel
theorem kd_Row_4 : decode prog_5_method_1_code 4 = .ok (.aload_n 0, 1) := by decide +kernel
theorem kd_Row_5 : decode prog_5_method_1_code 5 = .ok (.bipush 49, 2) := by decide +kernel
theorem kd_Row_7 : decode prog_5_method_1_code 7 = .ok (.newarray .int, 2) := by decide +kernel
theorem kd_Row_9 : decode prog_5_method_1_code 9 = .ok (.putfield 9, 3) := by decide +kernel
theorem kd_Row_12 : decode prog_5_method_1_code 12 = .ok (.return_, 1) := by decide +kernel
theorem cw_0 : Jvm.Cond.instanceMethod ⟨"java/lang/Object", "<init>", "()V"⟩ ∈ dm_GW := dm_T_in (i := 20) (by decide +kernel) rfl
theorem cw_1 : Jvm.Cond.methodLink "AnyNail$Row" 3 ⟨"java/lang/Object", "<init>", "()V"⟩ ∈ dm_GW := dm_T_in (i := 40) (by decide +kernel) rfl
theorem cw_2 : Jvm.Cond.fieldLink "AnyNail$Row" 9 "AnyNail$Row" "turns" "[I" ∈ dm_GW := dm_T_in (i := 41) (by decide +kernel) rfl
set_option maxHeartbeats 4000000 in
theorem ct_Row {l : Launch} {dC : Nat → ClassId} {dI : Nat → Nat → Nat} {cI cZ cO : ClassId} (h0 : Nat) : ct_M l ⟨"AnyNail$Row", "<init>", "()V"⟩ prog_5_method_1_code 1 { frames := 1, cells := 1, slots := 49, locals := 16 } dC dI cI cZ cO [.ref h0] h0 (.inr (3, [.null, .int 0])) Nat (rowW cI h0) 1 49 := by
  intro sz
  refine Met.ofW (cc := prog_5_method_1_code) (maxL := 1) (ret := none) (by decide) rfl ?_
  intro p e s m args below meth c s₁ B hml hv
  obtain ⟨rfl, hsz, hP, hE⟩ := hv
  have hx := B.exec
  have hb := B.bytes
  have hr := B.returns
  have hts0 := atoms_spec (ws := Jvm.Cond.code ⟨"AnyNail$Row", "<init>", "()V"⟩ prog_5_method_1_code 1 none :: dm_GW) B.pre
  have hts := fun w (hw : w ∈ dm_GW) => hts0 w (List.mem_cons_of_mem _ hw)
  clear hts0
  have hown : s.vm.findClass "AnyNail$Row" = some m.cls := findClass_of_methodNamed B.named
  have hlocks := B.notSynchronized
  have hin : meth.name = "<init>" := (name_of_methodNamed B.named B.method).1
  subst hsz
  have hK := hE.1
  have hD := ct_D1 (b := h0) (e0 := .inr (3, [.null, .int 0])) (sz := s.heap.size)
  unfold ct_Q
  generalize hAe : va_A [(h0, (.inr (3, [.null, .int 0]) : va_E))] s.heap.size = A at hD ⊢
  have hA : ∀ q : Nat, s.heap.size ≤ q → A q := fun q h => by rw [← hAe]; exact Or.inr h
  have hS : va_S A s.heap s.heap [] := va_S.rf
  have hl := lv_entry ([.ref h0]) (n := 1) (Nat.le_of_ble_eq_true rfl)
  rw [lg_entry_eq]
  generalize (lg_sl ([.ref h0]) ++ List.replicate (1 - (lg_sl ([.ref h0])).length) Slot.unset).toArray = ls at hl ⊢
  have hl : lv_has ls 1 [(0, .ref h0)] := hl
  have hP : va_P (dC, dI) vwCl [(h0, .inr (3, [.null, .int 0]))] s.heap := hP
  refine lv_aload_n hx hb kd_Row_0 rfl (lv_at hl 0 rfl) ?_
  refine W.objInit hx hb hown (hts _ cw_1) (hts _ cw_0) (hts _ cw_objcode) rfl (by rw [hml]; exact hl.1) rfl kd_Row_1 (Nat.le_of_ble_eq_true rfl) (Nat.le_of_ble_eq_true rfl) ?_
  refine W.eq (g2 := F0 m 4 ls []) rfl ?_
  refine lv_aload_n hx hb kd_Row_4 rfl (lv_at hl 0 rfl) ?_
  refine lv_bipush (v := 49) hx hb kd_Row_5 (by decide) ?_
  refine ct_newI (N := 49) hx hb (hts _ cw_arr_int) hK hP hD hS hA (by decide) (by decide) (Nat.le_of_ble_eq_true rfl) (Nat.le_of_ble_eq_true rfl) (Nat.le_of_ble_eq_true rfl) kd_Row_7 (fun q1 H hP hD hS => ?_)
  have hP : va_P (dC, dI) vwCl [(h0, .inr (3, [.null, .int 0])), (q1, .inl (cI, 49, .inl (fun _ => 0)))] H := hP
  have hD : va_D A [(h0, .inr (3, [.null, .int 0])), (q1, .inl (cI, 49, .inl (fun _ => 0)))] := hD
  refine W.widen (k := 1) (n := 49) (Nat.le_of_ble_eq_true rfl) (Nat.le_of_ble_eq_true rfl) ?_
  refine va_putF (D := (dC, dI)) (ci := 3) (v := .ref q1) (ty := .array .int) (C := RX3) (T := TX3) (N := 2) hx hb hts (dm_lay_in 3 (by decide)) tyX3 tyX3_ok nmX3 hown hK hP hD hS 0 rfl rfl 0 (by decide) (hts _ cw_2) (fun _ h9 => h9) rfl hin rfl (by decide +kernel) rfl rfl (Nat.le_of_ble_eq_true rfl) kd_Row_9 (fun H locs hP hD hS => ?_)
  have hP : va_P (dC, dI) vwCl [(h0, .inr (3, [.ref q1, .int 0])), (q1, .inl (cI, 49, .inl (fun _ => 0)))] H := hP
  have hD : va_D A [(h0, .inr (3, [.ref q1, .int 0])), (q1, .inl (cI, 49, .inl (fun _ => 0)))] := hD
  exact W.vret hx hb hr (fun t ht hW => ⟨⟨q1, rfl, trivial, by rw [ht]; exact hP, hD⟩, hS.F ht⟩) hS.2.2 kd_Row_12
theorem kd_Cord_0 : decode prog_3_method_1_code 0 = .ok (.aload_n 0, 1) := by decide +kernel
theorem kd_Cord_1 : decode prog_3_method_1_code 1 = .ok (.invokespecial 1, 3) := by decide +kernel
theorem kd_Cord_4 : decode prog_3_method_1_code 4 = .ok (.aload_n 0, 1) := by decide +kernel
theorem kd_Cord_5 : decode prog_3_method_1_code 5 = .ok (.new 7, 3) := by decide +kernel
theorem kd_Cord_8 : decode prog_3_method_1_code 8 = .ok (.dup, 1) := by decide +kernel
theorem kd_Cord_9 : decode prog_3_method_1_code 9 = .ok (.invokespecial 9, 3) := by decide +kernel
theorem kd_Cord_12 : decode prog_3_method_1_code 12 = .ok (.putfield 10, 3) := by decide +kernel
theorem kd_Cord_15 : decode prog_3_method_1_code 15 = .ok (.aload_n 0, 1) := by decide +kernel
theorem kd_Cord_16 : decode prog_3_method_1_code 16 = .ok (.iload_n 1, 1) := by decide +kernel
theorem kd_Cord_17 : decode prog_3_method_1_code 17 = .ok (.putfield 16, 3) := by decide +kernel
theorem kd_Cord_20 : decode prog_3_method_1_code 20 = .ok (.return_, 1) := by decide +kernel
theorem cw_3 : Jvm.Cond.methodLink "AnyNail$Cord" 1 ⟨"java/lang/Object", "<init>", "()V"⟩ ∈ dm_GW := dm_T_in (i := 34) (by decide +kernel) rfl
theorem cw_4 : Jvm.Cond.classLink "AnyNail$Cord" 7 "AnyNail$Row" ∈ dm_GW := dm_T_in (i := 35) (by decide +kernel) rfl
theorem cw_5 : Jvm.Cond.instantiable "AnyNail$Row" 2 ∈ dm_GW := dm_T_in (i := 36) (by decide +kernel) rfl
theorem cw_6 : Jvm.Cond.initialized "AnyNail$Row" ∈ dm_GW := dm_T_in (i := 4) (by decide +kernel) rfl
theorem cw_7 : Jvm.Cond.code ⟨"AnyNail$Row", "<init>", "()V"⟩ prog_5_method_1_code 1 none ∈ dm_GW := dm_T_in (i := 39) (by rfl) rfl
theorem cw_8 : Jvm.Cond.methodLinkNest "AnyNail$Cord" 9 ⟨"AnyNail$Row", "<init>", "()V"⟩ "AnyNail" ∈ dm_NW := dm_N_in (i := 37) (by decide +kernel) rfl
theorem cw_9 : Jvm.Cond.instanceMethod ⟨"AnyNail$Row", "<init>", "()V"⟩ ∈ dm_GW := dm_T_in (i := 38) (by decide +kernel) rfl
theorem cw_10 : Jvm.Cond.fieldLink "AnyNail$Cord" 10 "AnyNail$Cord" "row" "LAnyNail$Row;" ∈ dm_GW := dm_T_in (i := 59) (by decide +kernel) rfl
theorem cw_11 : Jvm.Cond.fieldLink "AnyNail$Cord" 16 "AnyNail$Cord" "number" "I" ∈ dm_GW := dm_T_in (i := 51) (by decide +kernel) rfl
set_option maxHeartbeats 4000000 in
theorem ct_Cord {l : Launch} {dC : Nat → ClassId} {dI : Nat → Nat → Nat} {cI cZ cO : ClassId} (k : Int32) (h0 : Nat) : ct_M l ⟨"AnyNail$Cord", "<init>", "(I)V"⟩ prog_3_method_1_code 2 { frames := 2, cells := 2, slots := 51, locals := 40 } dC dI cI cZ cO [.ref h0, .int k] h0 (.inr (1, [.int 0, .int 0, .int 0, .int 0, .null])) (Nat × Nat) (cdW cI k h0) 2 51 := by
  intro sz
  refine Met.ofW (cc := prog_3_method_1_code) (maxL := 2) (ret := none) (by decide) rfl ?_
  intro p e s m args below meth c s₁ B hml hv
  obtain ⟨rfl, hsz, hP, hE⟩ := hv
  have hx := B.exec
  have hb := B.bytes
  have hr := B.returns
  have hts0 := atoms_spec (ws := Jvm.Cond.code ⟨"AnyNail$Cord", "<init>", "(I)V"⟩ prog_3_method_1_code 2 none :: dm_GW) B.pre
  have hts := fun w (hw : w ∈ dm_GW) => hts0 w (List.mem_cons_of_mem _ hw)
  clear hts0
  have hown : s.vm.findClass "AnyNail$Cord" = some m.cls := findClass_of_methodNamed B.named
  have hlocks := B.notSynchronized
  have hin : meth.name = "<init>" := (name_of_methodNamed B.named B.method).1
  subst hsz
  have hK := hE.1
  have hD := ct_D1 (b := h0) (e0 := .inr (1, [.int 0, .int 0, .int 0, .int 0, .null])) (sz := s.heap.size)
  unfold ct_Q
  generalize hAe : va_A [(h0, (.inr (1, [.int 0, .int 0, .int 0, .int 0, .null]) : va_E))] s.heap.size = A at hD ⊢
  have hA : ∀ q : Nat, s.heap.size ≤ q → A q := fun q h => by rw [← hAe]; exact Or.inr h
  have hS : va_S A s.heap s.heap [] := va_S.rf
  have hl := lv_entry ([.ref h0, .int k]) (n := 2) (Nat.le_of_ble_eq_true rfl)
  rw [lg_entry_eq]
  generalize (lg_sl ([.ref h0, .int k]) ++ List.replicate (2 - (lg_sl ([.ref h0, .int k])).length) Slot.unset).toArray = ls at hl ⊢
  have hl : lv_has ls 2 [(0, .ref h0), (1, .int k)] := hl
  have hP : va_P (dC, dI) vwCl [(h0, .inr (1, [.int 0, .int 0, .int 0, .int 0, .null]))] s.heap := hP
  refine lv_aload_n hx hb kd_Cord_0 rfl (lv_at hl 0 rfl) ?_
  refine W.objInit hx hb hown (hts _ cw_3) (hts _ cw_0) (hts _ cw_objcode) rfl (by rw [hml]; exact hl.1) rfl kd_Cord_1 (Nat.le_of_ble_eq_true rfl) (Nat.le_of_ble_eq_true rfl) ?_
  refine W.eq (g2 := F0 m 4 ls []) rfl ?_
  refine lv_aload_n hx hb kd_Cord_4 rfl (lv_at hl 0 rfl) ?_
  refine va_new (ci := 3) (fs := [.null, .int 0]) (C := RX3) (T := TX3) (N := 2) hx hb hts (dm_lay_in 3 (by decide)) tyX3 tyX3_ok hown (hts _ cw_4) (hts _ cw_5) (hts _ cw_6) hK hP hD hS hA rfl (fun j hj => df_X3 j hj) (Nat.le_of_ble_eq_true rfl) (Nat.le_of_ble_eq_true rfl) kd_Cord_5 (fun q1 H hP hD hS => ?_)
  refine W.widen (k := 1) (n := 2) (Nat.le_of_ble_eq_true rfl) (Nat.le_of_ble_eq_true rfl) ?_
  refine lv_dup hx hb kd_Cord_8 rfl ?_
  refine ct_callN (l := l) (nL := 2) (maxL := 1) (own := "AnyNail$Cord") (host := "AnyNail") (y := ⟨"AnyNail$Row", "<init>", "()V"⟩) (bytes := prog_5_method_1_code) (As := []) (rest := [.ref q1, .ref h0]) (n := 0) ⟨hx, hb, hml, hown, hts⟩ hE (ct_Row q1) cw_7 cw_6 cw_8 cw_9 rfl (by decide +kernel) ⟨Nat.le_of_ble_eq_true rfl, Nat.le_of_ble_eq_true rfl⟩ rfl rfl rfl hl.1 (Nat.le_of_ble_eq_true rfl) hP hD hS hA kd_Cord_9 ⟨Nat.le_of_ble_eq_true rfl, Nat.le_of_ble_eq_true rfl⟩ (fun u2 H locs hP hD hS => ?_)
  have hP : va_P (dC, dI) vwCl ([(h0, .inr (1, [.int 0, .int 0, .int 0, .int 0, .null]))] ++ rowW cI q1 u2) H := hP
  have hD : va_D A ([(h0, .inr (1, [.int 0, .int 0, .int 0, .int 0, .null]))] ++ rowW cI q1 u2) := hD
  refine W.widen (k := 2) (n := 51) (Nat.le_of_ble_eq_true rfl) (Nat.le_of_ble_eq_true rfl) ?_
  refine va_putF (D := (dC, dI)) (ci := 1) (v := .ref q1) (ty := .object "AnyNail$Row") (C := RX1) (T := TX1) (N := 5) hx hb hts (dm_lay_in 1 (by decide)) tyX1 tyX1_ok nmX1 hown hK hP hD hS 0 rfl rfl 4 (by decide) (hts _ cw_10) (fun _ h9 => h9) rfl hin rfl (by decide +kernel) rfl rfl (Nat.le_of_ble_eq_true rfl) kd_Cord_12 (fun H locs hP hD hS => ?_)
  have hP : va_P (dC, dI) vwCl ([(h0, .inr (1, [.int 0, .int 0, .int 0, .int 0, .ref q1]))] ++ rowW cI q1 u2) H := hP
  have hD : va_D A ([(h0, .inr (1, [.int 0, .int 0, .int 0, .int 0, .ref q1]))] ++ rowW cI q1 u2) := hD
  refine lv_aload_n hx hb kd_Cord_15 rfl (lv_at hl 0 rfl) ?_
  refine lv_iload_n hx hb kd_Cord_16 rfl (lv_at hl 1 rfl) ?_
  refine va_putF (D := (dC, dI)) (ci := 1) (v := .int k) (ty := .int) (C := RX1) (T := TX1) (N := 5) hx hb hts (dm_lay_in 1 (by decide)) tyX1 tyX1_ok nmX1 hown hK hP hD hS 0 rfl rfl 0 (by decide) (hts _ cw_11) (fun _ h9 => h9) rfl hin rfl (by decide +kernel) rfl rfl (Nat.le_of_ble_eq_true rfl) kd_Cord_17 (fun H locs hP hD hS => ?_)
  have hP : va_P (dC, dI) vwCl ([(h0, .inr (1, [.int k, .int 0, .int 0, .int 0, .ref q1]))] ++ rowW cI q1 u2) H := hP
  have hD : va_D A ([(h0, .inr (1, [.int k, .int 0, .int 0, .int 0, .ref q1]))] ++ rowW cI q1 u2) := hD
  exact W.vret hx hb hr (fun t ht hW => ⟨⟨(q1, u2), rfl, trivial, by rw [ht]; exact hP, hD⟩, hS.F ht⟩) hS.2.2 kd_Cord_20
theorem kd_Reader_0 : decode prog_4_method_1_code 0 = .ok (.aload_n 0, 1) := by decide +kernel
theorem kd_Reader_1 : decode prog_4_method_1_code 1 = .ok (.invokespecial 3, 3) := by decide +kernel
theorem kd_Reader_4 : decode prog_4_method_1_code 4 = .ok (.return_, 1) := by decide +kernel
theorem cw_12 : Jvm.Cond.methodLink "AnyNail$LawReader" 3 ⟨"java/lang/Object", "<init>", "()V"⟩ ∈ dm_GW := dm_T_in (i := 121) (by decide +kernel) rfl
set_option maxHeartbeats 4000000 in
theorem ct_Reader {l : Launch} {dC : Nat → ClassId} {dI : Nat → Nat → Nat} {cI cZ cO : ClassId} (h0 : Nat) : ct_M l ⟨"AnyNail$LawReader", "<init>", "()V"⟩ prog_4_method_1_code 1 { frames := 1, cells := 0, slots := 0, locals := 16 } dC dI cI cZ cO [.ref h0] h0 (.inr (2, [.null, .int 0, .int 0, .int 0, .int 0])) Unit (fun _ => [(h0, .inr (2, [.null, .int 0, .int 0, .int 0, .int 0]))]) 0 0 := by
  intro sz
  refine Met.ofW (cc := prog_4_method_1_code) (maxL := 1) (ret := none) (by decide) rfl ?_
  intro p e s m args below meth c s₁ B hml hv
  obtain ⟨rfl, hsz, hP, hE⟩ := hv
  have hx := B.exec
  have hb := B.bytes
  have hr := B.returns
  have hts0 := atoms_spec (ws := Jvm.Cond.code ⟨"AnyNail$LawReader", "<init>", "()V"⟩ prog_4_method_1_code 1 none :: dm_GW) B.pre
  have hts := fun w (hw : w ∈ dm_GW) => hts0 w (List.mem_cons_of_mem _ hw)
  clear hts0
  have hown : s.vm.findClass "AnyNail$LawReader" = some m.cls := findClass_of_methodNamed B.named
  have hlocks := B.notSynchronized
  have hin : meth.name = "<init>" := (name_of_methodNamed B.named B.method).1
  subst hsz
  have hK := hE.1
  have hD := ct_D1 (b := h0) (e0 := .inr (2, [.null, .int 0, .int 0, .int 0, .int 0])) (sz := s.heap.size)
  unfold ct_Q
  generalize hAe : va_A [(h0, (.inr (2, [.null, .int 0, .int 0, .int 0, .int 0]) : va_E))] s.heap.size = A at hD ⊢
  have hA : ∀ q : Nat, s.heap.size ≤ q → A q := fun q h => by rw [← hAe]; exact Or.inr h
  have hS : va_S A s.heap s.heap [] := va_S.rf
  have hl := lv_entry ([.ref h0]) (n := 1) (Nat.le_of_ble_eq_true rfl)
  rw [lg_entry_eq]
  generalize (lg_sl ([.ref h0]) ++ List.replicate (1 - (lg_sl ([.ref h0])).length) Slot.unset).toArray = ls at hl ⊢
  have hl : lv_has ls 1 [(0, .ref h0)] := hl
  have hP : va_P (dC, dI) vwCl [(h0, .inr (2, [.null, .int 0, .int 0, .int 0, .int 0]))] s.heap := hP
  refine lv_aload_n hx hb kd_Reader_0 rfl (lv_at hl 0 rfl) ?_
  refine W.objInit hx hb hown (hts _ cw_12) (hts _ cw_0) (hts _ cw_objcode) rfl (by rw [hml]; exact hl.1) rfl kd_Reader_1 (Nat.le_of_ble_eq_true rfl) (Nat.le_of_ble_eq_true rfl) ?_
  refine W.eq (g2 := F0 m 4 ls []) rfl ?_
  exact W.vret hx hb hr (fun t ht hW => ⟨⟨(), rfl, trivial, by rw [ht]; exact hP, hD⟩, hS.F ht⟩) hS.2.2 kd_Reader_4
theorem kd_Board_0 : decode prog_2_method_1_code 0 = .ok (.aload_n 0, 1) := by decide +kernel
theorem kd_Board_1 : decode prog_2_method_1_code 1 = .ok (.invokespecial 3, 3) := by decide +kernel
theorem kd_Board_4 : decode prog_2_method_1_code 4 = .ok (.aload_n 0, 1) := by decide +kernel
theorem kd_Board_5 : decode prog_2_method_1_code 5 = .ok (.iconst 3, 1) := by decide +kernel
theorem kd_Board_6 : decode prog_2_method_1_code 6 = .ok (.putfield 9, 3) := by decide +kernel
theorem kd_Board_9 : decode prog_2_method_1_code 9 = .ok (.aload_n 0, 1) := by decide +kernel
theorem kd_Board_10 : decode prog_2_method_1_code 10 = .ok (.iconst 4, 1) := by decide +kernel
theorem kd_Board_11 : decode prog_2_method_1_code 11 = .ok (.newarray .int, 2) := by decide +kernel
theorem kd_Board_13 : decode prog_2_method_1_code 13 = .ok (.putfield 15, 3) := by decide +kernel
theorem kd_Board_16 : decode prog_2_method_1_code 16 = .ok (.aload_n 0, 1) := by decide +kernel
theorem kd_Board_17 : decode prog_2_method_1_code 17 = .ok (.iconst 4, 1) := by decide +kernel
theorem kd_Board_18 : decode prog_2_method_1_code 18 = .ok (.newarray .int, 2) := by decide +kernel
theorem kd_Board_20 : decode prog_2_method_1_code 20 = .ok (.putfield 19, 3) := by decide +kernel
theorem kd_Board_23 : decode prog_2_method_1_code 23 = .ok (.aload_n 0, 1) := by decide +kernel
theorem kd_Board_24 : decode prog_2_method_1_code 24 = .ok (.iconst 5, 1) := by decide +kernel
theorem kd_Board_25 : decode prog_2_method_1_code 25 = .ok (.anewarray 22, 3) := by decide +kernel
theorem kd_Board_28 : decode prog_2_method_1_code 28 = .ok (.putfield 24, 3) := by decide +kernel
theorem kd_Board_31 : decode prog_2_method_1_code 31 = .ok (.aload_n 0, 1) := by decide +kernel
theorem kd_Board_32 : decode prog_2_method_1_code 32 = .ok (.iconst 5, 1) := by decide +kernel
theorem kd_Board_33 : decode prog_2_method_1_code 33 = .ok (.newarray .int, 2) := by decide +kernel
theorem kd_Board_35 : decode prog_2_method_1_code 35 = .ok (.putfield 28, 3) := by decide +kernel
theorem kd_Board_38 : decode prog_2_method_1_code 38 = .ok (.aload_n 0, 1) := by decide +kernel
theorem kd_Board_39 : decode prog_2_method_1_code 39 = .ok (.bipush 100, 2) := by decide +kernel
theorem kd_Board_41 : decode prog_2_method_1_code 41 = .ok (.newarray .int, 2) := by decide +kernel
theorem kd_Board_43 : decode prog_2_method_1_code 43 = .ok (.putfield 31, 3) := by decide +kernel
theorem kd_Board_46 : decode prog_2_method_1_code 46 = .ok (.aload_n 0, 1) := by decide +kernel
theorem kd_Board_47 : decode prog_2_method_1_code 47 = .ok (.bipush 8, 2) := by decide +kernel
theorem kd_Board_49 : decode prog_2_method_1_code 49 = .ok (.newarray .int, 2) := by decide +kernel
theorem kd_Board_51 : decode prog_2_method_1_code 51 = .ok (.putfield 34, 3) := by decide +kernel
theorem kd_Board_54 : decode prog_2_method_1_code 54 = .ok (.iconst 0, 1) := by decide +kernel
theorem kd_Board_55 : decode prog_2_method_1_code 55 = .ok (.istore_n 1, 1) := by decide +kernel
theorem kd_Board_56 : decode prog_2_method_1_code 56 = .ok (.iload_n 1, 1) := by decide +kernel
theorem kd_Board_57 : decode prog_2_method_1_code 57 = .ok (.iconst 4, 1) := by decide +kernel
theorem kd_Board_58 : decode prog_2_method_1_code 58 = .ok (.if_icmp .ge 16, 3) := by decide +kernel
theorem kd_Board_61 : decode prog_2_method_1_code 61 = .ok (.aload_n 0, 1) := by decide +kernel
theorem kd_Board_62 : decode prog_2_method_1_code 62 = .ok (.getfield 19, 3) := by decide +kernel
theorem kd_Board_65 : decode prog_2_method_1_code 65 = .ok (.iload_n 1, 1) := by decide +kernel
theorem kd_Board_66 : decode prog_2_method_1_code 66 = .ok (.iconst 1, 1) := by decide +kernel
theorem kd_Board_67 : decode prog_2_method_1_code 67 = .ok (.iastore, 1) := by decide +kernel
theorem kd_Board_68 : decode prog_2_method_1_code 68 = .ok (.iinc 1 1, 3) := by decide +kernel
theorem kd_Board_71 : decode prog_2_method_1_code 71 = .ok (.goto (-15), 3) := by decide +kernel
theorem kd_Board_74 : decode prog_2_method_1_code 74 = .ok (.iconst 0, 1) := by decide +kernel
theorem kd_Board_75 : decode prog_2_method_1_code 75 = .ok (.istore_n 1, 1) := by decide +kernel
theorem kd_Board_76 : decode prog_2_method_1_code 76 = .ok (.iload_n 1, 1) := by decide +kernel
theorem kd_Board_77 : decode prog_2_method_1_code 77 = .ok (.iconst 5, 1) := by decide +kernel
theorem kd_Board_78 : decode prog_2_method_1_code 78 = .ok (.if_icmp .ge 23, 3) := by decide +kernel
theorem kd_Board_81 : decode prog_2_method_1_code 81 = .ok (.aload_n 0, 1) := by decide +kernel
theorem kd_Board_82 : decode prog_2_method_1_code 82 = .ok (.getfield 24, 3) := by decide +kernel
theorem kd_Board_85 : decode prog_2_method_1_code 85 = .ok (.iload_n 1, 1) := by decide +kernel
theorem kd_Board_86 : decode prog_2_method_1_code 86 = .ok (.new 22, 3) := by decide +kernel
theorem kd_Board_89 : decode prog_2_method_1_code 89 = .ok (.dup, 1) := by decide +kernel
theorem kd_Board_90 : decode prog_2_method_1_code 90 = .ok (.iload_n 1, 1) := by decide +kernel
theorem kd_Board_91 : decode prog_2_method_1_code 91 = .ok (.invokespecial 37, 3) := by decide +kernel
theorem kd_Board_94 : decode prog_2_method_1_code 94 = .ok (.aastore, 1) := by decide +kernel
theorem kd_Board_95 : decode prog_2_method_1_code 95 = .ok (.iinc 1 1, 3) := by decide +kernel
theorem kd_Board_98 : decode prog_2_method_1_code 98 = .ok (.goto (-22), 3) := by decide +kernel
theorem kd_Board_101 : decode prog_2_method_1_code 101 = .ok (.return_, 1) := by decide +kernel
theorem cw_13 : Jvm.Cond.methodLink "AnyNail$Board" 3 ⟨"java/lang/Object", "<init>", "()V"⟩ ∈ dm_GW := dm_T_in (i := 27) (by decide +kernel) rfl
theorem cw_14 : Jvm.Cond.fieldLink "AnyNail$Board" 9 "AnyNail$Board" "nailCount" "I" ∈ dm_GW := dm_T_in (i := 73) (by decide +kernel) rfl
theorem cw_15 : Jvm.Cond.fieldLink "AnyNail$Board" 15 "AnyNail$Board" "place" "[I" ∈ dm_GW := dm_T_in (i := 75) (by decide +kernel) rfl
theorem cw_16 : Jvm.Cond.fieldLink "AnyNail$Board" 19 "AnyNail$Board" "weak" "[I" ∈ dm_GW := dm_T_in (i := 77) (by decide +kernel) rfl
theorem cw_17 : Jvm.Cond.classLink "AnyNail$Board" 22 "AnyNail$Cord" ∈ dm_GW := dm_T_in (i := 28) (by decide +kernel) rfl
theorem cw_18 : Jvm.Cond.fieldLink "AnyNail$Board" 24 "AnyNail$Board" "cords" "[LAnyNail$Cord;" ∈ dm_GW := dm_T_in (i := 79) (by decide +kernel) rfl
theorem cw_19 : Jvm.Cond.fieldLink "AnyNail$Board" 28 "AnyNail$Board" "lawSets" "[I" ∈ dm_GW := dm_T_in (i := 82) (by decide +kernel) rfl
theorem cw_20 : Jvm.Cond.fieldLink "AnyNail$Board" 31 "AnyNail$Board" "tape" "[I" ∈ dm_GW := dm_T_in (i := 85) (by decide +kernel) rfl
theorem cw_21 : Jvm.Cond.fieldLink "AnyNail$Board" 34 "AnyNail$Board" "seen" "[I" ∈ dm_GW := dm_T_in (i := 89) (by decide +kernel) rfl
theorem cw_22 : Jvm.Cond.instantiable "AnyNail$Cord" 5 ∈ dm_GW := dm_T_in (i := 30) (by decide +kernel) rfl
theorem cw_23 : Jvm.Cond.initialized "AnyNail$Cord" ∈ dm_GW := dm_T_in (i := 3) (by decide +kernel) rfl
theorem cw_24 : Jvm.Cond.code ⟨"AnyNail$Cord", "<init>", "(I)V"⟩ prog_3_method_1_code 2 none ∈ dm_GW := dm_T_in (i := 33) (by rfl) rfl
theorem cw_25 : Jvm.Cond.methodLinkNest "AnyNail$Board" 37 ⟨"AnyNail$Cord", "<init>", "(I)V"⟩ "AnyNail" ∈ dm_NW := dm_N_in (i := 31) (by decide +kernel) rfl
theorem cw_26 : Jvm.Cond.instanceMethod ⟨"AnyNail$Cord", "<init>", "(I)V"⟩ ∈ dm_GW := dm_T_in (i := 32) (by decide +kernel) rfl
set_option maxHeartbeats 4000000 in
theorem ct_Board {l : Launch} {dC : Nat → ClassId} {dI : Nat → Nat → Nat} {cI cZ cO : ClassId} (h0 : Nat) : ct_M l ⟨"AnyNail$Board", "<init>", "()V"⟩ prog_2_method_1_code 2 { frames := 3, cells := 21, slots := 406, locals := 70 } dC dI cI cZ cO [.ref h0] h0 (.inr (0, [.int 0, .null, .null, .null, .int 0, .null, .int 0, .null, .int 0, .null, .int 0])) BdU (bdW cI cO h0) 21 406 := by
  intro sz
  refine Met.ofW (cc := prog_2_method_1_code) (maxL := 2) (ret := none) (by decide) rfl ?_
  intro p e s m args below meth c s₁ B hml hv
  obtain ⟨rfl, hsz, hP, hE⟩ := hv
  have hx := B.exec
  have hb := B.bytes
  have hr := B.returns
  have hts0 := atoms_spec (ws := Jvm.Cond.code ⟨"AnyNail$Board", "<init>", "()V"⟩ prog_2_method_1_code 2 none :: dm_GW) B.pre
  have hts := fun w (hw : w ∈ dm_GW) => hts0 w (List.mem_cons_of_mem _ hw)
  clear hts0
  have hown : s.vm.findClass "AnyNail$Board" = some m.cls := findClass_of_methodNamed B.named
  have hlocks := B.notSynchronized
  have hin : meth.name = "<init>" := (name_of_methodNamed B.named B.method).1
  subst hsz
  have hK := hE.1
  have hD := ct_D1 (b := h0) (e0 := .inr (0, [.int 0, .null, .null, .null, .int 0, .null, .int 0, .null, .int 0, .null, .int 0])) (sz := s.heap.size)
  unfold ct_Q
  generalize hAe : va_A [(h0, (.inr (0, [.int 0, .null, .null, .null, .int 0, .null, .int 0, .null, .int 0, .null, .int 0]) : va_E))] s.heap.size = A at hD ⊢
  have hA : ∀ q : Nat, s.heap.size ≤ q → A q := fun q h => by rw [← hAe]; exact Or.inr h
  have hS : va_S A s.heap s.heap [] := va_S.rf
  have hl := lv_entry ([.ref h0]) (n := 2) (Nat.le_of_ble_eq_true rfl)
  rw [lg_entry_eq]
  generalize (lg_sl ([.ref h0]) ++ List.replicate (2 - (lg_sl ([.ref h0])).length) Slot.unset).toArray = ls at hl ⊢
  have hl : lv_has ls 2 [(0, .ref h0)] := hl
  have hP : va_P (dC, dI) vwCl [(h0, .inr (0, [.int 0, .null, .null, .null, .int 0, .null, .int 0, .null, .int 0, .null, .int 0]))] s.heap := hP
  refine lv_aload_n hx hb kd_Board_0 rfl (lv_at hl 0 rfl) ?_
  refine W.objInit hx hb hown (hts _ cw_13) (hts _ cw_0) (hts _ cw_objcode) rfl (by rw [hml]; exact hl.1) rfl kd_Board_1 (Nat.le_of_ble_eq_true rfl) (Nat.le_of_ble_eq_true rfl) ?_
  refine W.eq (g2 := F0 m 4 ls []) rfl ?_
  refine lv_aload_n hx hb kd_Board_4 rfl (lv_at hl 0 rfl) ?_
  refine lv_iconst (v := 3) hx hb kd_Board_5 (by decide) ?_
  refine va_put (D := (dC, dI)) (ci := 0) (v := .int 3) (ty := .int) (C := RX0) (T := TX0) (N := 11) hx hb hts (dm_lay_in 0 (by decide)) tyX0 tyX0_ok nmX0 hown hK hP hD hS 0 rfl rfl 0 (by decide) (hts _ cw_14) (fun _ h9 => h9) rfl (by decide +kernel) rfl rfl (Nat.le_of_ble_eq_true rfl) kd_Board_6 (fun H locs hP hD hS => ?_)
  have hP : va_P (dC, dI) vwCl [(h0, .inr (0, [.int 3, .null, .null, .null, .int 0, .null, .int 0, .null, .int 0, .null, .int 0]))] H := hP
  have hD : va_D A [(h0, .inr (0, [.int 3, .null, .null, .null, .int 0, .null, .int 0, .null, .int 0, .null, .int 0]))] := hD
  refine lv_aload_n hx hb kd_Board_9 rfl (lv_at hl 0 rfl) ?_
  refine lv_iconst (v := 4) hx hb kd_Board_10 (by decide) ?_
  refine ct_newI (N := 4) hx hb (hts _ cw_arr_int) hK hP hD hS hA (by decide) (by decide) (Nat.le_of_ble_eq_true rfl) (Nat.le_of_ble_eq_true rfl) (Nat.le_of_ble_eq_true rfl) kd_Board_11 (fun q1 H hP hD hS => ?_)
  have hP : va_P (dC, dI) vwCl [(h0, .inr (0, [.int 3, .null, .null, .null, .int 0, .null, .int 0, .null, .int 0, .null, .int 0])), (q1, .inl (cI, 4, .inl (fun _ => 0)))] H := hP
  have hD : va_D A [(h0, .inr (0, [.int 3, .null, .null, .null, .int 0, .null, .int 0, .null, .int 0, .null, .int 0])), (q1, .inl (cI, 4, .inl (fun _ => 0)))] := hD
  refine W.widen (k := 1) (n := 4) (Nat.le_of_ble_eq_true rfl) (Nat.le_of_ble_eq_true rfl) ?_
  refine va_putF (D := (dC, dI)) (ci := 0) (v := .ref q1) (ty := .array .int) (C := RX0) (T := TX0) (N := 11) hx hb hts (dm_lay_in 0 (by decide)) tyX0 tyX0_ok nmX0 hown hK hP hD hS 0 rfl rfl 1 (by decide) (hts _ cw_15) (fun _ h9 => h9) rfl hin rfl (by decide +kernel) rfl rfl (Nat.le_of_ble_eq_true rfl) kd_Board_13 (fun H locs hP hD hS => ?_)
  have hP : va_P (dC, dI) vwCl [(h0, .inr (0, [.int 3, .ref q1, .null, .null, .int 0, .null, .int 0, .null, .int 0, .null, .int 0])), (q1, .inl (cI, 4, .inl (fun _ => 0)))] H := hP
  have hD : va_D A [(h0, .inr (0, [.int 3, .ref q1, .null, .null, .int 0, .null, .int 0, .null, .int 0, .null, .int 0])), (q1, .inl (cI, 4, .inl (fun _ => 0)))] := hD
  refine lv_aload_n hx hb kd_Board_16 rfl (lv_at hl 0 rfl) ?_
  refine lv_iconst (v := 4) hx hb kd_Board_17 (by decide) ?_
  refine ct_newI (N := 4) hx hb (hts _ cw_arr_int) hK hP hD hS hA (by decide) (by decide) (Nat.le_of_ble_eq_true rfl) (Nat.le_of_ble_eq_true rfl) (Nat.le_of_ble_eq_true rfl) kd_Board_18 (fun q2 H hP hD hS => ?_)
  have hP : va_P (dC, dI) vwCl [(h0, .inr (0, [.int 3, .ref q1, .null, .null, .int 0, .null, .int 0, .null, .int 0, .null, .int 0])), (q1, .inl (cI, 4, .inl (fun _ => 0))), (q2, .inl (cI, 4, .inl (fun _ => 0)))] H := hP
  have hD : va_D A [(h0, .inr (0, [.int 3, .ref q1, .null, .null, .int 0, .null, .int 0, .null, .int 0, .null, .int 0])), (q1, .inl (cI, 4, .inl (fun _ => 0))), (q2, .inl (cI, 4, .inl (fun _ => 0)))] := hD
  refine W.widen (k := 2) (n := 8) (Nat.le_of_ble_eq_true rfl) (Nat.le_of_ble_eq_true rfl) ?_
  refine va_putF (D := (dC, dI)) (ci := 0) (v := .ref q2) (ty := .array .int) (C := RX0) (T := TX0) (N := 11) hx hb hts (dm_lay_in 0 (by decide)) tyX0 tyX0_ok nmX0 hown hK hP hD hS 0 rfl rfl 2 (by decide) (hts _ cw_16) (fun _ h9 => h9) rfl hin rfl (by decide +kernel) rfl rfl (Nat.le_of_ble_eq_true rfl) kd_Board_20 (fun H locs hP hD hS => ?_)
  have hP : va_P (dC, dI) vwCl [(h0, .inr (0, [.int 3, .ref q1, .ref q2, .null, .int 0, .null, .int 0, .null, .int 0, .null, .int 0])), (q1, .inl (cI, 4, .inl (fun _ => 0))), (q2, .inl (cI, 4, .inl (fun _ => 0)))] H := hP
  have hD : va_D A [(h0, .inr (0, [.int 3, .ref q1, .ref q2, .null, .int 0, .null, .int 0, .null, .int 0, .null, .int 0])), (q1, .inl (cI, 4, .inl (fun _ => 0))), (q2, .inl (cI, 4, .inl (fun _ => 0)))] := hD
  refine lv_aload_n hx hb kd_Board_23 rfl (lv_at hl 0 rfl) ?_
  refine lv_iconst (v := 5) hx hb kd_Board_24 (by decide) ?_
  refine ct_newO (N := 5) hx hb hown (hts _ cw_17) hE.2.2 hK hP hD hS hA (by decide) (by decide) (Nat.le_of_ble_eq_true rfl) (Nat.le_of_ble_eq_true rfl) (Nat.le_of_ble_eq_true rfl) kd_Board_25 (fun q3 H hP hD hS => ?_)
  have hP : va_P (dC, dI) vwCl [(h0, .inr (0, [.int 3, .ref q1, .ref q2, .null, .int 0, .null, .int 0, .null, .int 0, .null, .int 0])), (q1, .inl (cI, 4, .inl (fun _ => 0))), (q2, .inl (cI, 4, .inl (fun _ => 0))), (q3, .inl (cO, 5, .inr (.inr (.inr (.inr (fun _ => none))))))] H := hP
  have hD : va_D A [(h0, .inr (0, [.int 3, .ref q1, .ref q2, .null, .int 0, .null, .int 0, .null, .int 0, .null, .int 0])), (q1, .inl (cI, 4, .inl (fun _ => 0))), (q2, .inl (cI, 4, .inl (fun _ => 0))), (q3, .inl (cO, 5, .inr (.inr (.inr (.inr (fun _ => none))))))] := hD
  refine W.widen (k := 3) (n := 13) (Nat.le_of_ble_eq_true rfl) (Nat.le_of_ble_eq_true rfl) ?_
  refine va_putF (D := (dC, dI)) (ci := 0) (v := .ref q3) (ty := .array (.object "AnyNail$Cord")) (C := RX0) (T := TX0) (N := 11) hx hb hts (dm_lay_in 0 (by decide)) tyX0 tyX0_ok nmX0 hown hK hP hD hS 0 rfl rfl 3 (by decide) (hts _ cw_18) (fun _ h9 => h9) rfl hin rfl (by decide +kernel) rfl rfl (Nat.le_of_ble_eq_true rfl) kd_Board_28 (fun H locs hP hD hS => ?_)
  have hP : va_P (dC, dI) vwCl [(h0, .inr (0, [.int 3, .ref q1, .ref q2, .ref q3, .int 0, .null, .int 0, .null, .int 0, .null, .int 0])), (q1, .inl (cI, 4, .inl (fun _ => 0))), (q2, .inl (cI, 4, .inl (fun _ => 0))), (q3, .inl (cO, 5, .inr (.inr (.inr (.inr (fun _ => none))))))] H := hP
  have hD : va_D A [(h0, .inr (0, [.int 3, .ref q1, .ref q2, .ref q3, .int 0, .null, .int 0, .null, .int 0, .null, .int 0])), (q1, .inl (cI, 4, .inl (fun _ => 0))), (q2, .inl (cI, 4, .inl (fun _ => 0))), (q3, .inl (cO, 5, .inr (.inr (.inr (.inr (fun _ => none))))))] := hD
  refine lv_aload_n hx hb kd_Board_31 rfl (lv_at hl 0 rfl) ?_
  refine lv_iconst (v := 5) hx hb kd_Board_32 (by decide) ?_
  refine ct_newI (N := 5) hx hb (hts _ cw_arr_int) hK hP hD hS hA (by decide) (by decide) (Nat.le_of_ble_eq_true rfl) (Nat.le_of_ble_eq_true rfl) (Nat.le_of_ble_eq_true rfl) kd_Board_33 (fun q4 H hP hD hS => ?_)
  have hP : va_P (dC, dI) vwCl [(h0, .inr (0, [.int 3, .ref q1, .ref q2, .ref q3, .int 0, .null, .int 0, .null, .int 0, .null, .int 0])), (q1, .inl (cI, 4, .inl (fun _ => 0))), (q2, .inl (cI, 4, .inl (fun _ => 0))), (q3, .inl (cO, 5, .inr (.inr (.inr (.inr (fun _ => none)))))), (q4, .inl (cI, 5, .inl (fun _ => 0)))] H := hP
  have hD : va_D A [(h0, .inr (0, [.int 3, .ref q1, .ref q2, .ref q3, .int 0, .null, .int 0, .null, .int 0, .null, .int 0])), (q1, .inl (cI, 4, .inl (fun _ => 0))), (q2, .inl (cI, 4, .inl (fun _ => 0))), (q3, .inl (cO, 5, .inr (.inr (.inr (.inr (fun _ => none)))))), (q4, .inl (cI, 5, .inl (fun _ => 0)))] := hD
  refine W.widen (k := 4) (n := 18) (Nat.le_of_ble_eq_true rfl) (Nat.le_of_ble_eq_true rfl) ?_
  refine va_putF (D := (dC, dI)) (ci := 0) (v := .ref q4) (ty := .array .int) (C := RX0) (T := TX0) (N := 11) hx hb hts (dm_lay_in 0 (by decide)) tyX0 tyX0_ok nmX0 hown hK hP hD hS 0 rfl rfl 5 (by decide) (hts _ cw_19) (fun _ h9 => h9) rfl hin rfl (by decide +kernel) rfl rfl (Nat.le_of_ble_eq_true rfl) kd_Board_35 (fun H locs hP hD hS => ?_)
  have hP : va_P (dC, dI) vwCl [(h0, .inr (0, [.int 3, .ref q1, .ref q2, .ref q3, .int 0, .ref q4, .int 0, .null, .int 0, .null, .int 0])), (q1, .inl (cI, 4, .inl (fun _ => 0))), (q2, .inl (cI, 4, .inl (fun _ => 0))), (q3, .inl (cO, 5, .inr (.inr (.inr (.inr (fun _ => none)))))), (q4, .inl (cI, 5, .inl (fun _ => 0)))] H := hP
  have hD : va_D A [(h0, .inr (0, [.int 3, .ref q1, .ref q2, .ref q3, .int 0, .ref q4, .int 0, .null, .int 0, .null, .int 0])), (q1, .inl (cI, 4, .inl (fun _ => 0))), (q2, .inl (cI, 4, .inl (fun _ => 0))), (q3, .inl (cO, 5, .inr (.inr (.inr (.inr (fun _ => none)))))), (q4, .inl (cI, 5, .inl (fun _ => 0)))] := hD
  refine lv_aload_n hx hb kd_Board_38 rfl (lv_at hl 0 rfl) ?_
  refine lv_bipush (v := 100) hx hb kd_Board_39 (by decide) ?_
  refine ct_newI (N := 100) hx hb (hts _ cw_arr_int) hK hP hD hS hA (by decide) (by decide) (Nat.le_of_ble_eq_true rfl) (Nat.le_of_ble_eq_true rfl) (Nat.le_of_ble_eq_true rfl) kd_Board_41 (fun q5 H hP hD hS => ?_)
  have hP : va_P (dC, dI) vwCl [(h0, .inr (0, [.int 3, .ref q1, .ref q2, .ref q3, .int 0, .ref q4, .int 0, .null, .int 0, .null, .int 0])), (q1, .inl (cI, 4, .inl (fun _ => 0))), (q2, .inl (cI, 4, .inl (fun _ => 0))), (q3, .inl (cO, 5, .inr (.inr (.inr (.inr (fun _ => none)))))), (q4, .inl (cI, 5, .inl (fun _ => 0))), (q5, .inl (cI, 100, .inl (fun _ => 0)))] H := hP
  have hD : va_D A [(h0, .inr (0, [.int 3, .ref q1, .ref q2, .ref q3, .int 0, .ref q4, .int 0, .null, .int 0, .null, .int 0])), (q1, .inl (cI, 4, .inl (fun _ => 0))), (q2, .inl (cI, 4, .inl (fun _ => 0))), (q3, .inl (cO, 5, .inr (.inr (.inr (.inr (fun _ => none)))))), (q4, .inl (cI, 5, .inl (fun _ => 0))), (q5, .inl (cI, 100, .inl (fun _ => 0)))] := hD
  refine W.widen (k := 5) (n := 118) (Nat.le_of_ble_eq_true rfl) (Nat.le_of_ble_eq_true rfl) ?_
  refine va_putF (D := (dC, dI)) (ci := 0) (v := .ref q5) (ty := .array .int) (C := RX0) (T := TX0) (N := 11) hx hb hts (dm_lay_in 0 (by decide)) tyX0 tyX0_ok nmX0 hown hK hP hD hS 0 rfl rfl 7 (by decide) (hts _ cw_20) (fun _ h9 => h9) rfl hin rfl (by decide +kernel) rfl rfl (Nat.le_of_ble_eq_true rfl) kd_Board_43 (fun H locs hP hD hS => ?_)
  have hP : va_P (dC, dI) vwCl [(h0, .inr (0, [.int 3, .ref q1, .ref q2, .ref q3, .int 0, .ref q4, .int 0, .ref q5, .int 0, .null, .int 0])), (q1, .inl (cI, 4, .inl (fun _ => 0))), (q2, .inl (cI, 4, .inl (fun _ => 0))), (q3, .inl (cO, 5, .inr (.inr (.inr (.inr (fun _ => none)))))), (q4, .inl (cI, 5, .inl (fun _ => 0))), (q5, .inl (cI, 100, .inl (fun _ => 0)))] H := hP
  have hD : va_D A [(h0, .inr (0, [.int 3, .ref q1, .ref q2, .ref q3, .int 0, .ref q4, .int 0, .ref q5, .int 0, .null, .int 0])), (q1, .inl (cI, 4, .inl (fun _ => 0))), (q2, .inl (cI, 4, .inl (fun _ => 0))), (q3, .inl (cO, 5, .inr (.inr (.inr (.inr (fun _ => none)))))), (q4, .inl (cI, 5, .inl (fun _ => 0))), (q5, .inl (cI, 100, .inl (fun _ => 0)))] := hD
  refine lv_aload_n hx hb kd_Board_46 rfl (lv_at hl 0 rfl) ?_
  refine lv_bipush (v := 8) hx hb kd_Board_47 (by decide) ?_
  refine ct_newI (N := 8) hx hb (hts _ cw_arr_int) hK hP hD hS hA (by decide) (by decide) (Nat.le_of_ble_eq_true rfl) (Nat.le_of_ble_eq_true rfl) (Nat.le_of_ble_eq_true rfl) kd_Board_49 (fun q6 H hP hD hS => ?_)
  have hP : va_P (dC, dI) vwCl [(h0, .inr (0, [.int 3, .ref q1, .ref q2, .ref q3, .int 0, .ref q4, .int 0, .ref q5, .int 0, .null, .int 0])), (q1, .inl (cI, 4, .inl (fun _ => 0))), (q2, .inl (cI, 4, .inl (fun _ => 0))), (q3, .inl (cO, 5, .inr (.inr (.inr (.inr (fun _ => none)))))), (q4, .inl (cI, 5, .inl (fun _ => 0))), (q5, .inl (cI, 100, .inl (fun _ => 0))), (q6, .inl (cI, 8, .inl (fun _ => 0)))] H := hP
  have hD : va_D A [(h0, .inr (0, [.int 3, .ref q1, .ref q2, .ref q3, .int 0, .ref q4, .int 0, .ref q5, .int 0, .null, .int 0])), (q1, .inl (cI, 4, .inl (fun _ => 0))), (q2, .inl (cI, 4, .inl (fun _ => 0))), (q3, .inl (cO, 5, .inr (.inr (.inr (.inr (fun _ => none)))))), (q4, .inl (cI, 5, .inl (fun _ => 0))), (q5, .inl (cI, 100, .inl (fun _ => 0))), (q6, .inl (cI, 8, .inl (fun _ => 0)))] := hD
  refine W.widen (k := 6) (n := 126) (Nat.le_of_ble_eq_true rfl) (Nat.le_of_ble_eq_true rfl) ?_
  refine va_putF (D := (dC, dI)) (ci := 0) (v := .ref q6) (ty := .array .int) (C := RX0) (T := TX0) (N := 11) hx hb hts (dm_lay_in 0 (by decide)) tyX0 tyX0_ok nmX0 hown hK hP hD hS 0 rfl rfl 9 (by decide) (hts _ cw_21) (fun _ h9 => h9) rfl hin rfl (by decide +kernel) rfl rfl (Nat.le_of_ble_eq_true rfl) kd_Board_51 (fun H locs hP hD hS => ?_)
  have hP : va_P (dC, dI) vwCl [(h0, .inr (0, [.int 3, .ref q1, .ref q2, .ref q3, .int 0, .ref q4, .int 0, .ref q5, .int 0, .ref q6, .int 0])), (q1, .inl (cI, 4, .inl (fun _ => 0))), (q2, .inl (cI, 4, .inl (fun _ => 0))), (q3, .inl (cO, 5, .inr (.inr (.inr (.inr (fun _ => none)))))), (q4, .inl (cI, 5, .inl (fun _ => 0))), (q5, .inl (cI, 100, .inl (fun _ => 0))), (q6, .inl (cI, 8, .inl (fun _ => 0)))] H := hP
  have hD : va_D A [(h0, .inr (0, [.int 3, .ref q1, .ref q2, .ref q3, .int 0, .ref q4, .int 0, .ref q5, .int 0, .ref q6, .int 0])), (q1, .inl (cI, 4, .inl (fun _ => 0))), (q2, .inl (cI, 4, .inl (fun _ => 0))), (q3, .inl (cO, 5, .inr (.inr (.inr (.inr (fun _ => none)))))), (q4, .inl (cI, 5, .inl (fun _ => 0))), (q5, .inl (cI, 100, .inl (fun _ => 0))), (q6, .inl (cI, 8, .inl (fun _ => 0)))] := hD
  refine lv_iconst (v := 0) hx hb kd_Board_54 (by decide) ?_
  refine lv_istore_n (lv' := [(1, .int 0), (0, .ref h0)]) hx hb kd_Board_55 rfl hl (by decide) rfl (fun ls hl => ?_)
  refine lv_iload_n hx hb kd_Board_56 rfl (lv_at hl 0 rfl) ?_
  refine lv_iconst (v := 4) hx hb kd_Board_57 (by decide) ?_
  refine lv_icmp_ge (tgt := 74) hx hb kd_Board_58 (by decide) (fun h9 => absurd h9 (by decide)) (fun _ => ?_)
  refine lv_aload_n hx hb kd_Board_61 rfl (lv_at hl 1 rfl) ?_
  refine va_get (D := (dC, dI)) (ci := 0) (v := .ref q2) (C := RX0) (T := TX0) (N := 11) hx hb hts (dm_lay_in 0 (by decide)) hown hK hP 0 rfl rfl 2 (by decide) (hts _ cw_16) (fun _ h9 => h9) rfl kd_Board_62 ?_
  refine lv_iload_n hx hb kd_Board_65 rfl (lv_at hl 0 rfl) ?_
  refine lv_iconst (v := 1) hx hb kd_Board_66 (by decide) ?_
  refine va_iast (D := (dC, dI)) hx hb hK hP hD hS 2 0 rfl rfl (i := 0) (x := 1) (by unfold vp_in; decide) kd_Board_67 (fun H locs hP hD hS => ?_)
  have hP : va_P (dC, dI) vwCl [(h0, .inr (0, [.int 3, .ref q1, .ref q2, .ref q3, .int 0, .ref q4, .int 0, .ref q5, .int 0, .ref q6, .int 0])), (q1, .inl (cI, 4, .inl (fun _ => 0))), (q2, .inl (cI, 4, .inl (upd (fun _ => 0) 0 1))), (q3, .inl (cO, 5, .inr (.inr (.inr (.inr (fun _ => none)))))), (q4, .inl (cI, 5, .inl (fun _ => 0))), (q5, .inl (cI, 100, .inl (fun _ => 0))), (q6, .inl (cI, 8, .inl (fun _ => 0)))] H := hP
  have hD : va_D A [(h0, .inr (0, [.int 3, .ref q1, .ref q2, .ref q3, .int 0, .ref q4, .int 0, .ref q5, .int 0, .ref q6, .int 0])), (q1, .inl (cI, 4, .inl (fun _ => 0))), (q2, .inl (cI, 4, .inl (upd (fun _ => 0) 0 1))), (q3, .inl (cO, 5, .inr (.inr (.inr (.inr (fun _ => none)))))), (q4, .inl (cI, 5, .inl (fun _ => 0))), (q5, .inl (cI, 100, .inl (fun _ => 0))), (q6, .inl (cI, 8, .inl (fun _ => 0)))] := hD
  refine lv_iinc (v := 1) (lv' := [(1, .int 1), (0, .ref h0)]) hx hb kd_Board_68 hl (k := 0) rfl (by decide) (by decide) rfl (fun ls hl => ?_)
  refine lv_goto (tgt := 56) hx hb kd_Board_71 (by decide) ?_
  refine lv_iload_n hx hb kd_Board_56 rfl (lv_at hl 0 rfl) ?_
  refine lv_iconst (v := 4) hx hb kd_Board_57 (by decide) ?_
  refine lv_icmp_ge (tgt := 74) hx hb kd_Board_58 (by decide) (fun h9 => absurd h9 (by decide)) (fun _ => ?_)
  refine lv_aload_n hx hb kd_Board_61 rfl (lv_at hl 1 rfl) ?_
  refine va_get (D := (dC, dI)) (ci := 0) (v := .ref q2) (C := RX0) (T := TX0) (N := 11) hx hb hts (dm_lay_in 0 (by decide)) hown hK hP 0 rfl rfl 2 (by decide) (hts _ cw_16) (fun _ h9 => h9) rfl kd_Board_62 ?_
  refine lv_iload_n hx hb kd_Board_65 rfl (lv_at hl 0 rfl) ?_
  refine lv_iconst (v := 1) hx hb kd_Board_66 (by decide) ?_
  refine va_iast (D := (dC, dI)) hx hb hK hP hD hS 2 0 rfl rfl (i := 1) (x := 1) (by unfold vp_in; decide) kd_Board_67 (fun H locs hP hD hS => ?_)
  have hP : va_P (dC, dI) vwCl [(h0, .inr (0, [.int 3, .ref q1, .ref q2, .ref q3, .int 0, .ref q4, .int 0, .ref q5, .int 0, .ref q6, .int 0])), (q1, .inl (cI, 4, .inl (fun _ => 0))), (q2, .inl (cI, 4, .inl (upd (upd (fun _ => 0) 0 1) 1 1))), (q3, .inl (cO, 5, .inr (.inr (.inr (.inr (fun _ => none)))))), (q4, .inl (cI, 5, .inl (fun _ => 0))), (q5, .inl (cI, 100, .inl (fun _ => 0))), (q6, .inl (cI, 8, .inl (fun _ => 0)))] H := hP
  have hD : va_D A [(h0, .inr (0, [.int 3, .ref q1, .ref q2, .ref q3, .int 0, .ref q4, .int 0, .ref q5, .int 0, .ref q6, .int 0])), (q1, .inl (cI, 4, .inl (fun _ => 0))), (q2, .inl (cI, 4, .inl (upd (upd (fun _ => 0) 0 1) 1 1))), (q3, .inl (cO, 5, .inr (.inr (.inr (.inr (fun _ => none)))))), (q4, .inl (cI, 5, .inl (fun _ => 0))), (q5, .inl (cI, 100, .inl (fun _ => 0))), (q6, .inl (cI, 8, .inl (fun _ => 0)))] := hD
  refine lv_iinc (v := 2) (lv' := [(1, .int 2), (0, .ref h0)]) hx hb kd_Board_68 hl (k := 0) rfl (by decide) (by decide) rfl (fun ls hl => ?_)
  refine lv_goto (tgt := 56) hx hb kd_Board_71 (by decide) ?_
  refine lv_iload_n hx hb kd_Board_56 rfl (lv_at hl 0 rfl) ?_
  refine lv_iconst (v := 4) hx hb kd_Board_57 (by decide) ?_
  refine lv_icmp_ge (tgt := 74) hx hb kd_Board_58 (by decide) (fun h9 => absurd h9 (by decide)) (fun _ => ?_)
  refine lv_aload_n hx hb kd_Board_61 rfl (lv_at hl 1 rfl) ?_
  refine va_get (D := (dC, dI)) (ci := 0) (v := .ref q2) (C := RX0) (T := TX0) (N := 11) hx hb hts (dm_lay_in 0 (by decide)) hown hK hP 0 rfl rfl 2 (by decide) (hts _ cw_16) (fun _ h9 => h9) rfl kd_Board_62 ?_
  refine lv_iload_n hx hb kd_Board_65 rfl (lv_at hl 0 rfl) ?_
  refine lv_iconst (v := 1) hx hb kd_Board_66 (by decide) ?_
  refine va_iast (D := (dC, dI)) hx hb hK hP hD hS 2 0 rfl rfl (i := 2) (x := 1) (by unfold vp_in; decide) kd_Board_67 (fun H locs hP hD hS => ?_)
  have hP : va_P (dC, dI) vwCl [(h0, .inr (0, [.int 3, .ref q1, .ref q2, .ref q3, .int 0, .ref q4, .int 0, .ref q5, .int 0, .ref q6, .int 0])), (q1, .inl (cI, 4, .inl (fun _ => 0))), (q2, .inl (cI, 4, .inl (upd (upd (upd (fun _ => 0) 0 1) 1 1) 2 1))), (q3, .inl (cO, 5, .inr (.inr (.inr (.inr (fun _ => none)))))), (q4, .inl (cI, 5, .inl (fun _ => 0))), (q5, .inl (cI, 100, .inl (fun _ => 0))), (q6, .inl (cI, 8, .inl (fun _ => 0)))] H := hP
  have hD : va_D A [(h0, .inr (0, [.int 3, .ref q1, .ref q2, .ref q3, .int 0, .ref q4, .int 0, .ref q5, .int 0, .ref q6, .int 0])), (q1, .inl (cI, 4, .inl (fun _ => 0))), (q2, .inl (cI, 4, .inl (upd (upd (upd (fun _ => 0) 0 1) 1 1) 2 1))), (q3, .inl (cO, 5, .inr (.inr (.inr (.inr (fun _ => none)))))), (q4, .inl (cI, 5, .inl (fun _ => 0))), (q5, .inl (cI, 100, .inl (fun _ => 0))), (q6, .inl (cI, 8, .inl (fun _ => 0)))] := hD
  refine lv_iinc (v := 3) (lv' := [(1, .int 3), (0, .ref h0)]) hx hb kd_Board_68 hl (k := 0) rfl (by decide) (by decide) rfl (fun ls hl => ?_)
  refine lv_goto (tgt := 56) hx hb kd_Board_71 (by decide) ?_
  refine lv_iload_n hx hb kd_Board_56 rfl (lv_at hl 0 rfl) ?_
  refine lv_iconst (v := 4) hx hb kd_Board_57 (by decide) ?_
  refine lv_icmp_ge (tgt := 74) hx hb kd_Board_58 (by decide) (fun h9 => absurd h9 (by decide)) (fun _ => ?_)
  refine lv_aload_n hx hb kd_Board_61 rfl (lv_at hl 1 rfl) ?_
  refine va_get (D := (dC, dI)) (ci := 0) (v := .ref q2) (C := RX0) (T := TX0) (N := 11) hx hb hts (dm_lay_in 0 (by decide)) hown hK hP 0 rfl rfl 2 (by decide) (hts _ cw_16) (fun _ h9 => h9) rfl kd_Board_62 ?_
  refine lv_iload_n hx hb kd_Board_65 rfl (lv_at hl 0 rfl) ?_
  refine lv_iconst (v := 1) hx hb kd_Board_66 (by decide) ?_
  refine va_iast (D := (dC, dI)) hx hb hK hP hD hS 2 0 rfl rfl (i := 3) (x := 1) (by unfold vp_in; decide) kd_Board_67 (fun H locs hP hD hS => ?_)
  have hP : va_P (dC, dI) vwCl [(h0, .inr (0, [.int 3, .ref q1, .ref q2, .ref q3, .int 0, .ref q4, .int 0, .ref q5, .int 0, .ref q6, .int 0])), (q1, .inl (cI, 4, .inl (fun _ => 0))), (q2, .inl (cI, 4, .inl (upd (upd (upd (upd (fun _ => 0) 0 1) 1 1) 2 1) 3 1))), (q3, .inl (cO, 5, .inr (.inr (.inr (.inr (fun _ => none)))))), (q4, .inl (cI, 5, .inl (fun _ => 0))), (q5, .inl (cI, 100, .inl (fun _ => 0))), (q6, .inl (cI, 8, .inl (fun _ => 0)))] H := hP
  have hD : va_D A [(h0, .inr (0, [.int 3, .ref q1, .ref q2, .ref q3, .int 0, .ref q4, .int 0, .ref q5, .int 0, .ref q6, .int 0])), (q1, .inl (cI, 4, .inl (fun _ => 0))), (q2, .inl (cI, 4, .inl (upd (upd (upd (upd (fun _ => 0) 0 1) 1 1) 2 1) 3 1))), (q3, .inl (cO, 5, .inr (.inr (.inr (.inr (fun _ => none)))))), (q4, .inl (cI, 5, .inl (fun _ => 0))), (q5, .inl (cI, 100, .inl (fun _ => 0))), (q6, .inl (cI, 8, .inl (fun _ => 0)))] := hD
  refine lv_iinc (v := 4) (lv' := [(1, .int 4), (0, .ref h0)]) hx hb kd_Board_68 hl (k := 0) rfl (by decide) (by decide) rfl (fun ls hl => ?_)
  refine lv_goto (tgt := 56) hx hb kd_Board_71 (by decide) ?_
  refine lv_iload_n hx hb kd_Board_56 rfl (lv_at hl 0 rfl) ?_
  refine lv_iconst (v := 4) hx hb kd_Board_57 (by decide) ?_
  refine lv_icmp_ge (tgt := 74) hx hb kd_Board_58 (by decide) (fun _ => ?_) (fun h9 => absurd h9 (by decide))
  refine lv_iconst (v := 0) hx hb kd_Board_74 (by decide) ?_
  refine lv_istore_n (lv' := [(1, .int 0), (0, .ref h0)]) hx hb kd_Board_75 rfl hl (by decide) rfl (fun ls hl => ?_)
  refine lv_iload_n hx hb kd_Board_76 rfl (lv_at hl 0 rfl) ?_
  refine lv_iconst (v := 5) hx hb kd_Board_77 (by decide) ?_
  refine lv_icmp_ge (tgt := 101) hx hb kd_Board_78 (by decide) (fun h9 => absurd h9 (by decide)) (fun _ => ?_)
  refine lv_aload_n hx hb kd_Board_81 rfl (lv_at hl 1 rfl) ?_
  refine va_get (D := (dC, dI)) (ci := 0) (v := .ref q3) (C := RX0) (T := TX0) (N := 11) hx hb hts (dm_lay_in 0 (by decide)) hown hK hP 0 rfl rfl 3 (by decide) (hts _ cw_18) (fun _ h9 => h9) rfl kd_Board_82 ?_
  refine lv_iload_n hx hb kd_Board_85 rfl (lv_at hl 0 rfl) ?_
  refine va_new (ci := 1) (fs := [.int 0, .int 0, .int 0, .int 0, .null]) (C := RX1) (T := TX1) (N := 5) hx hb hts (dm_lay_in 1 (by decide)) tyX1 tyX1_ok hown (hts _ cw_17) (hts _ cw_22) (hts _ cw_23) hK hP hD hS hA rfl (fun j hj => df_X1 j hj) (Nat.le_of_ble_eq_true rfl) (Nat.le_of_ble_eq_true rfl) kd_Board_86 (fun q7 H hP hD hS => ?_)
  refine W.widen (k := 7) (n := 131) (Nat.le_of_ble_eq_true rfl) (Nat.le_of_ble_eq_true rfl) ?_
  refine lv_dup hx hb kd_Board_89 rfl ?_
  refine lv_iload_n hx hb kd_Board_90 rfl (lv_at hl 0 rfl) ?_
  refine ct_callN (l := l) (nL := 2) (maxL := 2) (own := "AnyNail$Board") (host := "AnyNail") (y := ⟨"AnyNail$Cord", "<init>", "(I)V"⟩) (bytes := prog_3_method_1_code) (As := [.int 0]) (rest := [.ref q7, .int 0, .ref q3]) (n := 1) ⟨hx, hb, hml, hown, hts⟩ hE (ct_Cord 0 q7) cw_24 cw_23 cw_25 cw_26 rfl (by decide +kernel) ⟨Nat.le_of_ble_eq_true rfl, Nat.le_of_ble_eq_true rfl⟩ rfl rfl rfl hl.1 (Nat.le_of_ble_eq_true rfl) hP hD hS hA kd_Board_91 ⟨Nat.le_of_ble_eq_true rfl, Nat.le_of_ble_eq_true rfl⟩ (fun u8 H locs hP hD hS => ?_)
  have hP : va_P (dC, dI) vwCl ([(h0, .inr (0, [.int 3, .ref q1, .ref q2, .ref q3, .int 0, .ref q4, .int 0, .ref q5, .int 0, .ref q6, .int 0])), (q1, .inl (cI, 4, .inl (fun _ => 0))), (q2, .inl (cI, 4, .inl (upd (upd (upd (upd (fun _ => 0) 0 1) 1 1) 2 1) 3 1))), (q3, .inl (cO, 5, .inr (.inr (.inr (.inr (fun _ => none)))))), (q4, .inl (cI, 5, .inl (fun _ => 0))), (q5, .inl (cI, 100, .inl (fun _ => 0))), (q6, .inl (cI, 8, .inl (fun _ => 0)))] ++ cdW cI 0 q7 u8) H := hP
  have hD : va_D A ([(h0, .inr (0, [.int 3, .ref q1, .ref q2, .ref q3, .int 0, .ref q4, .int 0, .ref q5, .int 0, .ref q6, .int 0])), (q1, .inl (cI, 4, .inl (fun _ => 0))), (q2, .inl (cI, 4, .inl (upd (upd (upd (upd (fun _ => 0) 0 1) 1 1) 2 1) 3 1))), (q3, .inl (cO, 5, .inr (.inr (.inr (.inr (fun _ => none)))))), (q4, .inl (cI, 5, .inl (fun _ => 0))), (q5, .inl (cI, 100, .inl (fun _ => 0))), (q6, .inl (cI, 8, .inl (fun _ => 0)))] ++ cdW cI 0 q7 u8) := hD
  refine W.widen (k := 9) (n := 182) (Nat.le_of_ble_eq_true rfl) (Nat.le_of_ble_eq_true rfl) ?_
  refine va_astq (D := (dC, dI)) (r := (RX1, TX1, 5)) hx hb hK hP hD hS 3 2 7 1 rfl rfl rfl rfl (i := 0) (by unfold vp_in; decide) kd_Board_94 (fun H locs hP hD hS => ?_)
  have hP : va_P (dC, dI) vwCl ([(h0, .inr (0, [.int 3, .ref q1, .ref q2, .ref q3, .int 0, .ref q4, .int 0, .ref q5, .int 0, .ref q6, .int 0])), (q1, .inl (cI, 4, .inl (fun _ => 0))), (q2, .inl (cI, 4, .inl (upd (upd (upd (upd (fun _ => 0) 0 1) 1 1) 2 1) 3 1))), (q3, .inl (cO, 5, .inr (.inr (.inr (.inr (va_up (fun _ => none) 0 (some q7))))))), (q4, .inl (cI, 5, .inl (fun _ => 0))), (q5, .inl (cI, 100, .inl (fun _ => 0))), (q6, .inl (cI, 8, .inl (fun _ => 0)))] ++ cdW cI 0 q7 u8) H := hP
  have hD : va_D A ([(h0, .inr (0, [.int 3, .ref q1, .ref q2, .ref q3, .int 0, .ref q4, .int 0, .ref q5, .int 0, .ref q6, .int 0])), (q1, .inl (cI, 4, .inl (fun _ => 0))), (q2, .inl (cI, 4, .inl (upd (upd (upd (upd (fun _ => 0) 0 1) 1 1) 2 1) 3 1))), (q3, .inl (cO, 5, .inr (.inr (.inr (.inr (va_up (fun _ => none) 0 (some q7))))))), (q4, .inl (cI, 5, .inl (fun _ => 0))), (q5, .inl (cI, 100, .inl (fun _ => 0))), (q6, .inl (cI, 8, .inl (fun _ => 0)))] ++ cdW cI 0 q7 u8) := hD
  refine lv_iinc (v := 1) (lv' := [(1, .int 1), (0, .ref h0)]) hx hb kd_Board_95 hl (k := 0) rfl (by decide) (by decide) rfl (fun ls hl => ?_)
  refine lv_goto (tgt := 76) hx hb kd_Board_98 (by decide) ?_
  refine lv_iload_n hx hb kd_Board_76 rfl (lv_at hl 0 rfl) ?_
  refine lv_iconst (v := 5) hx hb kd_Board_77 (by decide) ?_
  refine lv_icmp_ge (tgt := 101) hx hb kd_Board_78 (by decide) (fun h9 => absurd h9 (by decide)) (fun _ => ?_)
  refine lv_aload_n hx hb kd_Board_81 rfl (lv_at hl 1 rfl) ?_
  refine va_get (D := (dC, dI)) (ci := 0) (v := .ref q3) (C := RX0) (T := TX0) (N := 11) hx hb hts (dm_lay_in 0 (by decide)) hown hK hP 0 rfl rfl 3 (by decide) (hts _ cw_18) (fun _ h9 => h9) rfl kd_Board_82 ?_
  refine lv_iload_n hx hb kd_Board_85 rfl (lv_at hl 0 rfl) ?_
  refine va_new (ci := 1) (fs := [.int 0, .int 0, .int 0, .int 0, .null]) (C := RX1) (T := TX1) (N := 5) hx hb hts (dm_lay_in 1 (by decide)) tyX1 tyX1_ok hown (hts _ cw_17) (hts _ cw_22) (hts _ cw_23) hK hP hD hS hA rfl (fun j hj => df_X1 j hj) (Nat.le_of_ble_eq_true rfl) (Nat.le_of_ble_eq_true rfl) kd_Board_86 (fun q9 H hP hD hS => ?_)
  refine W.widen (k := 10) (n := 187) (Nat.le_of_ble_eq_true rfl) (Nat.le_of_ble_eq_true rfl) ?_
  refine lv_dup hx hb kd_Board_89 rfl ?_
  refine lv_iload_n hx hb kd_Board_90 rfl (lv_at hl 0 rfl) ?_
  refine ct_callN (l := l) (nL := 2) (maxL := 2) (own := "AnyNail$Board") (host := "AnyNail") (y := ⟨"AnyNail$Cord", "<init>", "(I)V"⟩) (bytes := prog_3_method_1_code) (As := [.int 1]) (rest := [.ref q9, .int 1, .ref q3]) (n := 1) ⟨hx, hb, hml, hown, hts⟩ hE (ct_Cord 1 q9) cw_24 cw_23 cw_25 cw_26 rfl (by decide +kernel) ⟨Nat.le_of_ble_eq_true rfl, Nat.le_of_ble_eq_true rfl⟩ rfl rfl rfl hl.1 (Nat.le_of_ble_eq_true rfl) hP hD hS hA kd_Board_91 ⟨Nat.le_of_ble_eq_true rfl, Nat.le_of_ble_eq_true rfl⟩ (fun u10 H locs hP hD hS => ?_)
  have hP : va_P (dC, dI) vwCl (([(h0, .inr (0, [.int 3, .ref q1, .ref q2, .ref q3, .int 0, .ref q4, .int 0, .ref q5, .int 0, .ref q6, .int 0])), (q1, .inl (cI, 4, .inl (fun _ => 0))), (q2, .inl (cI, 4, .inl (upd (upd (upd (upd (fun _ => 0) 0 1) 1 1) 2 1) 3 1))), (q3, .inl (cO, 5, .inr (.inr (.inr (.inr (va_up (fun _ => none) 0 (some q7))))))), (q4, .inl (cI, 5, .inl (fun _ => 0))), (q5, .inl (cI, 100, .inl (fun _ => 0))), (q6, .inl (cI, 8, .inl (fun _ => 0)))] ++ cdW cI 0 q7 u8) ++ cdW cI 1 q9 u10) H := hP
  have hD : va_D A (([(h0, .inr (0, [.int 3, .ref q1, .ref q2, .ref q3, .int 0, .ref q4, .int 0, .ref q5, .int 0, .ref q6, .int 0])), (q1, .inl (cI, 4, .inl (fun _ => 0))), (q2, .inl (cI, 4, .inl (upd (upd (upd (upd (fun _ => 0) 0 1) 1 1) 2 1) 3 1))), (q3, .inl (cO, 5, .inr (.inr (.inr (.inr (va_up (fun _ => none) 0 (some q7))))))), (q4, .inl (cI, 5, .inl (fun _ => 0))), (q5, .inl (cI, 100, .inl (fun _ => 0))), (q6, .inl (cI, 8, .inl (fun _ => 0)))] ++ cdW cI 0 q7 u8) ++ cdW cI 1 q9 u10) := hD
  refine W.widen (k := 12) (n := 238) (Nat.le_of_ble_eq_true rfl) (Nat.le_of_ble_eq_true rfl) ?_
  refine va_astq (D := (dC, dI)) (r := (RX1, TX1, 5)) hx hb hK hP hD hS 3 2 10 1 rfl rfl rfl rfl (i := 1) (by unfold vp_in; decide) kd_Board_94 (fun H locs hP hD hS => ?_)
  have hP : va_P (dC, dI) vwCl (([(h0, .inr (0, [.int 3, .ref q1, .ref q2, .ref q3, .int 0, .ref q4, .int 0, .ref q5, .int 0, .ref q6, .int 0])), (q1, .inl (cI, 4, .inl (fun _ => 0))), (q2, .inl (cI, 4, .inl (upd (upd (upd (upd (fun _ => 0) 0 1) 1 1) 2 1) 3 1))), (q3, .inl (cO, 5, .inr (.inr (.inr (.inr (va_up (va_up (fun _ => none) 0 (some q7)) 1 (some q9))))))), (q4, .inl (cI, 5, .inl (fun _ => 0))), (q5, .inl (cI, 100, .inl (fun _ => 0))), (q6, .inl (cI, 8, .inl (fun _ => 0)))] ++ cdW cI 0 q7 u8) ++ cdW cI 1 q9 u10) H := hP
  have hD : va_D A (([(h0, .inr (0, [.int 3, .ref q1, .ref q2, .ref q3, .int 0, .ref q4, .int 0, .ref q5, .int 0, .ref q6, .int 0])), (q1, .inl (cI, 4, .inl (fun _ => 0))), (q2, .inl (cI, 4, .inl (upd (upd (upd (upd (fun _ => 0) 0 1) 1 1) 2 1) 3 1))), (q3, .inl (cO, 5, .inr (.inr (.inr (.inr (va_up (va_up (fun _ => none) 0 (some q7)) 1 (some q9))))))), (q4, .inl (cI, 5, .inl (fun _ => 0))), (q5, .inl (cI, 100, .inl (fun _ => 0))), (q6, .inl (cI, 8, .inl (fun _ => 0)))] ++ cdW cI 0 q7 u8) ++ cdW cI 1 q9 u10) := hD
  refine lv_iinc (v := 2) (lv' := [(1, .int 2), (0, .ref h0)]) hx hb kd_Board_95 hl (k := 0) rfl (by decide) (by decide) rfl (fun ls hl => ?_)
  refine lv_goto (tgt := 76) hx hb kd_Board_98 (by decide) ?_
  refine lv_iload_n hx hb kd_Board_76 rfl (lv_at hl 0 rfl) ?_
  refine lv_iconst (v := 5) hx hb kd_Board_77 (by decide) ?_
  refine lv_icmp_ge (tgt := 101) hx hb kd_Board_78 (by decide) (fun h9 => absurd h9 (by decide)) (fun _ => ?_)
  refine lv_aload_n hx hb kd_Board_81 rfl (lv_at hl 1 rfl) ?_
  refine va_get (D := (dC, dI)) (ci := 0) (v := .ref q3) (C := RX0) (T := TX0) (N := 11) hx hb hts (dm_lay_in 0 (by decide)) hown hK hP 0 rfl rfl 3 (by decide) (hts _ cw_18) (fun _ h9 => h9) rfl kd_Board_82 ?_
  refine lv_iload_n hx hb kd_Board_85 rfl (lv_at hl 0 rfl) ?_
  refine va_new (ci := 1) (fs := [.int 0, .int 0, .int 0, .int 0, .null]) (C := RX1) (T := TX1) (N := 5) hx hb hts (dm_lay_in 1 (by decide)) tyX1 tyX1_ok hown (hts _ cw_17) (hts _ cw_22) (hts _ cw_23) hK hP hD hS hA rfl (fun j hj => df_X1 j hj) (Nat.le_of_ble_eq_true rfl) (Nat.le_of_ble_eq_true rfl) kd_Board_86 (fun q11 H hP hD hS => ?_)
  refine W.widen (k := 13) (n := 243) (Nat.le_of_ble_eq_true rfl) (Nat.le_of_ble_eq_true rfl) ?_
  refine lv_dup hx hb kd_Board_89 rfl ?_
  refine lv_iload_n hx hb kd_Board_90 rfl (lv_at hl 0 rfl) ?_
  refine ct_callN (l := l) (nL := 2) (maxL := 2) (own := "AnyNail$Board") (host := "AnyNail") (y := ⟨"AnyNail$Cord", "<init>", "(I)V"⟩) (bytes := prog_3_method_1_code) (As := [.int 2]) (rest := [.ref q11, .int 2, .ref q3]) (n := 1) ⟨hx, hb, hml, hown, hts⟩ hE (ct_Cord 2 q11) cw_24 cw_23 cw_25 cw_26 rfl (by decide +kernel) ⟨Nat.le_of_ble_eq_true rfl, Nat.le_of_ble_eq_true rfl⟩ rfl rfl rfl hl.1 (Nat.le_of_ble_eq_true rfl) hP hD hS hA kd_Board_91 ⟨Nat.le_of_ble_eq_true rfl, Nat.le_of_ble_eq_true rfl⟩ (fun u12 H locs hP hD hS => ?_)
  have hP : va_P (dC, dI) vwCl ((([(h0, .inr (0, [.int 3, .ref q1, .ref q2, .ref q3, .int 0, .ref q4, .int 0, .ref q5, .int 0, .ref q6, .int 0])), (q1, .inl (cI, 4, .inl (fun _ => 0))), (q2, .inl (cI, 4, .inl (upd (upd (upd (upd (fun _ => 0) 0 1) 1 1) 2 1) 3 1))), (q3, .inl (cO, 5, .inr (.inr (.inr (.inr (va_up (va_up (fun _ => none) 0 (some q7)) 1 (some q9))))))), (q4, .inl (cI, 5, .inl (fun _ => 0))), (q5, .inl (cI, 100, .inl (fun _ => 0))), (q6, .inl (cI, 8, .inl (fun _ => 0)))] ++ cdW cI 0 q7 u8) ++ cdW cI 1 q9 u10) ++ cdW cI 2 q11 u12) H := hP
  have hD : va_D A ((([(h0, .inr (0, [.int 3, .ref q1, .ref q2, .ref q3, .int 0, .ref q4, .int 0, .ref q5, .int 0, .ref q6, .int 0])), (q1, .inl (cI, 4, .inl (fun _ => 0))), (q2, .inl (cI, 4, .inl (upd (upd (upd (upd (fun _ => 0) 0 1) 1 1) 2 1) 3 1))), (q3, .inl (cO, 5, .inr (.inr (.inr (.inr (va_up (va_up (fun _ => none) 0 (some q7)) 1 (some q9))))))), (q4, .inl (cI, 5, .inl (fun _ => 0))), (q5, .inl (cI, 100, .inl (fun _ => 0))), (q6, .inl (cI, 8, .inl (fun _ => 0)))] ++ cdW cI 0 q7 u8) ++ cdW cI 1 q9 u10) ++ cdW cI 2 q11 u12) := hD
  refine W.widen (k := 15) (n := 294) (Nat.le_of_ble_eq_true rfl) (Nat.le_of_ble_eq_true rfl) ?_
  refine va_astq (D := (dC, dI)) (r := (RX1, TX1, 5)) hx hb hK hP hD hS 3 2 13 1 rfl rfl rfl rfl (i := 2) (by unfold vp_in; decide) kd_Board_94 (fun H locs hP hD hS => ?_)
  have hP : va_P (dC, dI) vwCl ((([(h0, .inr (0, [.int 3, .ref q1, .ref q2, .ref q3, .int 0, .ref q4, .int 0, .ref q5, .int 0, .ref q6, .int 0])), (q1, .inl (cI, 4, .inl (fun _ => 0))), (q2, .inl (cI, 4, .inl (upd (upd (upd (upd (fun _ => 0) 0 1) 1 1) 2 1) 3 1))), (q3, .inl (cO, 5, .inr (.inr (.inr (.inr (va_up (va_up (va_up (fun _ => none) 0 (some q7)) 1 (some q9)) 2 (some q11))))))), (q4, .inl (cI, 5, .inl (fun _ => 0))), (q5, .inl (cI, 100, .inl (fun _ => 0))), (q6, .inl (cI, 8, .inl (fun _ => 0)))] ++ cdW cI 0 q7 u8) ++ cdW cI 1 q9 u10) ++ cdW cI 2 q11 u12) H := hP
  have hD : va_D A ((([(h0, .inr (0, [.int 3, .ref q1, .ref q2, .ref q3, .int 0, .ref q4, .int 0, .ref q5, .int 0, .ref q6, .int 0])), (q1, .inl (cI, 4, .inl (fun _ => 0))), (q2, .inl (cI, 4, .inl (upd (upd (upd (upd (fun _ => 0) 0 1) 1 1) 2 1) 3 1))), (q3, .inl (cO, 5, .inr (.inr (.inr (.inr (va_up (va_up (va_up (fun _ => none) 0 (some q7)) 1 (some q9)) 2 (some q11))))))), (q4, .inl (cI, 5, .inl (fun _ => 0))), (q5, .inl (cI, 100, .inl (fun _ => 0))), (q6, .inl (cI, 8, .inl (fun _ => 0)))] ++ cdW cI 0 q7 u8) ++ cdW cI 1 q9 u10) ++ cdW cI 2 q11 u12) := hD
  refine lv_iinc (v := 3) (lv' := [(1, .int 3), (0, .ref h0)]) hx hb kd_Board_95 hl (k := 0) rfl (by decide) (by decide) rfl (fun ls hl => ?_)
  refine lv_goto (tgt := 76) hx hb kd_Board_98 (by decide) ?_
  refine lv_iload_n hx hb kd_Board_76 rfl (lv_at hl 0 rfl) ?_
  refine lv_iconst (v := 5) hx hb kd_Board_77 (by decide) ?_
  refine lv_icmp_ge (tgt := 101) hx hb kd_Board_78 (by decide) (fun h9 => absurd h9 (by decide)) (fun _ => ?_)
  refine lv_aload_n hx hb kd_Board_81 rfl (lv_at hl 1 rfl) ?_
  refine va_get (D := (dC, dI)) (ci := 0) (v := .ref q3) (C := RX0) (T := TX0) (N := 11) hx hb hts (dm_lay_in 0 (by decide)) hown hK hP 0 rfl rfl 3 (by decide) (hts _ cw_18) (fun _ h9 => h9) rfl kd_Board_82 ?_
  refine lv_iload_n hx hb kd_Board_85 rfl (lv_at hl 0 rfl) ?_
  refine va_new (ci := 1) (fs := [.int 0, .int 0, .int 0, .int 0, .null]) (C := RX1) (T := TX1) (N := 5) hx hb hts (dm_lay_in 1 (by decide)) tyX1 tyX1_ok hown (hts _ cw_17) (hts _ cw_22) (hts _ cw_23) hK hP hD hS hA rfl (fun j hj => df_X1 j hj) (Nat.le_of_ble_eq_true rfl) (Nat.le_of_ble_eq_true rfl) kd_Board_86 (fun q13 H hP hD hS => ?_)
  refine W.widen (k := 16) (n := 299) (Nat.le_of_ble_eq_true rfl) (Nat.le_of_ble_eq_true rfl) ?_
  refine lv_dup hx hb kd_Board_89 rfl ?_
  refine lv_iload_n hx hb kd_Board_90 rfl (lv_at hl 0 rfl) ?_
  refine ct_callN (l := l) (nL := 2) (maxL := 2) (own := "AnyNail$Board") (host := "AnyNail") (y := ⟨"AnyNail$Cord", "<init>", "(I)V"⟩) (bytes := prog_3_method_1_code) (As := [.int 3]) (rest := [.ref q13, .int 3, .ref q3]) (n := 1) ⟨hx, hb, hml, hown, hts⟩ hE (ct_Cord 3 q13) cw_24 cw_23 cw_25 cw_26 rfl (by decide +kernel) ⟨Nat.le_of_ble_eq_true rfl, Nat.le_of_ble_eq_true rfl⟩ rfl rfl rfl hl.1 (Nat.le_of_ble_eq_true rfl) hP hD hS hA kd_Board_91 ⟨Nat.le_of_ble_eq_true rfl, Nat.le_of_ble_eq_true rfl⟩ (fun u14 H locs hP hD hS => ?_)
  have hP : va_P (dC, dI) vwCl (((([(h0, .inr (0, [.int 3, .ref q1, .ref q2, .ref q3, .int 0, .ref q4, .int 0, .ref q5, .int 0, .ref q6, .int 0])), (q1, .inl (cI, 4, .inl (fun _ => 0))), (q2, .inl (cI, 4, .inl (upd (upd (upd (upd (fun _ => 0) 0 1) 1 1) 2 1) 3 1))), (q3, .inl (cO, 5, .inr (.inr (.inr (.inr (va_up (va_up (va_up (fun _ => none) 0 (some q7)) 1 (some q9)) 2 (some q11))))))), (q4, .inl (cI, 5, .inl (fun _ => 0))), (q5, .inl (cI, 100, .inl (fun _ => 0))), (q6, .inl (cI, 8, .inl (fun _ => 0)))] ++ cdW cI 0 q7 u8) ++ cdW cI 1 q9 u10) ++ cdW cI 2 q11 u12) ++ cdW cI 3 q13 u14) H := hP
  have hD : va_D A (((([(h0, .inr (0, [.int 3, .ref q1, .ref q2, .ref q3, .int 0, .ref q4, .int 0, .ref q5, .int 0, .ref q6, .int 0])), (q1, .inl (cI, 4, .inl (fun _ => 0))), (q2, .inl (cI, 4, .inl (upd (upd (upd (upd (fun _ => 0) 0 1) 1 1) 2 1) 3 1))), (q3, .inl (cO, 5, .inr (.inr (.inr (.inr (va_up (va_up (va_up (fun _ => none) 0 (some q7)) 1 (some q9)) 2 (some q11))))))), (q4, .inl (cI, 5, .inl (fun _ => 0))), (q5, .inl (cI, 100, .inl (fun _ => 0))), (q6, .inl (cI, 8, .inl (fun _ => 0)))] ++ cdW cI 0 q7 u8) ++ cdW cI 1 q9 u10) ++ cdW cI 2 q11 u12) ++ cdW cI 3 q13 u14) := hD
  refine W.widen (k := 18) (n := 350) (Nat.le_of_ble_eq_true rfl) (Nat.le_of_ble_eq_true rfl) ?_
  refine va_astq (D := (dC, dI)) (r := (RX1, TX1, 5)) hx hb hK hP hD hS 3 2 16 1 rfl rfl rfl rfl (i := 3) (by unfold vp_in; decide) kd_Board_94 (fun H locs hP hD hS => ?_)
  have hP : va_P (dC, dI) vwCl (((([(h0, .inr (0, [.int 3, .ref q1, .ref q2, .ref q3, .int 0, .ref q4, .int 0, .ref q5, .int 0, .ref q6, .int 0])), (q1, .inl (cI, 4, .inl (fun _ => 0))), (q2, .inl (cI, 4, .inl (upd (upd (upd (upd (fun _ => 0) 0 1) 1 1) 2 1) 3 1))), (q3, .inl (cO, 5, .inr (.inr (.inr (.inr (va_up (va_up (va_up (va_up (fun _ => none) 0 (some q7)) 1 (some q9)) 2 (some q11)) 3 (some q13))))))), (q4, .inl (cI, 5, .inl (fun _ => 0))), (q5, .inl (cI, 100, .inl (fun _ => 0))), (q6, .inl (cI, 8, .inl (fun _ => 0)))] ++ cdW cI 0 q7 u8) ++ cdW cI 1 q9 u10) ++ cdW cI 2 q11 u12) ++ cdW cI 3 q13 u14) H := hP
  have hD : va_D A (((([(h0, .inr (0, [.int 3, .ref q1, .ref q2, .ref q3, .int 0, .ref q4, .int 0, .ref q5, .int 0, .ref q6, .int 0])), (q1, .inl (cI, 4, .inl (fun _ => 0))), (q2, .inl (cI, 4, .inl (upd (upd (upd (upd (fun _ => 0) 0 1) 1 1) 2 1) 3 1))), (q3, .inl (cO, 5, .inr (.inr (.inr (.inr (va_up (va_up (va_up (va_up (fun _ => none) 0 (some q7)) 1 (some q9)) 2 (some q11)) 3 (some q13))))))), (q4, .inl (cI, 5, .inl (fun _ => 0))), (q5, .inl (cI, 100, .inl (fun _ => 0))), (q6, .inl (cI, 8, .inl (fun _ => 0)))] ++ cdW cI 0 q7 u8) ++ cdW cI 1 q9 u10) ++ cdW cI 2 q11 u12) ++ cdW cI 3 q13 u14) := hD
  refine lv_iinc (v := 4) (lv' := [(1, .int 4), (0, .ref h0)]) hx hb kd_Board_95 hl (k := 0) rfl (by decide) (by decide) rfl (fun ls hl => ?_)
  refine lv_goto (tgt := 76) hx hb kd_Board_98 (by decide) ?_
  refine lv_iload_n hx hb kd_Board_76 rfl (lv_at hl 0 rfl) ?_
  refine lv_iconst (v := 5) hx hb kd_Board_77 (by decide) ?_
  refine lv_icmp_ge (tgt := 101) hx hb kd_Board_78 (by decide) (fun h9 => absurd h9 (by decide)) (fun _ => ?_)
  refine lv_aload_n hx hb kd_Board_81 rfl (lv_at hl 1 rfl) ?_
  refine va_get (D := (dC, dI)) (ci := 0) (v := .ref q3) (C := RX0) (T := TX0) (N := 11) hx hb hts (dm_lay_in 0 (by decide)) hown hK hP 0 rfl rfl 3 (by decide) (hts _ cw_18) (fun _ h9 => h9) rfl kd_Board_82 ?_
  refine lv_iload_n hx hb kd_Board_85 rfl (lv_at hl 0 rfl) ?_
  refine va_new (ci := 1) (fs := [.int 0, .int 0, .int 0, .int 0, .null]) (C := RX1) (T := TX1) (N := 5) hx hb hts (dm_lay_in 1 (by decide)) tyX1 tyX1_ok hown (hts _ cw_17) (hts _ cw_22) (hts _ cw_23) hK hP hD hS hA rfl (fun j hj => df_X1 j hj) (Nat.le_of_ble_eq_true rfl) (Nat.le_of_ble_eq_true rfl) kd_Board_86 (fun q15 H hP hD hS => ?_)
  refine W.widen (k := 19) (n := 355) (Nat.le_of_ble_eq_true rfl) (Nat.le_of_ble_eq_true rfl) ?_
  refine lv_dup hx hb kd_Board_89 rfl ?_
  refine lv_iload_n hx hb kd_Board_90 rfl (lv_at hl 0 rfl) ?_
  refine ct_callN (l := l) (nL := 2) (maxL := 2) (own := "AnyNail$Board") (host := "AnyNail") (y := ⟨"AnyNail$Cord", "<init>", "(I)V"⟩) (bytes := prog_3_method_1_code) (As := [.int 4]) (rest := [.ref q15, .int 4, .ref q3]) (n := 1) ⟨hx, hb, hml, hown, hts⟩ hE (ct_Cord 4 q15) cw_24 cw_23 cw_25 cw_26 rfl (by decide +kernel) ⟨Nat.le_of_ble_eq_true rfl, Nat.le_of_ble_eq_true rfl⟩ rfl rfl rfl hl.1 (Nat.le_of_ble_eq_true rfl) hP hD hS hA kd_Board_91 ⟨Nat.le_of_ble_eq_true rfl, Nat.le_of_ble_eq_true rfl⟩ (fun u16 H locs hP hD hS => ?_)
  have hP : va_P (dC, dI) vwCl ((((([(h0, .inr (0, [.int 3, .ref q1, .ref q2, .ref q3, .int 0, .ref q4, .int 0, .ref q5, .int 0, .ref q6, .int 0])), (q1, .inl (cI, 4, .inl (fun _ => 0))), (q2, .inl (cI, 4, .inl (upd (upd (upd (upd (fun _ => 0) 0 1) 1 1) 2 1) 3 1))), (q3, .inl (cO, 5, .inr (.inr (.inr (.inr (va_up (va_up (va_up (va_up (fun _ => none) 0 (some q7)) 1 (some q9)) 2 (some q11)) 3 (some q13))))))), (q4, .inl (cI, 5, .inl (fun _ => 0))), (q5, .inl (cI, 100, .inl (fun _ => 0))), (q6, .inl (cI, 8, .inl (fun _ => 0)))] ++ cdW cI 0 q7 u8) ++ cdW cI 1 q9 u10) ++ cdW cI 2 q11 u12) ++ cdW cI 3 q13 u14) ++ cdW cI 4 q15 u16) H := hP
  have hD : va_D A ((((([(h0, .inr (0, [.int 3, .ref q1, .ref q2, .ref q3, .int 0, .ref q4, .int 0, .ref q5, .int 0, .ref q6, .int 0])), (q1, .inl (cI, 4, .inl (fun _ => 0))), (q2, .inl (cI, 4, .inl (upd (upd (upd (upd (fun _ => 0) 0 1) 1 1) 2 1) 3 1))), (q3, .inl (cO, 5, .inr (.inr (.inr (.inr (va_up (va_up (va_up (va_up (fun _ => none) 0 (some q7)) 1 (some q9)) 2 (some q11)) 3 (some q13))))))), (q4, .inl (cI, 5, .inl (fun _ => 0))), (q5, .inl (cI, 100, .inl (fun _ => 0))), (q6, .inl (cI, 8, .inl (fun _ => 0)))] ++ cdW cI 0 q7 u8) ++ cdW cI 1 q9 u10) ++ cdW cI 2 q11 u12) ++ cdW cI 3 q13 u14) ++ cdW cI 4 q15 u16) := hD
  refine W.widen (k := 21) (n := 406) (Nat.le_of_ble_eq_true rfl) (Nat.le_of_ble_eq_true rfl) ?_
  refine va_astq (D := (dC, dI)) (r := (RX1, TX1, 5)) hx hb hK hP hD hS 3 2 19 1 rfl rfl rfl rfl (i := 4) (by unfold vp_in; decide) kd_Board_94 (fun H locs hP hD hS => ?_)
  have hP : va_P (dC, dI) vwCl ((((([(h0, .inr (0, [.int 3, .ref q1, .ref q2, .ref q3, .int 0, .ref q4, .int 0, .ref q5, .int 0, .ref q6, .int 0])), (q1, .inl (cI, 4, .inl (fun _ => 0))), (q2, .inl (cI, 4, .inl (upd (upd (upd (upd (fun _ => 0) 0 1) 1 1) 2 1) 3 1))), (q3, .inl (cO, 5, .inr (.inr (.inr (.inr (va_up (va_up (va_up (va_up (va_up (fun _ => none) 0 (some q7)) 1 (some q9)) 2 (some q11)) 3 (some q13)) 4 (some q15))))))), (q4, .inl (cI, 5, .inl (fun _ => 0))), (q5, .inl (cI, 100, .inl (fun _ => 0))), (q6, .inl (cI, 8, .inl (fun _ => 0)))] ++ cdW cI 0 q7 u8) ++ cdW cI 1 q9 u10) ++ cdW cI 2 q11 u12) ++ cdW cI 3 q13 u14) ++ cdW cI 4 q15 u16) H := hP
  have hD : va_D A ((((([(h0, .inr (0, [.int 3, .ref q1, .ref q2, .ref q3, .int 0, .ref q4, .int 0, .ref q5, .int 0, .ref q6, .int 0])), (q1, .inl (cI, 4, .inl (fun _ => 0))), (q2, .inl (cI, 4, .inl (upd (upd (upd (upd (fun _ => 0) 0 1) 1 1) 2 1) 3 1))), (q3, .inl (cO, 5, .inr (.inr (.inr (.inr (va_up (va_up (va_up (va_up (va_up (fun _ => none) 0 (some q7)) 1 (some q9)) 2 (some q11)) 3 (some q13)) 4 (some q15))))))), (q4, .inl (cI, 5, .inl (fun _ => 0))), (q5, .inl (cI, 100, .inl (fun _ => 0))), (q6, .inl (cI, 8, .inl (fun _ => 0)))] ++ cdW cI 0 q7 u8) ++ cdW cI 1 q9 u10) ++ cdW cI 2 q11 u12) ++ cdW cI 3 q13 u14) ++ cdW cI 4 q15 u16) := hD
  refine lv_iinc (v := 5) (lv' := [(1, .int 5), (0, .ref h0)]) hx hb kd_Board_95 hl (k := 0) rfl (by decide) (by decide) rfl (fun ls hl => ?_)
  refine lv_goto (tgt := 76) hx hb kd_Board_98 (by decide) ?_
  refine lv_iload_n hx hb kd_Board_76 rfl (lv_at hl 0 rfl) ?_
  refine lv_iconst (v := 5) hx hb kd_Board_77 (by decide) ?_
  refine lv_icmp_ge (tgt := 101) hx hb kd_Board_78 (by decide) (fun _ => ?_) (fun h9 => absurd h9 (by decide))
  exact W.vret hx hb hr (fun t ht hW => ⟨⟨((q1, q2, q3, q4, q5, q6), ((q7, u8), (q9, u10), (q11, u12), (q13, u14), (q15, u16))), rfl, trivial, by rw [ht]; exact hP, hD⟩, hS.F ht⟩) hS.2.2 kd_Board_101
theorem kd_AnyNail_0 : decode prog_1_method_1_code 0 = .ok (.aload_n 0, 1) := by decide +kernel
theorem kd_AnyNail_1 : decode prog_1_method_1_code 1 = .ok (.invokespecial 3, 3) := by decide +kernel
theorem kd_AnyNail_4 : decode prog_1_method_1_code 4 = .ok (.aload_n 0, 1) := by decide +kernel
theorem kd_AnyNail_5 : decode prog_1_method_1_code 5 = .ok (.new 9, 3) := by decide +kernel
theorem kd_AnyNail_8 : decode prog_1_method_1_code 8 = .ok (.dup, 1) := by decide +kernel
theorem kd_AnyNail_9 : decode prog_1_method_1_code 9 = .ok (.invokespecial 11, 3) := by decide +kernel
theorem kd_AnyNail_12 : decode prog_1_method_1_code 12 = .ok (.putfield 12, 3) := by decide +kernel
theorem kd_AnyNail_15 : decode prog_1_method_1_code 15 = .ok (.aload_n 0, 1) := by decide +kernel
theorem kd_AnyNail_16 : decode prog_1_method_1_code 16 = .ok (.new 9, 3) := by decide +kernel
theorem kd_AnyNail_19 : decode prog_1_method_1_code 19 = .ok (.dup, 1) := by decide +kernel
theorem kd_AnyNail_20 : decode prog_1_method_1_code 20 = .ok (.invokespecial 11, 3) := by decide +kernel
theorem kd_AnyNail_23 : decode prog_1_method_1_code 23 = .ok (.putfield 18, 3) := by decide +kernel
theorem kd_AnyNail_26 : decode prog_1_method_1_code 26 = .ok (.aload_n 0, 1) := by decide +kernel
theorem kd_AnyNail_27 : decode prog_1_method_1_code 27 = .ok (.new 21, 3) := by decide +kernel
theorem kd_AnyNail_30 : decode prog_1_method_1_code 30 = .ok (.dup, 1) := by decide +kernel
theorem kd_AnyNail_31 : decode prog_1_method_1_code 31 = .ok (.invokespecial 23, 3) := by decide +kernel
theorem kd_AnyNail_34 : decode prog_1_method_1_code 34 = .ok (.putfield 24, 3) := by decide +kernel
theorem kd_AnyNail_37 : decode prog_1_method_1_code 37 = .ok (.aload_n 0, 1) := by decide +kernel
theorem kd_AnyNail_38 : decode prog_1_method_1_code 38 = .ok (.bipush 20, 2) := by decide +kernel
theorem kd_AnyNail_40 : decode prog_1_method_1_code 40 = .ok (.newarray .int, 2) := by decide +kernel
theorem kd_AnyNail_42 : decode prog_1_method_1_code 42 = .ok (.putfield 28, 3) := by decide +kernel
theorem kd_AnyNail_45 : decode prog_1_method_1_code 45 = .ok (.aload_n 0, 1) := by decide +kernel
theorem kd_AnyNail_46 : decode prog_1_method_1_code 46 = .ok (.new 32, 3) := by decide +kernel
theorem kd_AnyNail_49 : decode prog_1_method_1_code 49 = .ok (.dup, 1) := by decide +kernel
theorem kd_AnyNail_50 : decode prog_1_method_1_code 50 = .ok (.invokespecial 34, 3) := by decide +kernel
theorem kd_AnyNail_53 : decode prog_1_method_1_code 53 = .ok (.putfield 35, 3) := by decide +kernel
theorem kd_AnyNail_56 : decode prog_1_method_1_code 56 = .ok (.aload_n 0, 1) := by decide +kernel
theorem kd_AnyNail_57 : decode prog_1_method_1_code 57 = .ok (.new 32, 3) := by decide +kernel
theorem kd_AnyNail_60 : decode prog_1_method_1_code 60 = .ok (.dup, 1) := by decide +kernel
theorem kd_AnyNail_61 : decode prog_1_method_1_code 61 = .ok (.invokespecial 34, 3) := by decide +kernel
theorem kd_AnyNail_64 : decode prog_1_method_1_code 64 = .ok (.putfield 39, 3) := by decide +kernel
theorem kd_AnyNail_67 : decode prog_1_method_1_code 67 = .ok (.aload_n 0, 1) := by decide +kernel
theorem kd_AnyNail_68 : decode prog_1_method_1_code 68 = .ok (.new 32, 3) := by decide +kernel
theorem kd_AnyNail_71 : decode prog_1_method_1_code 71 = .ok (.dup, 1) := by decide +kernel
theorem kd_AnyNail_72 : decode prog_1_method_1_code 72 = .ok (.invokespecial 34, 3) := by decide +kernel
theorem kd_AnyNail_75 : decode prog_1_method_1_code 75 = .ok (.putfield 42, 3) := by decide +kernel
theorem kd_AnyNail_78 : decode prog_1_method_1_code 78 = .ok (.return_, 1) := by decide +kernel
theorem cw_27 : Jvm.Cond.methodLink "AnyNail" 3 ⟨"java/lang/Object", "<init>", "()V"⟩ ∈ dm_GW := dm_T_in (i := 19) (by decide +kernel) rfl
theorem cw_28 : Jvm.Cond.classLink "AnyNail" 9 "AnyNail$Board" ∈ dm_GW := dm_T_in (i := 22) (by decide +kernel) rfl
theorem cw_29 : Jvm.Cond.instantiable "AnyNail$Board" 11 ∈ dm_GW := dm_T_in (i := 23) (by decide +kernel) rfl
theorem cw_30 : Jvm.Cond.initialized "AnyNail$Board" ∈ dm_GW := dm_T_in (i := 2) (by decide +kernel) rfl
theorem cw_31 : Jvm.Cond.code ⟨"AnyNail$Board", "<init>", "()V"⟩ prog_2_method_1_code 2 none ∈ dm_GW := dm_T_in (i := 26) (by rfl) rfl
theorem cw_32 : Jvm.Cond.methodLinkNest "AnyNail" 11 ⟨"AnyNail$Board", "<init>", "()V"⟩ "AnyNail" ∈ dm_NW := dm_N_in (i := 24) (by decide +kernel) rfl
theorem cw_33 : Jvm.Cond.instanceMethod ⟨"AnyNail$Board", "<init>", "()V"⟩ ∈ dm_GW := dm_T_in (i := 25) (by decide +kernel) rfl
theorem cw_34 : Jvm.Cond.fieldLink "AnyNail" 12 "AnyNail" "board" "LAnyNail$Board;" ∈ dm_GW := dm_T_in (i := 142) (by decide +kernel) rfl
theorem cw_35 : Jvm.Cond.fieldLink "AnyNail" 18 "AnyNail" "kept" "LAnyNail$Board;" ∈ dm_GW := dm_T_in (i := 143) (by decide +kernel) rfl
theorem cw_36 : Jvm.Cond.classLink "AnyNail" 21 "AnyNail$LawReader" ∈ dm_GW := dm_T_in (i := 116) (by decide +kernel) rfl
theorem cw_37 : Jvm.Cond.instantiable "AnyNail$LawReader" 5 ∈ dm_GW := dm_T_in (i := 117) (by decide +kernel) rfl
theorem cw_38 : Jvm.Cond.initialized "AnyNail$LawReader" ∈ dm_GW := dm_T_in (i := 5) (by decide +kernel) rfl
theorem cw_39 : Jvm.Cond.code ⟨"AnyNail$LawReader", "<init>", "()V"⟩ prog_4_method_1_code 1 none ∈ dm_GW := dm_T_in (i := 120) (by rfl) rfl
theorem cw_40 : Jvm.Cond.methodLinkNest "AnyNail" 23 ⟨"AnyNail$LawReader", "<init>", "()V"⟩ "AnyNail" ∈ dm_NW := dm_N_in (i := 118) (by decide +kernel) rfl
theorem cw_41 : Jvm.Cond.instanceMethod ⟨"AnyNail$LawReader", "<init>", "()V"⟩ ∈ dm_GW := dm_T_in (i := 119) (by decide +kernel) rfl
theorem cw_42 : Jvm.Cond.fieldLink "AnyNail" 24 "AnyNail" "reader" "LAnyNail$LawReader;" ∈ dm_GW := dm_T_in (i := 145) (by decide +kernel) rfl
theorem cw_43 : Jvm.Cond.fieldLink "AnyNail" 28 "AnyNail" "traced" "[I" ∈ dm_GW := dm_T_in (i := 146) (by decide +kernel) rfl
theorem cw_44 : Jvm.Cond.classLink "AnyNail" 32 "AnyNail$Row" ∈ dm_GW := dm_T_in (i := 140) (by decide +kernel) rfl
theorem cw_45 : Jvm.Cond.methodLinkNest "AnyNail" 34 ⟨"AnyNail$Row", "<init>", "()V"⟩ "AnyNail" ∈ dm_NW := dm_N_in (i := 141) (by decide +kernel) rfl
theorem cw_46 : Jvm.Cond.fieldLink "AnyNail" 35 "AnyNail" "left" "LAnyNail$Row;" ∈ dm_GW := dm_T_in (i := 148) (by decide +kernel) rfl
theorem cw_47 : Jvm.Cond.fieldLink "AnyNail" 39 "AnyNail" "rowA" "LAnyNail$Row;" ∈ dm_GW := dm_T_in (i := 149) (by decide +kernel) rfl
theorem cw_48 : Jvm.Cond.fieldLink "AnyNail" 42 "AnyNail" "rowB" "LAnyNail$Row;" ∈ dm_GW := dm_T_in (i := 150) (by decide +kernel) rfl
set_option maxHeartbeats 4000000 in
theorem ct_AnyNail {l : Launch} {dC : Nat → ClassId} {dI : Nat → Nat → Nat} {cI cZ cO : ClassId} (h0 : Nat) : ct_M l ⟨"AnyNail", "<init>", "()V"⟩ prog_1_method_1_code 1 { frames := 4, cells := 52, slots := 1012, locals := 100 } dC dI cI cZ cO [.ref h0] h0 (.inr (4, [.null, .null, .int 0, .null, .null, .int 0, .null, .null, .null])) AnU (anW cI cO h0) 52 1012 := by
  intro sz
  refine Met.ofW (cc := prog_1_method_1_code) (maxL := 1) (ret := none) (by decide) rfl ?_
  intro p e s m args below meth c s₁ B hml hv
  obtain ⟨rfl, hsz, hP, hE⟩ := hv
  have hx := B.exec
  have hb := B.bytes
  have hr := B.returns
  have hts0 := atoms_spec (ws := Jvm.Cond.code ⟨"AnyNail", "<init>", "()V"⟩ prog_1_method_1_code 1 none :: dm_GW) B.pre
  have hts := fun w (hw : w ∈ dm_GW) => hts0 w (List.mem_cons_of_mem _ hw)
  clear hts0
  have hown : s.vm.findClass "AnyNail" = some m.cls := findClass_of_methodNamed B.named
  have hlocks := B.notSynchronized
  have hin : meth.name = "<init>" := (name_of_methodNamed B.named B.method).1
  subst hsz
  have hK := hE.1
  have hD := ct_D1 (b := h0) (e0 := .inr (4, [.null, .null, .int 0, .null, .null, .int 0, .null, .null, .null])) (sz := s.heap.size)
  unfold ct_Q
  generalize hAe : va_A [(h0, (.inr (4, [.null, .null, .int 0, .null, .null, .int 0, .null, .null, .null]) : va_E))] s.heap.size = A at hD ⊢
  have hA : ∀ q : Nat, s.heap.size ≤ q → A q := fun q h => by rw [← hAe]; exact Or.inr h
  have hS : va_S A s.heap s.heap [] := va_S.rf
  have hl := lv_entry ([.ref h0]) (n := 1) (Nat.le_of_ble_eq_true rfl)
  rw [lg_entry_eq]
  generalize (lg_sl ([.ref h0]) ++ List.replicate (1 - (lg_sl ([.ref h0])).length) Slot.unset).toArray = ls at hl ⊢
  have hl : lv_has ls 1 [(0, .ref h0)] := hl
  have hP : va_P (dC, dI) vwCl [(h0, .inr (4, [.null, .null, .int 0, .null, .null, .int 0, .null, .null, .null]))] s.heap := hP
  refine lv_aload_n hx hb kd_AnyNail_0 rfl (lv_at hl 0 rfl) ?_
  refine W.objInit hx hb hown (hts _ cw_27) (hts _ cw_0) (hts _ cw_objcode) rfl (by rw [hml]; exact hl.1) rfl kd_AnyNail_1 (Nat.le_of_ble_eq_true rfl) (Nat.le_of_ble_eq_true rfl) ?_
  refine W.eq (g2 := F0 m 4 ls []) rfl ?_
  refine lv_aload_n hx hb kd_AnyNail_4 rfl (lv_at hl 0 rfl) ?_
  refine va_new (ci := 0) (fs := [.int 0, .null, .null, .null, .int 0, .null, .int 0, .null, .int 0, .null, .int 0]) (C := RX0) (T := TX0) (N := 11) hx hb hts (dm_lay_in 0 (by decide)) tyX0 tyX0_ok hown (hts _ cw_28) (hts _ cw_29) (hts _ cw_30) hK hP hD hS hA rfl (fun j hj => df_X0 j hj) (Nat.le_of_ble_eq_true rfl) (Nat.le_of_ble_eq_true rfl) kd_AnyNail_5 (fun q1 H hP hD hS => ?_)
  refine W.widen (k := 1) (n := 11) (Nat.le_of_ble_eq_true rfl) (Nat.le_of_ble_eq_true rfl) ?_
  refine lv_dup hx hb kd_AnyNail_8 rfl ?_
  refine ct_callN (l := l) (nL := 1) (maxL := 2) (own := "AnyNail") (host := "AnyNail") (y := ⟨"AnyNail$Board", "<init>", "()V"⟩) (bytes := prog_2_method_1_code) (As := []) (rest := [.ref q1, .ref h0]) (n := 0) ⟨hx, hb, hml, hown, hts⟩ hE (ct_Board q1) cw_31 cw_30 cw_32 cw_33 rfl (by decide +kernel) ⟨Nat.le_of_ble_eq_true rfl, Nat.le_of_ble_eq_true rfl⟩ rfl rfl rfl hl.1 (Nat.le_of_ble_eq_true rfl) hP hD hS hA kd_AnyNail_9 ⟨Nat.le_of_ble_eq_true rfl, Nat.le_of_ble_eq_true rfl⟩ (fun u2 H locs hP hD hS => ?_)
  have hP : va_P (dC, dI) vwCl ([(h0, .inr (4, [.null, .null, .int 0, .null, .null, .int 0, .null, .null, .null]))] ++ bdW cI cO q1 u2) H := hP
  have hD : va_D A ([(h0, .inr (4, [.null, .null, .int 0, .null, .null, .int 0, .null, .null, .null]))] ++ bdW cI cO q1 u2) := hD
  refine W.widen (k := 22) (n := 417) (Nat.le_of_ble_eq_true rfl) (Nat.le_of_ble_eq_true rfl) ?_
  refine va_putF (D := (dC, dI)) (ci := 4) (v := .ref q1) (ty := .object "AnyNail$Board") (C := RX4) (T := TX4) (N := 9) hx hb hts (dm_lay_in 4 (by decide)) tyX4 tyX4_ok nmX4 hown hK hP hD hS 0 rfl rfl 0 (by decide) (hts _ cw_34) (fun _ h9 => h9) rfl hin rfl (by decide +kernel) rfl rfl (Nat.le_of_ble_eq_true rfl) kd_AnyNail_12 (fun H locs hP hD hS => ?_)
  have hP : va_P (dC, dI) vwCl ([(h0, .inr (4, [.ref q1, .null, .int 0, .null, .null, .int 0, .null, .null, .null]))] ++ bdW cI cO q1 u2) H := hP
  have hD : va_D A ([(h0, .inr (4, [.ref q1, .null, .int 0, .null, .null, .int 0, .null, .null, .null]))] ++ bdW cI cO q1 u2) := hD
  refine lv_aload_n hx hb kd_AnyNail_15 rfl (lv_at hl 0 rfl) ?_
  refine va_new (ci := 0) (fs := [.int 0, .null, .null, .null, .int 0, .null, .int 0, .null, .int 0, .null, .int 0]) (C := RX0) (T := TX0) (N := 11) hx hb hts (dm_lay_in 0 (by decide)) tyX0 tyX0_ok hown (hts _ cw_28) (hts _ cw_29) (hts _ cw_30) hK hP hD hS hA rfl (fun j hj => df_X0 j hj) (Nat.le_of_ble_eq_true rfl) (Nat.le_of_ble_eq_true rfl) kd_AnyNail_16 (fun q3 H hP hD hS => ?_)
  refine W.widen (k := 23) (n := 428) (Nat.le_of_ble_eq_true rfl) (Nat.le_of_ble_eq_true rfl) ?_
  refine lv_dup hx hb kd_AnyNail_19 rfl ?_
  refine ct_callN (l := l) (nL := 1) (maxL := 2) (own := "AnyNail") (host := "AnyNail") (y := ⟨"AnyNail$Board", "<init>", "()V"⟩) (bytes := prog_2_method_1_code) (As := []) (rest := [.ref q3, .ref h0]) (n := 0) ⟨hx, hb, hml, hown, hts⟩ hE (ct_Board q3) cw_31 cw_30 cw_32 cw_33 rfl (by decide +kernel) ⟨Nat.le_of_ble_eq_true rfl, Nat.le_of_ble_eq_true rfl⟩ rfl rfl rfl hl.1 (Nat.le_of_ble_eq_true rfl) hP hD hS hA kd_AnyNail_20 ⟨Nat.le_of_ble_eq_true rfl, Nat.le_of_ble_eq_true rfl⟩ (fun u4 H locs hP hD hS => ?_)
  have hP : va_P (dC, dI) vwCl (([(h0, .inr (4, [.ref q1, .null, .int 0, .null, .null, .int 0, .null, .null, .null]))] ++ bdW cI cO q1 u2) ++ bdW cI cO q3 u4) H := hP
  have hD : va_D A (([(h0, .inr (4, [.ref q1, .null, .int 0, .null, .null, .int 0, .null, .null, .null]))] ++ bdW cI cO q1 u2) ++ bdW cI cO q3 u4) := hD
  refine W.widen (k := 44) (n := 834) (Nat.le_of_ble_eq_true rfl) (Nat.le_of_ble_eq_true rfl) ?_
  refine va_putF (D := (dC, dI)) (ci := 4) (v := .ref q3) (ty := .object "AnyNail$Board") (C := RX4) (T := TX4) (N := 9) hx hb hts (dm_lay_in 4 (by decide)) tyX4 tyX4_ok nmX4 hown hK hP hD hS 0 rfl rfl 1 (by decide) (hts _ cw_35) (fun _ h9 => h9) rfl hin rfl (by decide +kernel) rfl rfl (Nat.le_of_ble_eq_true rfl) kd_AnyNail_23 (fun H locs hP hD hS => ?_)
  have hP : va_P (dC, dI) vwCl (([(h0, .inr (4, [.ref q1, .ref q3, .int 0, .null, .null, .int 0, .null, .null, .null]))] ++ bdW cI cO q1 u2) ++ bdW cI cO q3 u4) H := hP
  have hD : va_D A (([(h0, .inr (4, [.ref q1, .ref q3, .int 0, .null, .null, .int 0, .null, .null, .null]))] ++ bdW cI cO q1 u2) ++ bdW cI cO q3 u4) := hD
  refine lv_aload_n hx hb kd_AnyNail_26 rfl (lv_at hl 0 rfl) ?_
  refine va_new (ci := 2) (fs := [.null, .int 0, .int 0, .int 0, .int 0]) (C := RX2) (T := TX2) (N := 5) hx hb hts (dm_lay_in 2 (by decide)) tyX2 tyX2_ok hown (hts _ cw_36) (hts _ cw_37) (hts _ cw_38) hK hP hD hS hA rfl (fun j hj => df_X2 j hj) (Nat.le_of_ble_eq_true rfl) (Nat.le_of_ble_eq_true rfl) kd_AnyNail_27 (fun q5 H hP hD hS => ?_)
  refine W.widen (k := 45) (n := 839) (Nat.le_of_ble_eq_true rfl) (Nat.le_of_ble_eq_true rfl) ?_
  refine lv_dup hx hb kd_AnyNail_30 rfl ?_
  refine ct_callN (l := l) (nL := 1) (maxL := 1) (own := "AnyNail") (host := "AnyNail") (y := ⟨"AnyNail$LawReader", "<init>", "()V"⟩) (bytes := prog_4_method_1_code) (As := []) (rest := [.ref q5, .ref h0]) (n := 0) ⟨hx, hb, hml, hown, hts⟩ hE (ct_Reader q5) cw_39 cw_38 cw_40 cw_41 rfl (by decide +kernel) ⟨Nat.le_of_ble_eq_true rfl, Nat.le_of_ble_eq_true rfl⟩ rfl rfl rfl hl.1 (Nat.le_of_ble_eq_true rfl) hP hD hS hA kd_AnyNail_31 ⟨Nat.le_of_ble_eq_true rfl, Nat.le_of_ble_eq_true rfl⟩ (fun u6 H locs hP hD hS => ?_)
  have hP : va_P (dC, dI) vwCl ((([(h0, .inr (4, [.ref q1, .ref q3, .int 0, .null, .null, .int 0, .null, .null, .null]))] ++ bdW cI cO q1 u2) ++ bdW cI cO q3 u4) ++ [(q5, .inr (2, [.null, .int 0, .int 0, .int 0, .int 0]))]) H := hP
  have hD : va_D A ((([(h0, .inr (4, [.ref q1, .ref q3, .int 0, .null, .null, .int 0, .null, .null, .null]))] ++ bdW cI cO q1 u2) ++ bdW cI cO q3 u4) ++ [(q5, .inr (2, [.null, .int 0, .int 0, .int 0, .int 0]))]) := hD
  refine W.widen (k := 45) (n := 839) (Nat.le_of_ble_eq_true rfl) (Nat.le_of_ble_eq_true rfl) ?_
  refine va_putF (D := (dC, dI)) (ci := 4) (v := .ref q5) (ty := .object "AnyNail$LawReader") (C := RX4) (T := TX4) (N := 9) hx hb hts (dm_lay_in 4 (by decide)) tyX4 tyX4_ok nmX4 hown hK hP hD hS 0 rfl rfl 3 (by decide) (hts _ cw_42) (fun _ h9 => h9) rfl hin rfl (by decide +kernel) rfl rfl (Nat.le_of_ble_eq_true rfl) kd_AnyNail_34 (fun H locs hP hD hS => ?_)
  have hP : va_P (dC, dI) vwCl ((([(h0, .inr (4, [.ref q1, .ref q3, .int 0, .ref q5, .null, .int 0, .null, .null, .null]))] ++ bdW cI cO q1 u2) ++ bdW cI cO q3 u4) ++ [(q5, .inr (2, [.null, .int 0, .int 0, .int 0, .int 0]))]) H := hP
  have hD : va_D A ((([(h0, .inr (4, [.ref q1, .ref q3, .int 0, .ref q5, .null, .int 0, .null, .null, .null]))] ++ bdW cI cO q1 u2) ++ bdW cI cO q3 u4) ++ [(q5, .inr (2, [.null, .int 0, .int 0, .int 0, .int 0]))]) := hD
  refine lv_aload_n hx hb kd_AnyNail_37 rfl (lv_at hl 0 rfl) ?_
  refine lv_bipush (v := 20) hx hb kd_AnyNail_38 (by decide) ?_
  refine ct_newI (N := 20) hx hb (hts _ cw_arr_int) hK hP hD hS hA (by decide) (by decide) (Nat.le_of_ble_eq_true rfl) (Nat.le_of_ble_eq_true rfl) (Nat.le_of_ble_eq_true rfl) kd_AnyNail_40 (fun q7 H hP hD hS => ?_)
  have hP : va_P (dC, dI) vwCl ((([(h0, .inr (4, [.ref q1, .ref q3, .int 0, .ref q5, .null, .int 0, .null, .null, .null]))] ++ bdW cI cO q1 u2) ++ bdW cI cO q3 u4) ++ [(q5, .inr (2, [.null, .int 0, .int 0, .int 0, .int 0])), (q7, .inl (cI, 20, .inl (fun _ => 0)))]) H := hP
  have hD : va_D A ((([(h0, .inr (4, [.ref q1, .ref q3, .int 0, .ref q5, .null, .int 0, .null, .null, .null]))] ++ bdW cI cO q1 u2) ++ bdW cI cO q3 u4) ++ [(q5, .inr (2, [.null, .int 0, .int 0, .int 0, .int 0])), (q7, .inl (cI, 20, .inl (fun _ => 0)))]) := hD
  refine W.widen (k := 46) (n := 859) (Nat.le_of_ble_eq_true rfl) (Nat.le_of_ble_eq_true rfl) ?_
  refine va_putF (D := (dC, dI)) (ci := 4) (v := .ref q7) (ty := .array .int) (C := RX4) (T := TX4) (N := 9) hx hb hts (dm_lay_in 4 (by decide)) tyX4 tyX4_ok nmX4 hown hK hP hD hS 0 rfl rfl 4 (by decide) (hts _ cw_43) (fun _ h9 => h9) rfl hin rfl (by decide +kernel) rfl rfl (Nat.le_of_ble_eq_true rfl) kd_AnyNail_42 (fun H locs hP hD hS => ?_)
  have hP : va_P (dC, dI) vwCl ((([(h0, .inr (4, [.ref q1, .ref q3, .int 0, .ref q5, .ref q7, .int 0, .null, .null, .null]))] ++ bdW cI cO q1 u2) ++ bdW cI cO q3 u4) ++ [(q5, .inr (2, [.null, .int 0, .int 0, .int 0, .int 0])), (q7, .inl (cI, 20, .inl (fun _ => 0)))]) H := hP
  have hD : va_D A ((([(h0, .inr (4, [.ref q1, .ref q3, .int 0, .ref q5, .ref q7, .int 0, .null, .null, .null]))] ++ bdW cI cO q1 u2) ++ bdW cI cO q3 u4) ++ [(q5, .inr (2, [.null, .int 0, .int 0, .int 0, .int 0])), (q7, .inl (cI, 20, .inl (fun _ => 0)))]) := hD
  refine lv_aload_n hx hb kd_AnyNail_45 rfl (lv_at hl 0 rfl) ?_
  refine va_new (ci := 3) (fs := [.null, .int 0]) (C := RX3) (T := TX3) (N := 2) hx hb hts (dm_lay_in 3 (by decide)) tyX3 tyX3_ok hown (hts _ cw_44) (hts _ cw_5) (hts _ cw_6) hK hP hD hS hA rfl (fun j hj => df_X3 j hj) (Nat.le_of_ble_eq_true rfl) (Nat.le_of_ble_eq_true rfl) kd_AnyNail_46 (fun q8 H hP hD hS => ?_)
  refine W.widen (k := 47) (n := 861) (Nat.le_of_ble_eq_true rfl) (Nat.le_of_ble_eq_true rfl) ?_
  refine lv_dup hx hb kd_AnyNail_49 rfl ?_
  refine ct_callN (l := l) (nL := 1) (maxL := 1) (own := "AnyNail") (host := "AnyNail") (y := ⟨"AnyNail$Row", "<init>", "()V"⟩) (bytes := prog_5_method_1_code) (As := []) (rest := [.ref q8, .ref h0]) (n := 0) ⟨hx, hb, hml, hown, hts⟩ hE (ct_Row q8) cw_7 cw_6 cw_45 cw_9 rfl (by decide +kernel) ⟨Nat.le_of_ble_eq_true rfl, Nat.le_of_ble_eq_true rfl⟩ rfl rfl rfl hl.1 (Nat.le_of_ble_eq_true rfl) hP hD hS hA kd_AnyNail_50 ⟨Nat.le_of_ble_eq_true rfl, Nat.le_of_ble_eq_true rfl⟩ (fun u9 H locs hP hD hS => ?_)
  have hP : va_P (dC, dI) vwCl (((([(h0, .inr (4, [.ref q1, .ref q3, .int 0, .ref q5, .ref q7, .int 0, .null, .null, .null]))] ++ bdW cI cO q1 u2) ++ bdW cI cO q3 u4) ++ [(q5, .inr (2, [.null, .int 0, .int 0, .int 0, .int 0])), (q7, .inl (cI, 20, .inl (fun _ => 0)))]) ++ rowW cI q8 u9) H := hP
  have hD : va_D A (((([(h0, .inr (4, [.ref q1, .ref q3, .int 0, .ref q5, .ref q7, .int 0, .null, .null, .null]))] ++ bdW cI cO q1 u2) ++ bdW cI cO q3 u4) ++ [(q5, .inr (2, [.null, .int 0, .int 0, .int 0, .int 0])), (q7, .inl (cI, 20, .inl (fun _ => 0)))]) ++ rowW cI q8 u9) := hD
  refine W.widen (k := 48) (n := 910) (Nat.le_of_ble_eq_true rfl) (Nat.le_of_ble_eq_true rfl) ?_
  refine va_putF (D := (dC, dI)) (ci := 4) (v := .ref q8) (ty := .object "AnyNail$Row") (C := RX4) (T := TX4) (N := 9) hx hb hts (dm_lay_in 4 (by decide)) tyX4 tyX4_ok nmX4 hown hK hP hD hS 0 rfl rfl 6 (by decide) (hts _ cw_46) (fun _ h9 => h9) rfl hin rfl (by decide +kernel) rfl rfl (Nat.le_of_ble_eq_true rfl) kd_AnyNail_53 (fun H locs hP hD hS => ?_)
  have hP : va_P (dC, dI) vwCl (((([(h0, .inr (4, [.ref q1, .ref q3, .int 0, .ref q5, .ref q7, .int 0, .ref q8, .null, .null]))] ++ bdW cI cO q1 u2) ++ bdW cI cO q3 u4) ++ [(q5, .inr (2, [.null, .int 0, .int 0, .int 0, .int 0])), (q7, .inl (cI, 20, .inl (fun _ => 0)))]) ++ rowW cI q8 u9) H := hP
  have hD : va_D A (((([(h0, .inr (4, [.ref q1, .ref q3, .int 0, .ref q5, .ref q7, .int 0, .ref q8, .null, .null]))] ++ bdW cI cO q1 u2) ++ bdW cI cO q3 u4) ++ [(q5, .inr (2, [.null, .int 0, .int 0, .int 0, .int 0])), (q7, .inl (cI, 20, .inl (fun _ => 0)))]) ++ rowW cI q8 u9) := hD
  refine lv_aload_n hx hb kd_AnyNail_56 rfl (lv_at hl 0 rfl) ?_
  refine va_new (ci := 3) (fs := [.null, .int 0]) (C := RX3) (T := TX3) (N := 2) hx hb hts (dm_lay_in 3 (by decide)) tyX3 tyX3_ok hown (hts _ cw_44) (hts _ cw_5) (hts _ cw_6) hK hP hD hS hA rfl (fun j hj => df_X3 j hj) (Nat.le_of_ble_eq_true rfl) (Nat.le_of_ble_eq_true rfl) kd_AnyNail_57 (fun q10 H hP hD hS => ?_)
  refine W.widen (k := 49) (n := 912) (Nat.le_of_ble_eq_true rfl) (Nat.le_of_ble_eq_true rfl) ?_
  refine lv_dup hx hb kd_AnyNail_60 rfl ?_
  refine ct_callN (l := l) (nL := 1) (maxL := 1) (own := "AnyNail") (host := "AnyNail") (y := ⟨"AnyNail$Row", "<init>", "()V"⟩) (bytes := prog_5_method_1_code) (As := []) (rest := [.ref q10, .ref h0]) (n := 0) ⟨hx, hb, hml, hown, hts⟩ hE (ct_Row q10) cw_7 cw_6 cw_45 cw_9 rfl (by decide +kernel) ⟨Nat.le_of_ble_eq_true rfl, Nat.le_of_ble_eq_true rfl⟩ rfl rfl rfl hl.1 (Nat.le_of_ble_eq_true rfl) hP hD hS hA kd_AnyNail_61 ⟨Nat.le_of_ble_eq_true rfl, Nat.le_of_ble_eq_true rfl⟩ (fun u11 H locs hP hD hS => ?_)
  have hP : va_P (dC, dI) vwCl ((((([(h0, .inr (4, [.ref q1, .ref q3, .int 0, .ref q5, .ref q7, .int 0, .ref q8, .null, .null]))] ++ bdW cI cO q1 u2) ++ bdW cI cO q3 u4) ++ [(q5, .inr (2, [.null, .int 0, .int 0, .int 0, .int 0])), (q7, .inl (cI, 20, .inl (fun _ => 0)))]) ++ rowW cI q8 u9) ++ rowW cI q10 u11) H := hP
  have hD : va_D A ((((([(h0, .inr (4, [.ref q1, .ref q3, .int 0, .ref q5, .ref q7, .int 0, .ref q8, .null, .null]))] ++ bdW cI cO q1 u2) ++ bdW cI cO q3 u4) ++ [(q5, .inr (2, [.null, .int 0, .int 0, .int 0, .int 0])), (q7, .inl (cI, 20, .inl (fun _ => 0)))]) ++ rowW cI q8 u9) ++ rowW cI q10 u11) := hD
  refine W.widen (k := 50) (n := 961) (Nat.le_of_ble_eq_true rfl) (Nat.le_of_ble_eq_true rfl) ?_
  refine va_putF (D := (dC, dI)) (ci := 4) (v := .ref q10) (ty := .object "AnyNail$Row") (C := RX4) (T := TX4) (N := 9) hx hb hts (dm_lay_in 4 (by decide)) tyX4 tyX4_ok nmX4 hown hK hP hD hS 0 rfl rfl 7 (by decide) (hts _ cw_47) (fun _ h9 => h9) rfl hin rfl (by decide +kernel) rfl rfl (Nat.le_of_ble_eq_true rfl) kd_AnyNail_64 (fun H locs hP hD hS => ?_)
  have hP : va_P (dC, dI) vwCl ((((([(h0, .inr (4, [.ref q1, .ref q3, .int 0, .ref q5, .ref q7, .int 0, .ref q8, .ref q10, .null]))] ++ bdW cI cO q1 u2) ++ bdW cI cO q3 u4) ++ [(q5, .inr (2, [.null, .int 0, .int 0, .int 0, .int 0])), (q7, .inl (cI, 20, .inl (fun _ => 0)))]) ++ rowW cI q8 u9) ++ rowW cI q10 u11) H := hP
  have hD : va_D A ((((([(h0, .inr (4, [.ref q1, .ref q3, .int 0, .ref q5, .ref q7, .int 0, .ref q8, .ref q10, .null]))] ++ bdW cI cO q1 u2) ++ bdW cI cO q3 u4) ++ [(q5, .inr (2, [.null, .int 0, .int 0, .int 0, .int 0])), (q7, .inl (cI, 20, .inl (fun _ => 0)))]) ++ rowW cI q8 u9) ++ rowW cI q10 u11) := hD
  refine lv_aload_n hx hb kd_AnyNail_67 rfl (lv_at hl 0 rfl) ?_
  refine va_new (ci := 3) (fs := [.null, .int 0]) (C := RX3) (T := TX3) (N := 2) hx hb hts (dm_lay_in 3 (by decide)) tyX3 tyX3_ok hown (hts _ cw_44) (hts _ cw_5) (hts _ cw_6) hK hP hD hS hA rfl (fun j hj => df_X3 j hj) (Nat.le_of_ble_eq_true rfl) (Nat.le_of_ble_eq_true rfl) kd_AnyNail_68 (fun q12 H hP hD hS => ?_)
  refine W.widen (k := 51) (n := 963) (Nat.le_of_ble_eq_true rfl) (Nat.le_of_ble_eq_true rfl) ?_
  refine lv_dup hx hb kd_AnyNail_71 rfl ?_
  refine ct_callN (l := l) (nL := 1) (maxL := 1) (own := "AnyNail") (host := "AnyNail") (y := ⟨"AnyNail$Row", "<init>", "()V"⟩) (bytes := prog_5_method_1_code) (As := []) (rest := [.ref q12, .ref h0]) (n := 0) ⟨hx, hb, hml, hown, hts⟩ hE (ct_Row q12) cw_7 cw_6 cw_45 cw_9 rfl (by decide +kernel) ⟨Nat.le_of_ble_eq_true rfl, Nat.le_of_ble_eq_true rfl⟩ rfl rfl rfl hl.1 (Nat.le_of_ble_eq_true rfl) hP hD hS hA kd_AnyNail_72 ⟨Nat.le_of_ble_eq_true rfl, Nat.le_of_ble_eq_true rfl⟩ (fun u13 H locs hP hD hS => ?_)
  have hP : va_P (dC, dI) vwCl (((((([(h0, .inr (4, [.ref q1, .ref q3, .int 0, .ref q5, .ref q7, .int 0, .ref q8, .ref q10, .null]))] ++ bdW cI cO q1 u2) ++ bdW cI cO q3 u4) ++ [(q5, .inr (2, [.null, .int 0, .int 0, .int 0, .int 0])), (q7, .inl (cI, 20, .inl (fun _ => 0)))]) ++ rowW cI q8 u9) ++ rowW cI q10 u11) ++ rowW cI q12 u13) H := hP
  have hD : va_D A (((((([(h0, .inr (4, [.ref q1, .ref q3, .int 0, .ref q5, .ref q7, .int 0, .ref q8, .ref q10, .null]))] ++ bdW cI cO q1 u2) ++ bdW cI cO q3 u4) ++ [(q5, .inr (2, [.null, .int 0, .int 0, .int 0, .int 0])), (q7, .inl (cI, 20, .inl (fun _ => 0)))]) ++ rowW cI q8 u9) ++ rowW cI q10 u11) ++ rowW cI q12 u13) := hD
  refine W.widen (k := 52) (n := 1012) (Nat.le_of_ble_eq_true rfl) (Nat.le_of_ble_eq_true rfl) ?_
  refine va_putF (D := (dC, dI)) (ci := 4) (v := .ref q12) (ty := .object "AnyNail$Row") (C := RX4) (T := TX4) (N := 9) hx hb hts (dm_lay_in 4 (by decide)) tyX4 tyX4_ok nmX4 hown hK hP hD hS 0 rfl rfl 8 (by decide) (hts _ cw_48) (fun _ h9 => h9) rfl hin rfl (by decide +kernel) rfl rfl (Nat.le_of_ble_eq_true rfl) kd_AnyNail_75 (fun H locs hP hD hS => ?_)
  have hP : va_P (dC, dI) vwCl (((((([(h0, .inr (4, [.ref q1, .ref q3, .int 0, .ref q5, .ref q7, .int 0, .ref q8, .ref q10, .ref q12]))] ++ bdW cI cO q1 u2) ++ bdW cI cO q3 u4) ++ [(q5, .inr (2, [.null, .int 0, .int 0, .int 0, .int 0])), (q7, .inl (cI, 20, .inl (fun _ => 0)))]) ++ rowW cI q8 u9) ++ rowW cI q10 u11) ++ rowW cI q12 u13) H := hP
  have hD : va_D A (((((([(h0, .inr (4, [.ref q1, .ref q3, .int 0, .ref q5, .ref q7, .int 0, .ref q8, .ref q10, .ref q12]))] ++ bdW cI cO q1 u2) ++ bdW cI cO q3 u4) ++ [(q5, .inr (2, [.null, .int 0, .int 0, .int 0, .int 0])), (q7, .inl (cI, 20, .inl (fun _ => 0)))]) ++ rowW cI q8 u9) ++ rowW cI q10 u11) ++ rowW cI q12 u13) := hD
  exact W.vret hx hb hr (fun t ht hW => ⟨⟨((q1, u2), (q3, u4), q5, q7, (q8, u9), (q10, u11), (q12, u13)), rfl, trivial, by rw [ht]; exact hP, hD⟩, hS.F ht⟩) hS.2.2 kd_AnyNail_78
theorem kd_Model_0 : decode prog_7_method_1_code 0 = .ok (.aload_n 0, 1) := by decide +kernel
theorem kd_Model_1 : decode prog_7_method_1_code 1 = .ok (.invokespecial 3, 3) := by decide +kernel
theorem kd_Model_4 : decode prog_7_method_1_code 4 = .ok (.aload_n 0, 1) := by decide +kernel
theorem kd_Model_5 : decode prog_7_method_1_code 5 = .ok (.sipush 1099, 3) := by decide +kernel
theorem kd_Model_8 : decode prog_7_method_1_code 8 = .ok (.newarray .int, 2) := by decide +kernel
theorem kd_Model_10 : decode prog_7_method_1_code 10 = .ok (.putfield 9, 3) := by decide +kernel
theorem kd_Model_13 : decode prog_7_method_1_code 13 = .ok (.aload_n 0, 1) := by decide +kernel
theorem kd_Model_14 : decode prog_7_method_1_code 14 = .ok (.sipush 1099, 3) := by decide +kernel
theorem kd_Model_17 : decode prog_7_method_1_code 17 = .ok (.newarray .int, 2) := by decide +kernel
theorem kd_Model_19 : decode prog_7_method_1_code 19 = .ok (.putfield 15, 3) := by decide +kernel
theorem kd_Model_22 : decode prog_7_method_1_code 22 = .ok (.aload_n 0, 1) := by decide +kernel
theorem kd_Model_23 : decode prog_7_method_1_code 23 = .ok (.bipush 64, 2) := by decide +kernel
theorem kd_Model_25 : decode prog_7_method_1_code 25 = .ok (.newarray .boolean, 2) := by decide +kernel
theorem kd_Model_27 : decode prog_7_method_1_code 27 = .ok (.putfield 18, 3) := by decide +kernel
theorem kd_Model_30 : decode prog_7_method_1_code 30 = .ok (.aload_n 0, 1) := by decide +kernel
theorem kd_Model_31 : decode prog_7_method_1_code 31 = .ok (.bipush 49, 2) := by decide +kernel
theorem kd_Model_33 : decode prog_7_method_1_code 33 = .ok (.newarray .int, 2) := by decide +kernel
theorem kd_Model_35 : decode prog_7_method_1_code 35 = .ok (.putfield 22, 3) := by decide +kernel
theorem kd_Model_38 : decode prog_7_method_1_code 38 = .ok (.aload_n 0, 1) := by decide +kernel
theorem kd_Model_39 : decode prog_7_method_1_code 39 = .ok (.bipush 49, 2) := by decide +kernel
theorem kd_Model_41 : decode prog_7_method_1_code 41 = .ok (.newarray .int, 2) := by decide +kernel
theorem kd_Model_43 : decode prog_7_method_1_code 43 = .ok (.putfield 25, 3) := by decide +kernel
theorem kd_Model_46 : decode prog_7_method_1_code 46 = .ok (.aload_n 0, 1) := by decide +kernel
theorem kd_Model_47 : decode prog_7_method_1_code 47 = .ok (.bipush 49, 2) := by decide +kernel
theorem kd_Model_49 : decode prog_7_method_1_code 49 = .ok (.newarray .int, 2) := by decide +kernel
theorem kd_Model_51 : decode prog_7_method_1_code 51 = .ok (.putfield 28, 3) := by decide +kernel
theorem kd_Model_54 : decode prog_7_method_1_code 54 = .ok (.aload_n 0, 1) := by decide +kernel
theorem kd_Model_55 : decode prog_7_method_1_code 55 = .ok (.bipush 16, 2) := by decide +kernel
theorem kd_Model_57 : decode prog_7_method_1_code 57 = .ok (.newarray .boolean, 2) := by decide +kernel
theorem kd_Model_59 : decode prog_7_method_1_code 59 = .ok (.putfield 31, 3) := by decide +kernel
theorem kd_Model_62 : decode prog_7_method_1_code 62 = .ok (.aload_n 0, 1) := by decide +kernel
theorem kd_Model_63 : decode prog_7_method_1_code 63 = .ok (.bipush 20, 2) := by decide +kernel
theorem kd_Model_65 : decode prog_7_method_1_code 65 = .ok (.newarray .int, 2) := by decide +kernel
theorem kd_Model_67 : decode prog_7_method_1_code 67 = .ok (.putfield 34, 3) := by decide +kernel
theorem kd_Model_70 : decode prog_7_method_1_code 70 = .ok (.aload_n 0, 1) := by decide +kernel
theorem kd_Model_71 : decode prog_7_method_1_code 71 = .ok (.getfield 9, 3) := by decide +kernel
theorem kd_Model_74 : decode prog_7_method_1_code 74 = .ok (.iconst 4, 1) := by decide +kernel
theorem kd_Model_75 : decode prog_7_method_1_code 75 = .ok (.iconst 3, 1) := by decide +kernel
theorem kd_Model_76 : decode prog_7_method_1_code 76 = .ok (.iastore, 1) := by decide +kernel
theorem kd_Model_77 : decode prog_7_method_1_code 77 = .ok (.iconst 0, 1) := by decide +kernel
theorem kd_Model_78 : decode prog_7_method_1_code 78 = .ok (.istore_n 1, 1) := by decide +kernel
theorem kd_Model_79 : decode prog_7_method_1_code 79 = .ok (.iload_n 1, 1) := by decide +kernel
theorem kd_Model_80 : decode prog_7_method_1_code 80 = .ok (.iconst 4, 1) := by decide +kernel
theorem kd_Model_81 : decode prog_7_method_1_code 81 = .ok (.if_icmp .ge 19, 3) := by decide +kernel
theorem kd_Model_84 : decode prog_7_method_1_code 84 = .ok (.aload_n 0, 1) := by decide +kernel
theorem kd_Model_85 : decode prog_7_method_1_code 85 = .ok (.getfield 9, 3) := by decide +kernel
theorem kd_Model_88 : decode prog_7_method_1_code 88 = .ok (.bipush 14, 2) := by decide +kernel
theorem kd_Model_90 : decode prog_7_method_1_code 90 = .ok (.iload_n 1, 1) := by decide +kernel
theorem kd_Model_91 : decode prog_7_method_1_code 91 = .ok (.iadd, 1) := by decide +kernel
theorem kd_Model_92 : decode prog_7_method_1_code 92 = .ok (.iconst 1, 1) := by decide +kernel
theorem kd_Model_93 : decode prog_7_method_1_code 93 = .ok (.iastore, 1) := by decide +kernel
theorem kd_Model_94 : decode prog_7_method_1_code 94 = .ok (.iinc 1 1, 3) := by decide +kernel
theorem kd_Model_97 : decode prog_7_method_1_code 97 = .ok (.goto (-18), 3) := by decide +kernel
theorem kd_Model_100 : decode prog_7_method_1_code 100 = .ok (.return_, 1) := by decide +kernel
theorem cw_49 : Jvm.Cond.methodLink "AnyNailModel" 3 ⟨"java/lang/Object", "<init>", "()V"⟩ ∈ dm_GW := dm_T_in (i := 574) (by decide +kernel) rfl
theorem cw_50 : Jvm.Cond.fieldLink "AnyNailModel" 9 "AnyNailModel" "s" "[I" ∈ dm_GW := dm_T_in (i := 575) (by decide +kernel) rfl
theorem cw_51 : Jvm.Cond.fieldLink "AnyNailModel" 15 "AnyNailModel" "image" "[I" ∈ dm_GW := dm_T_in (i := 576) (by decide +kernel) rfl
theorem cw_52 : Jvm.Cond.fieldLink "AnyNailModel" 18 "AnyNailModel" "truths" "[Z" ∈ dm_GW := dm_T_in (i := 583) (by decide +kernel) rfl
theorem cw_53 : Jvm.Cond.fieldLink "AnyNailModel" 22 "AnyNailModel" "row" "[I" ∈ dm_GW := dm_T_in (i := 584) (by decide +kernel) rfl
theorem cw_54 : Jvm.Cond.fieldLink "AnyNailModel" 25 "AnyNailModel" "left" "[I" ∈ dm_GW := dm_T_in (i := 585) (by decide +kernel) rfl
theorem cw_55 : Jvm.Cond.fieldLink "AnyNailModel" 28 "AnyNailModel" "second" "[I" ∈ dm_GW := dm_T_in (i := 588) (by decide +kernel) rfl
theorem cw_56 : Jvm.Cond.fieldLink "AnyNailModel" 31 "AnyNailModel" "wins" "[Z" ∈ dm_GW := dm_T_in (i := 590) (by decide +kernel) rfl
theorem cw_57 : Jvm.Cond.fieldLink "AnyNailModel" 34 "AnyNailModel" "bodies" "[I" ∈ dm_GW := dm_T_in (i := 591) (by decide +kernel) rfl
set_option maxHeartbeats 4000000 in
theorem ct_Model {l : Launch} {dC : Nat → ClassId} {dI : Nat → Nat → Nat} {cI cZ cO : ClassId} (h0 : Nat) : ct_M l ⟨"AnyNailModel", "<init>", "()V"⟩ prog_7_method_1_code 2 { frames := 1, cells := 8, slots := 2445, locals := 20 } dC dI cI cZ cO [.ref h0] h0 (.inr (5, [.int 0, .null, .null, .int 0, .int 0, .int 0, .int 0, .int 0, .int 0, .null, .null, .null, .int 0, .int 0, .null, .int 0, .null, .null, .int 0, .int 0, .int 0, .int 0])) MdU (mdW cI cZ h0) 8 2445 := by
  intro sz
  refine Met.ofW (cc := prog_7_method_1_code) (maxL := 2) (ret := none) (by decide) rfl ?_
  intro p e s m args below meth c s₁ B hml hv
  obtain ⟨rfl, hsz, hP, hE⟩ := hv
  have hx := B.exec
  have hb := B.bytes
  have hr := B.returns
  have hts0 := atoms_spec (ws := Jvm.Cond.code ⟨"AnyNailModel", "<init>", "()V"⟩ prog_7_method_1_code 2 none :: dm_GW) B.pre
  have hts := fun w (hw : w ∈ dm_GW) => hts0 w (List.mem_cons_of_mem _ hw)
  clear hts0
  have hown : s.vm.findClass "AnyNailModel" = some m.cls := findClass_of_methodNamed B.named
  have hlocks := B.notSynchronized
  have hin : meth.name = "<init>" := (name_of_methodNamed B.named B.method).1
  subst hsz
  have hK := hE.1
  have hD := ct_D1 (b := h0) (e0 := .inr (5, [.int 0, .null, .null, .int 0, .int 0, .int 0, .int 0, .int 0, .int 0, .null, .null, .null, .int 0, .int 0, .null, .int 0, .null, .null, .int 0, .int 0, .int 0, .int 0])) (sz := s.heap.size)
  unfold ct_Q
  generalize hAe : va_A [(h0, (.inr (5, [.int 0, .null, .null, .int 0, .int 0, .int 0, .int 0, .int 0, .int 0, .null, .null, .null, .int 0, .int 0, .null, .int 0, .null, .null, .int 0, .int 0, .int 0, .int 0]) : va_E))] s.heap.size = A at hD ⊢
  have hA : ∀ q : Nat, s.heap.size ≤ q → A q := fun q h => by rw [← hAe]; exact Or.inr h
  have hS : va_S A s.heap s.heap [] := va_S.rf
  have hl := lv_entry ([.ref h0]) (n := 2) (Nat.le_of_ble_eq_true rfl)
  rw [lg_entry_eq]
  generalize (lg_sl ([.ref h0]) ++ List.replicate (2 - (lg_sl ([.ref h0])).length) Slot.unset).toArray = ls at hl ⊢
  have hl : lv_has ls 2 [(0, .ref h0)] := hl
  have hP : va_P (dC, dI) vwCl [(h0, .inr (5, [.int 0, .null, .null, .int 0, .int 0, .int 0, .int 0, .int 0, .int 0, .null, .null, .null, .int 0, .int 0, .null, .int 0, .null, .null, .int 0, .int 0, .int 0, .int 0]))] s.heap := hP
  refine lv_aload_n hx hb kd_Model_0 rfl (lv_at hl 0 rfl) ?_
  refine W.objInit hx hb hown (hts _ cw_49) (hts _ cw_0) (hts _ cw_objcode) rfl (by rw [hml]; exact hl.1) rfl kd_Model_1 (Nat.le_of_ble_eq_true rfl) (Nat.le_of_ble_eq_true rfl) ?_
  refine W.eq (g2 := F0 m 4 ls []) rfl ?_
  refine lv_aload_n hx hb kd_Model_4 rfl (lv_at hl 0 rfl) ?_
  refine lv_sipush (v := 1099) hx hb kd_Model_5 (by decide) ?_
  refine ct_newI (N := 1099) hx hb (hts _ cw_arr_int) hK hP hD hS hA (by decide) (by decide) (Nat.le_of_ble_eq_true rfl) (Nat.le_of_ble_eq_true rfl) (Nat.le_of_ble_eq_true rfl) kd_Model_8 (fun q1 H hP hD hS => ?_)
  have hP : va_P (dC, dI) vwCl [(h0, .inr (5, [.int 0, .null, .null, .int 0, .int 0, .int 0, .int 0, .int 0, .int 0, .null, .null, .null, .int 0, .int 0, .null, .int 0, .null, .null, .int 0, .int 0, .int 0, .int 0])), (q1, .inl (cI, 1099, .inl (fun _ => 0)))] H := hP
  have hD : va_D A [(h0, .inr (5, [.int 0, .null, .null, .int 0, .int 0, .int 0, .int 0, .int 0, .int 0, .null, .null, .null, .int 0, .int 0, .null, .int 0, .null, .null, .int 0, .int 0, .int 0, .int 0])), (q1, .inl (cI, 1099, .inl (fun _ => 0)))] := hD
  refine W.widen (k := 1) (n := 1099) (Nat.le_of_ble_eq_true rfl) (Nat.le_of_ble_eq_true rfl) ?_
  refine va_putF (D := (dC, dI)) (ci := 5) (v := .ref q1) (ty := .array .int) (C := RX5) (T := TX5) (N := 22) hx hb hts (dm_lay_in 5 (by decide)) tyX5 tyX5_ok nmX5 hown hK hP hD hS 0 rfl rfl 1 (by decide) (hts _ cw_50) (fun _ h9 => h9) rfl hin rfl (by decide +kernel) rfl rfl (Nat.le_of_ble_eq_true rfl) kd_Model_10 (fun H locs hP hD hS => ?_)
  have hP : va_P (dC, dI) vwCl [(h0, .inr (5, [.int 0, .ref q1, .null, .int 0, .int 0, .int 0, .int 0, .int 0, .int 0, .null, .null, .null, .int 0, .int 0, .null, .int 0, .null, .null, .int 0, .int 0, .int 0, .int 0])), (q1, .inl (cI, 1099, .inl (fun _ => 0)))] H := hP
  have hD : va_D A [(h0, .inr (5, [.int 0, .ref q1, .null, .int 0, .int 0, .int 0, .int 0, .int 0, .int 0, .null, .null, .null, .int 0, .int 0, .null, .int 0, .null, .null, .int 0, .int 0, .int 0, .int 0])), (q1, .inl (cI, 1099, .inl (fun _ => 0)))] := hD
  refine lv_aload_n hx hb kd_Model_13 rfl (lv_at hl 0 rfl) ?_
  refine lv_sipush (v := 1099) hx hb kd_Model_14 (by decide) ?_
  refine ct_newI (N := 1099) hx hb (hts _ cw_arr_int) hK hP hD hS hA (by decide) (by decide) (Nat.le_of_ble_eq_true rfl) (Nat.le_of_ble_eq_true rfl) (Nat.le_of_ble_eq_true rfl) kd_Model_17 (fun q2 H hP hD hS => ?_)
  have hP : va_P (dC, dI) vwCl [(h0, .inr (5, [.int 0, .ref q1, .null, .int 0, .int 0, .int 0, .int 0, .int 0, .int 0, .null, .null, .null, .int 0, .int 0, .null, .int 0, .null, .null, .int 0, .int 0, .int 0, .int 0])), (q1, .inl (cI, 1099, .inl (fun _ => 0))), (q2, .inl (cI, 1099, .inl (fun _ => 0)))] H := hP
  have hD : va_D A [(h0, .inr (5, [.int 0, .ref q1, .null, .int 0, .int 0, .int 0, .int 0, .int 0, .int 0, .null, .null, .null, .int 0, .int 0, .null, .int 0, .null, .null, .int 0, .int 0, .int 0, .int 0])), (q1, .inl (cI, 1099, .inl (fun _ => 0))), (q2, .inl (cI, 1099, .inl (fun _ => 0)))] := hD
  refine W.widen (k := 2) (n := 2198) (Nat.le_of_ble_eq_true rfl) (Nat.le_of_ble_eq_true rfl) ?_
  refine va_putF (D := (dC, dI)) (ci := 5) (v := .ref q2) (ty := .array .int) (C := RX5) (T := TX5) (N := 22) hx hb hts (dm_lay_in 5 (by decide)) tyX5 tyX5_ok nmX5 hown hK hP hD hS 0 rfl rfl 2 (by decide) (hts _ cw_51) (fun _ h9 => h9) rfl hin rfl (by decide +kernel) rfl rfl (Nat.le_of_ble_eq_true rfl) kd_Model_19 (fun H locs hP hD hS => ?_)
  have hP : va_P (dC, dI) vwCl [(h0, .inr (5, [.int 0, .ref q1, .ref q2, .int 0, .int 0, .int 0, .int 0, .int 0, .int 0, .null, .null, .null, .int 0, .int 0, .null, .int 0, .null, .null, .int 0, .int 0, .int 0, .int 0])), (q1, .inl (cI, 1099, .inl (fun _ => 0))), (q2, .inl (cI, 1099, .inl (fun _ => 0)))] H := hP
  have hD : va_D A [(h0, .inr (5, [.int 0, .ref q1, .ref q2, .int 0, .int 0, .int 0, .int 0, .int 0, .int 0, .null, .null, .null, .int 0, .int 0, .null, .int 0, .null, .null, .int 0, .int 0, .int 0, .int 0])), (q1, .inl (cI, 1099, .inl (fun _ => 0))), (q2, .inl (cI, 1099, .inl (fun _ => 0)))] := hD
  refine lv_aload_n hx hb kd_Model_22 rfl (lv_at hl 0 rfl) ?_
  refine lv_bipush (v := 64) hx hb kd_Model_23 (by decide) ?_
  refine ct_newZ (N := 64) hx hb (hts _ cw_arr_boolean) hK hP hD hS hA (by decide) (by decide) (Nat.le_of_ble_eq_true rfl) (Nat.le_of_ble_eq_true rfl) (Nat.le_of_ble_eq_true rfl) kd_Model_25 (fun q3 H hP hD hS => ?_)
  have hP : va_P (dC, dI) vwCl [(h0, .inr (5, [.int 0, .ref q1, .ref q2, .int 0, .int 0, .int 0, .int 0, .int 0, .int 0, .null, .null, .null, .int 0, .int 0, .null, .int 0, .null, .null, .int 0, .int 0, .int 0, .int 0])), (q1, .inl (cI, 1099, .inl (fun _ => 0))), (q2, .inl (cI, 1099, .inl (fun _ => 0))), (q3, .inl (cZ, 64, .inl (fun _ => 0)))] H := hP
  have hD : va_D A [(h0, .inr (5, [.int 0, .ref q1, .ref q2, .int 0, .int 0, .int 0, .int 0, .int 0, .int 0, .null, .null, .null, .int 0, .int 0, .null, .int 0, .null, .null, .int 0, .int 0, .int 0, .int 0])), (q1, .inl (cI, 1099, .inl (fun _ => 0))), (q2, .inl (cI, 1099, .inl (fun _ => 0))), (q3, .inl (cZ, 64, .inl (fun _ => 0)))] := hD
  refine W.widen (k := 3) (n := 2262) (Nat.le_of_ble_eq_true rfl) (Nat.le_of_ble_eq_true rfl) ?_
  refine va_putF (D := (dC, dI)) (ci := 5) (v := .ref q3) (ty := .array .boolean) (C := RX5) (T := TX5) (N := 22) hx hb hts (dm_lay_in 5 (by decide)) tyX5 tyX5_ok nmX5 hown hK hP hD hS 0 rfl rfl 9 (by decide) (hts _ cw_52) (fun _ h9 => h9) rfl hin rfl (by decide +kernel) rfl rfl (Nat.le_of_ble_eq_true rfl) kd_Model_27 (fun H locs hP hD hS => ?_)
  have hP : va_P (dC, dI) vwCl [(h0, .inr (5, [.int 0, .ref q1, .ref q2, .int 0, .int 0, .int 0, .int 0, .int 0, .int 0, .ref q3, .null, .null, .int 0, .int 0, .null, .int 0, .null, .null, .int 0, .int 0, .int 0, .int 0])), (q1, .inl (cI, 1099, .inl (fun _ => 0))), (q2, .inl (cI, 1099, .inl (fun _ => 0))), (q3, .inl (cZ, 64, .inl (fun _ => 0)))] H := hP
  have hD : va_D A [(h0, .inr (5, [.int 0, .ref q1, .ref q2, .int 0, .int 0, .int 0, .int 0, .int 0, .int 0, .ref q3, .null, .null, .int 0, .int 0, .null, .int 0, .null, .null, .int 0, .int 0, .int 0, .int 0])), (q1, .inl (cI, 1099, .inl (fun _ => 0))), (q2, .inl (cI, 1099, .inl (fun _ => 0))), (q3, .inl (cZ, 64, .inl (fun _ => 0)))] := hD
  refine lv_aload_n hx hb kd_Model_30 rfl (lv_at hl 0 rfl) ?_
  refine lv_bipush (v := 49) hx hb kd_Model_31 (by decide) ?_
  refine ct_newI (N := 49) hx hb (hts _ cw_arr_int) hK hP hD hS hA (by decide) (by decide) (Nat.le_of_ble_eq_true rfl) (Nat.le_of_ble_eq_true rfl) (Nat.le_of_ble_eq_true rfl) kd_Model_33 (fun q4 H hP hD hS => ?_)
  have hP : va_P (dC, dI) vwCl [(h0, .inr (5, [.int 0, .ref q1, .ref q2, .int 0, .int 0, .int 0, .int 0, .int 0, .int 0, .ref q3, .null, .null, .int 0, .int 0, .null, .int 0, .null, .null, .int 0, .int 0, .int 0, .int 0])), (q1, .inl (cI, 1099, .inl (fun _ => 0))), (q2, .inl (cI, 1099, .inl (fun _ => 0))), (q3, .inl (cZ, 64, .inl (fun _ => 0))), (q4, .inl (cI, 49, .inl (fun _ => 0)))] H := hP
  have hD : va_D A [(h0, .inr (5, [.int 0, .ref q1, .ref q2, .int 0, .int 0, .int 0, .int 0, .int 0, .int 0, .ref q3, .null, .null, .int 0, .int 0, .null, .int 0, .null, .null, .int 0, .int 0, .int 0, .int 0])), (q1, .inl (cI, 1099, .inl (fun _ => 0))), (q2, .inl (cI, 1099, .inl (fun _ => 0))), (q3, .inl (cZ, 64, .inl (fun _ => 0))), (q4, .inl (cI, 49, .inl (fun _ => 0)))] := hD
  refine W.widen (k := 4) (n := 2311) (Nat.le_of_ble_eq_true rfl) (Nat.le_of_ble_eq_true rfl) ?_
  refine va_putF (D := (dC, dI)) (ci := 5) (v := .ref q4) (ty := .array .int) (C := RX5) (T := TX5) (N := 22) hx hb hts (dm_lay_in 5 (by decide)) tyX5 tyX5_ok nmX5 hown hK hP hD hS 0 rfl rfl 10 (by decide) (hts _ cw_53) (fun _ h9 => h9) rfl hin rfl (by decide +kernel) rfl rfl (Nat.le_of_ble_eq_true rfl) kd_Model_35 (fun H locs hP hD hS => ?_)
  have hP : va_P (dC, dI) vwCl [(h0, .inr (5, [.int 0, .ref q1, .ref q2, .int 0, .int 0, .int 0, .int 0, .int 0, .int 0, .ref q3, .ref q4, .null, .int 0, .int 0, .null, .int 0, .null, .null, .int 0, .int 0, .int 0, .int 0])), (q1, .inl (cI, 1099, .inl (fun _ => 0))), (q2, .inl (cI, 1099, .inl (fun _ => 0))), (q3, .inl (cZ, 64, .inl (fun _ => 0))), (q4, .inl (cI, 49, .inl (fun _ => 0)))] H := hP
  have hD : va_D A [(h0, .inr (5, [.int 0, .ref q1, .ref q2, .int 0, .int 0, .int 0, .int 0, .int 0, .int 0, .ref q3, .ref q4, .null, .int 0, .int 0, .null, .int 0, .null, .null, .int 0, .int 0, .int 0, .int 0])), (q1, .inl (cI, 1099, .inl (fun _ => 0))), (q2, .inl (cI, 1099, .inl (fun _ => 0))), (q3, .inl (cZ, 64, .inl (fun _ => 0))), (q4, .inl (cI, 49, .inl (fun _ => 0)))] := hD
  refine lv_aload_n hx hb kd_Model_38 rfl (lv_at hl 0 rfl) ?_
  refine lv_bipush (v := 49) hx hb kd_Model_39 (by decide) ?_
  refine ct_newI (N := 49) hx hb (hts _ cw_arr_int) hK hP hD hS hA (by decide) (by decide) (Nat.le_of_ble_eq_true rfl) (Nat.le_of_ble_eq_true rfl) (Nat.le_of_ble_eq_true rfl) kd_Model_41 (fun q5 H hP hD hS => ?_)
  have hP : va_P (dC, dI) vwCl [(h0, .inr (5, [.int 0, .ref q1, .ref q2, .int 0, .int 0, .int 0, .int 0, .int 0, .int 0, .ref q3, .ref q4, .null, .int 0, .int 0, .null, .int 0, .null, .null, .int 0, .int 0, .int 0, .int 0])), (q1, .inl (cI, 1099, .inl (fun _ => 0))), (q2, .inl (cI, 1099, .inl (fun _ => 0))), (q3, .inl (cZ, 64, .inl (fun _ => 0))), (q4, .inl (cI, 49, .inl (fun _ => 0))), (q5, .inl (cI, 49, .inl (fun _ => 0)))] H := hP
  have hD : va_D A [(h0, .inr (5, [.int 0, .ref q1, .ref q2, .int 0, .int 0, .int 0, .int 0, .int 0, .int 0, .ref q3, .ref q4, .null, .int 0, .int 0, .null, .int 0, .null, .null, .int 0, .int 0, .int 0, .int 0])), (q1, .inl (cI, 1099, .inl (fun _ => 0))), (q2, .inl (cI, 1099, .inl (fun _ => 0))), (q3, .inl (cZ, 64, .inl (fun _ => 0))), (q4, .inl (cI, 49, .inl (fun _ => 0))), (q5, .inl (cI, 49, .inl (fun _ => 0)))] := hD
  refine W.widen (k := 5) (n := 2360) (Nat.le_of_ble_eq_true rfl) (Nat.le_of_ble_eq_true rfl) ?_
  refine va_putF (D := (dC, dI)) (ci := 5) (v := .ref q5) (ty := .array .int) (C := RX5) (T := TX5) (N := 22) hx hb hts (dm_lay_in 5 (by decide)) tyX5 tyX5_ok nmX5 hown hK hP hD hS 0 rfl rfl 11 (by decide) (hts _ cw_54) (fun _ h9 => h9) rfl hin rfl (by decide +kernel) rfl rfl (Nat.le_of_ble_eq_true rfl) kd_Model_43 (fun H locs hP hD hS => ?_)
  have hP : va_P (dC, dI) vwCl [(h0, .inr (5, [.int 0, .ref q1, .ref q2, .int 0, .int 0, .int 0, .int 0, .int 0, .int 0, .ref q3, .ref q4, .ref q5, .int 0, .int 0, .null, .int 0, .null, .null, .int 0, .int 0, .int 0, .int 0])), (q1, .inl (cI, 1099, .inl (fun _ => 0))), (q2, .inl (cI, 1099, .inl (fun _ => 0))), (q3, .inl (cZ, 64, .inl (fun _ => 0))), (q4, .inl (cI, 49, .inl (fun _ => 0))), (q5, .inl (cI, 49, .inl (fun _ => 0)))] H := hP
  have hD : va_D A [(h0, .inr (5, [.int 0, .ref q1, .ref q2, .int 0, .int 0, .int 0, .int 0, .int 0, .int 0, .ref q3, .ref q4, .ref q5, .int 0, .int 0, .null, .int 0, .null, .null, .int 0, .int 0, .int 0, .int 0])), (q1, .inl (cI, 1099, .inl (fun _ => 0))), (q2, .inl (cI, 1099, .inl (fun _ => 0))), (q3, .inl (cZ, 64, .inl (fun _ => 0))), (q4, .inl (cI, 49, .inl (fun _ => 0))), (q5, .inl (cI, 49, .inl (fun _ => 0)))] := hD
  refine lv_aload_n hx hb kd_Model_46 rfl (lv_at hl 0 rfl) ?_
  refine lv_bipush (v := 49) hx hb kd_Model_47 (by decide) ?_
  refine ct_newI (N := 49) hx hb (hts _ cw_arr_int) hK hP hD hS hA (by decide) (by decide) (Nat.le_of_ble_eq_true rfl) (Nat.le_of_ble_eq_true rfl) (Nat.le_of_ble_eq_true rfl) kd_Model_49 (fun q6 H hP hD hS => ?_)
  have hP : va_P (dC, dI) vwCl [(h0, .inr (5, [.int 0, .ref q1, .ref q2, .int 0, .int 0, .int 0, .int 0, .int 0, .int 0, .ref q3, .ref q4, .ref q5, .int 0, .int 0, .null, .int 0, .null, .null, .int 0, .int 0, .int 0, .int 0])), (q1, .inl (cI, 1099, .inl (fun _ => 0))), (q2, .inl (cI, 1099, .inl (fun _ => 0))), (q3, .inl (cZ, 64, .inl (fun _ => 0))), (q4, .inl (cI, 49, .inl (fun _ => 0))), (q5, .inl (cI, 49, .inl (fun _ => 0))), (q6, .inl (cI, 49, .inl (fun _ => 0)))] H := hP
  have hD : va_D A [(h0, .inr (5, [.int 0, .ref q1, .ref q2, .int 0, .int 0, .int 0, .int 0, .int 0, .int 0, .ref q3, .ref q4, .ref q5, .int 0, .int 0, .null, .int 0, .null, .null, .int 0, .int 0, .int 0, .int 0])), (q1, .inl (cI, 1099, .inl (fun _ => 0))), (q2, .inl (cI, 1099, .inl (fun _ => 0))), (q3, .inl (cZ, 64, .inl (fun _ => 0))), (q4, .inl (cI, 49, .inl (fun _ => 0))), (q5, .inl (cI, 49, .inl (fun _ => 0))), (q6, .inl (cI, 49, .inl (fun _ => 0)))] := hD
  refine W.widen (k := 6) (n := 2409) (Nat.le_of_ble_eq_true rfl) (Nat.le_of_ble_eq_true rfl) ?_
  refine va_putF (D := (dC, dI)) (ci := 5) (v := .ref q6) (ty := .array .int) (C := RX5) (T := TX5) (N := 22) hx hb hts (dm_lay_in 5 (by decide)) tyX5 tyX5_ok nmX5 hown hK hP hD hS 0 rfl rfl 14 (by decide) (hts _ cw_55) (fun _ h9 => h9) rfl hin rfl (by decide +kernel) rfl rfl (Nat.le_of_ble_eq_true rfl) kd_Model_51 (fun H locs hP hD hS => ?_)
  have hP : va_P (dC, dI) vwCl [(h0, .inr (5, [.int 0, .ref q1, .ref q2, .int 0, .int 0, .int 0, .int 0, .int 0, .int 0, .ref q3, .ref q4, .ref q5, .int 0, .int 0, .ref q6, .int 0, .null, .null, .int 0, .int 0, .int 0, .int 0])), (q1, .inl (cI, 1099, .inl (fun _ => 0))), (q2, .inl (cI, 1099, .inl (fun _ => 0))), (q3, .inl (cZ, 64, .inl (fun _ => 0))), (q4, .inl (cI, 49, .inl (fun _ => 0))), (q5, .inl (cI, 49, .inl (fun _ => 0))), (q6, .inl (cI, 49, .inl (fun _ => 0)))] H := hP
  have hD : va_D A [(h0, .inr (5, [.int 0, .ref q1, .ref q2, .int 0, .int 0, .int 0, .int 0, .int 0, .int 0, .ref q3, .ref q4, .ref q5, .int 0, .int 0, .ref q6, .int 0, .null, .null, .int 0, .int 0, .int 0, .int 0])), (q1, .inl (cI, 1099, .inl (fun _ => 0))), (q2, .inl (cI, 1099, .inl (fun _ => 0))), (q3, .inl (cZ, 64, .inl (fun _ => 0))), (q4, .inl (cI, 49, .inl (fun _ => 0))), (q5, .inl (cI, 49, .inl (fun _ => 0))), (q6, .inl (cI, 49, .inl (fun _ => 0)))] := hD
  refine lv_aload_n hx hb kd_Model_54 rfl (lv_at hl 0 rfl) ?_
  refine lv_bipush (v := 16) hx hb kd_Model_55 (by decide) ?_
  refine ct_newZ (N := 16) hx hb (hts _ cw_arr_boolean) hK hP hD hS hA (by decide) (by decide) (Nat.le_of_ble_eq_true rfl) (Nat.le_of_ble_eq_true rfl) (Nat.le_of_ble_eq_true rfl) kd_Model_57 (fun q7 H hP hD hS => ?_)
  have hP : va_P (dC, dI) vwCl [(h0, .inr (5, [.int 0, .ref q1, .ref q2, .int 0, .int 0, .int 0, .int 0, .int 0, .int 0, .ref q3, .ref q4, .ref q5, .int 0, .int 0, .ref q6, .int 0, .null, .null, .int 0, .int 0, .int 0, .int 0])), (q1, .inl (cI, 1099, .inl (fun _ => 0))), (q2, .inl (cI, 1099, .inl (fun _ => 0))), (q3, .inl (cZ, 64, .inl (fun _ => 0))), (q4, .inl (cI, 49, .inl (fun _ => 0))), (q5, .inl (cI, 49, .inl (fun _ => 0))), (q6, .inl (cI, 49, .inl (fun _ => 0))), (q7, .inl (cZ, 16, .inl (fun _ => 0)))] H := hP
  have hD : va_D A [(h0, .inr (5, [.int 0, .ref q1, .ref q2, .int 0, .int 0, .int 0, .int 0, .int 0, .int 0, .ref q3, .ref q4, .ref q5, .int 0, .int 0, .ref q6, .int 0, .null, .null, .int 0, .int 0, .int 0, .int 0])), (q1, .inl (cI, 1099, .inl (fun _ => 0))), (q2, .inl (cI, 1099, .inl (fun _ => 0))), (q3, .inl (cZ, 64, .inl (fun _ => 0))), (q4, .inl (cI, 49, .inl (fun _ => 0))), (q5, .inl (cI, 49, .inl (fun _ => 0))), (q6, .inl (cI, 49, .inl (fun _ => 0))), (q7, .inl (cZ, 16, .inl (fun _ => 0)))] := hD
  refine W.widen (k := 7) (n := 2425) (Nat.le_of_ble_eq_true rfl) (Nat.le_of_ble_eq_true rfl) ?_
  refine va_putF (D := (dC, dI)) (ci := 5) (v := .ref q7) (ty := .array .boolean) (C := RX5) (T := TX5) (N := 22) hx hb hts (dm_lay_in 5 (by decide)) tyX5 tyX5_ok nmX5 hown hK hP hD hS 0 rfl rfl 16 (by decide) (hts _ cw_56) (fun _ h9 => h9) rfl hin rfl (by decide +kernel) rfl rfl (Nat.le_of_ble_eq_true rfl) kd_Model_59 (fun H locs hP hD hS => ?_)
  have hP : va_P (dC, dI) vwCl [(h0, .inr (5, [.int 0, .ref q1, .ref q2, .int 0, .int 0, .int 0, .int 0, .int 0, .int 0, .ref q3, .ref q4, .ref q5, .int 0, .int 0, .ref q6, .int 0, .ref q7, .null, .int 0, .int 0, .int 0, .int 0])), (q1, .inl (cI, 1099, .inl (fun _ => 0))), (q2, .inl (cI, 1099, .inl (fun _ => 0))), (q3, .inl (cZ, 64, .inl (fun _ => 0))), (q4, .inl (cI, 49, .inl (fun _ => 0))), (q5, .inl (cI, 49, .inl (fun _ => 0))), (q6, .inl (cI, 49, .inl (fun _ => 0))), (q7, .inl (cZ, 16, .inl (fun _ => 0)))] H := hP
  have hD : va_D A [(h0, .inr (5, [.int 0, .ref q1, .ref q2, .int 0, .int 0, .int 0, .int 0, .int 0, .int 0, .ref q3, .ref q4, .ref q5, .int 0, .int 0, .ref q6, .int 0, .ref q7, .null, .int 0, .int 0, .int 0, .int 0])), (q1, .inl (cI, 1099, .inl (fun _ => 0))), (q2, .inl (cI, 1099, .inl (fun _ => 0))), (q3, .inl (cZ, 64, .inl (fun _ => 0))), (q4, .inl (cI, 49, .inl (fun _ => 0))), (q5, .inl (cI, 49, .inl (fun _ => 0))), (q6, .inl (cI, 49, .inl (fun _ => 0))), (q7, .inl (cZ, 16, .inl (fun _ => 0)))] := hD
  refine lv_aload_n hx hb kd_Model_62 rfl (lv_at hl 0 rfl) ?_
  refine lv_bipush (v := 20) hx hb kd_Model_63 (by decide) ?_
  refine ct_newI (N := 20) hx hb (hts _ cw_arr_int) hK hP hD hS hA (by decide) (by decide) (Nat.le_of_ble_eq_true rfl) (Nat.le_of_ble_eq_true rfl) (Nat.le_of_ble_eq_true rfl) kd_Model_65 (fun q8 H hP hD hS => ?_)
  have hP : va_P (dC, dI) vwCl [(h0, .inr (5, [.int 0, .ref q1, .ref q2, .int 0, .int 0, .int 0, .int 0, .int 0, .int 0, .ref q3, .ref q4, .ref q5, .int 0, .int 0, .ref q6, .int 0, .ref q7, .null, .int 0, .int 0, .int 0, .int 0])), (q1, .inl (cI, 1099, .inl (fun _ => 0))), (q2, .inl (cI, 1099, .inl (fun _ => 0))), (q3, .inl (cZ, 64, .inl (fun _ => 0))), (q4, .inl (cI, 49, .inl (fun _ => 0))), (q5, .inl (cI, 49, .inl (fun _ => 0))), (q6, .inl (cI, 49, .inl (fun _ => 0))), (q7, .inl (cZ, 16, .inl (fun _ => 0))), (q8, .inl (cI, 20, .inl (fun _ => 0)))] H := hP
  have hD : va_D A [(h0, .inr (5, [.int 0, .ref q1, .ref q2, .int 0, .int 0, .int 0, .int 0, .int 0, .int 0, .ref q3, .ref q4, .ref q5, .int 0, .int 0, .ref q6, .int 0, .ref q7, .null, .int 0, .int 0, .int 0, .int 0])), (q1, .inl (cI, 1099, .inl (fun _ => 0))), (q2, .inl (cI, 1099, .inl (fun _ => 0))), (q3, .inl (cZ, 64, .inl (fun _ => 0))), (q4, .inl (cI, 49, .inl (fun _ => 0))), (q5, .inl (cI, 49, .inl (fun _ => 0))), (q6, .inl (cI, 49, .inl (fun _ => 0))), (q7, .inl (cZ, 16, .inl (fun _ => 0))), (q8, .inl (cI, 20, .inl (fun _ => 0)))] := hD
  refine W.widen (k := 8) (n := 2445) (Nat.le_of_ble_eq_true rfl) (Nat.le_of_ble_eq_true rfl) ?_
  refine va_putF (D := (dC, dI)) (ci := 5) (v := .ref q8) (ty := .array .int) (C := RX5) (T := TX5) (N := 22) hx hb hts (dm_lay_in 5 (by decide)) tyX5 tyX5_ok nmX5 hown hK hP hD hS 0 rfl rfl 17 (by decide) (hts _ cw_57) (fun _ h9 => h9) rfl hin rfl (by decide +kernel) rfl rfl (Nat.le_of_ble_eq_true rfl) kd_Model_67 (fun H locs hP hD hS => ?_)
  have hP : va_P (dC, dI) vwCl [(h0, .inr (5, [.int 0, .ref q1, .ref q2, .int 0, .int 0, .int 0, .int 0, .int 0, .int 0, .ref q3, .ref q4, .ref q5, .int 0, .int 0, .ref q6, .int 0, .ref q7, .ref q8, .int 0, .int 0, .int 0, .int 0])), (q1, .inl (cI, 1099, .inl (fun _ => 0))), (q2, .inl (cI, 1099, .inl (fun _ => 0))), (q3, .inl (cZ, 64, .inl (fun _ => 0))), (q4, .inl (cI, 49, .inl (fun _ => 0))), (q5, .inl (cI, 49, .inl (fun _ => 0))), (q6, .inl (cI, 49, .inl (fun _ => 0))), (q7, .inl (cZ, 16, .inl (fun _ => 0))), (q8, .inl (cI, 20, .inl (fun _ => 0)))] H := hP
  have hD : va_D A [(h0, .inr (5, [.int 0, .ref q1, .ref q2, .int 0, .int 0, .int 0, .int 0, .int 0, .int 0, .ref q3, .ref q4, .ref q5, .int 0, .int 0, .ref q6, .int 0, .ref q7, .ref q8, .int 0, .int 0, .int 0, .int 0])), (q1, .inl (cI, 1099, .inl (fun _ => 0))), (q2, .inl (cI, 1099, .inl (fun _ => 0))), (q3, .inl (cZ, 64, .inl (fun _ => 0))), (q4, .inl (cI, 49, .inl (fun _ => 0))), (q5, .inl (cI, 49, .inl (fun _ => 0))), (q6, .inl (cI, 49, .inl (fun _ => 0))), (q7, .inl (cZ, 16, .inl (fun _ => 0))), (q8, .inl (cI, 20, .inl (fun _ => 0)))] := hD
  refine lv_aload_n hx hb kd_Model_70 rfl (lv_at hl 0 rfl) ?_
  refine va_get (D := (dC, dI)) (ci := 5) (v := .ref q1) (C := RX5) (T := TX5) (N := 22) hx hb hts (dm_lay_in 5 (by decide)) hown hK hP 0 rfl rfl 1 (by decide) (hts _ cw_50) (fun _ h9 => h9) rfl kd_Model_71 ?_
  refine lv_iconst (v := 4) hx hb kd_Model_74 (by decide) ?_
  refine lv_iconst (v := 3) hx hb kd_Model_75 (by decide) ?_
  refine va_iast (D := (dC, dI)) hx hb hK hP hD hS 1 0 rfl rfl (i := 4) (x := 3) (by unfold vp_in; decide) kd_Model_76 (fun H locs hP hD hS => ?_)
  have hP : va_P (dC, dI) vwCl [(h0, .inr (5, [.int 0, .ref q1, .ref q2, .int 0, .int 0, .int 0, .int 0, .int 0, .int 0, .ref q3, .ref q4, .ref q5, .int 0, .int 0, .ref q6, .int 0, .ref q7, .ref q8, .int 0, .int 0, .int 0, .int 0])), (q1, .inl (cI, 1099, .inl (upd (fun _ => 0) 4 3))), (q2, .inl (cI, 1099, .inl (fun _ => 0))), (q3, .inl (cZ, 64, .inl (fun _ => 0))), (q4, .inl (cI, 49, .inl (fun _ => 0))), (q5, .inl (cI, 49, .inl (fun _ => 0))), (q6, .inl (cI, 49, .inl (fun _ => 0))), (q7, .inl (cZ, 16, .inl (fun _ => 0))), (q8, .inl (cI, 20, .inl (fun _ => 0)))] H := hP
  have hD : va_D A [(h0, .inr (5, [.int 0, .ref q1, .ref q2, .int 0, .int 0, .int 0, .int 0, .int 0, .int 0, .ref q3, .ref q4, .ref q5, .int 0, .int 0, .ref q6, .int 0, .ref q7, .ref q8, .int 0, .int 0, .int 0, .int 0])), (q1, .inl (cI, 1099, .inl (upd (fun _ => 0) 4 3))), (q2, .inl (cI, 1099, .inl (fun _ => 0))), (q3, .inl (cZ, 64, .inl (fun _ => 0))), (q4, .inl (cI, 49, .inl (fun _ => 0))), (q5, .inl (cI, 49, .inl (fun _ => 0))), (q6, .inl (cI, 49, .inl (fun _ => 0))), (q7, .inl (cZ, 16, .inl (fun _ => 0))), (q8, .inl (cI, 20, .inl (fun _ => 0)))] := hD
  refine lv_iconst (v := 0) hx hb kd_Model_77 (by decide) ?_
  refine lv_istore_n (lv' := [(1, .int 0), (0, .ref h0)]) hx hb kd_Model_78 rfl hl (by decide) rfl (fun ls hl => ?_)
  refine lv_iload_n hx hb kd_Model_79 rfl (lv_at hl 0 rfl) ?_
  refine lv_iconst (v := 4) hx hb kd_Model_80 (by decide) ?_
  refine lv_icmp_ge (tgt := 100) hx hb kd_Model_81 (by decide) (fun h9 => absurd h9 (by decide)) (fun _ => ?_)
  refine lv_aload_n hx hb kd_Model_84 rfl (lv_at hl 1 rfl) ?_
  refine va_get (D := (dC, dI)) (ci := 5) (v := .ref q1) (C := RX5) (T := TX5) (N := 22) hx hb hts (dm_lay_in 5 (by decide)) hown hK hP 0 rfl rfl 1 (by decide) (hts _ cw_50) (fun _ h9 => h9) rfl kd_Model_85 ?_
  refine lv_bipush (v := 14) hx hb kd_Model_88 (by decide) ?_
  refine lv_iload_n hx hb kd_Model_90 rfl (lv_at hl 0 rfl) ?_
  refine lv_iadd hx hb kd_Model_91 ?_
  rw [show (14 : Int32) + 0 = 14 from by decide]
  refine lv_iconst (v := 1) hx hb kd_Model_92 (by decide) ?_
  refine va_iast (D := (dC, dI)) hx hb hK hP hD hS 1 0 rfl rfl (i := 14) (x := 1) (by unfold vp_in; decide) kd_Model_93 (fun H locs hP hD hS => ?_)
  have hP : va_P (dC, dI) vwCl [(h0, .inr (5, [.int 0, .ref q1, .ref q2, .int 0, .int 0, .int 0, .int 0, .int 0, .int 0, .ref q3, .ref q4, .ref q5, .int 0, .int 0, .ref q6, .int 0, .ref q7, .ref q8, .int 0, .int 0, .int 0, .int 0])), (q1, .inl (cI, 1099, .inl (upd (upd (fun _ => 0) 4 3) 14 1))), (q2, .inl (cI, 1099, .inl (fun _ => 0))), (q3, .inl (cZ, 64, .inl (fun _ => 0))), (q4, .inl (cI, 49, .inl (fun _ => 0))), (q5, .inl (cI, 49, .inl (fun _ => 0))), (q6, .inl (cI, 49, .inl (fun _ => 0))), (q7, .inl (cZ, 16, .inl (fun _ => 0))), (q8, .inl (cI, 20, .inl (fun _ => 0)))] H := hP
  have hD : va_D A [(h0, .inr (5, [.int 0, .ref q1, .ref q2, .int 0, .int 0, .int 0, .int 0, .int 0, .int 0, .ref q3, .ref q4, .ref q5, .int 0, .int 0, .ref q6, .int 0, .ref q7, .ref q8, .int 0, .int 0, .int 0, .int 0])), (q1, .inl (cI, 1099, .inl (upd (upd (fun _ => 0) 4 3) 14 1))), (q2, .inl (cI, 1099, .inl (fun _ => 0))), (q3, .inl (cZ, 64, .inl (fun _ => 0))), (q4, .inl (cI, 49, .inl (fun _ => 0))), (q5, .inl (cI, 49, .inl (fun _ => 0))), (q6, .inl (cI, 49, .inl (fun _ => 0))), (q7, .inl (cZ, 16, .inl (fun _ => 0))), (q8, .inl (cI, 20, .inl (fun _ => 0)))] := hD
  refine lv_iinc (v := 1) (lv' := [(1, .int 1), (0, .ref h0)]) hx hb kd_Model_94 hl (k := 0) rfl (by decide) (by decide) rfl (fun ls hl => ?_)
  refine lv_goto (tgt := 79) hx hb kd_Model_97 (by decide) ?_
  refine lv_iload_n hx hb kd_Model_79 rfl (lv_at hl 0 rfl) ?_
  refine lv_iconst (v := 4) hx hb kd_Model_80 (by decide) ?_
  refine lv_icmp_ge (tgt := 100) hx hb kd_Model_81 (by decide) (fun h9 => absurd h9 (by decide)) (fun _ => ?_)
  refine lv_aload_n hx hb kd_Model_84 rfl (lv_at hl 1 rfl) ?_
  refine va_get (D := (dC, dI)) (ci := 5) (v := .ref q1) (C := RX5) (T := TX5) (N := 22) hx hb hts (dm_lay_in 5 (by decide)) hown hK hP 0 rfl rfl 1 (by decide) (hts _ cw_50) (fun _ h9 => h9) rfl kd_Model_85 ?_
  refine lv_bipush (v := 14) hx hb kd_Model_88 (by decide) ?_
  refine lv_iload_n hx hb kd_Model_90 rfl (lv_at hl 0 rfl) ?_
  refine lv_iadd hx hb kd_Model_91 ?_
  rw [show (14 : Int32) + 1 = 15 from by decide]
  refine lv_iconst (v := 1) hx hb kd_Model_92 (by decide) ?_
  refine va_iast (D := (dC, dI)) hx hb hK hP hD hS 1 0 rfl rfl (i := 15) (x := 1) (by unfold vp_in; decide) kd_Model_93 (fun H locs hP hD hS => ?_)
  have hP : va_P (dC, dI) vwCl [(h0, .inr (5, [.int 0, .ref q1, .ref q2, .int 0, .int 0, .int 0, .int 0, .int 0, .int 0, .ref q3, .ref q4, .ref q5, .int 0, .int 0, .ref q6, .int 0, .ref q7, .ref q8, .int 0, .int 0, .int 0, .int 0])), (q1, .inl (cI, 1099, .inl (upd (upd (upd (fun _ => 0) 4 3) 14 1) 15 1))), (q2, .inl (cI, 1099, .inl (fun _ => 0))), (q3, .inl (cZ, 64, .inl (fun _ => 0))), (q4, .inl (cI, 49, .inl (fun _ => 0))), (q5, .inl (cI, 49, .inl (fun _ => 0))), (q6, .inl (cI, 49, .inl (fun _ => 0))), (q7, .inl (cZ, 16, .inl (fun _ => 0))), (q8, .inl (cI, 20, .inl (fun _ => 0)))] H := hP
  have hD : va_D A [(h0, .inr (5, [.int 0, .ref q1, .ref q2, .int 0, .int 0, .int 0, .int 0, .int 0, .int 0, .ref q3, .ref q4, .ref q5, .int 0, .int 0, .ref q6, .int 0, .ref q7, .ref q8, .int 0, .int 0, .int 0, .int 0])), (q1, .inl (cI, 1099, .inl (upd (upd (upd (fun _ => 0) 4 3) 14 1) 15 1))), (q2, .inl (cI, 1099, .inl (fun _ => 0))), (q3, .inl (cZ, 64, .inl (fun _ => 0))), (q4, .inl (cI, 49, .inl (fun _ => 0))), (q5, .inl (cI, 49, .inl (fun _ => 0))), (q6, .inl (cI, 49, .inl (fun _ => 0))), (q7, .inl (cZ, 16, .inl (fun _ => 0))), (q8, .inl (cI, 20, .inl (fun _ => 0)))] := hD
  refine lv_iinc (v := 2) (lv' := [(1, .int 2), (0, .ref h0)]) hx hb kd_Model_94 hl (k := 0) rfl (by decide) (by decide) rfl (fun ls hl => ?_)
  refine lv_goto (tgt := 79) hx hb kd_Model_97 (by decide) ?_
  refine lv_iload_n hx hb kd_Model_79 rfl (lv_at hl 0 rfl) ?_
  refine lv_iconst (v := 4) hx hb kd_Model_80 (by decide) ?_
  refine lv_icmp_ge (tgt := 100) hx hb kd_Model_81 (by decide) (fun h9 => absurd h9 (by decide)) (fun _ => ?_)
  refine lv_aload_n hx hb kd_Model_84 rfl (lv_at hl 1 rfl) ?_
  refine va_get (D := (dC, dI)) (ci := 5) (v := .ref q1) (C := RX5) (T := TX5) (N := 22) hx hb hts (dm_lay_in 5 (by decide)) hown hK hP 0 rfl rfl 1 (by decide) (hts _ cw_50) (fun _ h9 => h9) rfl kd_Model_85 ?_
  refine lv_bipush (v := 14) hx hb kd_Model_88 (by decide) ?_
  refine lv_iload_n hx hb kd_Model_90 rfl (lv_at hl 0 rfl) ?_
  refine lv_iadd hx hb kd_Model_91 ?_
  rw [show (14 : Int32) + 2 = 16 from by decide]
  refine lv_iconst (v := 1) hx hb kd_Model_92 (by decide) ?_
  refine va_iast (D := (dC, dI)) hx hb hK hP hD hS 1 0 rfl rfl (i := 16) (x := 1) (by unfold vp_in; decide) kd_Model_93 (fun H locs hP hD hS => ?_)
  have hP : va_P (dC, dI) vwCl [(h0, .inr (5, [.int 0, .ref q1, .ref q2, .int 0, .int 0, .int 0, .int 0, .int 0, .int 0, .ref q3, .ref q4, .ref q5, .int 0, .int 0, .ref q6, .int 0, .ref q7, .ref q8, .int 0, .int 0, .int 0, .int 0])), (q1, .inl (cI, 1099, .inl (upd (upd (upd (upd (fun _ => 0) 4 3) 14 1) 15 1) 16 1))), (q2, .inl (cI, 1099, .inl (fun _ => 0))), (q3, .inl (cZ, 64, .inl (fun _ => 0))), (q4, .inl (cI, 49, .inl (fun _ => 0))), (q5, .inl (cI, 49, .inl (fun _ => 0))), (q6, .inl (cI, 49, .inl (fun _ => 0))), (q7, .inl (cZ, 16, .inl (fun _ => 0))), (q8, .inl (cI, 20, .inl (fun _ => 0)))] H := hP
  have hD : va_D A [(h0, .inr (5, [.int 0, .ref q1, .ref q2, .int 0, .int 0, .int 0, .int 0, .int 0, .int 0, .ref q3, .ref q4, .ref q5, .int 0, .int 0, .ref q6, .int 0, .ref q7, .ref q8, .int 0, .int 0, .int 0, .int 0])), (q1, .inl (cI, 1099, .inl (upd (upd (upd (upd (fun _ => 0) 4 3) 14 1) 15 1) 16 1))), (q2, .inl (cI, 1099, .inl (fun _ => 0))), (q3, .inl (cZ, 64, .inl (fun _ => 0))), (q4, .inl (cI, 49, .inl (fun _ => 0))), (q5, .inl (cI, 49, .inl (fun _ => 0))), (q6, .inl (cI, 49, .inl (fun _ => 0))), (q7, .inl (cZ, 16, .inl (fun _ => 0))), (q8, .inl (cI, 20, .inl (fun _ => 0)))] := hD
  refine lv_iinc (v := 3) (lv' := [(1, .int 3), (0, .ref h0)]) hx hb kd_Model_94 hl (k := 0) rfl (by decide) (by decide) rfl (fun ls hl => ?_)
  refine lv_goto (tgt := 79) hx hb kd_Model_97 (by decide) ?_
  refine lv_iload_n hx hb kd_Model_79 rfl (lv_at hl 0 rfl) ?_
  refine lv_iconst (v := 4) hx hb kd_Model_80 (by decide) ?_
  refine lv_icmp_ge (tgt := 100) hx hb kd_Model_81 (by decide) (fun h9 => absurd h9 (by decide)) (fun _ => ?_)
  refine lv_aload_n hx hb kd_Model_84 rfl (lv_at hl 1 rfl) ?_
  refine va_get (D := (dC, dI)) (ci := 5) (v := .ref q1) (C := RX5) (T := TX5) (N := 22) hx hb hts (dm_lay_in 5 (by decide)) hown hK hP 0 rfl rfl 1 (by decide) (hts _ cw_50) (fun _ h9 => h9) rfl kd_Model_85 ?_
  refine lv_bipush (v := 14) hx hb kd_Model_88 (by decide) ?_
  refine lv_iload_n hx hb kd_Model_90 rfl (lv_at hl 0 rfl) ?_
  refine lv_iadd hx hb kd_Model_91 ?_
  rw [show (14 : Int32) + 3 = 17 from by decide]
  refine lv_iconst (v := 1) hx hb kd_Model_92 (by decide) ?_
  refine va_iast (D := (dC, dI)) hx hb hK hP hD hS 1 0 rfl rfl (i := 17) (x := 1) (by unfold vp_in; decide) kd_Model_93 (fun H locs hP hD hS => ?_)
  have hP : va_P (dC, dI) vwCl [(h0, .inr (5, [.int 0, .ref q1, .ref q2, .int 0, .int 0, .int 0, .int 0, .int 0, .int 0, .ref q3, .ref q4, .ref q5, .int 0, .int 0, .ref q6, .int 0, .ref q7, .ref q8, .int 0, .int 0, .int 0, .int 0])), (q1, .inl (cI, 1099, .inl (upd (upd (upd (upd (upd (fun _ => 0) 4 3) 14 1) 15 1) 16 1) 17 1))), (q2, .inl (cI, 1099, .inl (fun _ => 0))), (q3, .inl (cZ, 64, .inl (fun _ => 0))), (q4, .inl (cI, 49, .inl (fun _ => 0))), (q5, .inl (cI, 49, .inl (fun _ => 0))), (q6, .inl (cI, 49, .inl (fun _ => 0))), (q7, .inl (cZ, 16, .inl (fun _ => 0))), (q8, .inl (cI, 20, .inl (fun _ => 0)))] H := hP
  have hD : va_D A [(h0, .inr (5, [.int 0, .ref q1, .ref q2, .int 0, .int 0, .int 0, .int 0, .int 0, .int 0, .ref q3, .ref q4, .ref q5, .int 0, .int 0, .ref q6, .int 0, .ref q7, .ref q8, .int 0, .int 0, .int 0, .int 0])), (q1, .inl (cI, 1099, .inl (upd (upd (upd (upd (upd (fun _ => 0) 4 3) 14 1) 15 1) 16 1) 17 1))), (q2, .inl (cI, 1099, .inl (fun _ => 0))), (q3, .inl (cZ, 64, .inl (fun _ => 0))), (q4, .inl (cI, 49, .inl (fun _ => 0))), (q5, .inl (cI, 49, .inl (fun _ => 0))), (q6, .inl (cI, 49, .inl (fun _ => 0))), (q7, .inl (cZ, 16, .inl (fun _ => 0))), (q8, .inl (cI, 20, .inl (fun _ => 0)))] := hD
  refine lv_iinc (v := 4) (lv' := [(1, .int 4), (0, .ref h0)]) hx hb kd_Model_94 hl (k := 0) rfl (by decide) (by decide) rfl (fun ls hl => ?_)
  refine lv_goto (tgt := 79) hx hb kd_Model_97 (by decide) ?_
  refine lv_iload_n hx hb kd_Model_79 rfl (lv_at hl 0 rfl) ?_
  refine lv_iconst (v := 4) hx hb kd_Model_80 (by decide) ?_
  refine lv_icmp_ge (tgt := 100) hx hb kd_Model_81 (by decide) (fun _ => ?_) (fun h9 => absurd h9 (by decide))
  exact W.vret hx hb hr (fun t ht hW => ⟨⟨(q1, q2, q3, q4, q5, q6, q7, q8), rfl, trivial, by rw [ht]; exact hP, hD⟩, hS.F ht⟩) hS.2.2 kd_Model_100
