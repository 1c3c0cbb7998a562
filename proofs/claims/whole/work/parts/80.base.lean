/-! constructors: what they share -/
theorem va_RA_f {U : State} {c : ClassId} {ty : FieldType} (h : va_RA U c ty) : U.vm.findClass ("[" ++ ty.toString) = some c := by
  cases ty with
  | object C => obtain ⟨_, _, _, _, _, h⟩ := h; exact h
  | _ => exact h
theorem ct_uniq {D : va_G} {cl : List vw_C} {tys : List (ClassId × FieldType)} {cA cI : ClassId} {ty : FieldType} {s : State} {k : Nat} (h1 : va_K D cl (tys ++ [(cA, ty)]) s) (h2 : tys[k]? = some (cI, ty)) : cA = cI := by
  have a1 := va_RA_f (h1.2 tys.length (cA, ty) (by rw [List.getElem?_append_right (Nat.le_refl _), Nat.sub_self]; rfl)).2
  have a2 := va_RA_f (h1.2 k (cI, ty) (by rw [List.getElem?_append_left (dm_lt_of h2)]; exact h2)).2
  exact Option.some.inj (a1.symm.trans a2)
theorem ct_prim {ty : FieldType} {args : Array Value} {s : State} (h : (Cond.arrayClass ty).before args s = true) : ∃ cA, ArrOfT s cA ty ∧ s.vm.findClass ("[" ++ ty.toString) = some cA := by
  unfold Cond.before Cond.holds at h
  simp only [Cond.value] at h
  cases h1 : s.vm.findClass ("[" ++ ty.toString) with
  | none => rw [h1] at h; exact absurd h (by simp)
  | some cA =>
    rw [h1] at h
    cases h2 : s.vm.classes[cA]? with
    | none => rw [Option.bind_some, h2] at h; exact absurd h (by simp)
    | some kA =>
      rw [Option.bind_some, h2] at h
      refine ⟨cA, fun n z => ⟨(fun k q => by cases q), kA, h2, ?_⟩, rfl⟩
      cases hk : kA.kind with
      | array comp ty1 =>
        simp only [hk, Option.map_some] at h
        have : ty1 = ty := by simpa using h
        exact ⟨comp, by rw [this]⟩
      | _ => simp [hk] at h
abbrev ct_T (cI cZ cO : ClassId) : List (ClassId × FieldType) := [(cI, .int), (cZ, .boolean), (cO, .object "AnyNail$Cord")]
def ct_E (dC : Nat → ClassId) (dI : Nat → Nat → Nat) (cI cZ cO : ClassId) (U : State) : Prop := va_K (dC, dI) vwCl (ct_T cI cZ cO) U ∧ (∀ w ∈ dm_NW, va_Nw w U) ∧ va_AO "AnyNail$Cord" U
theorem ct_E_same {dC : Nat → ClassId} {dI : Nat → Nat → Nat} {cI cZ cO : ClassId} {U : State} {g : JFrame} {mk : MethodId} {a : Array Value} (h : ct_E dC dI cI cZ cO U) : ct_E dC dI cI cZ cO (U.calling g mk a) := by
  obtain ⟨h1, h2, h3⟩ := h
  have hA : U.vm.Alike (U.calling g mk a).vm := Vm.Alike.refl U.vm
  exact ⟨va_K.moved hA h1, fun w hw => va_Nw.same (dm_NW_word w hw) (rfl : U.vm = (U.calling g mk a).vm) (h2 w hw), va_AO.moved hA h3⟩
theorem ct_E_to {dC : Nat → ClassId} {dI : Nat → Nat → Nat} {cI cZ cO : ClassId} {s U : State} (hW : s.WarmedH U.vm) (h : ct_E dC dI cI cZ cO s) : ct_E dC dI cI cZ cO U := by
  obtain ⟨h1, h2, h3⟩ := h
  exact ⟨va_K.moved hW.alike h1, fun w hw => dm_Nw_warm (List.mem_filter.mp hw).2 hW (h2 w hw), va_AO.moved hW.alike h3⟩
def ct_P (dC : Nat → ClassId) (dI : Nat → Nat → Nat) (cI cZ cO : ClassId) (av : List Value) (h0 : Nat) (e0 : va_E) (sz : Nat) : Array Value → State → Prop := va_Pc av (fun U => U.heap.size = sz ∧ va_P (dC, dI) vwCl [(h0, e0)] U.heap ∧ ct_E dC dI cI cZ cO U)
def ct_Q (dC : Nat → ClassId) (dI : Nat → Nat → Nat) (S : Type) (w1 : S → va_W) (h0 : Nat) (e0 : va_E) (sz : Nat) : Array Value → State → Outcome → State → Prop := va_Qv (fun _ : S => True) (fun u t => va_P (dC, dI) vwCl (w1 u) t.heap ∧ va_D (va_A [(h0, e0)] sz) (w1 u)) (va_A [(h0, e0)] sz)
/-- a constructor's contract: its new cells stand behind the rest -/
def ct_M (l : Launch) (y : MethodName) (b : ByteArray) (ml : Nat) (rm : Room) (dC : Nat → ClassId) (dI : Nat → Nat → Nat) (cI cZ cO : ClassId) (av : List Value) (h0 : Nat) (e0 : va_E) (S : Type) (w1 : S → va_W) (mc ms : Nat) : Prop :=
  ∀ sz, Met l y (Jvm.Cond.code y b ml none :: dm_GW) rm (ct_P dC dI cI cZ cO av h0 e0 sz) (ct_Q dC dI S w1 h0 e0 sz) mc ms (va_A [(h0, e0)] sz)
section
variable {p : Program} {l : Launch} {e : Env} {R : Room} {s : State} {m : MethodId} {args : Array Value} {below : List Frame} {meth : Method} {c : Code} {H H1 : Heap} {locs : List Loc} {cells slots : Nat} {Q : State → Prop}
variable {cc : ByteArray} {pc : Nat} {ls : Array Slot} {rest : List Value} {D : va_G} {cl : List vw_C} {A : Nat → Prop} {a b : Nat} {wr wc w1 : va_W} {H0 : Heap}
variable {dC : Nat → ClassId} {dI : Nat → Nat → Nat} {cI cZ cO : ClassId}
theorem ct_join (hP : va_P D cl (wr ++ wc) H) (hD : va_D A (wr ++ wc)) (hk : ∀ q : Nat, q < H.size → ¬ va_A wc H.size q → H1[q]? = H[q]?) (hF : ∀ q, va_A wc H.size q → A q) (hP1 : va_P D cl w1 H1) (hD1 : va_D (va_A wc H.size) w1) : va_P D cl (wr ++ w1) H1 ∧ va_D A (wr ++ w1) := by
  have atl : ∀ (k : Nat) (q : Nat × va_E), wr[k]? = some q → (wr ++ wc)[k]? = some q := fun k q h => by rw [List.getElem?_append_left (dm_lt_of h)]; exact h
  have nin : ∀ (k : Nat) (q : Nat × va_E), wr[k]? = some q → ¬ va_A wc H.size q.1 ∧ q.1 < H.size := by
    intro k q h
    have hl := (hP k q (atl k q h)).lt
    refine ⟨fun z => ?_, hl⟩
    rcases z with ⟨j, e1, hj⟩ | z
    · have := hD.1 k (wr.length + j) q (q.1, e1) (atl k q h) (by rw [List.getElem?_append_right (by omega), Nat.add_sub_cancel_left]; exact hj) rfl
      have := dm_lt_of h
      omega
    · omega
  refine ⟨va_P.app (fun k q h => ?_) hP1, va_D.app ⟨fun i j p1 q1 h1 h2 e1 => hD.1 i j p1 q1 (atl i p1 h1) (atl j q1 h2) e1, fun k q h => hD.2 k q (atl k q h)⟩ (hD1.weaken (fun _ q _ h => hF q.1 h)) (fun i j p1 q1 h1 h2 e1 => ?_)⟩
  · obtain ⟨n1, n2⟩ := nin k q h
    have h1 : va_P D cl [q] H := fun j r hj => by
      have hj0 : j < 1 := dm_lt_of hj
      have : j = 0 := by omega
      subst this
      cases hj
      exact hP k q (atl k q h)
    exact h1.kept (fun j r hj => by
      have hj0 : j < 1 := dm_lt_of hj
      have : j = 0 := by omega
      subst this
      cases hj
      exact hk q.1 n2 n1) 0 q rfl
  · have := hD1.2 j q1 h2
    rw [← e1] at this
    exact (nin i p1 h1).1 this
theorem ct_last {e0 : va_E} (hP : va_P D cl (wr ++ [(b, e0)]) H) : va_P D cl [(b, e0)] H := by
  intro j r hj
  have hj0 : j < 1 := dm_lt_of hj
  have : j = 0 := by omega
  subst this
  cases hj
  exact hP wr.length _ (by rw [List.getElem?_append_right (Nat.le_refl _), Nat.sub_self]; rfl)
theorem ct_lastF {e0 : va_E} (hD : va_D A (wr ++ [(b, e0)])) (hS : va_S A H0 H locs) (hA : ∀ q, H0.size ≤ q → A q) : ∀ q, va_A [(b, e0)] H.size q → A q := by
  intro q h
  rcases h with ⟨j, e1, hj⟩ | h
  · have hj0 : j < 1 := dm_lt_of hj
    have : j = 0 := by omega
    subst this
    cases hj
    exact hD.2 wr.length (b, e0) (by rw [List.getElem?_append_right (Nat.le_refl _), Nat.sub_self]; rfl)
  · exact hA q (Nat.le_trans hS.1 h)
theorem ct_D1 {e0 : va_E} {sz : Nat} : va_D (va_A [(b, e0)] sz) [(b, e0)] := by
  refine ⟨fun i j p1 q1 h1 h2 _ => ?_, fun k q h => Or.inl ⟨k, q.2, h⟩⟩
  have a1 : i < 1 := dm_lt_of h1
  have a2 : j < 1 := dm_lt_of h2
  omega
theorem ct_GI {y : MethodName} {bb : ByteArray} {ml : Nat} {ret : Option FieldType} (h : Jvm.Cond.code y bb ml ret ∈ dm_GW) : GoodIn dm_GW (Jvm.Cond.code y bb ml ret :: dm_GW) := fun w hw => by
  rcases List.mem_cons.mp hw with rfl | h1
  · exact ⟨h, good_of_word (dm_GW_good _ h)⟩
  · exact ⟨h1, good_of_word (dm_GW_good _ h1)⟩
theorem ct_pre {av : List Value} {e0 : va_E} (hE : ct_E dC dI cI cZ cO s) (hP : va_P (dC, dI) vwCl [(b, e0)] H) : PreS s H (ct_P dC dI cI cZ cO av b e0 H.size) av :=
  ⟨fun a U g mk h => ⟨h.1, h.2.1, h.2.2.1, ct_E_same h.2.2.2⟩, fun U hU hW => ⟨rfl, by rw [hU], by rw [hU]; exact hP, ct_E_to hW hE⟩⟩
/-- a nest mate's constructor is called -/
theorem ct_callN {own host : String} {index maxL mc ms nL n : Nat} {y : MethodName} {bytes : ByteArray} {rm : Room} {As : List Value} {e0 : va_E} {S : Type} {w1 : S → va_W}
    (S0 : CallFix p m c cc nL s args dm_GW own) (hE : ct_E dC dI cI cZ cO s) (hM : ct_M l y bytes maxL rm dC dI cI cZ cO (.ref b :: As) b e0 S w1 mc ms)
    (g1 : Jvm.Cond.code y bytes maxL none ∈ dm_GW) (g2 : Jvm.Cond.initialized y.cls ∈ dm_GW) (g3 : Jvm.Cond.methodLinkNest own index y host ∈ dm_NW) (g4 : Jvm.Cond.instanceMethod y ∈ dm_GW) (hy : y.name = "<init>")
    (hd : y.cls ≠ "java/lang/invoke/MethodHandle" ∧ y.cls ≠ "java/lang/invoke/VarHandle" ∧ (parseMethodDescriptor y.desc).map (fun d => d.parameters.length) = some n) (hR : rm.frames + 1 ≤ R.frames ∧ 8 + (maxL + 11) + rm.locals ≤ R.locals)
    (hrc : rm.cells = mc) (hrs : rm.slots = ms) (hn : As.length = n) (hsize : ls.size = nL) (hcat : (rest.map fun v => v.category).sum ≤ 8)
    (hP : va_P (dC, dI) vwCl (wr ++ [(b, e0)]) H) (hD : va_D A (wr ++ [(b, e0)])) (hS : va_S A s.heap H locs) (hA : ∀ q, s.heap.size ≤ q → A q) (hdg : decode cc pc = .ok (.invokespecial index, 3)) (hf : cells + mc ≤ R.cells ∧ slots + ms ≤ R.slots)
    (kk : ∀ (u : S) (H1 : Heap) (locs1 : List Loc), va_P (dC, dI) vwCl (wr ++ w1 u) H1 → va_D A (wr ++ w1 u) → va_S A s.heap H1 locs1 → W p l e R s m args below meth c H1 locs1 (cells + mc) (slots + ms) Q (F0 m (pc + 3) ls rest)) :
    W p l e R s m args below meth c H locs cells slots Q (F0 m pc ls (As.reverse ++ .ref b :: rest)) := by
  have hts := S0.2.2.2.2
  have hF := ct_lastF hD hS hA
  refine va_callv (va_runIN (As := As) (rest := rest) (host := host) S0 (hM H.size) ⟨va_cnB n hts (ct_GI g1) rfl hrc hrs (hE.2.1 _ g3) (hts _ g2) hd hR, hy, hts _ g4⟩ (ct_pre hE (ct_last hP)) rfl hn hsize rfl (by show 2 * 0 + _ ≤ 8; omega) hdg hf) hS (fun q _ h => hF q h) hF (fun u t H1 locs1 ht hvm _ hB hz hk hS1 => ?_)
  obtain ⟨b1, b2⟩ := hB
  rw [ht] at b1
  obtain ⟨c1, c2⟩ := ct_join hP hD hk hF b1 b2
  exact kk u H1 locs1 c1 c2 hS1
/-- a constructor is called -/
theorem ct_call {own : String} {index maxL mc ms nL n : Nat} {y : MethodName} {bytes : ByteArray} {rm : Room} {As : List Value} {e0 : va_E} {S : Type} {w1 : S → va_W}
    (S0 : CallFix p m c cc nL s args dm_GW own) (hE : ct_E dC dI cI cZ cO s) (hM : ct_M l y bytes maxL rm dC dI cI cZ cO (.ref b :: As) b e0 S w1 mc ms)
    (g1 : Jvm.Cond.code y bytes maxL none ∈ dm_GW) (g2 : Jvm.Cond.initialized y.cls ∈ dm_GW) (g3 : Jvm.Cond.methodLink own index y ∈ dm_GW) (g4 : Jvm.Cond.instanceMethod y ∈ dm_GW) (hy : y.name = "<init>")
    (hd : y.cls ≠ "java/lang/invoke/MethodHandle" ∧ y.cls ≠ "java/lang/invoke/VarHandle" ∧ (parseMethodDescriptor y.desc).map (fun d => d.parameters.length) = some n) (hR : rm.frames + 1 ≤ R.frames ∧ 8 + (maxL + 11) + rm.locals ≤ R.locals)
    (hrc : rm.cells = mc) (hrs : rm.slots = ms) (hn : As.length = n) (hsize : ls.size = nL) (hcat : (rest.map fun v => v.category).sum ≤ 8)
    (hP : va_P (dC, dI) vwCl (wr ++ [(b, e0)]) H) (hD : va_D A (wr ++ [(b, e0)])) (hS : va_S A s.heap H locs) (hA : ∀ q, s.heap.size ≤ q → A q) (hdg : decode cc pc = .ok (.invokespecial index, 3)) (hf : cells + mc ≤ R.cells ∧ slots + ms ≤ R.slots)
    (kk : ∀ (u : S) (H1 : Heap) (locs1 : List Loc), va_P (dC, dI) vwCl (wr ++ w1 u) H1 → va_D A (wr ++ w1 u) → va_S A s.heap H1 locs1 → W p l e R s m args below meth c H1 locs1 (cells + mc) (slots + ms) Q (F0 m (pc + 3) ls rest)) :
    W p l e R s m args below meth c H locs cells slots Q (F0 m pc ls (As.reverse ++ .ref b :: rest)) := by
  have hts := S0.2.2.2.2
  have hF := ct_lastF hD hS hA
  refine va_callv (va_runI (As := As) (rest := rest) S0 (hM H.size) ⟨callB_of n hts (ct_GI g1) rfl hrc hrs (hts _ g2) (hts _ g3) hd hR, hy, hts _ g4⟩ (ct_pre hE (ct_last hP)) rfl hn hsize rfl (by show 2 * 0 + _ ≤ 8; omega) hdg hf) hS (fun q _ h => hF q h) hF (fun u t H1 locs1 ht hvm _ hB hz hk hS1 => ?_)
  obtain ⟨b1, b2⟩ := hB
  rw [ht] at b1
  obtain ⟨c1, c2⟩ := ct_join hP hD hk hF b1 b2
  exact kk u H1 locs1 c1 c2 hS1
/-- a new array of ints -/
theorem ct_newI (hx : p.tables.exec = Jvm.exec) (hb : c.code = cc) (harr : (Cond.arrayClass .int).before args s = true) (hK : va_K (dC, dI) cl (ct_T cI cZ cO) s) (hP : va_P (dC, dI) cl wr H) (hD : va_D A wr) (hS : va_S A H0 H locs) (hA : ∀ q, H0.size ≤ q → A q)
    {n : Int32} {N : Nat} (hn : ¬ n < 0) (hN : n.toNatClampNeg = N) (hbytes : N * 4 ≤ 536870912) (hcells : cells + 1 ≤ R.cells) (hslots : slots + N ≤ R.slots) (hdg : decode cc pc = .ok (.newarray .int, 2))
    (kk : ∀ (q : Nat) (H1 : Heap), va_P (dC, dI) cl (wr ++ [(q, .inl (cI, N, .inl (fun _ => 0)))]) H1 → va_D A (wr ++ [(q, .inl (cI, N, .inl (fun _ => 0)))]) → va_S A H0 H1 locs → W p l e R s m args below meth c H1 locs (cells + 1) (slots + N) Q (F0 m (pc + 2) ls (.ref q :: rest))) :
    W p l e R s m args below meth c H locs cells slots Q (F0 m pc ls (.int n :: rest)) :=
  va_newa (atype := .int) hx hb harr (ty := .int) rfl hK hP hD hS hA (a0 := (N, .inl (fun _ => 0))) (fun _ => rfl) hn hN hbytes hcells hslots hdg (fun q cA H1 k1 k2 k3 k4 => by
    have e : cA = cI := ct_uniq (k := 0) k1 rfl
    subst e
    exact kk q H1 k2 k3 k4)
theorem ct_newZ (hx : p.tables.exec = Jvm.exec) (hb : c.code = cc) (harr : (Cond.arrayClass .boolean).before args s = true) (hK : va_K (dC, dI) cl (ct_T cI cZ cO) s) (hP : va_P (dC, dI) cl wr H) (hD : va_D A wr) (hS : va_S A H0 H locs) (hA : ∀ q, H0.size ≤ q → A q)
    {n : Int32} {N : Nat} (hn : ¬ n < 0) (hN : n.toNatClampNeg = N) (hbytes : N * 1 ≤ 536870912) (hcells : cells + 1 ≤ R.cells) (hslots : slots + N ≤ R.slots) (hdg : decode cc pc = .ok (.newarray .boolean, 2))
    (kk : ∀ (q : Nat) (H1 : Heap), va_P (dC, dI) cl (wr ++ [(q, .inl (cZ, N, .inl (fun _ => 0)))]) H1 → va_D A (wr ++ [(q, .inl (cZ, N, .inl (fun _ => 0)))]) → va_S A H0 H1 locs → W p l e R s m args below meth c H1 locs (cells + 1) (slots + N) Q (F0 m (pc + 2) ls (.ref q :: rest))) :
    W p l e R s m args below meth c H locs cells slots Q (F0 m pc ls (.int n :: rest)) :=
  va_newa (atype := .boolean) hx hb harr (ty := .boolean) rfl hK hP hD hS hA (a0 := (N, .inl (fun _ => 0))) (fun _ => rfl) hn hN hbytes hcells hslots hdg (fun q cA H1 k1 k2 k3 k4 => by
    have e : cA = cZ := ct_uniq (k := 1) k1 rfl
    subst e
    exact kk q H1 k2 k3 k4)
theorem ct_newO (hx : p.tables.exec = Jvm.exec) (hb : c.code = cc) {own : String} {index : Nat} (hown : s.vm.findClass own = some m.cls) (hcl : (Cond.classLink own index "AnyNail$Cord").before args s = true) (hao : va_AO "AnyNail$Cord" s) (hK : va_K (dC, dI) cl (ct_T cI cZ cO) s) (hP : va_P (dC, dI) cl wr H) (hD : va_D A wr) (hS : va_S A H0 H locs) (hA : ∀ q, H0.size ≤ q → A q)
    {n : Int32} {N : Nat} (hn : ¬ n < 0) (hN : n.toNatClampNeg = N) (hbytes : N * 4 ≤ 536870912) (hcells : cells + 1 ≤ R.cells) (hslots : slots + N ≤ R.slots) (hdg : decode cc pc = .ok (.anewarray index, 3))
    (kk : ∀ (q : Nat) (H1 : Heap), va_P (dC, dI) cl (wr ++ [(q, .inl (cO, N, .inr (.inr (.inr (.inr (fun _ => none))))))]) H1 → va_D A (wr ++ [(q, .inl (cO, N, .inr (.inr (.inr (.inr (fun _ => none))))))]) → va_S A H0 H1 locs → W p l e R s m args below meth c H1 locs (cells + 1) (slots + N) Q (F0 m (pc + 3) ls (.ref q :: rest))) :
    W p l e R s m args below meth c H locs cells slots Q (F0 m pc ls (.int n :: rest)) :=
  va_newq hx hb hown hcl hao hK hP hD hS hA hn hN hbytes hcells hslots hdg (fun q cA H1 k1 k2 k3 k4 => by
    have e : cA = cO := ct_uniq (k := 2) k1 rfl
    subst e
    exact kk q H1 k2 k3 k4)
end
