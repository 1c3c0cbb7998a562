/-! calls; then the whole -/
theorem dm_call_inv {i : Instr} {st : List Value} {y : Nat} {as rest : List Value} (h : dm_call i st = some (y, as, rest)) :
    (∃ j x, i = .invokestatic j ∧ dm_ML[j]? = some x ∧ x.2.2.1 = y ∧ y < 900 ∧ dm_sta y = true ∧ as.length = dm_na y ∧ st = as.reverse ++ rest) ∨
    (∃ j x q as', i = .invokevirtual j ∧ dm_ML[j]? = some x ∧ x.2.2.1 = y ∧ y < 900 ∧ dm_sta y = false ∧ as = .ref q :: as' ∧ as.length = dm_na y ∧ dm_kd q = dm_cl y ∧ st = as'.reverse ++ .ref q :: rest) := by
  unfold dm_call at h
  split at h
  next j =>
    left
    cases hj : dm_ML[j]? with
    | none => rw [hj] at h; cases h
    | some x =>
      obtain ⟨ow, cp, mid, host⟩ := x
      rw [hj] at h
      dsimp only at h
      split at h
      next hc =>
        cases h
        refine ⟨j, _, rfl, hj, rfl, hc.1, hc.2.1, ?_, ?_⟩
        · rw [List.length_reverse, List.length_take]
          omega
        · rw [List.reverse_reverse, List.take_append_drop]
      next => cases h
  next j =>
    right
    cases hj : dm_ML[j]? with
    | none => rw [hj] at h; cases h
    | some x =>
      obtain ⟨ow, cp, mid, host⟩ := x
      rw [hj] at h
      dsimp only at h
      split at h
      next hc =>
        split at h
        next q as' hr =>
          split at h
          next hk =>
            cases h
            refine ⟨j, _, q, as', rfl, hj, rfl, hc.1, hc.2.1, rfl, ?_, hk, ?_⟩
            · rw [← hr, List.length_reverse, List.length_take]
              omega
            · have h1 : st.take (dm_na y) = as'.reverse ++ [.ref q] := by
                rw [← List.reverse_reverse (st.take (dm_na y)), hr, List.reverse_cons]
              have h2 := List.take_append_drop (dm_na y) st
              rw [h1, List.append_assoc] at h2
              exact h2.symm
          next => cases h
        next => cases h
      next => cases h
  next => cases h
section
variable {l : Launch} {ad : Nat → Nat} {fm : Value} {dC : Nat → ClassId} {dI : Nat → Nat → Nat} {cI cZ cO : ClassId} {L0 : Nat} {SM : dm_M}
variable {p : Program} {e : Env} {R : Room} {s : State} {m : MethodId} {args : Array Value} {below : List Frame} {meth : Method} {c : Code} {H : Heap} {locs : List Loc} {cells slots : Nat} {Q : State → Prop}
theorem dm_cat_map (hfm : fm = .null ∨ ∃ x, fm = .ref x) (r : List Value) : ((r.map (dm_cv ad fm)).map fun v => v.category).sum = dm_cat r := by
  unfold dm_cat
  rw [List.map_map]
  congr 1
  exact List.map_congr_left (fun v _ => dm_cv_cat hfm)
theorem dm_call_sound {d k pc cp y : Nat} {i : Instr} {st as rest : List Value} {M M' : dm_M} {r : Option Value} {ls : Array Slot}
    (hx : p.tables.exec = Jvm.exec) (hb : c.code = dm_b k) (hml : c.maxLocals = dm_ml k) (hown : s.vm.findClass (dm_y k).cls = some m.cls) (hts : ∀ w ∈ dm_GW, w.before args s = true) (hE : dm_E ad fm dC dI cI cZ cO L0 SM s)
    (hfm : fm = .null ∨ ∃ x, fm = .ref x) (hS : va_S (dm_A ad) s.heap H locs) (hP : va_P (dC, dI) vwCl (dm_ws ad fm cI cZ cO M) H) (hls : ls.size = dm_ml k)
    (hR : d + 2 ≤ R.frames ∧ 40 * (d + 2) ≤ R.locals ∧ cells ≤ R.cells ∧ slots ≤ R.slots)
    (hd : decode (dm_b k) pc = .ok (dm_raw pc i cp, dm_len pc i)) (hck : dm_ckI k i cp = true) (hc : dm_call i st = some (y, as, rest)) (hcat : dm_cat rest ≤ 8)
    (hM : y < 179 → Met l (dm_y y) (dm_mw y) (dm_rm d) (dm_Pc ad fm dC dI cI cZ cO L0 SM as M) (dm_Qc ad fm dC dI cI cZ cO r M') 0 0 (dm_A ad))
    (kk : ∀ (H1 : Heap) (locs1 : List Loc), va_P (dC, dI) vwCl (dm_ws ad fm cI cZ cO M') H1 → va_S (dm_A ad) s.heap H1 locs1 → W p l e R s m args below meth c H1 locs1 cells slots Q (F0 m (pc + 3) ls ((r.toList ++ rest).map (dm_cv ad fm)))) :
    W p l e R s m args below meth c H locs cells slots Q (F0 m pc ls (st.map (dm_cv ad fm))) := by
  have hbl : FrameBlind (dm_Pc ad fm dC dI cI cZ cO L0 SM as M) := fun a U g mk h => ⟨h.1, h.2.1, dm_E_same h.2.2⟩
  have hPc : ∀ U : State, U.heap = H → s.WarmedH U.vm → dm_Pc ad fm dC dI cI cZ cO L0 SM as M (as.map (dm_cv ad fm)).toArray U := fun U hU hW => ⟨rfl, by rw [hU]; exact hP, dm_E_to hW (by rw [hU]; exact hS.1) (fun a h1 h2 => by rw [hU]; exact hS.2.1 a h1 h2) hE⟩
  have kk2 : ∀ (H1 : Heap) (locs1 : List Loc), va_P (dC, dI) vwCl (dm_ws ad fm cI cZ cO M') H1 → va_S (dm_A ad) s.heap H1 locs1 → W p l e R s m args below meth c H1 locs1 cells slots Q (F0 m (pc + 3) ls ((r.map (dm_cv ad fm)).toList ++ rest.map (dm_cv ad fm))) := by
    intro H1 locs1 h1 h2
    have := kk H1 locs1 h1 h2
    rw [List.map_append] at this
    cases r with
    | none => exact this
    | some v => exact this
  rcases dm_call_inv hc with ⟨j, x, rfl, hj, hxy, hy9, hsta, hlen, rfl⟩ | ⟨j, x, q, as', rfl, hj, hxy, hy9, hsta, rfl, hlen, hkd, rfl⟩
  · obtain ⟨hy, hlink⟩ := dm_M_spec hj (by rw [hxy]; exact hy9)
    rw [hxy] at hy hlink
    obtain ⟨y1, y2, y3, y4, y5, y6, -⟩ := dm_Y_spec hy
    obtain ⟨z1, z2⟩ := y6 hsta
    unfold dm_ckI at hck
    dsimp only at hck
    rw [hj] at hck
    obtain ⟨ho, hcp⟩ := of_decide_eq_true hck
    have hGI : GoodIn dm_GW (dm_mw y) := fun w hw => by
      rcases List.mem_cons.mp hw with rfl | h
      · exact ⟨y1, good_of_word (dm_GW_good _ y1)⟩
      · exact ⟨h, good_of_word (dm_GW_good _ h)⟩
    rw [List.map_append, List.map_reverse]
    have hfr : (dm_rm d).frames + 1 ≤ R.frames ∧ 8 + (dm_ml y + 11) + (dm_rm d).locals ≤ R.locals := ⟨hR.1, by show 8 + (dm_ml y + 11) + 40 * (d + 1) ≤ _; omega⟩
    rcases hlink with ⟨hh, hl2⟩ | ⟨hh, hl2⟩
    · rw [ho, hcp] at hl2
      exact dm_callK (va_runS (own := (dm_y k).cls) (y := dm_y y) (n := dm_na y) (As := as.map (dm_cv ad fm)) ⟨hx, hb, hml, hown, hts⟩ (hM hy) ⟨callB_of (dm_na y) hts hGI rfl rfl rfl (hts _ y2) (hts _ hl2) ⟨y4.1, y4.2, z2⟩ hfr, hts _ z1⟩ ⟨hbl, hPc⟩ rfl (by rw [List.length_map]; exact hlen) hls rfl (lv_room (by rw [dm_cat_map hfm]; exact hcat)) hd ⟨hR.2.2.1, hR.2.2.2⟩) hS kk2
    · rw [ho, hcp] at hl2
      exact dm_callK (va_runSN (own := (dm_y k).cls) (y := dm_y y) (n := dm_na y) (As := as.map (dm_cv ad fm)) ⟨hx, hb, hml, hown, hts⟩ (hM hy) ⟨va_cnB (dm_na y) hts hGI rfl rfl rfl (hE.2.1 _ hl2) (hts _ y2) ⟨y4.1, y4.2, z2⟩ hfr, hts _ z1, trivial⟩ ⟨hbl, hPc⟩ rfl (by rw [List.length_map]; exact hlen) hls rfl (lv_room (by rw [dm_cat_map hfm]; exact hcat)) hd ⟨hR.2.2.1, hR.2.2.2⟩) hS kk2
  · obtain ⟨hy, hlink⟩ := dm_M_spec hj (by rw [hxy]; exact hy9)
    rw [hxy] at hy hlink
    obtain ⟨y1, y2, y3, y4, y5, -, y6⟩ := dm_Y_spec hy
    obtain ⟨z1, z2, z3, z4, z5⟩ := y6 hsta
    unfold dm_ckI at hck
    dsimp only at hck
    rw [hj] at hck
    obtain ⟨ho, hcp⟩ := of_decide_eq_true hck
    have hGI : GoodIn dm_GW (dm_mw y) := fun w hw => by
      rcases List.mem_cons.mp hw with rfl | h
      · exact ⟨y1, good_of_word (dm_GW_good _ y1)⟩
      · exact ⟨h, good_of_word (dm_GW_good _ h)⟩
    have hfr : (dm_rm d).frames + 1 ≤ R.frames ∧ 8 + (dm_ml y + 11) + (dm_rm d).locals ≤ R.locals := ⟨hR.1, by show 8 + (dm_ml y + 11) + 40 * (d + 1) ≤ _; omega⟩
    have hq70 : q ≠ 70 := fun z => by rw [z, dm_kd_big (by decide)] at hkd; omega
    have hn : ∃ n, n + 1 = dm_na y ∧ (parseMethodDescriptor (dm_y y).desc).map (fun d => d.parameters.length) = some n := by
      cases hd2 : parseMethodDescriptor (dm_y y).desc with
      | none => rw [hd2] at z2; exact absurd z2 (by simp)
      | some dd =>
        rw [hd2] at z2
        refine ⟨dd.parameters.length, ?_, rfl⟩
        exact Option.some.inj z2
    obtain ⟨n, hn1, hn2⟩ := hn
    have hlen2 : (as'.map (dm_cv ad fm)).length = n := by
      rw [List.length_map]
      rw [List.length_cons] at hlen
      omega
    have hrecv : ∃ cellB : Cell, H[ad q]? = some cellB ∧ cellB.vm.isStatics = false ∧ s.vm.findClass (dm_y y).cls = some cellB.cls := by
      rw [z5, ← hkd]
      by_cases h6 : dm_kd q < 6
      · have hq2 := (dm_kd_obj h6).1
        have he := dm_ws_at (ad := ad) (fm := fm) (cI := cI) (cZ := cZ) (cO := cO) (M := M) hq2
        rw [dm_ce_obj h6] at he
        exact va_recv hE.1 hP (dm_vw h6) he
      · have e6 : dm_kd q = 6 := by omega
        rw [e6]
        obtain ⟨cell, o1, o2, o3, -⟩ := ((hE.2.2.2.2.2.1 q (dm_kd_6 e6)).1).kept hS.2.1
        exact ⟨cell, o1, o2, o3⟩
    rw [List.map_append, List.map_reverse, List.map_cons, dm_cv_r hq70]
    have hPc2 : ∀ U : State, U.heap = H → s.WarmedH U.vm → dm_Pc ad fm dC dI cI cZ cO L0 SM (.ref q :: as') M (Value.ref (ad q) :: as'.map (dm_cv ad fm)).toArray U := by
      intro U hU hW
      have := hPc U hU hW
      rw [List.map_cons, dm_cv_r hq70] at this
      exact this
    rcases hlink with ⟨hh, hl2⟩ | ⟨hh, hl2⟩
    · rw [ho, hcp] at hl2
      exact dm_callK (va_runV (own := (dm_y k).cls) (C := (dm_y y).cls) (y := dm_y y) (n := n) (As := as'.map (dm_cv ad fm)) ⟨hx, hb, hml, hown, hts⟩ (hM hy) ⟨callB_of n hts hGI rfl rfl rfl (hts _ y2) (hts _ hl2) ⟨y4.1, y4.2, hn2⟩ hfr, hts _ z1, hts _ z3⟩ ⟨hbl, hrecv, hPc2⟩ rfl hlen2 hls rfl (lv_room (by rw [dm_cat_map hfm]; exact hcat)) hd ⟨hR.2.2.1, hR.2.2.2⟩) hS kk2
    · rw [ho, hcp] at hl2
      exact dm_callK (va_runVN (own := (dm_y k).cls) (C := (dm_y y).cls) (y := dm_y y) (n := n) (As := as'.map (dm_cv ad fm)) ⟨hx, hb, hml, hown, hts⟩ (hM hy) ⟨va_cnB n hts hGI rfl rfl rfl (hE.2.1 _ hl2) (hts _ y2) ⟨y4.1, y4.2, hn2⟩ hfr, hts _ z1, hts _ z3⟩ ⟨hbl, hrecv, hPc2⟩ rfl hlen2 hls rfl (lv_room (by rw [dm_cat_map hfm]; exact hcat)) hd ⟨hR.2.2.1, hR.2.2.2⟩) hS kk2
end
theorem dm_keep_run : ∀ (n d k pc : Nat) (L : dm_LV) (st : List Value) (M : dm_M) (r : Option Value) (M' : dm_M), dm_run n d k pc L st M = some (r, M') → ∀ q, 62 ≤ q → M' q = M q := by
  intro n
  induction n with
  | zero => intro d k pc L st M r M' h; exact absurd h (by simp [dm_run])
  | succ n ih =>
    intro d k pc L st M r M' h q hq
    unfold dm_run at h
    cases ha : dm_at k pc with
    | none => rw [ha] at h; cases h
    | some z =>
      obtain ⟨i, cp⟩ := z
      rw [ha] at h
      dsimp only at h
      cases hr : dm_ret k i st with
      | some r1 => rw [hr] at h; cases h; rfl
      | none =>
        rw [hr] at h
        dsimp only at h
        cases hc : dm_call i st with
        | some w =>
          obtain ⟨y, as, rest⟩ := w
          rw [hc] at h
          dsimp only at h
          cases d with
          | zero => cases h
          | succ e =>
            dsimp only at h
            split at h
            · cases h1 : dm_run n e y 0 (dm_ini y as) [] M with
              | none => rw [h1] at h; cases h
              | some w1 =>
                obtain ⟨r1, M1⟩ := w1
                rw [h1] at h
                dsimp only at h
                rw [ih _ _ _ _ _ _ _ _ h q hq, ih _ _ _ _ _ _ _ _ h1 q hq]
            · cases h
        | none =>
          rw [hc] at h
          dsimp only at h
          cases hs : dm_step i pc L st M with
          | none => rw [hs] at h; cases h
          | some w =>
            obtain ⟨pc1, L1, st1, M1⟩ := w
            rw [hs] at h
            dsimp only at h
            rw [ih _ _ _ _ _ _ _ _ h q hq, (dm_step_keeps hs).2 q hq]
/-- THE DEEP MACHINE IS SOUND -/
theorem dm_sound {l : Launch} {ad : Nat → Nat} {fm : Value} {dC : Nat → ClassId} {dI : Nat → Nat → Nat} {cI cZ cO : ClassId} {L0 : Nat} {SM : dm_M} (hj : dm_J ad) (hfm : fm = .null ∨ ∃ x, fm = .ref x) (hL0 : SM 69 0 = Int32.ofNat L0) (hL1 : L0 < 2 ^ 31) :
    ∀ n, dm_Snd l ad fm dC dI cI cZ cO L0 SM n := by
  intro n
  induction n with
  | zero => intro d k pc L st M r M' h; exact absurd h (by simp [dm_run])
  | succ n ih =>
    intro d k pc L st M r M' h hL hM p e R s m args below meth c H locs cells slots Q ls hx hb hml hown hts hE hS hP hl hR hend
    have hkeep := dm_keep_run _ _ _ _ _ _ _ _ _ h
    unfold dm_run at h
    cases ha : dm_at k pc with
    | none => rw [ha] at h; cases h
    | some z =>
      obtain ⟨i, cp⟩ := z
      obtain ⟨hd, hck, hk⟩ := dm_ck_of ha
      rw [ha] at h
      dsimp only at h
      cases hr : dm_ret k i st with
      | some r1 =>
        rw [hr] at h
        cases h
        exact hend pc cp i st ls H locs ha hr hP hS hM
      | none =>
        rw [hr] at h
        dsimp only at h
        cases hc : dm_call i st with
        | some w =>
          obtain ⟨y, as, rest⟩ := w
          rw [hc] at h
          dsimp only at h
          cases d with
          | zero => cases h
          | succ d =>
            dsimp only at h
            split at h
            next hq =>
              cases h1 : dm_run n d y 0 (dm_ini y as) [] M with
              | none => rw [h1] at h; cases h
              | some w1 =>
                obtain ⟨r1, M1⟩ := w1
                rw [h1] at h
                dsimp only at h
                have hM1 : ∀ q, 62 ≤ q → M1 q = SM q := fun q hq2 => (dm_keep_run _ _ _ _ _ _ _ _ _ h1 q hq2).trans (hM q hq2)
                refine dm_call_sound hx hb hml hown hts hE hfm hS hP hl.1 hR hd hck hc hq.1 (fun hy => dm_met ih hfm hy hq.2 hM h1) (fun H1 locs1 hP1 hS1 => ?_)
                exact ih (d + 1) k (pc + 3) L (r1.toList ++ rest) M1 r M' h hL hM1 p e R s m args below meth c H1 locs1 cells slots Q ls hx hb hml hown hts hE hS1 hP1 hl hR hend
            next => cases h
        | none =>
          rw [hc] at h
          dsimp only at h
          cases hs : dm_step i pc L st M with
          | none => rw [hs] at h; cases h
          | some w =>
            obtain ⟨pc1, L1, st1, M1⟩ := w
            rw [hs] at h
            dsimp only at h
            obtain ⟨g1, g2⟩ := dm_step_keeps hs
            refine dm_step_sound hx hb hml hown hts hE hj hfm hM hL0 hL1 hS hP hl hL ⟨by omega, by omega, hR.2.2.1, hR.2.2.2⟩ hd hck hs (fun ls1 H1 locs1 hl1 hP1 hS1 => ?_)
            exact ih d k pc1 L1 st1 M1 r M' h (g1.trans hL) (fun q hq2 => (g2 q hq2).trans (hM q hq2)) p e R s m args below meth c H1 locs1 cells slots Q ls1 hx hb hml hown hts hE hS1 hP1 hl1 hR hend
