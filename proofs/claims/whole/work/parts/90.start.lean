theorem lw_gin {w : Jvm.Cond} (i : Nat) (h : tables_1[i]? = some w) (hg : goodWord w = true) : w ∈ dm_GW := dm_T_in h hg
theorem dlw_0 : decode code 0 = .ok (.new 7, 3) := by decide +kernel
theorem dlw_3 : decode code 3 = .ok (.dup, 1) := by decide +kernel
theorem dlw_4 : decode code 4 = .ok (.invokespecial 9, 3) := by decide +kernel
theorem dlw_7 : decode code 7 = .ok (.astore_n 1, 1) := by decide +kernel
theorem dlw_8 : decode code 8 = .ok (.new 10, 3) := by decide +kernel
theorem dlw_11 : decode code 11 = .ok (.dup, 1) := by decide +kernel
theorem dlw_12 : decode code 12 = .ok (.invokespecial 12, 3) := by decide +kernel
theorem dlw_15 : decode code 15 = .ok (.astore_n 2, 1) := by decide +kernel
theorem dlw_16 : decode code 16 = .ok (.iconst 0, 1) := by decide +kernel
theorem dlw_17 : decode code 17 = .ok (.istore_n 3, 1) := by decide +kernel
/-- at the law's return -/
theorem lw_fin {pc cp : Nat} {i : Instr} {st : List Value} (ha : dm_at 179 pc = some (i, cp)) (hr : dm_ret 179 i st = some (some (.int (nI 1)))) : decode code pc = .ok (.ireturn, 1) ∧ st = [.int 1] := by
  have hd := (dm_ck_of ha).1
  unfold dm_ret at hr
  split at hr
  · split at hr <;> exact absurd hr (by simp)
  · rw [show dm_rt 179 = some .boolean from rfl] at hr
    dsimp only at hr
    split at hr
    · have h1 := Option.some.inj (Option.some.inj hr)
      exact ⟨hd, by rw [h1]; rfl⟩
    · exact absurd hr (by simp)
  all_goals first | (exact absurd hr (by simp)) | (split at hr <;> exact absurd hr (by simp))
set_option maxHeartbeats 4000000 in
set_option maxRecDepth 100000 in
/-- YOUR PART: from the entry, for every script of at most 2048 ints, the law comes to its end with true -/
theorem whole_start {p : Program} {e : Env} {s : State} {m : MethodId} {below : List Frame} {meth : Method} {c : Code} (l : Launch) (hflags : l.flags = flags0) {b L : Nat} {xs : Nat → Int32} (hL : L ≤ 2048) (C0 : lw_At p s m meth c b L xs) : W p l e room_1 s m #[Value.ref b] below meth c s.heap [] 0 0 (lw_Z below #[Value.ref b] s) (entryFrame m ([Value.ref b] : List Value).toArray 4) := by
  obtain ⟨hx, hb, hr, hml, hown, hts, hX, hbl, hlocks, hgv⟩ := id C0
  have htsG : ∀ w ∈ dm_GW, w.before #[Value.ref b] s = true := fun w hw => hts w (List.mem_filter.mp hw).1
  obtain ⟨dC, dI, cI, cZ, cO, hE⟩ := lw_env hts
  obtain ⟨fm, t62, t63, adK, adV, hfm, z1, z2, z3, z4, T1, T2, hV, r1, r2⟩ := lw_stat hts hgv
  have hA : ∀ q : Nat, s.heap.size ≤ q → (fun q : Nat => s.heap.size ≤ q) q := fun _ h => h
  have hK := hE.1
  have hS : va_S (fun q : Nat => s.heap.size ≤ q) s.heap s.heap [] := va_S.rf
  have hP : va_P (dC, dI) vwCl [] s.heap := fun k q h => by simp at h
  have hD : va_D (fun q : Nat => s.heap.size ≤ q) [] := ⟨fun i j p q h => by simp at h, fun k q h => by simp at h⟩
  have hl := lv_entry ([.ref b]) (n := 4) (Nat.le_of_ble_eq_true rfl)
  rw [lg_entry_eq]
  generalize (lg_sl ([.ref b]) ++ List.replicate (4 - (lg_sl ([.ref b])).length) Slot.unset).toArray = ls at hl ⊢
  have hl : lv_has ls 4 [(0, .ref b)] := hl
  refine va_new (ci := 4) (fs := [.null, .null, .int 0, .null, .null, .int 0, .null, .null, .null]) (C := RX4) (T := TX4) (N := 9) hx hb htsG (dm_lay_in 4 (by decide)) tyX4 tyX4_ok hown (hts (.classLink R_law 7 RX4) (lw_in 14 (by decide +kernel))) (hts (.instantiable RX4 9) (lw_in 15 (by decide +kernel))) (hts (.initialized RX4) (lw_in 1 (by decide +kernel))) hK hP hD hS hA rfl (fun j hj => df_X4 j hj) (Nat.le_of_ble_eq_true rfl) (Nat.le_of_ble_eq_true rfl) dlw_0 (fun q1 H hP hD hS => ?_)
  refine W.widen (k := 1) (n := 9) (Nat.le_of_ble_eq_true rfl) (Nat.le_of_ble_eq_true rfl) ?_
  refine lv_dup hx hb dlw_3 rfl ?_
  refine ct_call (l := l) (nL := 4) (maxL := 1) (own := R_law) (y := ⟨"AnyNail", "<init>", "()V"⟩) (bytes := prog_1_method_1_code) (As := []) (rest := [.ref q1]) (n := 0) ⟨hx, hb, hml, hown, htsG⟩ hE (ct_AnyNail q1) (lw_gin 18 (by rfl) rfl) (lw_gin 1 (by decide +kernel) rfl) (lw_gin 16 (by decide +kernel) rfl) (lw_gin 17 (by decide +kernel) rfl) rfl (by decide +kernel) ⟨Nat.le_of_ble_eq_true rfl, Nat.le_of_ble_eq_true rfl⟩ rfl rfl rfl hl.1 (Nat.le_of_ble_eq_true rfl) hP hD hS hA dlw_4 ⟨Nat.le_of_ble_eq_true rfl, Nat.le_of_ble_eq_true rfl⟩ (fun u1 H locs hP hD hS => ?_)
  refine W.widen (k := 53) (n := 1021) (Nat.le_of_ble_eq_true rfl) (Nat.le_of_ble_eq_true rfl) ?_
  refine lv_astore_n (lv' := [(1, .ref q1), (0, .ref b)]) hx hb dlw_7 rfl hl (by decide) rfl (fun ls hl => ?_)
  refine va_new (ci := 5) (fs := [.int 0, .null, .null, .int 0, .int 0, .int 0, .int 0, .int 0, .int 0, .null, .null, .null, .int 0, .int 0, .null, .int 0, .null, .null, .int 0, .int 0, .int 0, .int 0]) (C := RX5) (T := TX5) (N := 22) hx hb htsG (dm_lay_in 5 (by decide)) tyX5 tyX5_ok hown (hts (.classLink R_law 10 RX5) (lw_in 569 (by decide +kernel))) (hts (.instantiable RX5 22) (lw_in 570 (by decide +kernel))) (hts (.initialized RX5) (lw_in 6 (by decide +kernel))) hK hP hD hS hA rfl (fun j hj => df_X5 j hj) (Nat.le_of_ble_eq_true rfl) (Nat.le_of_ble_eq_true rfl) dlw_8 (fun q2 H hP hD hS => ?_)
  refine W.widen (k := 54) (n := 1043) (Nat.le_of_ble_eq_true rfl) (Nat.le_of_ble_eq_true rfl) ?_
  refine lv_dup hx hb dlw_11 rfl ?_
  refine ct_call (l := l) (nL := 4) (maxL := 2) (own := R_law) (y := ⟨"AnyNailModel", "<init>", "()V"⟩) (bytes := prog_7_method_1_code) (As := []) (rest := [.ref q2]) (n := 0) ⟨hx, hb, hml, hown, htsG⟩ hE (ct_Model q2) (lw_gin 573 (by rfl) rfl) (lw_gin 6 (by decide +kernel) rfl) (lw_gin 571 (by decide +kernel) rfl) (lw_gin 572 (by decide +kernel) rfl) rfl (by decide +kernel) ⟨Nat.le_of_ble_eq_true rfl, Nat.le_of_ble_eq_true rfl⟩ rfl rfl rfl hl.1 (Nat.le_of_ble_eq_true rfl) hP hD hS hA dlw_12 ⟨Nat.le_of_ble_eq_true rfl, Nat.le_of_ble_eq_true rfl⟩ (fun u2 H locs hP hD hS => ?_)
  refine W.widen (k := 62) (n := 3488) (Nat.le_of_ble_eq_true rfl) (Nat.le_of_ble_eq_true rfl) ?_
  refine lv_astore_n (lv' := [(2, .ref q2), (1, .ref q1), (0, .ref b)]) hx hb dlw_15 rfl hl (by decide) rfl (fun ls hl => ?_)
  refine lv_iconst (v := 0) hx hb dlw_16 (by decide) ?_
  refine lv_istore_n (lv' := [(3, .int 0), (2, .ref q2), (1, .ref q1), (0, .ref b)]) hx hb dlw_17 rfl hl (by decide) rfl (fun ls hl => ?_)
  refine va_forget hS.2.2 ?_
  -- the deep machine takes over
  have hW := ws1 (fm := fm) (cI := cI) (cZ := cZ) (cO := cO) (L := L) (xs := xs) (b1 := q1) (u := u1) (b2 := q2) (v := u2) (t62 := t62) (t63 := t63) (b64 := b) (b65 := adK 0) (b66 := adK 1) (b67 := adV 0) (b68 := adV 1)
  rw [← hW] at hP hD
  have a0 : ad0 q1 u1 q2 u2 t62 t63 b (adK 0) (adK 1) (adV 0) (adV 1) 0 = q1 := rfl
  have a53 : ad0 q1 u1 q2 u2 t62 t63 b (adK 0) (adK 1) (adV 0) (adV 1) 53 = q2 := rfl
  have a62 : ad0 q1 u1 q2 u2 t62 t63 b (adK 0) (adK 1) (adV 0) (adV 1) 62 = t62 := rfl
  have a63 : ad0 q1 u1 q2 u2 t62 t63 b (adK 0) (adK 1) (adV 0) (adV 1) 63 = t63 := rfl
  have a64 : ad0 q1 u1 q2 u2 t62 t63 b (adK 0) (adK 1) (adV 0) (adV 1) 64 = b := rfl
  have a65 : ad0 q1 u1 q2 u2 t62 t63 b (adK 0) (adK 1) (adV 0) (adV 1) 65 = adK 0 := rfl
  have a66 : ad0 q1 u1 q2 u2 t62 t63 b (adK 0) (adK 1) (adV 0) (adV 1) 66 = adK 1 := rfl
  have a67 : ad0 q1 u1 q2 u2 t62 t63 b (adK 0) (adK 1) (adV 0) (adV 1) 67 = adV 0 := rfl
  have a68 : ad0 q1 u1 q2 u2 t62 t63 b (adK 0) (adK 1) (adV 0) (adV 1) 68 = adV 1 := rfl
  generalize ad0 q1 u1 q2 u2 t62 t63 b (adK 0) (adK 1) (adV 0) (adV 1) = ad at *
  clear hW
  have hfr : ∀ k, k < 62 → s.heap.size ≤ ad k := fun k hk => hD.2 k _ (dm_ws_at hk)
  have hj : dm_J ad := fun i j hi hj e => hD.1 i j _ _ (dm_ws_at hi) (dm_ws_at hj) e
  have hAn : ∀ q, dm_A ad q → s.heap.size ≤ q := fun q h => by
    obtain ⟨k, hk, rfl⟩ := h
    exact hfr k hk
  have hS2 : va_S (dm_A ad) s.heap H [] := ⟨hS.1, fun q h1 h2 => hS.2.1 q h1 (Nat.not_le.mpr h1), fun l h => absurd h (by simp)⟩
  have hEE : dm_E ad fm dC dI cI cZ cO L (SM0 L xs) s := by
    refine ⟨hK, hE.2.1, fun x hx => ?_, fun q hq => ?_, ⟨?_, ?_, ?_⟩, fun q hq => ?_, ?_, ?_⟩
    · have h4 : dm_SL = [("AnyNail", 300, "AnyNail", "BODIES", "[I", .ref 63), ("AnyNail", 297, "AnyNail", "ABOVE", "[I", .ref 62), ("java/lang/String", 38, "java/lang/String", "COMPACT_STRINGS", "Z", .int 1), ("java/lang/String", 1053, "jdk/internal/util/Preconditions", "SIOOBE_FORMATTER", "Ljava/util/function/BiFunction;", .ref 70)] := rfl
      rw [h4] at hx
      rcases List.mem_cons.mp hx with rfl | hx
      · exact (a63 ▸ z1 : va_Z "AnyNail" "BODIES" "[I" (.ref (ad 63)) _ s s.heap).narrow hAn
      · rcases List.mem_cons.mp hx with rfl | hx
        · exact (a62 ▸ z2 : va_Z "AnyNail" "ABOVE" "[I" (.ref (ad 62)) _ s s.heap).narrow hAn
        · rcases List.mem_cons.mp hx with rfl | hx
          · exact z3.narrow hAn
          · rcases List.mem_cons.mp hx with rfl | hx
            · exact z4.narrow hAn
            · exact absurd hx (by simp)
    · rcases hq with rfl | rfl
      · rw [ln62, a62]
        exact T1.narrow hAn
      · rw [ln63, a63]
        exact T2.narrow hAn
    · rw [a64]
      exact hX
    · rw [a64]
      exact hbl
    · rw [a64]
      exact fun h => absurd (hAn _ h) (Nat.not_le.mpr hbl)
    · rcases hq with rfl | rfl
      · obtain ⟨v1, v2, v3, v4⟩ := (hV.narrow hAn).1 0 (by decide)
        exact ⟨by rw [a65]; exact v1, by rw [a65]; exact v2, by rw [a65, a67]; exact v3, by rw [a67, ln67]; exact v4⟩
      · obtain ⟨v1, v2, v3, v4⟩ := (hV.narrow hAn).1 1 (by decide)
        exact ⟨by rw [a66]; exact v1, by rw [a66]; exact v2, by rw [a66, a68]; exact v3, by rw [a68, ln68]; exact v4⟩
    · rw [a65]
      exact r1
    · rw [a66]
      exact r2
  have hrun : dm_wp (0 + 24) 179 18 [some (.ref 64), some (.ref 0), some (.ref 53), some (.int (nI 0))] [] (SM0 L xs) (fun r _ => r = some (.int (nI 1))) :=
    lw_loop (d := 0) (N := L) (by omega) (fun _ _ _ _ => rfl) L 0 (SM0 L xs) sg0 (by omega) (Nat.zero_le _) lw_rc0 lw_rm0 lw_tab0 rfl
  obtain ⟨n, r, M', hr1, hr2⟩ := hrun
  subst hr2
  have hlr : dm_lr ad fm ls (dm_ml 179) [some (.ref 64), some (.ref 0), some (.ref 53), some (.int (nI 0))] := by
    refine ⟨hl.1, hl.2.1, fun i v hv => ?_⟩
    match i, hv with
    | 0, hv =>
      cases hv
      have := lv_at hl 3 rfl
      rw [← a64] at this
      exact this
    | 1, hv =>
      cases hv
      have := lv_at hl 2 rfl
      rw [← a0] at this
      exact this
    | 2, hv =>
      cases hv
      have := lv_at hl 1 rfl
      rw [← a53] at this
      exact this
    | 3, hv =>
      cases hv
      exact lv_at hl 0 rfl
    | k + 4, hv => simp at hv
  refine dm_sound hj hfm rfl (by omega) n (0 + 24) 179 18 _ [] (SM0 L xs) _ M' hr1 rfl (fun _ _ => rfl) p e room_1 s m _ below meth c H [] 62 3488 _ ls hx hb hml hown htsG hEE hS2 hP hlr ⟨Nat.le_of_ble_eq_true rfl, Nat.le_of_ble_eq_true rfl, Nat.le_of_ble_eq_true rfl, Nat.le_of_ble_eq_true rfl⟩ ?_
  intro pc' cp i st' ls' H' locs' ha hret hP' hS' _
  obtain ⟨f1, f2⟩ := lw_fin ha hret
  subst f2
  refine va_forget (fun q hq => hAn _ (hS'.2.2 q hq)) ?_
  refine W.widen (k := 600000) (n := 7302250) (Nat.le_of_ble_eq_true rfl) (Nat.le_of_ble_eq_true rfl) ?_
  exact lw_ret hx hb hr hlocks f1
