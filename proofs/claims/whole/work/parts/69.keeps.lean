/-! what a step leaves: the number of locals, the cells that nobody writes -/
section
variable {L L' : dm_LV} {st st' : List Value} {M M' : dm_M} {i : Instr} {pc pc' : Nat}
theorem dm_up_big {q k a : Nat} {v : Int32} (hq : q < 62) (h : 62 ≤ a) : dm_up M q k v a = M a := dm_up_ne (by omega)
set_option maxHeartbeats 4000000 in
theorem dm_step_keeps (hst : dm_step i pc L st M = some (pc', L', st', M')) : L'.length = L.length ∧ ∀ q, 62 ≤ q → M' q = M q := by
  cases i with
  | iconst n =>
    unfold dm_step at hst
    dsimp only at hst
    cases hst
    exact ⟨rfl, fun _ _ => rfl⟩
  | bipush n =>
    unfold dm_step at hst
    dsimp only at hst
    cases hst
    exact ⟨rfl, fun _ _ => rfl⟩
  | sipush n =>
    unfold dm_step at hst
    dsimp only at hst
    cases hst
    exact ⟨rfl, fun _ _ => rfl⟩
  | lconst n =>
    unfold dm_step at hst
    dsimp only at hst
    cases hst
    exact ⟨rfl, fun _ _ => rfl⟩
  | aconst_null =>
    unfold dm_step at hst
    dsimp only at hst
    cases hst
    exact ⟨rfl, fun _ _ => rfl⟩
  | goto t =>
    unfold dm_step at hst
    dsimp only at hst
    cases hst
    exact ⟨rfl, fun _ _ => rfl⟩
  | iload_n k =>
    unfold dm_step at hst
    dsimp only at hst
    obtain ⟨x, h1, h⟩ := dm_gi_inv hst
    cases h
    exact ⟨rfl, fun _ _ => rfl⟩
  | iload k =>
    unfold dm_step at hst
    dsimp only at hst
    obtain ⟨x, h1, h⟩ := dm_gi_inv hst
    cases h
    exact ⟨rfl, fun _ _ => rfl⟩
  | lload_n k =>
    unfold dm_step at hst
    dsimp only at hst
    obtain ⟨x, h1, h⟩ := dm_gl_inv hst
    cases h
    exact ⟨rfl, fun _ _ => rfl⟩
  | lload k =>
    unfold dm_step at hst
    dsimp only at hst
    obtain ⟨x, h1, h⟩ := dm_gl_inv hst
    cases h
    exact ⟨rfl, fun _ _ => rfl⟩
  | aload_n k =>
    unfold dm_step at hst
    dsimp only at hst
    obtain ⟨x, h1, hv, h⟩ := dm_ga_inv hst
    cases h
    exact ⟨rfl, fun _ _ => rfl⟩
  | aload k =>
    unfold dm_step at hst
    dsimp only at hst
    obtain ⟨x, h1, hv, h⟩ := dm_ga_inv hst
    cases h
    exact ⟨rfl, fun _ _ => rfl⟩
  | istore_n k =>
    unfold dm_step at hst
    dsimp only at hst
    obtain ⟨x, r, rfl, h1⟩ := dm_i1_inv hst
    obtain ⟨h2, h⟩ := dm_st_inv h1
    cases h
    exact ⟨by rw [List.length_set, dm_kl_len], fun _ _ => rfl⟩
  | istore k =>
    unfold dm_step at hst
    dsimp only at hst
    obtain ⟨x, r, rfl, h1⟩ := dm_i1_inv hst
    obtain ⟨h2, h⟩ := dm_st_inv h1
    cases h
    exact ⟨by rw [List.length_set, dm_kl_len], fun _ _ => rfl⟩
  | lstore_n k =>
    unfold dm_step at hst
    dsimp only at hst
    obtain ⟨x, r, rfl, h1⟩ := dm_l1_inv hst
    obtain ⟨h2, h⟩ := dm_stl_inv h1
    cases h
    exact ⟨by rw [List.length_set, List.length_set, dm_kl_len], fun _ _ => rfl⟩
  | lstore k =>
    unfold dm_step at hst
    dsimp only at hst
    obtain ⟨x, r, rfl, h1⟩ := dm_l1_inv hst
    obtain ⟨h2, h⟩ := dm_stl_inv h1
    cases h
    exact ⟨by rw [List.length_set, List.length_set, dm_kl_len], fun _ _ => rfl⟩
  | astore_n k =>
    unfold dm_step at hst
    dsimp only at hst
    obtain ⟨x, r, rfl, hv, h1⟩ := dm_a1_inv hst
    obtain ⟨h2, h⟩ := dm_st_inv h1
    cases h
    exact ⟨by rw [List.length_set, dm_kl_len], fun _ _ => rfl⟩
  | astore k =>
    unfold dm_step at hst
    dsimp only at hst
    obtain ⟨x, r, rfl, hv, h1⟩ := dm_a1_inv hst
    obtain ⟨h2, h⟩ := dm_st_inv h1
    cases h
    exact ⟨by rw [List.length_set, dm_kl_len], fun _ _ => rfl⟩
  | iinc k n =>
    unfold dm_step at hst
    dsimp only at hst
    obtain ⟨x, h1, h0⟩ := dm_gi_inv hst
    obtain ⟨h2, h⟩ := dm_st_inv h0
    cases h
    exact ⟨by rw [List.length_set, dm_kl_len], fun _ _ => rfl⟩
  | iadd =>
    unfold dm_step at hst
    dsimp only at hst
    obtain ⟨x, z, r, rfl, h⟩ := dm_i2_inv hst
    cases h
    exact ⟨rfl, fun _ _ => rfl⟩
  | isub =>
    unfold dm_step at hst
    dsimp only at hst
    obtain ⟨x, z, r, rfl, h⟩ := dm_i2_inv hst
    cases h
    exact ⟨rfl, fun _ _ => rfl⟩
  | imul =>
    unfold dm_step at hst
    dsimp only at hst
    obtain ⟨x, z, r, rfl, h⟩ := dm_i2_inv hst
    cases h
    exact ⟨rfl, fun _ _ => rfl⟩
  | iand =>
    unfold dm_step at hst
    dsimp only at hst
    obtain ⟨x, z, r, rfl, h⟩ := dm_i2_inv hst
    cases h
    exact ⟨rfl, fun _ _ => rfl⟩
  | ior =>
    unfold dm_step at hst
    dsimp only at hst
    obtain ⟨x, z, r, rfl, h⟩ := dm_i2_inv hst
    cases h
    exact ⟨rfl, fun _ _ => rfl⟩
  | ixor =>
    unfold dm_step at hst
    dsimp only at hst
    obtain ⟨x, z, r, rfl, h⟩ := dm_i2_inv hst
    cases h
    exact ⟨rfl, fun _ _ => rfl⟩
  | ishl =>
    unfold dm_step at hst
    dsimp only at hst
    obtain ⟨x, z, r, rfl, h⟩ := dm_i2_inv hst
    cases h
    exact ⟨rfl, fun _ _ => rfl⟩
  | ishr =>
    unfold dm_step at hst
    dsimp only at hst
    obtain ⟨x, z, r, rfl, h⟩ := dm_i2_inv hst
    cases h
    exact ⟨rfl, fun _ _ => rfl⟩
  | iushr =>
    unfold dm_step at hst
    dsimp only at hst
    obtain ⟨x, z, r, rfl, h⟩ := dm_i2_inv hst
    cases h
    exact ⟨rfl, fun _ _ => rfl⟩
  | if_icmp co t =>
    unfold dm_step at hst
    dsimp only at hst
    obtain ⟨x, z, r, rfl, h⟩ := dm_i2_inv hst
    cases h
    exact ⟨rfl, fun _ _ => rfl⟩
  | idiv =>
    unfold dm_step at hst
    dsimp only at hst
    obtain ⟨x, z, r, rfl, h⟩ := dm_i2_inv hst
    split at h
    · cases h
    · cases h
      exact ⟨rfl, fun _ _ => rfl⟩
  | irem =>
    unfold dm_step at hst
    dsimp only at hst
    obtain ⟨x, z, r, rfl, h⟩ := dm_i2_inv hst
    split at h
    · cases h
    · cases h
      exact ⟨rfl, fun _ _ => rfl⟩
  | ladd =>
    unfold dm_step at hst
    dsimp only at hst
    obtain ⟨x, z, r, rfl, h⟩ := dm_l2_inv hst
    cases h
    exact ⟨rfl, fun _ _ => rfl⟩
  | lsub =>
    unfold dm_step at hst
    dsimp only at hst
    obtain ⟨x, z, r, rfl, h⟩ := dm_l2_inv hst
    cases h
    exact ⟨rfl, fun _ _ => rfl⟩
  | lmul =>
    unfold dm_step at hst
    dsimp only at hst
    obtain ⟨x, z, r, rfl, h⟩ := dm_l2_inv hst
    cases h
    exact ⟨rfl, fun _ _ => rfl⟩
  | lcmp =>
    unfold dm_step at hst
    dsimp only at hst
    obtain ⟨x, z, r, rfl, h⟩ := dm_l2_inv hst
    cases h
    exact ⟨rfl, fun _ _ => rfl⟩
  | ldiv =>
    unfold dm_step at hst
    dsimp only at hst
    obtain ⟨x, z, r, rfl, h⟩ := dm_l2_inv hst
    split at h
    · cases h
    · cases h
      exact ⟨rfl, fun _ _ => rfl⟩
  | lrem =>
    unfold dm_step at hst
    dsimp only at hst
    obtain ⟨x, z, r, rfl, h⟩ := dm_l2_inv hst
    split at h
    · cases h
    · cases h
      exact ⟨rfl, fun _ _ => rfl⟩
  | ineg =>
    unfold dm_step at hst
    dsimp only at hst
    obtain ⟨x, r, rfl, h⟩ := dm_i1_inv hst
    cases h
    exact ⟨rfl, fun _ _ => rfl⟩
  | i2l =>
    unfold dm_step at hst
    dsimp only at hst
    obtain ⟨x, r, rfl, h⟩ := dm_i1_inv hst
    cases h
    exact ⟨rfl, fun _ _ => rfl⟩
  | i2c =>
    unfold dm_step at hst
    dsimp only at hst
    obtain ⟨x, r, rfl, h⟩ := dm_i1_inv hst
    cases h
    exact ⟨rfl, fun _ _ => rfl⟩
  | ifCond co t =>
    unfold dm_step at hst
    dsimp only at hst
    obtain ⟨x, r, rfl, h⟩ := dm_i1_inv hst
    cases h
    exact ⟨rfl, fun _ _ => rfl⟩
  | tableswitch d lo hi offs =>
    unfold dm_step at hst
    dsimp only at hst
    obtain ⟨x, r, rfl, h⟩ := dm_i1_inv hst
    cases h
    exact ⟨rfl, fun _ _ => rfl⟩
  | lookupswitch d ps =>
    unfold dm_step at hst
    dsimp only at hst
    obtain ⟨x, r, rfl, h⟩ := dm_i1_inv hst
    cases h
    exact ⟨rfl, fun _ _ => rfl⟩
  | pop =>
    unfold dm_step at hst
    dsimp only at hst
    obtain ⟨x, r, rfl, hv, h⟩ := dm_s1_inv hst
    cases h
    exact ⟨rfl, fun _ _ => rfl⟩
  | dup =>
    unfold dm_step at hst
    dsimp only at hst
    obtain ⟨x, r, rfl, hv, h⟩ := dm_s1_inv hst
    cases h
    exact ⟨rfl, fun _ _ => rfl⟩
  | dup2 =>
    unfold dm_step at hst
    dsimp only at hst
    obtain ⟨q, z, r, rfl, h⟩ := dm_ri_inv hst
    cases h
    exact ⟨rfl, fun _ _ => rfl⟩
  | ifnull t =>
    unfold dm_step at hst
    dsimp only at hst
    rcases dm_n1_inv hst with ⟨q, r, rfl, hq, h⟩ | ⟨r, rfl, h⟩ <;> cases h <;> exact ⟨rfl, fun _ _ => rfl⟩
  | ifnonnull t =>
    unfold dm_step at hst
    dsimp only at hst
    rcases dm_n1_inv hst with ⟨q, r, rfl, hq, h⟩ | ⟨r, rfl, h⟩ <;> cases h <;> exact ⟨rfl, fun _ _ => rfl⟩
  | getfield j =>
    unfold dm_step at hst
    dsimp only at hst
    split at hst
    · obtain ⟨q, r, rfl, h⟩ := dm_r1_inv hst
      split at h
      · split at h
        · cases h
          exact ⟨rfl, fun _ _ => rfl⟩
        · cases h
      · cases h
    · cases hst
  | putfield j =>
    unfold dm_step at hst
    dsimp only at hst
    split at hst
    next fk fin hjj =>
      obtain ⟨-, f2, -, f4, -⟩ := dm_F_spec hjj
      rcases dm_pf_inv hst with ⟨x, q, r, rfl, h2⟩ | ⟨r, rfl, h2⟩
      · split at h2
        next hq =>
          cases h2
          refine ⟨rfl, fun a ha => dm_up_big ?_ ha⟩
          obtain ⟨e1, e2, e3, -⟩ := hq
          dsimp only at f2 f4
          rcases Nat.lt_or_ge (dm_kd q) 6 with z | z
          · exact (dm_kd_obj z).1
          · exfalso
            have e6 : dm_kd q = 6 := by omega
            rw [← e1, e6, e3] at f4
            rcases (show q = 65 ∨ q = 66 from dm_kd_6 e6) with rfl | rfl
            · have q1 : ∀ k, (dm_fs 65)[k]? = some 0 → k = 1 := by
                intro k hk
                have : k < 2 := by have := dm_lt_of hk; have e : (dm_fs 65).length = 2 := by decide +kernel
                                   omega
                rcases (show k = 0 ∨ k = 1 by omega) with rfl | rfl
                · exact absurd hk (by decide +kernel)
                · rfl
              rw [q1 _ e2] at f4
              exact absurd f4 (by decide)
            · have q1 : ∀ k, (dm_fs 66)[k]? = some 0 → k = 1 := by
                intro k hk
                have : k < 2 := by have := dm_lt_of hk; have e : (dm_fs 66).length = 2 := by decide +kernel
                                   omega
                rcases (show k = 0 ∨ k = 1 by omega) with rfl | rfl
                · exact absurd hk (by decide +kernel)
                · rfl
              rw [q1 _ e2] at f4
              exact absurd f4 (by decide)
        next => cases h2
      · split at h2
        · cases h2
          exact ⟨rfl, fun a ha => dm_up_big (by decide) ha⟩
        · cases h2
    next => cases hst
  | getstatic j =>
    unfold dm_step at hst
    dsimp only at hst
    split at hst
    · cases hst
      exact ⟨rfl, fun _ _ => rfl⟩
    · cases hst
  | ldc j =>
    unfold dm_step at hst
    dsimp only at hst
    split at hst
    · split at hst
      · cases hst
        exact ⟨rfl, fun _ _ => rfl⟩
      · cases hst
    · cases hst
  | ldc_w j =>
    unfold dm_step at hst
    dsimp only at hst
    split at hst
    · cases hst
      exact ⟨rfl, fun _ _ => rfl⟩
    · cases hst
  | ldc2_w j =>
    unfold dm_step at hst
    dsimp only at hst
    split at hst
    · cases hst
      exact ⟨rfl, fun _ _ => rfl⟩
    · cases hst
  | iaload =>
    unfold dm_step at hst
    dsimp only at hst
    obtain ⟨q, i, r, rfl, h⟩ := dm_ri_inv hst
    split at h
    · split at h
      · cases h
      · cases h
        exact ⟨rfl, fun _ _ => rfl⟩
    · split at h
      · split at h
        · cases h
        · cases h
          exact ⟨rfl, fun _ _ => rfl⟩
      · cases h
  | baload =>
    unfold dm_step at hst
    dsimp only at hst
    obtain ⟨q, i, r, rfl, h⟩ := dm_ri_inv hst
    split at h
    · split at h
      · cases h
      · cases h
        exact ⟨rfl, fun _ _ => rfl⟩
    · cases h
  | iastore =>
    unfold dm_step at hst
    dsimp only at hst
    obtain ⟨q, i, x, r, rfl, h⟩ := dm_rii_inv hst
    split at h
    next hq =>
      split at h
      · cases h
      · cases h
        exact ⟨rfl, fun a ha => dm_up_big (dm_kd_arr (Or.inl hq)) ha⟩
    next => cases h
  | bastore =>
    unfold dm_step at hst
    dsimp only at hst
    obtain ⟨q, i, x, r, rfl, h⟩ := dm_rii_inv hst
    split at h
    next hq =>
      split at h
      · cases h
      · cases h
        exact ⟨rfl, fun a ha => dm_up_big (dm_kd_arr (Or.inr (Or.inl hq.1))) ha⟩
    next => cases h
  | aaload =>
    unfold dm_step at hst
    dsimp only at hst
    obtain ⟨q, i, r, rfl, h⟩ := dm_ri_inv hst
    split at h
    · split at h
      · cases h
      · split at h
        · cases h
          exact ⟨rfl, fun _ _ => rfl⟩
        · cases h
    · cases h
  | arraylength =>
    unfold dm_step at hst
    dsimp only at hst
    obtain ⟨q, r, rfl, h⟩ := dm_r1_inv hst
    split at h
    · cases h
      exact ⟨rfl, fun _ _ => rfl⟩
    · split at h
      · cases h
        exact ⟨rfl, fun _ _ => rfl⟩
      · cases h
  | invokestatic j =>
    unfold dm_step at hst
    dsimp only at hst
    split at hst
    · split at hst
      · obtain ⟨x, r, rfl, h⟩ := dm_i1_inv hst
        split at h
        · cases h
          exact ⟨rfl, fun _ _ => rfl⟩
        · cases h
      · split at hst
        · obtain ⟨n, q1, q0, r, rfl, h⟩ := dm_ac_inv hst
          split at h
          next hq =>
            cases h
            have hq1 := dm_kd_arr (Or.inl hq.2.1)
            refine ⟨rfl, fun a ha => ?_⟩
            funext b
            exact if_neg (fun z => absurd z.1 (Nat.ne_of_gt (Nat.lt_of_lt_of_le hq1 ha)))
          next => cases h
        · cases hst
    · cases hst
  | _ =>
    unfold dm_step at hst
    exact absurd hst (by simp)
end
