/-! rows for single instructions of the deep machine -/
section
variable {d k pc cp : Nat} {L : dm_LV} {st : List Value} {M : dm_M} {Q : Option Value → dm_M → Prop} {x y : Int32} {t : Int}
theorem dm_i_zeq (ha : dm_at k pc = some (.ifCond .eq t, cp)) : dm_wp d k pc L (.int x :: st) M Q ↔ if x = 0 then dm_wp d k t.toNat L st M Q else dm_wp d k (pc + 3) L st M Q := (dm_wp_step ha rfl rfl rfl).trans (dm_wp_if.trans (by simp only [dm_q1, decide_eq_true_eq]))
theorem dm_i_zne (ha : dm_at k pc = some (.ifCond .ne t, cp)) : dm_wp d k pc L (.int x :: st) M Q ↔ if ¬ x = 0 then dm_wp d k t.toNat L st M Q else dm_wp d k (pc + 3) L st M Q := (dm_wp_step ha rfl rfl rfl).trans (dm_wp_if.trans (by simp only [dm_q1, decide_eq_true_eq]))
theorem dm_i_zlt (ha : dm_at k pc = some (.ifCond .lt t, cp)) : dm_wp d k pc L (.int x :: st) M Q ↔ if x < 0 then dm_wp d k t.toNat L st M Q else dm_wp d k (pc + 3) L st M Q := (dm_wp_step ha rfl rfl rfl).trans (dm_wp_if.trans (by simp only [dm_q1, decide_eq_true_eq]))
theorem dm_i_zge (ha : dm_at k pc = some (.ifCond .ge t, cp)) : dm_wp d k pc L (.int x :: st) M Q ↔ if 0 ≤ x then dm_wp d k t.toNat L st M Q else dm_wp d k (pc + 3) L st M Q := (dm_wp_step ha rfl rfl rfl).trans (dm_wp_if.trans (by simp only [dm_q1, decide_eq_true_eq]))
theorem dm_i_zgt (ha : dm_at k pc = some (.ifCond .gt t, cp)) : dm_wp d k pc L (.int x :: st) M Q ↔ if 0 < x then dm_wp d k t.toNat L st M Q else dm_wp d k (pc + 3) L st M Q := (dm_wp_step ha rfl rfl rfl).trans (dm_wp_if.trans (by simp only [dm_q1, decide_eq_true_eq]))
theorem dm_i_zle (ha : dm_at k pc = some (.ifCond .le t, cp)) : dm_wp d k pc L (.int x :: st) M Q ↔ if x ≤ 0 then dm_wp d k t.toNat L st M Q else dm_wp d k (pc + 3) L st M Q := (dm_wp_step ha rfl rfl rfl).trans (dm_wp_if.trans (by simp only [dm_q1, decide_eq_true_eq]))
theorem dm_i_ceq (ha : dm_at k pc = some (.if_icmp .eq t, cp)) : dm_wp d k pc L (.int y :: .int x :: st) M Q ↔ if x = y then dm_wp d k t.toNat L st M Q else dm_wp d k (pc + 3) L st M Q := (dm_wp_step ha rfl rfl rfl).trans (dm_wp_if.trans (by simp only [dm_q2, decide_eq_true_eq]))
theorem dm_i_cne (ha : dm_at k pc = some (.if_icmp .ne t, cp)) : dm_wp d k pc L (.int y :: .int x :: st) M Q ↔ if ¬ x = y then dm_wp d k t.toNat L st M Q else dm_wp d k (pc + 3) L st M Q := (dm_wp_step ha rfl rfl rfl).trans (dm_wp_if.trans (by simp only [dm_q2, decide_eq_true_eq]))
theorem dm_i_clt (ha : dm_at k pc = some (.if_icmp .lt t, cp)) : dm_wp d k pc L (.int y :: .int x :: st) M Q ↔ if x < y then dm_wp d k t.toNat L st M Q else dm_wp d k (pc + 3) L st M Q := (dm_wp_step ha rfl rfl rfl).trans (dm_wp_if.trans (by simp only [dm_q2, decide_eq_true_eq]))
theorem dm_i_cge (ha : dm_at k pc = some (.if_icmp .ge t, cp)) : dm_wp d k pc L (.int y :: .int x :: st) M Q ↔ if y ≤ x then dm_wp d k t.toNat L st M Q else dm_wp d k (pc + 3) L st M Q := (dm_wp_step ha rfl rfl rfl).trans (dm_wp_if.trans (by simp only [dm_q2, decide_eq_true_eq]))
theorem dm_i_cgt (ha : dm_at k pc = some (.if_icmp .gt t, cp)) : dm_wp d k pc L (.int y :: .int x :: st) M Q ↔ if y < x then dm_wp d k t.toNat L st M Q else dm_wp d k (pc + 3) L st M Q := (dm_wp_step ha rfl rfl rfl).trans (dm_wp_if.trans (by simp only [dm_q2, decide_eq_true_eq]))
theorem dm_i_cle (ha : dm_at k pc = some (.if_icmp .le t, cp)) : dm_wp d k pc L (.int y :: .int x :: st) M Q ↔ if x ≤ y then dm_wp d k t.toNat L st M Q else dm_wp d k (pc + 3) L st M Q := (dm_wp_step ha rfl rfl rfl).trans (dm_wp_if.trans (by simp only [dm_q2, decide_eq_true_eq]))
end
theorem dm_n1_ref {q : Nat} {r : List Value} {f : Bool → List Value → Option dm_R} (h : ¬ q = 70) : dm_n1 (.ref q :: r) f = f false r := if_neg h
/-- what a field refers to -/
def dm_rf (q k : Nat) : Nat := (dm_fs q).getD k 0 - 1
/-- which fields of a class are ints -/
def dm_ik (ci k : Nat) : Bool := match ci with
  | 0 => [0, 4, 6, 8, 10].contains k
  | 1 => k < 4
  | 2 => 1 ≤ k && k < 5
  | 3 => k == 1
  | 4 => [2, 5].contains k
  | 5 => [0, 3, 4, 5, 6, 7, 8, 12, 13, 15, 18, 19, 20, 21].contains k
  | 6 => k == 1
  | _ => false
def dm_rk (ci k : Nat) : Bool := match ci with
  | 0 => [1, 2, 3, 5, 7, 9].contains k
  | 1 => k == 4
  | 3 => k == 0
  | 4 => [0, 1, 3, 4, 6, 7, 8].contains k
  | 5 => [1, 2, 9, 10, 11, 14, 16, 17].contains k
  | 6 => k == 0
  | _ => false
theorem dm_fi_ok {k : Nat} (q : Nat) {ci : Nat} (h : dm_kd q = ci) (hk : dm_ik ci k = true) : (dm_fs q)[k]? = some 0 := by
  have h1 : ∀ q, q < 69 → ∀ k, k < 22 → dm_ik (dm_kd q) k = true → (dm_fs q)[k]? = some 0 := by decide +kernel
  have h2 : ∀ ci k, dm_ik ci k = true → k < 22 := by
    intro ci k
    unfold dm_ik
    split <;> simp <;> omega
  subst h
  rcases Nat.lt_or_ge q 69 with z | z
  · exact h1 q z k (h2 _ k hk) hk
  · rw [dm_kd_big z] at hk
    exact absurd hk (by simp [dm_ik])
def dm_okr (q k : Nat) : Bool := match (dm_fs q)[k]? with | some c => c != 0 && c != 9999 | none => false
theorem dm_fr_ok {k : Nat} (q : Nat) {ci : Nat} (h : dm_kd q = ci) (hk : dm_rk ci k = true) : ∃ c, (dm_fs q)[k]? = some c ∧ c ≠ 0 ∧ c ≠ 9999 := by
  have h1 : ∀ q, q < 69 → ∀ k, k < 22 → dm_rk (dm_kd q) k = true → dm_okr q k = true := by decide +kernel
  have h2 : ∀ ci k, dm_rk ci k = true → k < 22 := by
    intro ci k
    unfold dm_rk
    split <;> simp <;> omega
  subst h
  rcases Nat.lt_or_ge q 69 with z | z
  · have h3 := h1 q z k (h2 _ k hk) hk
    unfold dm_okr at h3
    cases hc : (dm_fs q)[k]? with
    | none => rw [hc] at h3; exact absurd h3 (by simp)
    | some c =>
      rw [hc] at h3
      simp only [Bool.and_eq_true, bne_iff_ne, ne_eq] at h3
      exact ⟨c, rfl, h3⟩
  · rw [dm_kd_big z] at hk
    exact absurd hk (by simp [dm_rk])
theorem dm_ft_ok (q : Nat) (h : dm_kd q = 2) : (dm_fs q)[0]? = some 9999 := by
  have := dm_kd_fin (fun q d => d = 2 → (dm_fs q)[0]? = some 9999) (by decide +kernel) (fun q _ h => absurd h (by decide)) q
  exact this h
section
variable {j pc : Nat} {L : dm_LV} {M : dm_M} {r : List Value} {q : Nat} {ow ho : String} {cp ci k fk : Nat}
theorem dm_get_i {fin : Bool} (hj : dm_FL[j]? = some (ow, cp, ci, k, ho, fk, fin)) (h : dm_kd q = ci) (hc : (dm_fs q)[k]? = some 0) : dm_step (.getfield j) pc L (.ref q :: r) M = some (pc + 3, L, .int (M q k) :: r, M) := by
  unfold dm_step
  dsimp only
  rw [hj]
  dsimp only [dm_r1]
  rw [if_pos h, hc]
  rfl
theorem dm_get_c {fin : Bool} {c : Nat} (hj : dm_FL[j]? = some (ow, cp, ci, k, ho, fk, fin)) (h : dm_kd q = ci) (hc : (dm_fs q)[k]? = some c) : dm_step (.getfield j) pc L (.ref q :: r) M = some (pc + 3, L, dm_fv c (M q k) :: r, M) := by
  unfold dm_step
  dsimp only
  rw [hj]
  dsimp only [dm_r1]
  rw [if_pos h, hc]
theorem dm_get_r {fin : Bool} (hj : dm_FL[j]? = some (ow, cp, ci, k, ho, fk, fin)) (h : dm_kd q = ci) (hc : ∃ c, (dm_fs q)[k]? = some c ∧ c ≠ 0 ∧ c ≠ 9999) : dm_step (.getfield j) pc L (.ref q :: r) M = some (pc + 3, L, .ref (dm_rf q k) :: r, M) := by
  obtain ⟨c, h1, h2, h3⟩ := hc
  rw [dm_get_c hj h h1]
  have e : dm_fv c (M q k) = .ref (dm_rf q k) := by
    unfold dm_fv dm_rf
    rw [if_neg h2, if_neg h3, List.getD_eq_getElem?_getD, h1]
    rfl
  rw [e]
theorem dm_put_i {x : Int32} (hj : dm_FL[j]? = some (ow, cp, ci, k, ho, fk, false)) (h : dm_kd q = ci) (hc : (dm_fs q)[k]? = some 0) (hz : fk = 0 ∨ fk = 1 ∧ (x = 0 ∨ x = 1)) : dm_step (.putfield j) pc L (.int x :: .ref q :: r) M = some (pc + 3, L, r, dm_up M q k x) := by
  unfold dm_step
  dsimp only
  rw [hj]
  dsimp only [dm_pf]
  rw [if_pos ⟨h, hc, rfl, hz⟩]
variable {i x : Int32}
theorem dm_ld_iaload (h : dm_kd q = 100) (h2 : ¬ (i < 0 ∨ dm_ln q ≤ i.toNatClampNeg)) : dm_step .iaload pc L (.int i :: .ref q :: r) M = some (pc + 1, L, .int (M q i.toNatClampNeg) :: r, M) := by
  unfold dm_step
  dsimp only [dm_ri]
  rw [if_pos (Or.inl h), if_neg h2]
theorem dm_ld_t (h : dm_kd q = 103) (h2 : ¬ (i < 0 ∨ dm_ln q ≤ i.toNatClampNeg)) : dm_step .iaload pc L (.int i :: .ref q :: r) M = some (pc + 1, L, .int (M q i.toNatClampNeg) :: r, M) := by
  unfold dm_step
  dsimp only [dm_ri]
  rw [if_pos (Or.inr h), if_neg h2]
theorem dm_ld_s (h2 : ¬ (i < 0 ∨ (M 69 0).toNatClampNeg ≤ i.toNatClampNeg)) : dm_step .iaload pc L (.int i :: .ref 64 :: r) M = some (pc + 1, L, .int (M 64 i.toNatClampNeg) :: r, M) := by
  unfold dm_step
  dsimp only [dm_ri]
  rw [if_neg (by decide +kernel), if_pos (by decide +kernel), if_neg h2]
theorem dm_ld_baload (h : dm_kd q = 101) (h2 : ¬ (i < 0 ∨ dm_ln q ≤ i.toNatClampNeg)) : dm_step .baload pc L (.int i :: .ref q :: r) M = some (pc + 1, L, .int (M q i.toNatClampNeg) :: r, M) := by
  unfold dm_step
  dsimp only [dm_ri]
  rw [if_pos (Or.inl h), if_neg h2]
theorem dm_ld_b7 (h : dm_kd q = 107) (h2 : ¬ (i < 0 ∨ dm_ln q ≤ i.toNatClampNeg)) : dm_step .baload pc L (.int i :: .ref q :: r) M = some (pc + 1, L, .int (M q i.toNatClampNeg) :: r, M) := by
  unfold dm_step
  dsimp only [dm_ri]
  rw [if_pos (Or.inr h), if_neg h2]
theorem dm_st_iastore (h : dm_kd q = 100) (h2 : ¬ (i < 0 ∨ dm_ln q ≤ i.toNatClampNeg)) : dm_step .iastore pc L (.int x :: .int i :: .ref q :: r) M = some (pc + 1, L, r, dm_up M q i.toNatClampNeg x) := by
  unfold dm_step
  dsimp only [dm_rii]
  rw [if_pos h, if_neg h2]
theorem dm_st_bastore (h : dm_kd q = 101) (h2 : ¬ (i < 0 ∨ dm_ln q ≤ i.toNatClampNeg)) (h3 : x = 0 ∨ x = 1) : dm_step .bastore pc L (.int x :: .int i :: .ref q :: r) M = some (pc + 1, L, r, dm_up M q i.toNatClampNeg x) := by
  unfold dm_step
  dsimp only [dm_rii]
  rw [if_pos ⟨h, h3⟩, if_neg h2]
theorem dm_ld_a {c : Nat} (h : dm_kd q = 102) (h2 : ¬ i < 0) (h3 : (dm_fs q)[i.toNatClampNeg]? = some c) : dm_step .aaload pc L (.int i :: .ref q :: r) M = some (pc + 1, L, .ref c :: r, M) := by
  unfold dm_step
  dsimp only [dm_ri]
  rw [if_pos h, if_neg h2, h3]
theorem dm_al_ok (h : dm_kd q = 100 ∨ dm_kd q = 107) : dm_step .arraylength pc L (.ref q :: r) M = some (pc + 1, L, .int (Int32.ofNat (dm_ln q)) :: r, M) := by
  unfold dm_step
  dsimp only [dm_r1]
  rw [if_pos h]
theorem dm_al_s : dm_step .arraylength pc L (.ref 64 :: r) M = some (pc + 1, L, .int (M 69 0) :: r, M) := by
  unfold dm_step
  dsimp only [dm_r1]
  rw [if_neg (by decide +kernel), if_pos (by decide +kernel)]
end
theorem dm_call_s {j y na : Nat} {x : String × Nat × Nat × String} {st as rest : List Value} (hj : dm_ML[j]? = some x) (hy : x.2.2.1 = y) (hna : dm_na y = na) (hs : dm_sta y = true) (h9 : y < 900) (hl : na ≤ st.length) (ht : (st.take na).reverse = as) (hd : st.drop na = rest) : dm_call (.invokestatic j) st = some (y, as, rest) := by
  obtain ⟨a, b, c, e⟩ := x
  unfold dm_call
  dsimp only at hy ⊢
  rw [hj]
  dsimp only
  subst hy; subst hna; subst ht; subst hd
  rw [if_pos ⟨h9, hs, hl⟩]
theorem dm_call_v {j y na cl q : Nat} {x : String × Nat × Nat × String} {st as' rest : List Value} (hj : dm_ML[j]? = some x) (hy : x.2.2.1 = y) (hna : dm_na y = na) (hs : dm_sta y = false) (h9 : y < 900) (hl : na ≤ st.length) (hcl : dm_cl y = cl) (ht : (st.take na).reverse = .ref q :: as') (hd : st.drop na = rest) (hk : dm_kd q = cl) : dm_call (.invokevirtual j) st = some (y, .ref q :: as', rest) := by
  obtain ⟨a, b, c, e⟩ := x
  unfold dm_call
  dsimp only at hy ⊢
  rw [hj]
  dsimp only
  subst hy; subst hna; subst hcl; subst hd
  rw [if_pos ⟨h9, hs, hl⟩, ht]
  dsimp only
  rw [if_pos hk]
section
variable {k : Nat} {x : Int32}
theorem dm_ret_i (h : dm_rt k = some .int) : dm_ret k .ireturn [.int x] = some (some (.int x)) := by unfold dm_ret; dsimp only; rw [h]
theorem dm_ret_z (h : dm_rt k = some .boolean) (hx : x = 0 ∨ x = 1) : dm_ret k .ireturn [.int x] = some (some (.int x)) := by unfold dm_ret; dsimp only; rw [h]; exact if_pos hx
theorem dm_ret_ch (h : dm_rt k = some .char) (hx : narrow .char (.int x) = .int x) : dm_ret k .ireturn [.int x] = some (some (.int x)) := by unfold dm_ret; dsimp only; rw [h]; exact if_pos hx
theorem dm_ret_by (h : dm_rt k = some .byte) (hx : narrow .byte (.int x) = .int x) : dm_ret k .ireturn [.int x] = some (some (.int x)) := by unfold dm_ret; dsimp only; rw [h]; exact if_pos hx
theorem dm_ret_l {x : Int64} (h : dm_rt k = some .long) : dm_ret k .lreturn [.long x] = some (some (.long x)) := by unfold dm_ret; dsimp only; rw [if_pos h]
theorem dm_ret_a {q : Nat} {C : String} (h : dm_rt k = some (.object C)) : dm_ret k .areturn [.ref q] = some (some (.ref q)) := by unfold dm_ret; dsimp only; rw [h]
theorem dm_ret_an {C : String} (h : dm_rt k = some (.object C)) : dm_ret k .areturn [.null] = some (some .null) := by unfold dm_ret; dsimp only; rw [h]
theorem dm_ret_v (h : dm_rt k = none) : dm_ret k .return_ [] = some none := by unfold dm_ret; dsimp only; rw [if_pos h]
end
theorem dm_entry {d k n : Nat} {as : List Value} {L : dm_LV} {M : dm_M} {Q : Option Value → dm_M → Prop} (hml : dm_ml k = n) (hL : dm_args as ++ List.replicate (n - (dm_args as).length) none = L) (hn : (dm_args as).length ≤ n) : dm_cp d k as M Q ↔ dm_wp d k 0 L [] M Q := by
  subst hml
  unfold dm_cp dm_ini
  rw [hL]
  exact ⟨fun h => h.2, fun h => ⟨hn, h⟩⟩
