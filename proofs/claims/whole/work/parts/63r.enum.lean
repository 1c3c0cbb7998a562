/-! rows one behind the other: pure -/
def fsO (f : Nat → Option (List Nat)) : Nat → Nat → Option (List Nat)
  | 0, _ => none
  | r + 1, t => match f t with
    | some x => some x
    | none => fsO f r (t + 1)
theorem fsO_s {f : Nat → Option (List Nat)} {r t : Nat} : fsO f (r + 1) t = match f t with
    | some x => some x
    | none => fsO f r (t + 1) := rfl
theorem fsO_cong {f g : Nat → Option (List Nat)} : ∀ {r t : Nat}, (∀ i, t ≤ i → i < t + r → f i = g i) → fsO f r t = fsO g r t
  | 0, _, _ => rfl
  | r + 1, t, h => by
    rw [fsO_s, fsO_s, h t (Nat.le_refl _) (by omega), fsO_cong (fun i h1 h2 => h i (by omega) (by omega))]
theorem fsO_none {f : Nat → Option (List Nat)} : ∀ {r t : Nat}, fsO f r t = none ↔ ∀ i, t ≤ i → i < t + r → f i = none
  | 0, t => ⟨fun _ i h1 h2 => absurd h2 (by omega), fun _ => rfl⟩
  | r + 1, t => by
    rw [fsO_s]
    cases h : f t with
    | some x => exact ⟨fun z => absurd z (by simp), fun z => absurd (z t (Nat.le_refl _) (by omega)) (by rw [h]; simp)⟩
    | none =>
      rw [fsO_none]
      constructor
      · intro z i h1 h2
        by_cases e : i = t
        · rw [e]; exact h
        · exact z i (by omega) (by omega)
      · intro z i h1 h2
        exact z i (by omega) (by omega)
theorem fsO_some {f : Nat → Option (List Nat)} {x : List Nat} : ∀ {r t : Nat}, fsO f r t = some x → ∃ i, t ≤ i ∧ i < t + r ∧ f i = some x
  | 0, _, h => absurd h (by simp [fsO])
  | r + 1, t, h => by
    rw [fsO_s] at h
    cases hf : f t with
    | some y =>
      rw [hf] at h
      exact ⟨t, Nat.le_refl _, by omega, by rw [hf]; exact h⟩
    | none =>
      rw [hf] at h
      obtain ⟨i, h1, h2, h3⟩ := fsO_some h
      exact ⟨i, by omega, by omega, h3⟩
/-- the first row of so many turns behind another of which p is so -/
def fr (p : List Nat → Bool) (B : Nat) : Nat → List Nat → Option (List Nat)
  | 0, pre => if p pre = true then some pre else none
  | m + 1, pre => fsO (fun t => fr p B m (pre ++ [t])) B 0
theorem fr_s {p : List Nat → Bool} {B m : Nat} {pre : List Nat} : fr p B (m + 1) pre = fsO (fun t => fr p B m (pre ++ [t])) B 0 := rfl
theorem fr_none {p : List Nat → Bool} {B : Nat} : ∀ {m : Nat} {pre : List Nat}, fr p B m pre = none ↔ ∀ ext : List Nat, ext.length = m → (∀ t ∈ ext, t < B) → p (pre ++ ext) = false
  | 0, pre => by
    constructor
    · intro h ext h1 _
      rw [List.length_eq_zero_iff.mp h1, List.append_nil]
      cases hp : p pre with
      | false => rfl
      | true => exact absurd h (by show ¬ (if p pre = true then some pre else none) = none; rw [if_pos hp]; simp)
    · intro h
      have := h [] rfl (fun t ht => absurd ht List.not_mem_nil)
      rw [List.append_nil] at this
      show (if p pre = true then some pre else none) = none
      rw [if_neg (by rw [this]; decide)]
  | m + 1, pre => by
    rw [fr_s, fsO_none]
    constructor
    · intro h ext h1 h2
      cases ext with
      | nil => exact absurd h1 (by simp)
      | cons t ext =>
        have h3 := h t (Nat.zero_le _) (by have := h2 t List.mem_cons_self; omega)
        have h4 := fr_none.mp h3 ext (by rw [List.length_cons] at h1; omega) (fun u hu => h2 u (List.mem_cons_of_mem _ hu))
        rw [List.append_assoc] at h4
        exact h4
    · intro h t _ ht
      refine fr_none.mpr (fun ext h1 h2 => ?_)
      rw [List.append_assoc]
      refine h (t :: ext) (by rw [List.length_cons, h1]) (fun u hu => ?_)
      rcases List.mem_cons.mp hu with z | z
      · omega
      · exact h2 u z
theorem fr_some {p : List Nat → Bool} {B : Nat} {x : List Nat} : ∀ {m : Nat} {pre : List Nat}, fr p B m pre = some x → x.length = pre.length + m ∧ ((∀ t ∈ pre, t < B) → ∀ t ∈ x, t < B)
  | 0, pre, h => by
    have h : (if p pre = true then some pre else none) = some x := h
    split at h
    · have := Option.some.inj h
      subst this
      exact ⟨rfl, fun z => z⟩
    · exact absurd h (by simp)
  | m + 1, pre, h => by
    rw [fr_s] at h
    obtain ⟨t, h1, h2, h3⟩ := fsO_some h
    obtain ⟨h4, h5⟩ := fr_some h3
    rw [lapp] at h4
    refine ⟨by omega, fun z => h5 (fun u hu => ?_)⟩
    rcases List.mem_append.mp hu with q | q
    · exact z u q
    · rw [List.mem_singleton.mp q]; omega
theorem fr_cong {p q : List Nat → Bool} {B : Nat} : ∀ {m : Nat} {pre : List Nat}, (∀ ext : List Nat, ext.length = m → (∀ t ∈ ext, t < B) → p (pre ++ ext) = q (pre ++ ext)) → fr p B m pre = fr q B m pre
  | 0, pre, h => by
    have := h [] rfl (fun t ht => absurd ht List.not_mem_nil)
    rw [List.append_nil] at this
    show (if p pre = true then some pre else none) = if q pre = true then some pre else none
    rw [this]
  | m + 1, pre, h => by
    rw [fr_s, fr_s]
    refine fsO_cong (fun t _ ht => fr_cong (fun ext h1 h2 => ?_))
    rw [List.append_assoc]
    refine h (t :: ext) (by rw [List.length_cons, h1]) (fun u hu => ?_)
    rcases List.mem_cons.mp hu with z | z
    · omega
    · exact h2 u z
/-- the first from a row on -/
def ff (p : List Nat → Bool) (B : Nat) : List Nat → List Nat → Option (List Nat)
  | [], pre => if p pre = true then some pre else none
  | dg :: ds, pre => match ff p B ds (pre ++ [dg]) with
    | some x => some x
    | none => fsO (fun t => fr p B ds.length (pre ++ [t])) (B - (dg + 1)) (dg + 1)
theorem ff_s {p : List Nat → Bool} {B dg : Nat} {ds pre : List Nat} : ff p B (dg :: ds) pre = match ff p B ds (pre ++ [dg]) with
    | some x => some x
    | none => fsO (fun t => fr p B ds.length (pre ++ [t])) (B - (dg + 1)) (dg + 1) := rfl
theorem fr_ff {p : List Nat → Bool} {B : Nat} (hB : 0 < B) : ∀ {m : Nat} {pre : List Nat}, fr p B m pre = ff p B (List.replicate m 0) pre
  | 0, _ => rfl
  | m + 1, pre => by
    rw [fr_s, List.replicate_succ, ff_s, ← fr_ff hB]
    obtain ⟨b, rfl⟩ : ∃ b, B = b + 1 := ⟨B - 1, by omega⟩
    rw [fsO_s, List.length_replicate]
    rfl
def nxt (B : Nat) : List Nat → Option (List Nat)
  | [] => none
  | dg :: ds => match nxt B ds with
    | some ds' => some (dg :: ds')
    | none => if dg + 1 < B then some ((dg + 1) :: List.replicate ds.length 0) else none
theorem nxt_s {B dg : Nat} {ds : List Nat} : nxt B (dg :: ds) = match nxt B ds with
    | some ds' => some (dg :: ds')
    | none => if dg + 1 < B then some ((dg + 1) :: List.replicate ds.length 0) else none := rfl
theorem nxt_len {B : Nat} : ∀ {r r' : List Nat}, nxt B r = some r' → r'.length = r.length
  | [], _, h => absurd h (by simp [nxt])
  | dg :: ds, r', h => by
    rw [nxt_s] at h
    cases hn : nxt B ds with
    | some ds' =>
      rw [hn] at h
      have := Option.some.inj h
      subst this
      rw [List.length_cons, List.length_cons, nxt_len hn]
    | none =>
      rw [hn] at h
      dsimp only at h
      split at h
      · have := Option.some.inj h
        subst this
        rw [List.length_cons, List.length_cons, List.length_replicate]
      · exact absurd h (by simp)
theorem nxt_lt {B : Nat} (hB : 0 < B) : ∀ {r r' : List Nat}, (∀ t ∈ r, t < B) → nxt B r = some r' → ∀ t ∈ r', t < B
  | [], _, _, h => absurd h (by simp [nxt])
  | dg :: ds, r', h8, h => by
    rw [nxt_s] at h
    cases hn : nxt B ds with
    | some ds' =>
      rw [hn] at h
      have := Option.some.inj h
      subst this
      intro t ht
      rcases List.mem_cons.mp ht with z | z
      · rw [z]; exact h8 dg List.mem_cons_self
      · exact nxt_lt hB (fun u hu => h8 u (List.mem_cons_of_mem _ hu)) hn t z
    | none =>
      rw [hn] at h
      dsimp only at h
      split at h
      · have := Option.some.inj h
        subst this
        intro t ht
        rcases List.mem_cons.mp ht with z | z
        · omega
        · rw [List.eq_of_mem_replicate z]; exact hB
      · exact absurd h (by simp)
theorem ff_hit {p : List Nat → Bool} {B : Nat} : ∀ {r pre : List Nat}, p (pre ++ r) = true → ff p B r pre = some (pre ++ r)
  | [], pre, h => by
    rw [List.append_nil] at h ⊢
    exact if_pos h
  | dg :: ds, pre, h => by
    have h2 : p ((pre ++ [dg]) ++ ds) = true := by rw [List.append_assoc]; exact h
    rw [ff_s, ff_hit h2, List.append_assoc]
    rfl
theorem ff_miss {p : List Nat → Bool} {B : Nat} (hB : 0 < B) : ∀ {r pre : List Nat}, p (pre ++ r) = false → ff p B r pre = match nxt B r with
    | some r' => ff p B r' pre
    | none => none
  | [], pre, h => by
    rw [List.append_nil] at h
    show (if p pre = true then some pre else none) = none
    rw [if_neg (by rw [h]; decide)]
  | dg :: ds, pre, h => by
    have h2 : p ((pre ++ [dg]) ++ ds) = false := by rw [List.append_assoc]; exact h
    have ih := ff_miss hB h2
    rw [ff_s, nxt_s, ih]
    cases hn : nxt B ds with
    | some ds' =>
      dsimp only
      rw [ff_s, nxt_len hn]
    | none =>
      dsimp only
      by_cases hd : dg + 1 < B
      · rw [if_pos hd]
        dsimp only
        rw [ff_s, List.length_replicate]
        obtain ⟨b, hb⟩ : ∃ b, B - (dg + 1) = b + 1 := ⟨B - (dg + 1) - 1, by omega⟩
        rw [hb, fsO_s, ← fr_ff hB, show B - (dg + 1 + 1) = b by omega]
      · rw [if_neg hd, show B - (dg + 1) = 0 by omega]
        rfl
/-- of rows of more and more turns -/
def shF (p : List Nat → Bool) (B : Nat) : Nat → Nat → Option (List Nat)
  | 0, _ => none
  | r + 1, L => match fr p B L [] with
    | some x => some x
    | none => shF p B r (L + 1)
theorem shF_s {p : List Nat → Bool} {B r L : Nat} : shF p B (r + 1) L = match fr p B L [] with
    | some x => some x
    | none => shF p B r (L + 1) := rfl
/-- a plain cord, wound so, falls just by these sets -/
def vld (n w : Nat) (r : List Nat) : Bool := allF (fun t => decide ((lefts (ib (nI t)) r).length = 0) == w.testBit t) (2 ^ n) 0
def cct (n w : Nat) (pre : List Nat) (more : Nat) : Bool := allF (fun t => if w.testBit t = true then decide ((lefts (ib (nI t)) pre).length ≤ more) else !decide (more = 0 ∧ (lefts (ib (nI t)) pre).length = 0)) (2 ^ n) 0
theorem vld_iff {n w : Nat} {r : List Nat} : vld n w r = true ↔ ∀ t, t < 2 ^ n → ((lefts (ib (nI t)) r).length = 0 ↔ w.testBit t = true) := by
  unfold vld
  rw [allF_iff]
  constructor
  · intro h t ht
    have := eq_of_beq (h t (Nat.zero_le _) (by omega))
    rw [← this, decide_eq_true_iff]
  · intro h j _ hj
    have := h j (by omega)
    rw [beq_iff_eq]
    apply Bool.eq_iff_iff.mpr
    rw [decide_eq_true_iff]
    exact this
theorem cct_0 {n w : Nat} {r : List Nat} : cct n w r 0 = vld n w r := by
  apply Bool.eq_iff_iff.mpr
  unfold cct
  rw [vld_iff, allF_iff]
  constructor
  · intro h t ht
    have := h t (Nat.zero_le _) (by omega)
    by_cases hw : w.testBit t = true
    · rw [if_pos hw] at this
      have := of_decide_eq_true this
      exact ⟨fun _ => hw, fun _ => by omega⟩
    · rw [if_neg hw] at this
      refine ⟨fun z => ?_, fun z => absurd z hw⟩
      rw [decide_eq_true ⟨rfl, z⟩] at this
      exact absurd this (by decide)
  · intro h j _ hj
    have := h j (by omega)
    by_cases hw : w.testBit j = true
    · rw [if_pos hw]
      exact decide_eq_true (by have := this.mpr hw; omega)
    · rw [if_neg hw, decide_eq_false (fun z => hw (this.mp z.2))]
      rfl
theorem cct_no {n w m : Nat} {pre : List Nat} (h : cct n w pre m = false) : ∀ ext : List Nat, ext.length = m → vld n w (pre ++ ext) = false := by
  intro ext hl
  refine Bool.eq_false_iff.mpr (fun hv => ?_)
  rw [vld_iff] at hv
  refine absurd h (Bool.not_eq_false _ |>.mpr ?_)
  unfold cct
  rw [allF_iff]
  intro t _ ht
  have hg := lefts_ge (ps := ib (nI t)) (a := pre) ext
  by_cases hw : w.testBit t = true
  · rw [if_pos hw]
    have := (hv t (by omega)).mpr hw
    exact decide_eq_true (by omega)
  · rw [if_neg hw]
    by_cases hz : m = 0 ∧ (lefts (ib (nI t)) pre).length = 0
    · exfalso
      have he : ext = [] := List.length_eq_zero_iff.mp (by omega)
      rw [he, List.append_nil] at hv
      exact hw ((hv t (by omega)).mp hz.2)
    · rw [decide_eq_false hz]
      rfl
/-- sets that may be those of some row -/
def isOf (n w : Nat) : Bool := allF (fun t => allF (fun k => !(w.testBit t && !w.testBit (t ||| 2 ^ k))) n 0) (2 ^ n) 0 && w.testBit (2 ^ n - 1)
theorem bit_all {n k : Nat} (hk : k < n) : (2 ^ n - 1).testBit k = true := by
  rw [Nat.testBit_two_pow_sub_one]
  exact decide_eq_true hk
theorem isOf_no {n w : Nat} (hn5 : n < 5) (h : isOf n w = false) : ∀ r : List Nat, (∀ t ∈ r, t < 2 * n) → vld n w r = false := by
  intro r h8
  obtain ⟨p16, p0⟩ := p2_16 hn5
  have h8' : ∀ t ∈ r, t < 8 := fun t ht => by have := h8 t ht; omega
  refine Bool.eq_false_iff.mpr (fun hv => ?_)
  rw [vld_iff] at hv
  refine absurd h (Bool.not_eq_false _ |>.mpr ?_)
  unfold isOf
  rw [Bool.and_eq_true, allF_iff]
  constructor
  · intro t _ ht
    rw [allF_iff]
    intro k _ hk
    have hlt : t ||| 2 ^ k < 2 ^ n := or_pow_lt (by omega) (by omega)
    cases hw : w.testBit t with
    | false => rfl
    | true =>
      have h1 := (hv t (by omega)).mpr hw
      have h2 : lefts (ib (nI (t ||| 2 ^ k))) r = [] := by
        refine lefts_empty (ps := ib (nI t)) (fun q q4 hq => ?_) h8' (List.length_eq_zero_iff.mp h1)
        rw [ib_tb (by omega) (by omega)] at hq ⊢
        rw [Nat.testBit_or, hq]
        rfl
      have h3 := (hv _ hlt).mp (by rw [h2]; rfl)
      rw [h3]
      rfl
  · refine (hv (2 ^ n - 1) (by omega)).mp ?_
    have : lefts (ib (nI (2 ^ n - 1))) r = [] := lefts_all (fun t ht => by
      have := h8 t ht
      rw [ib_tb (by omega) (by omega)]
      exact bit_all (by omega))
    rw [this]
    rfl
