/-! the cells as the constructors leave them (printed by wip/gen/world0.py) -/
def bdA (b : Nat) (x : BdU) : List Nat := [b, x.1.1, x.1.2.1, x.1.2.2.1, x.1.2.2.2.1, x.1.2.2.2.2.1, x.1.2.2.2.2.2, x.2.1.1, x.2.1.2.1, x.2.1.2.2, x.2.2.1.1, x.2.2.1.2.1, x.2.2.1.2.2, x.2.2.2.1.1, x.2.2.2.1.2.1, x.2.2.2.1.2.2, x.2.2.2.2.1.1, x.2.2.2.2.1.2.1, x.2.2.2.2.1.2.2, x.2.2.2.2.2.1, x.2.2.2.2.2.2.1, x.2.2.2.2.2.2.2]
def adL (b1 : Nat) (u : AnU) (b2 : Nat) (v : MdU) (t62 t63 b64 b65 b66 b67 b68 : Nat) : List Nat :=
  (b1 :: bdA u.1.1 u.1.2) ++ bdA u.2.1.1 u.2.1.2 ++ [u.2.2.1, u.2.2.2.1, u.2.2.2.2.1.1, u.2.2.2.2.1.2, u.2.2.2.2.2.1.1, u.2.2.2.2.2.1.2, u.2.2.2.2.2.2.1, u.2.2.2.2.2.2.2, b2, v.1, v.2.1, v.2.2.1, v.2.2.2.1, v.2.2.2.2.1, v.2.2.2.2.2.1, v.2.2.2.2.2.2.1, v.2.2.2.2.2.2.2, t62, t63, b64, b65, b66, b67, b68]
def ad0 (b1 : Nat) (u : AnU) (b2 : Nat) (v : MdU) (t62 t63 b64 b65 b66 b67 b68 : Nat) : Nat → Nat := fun q => (adL b1 u b2 v t62 t63 b64 b65 b66 b67 b68).getD q 0
def fz : Nat → Int32 := fun _ => 0
def fsl (x : Int32) : Nat → Int32 := fun k => if k = 0 then x else 0
def abvL : List Int32 := [-1, 0, 0, 0, 1, 2, 3]
def bodL : List Int32 := [1, 2, 3, 11, 0, 0, 0, 21, 0, 0, 0, 31, 0, 0, 41, 51, 0, 0, 0, 61, 0]
def strL : List (List Int32) := [[97, 98, 99, 100, 110], [60, 61, 62]]
def SML (L : Nat) (xs : Nat → Int32) : List (Nat → Int32) :=
  [fz, fsl 3, fz, wk4, fz, fz, fz, fz, fsl 0, fz, fz, fsl 1, fz, fz, fsl 2, fz, fz, fsl 3, fz, fz, fsl 4, fz, fz, fsl 3, fz, wk4, fz, fz, fz, fz, fsl 0, fz, fz, fsl 1, fz, fz, fsl 2, fz, fz, fsl 3, fz, fz, fsl 4, fz, fz, fz, fz, fz, fz, fz, fz, fz, fz, fz, ms0, fz, fz, fz, fz, fz, fz, fz, (fun j => abvL.getD j 0), (fun j => bodL.getD j 0), xs, fz, fz, (fun j => (strL.getD 0 []).getD j 0), (fun j => (strL.getD 1 []).getD j 0), (fun _ => Int32.ofNat L)]
def SM0 (L : Nat) (xs : Nat → Int32) : dm_M := fun q => (SML L xs).getD q fz
theorem mapIdx_const {f : Nat → Nat → Value} {g : Nat → Value} (h : ∀ k c, f k c = g c) (l : List Nat) : l.mapIdx f = l.map g := by
  apply List.ext_getElem?
  intro i
  rw [List.getElem?_mapIdx, List.getElem?_map]
  cases l[i]? with
  | none => rfl
  | some c => exact congrArg some (h i c)
section
variable {ad : Nat → Nat} {fm : Value} {cI cZ cO : ClassId} {L : Nat} {xs : Nat → Int32}
theorem fs0_0 : dm_fs 0 = [2, 24, 0, 46, 47, 0, 48, 50, 52] := by decide +kernel
theorem ce0_0 : dm_ce ad fm cI cZ cO (SM0 L xs) 0 = .inr (4, [.ref (ad 1), .ref (ad 23), .int 0, .ref (ad 45), .ref (ad 46), .int 0, .ref (ad 47), .ref (ad 49), .ref (ad 51)]) := by
  rw [dm_ce_obj (by rw [kd0]; decide), kd0, fs0_0]
  rfl
theorem fs0_1 : dm_fs 1 = [0, 3, 4, 5, 0, 6, 0, 7, 0, 8, 0] := by decide +kernel
theorem ce0_1 : dm_ce ad fm cI cZ cO (SM0 L xs) 1 = .inr (0, [.int 3, .ref (ad 2), .ref (ad 3), .ref (ad 4), .int 0, .ref (ad 5), .int 0, .ref (ad 6), .int 0, .ref (ad 7), .int 0]) := by
  rw [dm_ce_obj (by rw [kd1]; decide), kd1, fs0_1]
  rfl
theorem fs0_2 : dm_fs 2 = [4] := by decide +kernel
theorem ce0_2 : dm_ce ad fm cI cZ cO (SM0 L xs) 2 = .inl (cI, 4, .inl (fun _ => 0)) := by
  unfold dm_ce
  rw [if_pos kd2, ln2]
  rfl
theorem fs0_3 : dm_fs 3 = [4] := by decide +kernel
theorem ce0_3 : dm_ce ad fm cI cZ cO (SM0 L xs) 3 = .inl (cI, 4, .inl wk4) := by
  unfold dm_ce
  rw [if_pos kd3, ln3]
  rfl
theorem fs0_4 : dm_fs 4 = [8, 11, 14, 17, 20] := by decide +kernel
theorem ce0_4 : dm_ce ad fm cI cZ cO (SM0 L xs) 4 = .inl (cO, 5, .inr (.inr (.inr (.inr (cds (ad 8) (ad 11) (ad 14) (ad 17) (ad 20)))))) := by
  unfold dm_ce
  rw [if_neg (by rw [kd4]; decide), if_neg (by rw [kd4]; decide), if_pos kd4, fs0_4]
  have h : (fun i => (([8, 11, 14, 17, 20] : List Nat)[i]?).map ad) = cds (ad 8) (ad 11) (ad 14) (ad 17) (ad 20) := by
    funext i
    match i with
    | 0 => rfl
    | 1 => rfl
    | 2 => rfl
    | 3 => rfl
    | 4 => rfl
    | n + 5 =>
      unfold cds va_up
      rw [if_neg (by omega), if_neg (by omega), if_neg (by omega), if_neg (by omega), if_neg (by omega), List.getElem?_eq_none (by show 5 ≤ n + 5; omega)]
      rfl
  rw [h]
  rfl
theorem fs0_5 : dm_fs 5 = [5] := by decide +kernel
theorem ce0_5 : dm_ce ad fm cI cZ cO (SM0 L xs) 5 = .inl (cI, 5, .inl (fun _ => 0)) := by
  unfold dm_ce
  rw [if_pos kd5, ln5]
  rfl
theorem fs0_6 : dm_fs 6 = [100] := by decide +kernel
theorem ce0_6 : dm_ce ad fm cI cZ cO (SM0 L xs) 6 = .inl (cI, 100, .inl (fun _ => 0)) := by
  unfold dm_ce
  rw [if_pos kd6, ln6]
  rfl
theorem fs0_7 : dm_fs 7 = [8] := by decide +kernel
theorem ce0_7 : dm_ce ad fm cI cZ cO (SM0 L xs) 7 = .inl (cI, 8, .inl (fun _ => 0)) := by
  unfold dm_ce
  rw [if_pos kd7, ln7]
  rfl
theorem fs0_8 : dm_fs 8 = [0, 0, 0, 0, 10] := by decide +kernel
theorem ce0_8 : dm_ce ad fm cI cZ cO (SM0 L xs) 8 = .inr (1, [.int 0, .int 0, .int 0, .int 0, .ref (ad 9)]) := by
  rw [dm_ce_obj (by rw [kd8]; decide), kd8, fs0_8]
  rfl
theorem fs0_9 : dm_fs 9 = [11, 0] := by decide +kernel
theorem ce0_9 : dm_ce ad fm cI cZ cO (SM0 L xs) 9 = .inr (3, [.ref (ad 10), .int 0]) := by
  rw [dm_ce_obj (by rw [kd9]; decide), kd9, fs0_9]
  rfl
theorem fs0_10 : dm_fs 10 = [49] := by decide +kernel
theorem ce0_10 : dm_ce ad fm cI cZ cO (SM0 L xs) 10 = .inl (cI, 49, .inl (fun _ => 0)) := by
  unfold dm_ce
  rw [if_pos kd10, ln10]
  rfl
theorem fs0_11 : dm_fs 11 = [0, 0, 0, 0, 13] := by decide +kernel
theorem ce0_11 : dm_ce ad fm cI cZ cO (SM0 L xs) 11 = .inr (1, [.int 1, .int 0, .int 0, .int 0, .ref (ad 12)]) := by
  rw [dm_ce_obj (by rw [kd11]; decide), kd11, fs0_11]
  rfl
theorem fs0_12 : dm_fs 12 = [14, 0] := by decide +kernel
theorem ce0_12 : dm_ce ad fm cI cZ cO (SM0 L xs) 12 = .inr (3, [.ref (ad 13), .int 0]) := by
  rw [dm_ce_obj (by rw [kd12]; decide), kd12, fs0_12]
  rfl
theorem fs0_13 : dm_fs 13 = [49] := by decide +kernel
theorem ce0_13 : dm_ce ad fm cI cZ cO (SM0 L xs) 13 = .inl (cI, 49, .inl (fun _ => 0)) := by
  unfold dm_ce
  rw [if_pos kd13, ln13]
  rfl
theorem fs0_14 : dm_fs 14 = [0, 0, 0, 0, 16] := by decide +kernel
theorem ce0_14 : dm_ce ad fm cI cZ cO (SM0 L xs) 14 = .inr (1, [.int 2, .int 0, .int 0, .int 0, .ref (ad 15)]) := by
  rw [dm_ce_obj (by rw [kd14]; decide), kd14, fs0_14]
  rfl
theorem fs0_15 : dm_fs 15 = [17, 0] := by decide +kernel
theorem ce0_15 : dm_ce ad fm cI cZ cO (SM0 L xs) 15 = .inr (3, [.ref (ad 16), .int 0]) := by
  rw [dm_ce_obj (by rw [kd15]; decide), kd15, fs0_15]
  rfl
theorem fs0_16 : dm_fs 16 = [49] := by decide +kernel
theorem ce0_16 : dm_ce ad fm cI cZ cO (SM0 L xs) 16 = .inl (cI, 49, .inl (fun _ => 0)) := by
  unfold dm_ce
  rw [if_pos kd16, ln16]
  rfl
theorem fs0_17 : dm_fs 17 = [0, 0, 0, 0, 19] := by decide +kernel
theorem ce0_17 : dm_ce ad fm cI cZ cO (SM0 L xs) 17 = .inr (1, [.int 3, .int 0, .int 0, .int 0, .ref (ad 18)]) := by
  rw [dm_ce_obj (by rw [kd17]; decide), kd17, fs0_17]
  rfl
theorem fs0_18 : dm_fs 18 = [20, 0] := by decide +kernel
theorem ce0_18 : dm_ce ad fm cI cZ cO (SM0 L xs) 18 = .inr (3, [.ref (ad 19), .int 0]) := by
  rw [dm_ce_obj (by rw [kd18]; decide), kd18, fs0_18]
  rfl
theorem fs0_19 : dm_fs 19 = [49] := by decide +kernel
theorem ce0_19 : dm_ce ad fm cI cZ cO (SM0 L xs) 19 = .inl (cI, 49, .inl (fun _ => 0)) := by
  unfold dm_ce
  rw [if_pos kd19, ln19]
  rfl
theorem fs0_20 : dm_fs 20 = [0, 0, 0, 0, 22] := by decide +kernel
theorem ce0_20 : dm_ce ad fm cI cZ cO (SM0 L xs) 20 = .inr (1, [.int 4, .int 0, .int 0, .int 0, .ref (ad 21)]) := by
  rw [dm_ce_obj (by rw [kd20]; decide), kd20, fs0_20]
  rfl
theorem fs0_21 : dm_fs 21 = [23, 0] := by decide +kernel
theorem ce0_21 : dm_ce ad fm cI cZ cO (SM0 L xs) 21 = .inr (3, [.ref (ad 22), .int 0]) := by
  rw [dm_ce_obj (by rw [kd21]; decide), kd21, fs0_21]
  rfl
theorem fs0_22 : dm_fs 22 = [49] := by decide +kernel
theorem ce0_22 : dm_ce ad fm cI cZ cO (SM0 L xs) 22 = .inl (cI, 49, .inl (fun _ => 0)) := by
  unfold dm_ce
  rw [if_pos kd22, ln22]
  rfl
theorem fs0_23 : dm_fs 23 = [0, 25, 26, 27, 0, 28, 0, 29, 0, 30, 0] := by decide +kernel
theorem ce0_23 : dm_ce ad fm cI cZ cO (SM0 L xs) 23 = .inr (0, [.int 3, .ref (ad 24), .ref (ad 25), .ref (ad 26), .int 0, .ref (ad 27), .int 0, .ref (ad 28), .int 0, .ref (ad 29), .int 0]) := by
  rw [dm_ce_obj (by rw [kd23]; decide), kd23, fs0_23]
  rfl
theorem fs0_24 : dm_fs 24 = [4] := by decide +kernel
theorem ce0_24 : dm_ce ad fm cI cZ cO (SM0 L xs) 24 = .inl (cI, 4, .inl (fun _ => 0)) := by
  unfold dm_ce
  rw [if_pos kd24, ln24]
  rfl
theorem fs0_25 : dm_fs 25 = [4] := by decide +kernel
theorem ce0_25 : dm_ce ad fm cI cZ cO (SM0 L xs) 25 = .inl (cI, 4, .inl wk4) := by
  unfold dm_ce
  rw [if_pos kd25, ln25]
  rfl
theorem fs0_26 : dm_fs 26 = [30, 33, 36, 39, 42] := by decide +kernel
theorem ce0_26 : dm_ce ad fm cI cZ cO (SM0 L xs) 26 = .inl (cO, 5, .inr (.inr (.inr (.inr (cds (ad 30) (ad 33) (ad 36) (ad 39) (ad 42)))))) := by
  unfold dm_ce
  rw [if_neg (by rw [kd26]; decide), if_neg (by rw [kd26]; decide), if_pos kd26, fs0_26]
  have h : (fun i => (([30, 33, 36, 39, 42] : List Nat)[i]?).map ad) = cds (ad 30) (ad 33) (ad 36) (ad 39) (ad 42) := by
    funext i
    match i with
    | 0 => rfl
    | 1 => rfl
    | 2 => rfl
    | 3 => rfl
    | 4 => rfl
    | n + 5 =>
      unfold cds va_up
      rw [if_neg (by omega), if_neg (by omega), if_neg (by omega), if_neg (by omega), if_neg (by omega), List.getElem?_eq_none (by show 5 ≤ n + 5; omega)]
      rfl
  rw [h]
  rfl
theorem fs0_27 : dm_fs 27 = [5] := by decide +kernel
theorem ce0_27 : dm_ce ad fm cI cZ cO (SM0 L xs) 27 = .inl (cI, 5, .inl (fun _ => 0)) := by
  unfold dm_ce
  rw [if_pos kd27, ln27]
  rfl
theorem fs0_28 : dm_fs 28 = [100] := by decide +kernel
theorem ce0_28 : dm_ce ad fm cI cZ cO (SM0 L xs) 28 = .inl (cI, 100, .inl (fun _ => 0)) := by
  unfold dm_ce
  rw [if_pos kd28, ln28]
  rfl
theorem fs0_29 : dm_fs 29 = [8] := by decide +kernel
theorem ce0_29 : dm_ce ad fm cI cZ cO (SM0 L xs) 29 = .inl (cI, 8, .inl (fun _ => 0)) := by
  unfold dm_ce
  rw [if_pos kd29, ln29]
  rfl
theorem fs0_30 : dm_fs 30 = [0, 0, 0, 0, 32] := by decide +kernel
theorem ce0_30 : dm_ce ad fm cI cZ cO (SM0 L xs) 30 = .inr (1, [.int 0, .int 0, .int 0, .int 0, .ref (ad 31)]) := by
  rw [dm_ce_obj (by rw [kd30]; decide), kd30, fs0_30]
  rfl
theorem fs0_31 : dm_fs 31 = [33, 0] := by decide +kernel
theorem ce0_31 : dm_ce ad fm cI cZ cO (SM0 L xs) 31 = .inr (3, [.ref (ad 32), .int 0]) := by
  rw [dm_ce_obj (by rw [kd31]; decide), kd31, fs0_31]
  rfl
theorem fs0_32 : dm_fs 32 = [49] := by decide +kernel
theorem ce0_32 : dm_ce ad fm cI cZ cO (SM0 L xs) 32 = .inl (cI, 49, .inl (fun _ => 0)) := by
  unfold dm_ce
  rw [if_pos kd32, ln32]
  rfl
theorem fs0_33 : dm_fs 33 = [0, 0, 0, 0, 35] := by decide +kernel
theorem ce0_33 : dm_ce ad fm cI cZ cO (SM0 L xs) 33 = .inr (1, [.int 1, .int 0, .int 0, .int 0, .ref (ad 34)]) := by
  rw [dm_ce_obj (by rw [kd33]; decide), kd33, fs0_33]
  rfl
theorem fs0_34 : dm_fs 34 = [36, 0] := by decide +kernel
theorem ce0_34 : dm_ce ad fm cI cZ cO (SM0 L xs) 34 = .inr (3, [.ref (ad 35), .int 0]) := by
  rw [dm_ce_obj (by rw [kd34]; decide), kd34, fs0_34]
  rfl
theorem fs0_35 : dm_fs 35 = [49] := by decide +kernel
theorem ce0_35 : dm_ce ad fm cI cZ cO (SM0 L xs) 35 = .inl (cI, 49, .inl (fun _ => 0)) := by
  unfold dm_ce
  rw [if_pos kd35, ln35]
  rfl
theorem fs0_36 : dm_fs 36 = [0, 0, 0, 0, 38] := by decide +kernel
theorem ce0_36 : dm_ce ad fm cI cZ cO (SM0 L xs) 36 = .inr (1, [.int 2, .int 0, .int 0, .int 0, .ref (ad 37)]) := by
  rw [dm_ce_obj (by rw [kd36]; decide), kd36, fs0_36]
  rfl
theorem fs0_37 : dm_fs 37 = [39, 0] := by decide +kernel
theorem ce0_37 : dm_ce ad fm cI cZ cO (SM0 L xs) 37 = .inr (3, [.ref (ad 38), .int 0]) := by
  rw [dm_ce_obj (by rw [kd37]; decide), kd37, fs0_37]
  rfl
theorem fs0_38 : dm_fs 38 = [49] := by decide +kernel
theorem ce0_38 : dm_ce ad fm cI cZ cO (SM0 L xs) 38 = .inl (cI, 49, .inl (fun _ => 0)) := by
  unfold dm_ce
  rw [if_pos kd38, ln38]
  rfl
theorem fs0_39 : dm_fs 39 = [0, 0, 0, 0, 41] := by decide +kernel
theorem ce0_39 : dm_ce ad fm cI cZ cO (SM0 L xs) 39 = .inr (1, [.int 3, .int 0, .int 0, .int 0, .ref (ad 40)]) := by
  rw [dm_ce_obj (by rw [kd39]; decide), kd39, fs0_39]
  rfl
theorem fs0_40 : dm_fs 40 = [42, 0] := by decide +kernel
theorem ce0_40 : dm_ce ad fm cI cZ cO (SM0 L xs) 40 = .inr (3, [.ref (ad 41), .int 0]) := by
  rw [dm_ce_obj (by rw [kd40]; decide), kd40, fs0_40]
  rfl
theorem fs0_41 : dm_fs 41 = [49] := by decide +kernel
theorem ce0_41 : dm_ce ad fm cI cZ cO (SM0 L xs) 41 = .inl (cI, 49, .inl (fun _ => 0)) := by
  unfold dm_ce
  rw [if_pos kd41, ln41]
  rfl
theorem fs0_42 : dm_fs 42 = [0, 0, 0, 0, 44] := by decide +kernel
theorem ce0_42 : dm_ce ad fm cI cZ cO (SM0 L xs) 42 = .inr (1, [.int 4, .int 0, .int 0, .int 0, .ref (ad 43)]) := by
  rw [dm_ce_obj (by rw [kd42]; decide), kd42, fs0_42]
  rfl
theorem fs0_43 : dm_fs 43 = [45, 0] := by decide +kernel
theorem ce0_43 : dm_ce ad fm cI cZ cO (SM0 L xs) 43 = .inr (3, [.ref (ad 44), .int 0]) := by
  rw [dm_ce_obj (by rw [kd43]; decide), kd43, fs0_43]
  rfl
theorem fs0_44 : dm_fs 44 = [49] := by decide +kernel
theorem ce0_44 : dm_ce ad fm cI cZ cO (SM0 L xs) 44 = .inl (cI, 49, .inl (fun _ => 0)) := by
  unfold dm_ce
  rw [if_pos kd44, ln44]
  rfl
theorem fs0_45 : dm_fs 45 = [9999, 0, 0, 0, 0] := by decide +kernel
theorem ce0_45 : dm_ce ad fm cI cZ cO (SM0 L xs) 45 = .inr (2, [.null, .int 0, .int 0, .int 0, .int 0]) := by
  rw [dm_ce_obj (by rw [kd45]; decide), kd45, fs0_45]
  rfl
theorem fs0_46 : dm_fs 46 = [20] := by decide +kernel
theorem ce0_46 : dm_ce ad fm cI cZ cO (SM0 L xs) 46 = .inl (cI, 20, .inl (fun _ => 0)) := by
  unfold dm_ce
  rw [if_pos kd46, ln46]
  rfl
theorem fs0_47 : dm_fs 47 = [49, 0] := by decide +kernel
theorem ce0_47 : dm_ce ad fm cI cZ cO (SM0 L xs) 47 = .inr (3, [.ref (ad 48), .int 0]) := by
  rw [dm_ce_obj (by rw [kd47]; decide), kd47, fs0_47]
  rfl
theorem fs0_48 : dm_fs 48 = [49] := by decide +kernel
theorem ce0_48 : dm_ce ad fm cI cZ cO (SM0 L xs) 48 = .inl (cI, 49, .inl (fun _ => 0)) := by
  unfold dm_ce
  rw [if_pos kd48, ln48]
  rfl
theorem fs0_49 : dm_fs 49 = [51, 0] := by decide +kernel
theorem ce0_49 : dm_ce ad fm cI cZ cO (SM0 L xs) 49 = .inr (3, [.ref (ad 50), .int 0]) := by
  rw [dm_ce_obj (by rw [kd49]; decide), kd49, fs0_49]
  rfl
theorem fs0_50 : dm_fs 50 = [49] := by decide +kernel
theorem ce0_50 : dm_ce ad fm cI cZ cO (SM0 L xs) 50 = .inl (cI, 49, .inl (fun _ => 0)) := by
  unfold dm_ce
  rw [if_pos kd50, ln50]
  rfl
theorem fs0_51 : dm_fs 51 = [53, 0] := by decide +kernel
theorem ce0_51 : dm_ce ad fm cI cZ cO (SM0 L xs) 51 = .inr (3, [.ref (ad 52), .int 0]) := by
  rw [dm_ce_obj (by rw [kd51]; decide), kd51, fs0_51]
  rfl
theorem fs0_52 : dm_fs 52 = [49] := by decide +kernel
theorem ce0_52 : dm_ce ad fm cI cZ cO (SM0 L xs) 52 = .inl (cI, 49, .inl (fun _ => 0)) := by
  unfold dm_ce
  rw [if_pos kd52, ln52]
  rfl
theorem fs0_53 : dm_fs 53 = [0, 55, 56, 0, 0, 0, 0, 0, 0, 57, 58, 59, 0, 0, 60, 0, 61, 62, 0, 0, 0, 0] := by decide +kernel
theorem ce0_53 : dm_ce ad fm cI cZ cO (SM0 L xs) 53 = .inr (5, [.int 0, .ref (ad 54), .ref (ad 55), .int 0, .int 0, .int 0, .int 0, .int 0, .int 0, .ref (ad 56), .ref (ad 57), .ref (ad 58), .int 0, .int 0, .ref (ad 59), .int 0, .ref (ad 60), .ref (ad 61), .int 0, .int 0, .int 0, .int 0]) := by
  rw [dm_ce_obj (by rw [kd53]; decide), kd53, fs0_53, mapIdx_const (f := fun k c => dm_cv ad fm (dm_fv c (SM0 L xs 53 k))) (g := fun c => dm_cv ad fm (dm_fv c 0)) (fun k c => rfl)]
  rfl
theorem fs0_54 : dm_fs 54 = [1099] := by decide +kernel
theorem ce0_54 : dm_ce ad fm cI cZ cO (SM0 L xs) 54 = .inl (cI, 1099, .inl ms0) := by
  unfold dm_ce
  rw [if_pos kd54, ln54]
  rfl
theorem fs0_55 : dm_fs 55 = [1099] := by decide +kernel
theorem ce0_55 : dm_ce ad fm cI cZ cO (SM0 L xs) 55 = .inl (cI, 1099, .inl (fun _ => 0)) := by
  unfold dm_ce
  rw [if_pos kd55, ln55]
  rfl
theorem fs0_56 : dm_fs 56 = [64] := by decide +kernel
theorem ce0_56 : dm_ce ad fm cI cZ cO (SM0 L xs) 56 = .inl (cZ, 64, .inl (fun _ => 0)) := by
  unfold dm_ce
  rw [if_neg (by rw [kd56]; decide), if_pos kd56, ln56]
  rfl
theorem fs0_57 : dm_fs 57 = [49] := by decide +kernel
theorem ce0_57 : dm_ce ad fm cI cZ cO (SM0 L xs) 57 = .inl (cI, 49, .inl (fun _ => 0)) := by
  unfold dm_ce
  rw [if_pos kd57, ln57]
  rfl
theorem fs0_58 : dm_fs 58 = [49] := by decide +kernel
theorem ce0_58 : dm_ce ad fm cI cZ cO (SM0 L xs) 58 = .inl (cI, 49, .inl (fun _ => 0)) := by
  unfold dm_ce
  rw [if_pos kd58, ln58]
  rfl
theorem fs0_59 : dm_fs 59 = [49] := by decide +kernel
theorem ce0_59 : dm_ce ad fm cI cZ cO (SM0 L xs) 59 = .inl (cI, 49, .inl (fun _ => 0)) := by
  unfold dm_ce
  rw [if_pos kd59, ln59]
  rfl
theorem fs0_60 : dm_fs 60 = [16] := by decide +kernel
theorem ce0_60 : dm_ce ad fm cI cZ cO (SM0 L xs) 60 = .inl (cZ, 16, .inl (fun _ => 0)) := by
  unfold dm_ce
  rw [if_neg (by rw [kd60]; decide), if_pos kd60, ln60]
  rfl
theorem fs0_61 : dm_fs 61 = [20] := by decide +kernel
theorem ce0_61 : dm_ce ad fm cI cZ cO (SM0 L xs) 61 = .inl (cI, 20, .inl (fun _ => 0)) := by
  unfold dm_ce
  rw [if_pos kd61, ln61]
  rfl
theorem ws0 : dm_ws ad fm cI cZ cO (SM0 L xs) = [(ad 0, .inr (4, [.ref (ad 1), .ref (ad 23), .int 0, .ref (ad 45), .ref (ad 46), .int 0, .ref (ad 47), .ref (ad 49), .ref (ad 51)])), (ad 1, .inr (0, [.int 3, .ref (ad 2), .ref (ad 3), .ref (ad 4), .int 0, .ref (ad 5), .int 0, .ref (ad 6), .int 0, .ref (ad 7), .int 0])), (ad 2, .inl (cI, 4, .inl (fun _ => 0))), (ad 3, .inl (cI, 4, .inl wk4)), (ad 4, .inl (cO, 5, .inr (.inr (.inr (.inr (cds (ad 8) (ad 11) (ad 14) (ad 17) (ad 20))))))), (ad 5, .inl (cI, 5, .inl (fun _ => 0))), (ad 6, .inl (cI, 100, .inl (fun _ => 0))), (ad 7, .inl (cI, 8, .inl (fun _ => 0))), (ad 8, .inr (1, [.int 0, .int 0, .int 0, .int 0, .ref (ad 9)])), (ad 9, .inr (3, [.ref (ad 10), .int 0])), (ad 10, .inl (cI, 49, .inl (fun _ => 0))), (ad 11, .inr (1, [.int 1, .int 0, .int 0, .int 0, .ref (ad 12)])), (ad 12, .inr (3, [.ref (ad 13), .int 0])), (ad 13, .inl (cI, 49, .inl (fun _ => 0))), (ad 14, .inr (1, [.int 2, .int 0, .int 0, .int 0, .ref (ad 15)])), (ad 15, .inr (3, [.ref (ad 16), .int 0])), (ad 16, .inl (cI, 49, .inl (fun _ => 0))), (ad 17, .inr (1, [.int 3, .int 0, .int 0, .int 0, .ref (ad 18)])), (ad 18, .inr (3, [.ref (ad 19), .int 0])), (ad 19, .inl (cI, 49, .inl (fun _ => 0))), (ad 20, .inr (1, [.int 4, .int 0, .int 0, .int 0, .ref (ad 21)])), (ad 21, .inr (3, [.ref (ad 22), .int 0])), (ad 22, .inl (cI, 49, .inl (fun _ => 0))), (ad 23, .inr (0, [.int 3, .ref (ad 24), .ref (ad 25), .ref (ad 26), .int 0, .ref (ad 27), .int 0, .ref (ad 28), .int 0, .ref (ad 29), .int 0])), (ad 24, .inl (cI, 4, .inl (fun _ => 0))), (ad 25, .inl (cI, 4, .inl wk4)), (ad 26, .inl (cO, 5, .inr (.inr (.inr (.inr (cds (ad 30) (ad 33) (ad 36) (ad 39) (ad 42))))))), (ad 27, .inl (cI, 5, .inl (fun _ => 0))), (ad 28, .inl (cI, 100, .inl (fun _ => 0))), (ad 29, .inl (cI, 8, .inl (fun _ => 0))), (ad 30, .inr (1, [.int 0, .int 0, .int 0, .int 0, .ref (ad 31)])), (ad 31, .inr (3, [.ref (ad 32), .int 0])), (ad 32, .inl (cI, 49, .inl (fun _ => 0))), (ad 33, .inr (1, [.int 1, .int 0, .int 0, .int 0, .ref (ad 34)])), (ad 34, .inr (3, [.ref (ad 35), .int 0])), (ad 35, .inl (cI, 49, .inl (fun _ => 0))), (ad 36, .inr (1, [.int 2, .int 0, .int 0, .int 0, .ref (ad 37)])), (ad 37, .inr (3, [.ref (ad 38), .int 0])), (ad 38, .inl (cI, 49, .inl (fun _ => 0))), (ad 39, .inr (1, [.int 3, .int 0, .int 0, .int 0, .ref (ad 40)])), (ad 40, .inr (3, [.ref (ad 41), .int 0])), (ad 41, .inl (cI, 49, .inl (fun _ => 0))), (ad 42, .inr (1, [.int 4, .int 0, .int 0, .int 0, .ref (ad 43)])), (ad 43, .inr (3, [.ref (ad 44), .int 0])), (ad 44, .inl (cI, 49, .inl (fun _ => 0))), (ad 45, .inr (2, [.null, .int 0, .int 0, .int 0, .int 0])), (ad 46, .inl (cI, 20, .inl (fun _ => 0))), (ad 47, .inr (3, [.ref (ad 48), .int 0])), (ad 48, .inl (cI, 49, .inl (fun _ => 0))), (ad 49, .inr (3, [.ref (ad 50), .int 0])), (ad 50, .inl (cI, 49, .inl (fun _ => 0))), (ad 51, .inr (3, [.ref (ad 52), .int 0])), (ad 52, .inl (cI, 49, .inl (fun _ => 0))), (ad 53, .inr (5, [.int 0, .ref (ad 54), .ref (ad 55), .int 0, .int 0, .int 0, .int 0, .int 0, .int 0, .ref (ad 56), .ref (ad 57), .ref (ad 58), .int 0, .int 0, .ref (ad 59), .int 0, .ref (ad 60), .ref (ad 61), .int 0, .int 0, .int 0, .int 0])), (ad 54, .inl (cI, 1099, .inl ms0)), (ad 55, .inl (cI, 1099, .inl (fun _ => 0))), (ad 56, .inl (cZ, 64, .inl (fun _ => 0))), (ad 57, .inl (cI, 49, .inl (fun _ => 0))), (ad 58, .inl (cI, 49, .inl (fun _ => 0))), (ad 59, .inl (cI, 49, .inl (fun _ => 0))), (ad 60, .inl (cZ, 16, .inl (fun _ => 0))), (ad 61, .inl (cI, 20, .inl (fun _ => 0)))] := by
  unfold dm_ws
  rw [show List.range 62 = [0, 1, 2, 3, 4, 5, 6, 7, 8, 9, 10, 11, 12, 13, 14, 15, 16, 17, 18, 19, 20, 21, 22, 23, 24, 25, 26, 27, 28, 29, 30, 31, 32, 33, 34, 35, 36, 37, 38, 39, 40, 41, 42, 43, 44, 45, 46, 47, 48, 49, 50, 51, 52, 53, 54, 55, 56, 57, 58, 59, 60, 61] from by decide +kernel]
  simp only [List.map_cons, List.map_nil, ce0_0, ce0_1, ce0_2, ce0_3, ce0_4, ce0_5, ce0_6, ce0_7, ce0_8, ce0_9, ce0_10, ce0_11, ce0_12, ce0_13, ce0_14, ce0_15, ce0_16, ce0_17, ce0_18, ce0_19, ce0_20, ce0_21, ce0_22, ce0_23, ce0_24, ce0_25, ce0_26, ce0_27, ce0_28, ce0_29, ce0_30, ce0_31, ce0_32, ce0_33, ce0_34, ce0_35, ce0_36, ce0_37, ce0_38, ce0_39, ce0_40, ce0_41, ce0_42, ce0_43, ce0_44, ce0_45, ce0_46, ce0_47, ce0_48, ce0_49, ce0_50, ce0_51, ce0_52, ce0_53, ce0_54, ce0_55, ce0_56, ce0_57, ce0_58, ce0_59, ce0_60, ce0_61]
end
section
variable {fm : Value} {cI cZ cO : ClassId} {L : Nat} {xs : Nat → Int32} {b1 : Nat} {u : AnU} {b2 : Nat} {v : MdU} {t62 t63 b64 b65 b66 b67 b68 : Nat}
theorem ad0_0 : ad0 b1 u b2 v t62 t63 b64 b65 b66 b67 b68 0 = b1 := rfl
theorem ad0_1 : ad0 b1 u b2 v t62 t63 b64 b65 b66 b67 b68 1 = u.1.1 := rfl
theorem ad0_2 : ad0 b1 u b2 v t62 t63 b64 b65 b66 b67 b68 2 = u.1.2.1.1 := rfl
theorem ad0_3 : ad0 b1 u b2 v t62 t63 b64 b65 b66 b67 b68 3 = u.1.2.1.2.1 := rfl
theorem ad0_4 : ad0 b1 u b2 v t62 t63 b64 b65 b66 b67 b68 4 = u.1.2.1.2.2.1 := rfl
theorem ad0_5 : ad0 b1 u b2 v t62 t63 b64 b65 b66 b67 b68 5 = u.1.2.1.2.2.2.1 := rfl
theorem ad0_6 : ad0 b1 u b2 v t62 t63 b64 b65 b66 b67 b68 6 = u.1.2.1.2.2.2.2.1 := rfl
theorem ad0_7 : ad0 b1 u b2 v t62 t63 b64 b65 b66 b67 b68 7 = u.1.2.1.2.2.2.2.2 := rfl
theorem ad0_8 : ad0 b1 u b2 v t62 t63 b64 b65 b66 b67 b68 8 = u.1.2.2.1.1 := rfl
theorem ad0_9 : ad0 b1 u b2 v t62 t63 b64 b65 b66 b67 b68 9 = u.1.2.2.1.2.1 := rfl
theorem ad0_10 : ad0 b1 u b2 v t62 t63 b64 b65 b66 b67 b68 10 = u.1.2.2.1.2.2 := rfl
theorem ad0_11 : ad0 b1 u b2 v t62 t63 b64 b65 b66 b67 b68 11 = u.1.2.2.2.1.1 := rfl
theorem ad0_12 : ad0 b1 u b2 v t62 t63 b64 b65 b66 b67 b68 12 = u.1.2.2.2.1.2.1 := rfl
theorem ad0_13 : ad0 b1 u b2 v t62 t63 b64 b65 b66 b67 b68 13 = u.1.2.2.2.1.2.2 := rfl
theorem ad0_14 : ad0 b1 u b2 v t62 t63 b64 b65 b66 b67 b68 14 = u.1.2.2.2.2.1.1 := rfl
theorem ad0_15 : ad0 b1 u b2 v t62 t63 b64 b65 b66 b67 b68 15 = u.1.2.2.2.2.1.2.1 := rfl
theorem ad0_16 : ad0 b1 u b2 v t62 t63 b64 b65 b66 b67 b68 16 = u.1.2.2.2.2.1.2.2 := rfl
theorem ad0_17 : ad0 b1 u b2 v t62 t63 b64 b65 b66 b67 b68 17 = u.1.2.2.2.2.2.1.1 := rfl
theorem ad0_18 : ad0 b1 u b2 v t62 t63 b64 b65 b66 b67 b68 18 = u.1.2.2.2.2.2.1.2.1 := rfl
theorem ad0_19 : ad0 b1 u b2 v t62 t63 b64 b65 b66 b67 b68 19 = u.1.2.2.2.2.2.1.2.2 := rfl
theorem ad0_20 : ad0 b1 u b2 v t62 t63 b64 b65 b66 b67 b68 20 = u.1.2.2.2.2.2.2.1 := rfl
theorem ad0_21 : ad0 b1 u b2 v t62 t63 b64 b65 b66 b67 b68 21 = u.1.2.2.2.2.2.2.2.1 := rfl
theorem ad0_22 : ad0 b1 u b2 v t62 t63 b64 b65 b66 b67 b68 22 = u.1.2.2.2.2.2.2.2.2 := rfl
theorem ad0_23 : ad0 b1 u b2 v t62 t63 b64 b65 b66 b67 b68 23 = u.2.1.1 := rfl
theorem ad0_24 : ad0 b1 u b2 v t62 t63 b64 b65 b66 b67 b68 24 = u.2.1.2.1.1 := rfl
theorem ad0_25 : ad0 b1 u b2 v t62 t63 b64 b65 b66 b67 b68 25 = u.2.1.2.1.2.1 := rfl
theorem ad0_26 : ad0 b1 u b2 v t62 t63 b64 b65 b66 b67 b68 26 = u.2.1.2.1.2.2.1 := rfl
theorem ad0_27 : ad0 b1 u b2 v t62 t63 b64 b65 b66 b67 b68 27 = u.2.1.2.1.2.2.2.1 := rfl
theorem ad0_28 : ad0 b1 u b2 v t62 t63 b64 b65 b66 b67 b68 28 = u.2.1.2.1.2.2.2.2.1 := rfl
theorem ad0_29 : ad0 b1 u b2 v t62 t63 b64 b65 b66 b67 b68 29 = u.2.1.2.1.2.2.2.2.2 := rfl
theorem ad0_30 : ad0 b1 u b2 v t62 t63 b64 b65 b66 b67 b68 30 = u.2.1.2.2.1.1 := rfl
theorem ad0_31 : ad0 b1 u b2 v t62 t63 b64 b65 b66 b67 b68 31 = u.2.1.2.2.1.2.1 := rfl
theorem ad0_32 : ad0 b1 u b2 v t62 t63 b64 b65 b66 b67 b68 32 = u.2.1.2.2.1.2.2 := rfl
theorem ad0_33 : ad0 b1 u b2 v t62 t63 b64 b65 b66 b67 b68 33 = u.2.1.2.2.2.1.1 := rfl
theorem ad0_34 : ad0 b1 u b2 v t62 t63 b64 b65 b66 b67 b68 34 = u.2.1.2.2.2.1.2.1 := rfl
theorem ad0_35 : ad0 b1 u b2 v t62 t63 b64 b65 b66 b67 b68 35 = u.2.1.2.2.2.1.2.2 := rfl
theorem ad0_36 : ad0 b1 u b2 v t62 t63 b64 b65 b66 b67 b68 36 = u.2.1.2.2.2.2.1.1 := rfl
theorem ad0_37 : ad0 b1 u b2 v t62 t63 b64 b65 b66 b67 b68 37 = u.2.1.2.2.2.2.1.2.1 := rfl
theorem ad0_38 : ad0 b1 u b2 v t62 t63 b64 b65 b66 b67 b68 38 = u.2.1.2.2.2.2.1.2.2 := rfl
theorem ad0_39 : ad0 b1 u b2 v t62 t63 b64 b65 b66 b67 b68 39 = u.2.1.2.2.2.2.2.1.1 := rfl
theorem ad0_40 : ad0 b1 u b2 v t62 t63 b64 b65 b66 b67 b68 40 = u.2.1.2.2.2.2.2.1.2.1 := rfl
theorem ad0_41 : ad0 b1 u b2 v t62 t63 b64 b65 b66 b67 b68 41 = u.2.1.2.2.2.2.2.1.2.2 := rfl
theorem ad0_42 : ad0 b1 u b2 v t62 t63 b64 b65 b66 b67 b68 42 = u.2.1.2.2.2.2.2.2.1 := rfl
theorem ad0_43 : ad0 b1 u b2 v t62 t63 b64 b65 b66 b67 b68 43 = u.2.1.2.2.2.2.2.2.2.1 := rfl
theorem ad0_44 : ad0 b1 u b2 v t62 t63 b64 b65 b66 b67 b68 44 = u.2.1.2.2.2.2.2.2.2.2 := rfl
theorem ad0_45 : ad0 b1 u b2 v t62 t63 b64 b65 b66 b67 b68 45 = u.2.2.1 := rfl
theorem ad0_46 : ad0 b1 u b2 v t62 t63 b64 b65 b66 b67 b68 46 = u.2.2.2.1 := rfl
theorem ad0_47 : ad0 b1 u b2 v t62 t63 b64 b65 b66 b67 b68 47 = u.2.2.2.2.1.1 := rfl
theorem ad0_48 : ad0 b1 u b2 v t62 t63 b64 b65 b66 b67 b68 48 = u.2.2.2.2.1.2 := rfl
theorem ad0_49 : ad0 b1 u b2 v t62 t63 b64 b65 b66 b67 b68 49 = u.2.2.2.2.2.1.1 := rfl
theorem ad0_50 : ad0 b1 u b2 v t62 t63 b64 b65 b66 b67 b68 50 = u.2.2.2.2.2.1.2 := rfl
theorem ad0_51 : ad0 b1 u b2 v t62 t63 b64 b65 b66 b67 b68 51 = u.2.2.2.2.2.2.1 := rfl
theorem ad0_52 : ad0 b1 u b2 v t62 t63 b64 b65 b66 b67 b68 52 = u.2.2.2.2.2.2.2 := rfl
theorem ad0_53 : ad0 b1 u b2 v t62 t63 b64 b65 b66 b67 b68 53 = b2 := rfl
theorem ad0_54 : ad0 b1 u b2 v t62 t63 b64 b65 b66 b67 b68 54 = v.1 := rfl
theorem ad0_55 : ad0 b1 u b2 v t62 t63 b64 b65 b66 b67 b68 55 = v.2.1 := rfl
theorem ad0_56 : ad0 b1 u b2 v t62 t63 b64 b65 b66 b67 b68 56 = v.2.2.1 := rfl
theorem ad0_57 : ad0 b1 u b2 v t62 t63 b64 b65 b66 b67 b68 57 = v.2.2.2.1 := rfl
theorem ad0_58 : ad0 b1 u b2 v t62 t63 b64 b65 b66 b67 b68 58 = v.2.2.2.2.1 := rfl
theorem ad0_59 : ad0 b1 u b2 v t62 t63 b64 b65 b66 b67 b68 59 = v.2.2.2.2.2.1 := rfl
theorem ad0_60 : ad0 b1 u b2 v t62 t63 b64 b65 b66 b67 b68 60 = v.2.2.2.2.2.2.1 := rfl
theorem ad0_61 : ad0 b1 u b2 v t62 t63 b64 b65 b66 b67 b68 61 = v.2.2.2.2.2.2.2 := rfl
theorem ad0_62 : ad0 b1 u b2 v t62 t63 b64 b65 b66 b67 b68 62 = t62 := rfl
theorem ad0_63 : ad0 b1 u b2 v t62 t63 b64 b65 b66 b67 b68 63 = t63 := rfl
theorem ad0_64 : ad0 b1 u b2 v t62 t63 b64 b65 b66 b67 b68 64 = b64 := rfl
theorem ad0_65 : ad0 b1 u b2 v t62 t63 b64 b65 b66 b67 b68 65 = b65 := rfl
theorem ad0_66 : ad0 b1 u b2 v t62 t63 b64 b65 b66 b67 b68 66 = b66 := rfl
theorem ad0_67 : ad0 b1 u b2 v t62 t63 b64 b65 b66 b67 b68 67 = b67 := rfl
theorem ad0_68 : ad0 b1 u b2 v t62 t63 b64 b65 b66 b67 b68 68 = b68 := rfl
theorem ws1 : dm_ws (ad0 b1 u b2 v t62 t63 b64 b65 b66 b67 b68) fm cI cZ cO (SM0 L xs) = ([] ++ anW cI cO b1 u) ++ mdW cI cZ b2 v := by
  rw [ws0]
  simp only [ad0_0, ad0_1, ad0_2, ad0_3, ad0_4, ad0_5, ad0_6, ad0_7, ad0_8, ad0_9, ad0_10, ad0_11, ad0_12, ad0_13, ad0_14, ad0_15, ad0_16, ad0_17, ad0_18, ad0_19, ad0_20, ad0_21, ad0_22, ad0_23, ad0_24, ad0_25, ad0_26, ad0_27, ad0_28, ad0_29, ad0_30, ad0_31, ad0_32, ad0_33, ad0_34, ad0_35, ad0_36, ad0_37, ad0_38, ad0_39, ad0_40, ad0_41, ad0_42, ad0_43, ad0_44, ad0_45, ad0_46, ad0_47, ad0_48, ad0_49, ad0_50, ad0_51, ad0_52, ad0_53, ad0_54, ad0_55, ad0_56, ad0_57, ad0_58, ad0_59, ad0_60, ad0_61, anW, bdW, cdW, rowW, mdW, List.cons_append, List.nil_append]
end
