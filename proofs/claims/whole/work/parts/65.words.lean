def dm_GW : List Jvm.Cond := lw_tbl.filter goodWord
def dm_nest : Jvm.Cond → Bool
  | .fieldLinkNest _ _ _ _ _ _ => true
  | .methodLinkNest _ _ _ _ => true
  | _ => false
def dm_NW : List Jvm.Cond := lw_tbl.filter dm_nest
def dm_fn (ci : Nat) : u_T := match ci with
  | 0 => TX0 | 1 => TX1 | 2 => TX2 | 3 => TX3 | 4 => TX4 | 5 => TX5
  | _ => fun k => if k = 0 then ("java/lang/String", "value", "[B", true) else ("java/lang/String", "coder", "B", true)
def dm_cn (ci : Nat) : String := match ci with
  | 0 => RX0 | 1 => RX1 | 2 => RX2 | 3 => RX3 | 4 => RX4 | 5 => RX5
  | _ => "java/lang/String"
def dm_cN (ci : Nat) : Nat := match ci with
  | 0 => 11 | 1 => 5 | 2 => 5 | 3 => 2 | 4 => 9 | 5 => 22
  | _ => 2
def dm_cty (ci : Nat) : Nat → FieldType := match ci with
  | 0 => tyX0 | 1 => tyX1 | 2 => tyX2 | 3 => tyX3 | 4 => tyX4 | _ => tyX5
def dm_wF (x : String × Nat × Nat × Nat × String × Nat × Bool) : Jvm.Cond :=
  if x.2.2.2.2.1 = "" then .fieldLink x.1 x.2.1 (dm_fn x.2.2.1 x.2.2.2.1).1 (dm_fn x.2.2.1 x.2.2.2.1).2.1 (dm_fn x.2.2.1 x.2.2.2.1).2.2.1
  else .fieldLinkNest x.1 x.2.1 (dm_fn x.2.2.1 x.2.2.2.1).1 (dm_fn x.2.2.1 x.2.2.2.1).2.1 (dm_fn x.2.2.1 x.2.2.2.1).2.2.1 x.2.2.2.2.1
def dm_okF (j : Nat) : Bool := match dm_FL[j]?, dm_FLi[j]? with
  | some x, some i => decide (tables_1[i]? = some (dm_wF x)) && (decide (x.2.2.2.2.1 = "") && goodWord (dm_wF x) || decide (¬ x.2.2.2.2.1 = "") && dm_nest (dm_wF x) && decide (x.2.2.1 < 6)) && decide (x.2.2.1 < 7 ∧ x.2.2.2.1 < dm_cN x.2.2.1) &&
      decide (x.2.2.2.2.2.2 = (dm_fn x.2.2.1 x.2.2.2.1).2.2.2) && decide ((dm_fn x.2.2.1 x.2.2.2.1).1 = dm_cn x.2.2.1) &&
      decide (if x.2.2.2.2.2.1 = 0 then (dm_fn x.2.2.1 x.2.2.2.1).2.2.1 = "I" else if x.2.2.2.2.2.1 = 1 then (dm_fn x.2.2.1 x.2.2.2.1).2.2.1 = "Z" else True)
  | _, _ => false
theorem dm_okF_all : (List.range 74).all dm_okF = true := by decide +kernel
def dm_wM (x : String × Nat × Nat × String) : Jvm.Cond := if x.2.2.2 = "" then .methodLink x.1 x.2.1 (dm_y x.2.2.1) else .methodLinkNest x.1 x.2.1 (dm_y x.2.2.1) x.2.2.2
def dm_okM (j : Nat) : Bool := match dm_ML[j]?, dm_MLi[j]? with
  | some x, some i => (if x.2.2.1 < 900 then decide (tables_1[i]? = some (dm_wM x)) && (decide (x.2.2.2 = "") && goodWord (dm_wM x) || decide (¬ x.2.2.2 = "") && dm_nest (dm_wM x)) && decide (x.2.2.1 < 180)
      else if x.2.2.1 = 900 then decide (tables_1[i]? = some (.methodLink x.1 x.2.1 Lib.Math.abs.name)) && goodWord (.methodLink x.1 x.2.1 Lib.Math.abs.name)
      else decide (tables_1[i]? = some (.methodLink x.1 x.2.1 arraycopyName)) && goodWord (.methodLink x.1 x.2.1 arraycopyName))
  | _, _ => false
theorem dm_okM_all : (List.range 195).all dm_okM = true := by decide +kernel
def dm_okS (j : Nat) : Bool := match dm_SL[j]?, dm_SLi[j]? with
  | some x, some i => decide (tables_1[i]? = some (.fieldLink x.1 x.2.1 x.2.2.1 x.2.2.2.1 x.2.2.2.2.1)) && goodWord (.fieldLink x.1 x.2.1 x.2.2.1 x.2.2.2.1 x.2.2.2.2.1)
  | _, _ => false
theorem dm_okS_all : (List.range 4).all dm_okS = true := by decide +kernel
def dm_wC (x : String × Nat × Value) : Jvm.Cond := match x.2.2 with
  | .int v => .constant x.1 x.2.1 v
  | .long v => .constantLong x.1 x.2.1 v
  | _ => .tt
def dm_okC (j : Nat) : Bool := match dm_CL[j]?, dm_CLi[j]? with
  | some x, some i => (match x.2.2 with
    | .ref q => decide (x.1 = "AnyNailModel" ∧ (x.2.1 = 87 ∧ q = 65 ∨ x.2.1 = 93 ∧ q = 66))
    | .int _ => decide (tables_1[i]? = some (dm_wC x)) && goodWord (dm_wC x)
    | .long _ => decide (tables_1[i]? = some (dm_wC x)) && goodWord (dm_wC x)
    | _ => false)
  | _, _ => false
theorem dm_okC_all : (List.range 10).all dm_okC = true := by decide +kernel
/-- a method's own words: its code (but the law's), static or not, its class, which method is selected -/
def dm_okY (k : Nat) : Bool := match dm_ii[k]?, dm_ni[k]?, dm_si[k]? with
  | some b, some c, some d => decide (tables_1[c]? = some (.initialized (dm_y k).cls)) && goodWord (.initialized (dm_y k).cls) && decide (plainName (dm_y k).cls = true) &&
      decide ((dm_y k).cls ≠ "java/lang/invoke/MethodHandle" ∧ (dm_y k).cls ≠ "java/lang/invoke/VarHandle") && decide (dm_ml k ≤ 12) &&
      (if dm_sta k = true then decide (tables_1[b]? = some (.static (dm_y k))) && goodWord (.static (dm_y k)) && decide ((parseMethodDescriptor (dm_y k).desc).map (fun d => d.parameters.length) = some (dm_na k))
       else decide (tables_1[b]? = some (.instanceMethod (dm_y k))) && goodWord (.instanceMethod (dm_y k)) && decide ((parseMethodDescriptor (dm_y k).desc).map (fun d => d.parameters.length + 1) = some (dm_na k)) &&
         decide ((if d < 1000 then tables_1[d]? else (k2_sels lw_privs)[d - 1000]?) = some (.selects (dm_y k).cls (dm_y k) (dm_y k))) && goodWord (.selects (dm_y k).cls (dm_y k) (dm_y k)) && decide (dm_cl k < 7 ∧ (dm_y k).cls = dm_cn (dm_cl k)))
  | _, _, _ => false
theorem dm_okY_0 : dm_okY 0 = true := by decide +kernel
set_option maxRecDepth 100000 in
theorem dm_okc_0 : tables_1[dm_ci.getD 0 0]? = some (.code (dm_y 0) (dm_b 0) (dm_ml 0) (dm_rt 0)) := by rfl
theorem dm_okY_1 : dm_okY 1 = true := by decide +kernel
set_option maxRecDepth 100000 in
theorem dm_okc_1 : tables_1[dm_ci.getD 1 0]? = some (.code (dm_y 1) (dm_b 1) (dm_ml 1) (dm_rt 1)) := by rfl
theorem dm_okY_2 : dm_okY 2 = true := by decide +kernel
set_option maxRecDepth 100000 in
theorem dm_okc_2 : tables_1[dm_ci.getD 2 0]? = some (.code (dm_y 2) (dm_b 2) (dm_ml 2) (dm_rt 2)) := by rfl
theorem dm_okY_3 : dm_okY 3 = true := by decide +kernel
set_option maxRecDepth 100000 in
theorem dm_okc_3 : tables_1[dm_ci.getD 3 0]? = some (.code (dm_y 3) (dm_b 3) (dm_ml 3) (dm_rt 3)) := by rfl
theorem dm_okY_4 : dm_okY 4 = true := by decide +kernel
set_option maxRecDepth 100000 in
theorem dm_okc_4 : tables_1[dm_ci.getD 4 0]? = some (.code (dm_y 4) (dm_b 4) (dm_ml 4) (dm_rt 4)) := by rfl
theorem dm_okY_5 : dm_okY 5 = true := by decide +kernel
set_option maxRecDepth 100000 in
theorem dm_okc_5 : tables_1[dm_ci.getD 5 0]? = some (.code (dm_y 5) (dm_b 5) (dm_ml 5) (dm_rt 5)) := by rfl
theorem dm_okY_6 : dm_okY 6 = true := by decide +kernel
set_option maxRecDepth 100000 in
theorem dm_okc_6 : tables_1[dm_ci.getD 6 0]? = some (.code (dm_y 6) (dm_b 6) (dm_ml 6) (dm_rt 6)) := by rfl
theorem dm_okY_7 : dm_okY 7 = true := by decide +kernel
set_option maxRecDepth 100000 in
theorem dm_okc_7 : tables_1[dm_ci.getD 7 0]? = some (.code (dm_y 7) (dm_b 7) (dm_ml 7) (dm_rt 7)) := by rfl
theorem dm_okY_8 : dm_okY 8 = true := by decide +kernel
set_option maxRecDepth 100000 in
theorem dm_okc_8 : tables_1[dm_ci.getD 8 0]? = some (.code (dm_y 8) (dm_b 8) (dm_ml 8) (dm_rt 8)) := by rfl
theorem dm_okY_9 : dm_okY 9 = true := by decide +kernel
set_option maxRecDepth 100000 in
theorem dm_okc_9 : tables_1[dm_ci.getD 9 0]? = some (.code (dm_y 9) (dm_b 9) (dm_ml 9) (dm_rt 9)) := by rfl
theorem dm_okY_10 : dm_okY 10 = true := by decide +kernel
set_option maxRecDepth 100000 in
theorem dm_okc_10 : tables_1[dm_ci.getD 10 0]? = some (.code (dm_y 10) (dm_b 10) (dm_ml 10) (dm_rt 10)) := by rfl
theorem dm_okY_11 : dm_okY 11 = true := by decide +kernel
set_option maxRecDepth 100000 in
theorem dm_okc_11 : tables_1[dm_ci.getD 11 0]? = some (.code (dm_y 11) (dm_b 11) (dm_ml 11) (dm_rt 11)) := by rfl
theorem dm_okY_12 : dm_okY 12 = true := by decide +kernel
set_option maxRecDepth 100000 in
theorem dm_okc_12 : tables_1[dm_ci.getD 12 0]? = some (.code (dm_y 12) (dm_b 12) (dm_ml 12) (dm_rt 12)) := by rfl
theorem dm_okY_13 : dm_okY 13 = true := by decide +kernel
set_option maxRecDepth 100000 in
theorem dm_okc_13 : tables_1[dm_ci.getD 13 0]? = some (.code (dm_y 13) (dm_b 13) (dm_ml 13) (dm_rt 13)) := by rfl
theorem dm_okY_14 : dm_okY 14 = true := by decide +kernel
set_option maxRecDepth 100000 in
theorem dm_okc_14 : tables_1[dm_ci.getD 14 0]? = some (.code (dm_y 14) (dm_b 14) (dm_ml 14) (dm_rt 14)) := by rfl
theorem dm_okY_15 : dm_okY 15 = true := by decide +kernel
set_option maxRecDepth 100000 in
theorem dm_okc_15 : tables_1[dm_ci.getD 15 0]? = some (.code (dm_y 15) (dm_b 15) (dm_ml 15) (dm_rt 15)) := by rfl
theorem dm_okY_16 : dm_okY 16 = true := by decide +kernel
set_option maxRecDepth 100000 in
theorem dm_okc_16 : tables_1[dm_ci.getD 16 0]? = some (.code (dm_y 16) (dm_b 16) (dm_ml 16) (dm_rt 16)) := by rfl
theorem dm_okY_17 : dm_okY 17 = true := by decide +kernel
set_option maxRecDepth 100000 in
theorem dm_okc_17 : tables_1[dm_ci.getD 17 0]? = some (.code (dm_y 17) (dm_b 17) (dm_ml 17) (dm_rt 17)) := by rfl
theorem dm_okY_18 : dm_okY 18 = true := by decide +kernel
set_option maxRecDepth 100000 in
theorem dm_okc_18 : tables_1[dm_ci.getD 18 0]? = some (.code (dm_y 18) (dm_b 18) (dm_ml 18) (dm_rt 18)) := by rfl
theorem dm_okY_19 : dm_okY 19 = true := by decide +kernel
set_option maxRecDepth 100000 in
theorem dm_okc_19 : tables_1[dm_ci.getD 19 0]? = some (.code (dm_y 19) (dm_b 19) (dm_ml 19) (dm_rt 19)) := by rfl
theorem dm_okY_20 : dm_okY 20 = true := by decide +kernel
set_option maxRecDepth 100000 in
theorem dm_okc_20 : tables_1[dm_ci.getD 20 0]? = some (.code (dm_y 20) (dm_b 20) (dm_ml 20) (dm_rt 20)) := by rfl
theorem dm_okY_21 : dm_okY 21 = true := by decide +kernel
set_option maxRecDepth 100000 in
theorem dm_okc_21 : tables_1[dm_ci.getD 21 0]? = some (.code (dm_y 21) (dm_b 21) (dm_ml 21) (dm_rt 21)) := by rfl
theorem dm_okY_22 : dm_okY 22 = true := by decide +kernel
set_option maxRecDepth 100000 in
theorem dm_okc_22 : tables_1[dm_ci.getD 22 0]? = some (.code (dm_y 22) (dm_b 22) (dm_ml 22) (dm_rt 22)) := by rfl
theorem dm_okY_23 : dm_okY 23 = true := by decide +kernel
set_option maxRecDepth 100000 in
theorem dm_okc_23 : tables_1[dm_ci.getD 23 0]? = some (.code (dm_y 23) (dm_b 23) (dm_ml 23) (dm_rt 23)) := by rfl
theorem dm_okY_24 : dm_okY 24 = true := by decide +kernel
set_option maxRecDepth 100000 in
theorem dm_okc_24 : tables_1[dm_ci.getD 24 0]? = some (.code (dm_y 24) (dm_b 24) (dm_ml 24) (dm_rt 24)) := by rfl
theorem dm_okY_25 : dm_okY 25 = true := by decide +kernel
set_option maxRecDepth 100000 in
theorem dm_okc_25 : tables_1[dm_ci.getD 25 0]? = some (.code (dm_y 25) (dm_b 25) (dm_ml 25) (dm_rt 25)) := by rfl
theorem dm_okY_26 : dm_okY 26 = true := by decide +kernel
set_option maxRecDepth 100000 in
theorem dm_okc_26 : tables_1[dm_ci.getD 26 0]? = some (.code (dm_y 26) (dm_b 26) (dm_ml 26) (dm_rt 26)) := by rfl
theorem dm_okY_27 : dm_okY 27 = true := by decide +kernel
set_option maxRecDepth 100000 in
theorem dm_okc_27 : tables_1[dm_ci.getD 27 0]? = some (.code (dm_y 27) (dm_b 27) (dm_ml 27) (dm_rt 27)) := by rfl
theorem dm_okY_28 : dm_okY 28 = true := by decide +kernel
set_option maxRecDepth 100000 in
theorem dm_okc_28 : tables_1[dm_ci.getD 28 0]? = some (.code (dm_y 28) (dm_b 28) (dm_ml 28) (dm_rt 28)) := by rfl
theorem dm_okY_29 : dm_okY 29 = true := by decide +kernel
set_option maxRecDepth 100000 in
theorem dm_okc_29 : tables_1[dm_ci.getD 29 0]? = some (.code (dm_y 29) (dm_b 29) (dm_ml 29) (dm_rt 29)) := by rfl
theorem dm_okY_30 : dm_okY 30 = true := by decide +kernel
set_option maxRecDepth 100000 in
theorem dm_okc_30 : tables_1[dm_ci.getD 30 0]? = some (.code (dm_y 30) (dm_b 30) (dm_ml 30) (dm_rt 30)) := by rfl
theorem dm_okY_31 : dm_okY 31 = true := by decide +kernel
set_option maxRecDepth 100000 in
theorem dm_okc_31 : tables_1[dm_ci.getD 31 0]? = some (.code (dm_y 31) (dm_b 31) (dm_ml 31) (dm_rt 31)) := by rfl
theorem dm_okY_32 : dm_okY 32 = true := by decide +kernel
set_option maxRecDepth 100000 in
theorem dm_okc_32 : tables_1[dm_ci.getD 32 0]? = some (.code (dm_y 32) (dm_b 32) (dm_ml 32) (dm_rt 32)) := by rfl
theorem dm_okY_33 : dm_okY 33 = true := by decide +kernel
set_option maxRecDepth 100000 in
theorem dm_okc_33 : tables_1[dm_ci.getD 33 0]? = some (.code (dm_y 33) (dm_b 33) (dm_ml 33) (dm_rt 33)) := by rfl
theorem dm_okY_34 : dm_okY 34 = true := by decide +kernel
set_option maxRecDepth 100000 in
theorem dm_okc_34 : tables_1[dm_ci.getD 34 0]? = some (.code (dm_y 34) (dm_b 34) (dm_ml 34) (dm_rt 34)) := by rfl
theorem dm_okY_35 : dm_okY 35 = true := by decide +kernel
set_option maxRecDepth 100000 in
theorem dm_okc_35 : tables_1[dm_ci.getD 35 0]? = some (.code (dm_y 35) (dm_b 35) (dm_ml 35) (dm_rt 35)) := by rfl
theorem dm_okY_36 : dm_okY 36 = true := by decide +kernel
set_option maxRecDepth 100000 in
theorem dm_okc_36 : tables_1[dm_ci.getD 36 0]? = some (.code (dm_y 36) (dm_b 36) (dm_ml 36) (dm_rt 36)) := by rfl
theorem dm_okY_37 : dm_okY 37 = true := by decide +kernel
set_option maxRecDepth 100000 in
theorem dm_okc_37 : tables_1[dm_ci.getD 37 0]? = some (.code (dm_y 37) (dm_b 37) (dm_ml 37) (dm_rt 37)) := by rfl
theorem dm_okY_38 : dm_okY 38 = true := by decide +kernel
set_option maxRecDepth 100000 in
theorem dm_okc_38 : tables_1[dm_ci.getD 38 0]? = some (.code (dm_y 38) (dm_b 38) (dm_ml 38) (dm_rt 38)) := by rfl
theorem dm_okY_39 : dm_okY 39 = true := by decide +kernel
set_option maxRecDepth 100000 in
theorem dm_okc_39 : tables_1[dm_ci.getD 39 0]? = some (.code (dm_y 39) (dm_b 39) (dm_ml 39) (dm_rt 39)) := by rfl
theorem dm_okY_40 : dm_okY 40 = true := by decide +kernel
set_option maxRecDepth 100000 in
theorem dm_okc_40 : tables_1[dm_ci.getD 40 0]? = some (.code (dm_y 40) (dm_b 40) (dm_ml 40) (dm_rt 40)) := by rfl
theorem dm_okY_41 : dm_okY 41 = true := by decide +kernel
set_option maxRecDepth 100000 in
theorem dm_okc_41 : tables_1[dm_ci.getD 41 0]? = some (.code (dm_y 41) (dm_b 41) (dm_ml 41) (dm_rt 41)) := by rfl
theorem dm_okY_42 : dm_okY 42 = true := by decide +kernel
set_option maxRecDepth 100000 in
theorem dm_okc_42 : tables_1[dm_ci.getD 42 0]? = some (.code (dm_y 42) (dm_b 42) (dm_ml 42) (dm_rt 42)) := by rfl
theorem dm_okY_43 : dm_okY 43 = true := by decide +kernel
set_option maxRecDepth 100000 in
theorem dm_okc_43 : tables_1[dm_ci.getD 43 0]? = some (.code (dm_y 43) (dm_b 43) (dm_ml 43) (dm_rt 43)) := by rfl
theorem dm_okY_44 : dm_okY 44 = true := by decide +kernel
set_option maxRecDepth 100000 in
theorem dm_okc_44 : tables_1[dm_ci.getD 44 0]? = some (.code (dm_y 44) (dm_b 44) (dm_ml 44) (dm_rt 44)) := by rfl
theorem dm_okY_45 : dm_okY 45 = true := by decide +kernel
set_option maxRecDepth 100000 in
theorem dm_okc_45 : tables_1[dm_ci.getD 45 0]? = some (.code (dm_y 45) (dm_b 45) (dm_ml 45) (dm_rt 45)) := by rfl
theorem dm_okY_46 : dm_okY 46 = true := by decide +kernel
set_option maxRecDepth 100000 in
theorem dm_okc_46 : tables_1[dm_ci.getD 46 0]? = some (.code (dm_y 46) (dm_b 46) (dm_ml 46) (dm_rt 46)) := by rfl
theorem dm_okY_47 : dm_okY 47 = true := by decide +kernel
set_option maxRecDepth 100000 in
theorem dm_okc_47 : tables_1[dm_ci.getD 47 0]? = some (.code (dm_y 47) (dm_b 47) (dm_ml 47) (dm_rt 47)) := by rfl
theorem dm_okY_48 : dm_okY 48 = true := by decide +kernel
set_option maxRecDepth 100000 in
theorem dm_okc_48 : tables_1[dm_ci.getD 48 0]? = some (.code (dm_y 48) (dm_b 48) (dm_ml 48) (dm_rt 48)) := by rfl
theorem dm_okY_49 : dm_okY 49 = true := by decide +kernel
set_option maxRecDepth 100000 in
theorem dm_okc_49 : tables_1[dm_ci.getD 49 0]? = some (.code (dm_y 49) (dm_b 49) (dm_ml 49) (dm_rt 49)) := by rfl
theorem dm_okY_50 : dm_okY 50 = true := by decide +kernel
set_option maxRecDepth 100000 in
theorem dm_okc_50 : tables_1[dm_ci.getD 50 0]? = some (.code (dm_y 50) (dm_b 50) (dm_ml 50) (dm_rt 50)) := by rfl
theorem dm_okY_51 : dm_okY 51 = true := by decide +kernel
set_option maxRecDepth 100000 in
theorem dm_okc_51 : tables_1[dm_ci.getD 51 0]? = some (.code (dm_y 51) (dm_b 51) (dm_ml 51) (dm_rt 51)) := by rfl
theorem dm_okY_52 : dm_okY 52 = true := by decide +kernel
set_option maxRecDepth 100000 in
theorem dm_okc_52 : tables_1[dm_ci.getD 52 0]? = some (.code (dm_y 52) (dm_b 52) (dm_ml 52) (dm_rt 52)) := by rfl
theorem dm_okY_53 : dm_okY 53 = true := by decide +kernel
set_option maxRecDepth 100000 in
theorem dm_okc_53 : tables_1[dm_ci.getD 53 0]? = some (.code (dm_y 53) (dm_b 53) (dm_ml 53) (dm_rt 53)) := by rfl
theorem dm_okY_54 : dm_okY 54 = true := by decide +kernel
set_option maxRecDepth 100000 in
theorem dm_okc_54 : tables_1[dm_ci.getD 54 0]? = some (.code (dm_y 54) (dm_b 54) (dm_ml 54) (dm_rt 54)) := by rfl
theorem dm_okY_55 : dm_okY 55 = true := by decide +kernel
set_option maxRecDepth 100000 in
theorem dm_okc_55 : tables_1[dm_ci.getD 55 0]? = some (.code (dm_y 55) (dm_b 55) (dm_ml 55) (dm_rt 55)) := by rfl
theorem dm_okY_56 : dm_okY 56 = true := by decide +kernel
set_option maxRecDepth 100000 in
theorem dm_okc_56 : tables_1[dm_ci.getD 56 0]? = some (.code (dm_y 56) (dm_b 56) (dm_ml 56) (dm_rt 56)) := by rfl
theorem dm_okY_57 : dm_okY 57 = true := by decide +kernel
set_option maxRecDepth 100000 in
theorem dm_okc_57 : tables_1[dm_ci.getD 57 0]? = some (.code (dm_y 57) (dm_b 57) (dm_ml 57) (dm_rt 57)) := by rfl
theorem dm_okY_58 : dm_okY 58 = true := by decide +kernel
set_option maxRecDepth 100000 in
theorem dm_okc_58 : tables_1[dm_ci.getD 58 0]? = some (.code (dm_y 58) (dm_b 58) (dm_ml 58) (dm_rt 58)) := by rfl
theorem dm_okY_59 : dm_okY 59 = true := by decide +kernel
set_option maxRecDepth 100000 in
theorem dm_okc_59 : tables_1[dm_ci.getD 59 0]? = some (.code (dm_y 59) (dm_b 59) (dm_ml 59) (dm_rt 59)) := by rfl
theorem dm_okY_60 : dm_okY 60 = true := by decide +kernel
set_option maxRecDepth 100000 in
theorem dm_okc_60 : tables_1[dm_ci.getD 60 0]? = some (.code (dm_y 60) (dm_b 60) (dm_ml 60) (dm_rt 60)) := by rfl
theorem dm_okY_61 : dm_okY 61 = true := by decide +kernel
set_option maxRecDepth 100000 in
theorem dm_okc_61 : tables_1[dm_ci.getD 61 0]? = some (.code (dm_y 61) (dm_b 61) (dm_ml 61) (dm_rt 61)) := by rfl
theorem dm_okY_62 : dm_okY 62 = true := by decide +kernel
set_option maxRecDepth 100000 in
theorem dm_okc_62 : tables_1[dm_ci.getD 62 0]? = some (.code (dm_y 62) (dm_b 62) (dm_ml 62) (dm_rt 62)) := by rfl
theorem dm_okY_63 : dm_okY 63 = true := by decide +kernel
set_option maxRecDepth 100000 in
theorem dm_okc_63 : tables_1[dm_ci.getD 63 0]? = some (.code (dm_y 63) (dm_b 63) (dm_ml 63) (dm_rt 63)) := by rfl
theorem dm_okY_64 : dm_okY 64 = true := by decide +kernel
set_option maxRecDepth 100000 in
theorem dm_okc_64 : tables_1[dm_ci.getD 64 0]? = some (.code (dm_y 64) (dm_b 64) (dm_ml 64) (dm_rt 64)) := by rfl
theorem dm_okY_65 : dm_okY 65 = true := by decide +kernel
set_option maxRecDepth 100000 in
theorem dm_okc_65 : tables_1[dm_ci.getD 65 0]? = some (.code (dm_y 65) (dm_b 65) (dm_ml 65) (dm_rt 65)) := by rfl
theorem dm_okY_66 : dm_okY 66 = true := by decide +kernel
set_option maxRecDepth 100000 in
theorem dm_okc_66 : tables_1[dm_ci.getD 66 0]? = some (.code (dm_y 66) (dm_b 66) (dm_ml 66) (dm_rt 66)) := by rfl
theorem dm_okY_67 : dm_okY 67 = true := by decide +kernel
set_option maxRecDepth 100000 in
theorem dm_okc_67 : tables_1[dm_ci.getD 67 0]? = some (.code (dm_y 67) (dm_b 67) (dm_ml 67) (dm_rt 67)) := by rfl
theorem dm_okY_68 : dm_okY 68 = true := by decide +kernel
set_option maxRecDepth 100000 in
theorem dm_okc_68 : tables_1[dm_ci.getD 68 0]? = some (.code (dm_y 68) (dm_b 68) (dm_ml 68) (dm_rt 68)) := by rfl
theorem dm_okY_69 : dm_okY 69 = true := by decide +kernel
set_option maxRecDepth 100000 in
theorem dm_okc_69 : tables_1[dm_ci.getD 69 0]? = some (.code (dm_y 69) (dm_b 69) (dm_ml 69) (dm_rt 69)) := by rfl
theorem dm_okY_70 : dm_okY 70 = true := by decide +kernel
set_option maxRecDepth 100000 in
theorem dm_okc_70 : tables_1[dm_ci.getD 70 0]? = some (.code (dm_y 70) (dm_b 70) (dm_ml 70) (dm_rt 70)) := by rfl
theorem dm_okY_71 : dm_okY 71 = true := by decide +kernel
set_option maxRecDepth 100000 in
theorem dm_okc_71 : tables_1[dm_ci.getD 71 0]? = some (.code (dm_y 71) (dm_b 71) (dm_ml 71) (dm_rt 71)) := by rfl
theorem dm_okY_72 : dm_okY 72 = true := by decide +kernel
set_option maxRecDepth 100000 in
theorem dm_okc_72 : tables_1[dm_ci.getD 72 0]? = some (.code (dm_y 72) (dm_b 72) (dm_ml 72) (dm_rt 72)) := by rfl
theorem dm_okY_73 : dm_okY 73 = true := by decide +kernel
set_option maxRecDepth 100000 in
theorem dm_okc_73 : tables_1[dm_ci.getD 73 0]? = some (.code (dm_y 73) (dm_b 73) (dm_ml 73) (dm_rt 73)) := by rfl
theorem dm_okY_74 : dm_okY 74 = true := by decide +kernel
set_option maxRecDepth 100000 in
theorem dm_okc_74 : tables_1[dm_ci.getD 74 0]? = some (.code (dm_y 74) (dm_b 74) (dm_ml 74) (dm_rt 74)) := by rfl
theorem dm_okY_75 : dm_okY 75 = true := by decide +kernel
set_option maxRecDepth 100000 in
theorem dm_okc_75 : tables_1[dm_ci.getD 75 0]? = some (.code (dm_y 75) (dm_b 75) (dm_ml 75) (dm_rt 75)) := by rfl
theorem dm_okY_76 : dm_okY 76 = true := by decide +kernel
set_option maxRecDepth 100000 in
theorem dm_okc_76 : tables_1[dm_ci.getD 76 0]? = some (.code (dm_y 76) (dm_b 76) (dm_ml 76) (dm_rt 76)) := by rfl
theorem dm_okY_77 : dm_okY 77 = true := by decide +kernel
set_option maxRecDepth 100000 in
theorem dm_okc_77 : tables_1[dm_ci.getD 77 0]? = some (.code (dm_y 77) (dm_b 77) (dm_ml 77) (dm_rt 77)) := by rfl
theorem dm_okY_78 : dm_okY 78 = true := by decide +kernel
set_option maxRecDepth 100000 in
theorem dm_okc_78 : tables_1[dm_ci.getD 78 0]? = some (.code (dm_y 78) (dm_b 78) (dm_ml 78) (dm_rt 78)) := by rfl
theorem dm_okY_79 : dm_okY 79 = true := by decide +kernel
set_option maxRecDepth 100000 in
theorem dm_okc_79 : tables_1[dm_ci.getD 79 0]? = some (.code (dm_y 79) (dm_b 79) (dm_ml 79) (dm_rt 79)) := by rfl
theorem dm_okY_80 : dm_okY 80 = true := by decide +kernel
set_option maxRecDepth 100000 in
theorem dm_okc_80 : tables_1[dm_ci.getD 80 0]? = some (.code (dm_y 80) (dm_b 80) (dm_ml 80) (dm_rt 80)) := by rfl
theorem dm_okY_81 : dm_okY 81 = true := by decide +kernel
set_option maxRecDepth 100000 in
theorem dm_okc_81 : tables_1[dm_ci.getD 81 0]? = some (.code (dm_y 81) (dm_b 81) (dm_ml 81) (dm_rt 81)) := by rfl
theorem dm_okY_82 : dm_okY 82 = true := by decide +kernel
set_option maxRecDepth 100000 in
theorem dm_okc_82 : tables_1[dm_ci.getD 82 0]? = some (.code (dm_y 82) (dm_b 82) (dm_ml 82) (dm_rt 82)) := by rfl
theorem dm_okY_83 : dm_okY 83 = true := by decide +kernel
set_option maxRecDepth 100000 in
theorem dm_okc_83 : tables_1[dm_ci.getD 83 0]? = some (.code (dm_y 83) (dm_b 83) (dm_ml 83) (dm_rt 83)) := by rfl
theorem dm_okY_84 : dm_okY 84 = true := by decide +kernel
set_option maxRecDepth 100000 in
theorem dm_okc_84 : tables_1[dm_ci.getD 84 0]? = some (.code (dm_y 84) (dm_b 84) (dm_ml 84) (dm_rt 84)) := by rfl
theorem dm_okY_85 : dm_okY 85 = true := by decide +kernel
set_option maxRecDepth 100000 in
theorem dm_okc_85 : tables_1[dm_ci.getD 85 0]? = some (.code (dm_y 85) (dm_b 85) (dm_ml 85) (dm_rt 85)) := by rfl
theorem dm_okY_86 : dm_okY 86 = true := by decide +kernel
set_option maxRecDepth 100000 in
theorem dm_okc_86 : tables_1[dm_ci.getD 86 0]? = some (.code (dm_y 86) (dm_b 86) (dm_ml 86) (dm_rt 86)) := by rfl
theorem dm_okY_87 : dm_okY 87 = true := by decide +kernel
set_option maxRecDepth 100000 in
theorem dm_okc_87 : tables_1[dm_ci.getD 87 0]? = some (.code (dm_y 87) (dm_b 87) (dm_ml 87) (dm_rt 87)) := by rfl
theorem dm_okY_88 : dm_okY 88 = true := by decide +kernel
set_option maxRecDepth 100000 in
theorem dm_okc_88 : tables_1[dm_ci.getD 88 0]? = some (.code (dm_y 88) (dm_b 88) (dm_ml 88) (dm_rt 88)) := by rfl
theorem dm_okY_89 : dm_okY 89 = true := by decide +kernel
set_option maxRecDepth 100000 in
theorem dm_okc_89 : tables_1[dm_ci.getD 89 0]? = some (.code (dm_y 89) (dm_b 89) (dm_ml 89) (dm_rt 89)) := by rfl
theorem dm_okY_90 : dm_okY 90 = true := by decide +kernel
set_option maxRecDepth 100000 in
theorem dm_okc_90 : tables_1[dm_ci.getD 90 0]? = some (.code (dm_y 90) (dm_b 90) (dm_ml 90) (dm_rt 90)) := by rfl
theorem dm_okY_91 : dm_okY 91 = true := by decide +kernel
set_option maxRecDepth 100000 in
theorem dm_okc_91 : tables_1[dm_ci.getD 91 0]? = some (.code (dm_y 91) (dm_b 91) (dm_ml 91) (dm_rt 91)) := by rfl
theorem dm_okY_92 : dm_okY 92 = true := by decide +kernel
set_option maxRecDepth 100000 in
theorem dm_okc_92 : tables_1[dm_ci.getD 92 0]? = some (.code (dm_y 92) (dm_b 92) (dm_ml 92) (dm_rt 92)) := by rfl
theorem dm_okY_93 : dm_okY 93 = true := by decide +kernel
set_option maxRecDepth 100000 in
theorem dm_okc_93 : tables_1[dm_ci.getD 93 0]? = some (.code (dm_y 93) (dm_b 93) (dm_ml 93) (dm_rt 93)) := by rfl
theorem dm_okY_94 : dm_okY 94 = true := by decide +kernel
set_option maxRecDepth 100000 in
theorem dm_okc_94 : tables_1[dm_ci.getD 94 0]? = some (.code (dm_y 94) (dm_b 94) (dm_ml 94) (dm_rt 94)) := by rfl
theorem dm_okY_95 : dm_okY 95 = true := by decide +kernel
set_option maxRecDepth 100000 in
theorem dm_okc_95 : tables_1[dm_ci.getD 95 0]? = some (.code (dm_y 95) (dm_b 95) (dm_ml 95) (dm_rt 95)) := by rfl
theorem dm_okY_96 : dm_okY 96 = true := by decide +kernel
set_option maxRecDepth 100000 in
theorem dm_okc_96 : tables_1[dm_ci.getD 96 0]? = some (.code (dm_y 96) (dm_b 96) (dm_ml 96) (dm_rt 96)) := by rfl
theorem dm_okY_97 : dm_okY 97 = true := by decide +kernel
set_option maxRecDepth 100000 in
theorem dm_okc_97 : tables_1[dm_ci.getD 97 0]? = some (.code (dm_y 97) (dm_b 97) (dm_ml 97) (dm_rt 97)) := by rfl
theorem dm_okY_98 : dm_okY 98 = true := by decide +kernel
set_option maxRecDepth 100000 in
theorem dm_okc_98 : tables_1[dm_ci.getD 98 0]? = some (.code (dm_y 98) (dm_b 98) (dm_ml 98) (dm_rt 98)) := by rfl
theorem dm_okY_99 : dm_okY 99 = true := by decide +kernel
set_option maxRecDepth 100000 in
theorem dm_okc_99 : tables_1[dm_ci.getD 99 0]? = some (.code (dm_y 99) (dm_b 99) (dm_ml 99) (dm_rt 99)) := by rfl
theorem dm_okY_100 : dm_okY 100 = true := by decide +kernel
set_option maxRecDepth 100000 in
theorem dm_okc_100 : tables_1[dm_ci.getD 100 0]? = some (.code (dm_y 100) (dm_b 100) (dm_ml 100) (dm_rt 100)) := by rfl
theorem dm_okY_101 : dm_okY 101 = true := by decide +kernel
set_option maxRecDepth 100000 in
theorem dm_okc_101 : tables_1[dm_ci.getD 101 0]? = some (.code (dm_y 101) (dm_b 101) (dm_ml 101) (dm_rt 101)) := by rfl
theorem dm_okY_102 : dm_okY 102 = true := by decide +kernel
set_option maxRecDepth 100000 in
theorem dm_okc_102 : tables_1[dm_ci.getD 102 0]? = some (.code (dm_y 102) (dm_b 102) (dm_ml 102) (dm_rt 102)) := by rfl
theorem dm_okY_103 : dm_okY 103 = true := by decide +kernel
set_option maxRecDepth 100000 in
theorem dm_okc_103 : tables_1[dm_ci.getD 103 0]? = some (.code (dm_y 103) (dm_b 103) (dm_ml 103) (dm_rt 103)) := by rfl
theorem dm_okY_104 : dm_okY 104 = true := by decide +kernel
set_option maxRecDepth 100000 in
theorem dm_okc_104 : tables_1[dm_ci.getD 104 0]? = some (.code (dm_y 104) (dm_b 104) (dm_ml 104) (dm_rt 104)) := by rfl
theorem dm_okY_105 : dm_okY 105 = true := by decide +kernel
set_option maxRecDepth 100000 in
theorem dm_okc_105 : tables_1[dm_ci.getD 105 0]? = some (.code (dm_y 105) (dm_b 105) (dm_ml 105) (dm_rt 105)) := by rfl
theorem dm_okY_106 : dm_okY 106 = true := by decide +kernel
set_option maxRecDepth 100000 in
theorem dm_okc_106 : tables_1[dm_ci.getD 106 0]? = some (.code (dm_y 106) (dm_b 106) (dm_ml 106) (dm_rt 106)) := by rfl
theorem dm_okY_107 : dm_okY 107 = true := by decide +kernel
set_option maxRecDepth 100000 in
theorem dm_okc_107 : tables_1[dm_ci.getD 107 0]? = some (.code (dm_y 107) (dm_b 107) (dm_ml 107) (dm_rt 107)) := by rfl
theorem dm_okY_108 : dm_okY 108 = true := by decide +kernel
set_option maxRecDepth 100000 in
theorem dm_okc_108 : tables_1[dm_ci.getD 108 0]? = some (.code (dm_y 108) (dm_b 108) (dm_ml 108) (dm_rt 108)) := by rfl
theorem dm_okY_109 : dm_okY 109 = true := by decide +kernel
set_option maxRecDepth 100000 in
theorem dm_okc_109 : tables_1[dm_ci.getD 109 0]? = some (.code (dm_y 109) (dm_b 109) (dm_ml 109) (dm_rt 109)) := by rfl
theorem dm_okY_110 : dm_okY 110 = true := by decide +kernel
set_option maxRecDepth 100000 in
theorem dm_okc_110 : tables_1[dm_ci.getD 110 0]? = some (.code (dm_y 110) (dm_b 110) (dm_ml 110) (dm_rt 110)) := by rfl
theorem dm_okY_111 : dm_okY 111 = true := by decide +kernel
set_option maxRecDepth 100000 in
theorem dm_okc_111 : tables_1[dm_ci.getD 111 0]? = some (.code (dm_y 111) (dm_b 111) (dm_ml 111) (dm_rt 111)) := by rfl
theorem dm_okY_112 : dm_okY 112 = true := by decide +kernel
set_option maxRecDepth 100000 in
theorem dm_okc_112 : tables_1[dm_ci.getD 112 0]? = some (.code (dm_y 112) (dm_b 112) (dm_ml 112) (dm_rt 112)) := by rfl
theorem dm_okY_113 : dm_okY 113 = true := by decide +kernel
set_option maxRecDepth 100000 in
theorem dm_okc_113 : tables_1[dm_ci.getD 113 0]? = some (.code (dm_y 113) (dm_b 113) (dm_ml 113) (dm_rt 113)) := by rfl
theorem dm_okY_114 : dm_okY 114 = true := by decide +kernel
set_option maxRecDepth 100000 in
theorem dm_okc_114 : tables_1[dm_ci.getD 114 0]? = some (.code (dm_y 114) (dm_b 114) (dm_ml 114) (dm_rt 114)) := by rfl
theorem dm_okY_115 : dm_okY 115 = true := by decide +kernel
set_option maxRecDepth 100000 in
theorem dm_okc_115 : tables_1[dm_ci.getD 115 0]? = some (.code (dm_y 115) (dm_b 115) (dm_ml 115) (dm_rt 115)) := by rfl
theorem dm_okY_116 : dm_okY 116 = true := by decide +kernel
set_option maxRecDepth 100000 in
theorem dm_okc_116 : tables_1[dm_ci.getD 116 0]? = some (.code (dm_y 116) (dm_b 116) (dm_ml 116) (dm_rt 116)) := by rfl
theorem dm_okY_117 : dm_okY 117 = true := by decide +kernel
set_option maxRecDepth 100000 in
theorem dm_okc_117 : tables_1[dm_ci.getD 117 0]? = some (.code (dm_y 117) (dm_b 117) (dm_ml 117) (dm_rt 117)) := by rfl
theorem dm_okY_118 : dm_okY 118 = true := by decide +kernel
set_option maxRecDepth 100000 in
theorem dm_okc_118 : tables_1[dm_ci.getD 118 0]? = some (.code (dm_y 118) (dm_b 118) (dm_ml 118) (dm_rt 118)) := by rfl
theorem dm_okY_119 : dm_okY 119 = true := by decide +kernel
set_option maxRecDepth 100000 in
theorem dm_okc_119 : tables_1[dm_ci.getD 119 0]? = some (.code (dm_y 119) (dm_b 119) (dm_ml 119) (dm_rt 119)) := by rfl
theorem dm_okY_120 : dm_okY 120 = true := by decide +kernel
set_option maxRecDepth 100000 in
theorem dm_okc_120 : tables_1[dm_ci.getD 120 0]? = some (.code (dm_y 120) (dm_b 120) (dm_ml 120) (dm_rt 120)) := by rfl
theorem dm_okY_121 : dm_okY 121 = true := by decide +kernel
set_option maxRecDepth 100000 in
theorem dm_okc_121 : tables_1[dm_ci.getD 121 0]? = some (.code (dm_y 121) (dm_b 121) (dm_ml 121) (dm_rt 121)) := by rfl
theorem dm_okY_122 : dm_okY 122 = true := by decide +kernel
set_option maxRecDepth 100000 in
theorem dm_okc_122 : tables_1[dm_ci.getD 122 0]? = some (.code (dm_y 122) (dm_b 122) (dm_ml 122) (dm_rt 122)) := by rfl
theorem dm_okY_123 : dm_okY 123 = true := by decide +kernel
set_option maxRecDepth 100000 in
theorem dm_okc_123 : tables_1[dm_ci.getD 123 0]? = some (.code (dm_y 123) (dm_b 123) (dm_ml 123) (dm_rt 123)) := by rfl
theorem dm_okY_124 : dm_okY 124 = true := by decide +kernel
set_option maxRecDepth 100000 in
theorem dm_okc_124 : tables_1[dm_ci.getD 124 0]? = some (.code (dm_y 124) (dm_b 124) (dm_ml 124) (dm_rt 124)) := by rfl
theorem dm_okY_125 : dm_okY 125 = true := by decide +kernel
set_option maxRecDepth 100000 in
theorem dm_okc_125 : tables_1[dm_ci.getD 125 0]? = some (.code (dm_y 125) (dm_b 125) (dm_ml 125) (dm_rt 125)) := by rfl
theorem dm_okY_126 : dm_okY 126 = true := by decide +kernel
set_option maxRecDepth 100000 in
theorem dm_okc_126 : tables_1[dm_ci.getD 126 0]? = some (.code (dm_y 126) (dm_b 126) (dm_ml 126) (dm_rt 126)) := by rfl
theorem dm_okY_127 : dm_okY 127 = true := by decide +kernel
set_option maxRecDepth 100000 in
theorem dm_okc_127 : tables_1[dm_ci.getD 127 0]? = some (.code (dm_y 127) (dm_b 127) (dm_ml 127) (dm_rt 127)) := by rfl
theorem dm_okY_128 : dm_okY 128 = true := by decide +kernel
set_option maxRecDepth 100000 in
theorem dm_okc_128 : tables_1[dm_ci.getD 128 0]? = some (.code (dm_y 128) (dm_b 128) (dm_ml 128) (dm_rt 128)) := by rfl
theorem dm_okY_129 : dm_okY 129 = true := by decide +kernel
set_option maxRecDepth 100000 in
theorem dm_okc_129 : tables_1[dm_ci.getD 129 0]? = some (.code (dm_y 129) (dm_b 129) (dm_ml 129) (dm_rt 129)) := by rfl
theorem dm_okY_130 : dm_okY 130 = true := by decide +kernel
set_option maxRecDepth 100000 in
theorem dm_okc_130 : tables_1[dm_ci.getD 130 0]? = some (.code (dm_y 130) (dm_b 130) (dm_ml 130) (dm_rt 130)) := by rfl
theorem dm_okY_131 : dm_okY 131 = true := by decide +kernel
set_option maxRecDepth 100000 in
theorem dm_okc_131 : tables_1[dm_ci.getD 131 0]? = some (.code (dm_y 131) (dm_b 131) (dm_ml 131) (dm_rt 131)) := by rfl
theorem dm_okY_132 : dm_okY 132 = true := by decide +kernel
set_option maxRecDepth 100000 in
theorem dm_okc_132 : tables_1[dm_ci.getD 132 0]? = some (.code (dm_y 132) (dm_b 132) (dm_ml 132) (dm_rt 132)) := by rfl
theorem dm_okY_133 : dm_okY 133 = true := by decide +kernel
set_option maxRecDepth 100000 in
theorem dm_okc_133 : tables_1[dm_ci.getD 133 0]? = some (.code (dm_y 133) (dm_b 133) (dm_ml 133) (dm_rt 133)) := by rfl
theorem dm_okY_134 : dm_okY 134 = true := by decide +kernel
set_option maxRecDepth 100000 in
theorem dm_okc_134 : tables_1[dm_ci.getD 134 0]? = some (.code (dm_y 134) (dm_b 134) (dm_ml 134) (dm_rt 134)) := by rfl
theorem dm_okY_135 : dm_okY 135 = true := by decide +kernel
set_option maxRecDepth 100000 in
theorem dm_okc_135 : tables_1[dm_ci.getD 135 0]? = some (.code (dm_y 135) (dm_b 135) (dm_ml 135) (dm_rt 135)) := by rfl
theorem dm_okY_136 : dm_okY 136 = true := by decide +kernel
set_option maxRecDepth 100000 in
theorem dm_okc_136 : tables_1[dm_ci.getD 136 0]? = some (.code (dm_y 136) (dm_b 136) (dm_ml 136) (dm_rt 136)) := by rfl
theorem dm_okY_137 : dm_okY 137 = true := by decide +kernel
set_option maxRecDepth 100000 in
theorem dm_okc_137 : tables_1[dm_ci.getD 137 0]? = some (.code (dm_y 137) (dm_b 137) (dm_ml 137) (dm_rt 137)) := by rfl
theorem dm_okY_138 : dm_okY 138 = true := by decide +kernel
set_option maxRecDepth 100000 in
theorem dm_okc_138 : tables_1[dm_ci.getD 138 0]? = some (.code (dm_y 138) (dm_b 138) (dm_ml 138) (dm_rt 138)) := by rfl
theorem dm_okY_139 : dm_okY 139 = true := by decide +kernel
set_option maxRecDepth 100000 in
theorem dm_okc_139 : tables_1[dm_ci.getD 139 0]? = some (.code (dm_y 139) (dm_b 139) (dm_ml 139) (dm_rt 139)) := by rfl
theorem dm_okY_140 : dm_okY 140 = true := by decide +kernel
set_option maxRecDepth 100000 in
theorem dm_okc_140 : tables_1[dm_ci.getD 140 0]? = some (.code (dm_y 140) (dm_b 140) (dm_ml 140) (dm_rt 140)) := by rfl
theorem dm_okY_141 : dm_okY 141 = true := by decide +kernel
set_option maxRecDepth 100000 in
theorem dm_okc_141 : tables_1[dm_ci.getD 141 0]? = some (.code (dm_y 141) (dm_b 141) (dm_ml 141) (dm_rt 141)) := by rfl
theorem dm_okY_142 : dm_okY 142 = true := by decide +kernel
set_option maxRecDepth 100000 in
theorem dm_okc_142 : tables_1[dm_ci.getD 142 0]? = some (.code (dm_y 142) (dm_b 142) (dm_ml 142) (dm_rt 142)) := by rfl
theorem dm_okY_143 : dm_okY 143 = true := by decide +kernel
set_option maxRecDepth 100000 in
theorem dm_okc_143 : tables_1[dm_ci.getD 143 0]? = some (.code (dm_y 143) (dm_b 143) (dm_ml 143) (dm_rt 143)) := by rfl
theorem dm_okY_144 : dm_okY 144 = true := by decide +kernel
set_option maxRecDepth 100000 in
theorem dm_okc_144 : tables_1[dm_ci.getD 144 0]? = some (.code (dm_y 144) (dm_b 144) (dm_ml 144) (dm_rt 144)) := by rfl
theorem dm_okY_145 : dm_okY 145 = true := by decide +kernel
set_option maxRecDepth 100000 in
theorem dm_okc_145 : tables_1[dm_ci.getD 145 0]? = some (.code (dm_y 145) (dm_b 145) (dm_ml 145) (dm_rt 145)) := by rfl
theorem dm_okY_146 : dm_okY 146 = true := by decide +kernel
set_option maxRecDepth 100000 in
theorem dm_okc_146 : tables_1[dm_ci.getD 146 0]? = some (.code (dm_y 146) (dm_b 146) (dm_ml 146) (dm_rt 146)) := by rfl
theorem dm_okY_147 : dm_okY 147 = true := by decide +kernel
set_option maxRecDepth 100000 in
theorem dm_okc_147 : tables_1[dm_ci.getD 147 0]? = some (.code (dm_y 147) (dm_b 147) (dm_ml 147) (dm_rt 147)) := by rfl
theorem dm_okY_148 : dm_okY 148 = true := by decide +kernel
set_option maxRecDepth 100000 in
theorem dm_okc_148 : tables_1[dm_ci.getD 148 0]? = some (.code (dm_y 148) (dm_b 148) (dm_ml 148) (dm_rt 148)) := by rfl
theorem dm_okY_149 : dm_okY 149 = true := by decide +kernel
set_option maxRecDepth 100000 in
theorem dm_okc_149 : tables_1[dm_ci.getD 149 0]? = some (.code (dm_y 149) (dm_b 149) (dm_ml 149) (dm_rt 149)) := by rfl
theorem dm_okY_150 : dm_okY 150 = true := by decide +kernel
set_option maxRecDepth 100000 in
theorem dm_okc_150 : tables_1[dm_ci.getD 150 0]? = some (.code (dm_y 150) (dm_b 150) (dm_ml 150) (dm_rt 150)) := by rfl
theorem dm_okY_151 : dm_okY 151 = true := by decide +kernel
set_option maxRecDepth 100000 in
theorem dm_okc_151 : tables_1[dm_ci.getD 151 0]? = some (.code (dm_y 151) (dm_b 151) (dm_ml 151) (dm_rt 151)) := by rfl
theorem dm_okY_152 : dm_okY 152 = true := by decide +kernel
set_option maxRecDepth 100000 in
theorem dm_okc_152 : tables_1[dm_ci.getD 152 0]? = some (.code (dm_y 152) (dm_b 152) (dm_ml 152) (dm_rt 152)) := by rfl
theorem dm_okY_153 : dm_okY 153 = true := by decide +kernel
set_option maxRecDepth 100000 in
theorem dm_okc_153 : tables_1[dm_ci.getD 153 0]? = some (.code (dm_y 153) (dm_b 153) (dm_ml 153) (dm_rt 153)) := by rfl
theorem dm_okY_154 : dm_okY 154 = true := by decide +kernel
set_option maxRecDepth 100000 in
theorem dm_okc_154 : tables_1[dm_ci.getD 154 0]? = some (.code (dm_y 154) (dm_b 154) (dm_ml 154) (dm_rt 154)) := by rfl
theorem dm_okY_155 : dm_okY 155 = true := by decide +kernel
set_option maxRecDepth 100000 in
theorem dm_okc_155 : tables_1[dm_ci.getD 155 0]? = some (.code (dm_y 155) (dm_b 155) (dm_ml 155) (dm_rt 155)) := by rfl
theorem dm_okY_156 : dm_okY 156 = true := by decide +kernel
set_option maxRecDepth 100000 in
theorem dm_okc_156 : tables_1[dm_ci.getD 156 0]? = some (.code (dm_y 156) (dm_b 156) (dm_ml 156) (dm_rt 156)) := by rfl
theorem dm_okY_157 : dm_okY 157 = true := by decide +kernel
set_option maxRecDepth 100000 in
theorem dm_okc_157 : tables_1[dm_ci.getD 157 0]? = some (.code (dm_y 157) (dm_b 157) (dm_ml 157) (dm_rt 157)) := by rfl
theorem dm_okY_158 : dm_okY 158 = true := by decide +kernel
set_option maxRecDepth 100000 in
theorem dm_okc_158 : tables_1[dm_ci.getD 158 0]? = some (.code (dm_y 158) (dm_b 158) (dm_ml 158) (dm_rt 158)) := by rfl
theorem dm_okY_159 : dm_okY 159 = true := by decide +kernel
set_option maxRecDepth 100000 in
theorem dm_okc_159 : tables_1[dm_ci.getD 159 0]? = some (.code (dm_y 159) (dm_b 159) (dm_ml 159) (dm_rt 159)) := by rfl
theorem dm_okY_160 : dm_okY 160 = true := by decide +kernel
set_option maxRecDepth 100000 in
theorem dm_okc_160 : tables_1[dm_ci.getD 160 0]? = some (.code (dm_y 160) (dm_b 160) (dm_ml 160) (dm_rt 160)) := by rfl
theorem dm_okY_161 : dm_okY 161 = true := by decide +kernel
set_option maxRecDepth 100000 in
theorem dm_okc_161 : tables_1[dm_ci.getD 161 0]? = some (.code (dm_y 161) (dm_b 161) (dm_ml 161) (dm_rt 161)) := by rfl
theorem dm_okY_162 : dm_okY 162 = true := by decide +kernel
set_option maxRecDepth 100000 in
theorem dm_okc_162 : tables_1[dm_ci.getD 162 0]? = some (.code (dm_y 162) (dm_b 162) (dm_ml 162) (dm_rt 162)) := by rfl
theorem dm_okY_163 : dm_okY 163 = true := by decide +kernel
set_option maxRecDepth 100000 in
theorem dm_okc_163 : tables_1[dm_ci.getD 163 0]? = some (.code (dm_y 163) (dm_b 163) (dm_ml 163) (dm_rt 163)) := by rfl
theorem dm_okY_164 : dm_okY 164 = true := by decide +kernel
set_option maxRecDepth 100000 in
theorem dm_okc_164 : tables_1[dm_ci.getD 164 0]? = some (.code (dm_y 164) (dm_b 164) (dm_ml 164) (dm_rt 164)) := by rfl
theorem dm_okY_165 : dm_okY 165 = true := by decide +kernel
set_option maxRecDepth 100000 in
theorem dm_okc_165 : tables_1[dm_ci.getD 165 0]? = some (.code (dm_y 165) (dm_b 165) (dm_ml 165) (dm_rt 165)) := by rfl
theorem dm_okY_166 : dm_okY 166 = true := by decide +kernel
set_option maxRecDepth 100000 in
theorem dm_okc_166 : tables_1[dm_ci.getD 166 0]? = some (.code (dm_y 166) (dm_b 166) (dm_ml 166) (dm_rt 166)) := by rfl
theorem dm_okY_167 : dm_okY 167 = true := by decide +kernel
set_option maxRecDepth 100000 in
theorem dm_okc_167 : tables_1[dm_ci.getD 167 0]? = some (.code (dm_y 167) (dm_b 167) (dm_ml 167) (dm_rt 167)) := by rfl
theorem dm_okY_168 : dm_okY 168 = true := by decide +kernel
set_option maxRecDepth 100000 in
theorem dm_okc_168 : tables_1[dm_ci.getD 168 0]? = some (.code (dm_y 168) (dm_b 168) (dm_ml 168) (dm_rt 168)) := by rfl
theorem dm_okY_169 : dm_okY 169 = true := by decide +kernel
set_option maxRecDepth 100000 in
theorem dm_okc_169 : tables_1[dm_ci.getD 169 0]? = some (.code (dm_y 169) (dm_b 169) (dm_ml 169) (dm_rt 169)) := by rfl
theorem dm_okY_170 : dm_okY 170 = true := by decide +kernel
set_option maxRecDepth 100000 in
theorem dm_okc_170 : tables_1[dm_ci.getD 170 0]? = some (.code (dm_y 170) (dm_b 170) (dm_ml 170) (dm_rt 170)) := by rfl
theorem dm_okY_171 : dm_okY 171 = true := by decide +kernel
set_option maxRecDepth 100000 in
theorem dm_okc_171 : tables_1[dm_ci.getD 171 0]? = some (.code (dm_y 171) (dm_b 171) (dm_ml 171) (dm_rt 171)) := by rfl
theorem dm_okY_172 : dm_okY 172 = true := by decide +kernel
set_option maxRecDepth 100000 in
theorem dm_okc_172 : tables_1[dm_ci.getD 172 0]? = some (.code (dm_y 172) (dm_b 172) (dm_ml 172) (dm_rt 172)) := by rfl
theorem dm_okY_173 : dm_okY 173 = true := by decide +kernel
set_option maxRecDepth 100000 in
theorem dm_okc_173 : tables_1[dm_ci.getD 173 0]? = some (.code (dm_y 173) (dm_b 173) (dm_ml 173) (dm_rt 173)) := by rfl
theorem dm_okY_174 : dm_okY 174 = true := by decide +kernel
set_option maxRecDepth 100000 in
theorem dm_okc_174 : tables_1[dm_ci.getD 174 0]? = some (.code (dm_y 174) (dm_b 174) (dm_ml 174) (dm_rt 174)) := by rfl
theorem dm_okY_175 : dm_okY 175 = true := by decide +kernel
set_option maxRecDepth 100000 in
theorem dm_okc_175 : tables_1[dm_ci.getD 175 0]? = some (.code (dm_y 175) (dm_b 175) (dm_ml 175) (dm_rt 175)) := by rfl
theorem dm_okY_176 : dm_okY 176 = true := by decide +kernel
set_option maxRecDepth 100000 in
theorem dm_okc_176 : tables_1[dm_ci.getD 176 0]? = some (.code (dm_y 176) (dm_b 176) (dm_ml 176) (dm_rt 176)) := by rfl
theorem dm_okY_177 : dm_okY 177 = true := by decide +kernel
set_option maxRecDepth 100000 in
theorem dm_okc_177 : tables_1[dm_ci.getD 177 0]? = some (.code (dm_y 177) (dm_b 177) (dm_ml 177) (dm_rt 177)) := by rfl
theorem dm_okY_178 : dm_okY 178 = true := by decide +kernel
set_option maxRecDepth 100000 in
theorem dm_okc_178 : tables_1[dm_ci.getD 178 0]? = some (.code (dm_y 178) (dm_b 178) (dm_ml 178) (dm_rt 178)) := by rfl
theorem dm_okY_all : ∀ k, k < 179 → dm_okY k = true := lt_s (lt_s (lt_s (lt_s (lt_s (lt_s (lt_s (lt_s (lt_s (lt_s (lt_s (lt_s (lt_s (lt_s (lt_s (lt_s (lt_s (lt_s (lt_s (lt_s (lt_s (lt_s (lt_s (lt_s (lt_s (lt_s (lt_s (lt_s (lt_s (lt_s (lt_s (lt_s (lt_s (lt_s (lt_s (lt_s (lt_s (lt_s (lt_s (lt_s (lt_s (lt_s (lt_s (lt_s (lt_s (lt_s (lt_s (lt_s (lt_s (lt_s (lt_s (lt_s (lt_s (lt_s (lt_s (lt_s (lt_s (lt_s (lt_s (lt_s (lt_s (lt_s (lt_s (lt_s (lt_s (lt_s (lt_s (lt_s (lt_s (lt_s (lt_s (lt_s (lt_s (lt_s (lt_s (lt_s (lt_s (lt_s (lt_s (lt_s (lt_s (lt_s (lt_s (lt_s (lt_s (lt_s (lt_s (lt_s (lt_s (lt_s (lt_s (lt_s (lt_s (lt_s (lt_s (lt_s (lt_s (lt_s (lt_s (lt_s (lt_s (lt_s (lt_s (lt_s (lt_s (lt_s (lt_s (lt_s (lt_s (lt_s (lt_s (lt_s (lt_s (lt_s (lt_s (lt_s (lt_s (lt_s (lt_s (lt_s (lt_s (lt_s (lt_s (lt_s (lt_s (lt_s (lt_s (lt_s (lt_s (lt_s (lt_s (lt_s (lt_s (lt_s (lt_s (lt_s (lt_s (lt_s (lt_s (lt_s (lt_s (lt_s (lt_s (lt_s (lt_s (lt_s (lt_s (lt_s (lt_s (lt_s (lt_s (lt_s (lt_s (lt_s (lt_s (lt_s (lt_s (lt_s (lt_s (lt_s (lt_s (lt_s (lt_s (lt_s (lt_s (lt_s (lt_s (lt_s (lt_s (lt_s (lt_s (lt_s (lt_s (lt_s (lt_s (lt_s (lt_s (lt_s (lt_s (lt_0) dm_okY_0) dm_okY_1) dm_okY_2) dm_okY_3) dm_okY_4) dm_okY_5) dm_okY_6) dm_okY_7) dm_okY_8) dm_okY_9) dm_okY_10) dm_okY_11) dm_okY_12) dm_okY_13) dm_okY_14) dm_okY_15) dm_okY_16) dm_okY_17) dm_okY_18) dm_okY_19) dm_okY_20) dm_okY_21) dm_okY_22) dm_okY_23) dm_okY_24) dm_okY_25) dm_okY_26) dm_okY_27) dm_okY_28) dm_okY_29) dm_okY_30) dm_okY_31) dm_okY_32) dm_okY_33) dm_okY_34) dm_okY_35) dm_okY_36) dm_okY_37) dm_okY_38) dm_okY_39) dm_okY_40) dm_okY_41) dm_okY_42) dm_okY_43) dm_okY_44) dm_okY_45) dm_okY_46) dm_okY_47) dm_okY_48) dm_okY_49) dm_okY_50) dm_okY_51) dm_okY_52) dm_okY_53) dm_okY_54) dm_okY_55) dm_okY_56) dm_okY_57) dm_okY_58) dm_okY_59) dm_okY_60) dm_okY_61) dm_okY_62) dm_okY_63) dm_okY_64) dm_okY_65) dm_okY_66) dm_okY_67) dm_okY_68) dm_okY_69) dm_okY_70) dm_okY_71) dm_okY_72) dm_okY_73) dm_okY_74) dm_okY_75) dm_okY_76) dm_okY_77) dm_okY_78) dm_okY_79) dm_okY_80) dm_okY_81) dm_okY_82) dm_okY_83) dm_okY_84) dm_okY_85) dm_okY_86) dm_okY_87) dm_okY_88) dm_okY_89) dm_okY_90) dm_okY_91) dm_okY_92) dm_okY_93) dm_okY_94) dm_okY_95) dm_okY_96) dm_okY_97) dm_okY_98) dm_okY_99) dm_okY_100) dm_okY_101) dm_okY_102) dm_okY_103) dm_okY_104) dm_okY_105) dm_okY_106) dm_okY_107) dm_okY_108) dm_okY_109) dm_okY_110) dm_okY_111) dm_okY_112) dm_okY_113) dm_okY_114) dm_okY_115) dm_okY_116) dm_okY_117) dm_okY_118) dm_okY_119) dm_okY_120) dm_okY_121) dm_okY_122) dm_okY_123) dm_okY_124) dm_okY_125) dm_okY_126) dm_okY_127) dm_okY_128) dm_okY_129) dm_okY_130) dm_okY_131) dm_okY_132) dm_okY_133) dm_okY_134) dm_okY_135) dm_okY_136) dm_okY_137) dm_okY_138) dm_okY_139) dm_okY_140) dm_okY_141) dm_okY_142) dm_okY_143) dm_okY_144) dm_okY_145) dm_okY_146) dm_okY_147) dm_okY_148) dm_okY_149) dm_okY_150) dm_okY_151) dm_okY_152) dm_okY_153) dm_okY_154) dm_okY_155) dm_okY_156) dm_okY_157) dm_okY_158) dm_okY_159) dm_okY_160) dm_okY_161) dm_okY_162) dm_okY_163) dm_okY_164) dm_okY_165) dm_okY_166) dm_okY_167) dm_okY_168) dm_okY_169) dm_okY_170) dm_okY_171) dm_okY_172) dm_okY_173) dm_okY_174) dm_okY_175) dm_okY_176) dm_okY_177) dm_okY_178
theorem dm_okc_all : ∀ k, k < 179 → tables_1[dm_ci.getD k 0]? = some (.code (dm_y k) (dm_b k) (dm_ml k) (dm_rt k)) := lt_s (lt_s (lt_s (lt_s (lt_s (lt_s (lt_s (lt_s (lt_s (lt_s (lt_s (lt_s (lt_s (lt_s (lt_s (lt_s (lt_s (lt_s (lt_s (lt_s (lt_s (lt_s (lt_s (lt_s (lt_s (lt_s (lt_s (lt_s (lt_s (lt_s (lt_s (lt_s (lt_s (lt_s (lt_s (lt_s (lt_s (lt_s (lt_s (lt_s (lt_s (lt_s (lt_s (lt_s (lt_s (lt_s (lt_s (lt_s (lt_s (lt_s (lt_s (lt_s (lt_s (lt_s (lt_s (lt_s (lt_s (lt_s (lt_s (lt_s (lt_s (lt_s (lt_s (lt_s (lt_s (lt_s (lt_s (lt_s (lt_s (lt_s (lt_s (lt_s (lt_s (lt_s (lt_s (lt_s (lt_s (lt_s (lt_s (lt_s (lt_s (lt_s (lt_s (lt_s (lt_s (lt_s (lt_s (lt_s (lt_s (lt_s (lt_s (lt_s (lt_s (lt_s (lt_s (lt_s (lt_s (lt_s (lt_s (lt_s (lt_s (lt_s (lt_s (lt_s (lt_s (lt_s (lt_s (lt_s (lt_s (lt_s (lt_s (lt_s (lt_s (lt_s (lt_s (lt_s (lt_s (lt_s (lt_s (lt_s (lt_s (lt_s (lt_s (lt_s (lt_s (lt_s (lt_s (lt_s (lt_s (lt_s (lt_s (lt_s (lt_s (lt_s (lt_s (lt_s (lt_s (lt_s (lt_s (lt_s (lt_s (lt_s (lt_s (lt_s (lt_s (lt_s (lt_s (lt_s (lt_s (lt_s (lt_s (lt_s (lt_s (lt_s (lt_s (lt_s (lt_s (lt_s (lt_s (lt_s (lt_s (lt_s (lt_s (lt_s (lt_s (lt_s (lt_s (lt_s (lt_s (lt_s (lt_s (lt_s (lt_s (lt_s (lt_s (lt_s (lt_s (lt_s (lt_s (lt_0) dm_okc_0) dm_okc_1) dm_okc_2) dm_okc_3) dm_okc_4) dm_okc_5) dm_okc_6) dm_okc_7) dm_okc_8) dm_okc_9) dm_okc_10) dm_okc_11) dm_okc_12) dm_okc_13) dm_okc_14) dm_okc_15) dm_okc_16) dm_okc_17) dm_okc_18) dm_okc_19) dm_okc_20) dm_okc_21) dm_okc_22) dm_okc_23) dm_okc_24) dm_okc_25) dm_okc_26) dm_okc_27) dm_okc_28) dm_okc_29) dm_okc_30) dm_okc_31) dm_okc_32) dm_okc_33) dm_okc_34) dm_okc_35) dm_okc_36) dm_okc_37) dm_okc_38) dm_okc_39) dm_okc_40) dm_okc_41) dm_okc_42) dm_okc_43) dm_okc_44) dm_okc_45) dm_okc_46) dm_okc_47) dm_okc_48) dm_okc_49) dm_okc_50) dm_okc_51) dm_okc_52) dm_okc_53) dm_okc_54) dm_okc_55) dm_okc_56) dm_okc_57) dm_okc_58) dm_okc_59) dm_okc_60) dm_okc_61) dm_okc_62) dm_okc_63) dm_okc_64) dm_okc_65) dm_okc_66) dm_okc_67) dm_okc_68) dm_okc_69) dm_okc_70) dm_okc_71) dm_okc_72) dm_okc_73) dm_okc_74) dm_okc_75) dm_okc_76) dm_okc_77) dm_okc_78) dm_okc_79) dm_okc_80) dm_okc_81) dm_okc_82) dm_okc_83) dm_okc_84) dm_okc_85) dm_okc_86) dm_okc_87) dm_okc_88) dm_okc_89) dm_okc_90) dm_okc_91) dm_okc_92) dm_okc_93) dm_okc_94) dm_okc_95) dm_okc_96) dm_okc_97) dm_okc_98) dm_okc_99) dm_okc_100) dm_okc_101) dm_okc_102) dm_okc_103) dm_okc_104) dm_okc_105) dm_okc_106) dm_okc_107) dm_okc_108) dm_okc_109) dm_okc_110) dm_okc_111) dm_okc_112) dm_okc_113) dm_okc_114) dm_okc_115) dm_okc_116) dm_okc_117) dm_okc_118) dm_okc_119) dm_okc_120) dm_okc_121) dm_okc_122) dm_okc_123) dm_okc_124) dm_okc_125) dm_okc_126) dm_okc_127) dm_okc_128) dm_okc_129) dm_okc_130) dm_okc_131) dm_okc_132) dm_okc_133) dm_okc_134) dm_okc_135) dm_okc_136) dm_okc_137) dm_okc_138) dm_okc_139) dm_okc_140) dm_okc_141) dm_okc_142) dm_okc_143) dm_okc_144) dm_okc_145) dm_okc_146) dm_okc_147) dm_okc_148) dm_okc_149) dm_okc_150) dm_okc_151) dm_okc_152) dm_okc_153) dm_okc_154) dm_okc_155) dm_okc_156) dm_okc_157) dm_okc_158) dm_okc_159) dm_okc_160) dm_okc_161) dm_okc_162) dm_okc_163) dm_okc_164) dm_okc_165) dm_okc_166) dm_okc_167) dm_okc_168) dm_okc_169) dm_okc_170) dm_okc_171) dm_okc_172) dm_okc_173) dm_okc_174) dm_okc_175) dm_okc_176) dm_okc_177) dm_okc_178
set_option maxRecDepth 100000 in
theorem dm_lay_in : ∀ ci, ci < 6 → ∀ w ∈ u_ws (dm_cn ci) (dm_fn ci) (dm_cN ci), w ∈ dm_GW := by decide +kernel
