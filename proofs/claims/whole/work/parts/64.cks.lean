/-! the deep machine's tables against the Statement's code and words: decided by the kernel -/
def dm_raw (pc : Nat) (i : Instr) (cp : Nat) : Instr := match i with
  | .getfield _ => .getfield cp
  | .putfield _ => .putfield cp
  | .getstatic _ => .getstatic cp
  | .ldc _ => .ldc cp
  | .ldc_w _ => .ldc_w cp
  | .ldc2_w _ => .ldc2_w cp
  | .invokestatic _ => .invokestatic cp
  | .invokevirtual _ => .invokevirtual cp
  | .goto t => .goto (t - pc)
  | .ifCond c t => .ifCond c (t - pc)
  | .if_icmp c t => .if_icmp c (t - pc)
  | .ifnull t => .ifnull (t - pc)
  | .ifnonnull t => .ifnonnull (t - pc)
  | .tableswitch d lo hi offs => .tableswitch (d - pc) lo hi (offs.map fun t => t - (pc : Int))
  | .lookupswitch d ps => .lookupswitch (d - pc) (ps.map fun q => (q.1, q.2 - (pc : Int)))
  | x => x
def dm_len (pc : Nat) (i : Instr) : Nat := match i with
  | .bipush _ | .iload _ | .lload _ | .aload _ | .istore _ | .lstore _ | .astore _ | .ldc _ => 2
  | .sipush _ | .ldc_w _ | .ldc2_w _ | .iinc _ _ | .ifCond _ _ | .if_icmp _ _ | .goto _ | .ifnull _ | .ifnonnull _ | .getfield _ | .putfield _ | .getstatic _ | .invokestatic _ | .invokevirtual _ => 3
  | .tableswitch _ _ _ offs => (pc + 4) / 4 * 4 + 12 + 4 * offs.size - pc
  | .lookupswitch _ ps => (pc + 4) / 4 * 4 + 8 + 8 * ps.size - pc
  | _ => 1
def dm_ckI (k : Nat) (i : Instr) (cp : Nat) : Bool := match i with
  | .getfield j => match dm_FL[j]? with | some x => decide (x.1 = (dm_y k).cls ∧ x.2.1 = cp) | none => false
  | .putfield j => match dm_FL[j]? with | some x => decide (x.1 = (dm_y k).cls ∧ x.2.1 = cp) | none => false
  | .getstatic j => match dm_SL[j]? with | some x => decide (x.1 = (dm_y k).cls ∧ x.2.1 = cp) | none => false
  | .ldc j => match dm_CL[j]? with | some x => decide (x.1 = (dm_y k).cls ∧ x.2.1 = cp) | none => false
  | .ldc_w j => match dm_CL[j]? with | some x => decide (x.1 = (dm_y k).cls ∧ x.2.1 = cp) | none => false
  | .ldc2_w j => match dm_CL[j]? with | some x => decide (x.1 = (dm_y k).cls ∧ x.2.1 = cp) | none => false
  | .invokestatic j => match dm_ML[j]? with | some x => decide (x.1 = (dm_y k).cls ∧ x.2.1 = cp) | none => false
  | .invokevirtual j => match dm_ML[j]? with | some x => decide (x.1 = (dm_y k).cls ∧ x.2.1 = cp) | none => false
  | .goto t => decide (0 ≤ t)
  | .ifCond _ t => decide (0 ≤ t)
  | .if_icmp _ t => decide (0 ≤ t)
  | .ifnull t => decide (0 ≤ t)
  | .ifnonnull t => decide (0 ≤ t)
  | .tableswitch d lo hi offs => decide (0 ≤ d) && offs.toList.all (fun t => decide (0 ≤ t)) && decide (hi - lo < offs.size)
  | .lookupswitch d ps => decide (0 ≤ d) && ps.toList.all (fun t => decide (0 ≤ t.2)) && (ps.toList.zip (ps.toList.drop 1)).all (fun (a, next) => decide (a.1 < next.1))
  | _ => true
def dm_ck (k : Nat) (x : dm_I) : Bool := dm_ckI k x.2.1 x.2.2 && (match decode (dm_b k) x.1 with
  | .ok r => decide (r = (dm_raw x.1 x.2.1 x.2.2, dm_len x.1 x.2.1))
  | .error _ => false)
theorem dm_ck_0 : (dm_cds.getD 0 []).all (dm_ck 0) = true := by decide +kernel
theorem dm_ck_1 : (dm_cds.getD 1 []).all (dm_ck 1) = true := by decide +kernel
theorem dm_ck_2 : (dm_cds.getD 2 []).all (dm_ck 2) = true := by decide +kernel
theorem dm_ck_3 : (dm_cds.getD 3 []).all (dm_ck 3) = true := by decide +kernel
theorem dm_ck_4 : (dm_cds.getD 4 []).all (dm_ck 4) = true := by decide +kernel
theorem dm_ck_5 : (dm_cds.getD 5 []).all (dm_ck 5) = true := by decide +kernel
theorem dm_ck_6 : (dm_cds.getD 6 []).all (dm_ck 6) = true := by decide +kernel
theorem dm_ck_7 : (dm_cds.getD 7 []).all (dm_ck 7) = true := by decide +kernel
theorem dm_ck_8 : (dm_cds.getD 8 []).all (dm_ck 8) = true := by decide +kernel
theorem dm_ck_9 : (dm_cds.getD 9 []).all (dm_ck 9) = true := by decide +kernel
theorem dm_ck_10 : (dm_cds.getD 10 []).all (dm_ck 10) = true := by decide +kernel
theorem dm_ck_11 : (dm_cds.getD 11 []).all (dm_ck 11) = true := by decide +kernel
theorem dm_ck_12 : (dm_cds.getD 12 []).all (dm_ck 12) = true := by decide +kernel
theorem dm_ck_13 : (dm_cds.getD 13 []).all (dm_ck 13) = true := by decide +kernel
theorem dm_ck_14 : (dm_cds.getD 14 []).all (dm_ck 14) = true := by decide +kernel
theorem dm_ck_15 : (dm_cds.getD 15 []).all (dm_ck 15) = true := by decide +kernel
theorem dm_ck_16 : (dm_cds.getD 16 []).all (dm_ck 16) = true := by decide +kernel
theorem dm_ck_17 : (dm_cds.getD 17 []).all (dm_ck 17) = true := by decide +kernel
theorem dm_ck_18 : (dm_cds.getD 18 []).all (dm_ck 18) = true := by decide +kernel
theorem dm_ck_19 : (dm_cds.getD 19 []).all (dm_ck 19) = true := by decide +kernel
theorem dm_ck_20 : (dm_cds.getD 20 []).all (dm_ck 20) = true := by decide +kernel
theorem dm_ck_21 : (dm_cds.getD 21 []).all (dm_ck 21) = true := by decide +kernel
theorem dm_ck_22 : (dm_cds.getD 22 []).all (dm_ck 22) = true := by decide +kernel
theorem dm_ck_23 : (dm_cds.getD 23 []).all (dm_ck 23) = true := by decide +kernel
theorem dm_ck_24 : (dm_cds.getD 24 []).all (dm_ck 24) = true := by decide +kernel
theorem dm_ck_25 : (dm_cds.getD 25 []).all (dm_ck 25) = true := by decide +kernel
theorem dm_ck_26 : (dm_cds.getD 26 []).all (dm_ck 26) = true := by decide +kernel
theorem dm_ck_27 : (dm_cds.getD 27 []).all (dm_ck 27) = true := by decide +kernel
theorem dm_ck_28 : (dm_cds.getD 28 []).all (dm_ck 28) = true := by decide +kernel
theorem dm_ck_29 : (dm_cds.getD 29 []).all (dm_ck 29) = true := by decide +kernel
theorem dm_ck_30 : (dm_cds.getD 30 []).all (dm_ck 30) = true := by decide +kernel
theorem dm_ck_31 : (dm_cds.getD 31 []).all (dm_ck 31) = true := by decide +kernel
theorem dm_ck_32 : (dm_cds.getD 32 []).all (dm_ck 32) = true := by decide +kernel
theorem dm_ck_33 : (dm_cds.getD 33 []).all (dm_ck 33) = true := by decide +kernel
theorem dm_ck_34 : (dm_cds.getD 34 []).all (dm_ck 34) = true := by decide +kernel
theorem dm_ck_35 : (dm_cds.getD 35 []).all (dm_ck 35) = true := by decide +kernel
theorem dm_ck_36 : (dm_cds.getD 36 []).all (dm_ck 36) = true := by decide +kernel
theorem dm_ck_37 : (dm_cds.getD 37 []).all (dm_ck 37) = true := by decide +kernel
theorem dm_ck_38 : (dm_cds.getD 38 []).all (dm_ck 38) = true := by decide +kernel
theorem dm_ck_39 : (dm_cds.getD 39 []).all (dm_ck 39) = true := by decide +kernel
theorem dm_ck_40 : (dm_cds.getD 40 []).all (dm_ck 40) = true := by decide +kernel
theorem dm_ck_41 : (dm_cds.getD 41 []).all (dm_ck 41) = true := by decide +kernel
theorem dm_ck_42 : (dm_cds.getD 42 []).all (dm_ck 42) = true := by decide +kernel
theorem dm_ck_43 : (dm_cds.getD 43 []).all (dm_ck 43) = true := by decide +kernel
theorem dm_ck_44 : (dm_cds.getD 44 []).all (dm_ck 44) = true := by decide +kernel
theorem dm_ck_45 : (dm_cds.getD 45 []).all (dm_ck 45) = true := by decide +kernel
theorem dm_ck_46 : (dm_cds.getD 46 []).all (dm_ck 46) = true := by decide +kernel
theorem dm_ck_47 : (dm_cds.getD 47 []).all (dm_ck 47) = true := by decide +kernel
theorem dm_ck_48 : (dm_cds.getD 48 []).all (dm_ck 48) = true := by decide +kernel
theorem dm_ck_49 : (dm_cds.getD 49 []).all (dm_ck 49) = true := by decide +kernel
theorem dm_ck_50 : (dm_cds.getD 50 []).all (dm_ck 50) = true := by decide +kernel
theorem dm_ck_51 : (dm_cds.getD 51 []).all (dm_ck 51) = true := by decide +kernel
theorem dm_ck_52 : (dm_cds.getD 52 []).all (dm_ck 52) = true := by decide +kernel
theorem dm_ck_53 : (dm_cds.getD 53 []).all (dm_ck 53) = true := by decide +kernel
theorem dm_ck_54 : (dm_cds.getD 54 []).all (dm_ck 54) = true := by decide +kernel
theorem dm_ck_55 : (dm_cds.getD 55 []).all (dm_ck 55) = true := by decide +kernel
theorem dm_ck_56 : (dm_cds.getD 56 []).all (dm_ck 56) = true := by decide +kernel
theorem dm_ck_57 : (dm_cds.getD 57 []).all (dm_ck 57) = true := by decide +kernel
theorem dm_ck_58 : (dm_cds.getD 58 []).all (dm_ck 58) = true := by decide +kernel
theorem dm_ck_59 : (dm_cds.getD 59 []).all (dm_ck 59) = true := by decide +kernel
theorem dm_ck_60 : (dm_cds.getD 60 []).all (dm_ck 60) = true := by decide +kernel
theorem dm_ck_61 : (dm_cds.getD 61 []).all (dm_ck 61) = true := by decide +kernel
theorem dm_ck_62 : (dm_cds.getD 62 []).all (dm_ck 62) = true := by decide +kernel
theorem dm_ck_63 : (dm_cds.getD 63 []).all (dm_ck 63) = true := by decide +kernel
theorem dm_ck_64 : (dm_cds.getD 64 []).all (dm_ck 64) = true := by decide +kernel
theorem dm_ck_65 : (dm_cds.getD 65 []).all (dm_ck 65) = true := by decide +kernel
theorem dm_ck_66 : (dm_cds.getD 66 []).all (dm_ck 66) = true := by decide +kernel
theorem dm_ck_67 : (dm_cds.getD 67 []).all (dm_ck 67) = true := by decide +kernel
theorem dm_ck_68 : (dm_cds.getD 68 []).all (dm_ck 68) = true := by decide +kernel
theorem dm_ck_69 : (dm_cds.getD 69 []).all (dm_ck 69) = true := by decide +kernel
theorem dm_ck_70 : (dm_cds.getD 70 []).all (dm_ck 70) = true := by decide +kernel
theorem dm_ck_71 : (dm_cds.getD 71 []).all (dm_ck 71) = true := by decide +kernel
theorem dm_ck_72 : (dm_cds.getD 72 []).all (dm_ck 72) = true := by decide +kernel
theorem dm_ck_73 : (dm_cds.getD 73 []).all (dm_ck 73) = true := by decide +kernel
theorem dm_ck_74 : (dm_cds.getD 74 []).all (dm_ck 74) = true := by decide +kernel
theorem dm_ck_75 : (dm_cds.getD 75 []).all (dm_ck 75) = true := by decide +kernel
theorem dm_ck_76 : (dm_cds.getD 76 []).all (dm_ck 76) = true := by decide +kernel
theorem dm_ck_77 : (dm_cds.getD 77 []).all (dm_ck 77) = true := by decide +kernel
theorem dm_ck_78 : (dm_cds.getD 78 []).all (dm_ck 78) = true := by decide +kernel
theorem dm_ck_79 : (dm_cds.getD 79 []).all (dm_ck 79) = true := by decide +kernel
theorem dm_ck_80 : (dm_cds.getD 80 []).all (dm_ck 80) = true := by decide +kernel
theorem dm_ck_81 : (dm_cds.getD 81 []).all (dm_ck 81) = true := by decide +kernel
theorem dm_ck_82 : (dm_cds.getD 82 []).all (dm_ck 82) = true := by decide +kernel
theorem dm_ck_83 : (dm_cds.getD 83 []).all (dm_ck 83) = true := by decide +kernel
theorem dm_ck_84 : (dm_cds.getD 84 []).all (dm_ck 84) = true := by decide +kernel
theorem dm_ck_85 : (dm_cds.getD 85 []).all (dm_ck 85) = true := by decide +kernel
theorem dm_ck_86 : (dm_cds.getD 86 []).all (dm_ck 86) = true := by decide +kernel
theorem dm_ck_87 : (dm_cds.getD 87 []).all (dm_ck 87) = true := by decide +kernel
theorem dm_ck_88 : (dm_cds.getD 88 []).all (dm_ck 88) = true := by decide +kernel
theorem dm_ck_89 : (dm_cds.getD 89 []).all (dm_ck 89) = true := by decide +kernel
theorem dm_ck_90 : (dm_cds.getD 90 []).all (dm_ck 90) = true := by decide +kernel
theorem dm_ck_91 : (dm_cds.getD 91 []).all (dm_ck 91) = true := by decide +kernel
theorem dm_ck_92 : (dm_cds.getD 92 []).all (dm_ck 92) = true := by decide +kernel
theorem dm_ck_93 : (dm_cds.getD 93 []).all (dm_ck 93) = true := by decide +kernel
theorem dm_ck_94 : (dm_cds.getD 94 []).all (dm_ck 94) = true := by decide +kernel
theorem dm_ck_95 : (dm_cds.getD 95 []).all (dm_ck 95) = true := by decide +kernel
theorem dm_ck_96 : (dm_cds.getD 96 []).all (dm_ck 96) = true := by decide +kernel
theorem dm_ck_97 : (dm_cds.getD 97 []).all (dm_ck 97) = true := by decide +kernel
theorem dm_ck_98 : (dm_cds.getD 98 []).all (dm_ck 98) = true := by decide +kernel
theorem dm_ck_99 : (dm_cds.getD 99 []).all (dm_ck 99) = true := by decide +kernel
theorem dm_ck_100 : (dm_cds.getD 100 []).all (dm_ck 100) = true := by decide +kernel
theorem dm_ck_101 : (dm_cds.getD 101 []).all (dm_ck 101) = true := by decide +kernel
theorem dm_ck_102 : (dm_cds.getD 102 []).all (dm_ck 102) = true := by decide +kernel
theorem dm_ck_103 : (dm_cds.getD 103 []).all (dm_ck 103) = true := by decide +kernel
theorem dm_ck_104 : (dm_cds.getD 104 []).all (dm_ck 104) = true := by decide +kernel
theorem dm_ck_105 : (dm_cds.getD 105 []).all (dm_ck 105) = true := by decide +kernel
theorem dm_ck_106 : (dm_cds.getD 106 []).all (dm_ck 106) = true := by decide +kernel
theorem dm_ck_107 : (dm_cds.getD 107 []).all (dm_ck 107) = true := by decide +kernel
theorem dm_ck_108 : (dm_cds.getD 108 []).all (dm_ck 108) = true := by decide +kernel
theorem dm_ck_109 : (dm_cds.getD 109 []).all (dm_ck 109) = true := by decide +kernel
theorem dm_ck_110 : (dm_cds.getD 110 []).all (dm_ck 110) = true := by decide +kernel
theorem dm_ck_111 : (dm_cds.getD 111 []).all (dm_ck 111) = true := by decide +kernel
theorem dm_ck_112 : (dm_cds.getD 112 []).all (dm_ck 112) = true := by decide +kernel
theorem dm_ck_113 : (dm_cds.getD 113 []).all (dm_ck 113) = true := by decide +kernel
theorem dm_ck_114 : (dm_cds.getD 114 []).all (dm_ck 114) = true := by decide +kernel
theorem dm_ck_115 : (dm_cds.getD 115 []).all (dm_ck 115) = true := by decide +kernel
theorem dm_ck_116 : (dm_cds.getD 116 []).all (dm_ck 116) = true := by decide +kernel
theorem dm_ck_117 : (dm_cds.getD 117 []).all (dm_ck 117) = true := by decide +kernel
theorem dm_ck_118 : (dm_cds.getD 118 []).all (dm_ck 118) = true := by decide +kernel
theorem dm_ck_119 : (dm_cds.getD 119 []).all (dm_ck 119) = true := by decide +kernel
theorem dm_ck_120 : (dm_cds.getD 120 []).all (dm_ck 120) = true := by decide +kernel
theorem dm_ck_121 : (dm_cds.getD 121 []).all (dm_ck 121) = true := by decide +kernel
theorem dm_ck_122 : (dm_cds.getD 122 []).all (dm_ck 122) = true := by decide +kernel
theorem dm_ck_123 : (dm_cds.getD 123 []).all (dm_ck 123) = true := by decide +kernel
theorem dm_ck_124 : (dm_cds.getD 124 []).all (dm_ck 124) = true := by decide +kernel
theorem dm_ck_125 : (dm_cds.getD 125 []).all (dm_ck 125) = true := by decide +kernel
theorem dm_ck_126 : (dm_cds.getD 126 []).all (dm_ck 126) = true := by decide +kernel
theorem dm_ck_127 : (dm_cds.getD 127 []).all (dm_ck 127) = true := by decide +kernel
theorem dm_ck_128 : (dm_cds.getD 128 []).all (dm_ck 128) = true := by decide +kernel
theorem dm_ck_129 : (dm_cds.getD 129 []).all (dm_ck 129) = true := by decide +kernel
theorem dm_ck_130 : (dm_cds.getD 130 []).all (dm_ck 130) = true := by decide +kernel
theorem dm_ck_131 : (dm_cds.getD 131 []).all (dm_ck 131) = true := by decide +kernel
theorem dm_ck_132 : (dm_cds.getD 132 []).all (dm_ck 132) = true := by decide +kernel
theorem dm_ck_133 : (dm_cds.getD 133 []).all (dm_ck 133) = true := by decide +kernel
theorem dm_ck_134 : (dm_cds.getD 134 []).all (dm_ck 134) = true := by decide +kernel
theorem dm_ck_135 : (dm_cds.getD 135 []).all (dm_ck 135) = true := by decide +kernel
theorem dm_ck_136 : (dm_cds.getD 136 []).all (dm_ck 136) = true := by decide +kernel
theorem dm_ck_137 : (dm_cds.getD 137 []).all (dm_ck 137) = true := by decide +kernel
theorem dm_ck_138 : (dm_cds.getD 138 []).all (dm_ck 138) = true := by decide +kernel
theorem dm_ck_139 : (dm_cds.getD 139 []).all (dm_ck 139) = true := by decide +kernel
theorem dm_ck_140 : (dm_cds.getD 140 []).all (dm_ck 140) = true := by decide +kernel
theorem dm_ck_141 : (dm_cds.getD 141 []).all (dm_ck 141) = true := by decide +kernel
theorem dm_ck_142 : (dm_cds.getD 142 []).all (dm_ck 142) = true := by decide +kernel
theorem dm_ck_143 : (dm_cds.getD 143 []).all (dm_ck 143) = true := by decide +kernel
theorem dm_ck_144 : (dm_cds.getD 144 []).all (dm_ck 144) = true := by decide +kernel
theorem dm_ck_145 : (dm_cds.getD 145 []).all (dm_ck 145) = true := by decide +kernel
theorem dm_ck_146 : (dm_cds.getD 146 []).all (dm_ck 146) = true := by decide +kernel
theorem dm_ck_147 : (dm_cds.getD 147 []).all (dm_ck 147) = true := by decide +kernel
theorem dm_ck_148 : (dm_cds.getD 148 []).all (dm_ck 148) = true := by decide +kernel
theorem dm_ck_149 : (dm_cds.getD 149 []).all (dm_ck 149) = true := by decide +kernel
theorem dm_ck_150 : (dm_cds.getD 150 []).all (dm_ck 150) = true := by decide +kernel
theorem dm_ck_151 : (dm_cds.getD 151 []).all (dm_ck 151) = true := by decide +kernel
theorem dm_ck_152 : (dm_cds.getD 152 []).all (dm_ck 152) = true := by decide +kernel
theorem dm_ck_153 : (dm_cds.getD 153 []).all (dm_ck 153) = true := by decide +kernel
theorem dm_ck_154 : (dm_cds.getD 154 []).all (dm_ck 154) = true := by decide +kernel
theorem dm_ck_155 : (dm_cds.getD 155 []).all (dm_ck 155) = true := by decide +kernel
theorem dm_ck_156 : (dm_cds.getD 156 []).all (dm_ck 156) = true := by decide +kernel
theorem dm_ck_157 : (dm_cds.getD 157 []).all (dm_ck 157) = true := by decide +kernel
theorem dm_ck_158 : (dm_cds.getD 158 []).all (dm_ck 158) = true := by decide +kernel
theorem dm_ck_159 : (dm_cds.getD 159 []).all (dm_ck 159) = true := by decide +kernel
theorem dm_ck_160 : (dm_cds.getD 160 []).all (dm_ck 160) = true := by decide +kernel
theorem dm_ck_161 : (dm_cds.getD 161 []).all (dm_ck 161) = true := by decide +kernel
theorem dm_ck_162 : (dm_cds.getD 162 []).all (dm_ck 162) = true := by decide +kernel
theorem dm_ck_163 : (dm_cds.getD 163 []).all (dm_ck 163) = true := by decide +kernel
theorem dm_ck_164 : (dm_cds.getD 164 []).all (dm_ck 164) = true := by decide +kernel
theorem dm_ck_165 : (dm_cds.getD 165 []).all (dm_ck 165) = true := by decide +kernel
theorem dm_ck_166 : (dm_cds.getD 166 []).all (dm_ck 166) = true := by decide +kernel
theorem dm_ck_167 : (dm_cds.getD 167 []).all (dm_ck 167) = true := by decide +kernel
theorem dm_ck_168 : (dm_cds.getD 168 []).all (dm_ck 168) = true := by decide +kernel
theorem dm_ck_169 : (dm_cds.getD 169 []).all (dm_ck 169) = true := by decide +kernel
theorem dm_ck_170 : (dm_cds.getD 170 []).all (dm_ck 170) = true := by decide +kernel
theorem dm_ck_171 : (dm_cds.getD 171 []).all (dm_ck 171) = true := by decide +kernel
theorem dm_ck_172 : (dm_cds.getD 172 []).all (dm_ck 172) = true := by decide +kernel
theorem dm_ck_173 : (dm_cds.getD 173 []).all (dm_ck 173) = true := by decide +kernel
theorem dm_ck_174 : (dm_cds.getD 174 []).all (dm_ck 174) = true := by decide +kernel
theorem dm_ck_175 : (dm_cds.getD 175 []).all (dm_ck 175) = true := by decide +kernel
theorem dm_ck_176 : (dm_cds.getD 176 []).all (dm_ck 176) = true := by decide +kernel
theorem dm_ck_177 : (dm_cds.getD 177 []).all (dm_ck 177) = true := by decide +kernel
theorem dm_ck_178 : (dm_cds.getD 178 []).all (dm_ck 178) = true := by decide +kernel
theorem dm_all_td {α : Type} {p : α → Bool} {l : List α} (n : Nat) (h1 : (l.take n).all p = true) (h2 : (l.drop n).all p = true) : l.all p = true := by
  rw [← List.take_append_drop n l, List.all_append, h1, h2]
  rfl
theorem dm_ck_179_0 : ((dm_c179.drop 0).take 20).all (dm_ck 179) = true := by decide +kernel
theorem dm_ck_179_1 : ((dm_c179.drop 20).take 20).all (dm_ck 179) = true := by decide +kernel
theorem dm_ck_179_2 : ((dm_c179.drop 40).take 20).all (dm_ck 179) = true := by decide +kernel
theorem dm_ck_179_3 : ((dm_c179.drop 60).take 20).all (dm_ck 179) = true := by decide +kernel
theorem dm_ck_179_4 : ((dm_c179.drop 80).take 20).all (dm_ck 179) = true := by decide +kernel
theorem dm_ck_179_5 : ((dm_c179.drop 100).take 20).all (dm_ck 179) = true := by decide +kernel
theorem dm_ck_179_6 : ((dm_c179.drop 120).take 20).all (dm_ck 179) = true := by decide +kernel
theorem dm_ck_179_7 : ((dm_c179.drop 140).take 20).all (dm_ck 179) = true := by decide +kernel
theorem dm_ck_179_8 : ((dm_c179.drop 160).take 20).all (dm_ck 179) = true := by decide +kernel
theorem dm_ck_179_9 : ((dm_c179.drop 180).take 20).all (dm_ck 179) = true := by decide +kernel
theorem dm_ck_179_10 : ((dm_c179.drop 200).take 20).all (dm_ck 179) = true := by decide +kernel
theorem dm_ck_179_11 : ((dm_c179.drop 220).take 20).all (dm_ck 179) = true := by decide +kernel
theorem dm_ck_179_12 : ((dm_c179.drop 240).take 20).all (dm_ck 179) = true := by decide +kernel
theorem dm_ck_179_13 : ((dm_c179.drop 260).take 20).all (dm_ck 179) = true := by decide +kernel
theorem dm_ck_179_14 : ((dm_c179.drop 280).take 20).all (dm_ck 179) = true := by decide +kernel
theorem dm_ck_179_15 : ((dm_c179.drop 300).take 20).all (dm_ck 179) = true := by decide +kernel
theorem dm_ck_179_16 : ((dm_c179.drop 320).take 20).all (dm_ck 179) = true := by decide +kernel
theorem dm_ck_179_17 : ((dm_c179.drop 340).take 20).all (dm_ck 179) = true := by decide +kernel
theorem dm_ck_179_18 : ((dm_c179.drop 360).take 20).all (dm_ck 179) = true := by decide +kernel
theorem dm_ck_179_19 : ((dm_c179.drop 380).take 20).all (dm_ck 179) = true := by decide +kernel
theorem dm_ck_179_20 : ((dm_c179.drop 400).take 20).all (dm_ck 179) = true := by decide +kernel
theorem dm_ck_179_21 : ((dm_c179.drop 420).take 20).all (dm_ck 179) = true := by decide +kernel
theorem dm_ck_179_22 : ((dm_c179.drop 440).take 20).all (dm_ck 179) = true := by decide +kernel
theorem dm_ck_179_23 : ((dm_c179.drop 460).take 20).all (dm_ck 179) = true := by decide +kernel
theorem dm_ck_179_24 : ((dm_c179.drop 480).take 20).all (dm_ck 179) = true := by decide +kernel
theorem dm_ck_179_25 : ((dm_c179.drop 500).take 20).all (dm_ck 179) = true := by decide +kernel
theorem dm_ck_179_26 : ((dm_c179.drop 520).take 20).all (dm_ck 179) = true := by decide +kernel
theorem dm_ck_179_27 : ((dm_c179.drop 540).take 20).all (dm_ck 179) = true := by decide +kernel
theorem dm_ck_179_28 : ((dm_c179.drop 560).take 20).all (dm_ck 179) = true := by decide +kernel
theorem dm_ck_179_29 : ((dm_c179.drop 580).take 20).all (dm_ck 179) = true := by decide +kernel
theorem dm_ck_179_30 : ((dm_c179.drop 600).take 20).all (dm_ck 179) = true := by decide +kernel
theorem dm_ck_179_31 : ((dm_c179.drop 620).take 20).all (dm_ck 179) = true := by decide +kernel
theorem dm_ck_179_32 : ((dm_c179.drop 640).take 20).all (dm_ck 179) = true := by decide +kernel
theorem dm_ck_179_33 : ((dm_c179.drop 660).take 20).all (dm_ck 179) = true := by decide +kernel
theorem dm_ck_179_34 : ((dm_c179.drop 680).take 20).all (dm_ck 179) = true := by decide +kernel
theorem dm_ck_179_35 : ((dm_c179.drop 700).take 20).all (dm_ck 179) = true := by decide +kernel
theorem dm_ck_179_36 : (dm_c179.drop 720).all (dm_ck 179) = true := by decide +kernel
theorem dm_cl_35 : (dm_c179.drop 700).all (dm_ck 179) = true := dm_all_td 20 dm_ck_179_35 (by rw [List.drop_drop]; exact dm_ck_179_36)
theorem dm_cl_34 : (dm_c179.drop 680).all (dm_ck 179) = true := dm_all_td 20 dm_ck_179_34 (by rw [List.drop_drop]; exact dm_cl_35)
theorem dm_cl_33 : (dm_c179.drop 660).all (dm_ck 179) = true := dm_all_td 20 dm_ck_179_33 (by rw [List.drop_drop]; exact dm_cl_34)
theorem dm_cl_32 : (dm_c179.drop 640).all (dm_ck 179) = true := dm_all_td 20 dm_ck_179_32 (by rw [List.drop_drop]; exact dm_cl_33)
theorem dm_cl_31 : (dm_c179.drop 620).all (dm_ck 179) = true := dm_all_td 20 dm_ck_179_31 (by rw [List.drop_drop]; exact dm_cl_32)
theorem dm_cl_30 : (dm_c179.drop 600).all (dm_ck 179) = true := dm_all_td 20 dm_ck_179_30 (by rw [List.drop_drop]; exact dm_cl_31)
theorem dm_cl_29 : (dm_c179.drop 580).all (dm_ck 179) = true := dm_all_td 20 dm_ck_179_29 (by rw [List.drop_drop]; exact dm_cl_30)
theorem dm_cl_28 : (dm_c179.drop 560).all (dm_ck 179) = true := dm_all_td 20 dm_ck_179_28 (by rw [List.drop_drop]; exact dm_cl_29)
theorem dm_cl_27 : (dm_c179.drop 540).all (dm_ck 179) = true := dm_all_td 20 dm_ck_179_27 (by rw [List.drop_drop]; exact dm_cl_28)
theorem dm_cl_26 : (dm_c179.drop 520).all (dm_ck 179) = true := dm_all_td 20 dm_ck_179_26 (by rw [List.drop_drop]; exact dm_cl_27)
theorem dm_cl_25 : (dm_c179.drop 500).all (dm_ck 179) = true := dm_all_td 20 dm_ck_179_25 (by rw [List.drop_drop]; exact dm_cl_26)
theorem dm_cl_24 : (dm_c179.drop 480).all (dm_ck 179) = true := dm_all_td 20 dm_ck_179_24 (by rw [List.drop_drop]; exact dm_cl_25)
theorem dm_cl_23 : (dm_c179.drop 460).all (dm_ck 179) = true := dm_all_td 20 dm_ck_179_23 (by rw [List.drop_drop]; exact dm_cl_24)
theorem dm_cl_22 : (dm_c179.drop 440).all (dm_ck 179) = true := dm_all_td 20 dm_ck_179_22 (by rw [List.drop_drop]; exact dm_cl_23)
theorem dm_cl_21 : (dm_c179.drop 420).all (dm_ck 179) = true := dm_all_td 20 dm_ck_179_21 (by rw [List.drop_drop]; exact dm_cl_22)
theorem dm_cl_20 : (dm_c179.drop 400).all (dm_ck 179) = true := dm_all_td 20 dm_ck_179_20 (by rw [List.drop_drop]; exact dm_cl_21)
theorem dm_cl_19 : (dm_c179.drop 380).all (dm_ck 179) = true := dm_all_td 20 dm_ck_179_19 (by rw [List.drop_drop]; exact dm_cl_20)
theorem dm_cl_18 : (dm_c179.drop 360).all (dm_ck 179) = true := dm_all_td 20 dm_ck_179_18 (by rw [List.drop_drop]; exact dm_cl_19)
theorem dm_cl_17 : (dm_c179.drop 340).all (dm_ck 179) = true := dm_all_td 20 dm_ck_179_17 (by rw [List.drop_drop]; exact dm_cl_18)
theorem dm_cl_16 : (dm_c179.drop 320).all (dm_ck 179) = true := dm_all_td 20 dm_ck_179_16 (by rw [List.drop_drop]; exact dm_cl_17)
theorem dm_cl_15 : (dm_c179.drop 300).all (dm_ck 179) = true := dm_all_td 20 dm_ck_179_15 (by rw [List.drop_drop]; exact dm_cl_16)
theorem dm_cl_14 : (dm_c179.drop 280).all (dm_ck 179) = true := dm_all_td 20 dm_ck_179_14 (by rw [List.drop_drop]; exact dm_cl_15)
theorem dm_cl_13 : (dm_c179.drop 260).all (dm_ck 179) = true := dm_all_td 20 dm_ck_179_13 (by rw [List.drop_drop]; exact dm_cl_14)
theorem dm_cl_12 : (dm_c179.drop 240).all (dm_ck 179) = true := dm_all_td 20 dm_ck_179_12 (by rw [List.drop_drop]; exact dm_cl_13)
theorem dm_cl_11 : (dm_c179.drop 220).all (dm_ck 179) = true := dm_all_td 20 dm_ck_179_11 (by rw [List.drop_drop]; exact dm_cl_12)
theorem dm_cl_10 : (dm_c179.drop 200).all (dm_ck 179) = true := dm_all_td 20 dm_ck_179_10 (by rw [List.drop_drop]; exact dm_cl_11)
theorem dm_cl_9 : (dm_c179.drop 180).all (dm_ck 179) = true := dm_all_td 20 dm_ck_179_9 (by rw [List.drop_drop]; exact dm_cl_10)
theorem dm_cl_8 : (dm_c179.drop 160).all (dm_ck 179) = true := dm_all_td 20 dm_ck_179_8 (by rw [List.drop_drop]; exact dm_cl_9)
theorem dm_cl_7 : (dm_c179.drop 140).all (dm_ck 179) = true := dm_all_td 20 dm_ck_179_7 (by rw [List.drop_drop]; exact dm_cl_8)
theorem dm_cl_6 : (dm_c179.drop 120).all (dm_ck 179) = true := dm_all_td 20 dm_ck_179_6 (by rw [List.drop_drop]; exact dm_cl_7)
theorem dm_cl_5 : (dm_c179.drop 100).all (dm_ck 179) = true := dm_all_td 20 dm_ck_179_5 (by rw [List.drop_drop]; exact dm_cl_6)
theorem dm_cl_4 : (dm_c179.drop 80).all (dm_ck 179) = true := dm_all_td 20 dm_ck_179_4 (by rw [List.drop_drop]; exact dm_cl_5)
theorem dm_cl_3 : (dm_c179.drop 60).all (dm_ck 179) = true := dm_all_td 20 dm_ck_179_3 (by rw [List.drop_drop]; exact dm_cl_4)
theorem dm_cl_2 : (dm_c179.drop 40).all (dm_ck 179) = true := dm_all_td 20 dm_ck_179_2 (by rw [List.drop_drop]; exact dm_cl_3)
theorem dm_cl_1 : (dm_c179.drop 20).all (dm_ck 179) = true := dm_all_td 20 dm_ck_179_1 (by rw [List.drop_drop]; exact dm_cl_2)
theorem dm_cl_0 : (dm_c179.drop 0).all (dm_ck 179) = true := dm_all_td 20 dm_ck_179_0 (by rw [List.drop_drop]; exact dm_cl_1)
theorem dm_ck_179 : (dm_cds.getD 179 []).all (dm_ck 179) = true := dm_cl_0
theorem dm_ck_all : ∀ k, k < 180 → (dm_cds.getD k []).all (dm_ck k) = true := lt_s (lt_s (lt_s (lt_s (lt_s (lt_s (lt_s (lt_s (lt_s (lt_s (lt_s (lt_s (lt_s (lt_s (lt_s (lt_s (lt_s (lt_s (lt_s (lt_s (lt_s (lt_s (lt_s (lt_s (lt_s (lt_s (lt_s (lt_s (lt_s (lt_s (lt_s (lt_s (lt_s (lt_s (lt_s (lt_s (lt_s (lt_s (lt_s (lt_s (lt_s (lt_s (lt_s (lt_s (lt_s (lt_s (lt_s (lt_s (lt_s (lt_s (lt_s (lt_s (lt_s (lt_s (lt_s (lt_s (lt_s (lt_s (lt_s (lt_s (lt_s (lt_s (lt_s (lt_s (lt_s (lt_s (lt_s (lt_s (lt_s (lt_s (lt_s (lt_s (lt_s (lt_s (lt_s (lt_s (lt_s (lt_s (lt_s (lt_s (lt_s (lt_s (lt_s (lt_s (lt_s (lt_s (lt_s (lt_s (lt_s (lt_s (lt_s (lt_s (lt_s (lt_s (lt_s (lt_s (lt_s (lt_s (lt_s (lt_s (lt_s (lt_s (lt_s (lt_s (lt_s (lt_s (lt_s (lt_s (lt_s (lt_s (lt_s (lt_s (lt_s (lt_s (lt_s (lt_s (lt_s (lt_s (lt_s (lt_s (lt_s (lt_s (lt_s (lt_s (lt_s (lt_s (lt_s (lt_s (lt_s (lt_s (lt_s (lt_s (lt_s (lt_s (lt_s (lt_s (lt_s (lt_s (lt_s (lt_s (lt_s (lt_s (lt_s (lt_s (lt_s (lt_s (lt_s (lt_s (lt_s (lt_s (lt_s (lt_s (lt_s (lt_s (lt_s (lt_s (lt_s (lt_s (lt_s (lt_s (lt_s (lt_s (lt_s (lt_s (lt_s (lt_s (lt_s (lt_s (lt_s (lt_s (lt_s (lt_s (lt_s (lt_s (lt_s (lt_s (lt_s (lt_s (lt_s (lt_s (lt_0) dm_ck_0) dm_ck_1) dm_ck_2) dm_ck_3) dm_ck_4) dm_ck_5) dm_ck_6) dm_ck_7) dm_ck_8) dm_ck_9) dm_ck_10) dm_ck_11) dm_ck_12) dm_ck_13) dm_ck_14) dm_ck_15) dm_ck_16) dm_ck_17) dm_ck_18) dm_ck_19) dm_ck_20) dm_ck_21) dm_ck_22) dm_ck_23) dm_ck_24) dm_ck_25) dm_ck_26) dm_ck_27) dm_ck_28) dm_ck_29) dm_ck_30) dm_ck_31) dm_ck_32) dm_ck_33) dm_ck_34) dm_ck_35) dm_ck_36) dm_ck_37) dm_ck_38) dm_ck_39) dm_ck_40) dm_ck_41) dm_ck_42) dm_ck_43) dm_ck_44) dm_ck_45) dm_ck_46) dm_ck_47) dm_ck_48) dm_ck_49) dm_ck_50) dm_ck_51) dm_ck_52) dm_ck_53) dm_ck_54) dm_ck_55) dm_ck_56) dm_ck_57) dm_ck_58) dm_ck_59) dm_ck_60) dm_ck_61) dm_ck_62) dm_ck_63) dm_ck_64) dm_ck_65) dm_ck_66) dm_ck_67) dm_ck_68) dm_ck_69) dm_ck_70) dm_ck_71) dm_ck_72) dm_ck_73) dm_ck_74) dm_ck_75) dm_ck_76) dm_ck_77) dm_ck_78) dm_ck_79) dm_ck_80) dm_ck_81) dm_ck_82) dm_ck_83) dm_ck_84) dm_ck_85) dm_ck_86) dm_ck_87) dm_ck_88) dm_ck_89) dm_ck_90) dm_ck_91) dm_ck_92) dm_ck_93) dm_ck_94) dm_ck_95) dm_ck_96) dm_ck_97) dm_ck_98) dm_ck_99) dm_ck_100) dm_ck_101) dm_ck_102) dm_ck_103) dm_ck_104) dm_ck_105) dm_ck_106) dm_ck_107) dm_ck_108) dm_ck_109) dm_ck_110) dm_ck_111) dm_ck_112) dm_ck_113) dm_ck_114) dm_ck_115) dm_ck_116) dm_ck_117) dm_ck_118) dm_ck_119) dm_ck_120) dm_ck_121) dm_ck_122) dm_ck_123) dm_ck_124) dm_ck_125) dm_ck_126) dm_ck_127) dm_ck_128) dm_ck_129) dm_ck_130) dm_ck_131) dm_ck_132) dm_ck_133) dm_ck_134) dm_ck_135) dm_ck_136) dm_ck_137) dm_ck_138) dm_ck_139) dm_ck_140) dm_ck_141) dm_ck_142) dm_ck_143) dm_ck_144) dm_ck_145) dm_ck_146) dm_ck_147) dm_ck_148) dm_ck_149) dm_ck_150) dm_ck_151) dm_ck_152) dm_ck_153) dm_ck_154) dm_ck_155) dm_ck_156) dm_ck_157) dm_ck_158) dm_ck_159) dm_ck_160) dm_ck_161) dm_ck_162) dm_ck_163) dm_ck_164) dm_ck_165) dm_ck_166) dm_ck_167) dm_ck_168) dm_ck_169) dm_ck_170) dm_ck_171) dm_ck_172) dm_ck_173) dm_ck_174) dm_ck_175) dm_ck_176) dm_ck_177) dm_ck_178) dm_ck_179
theorem dm_ck_of {k pc cp : Nat} {i : Instr} (h : dm_at k pc = some (i, cp)) : decode (dm_b k) pc = .ok (dm_raw pc i cp, dm_len pc i) ∧ dm_ckI k i cp = true ∧ k < 180 := by
  have hk : k < 180 := by
    rcases Nat.lt_or_ge k 180 with q | q
    · exact q
    · have e : dm_cds.getD k [] = [] := by
        rw [List.getD_eq_getElem?_getD, List.getElem?_eq_none (by rw [show dm_cds.length = 180 by decide +kernel]; exact q)]
        rfl
      unfold dm_at at h
      rw [e] at h
      exact absurd h (by simp [dm_find])
  have h1 := dm_ck_all k hk
  have key : ∀ l : List dm_I, dm_find l pc = some (i, cp) → (pc, i, cp) ∈ l := by
    intro l
    induction l with
    | nil => intro h; exact absurd h (by simp [dm_find])
    | cons a l ih =>
      obtain ⟨a, x⟩ := a
      intro h
      unfold dm_find at h
      by_cases q : a = pc
      · rw [if_pos q] at h
        cases h
        rw [q]
        exact List.mem_cons_self
      · rw [if_neg q] at h
        exact List.mem_cons_of_mem _ (ih h)
  have h2 := List.all_eq_true.mp h1 _ (key _ h)
  unfold dm_ck at h2
  rw [Bool.and_eq_true] at h2
  refine ⟨?_, h2.1, hk⟩
  have h3 := h2.2
  dsimp only at h3
  cases hd : decode (dm_b k) pc with
  | error z => rw [hd] at h3; exact absurd h3 (by simp)
  | ok z => rw [hd] at h3; rw [of_decide_eq_true h3]
