/-! ===== the law: the walks of the cases, the rest (by genw.py) ===== -/
theorem lc_refer {X : Ctx} (C : Cx X yL_law cL_law 7 (some .boolean) [] 20 601024 7293034) {k n i H m o : Nat} {h h1 h2 : Hp} {kk v : Int32} {v5 v6 : Value} (hi : i + 6 < gL (gOf X)) (Mw : MRw (lOf X) (gOf X) yL_refer (.codeWith yL_refer cL_refer 7 (Option.some Jvm.ClassFile.FieldType.int) [(0, 14, 17, 13), (0, 14, 21, 15), (0, 14, 25, 17)]) 13 30 600 [.ref H, .int (gX (gOf X) (i + 1)), .int (gX (gOf X) (i + 2)), .int (gX (gOf X) (i + 3)), .int (gX (gOf X) (i + 4)), .ref o] h (.inl (some (.int kk), h1))) (hkm1 : hK h1 m = 10) (Mm : MRw (lOf X) (gOf X) yX12_refer (.code yX12_refer cX12_refer 5 (Option.some Jvm.ClassFile.FieldType.int)) 8 0 0 [.ref m, .int (gX (gOf X) (i + 1)), .int (gX (gOf X) (i + 2)), .int (gX (gOf X) (i + 3)), .int (gX (gOf X) (i + 4))] h1 (.inl (some (.int v), h2))) (hkm2 : hK h2 m = 10) (Mt : MRw (lOf X) (gOf X) yX12_thrown (.code yX12_thrown cX12_thrown 1 (Option.some Jvm.ClassFile.FieldType.int)) 0 0 0 [.ref m] h2 (.inl (some (.int kk), h2)))
    (hko : hK h2 o = 102) (hlo : 0 < hL h2 o) (hw : kk = 0 → hW h2 o 0 = v.toInt64) (r1 : k + 30 ≤ 601024) (r2 : n + 600 ≤ 7293034) (K : wr X (k + 30) (n + 600) 1734 [.ref 0, .ref H, .ref m, .ref o, .int (nI i), .int kk, .int v] [] h2) : wr X k n 1033 [.ref 0, .ref H, .ref m, .ref o, .int (nI i), v5, v6] [] h := by
  refine r_aload_n (i := 1) C dL_law_1033 rfl rfl (by first | rfl | exact isR_rf _) ?_
  refine r_aload_n (i := 0) C dL_law_1034 rfl rfl (by first | rfl | exact isR_rf _) ?_
  refine r_iload (i := 4) C dL_law_1035 rfl ?_
  refine r_iconst (v := 1) C dL_law_1037 (by decide) ?_
  refine r_iadd C dL_law_1038 ?_
  refine r_sald (j := i + 1) C dL_law_1039 (nI_plus i 1 1 rfl) (by omega) ?_
  refine r_aload_n (i := 0) C dL_law_1040 rfl rfl (by first | rfl | exact isR_rf _) ?_
  refine r_iload (i := 4) C dL_law_1041 rfl ?_
  refine r_iconst (v := 2) C dL_law_1043 (by decide) ?_
  refine r_iadd C dL_law_1044 ?_
  refine r_sald (j := i + 2) C dL_law_1045 (nI_plus i 2 2 rfl) (by omega) ?_
  refine r_aload_n (i := 0) C dL_law_1046 rfl rfl (by first | rfl | exact isR_rf _) ?_
  refine r_iload (i := 4) C dL_law_1047 rfl ?_
  refine r_iconst (v := 3) C dL_law_1049 (by decide) ?_
  refine r_iadd C dL_law_1050 ?_
  refine r_sald (j := i + 3) C dL_law_1051 (nI_plus i 3 3 rfl) (by omega) ?_
  refine r_aload_n (i := 0) C dL_law_1052 rfl rfl (by first | rfl | exact isR_rf _) ?_
  refine r_iload (i := 4) C dL_law_1053 rfl ?_
  refine r_iconst (v := 4) C dL_law_1055 (by decide) ?_
  refine r_iadd C dL_law_1056 ?_
  refine r_sald (j := i + 4) C dL_law_1057 (nI_plus i 4 4 rfl) (by omega) ?_
  refine r_aload_n (i := 3) C dL_law_1058 rfl rfl (by first | rfl | exact isR_rf _) ?_
  refine r_callHs C s_L_135 Mw dL_law_1059 (As := [_, _, _, _, _, _]) rfl rfl rfl (by omega) (Nat.le_of_ble_eq_true rfl) (by omega) (by omega) ?_
  refine r_istore (i := 5) C dL_law_1062 (Nat.le_of_ble_eq_true rfl) ?_
  refine r_aload_n (i := 2) C dL_law_1064 rfl rfl (by first | rfl | exact isR_rf _) ?_
  refine r_aload_n (i := 0) C dL_law_1065 rfl rfl (by first | rfl | exact isR_rf _) ?_
  refine r_iload (i := 4) C dL_law_1066 rfl ?_
  refine r_iconst (v := 1) C dL_law_1068 (by decide) ?_
  refine r_iadd C dL_law_1069 ?_
  refine r_sald (j := i + 1) C dL_law_1070 (nI_plus i 1 1 rfl) (by omega) ?_
  refine r_aload_n (i := 0) C dL_law_1071 rfl rfl (by first | rfl | exact isR_rf _) ?_
  refine r_iload (i := 4) C dL_law_1072 rfl ?_
  refine r_iconst (v := 2) C dL_law_1074 (by decide) ?_
  refine r_iadd C dL_law_1075 ?_
  refine r_sald (j := i + 2) C dL_law_1076 (nI_plus i 2 2 rfl) (by omega) ?_
  refine r_aload_n (i := 0) C dL_law_1077 rfl rfl (by first | rfl | exact isR_rf _) ?_
  refine r_iload (i := 4) C dL_law_1078 rfl ?_
  refine r_iconst (v := 3) C dL_law_1080 (by decide) ?_
  refine r_iadd C dL_law_1081 ?_
  refine r_sald (j := i + 3) C dL_law_1082 (nI_plus i 3 3 rfl) (by omega) ?_
  refine r_aload_n (i := 0) C dL_law_1083 rfl rfl (by first | rfl | exact isR_rf _) ?_
  refine r_iload (i := 4) C dL_law_1084 rfl ?_
  refine r_iconst (v := 4) C dL_law_1086 (by decide) ?_
  refine r_iadd C dL_law_1087 ?_
  refine r_sald (j := i + 4) C dL_law_1088 (nI_plus i 4 4 rfl) (by omega) ?_
  refine r_callVs C v_L_138 Mm dL_law_1089 (by assumption) (ci := 10) (by decide) rfl rfl (As := [_, _, _, _]) rfl rfl rfl (by omega) (Nat.le_of_ble_eq_true rfl) (by omega) (by omega) ?_
  refine r_istore (i := 6) C dL_law_1092 (Nat.le_of_ble_eq_true rfl) ?_
  refine r_aload_n (i := 2) C dL_law_1094 rfl rfl (by first | rfl | exact isR_rf _) ?_
  refine r_callVs C v_L_96 Mt dL_law_1095 (by assumption) (ci := 10) (by decide) rfl rfl (As := []) rfl rfl rfl (by omega) (Nat.le_of_ble_eq_true rfl) (by omega) (by omega) ?_
  refine r_iload (i := 5) C dL_law_1098 rfl ?_
  refine r_ic_eq (tgt := 1105) C dL_law_1100 (by decide) (fun _ => ?_) (fun c => absurd rfl c)
  refine r_iload (i := 5) C dL_law_1105 rfl ?_
  refine r_if_ne (tgt := 1122) C dL_law_1107 (by decide) (fun _ => ?_) (fun c => ?_)
  · refine r_goto (tgt := 1734) C dL_law_1122 (by decide) ?_
    exact K
  · refine r_aload_n (i := 3) C dL_law_1110 rfl rfl (by first | rfl | exact isR_rf _) ?_
    refine r_iconst (v := 0) C dL_law_1111 (by decide) ?_
    refine r_lald (a := o) (j := 0) C dL_law_1112 hko rfl hlo ?_
    rw [hw c]
    refine r_iload (i := 6) C dL_law_1113 rfl ?_
    refine r_i2l C dL_law_1115 ?_
    refine r_lcmp C dL_law_1116 ?_
    rw [cmp_self]
    refine r_if_eq (tgt := 1122) C dL_law_1117 (by decide) (fun _ => ?_) (fun c => absurd rfl c)
    refine r_goto (tgt := 1734) C dL_law_1122 (by decide) ?_
    exact K
theorem lc_empty {X : Ctx} (C : Cx X yL_law cL_law 7 (some .boolean) [] 20 601024 7293034) {k n i H m o : Nat} {h h1 h2 : Hp} {kk v : Int32} {v5 v6 : Value} (hi : i + 6 < gL (gOf X)) (Mw : MRw (lOf X) (gOf X) yL_empty (.codeWith yL_empty cL_empty 4 (Option.some Jvm.ClassFile.FieldType.int) [(0, 9, 12, 13)]) 13 30 600 [.ref H, .int (gX (gOf X) (i + 1)), .ref o] h (.inl (some (.int kk), h1))) (hkm1 : hK h1 m = 10) (Mm : MRw (lOf X) (gOf X) yX12_empty (.code yX12_empty cX12_empty 4 (Option.some Jvm.ClassFile.FieldType.int)) 7 0 0 [.ref m, .int (gX (gOf X) (i + 1))] h1 (.inl (some (.int v), h2))) (hkm2 : hK h2 m = 10) (Mt : MRw (lOf X) (gOf X) yX12_thrown (.code yX12_thrown cX12_thrown 1 (Option.some Jvm.ClassFile.FieldType.int)) 0 0 0 [.ref m] h2 (.inl (some (.int kk), h2)))
    (hko : hK h2 o = 102) (hlo : 0 < hL h2 o) (hw : kk = 0 → hW h2 o 0 = v.toInt64) (r1 : k + 30 ≤ 601024) (r2 : n + 600 ≤ 7293034) (K : wr X (k + 30) (n + 600) 1734 [.ref 0, .ref H, .ref m, .ref o, .int (nI i), .int kk, .int v] [] h2) : wr X k n 1125 [.ref 0, .ref H, .ref m, .ref o, .int (nI i), v5, v6] [] h := by
  refine r_aload_n (i := 1) C dL_law_1125 rfl rfl (by first | rfl | exact isR_rf _) ?_
  refine r_aload_n (i := 0) C dL_law_1126 rfl rfl (by first | rfl | exact isR_rf _) ?_
  refine r_iload (i := 4) C dL_law_1127 rfl ?_
  refine r_iconst (v := 1) C dL_law_1129 (by decide) ?_
  refine r_iadd C dL_law_1130 ?_
  refine r_sald (j := i + 1) C dL_law_1131 (nI_plus i 1 1 rfl) (by omega) ?_
  refine r_aload_n (i := 3) C dL_law_1132 rfl rfl (by first | rfl | exact isR_rf _) ?_
  refine r_callHs C s_L_139 Mw dL_law_1133 (As := [_, _, _]) rfl rfl rfl (by omega) (Nat.le_of_ble_eq_true rfl) (by omega) (by omega) ?_
  refine r_istore (i := 5) C dL_law_1136 (Nat.le_of_ble_eq_true rfl) ?_
  refine r_aload_n (i := 2) C dL_law_1138 rfl rfl (by first | rfl | exact isR_rf _) ?_
  refine r_aload_n (i := 0) C dL_law_1139 rfl rfl (by first | rfl | exact isR_rf _) ?_
  refine r_iload (i := 4) C dL_law_1140 rfl ?_
  refine r_iconst (v := 1) C dL_law_1142 (by decide) ?_
  refine r_iadd C dL_law_1143 ?_
  refine r_sald (j := i + 1) C dL_law_1144 (nI_plus i 1 1 rfl) (by omega) ?_
  refine r_callVs C v_L_141 Mm dL_law_1145 (by assumption) (ci := 10) (by decide) rfl rfl (As := [_]) rfl rfl rfl (by omega) (Nat.le_of_ble_eq_true rfl) (by omega) (by omega) ?_
  refine r_istore (i := 6) C dL_law_1148 (Nat.le_of_ble_eq_true rfl) ?_
  refine r_aload_n (i := 2) C dL_law_1150 rfl rfl (by first | rfl | exact isR_rf _) ?_
  refine r_callVs C v_L_96 Mt dL_law_1151 (by assumption) (ci := 10) (by decide) rfl rfl (As := []) rfl rfl rfl (by omega) (Nat.le_of_ble_eq_true rfl) (by omega) (by omega) ?_
  refine r_iload (i := 5) C dL_law_1154 rfl ?_
  refine r_ic_eq (tgt := 1161) C dL_law_1156 (by decide) (fun _ => ?_) (fun c => absurd rfl c)
  refine r_iload (i := 5) C dL_law_1161 rfl ?_
  refine r_if_ne (tgt := 1178) C dL_law_1163 (by decide) (fun _ => ?_) (fun c => ?_)
  · refine r_goto (tgt := 1734) C dL_law_1178 (by decide) ?_
    exact K
  · refine r_aload_n (i := 3) C dL_law_1166 rfl rfl (by first | rfl | exact isR_rf _) ?_
    refine r_iconst (v := 0) C dL_law_1167 (by decide) ?_
    refine r_lald (a := o) (j := 0) C dL_law_1168 hko rfl hlo ?_
    rw [hw c]
    refine r_iload (i := 6) C dL_law_1169 rfl ?_
    refine r_i2l C dL_law_1171 ?_
    refine r_lcmp C dL_law_1172 ?_
    rw [cmp_self]
    refine r_if_eq (tgt := 1178) C dL_law_1173 (by decide) (fun _ => ?_) (fun c => absurd rfl c)
    refine r_goto (tgt := 1734) C dL_law_1178 (by decide) ?_
    exact K
theorem lc_fits {X : Ctx} (C : Cx X yL_law cL_law 7 (some .boolean) [] 20 601024 7293034) {k n i H m o : Nat} {h h1 h2 : Hp} {kk v : Int32} {v5 v6 : Value} (hi : i + 6 < gL (gOf X)) (Mw : MRw (lOf X) (gOf X) yL_fits (.codeWith yL_fits cL_fits 5 (Option.some Jvm.ClassFile.FieldType.int) [(0, 17, 20, 13)]) 13 8 200 [.ref H, .int (gX (gOf X) (i + 1)), .int (gX (gOf X) (i + 2)), .ref o] h (.inl (some (.int kk), h1))) (hkm1 : hK h1 m = 10) (Mm : MRw (lOf X) (gOf X) yX12_fits (.code yX12_fits cX12_fits 4 (Option.some Jvm.ClassFile.FieldType.boolean)) 3 0 0 [.ref m, .int (gX (gOf X) (i + 1)), .int (gX (gOf X) (i + 2))] h1 (.inl (some (.int v), h2))) (hkm2 : hK h2 m = 10) (Mt : MRw (lOf X) (gOf X) yX12_thrown (.code yX12_thrown cX12_thrown 1 (Option.some Jvm.ClassFile.FieldType.int)) 0 0 0 [.ref m] h2 (.inl (some (.int kk), h2)))
    (hko : hK h2 o = 102) (hlo : 0 < hL h2 o) (hw : kk = 0 → hW h2 o 0 = (if v = 0 then 0 else 1)) (r1 : k + 8 ≤ 601024) (r2 : n + 200 ≤ 7293034) (K : wr X (k + 8) (n + 200) 1734 [.ref 0, .ref H, .ref m, .ref o, .int (nI i), .int kk, .int v] [] h2) : wr X k n 1181 [.ref 0, .ref H, .ref m, .ref o, .int (nI i), v5, v6] [] h := by
  refine r_aload_n (i := 1) C dL_law_1181 rfl rfl (by first | rfl | exact isR_rf _) ?_
  refine r_aload_n (i := 0) C dL_law_1182 rfl rfl (by first | rfl | exact isR_rf _) ?_
  refine r_iload (i := 4) C dL_law_1183 rfl ?_
  refine r_iconst (v := 1) C dL_law_1185 (by decide) ?_
  refine r_iadd C dL_law_1186 ?_
  refine r_sald (j := i + 1) C dL_law_1187 (nI_plus i 1 1 rfl) (by omega) ?_
  refine r_aload_n (i := 0) C dL_law_1188 rfl rfl (by first | rfl | exact isR_rf _) ?_
  refine r_iload (i := 4) C dL_law_1189 rfl ?_
  refine r_iconst (v := 2) C dL_law_1191 (by decide) ?_
  refine r_iadd C dL_law_1192 ?_
  refine r_sald (j := i + 2) C dL_law_1193 (nI_plus i 2 2 rfl) (by omega) ?_
  refine r_aload_n (i := 3) C dL_law_1194 rfl rfl (by first | rfl | exact isR_rf _) ?_
  refine r_callHs C s_L_142 Mw dL_law_1195 (As := [_, _, _, _]) rfl rfl rfl (by omega) (Nat.le_of_ble_eq_true rfl) (by omega) (by omega) ?_
  refine r_istore (i := 5) C dL_law_1198 (Nat.le_of_ble_eq_true rfl) ?_
  refine r_aload_n (i := 2) C dL_law_1200 rfl rfl (by first | rfl | exact isR_rf _) ?_
  refine r_aload_n (i := 0) C dL_law_1201 rfl rfl (by first | rfl | exact isR_rf _) ?_
  refine r_iload (i := 4) C dL_law_1202 rfl ?_
  refine r_iconst (v := 1) C dL_law_1204 (by decide) ?_
  refine r_iadd C dL_law_1205 ?_
  refine r_sald (j := i + 1) C dL_law_1206 (nI_plus i 1 1 rfl) (by omega) ?_
  refine r_aload_n (i := 0) C dL_law_1207 rfl rfl (by first | rfl | exact isR_rf _) ?_
  refine r_iload (i := 4) C dL_law_1208 rfl ?_
  refine r_iconst (v := 2) C dL_law_1210 (by decide) ?_
  refine r_iadd C dL_law_1211 ?_
  refine r_sald (j := i + 2) C dL_law_1212 (nI_plus i 2 2 rfl) (by omega) ?_
  refine r_callVs C v_L_144 Mm dL_law_1213 (by assumption) (ci := 10) (by decide) rfl rfl (As := [_, _]) rfl rfl rfl (by omega) (Nat.le_of_ble_eq_true rfl) (by omega) (by omega) ?_
  refine r_istore (i := 6) C dL_law_1216 (Nat.le_of_ble_eq_true rfl) ?_
  refine r_aload_n (i := 2) C dL_law_1218 rfl rfl (by first | rfl | exact isR_rf _) ?_
  refine r_callVs C v_L_96 Mt dL_law_1219 (by assumption) (ci := 10) (by decide) rfl rfl (As := []) rfl rfl rfl (by omega) (Nat.le_of_ble_eq_true rfl) (by omega) (by omega) ?_
  refine r_iload (i := 5) C dL_law_1222 rfl ?_
  refine r_ic_eq (tgt := 1229) C dL_law_1224 (by decide) (fun _ => ?_) (fun c => absurd rfl c)
  refine r_iload (i := 5) C dL_law_1229 rfl ?_
  refine r_if_ne (tgt := 1253) C dL_law_1231 (by decide) (fun _ => ?_) (fun c => ?_)
  · refine r_goto (tgt := 1734) C dL_law_1253 (by decide) ?_
    exact K
  · refine r_aload_n (i := 3) C dL_law_1234 rfl rfl (by first | rfl | exact isR_rf _) ?_
    refine r_iconst (v := 0) C dL_law_1235 (by decide) ?_
    refine r_lald (a := o) (j := 0) C dL_law_1236 hko rfl hlo ?_
    rw [hw c]
    refine r_iload (i := 6) C dL_law_1237 rfl ?_
    refine r_if_eq (tgt := 1246) C dL_law_1239 (by decide) (fun c2 => ?_) (fun c2 => ?_)
    · rw [if_pos c2]
      refine r_lconst (v := 0) C dL_law_1246 (by decide) ?_
      refine r_lcmp C dL_law_1247 ?_
      rw [cmp_self]
      refine r_if_eq (tgt := 1253) C dL_law_1248 (by decide) (fun _ => ?_) (fun c => absurd rfl c)
      refine r_goto (tgt := 1734) C dL_law_1253 (by decide) ?_
      exact K
    · rw [if_neg c2]
      refine r_lconst (v := 1) C dL_law_1242 (by decide) ?_
      refine r_goto (tgt := 1247) C dL_law_1243 (by decide) ?_
      refine r_lcmp C dL_law_1247 ?_
      rw [cmp_self]
      refine r_if_eq (tgt := 1253) C dL_law_1248 (by decide) (fun _ => ?_) (fun c => absurd rfl c)
      refine r_goto (tgt := 1734) C dL_law_1253 (by decide) ?_
      exact K
theorem lc_weight {X : Ctx} (C : Cx X yL_law cL_law 7 (some .boolean) [] 20 601024 7293034) {k n i H m o : Nat} {h h1 h2 : Hp} {kk v : Int32} {v5 v6 : Value} (hi : i + 6 < gL (gOf X)) (Mw : MRw (lOf X) (gOf X) yL_weight (.codeWith yL_weight cL_weight 4 (Option.some Jvm.ClassFile.FieldType.int) [(0, 9, 12, 13)]) 13 8 200 [.ref H, .int (gX (gOf X) (i + 1)), .ref o] h (.inl (some (.int kk), h1))) (hkm1 : hK h1 m = 10) (Mm : MRw (lOf X) (gOf X) yX12_weight (.code yX12_weight cX12_weight 2 (Option.some Jvm.ClassFile.FieldType.int)) 2 0 0 [.ref m, .int (gX (gOf X) (i + 1))] h1 (.inl (some (.int v), h2))) (hkm2 : hK h2 m = 10) (Mt : MRw (lOf X) (gOf X) yX12_thrown (.code yX12_thrown cX12_thrown 1 (Option.some Jvm.ClassFile.FieldType.int)) 0 0 0 [.ref m] h2 (.inl (some (.int kk), h2)))
    (hko : hK h2 o = 102) (hlo : 0 < hL h2 o) (hw : kk = 0 → hW h2 o 0 = v.toInt64) (r1 : k + 8 ≤ 601024) (r2 : n + 200 ≤ 7293034) (K : wr X (k + 8) (n + 200) 1734 [.ref 0, .ref H, .ref m, .ref o, .int (nI i), .int kk, .int v] [] h2) : wr X k n 1256 [.ref 0, .ref H, .ref m, .ref o, .int (nI i), v5, v6] [] h := by
  refine r_aload_n (i := 1) C dL_law_1256 rfl rfl (by first | rfl | exact isR_rf _) ?_
  refine r_aload_n (i := 0) C dL_law_1257 rfl rfl (by first | rfl | exact isR_rf _) ?_
  refine r_iload (i := 4) C dL_law_1258 rfl ?_
  refine r_iconst (v := 1) C dL_law_1260 (by decide) ?_
  refine r_iadd C dL_law_1261 ?_
  refine r_sald (j := i + 1) C dL_law_1262 (nI_plus i 1 1 rfl) (by omega) ?_
  refine r_aload_n (i := 3) C dL_law_1263 rfl rfl (by first | rfl | exact isR_rf _) ?_
  refine r_callHs C s_L_145 Mw dL_law_1264 (As := [_, _, _]) rfl rfl rfl (by omega) (Nat.le_of_ble_eq_true rfl) (by omega) (by omega) ?_
  refine r_istore (i := 5) C dL_law_1267 (Nat.le_of_ble_eq_true rfl) ?_
  refine r_aload_n (i := 2) C dL_law_1269 rfl rfl (by first | rfl | exact isR_rf _) ?_
  refine r_aload_n (i := 0) C dL_law_1270 rfl rfl (by first | rfl | exact isR_rf _) ?_
  refine r_iload (i := 4) C dL_law_1271 rfl ?_
  refine r_iconst (v := 1) C dL_law_1273 (by decide) ?_
  refine r_iadd C dL_law_1274 ?_
  refine r_sald (j := i + 1) C dL_law_1275 (nI_plus i 1 1 rfl) (by omega) ?_
  refine r_callVs C v_L_147 Mm dL_law_1276 (by assumption) (ci := 10) (by decide) rfl rfl (As := [_]) rfl rfl rfl (by omega) (Nat.le_of_ble_eq_true rfl) (by omega) (by omega) ?_
  refine r_istore (i := 6) C dL_law_1279 (Nat.le_of_ble_eq_true rfl) ?_
  refine r_aload_n (i := 2) C dL_law_1281 rfl rfl (by first | rfl | exact isR_rf _) ?_
  refine r_callVs C v_L_96 Mt dL_law_1282 (by assumption) (ci := 10) (by decide) rfl rfl (As := []) rfl rfl rfl (by omega) (Nat.le_of_ble_eq_true rfl) (by omega) (by omega) ?_
  refine r_iload (i := 5) C dL_law_1285 rfl ?_
  refine r_ic_eq (tgt := 1292) C dL_law_1287 (by decide) (fun _ => ?_) (fun c => absurd rfl c)
  refine r_iload (i := 5) C dL_law_1292 rfl ?_
  refine r_if_ne (tgt := 1309) C dL_law_1294 (by decide) (fun _ => ?_) (fun c => ?_)
  · refine r_goto (tgt := 1734) C dL_law_1309 (by decide) ?_
    exact K
  · refine r_aload_n (i := 3) C dL_law_1297 rfl rfl (by first | rfl | exact isR_rf _) ?_
    refine r_iconst (v := 0) C dL_law_1298 (by decide) ?_
    refine r_lald (a := o) (j := 0) C dL_law_1299 hko rfl hlo ?_
    rw [hw c]
    refine r_iload (i := 6) C dL_law_1300 rfl ?_
    refine r_i2l C dL_law_1302 ?_
    refine r_lcmp C dL_law_1303 ?_
    rw [cmp_self]
    refine r_if_eq (tgt := 1309) C dL_law_1304 (by decide) (fun _ => ?_) (fun c => absurd rfl c)
    refine r_goto (tgt := 1734) C dL_law_1309 (by decide) ?_
    exact K
theorem lc_value {X : Ctx} (C : Cx X yL_law cL_law 7 (some .boolean) [] 20 601024 7293034) {k n i H m o : Nat} {h h1 h2 : Hp} {kk v : Int32} {v5 v6 : Value} (hi : i + 6 < gL (gOf X)) (Mw : MRw (lOf X) (gOf X) yL_value (.codeWith yL_value cL_value 5 (Option.some Jvm.ClassFile.FieldType.int) [(0, 10, 13, 13)]) 13 8 200 [.ref H, .int (gX (gOf X) (i + 1)), .int (gX (gOf X) (i + 2)), .ref o] h (.inl (some (.int kk), h1))) (hkm1 : hK h1 m = 10) (Mm : MRw (lOf X) (gOf X) yX12_value (.code yX12_value cX12_value 3 (Option.some Jvm.ClassFile.FieldType.int)) 2 0 0 [.ref m, .int (gX (gOf X) (i + 1)), .int (gX (gOf X) (i + 2))] h1 (.inl (some (.int v), h2))) (hkm2 : hK h2 m = 10) (Mt : MRw (lOf X) (gOf X) yX12_thrown (.code yX12_thrown cX12_thrown 1 (Option.some Jvm.ClassFile.FieldType.int)) 0 0 0 [.ref m] h2 (.inl (some (.int kk), h2)))
    (hko : hK h2 o = 102) (hlo : 0 < hL h2 o) (hw : kk = 0 → hW h2 o 0 = v.toInt64) (r1 : k + 8 ≤ 601024) (r2 : n + 200 ≤ 7293034) (K : wr X (k + 8) (n + 200) 1734 [.ref 0, .ref H, .ref m, .ref o, .int (nI i), .int kk, .int v] [] h2) : wr X k n 1312 [.ref 0, .ref H, .ref m, .ref o, .int (nI i), v5, v6] [] h := by
  refine r_aload_n (i := 1) C dL_law_1312 rfl rfl (by first | rfl | exact isR_rf _) ?_
  refine r_aload_n (i := 0) C dL_law_1313 rfl rfl (by first | rfl | exact isR_rf _) ?_
  refine r_iload (i := 4) C dL_law_1314 rfl ?_
  refine r_iconst (v := 1) C dL_law_1316 (by decide) ?_
  refine r_iadd C dL_law_1317 ?_
  refine r_sald (j := i + 1) C dL_law_1318 (nI_plus i 1 1 rfl) (by omega) ?_
  refine r_aload_n (i := 0) C dL_law_1319 rfl rfl (by first | rfl | exact isR_rf _) ?_
  refine r_iload (i := 4) C dL_law_1320 rfl ?_
  refine r_iconst (v := 2) C dL_law_1322 (by decide) ?_
  refine r_iadd C dL_law_1323 ?_
  refine r_sald (j := i + 2) C dL_law_1324 (nI_plus i 2 2 rfl) (by omega) ?_
  refine r_aload_n (i := 3) C dL_law_1325 rfl rfl (by first | rfl | exact isR_rf _) ?_
  refine r_callHs C s_L_148 Mw dL_law_1326 (As := [_, _, _, _]) rfl rfl rfl (by omega) (Nat.le_of_ble_eq_true rfl) (by omega) (by omega) ?_
  refine r_istore (i := 5) C dL_law_1329 (Nat.le_of_ble_eq_true rfl) ?_
  refine r_aload_n (i := 2) C dL_law_1331 rfl rfl (by first | rfl | exact isR_rf _) ?_
  refine r_aload_n (i := 0) C dL_law_1332 rfl rfl (by first | rfl | exact isR_rf _) ?_
  refine r_iload (i := 4) C dL_law_1333 rfl ?_
  refine r_iconst (v := 1) C dL_law_1335 (by decide) ?_
  refine r_iadd C dL_law_1336 ?_
  refine r_sald (j := i + 1) C dL_law_1337 (nI_plus i 1 1 rfl) (by omega) ?_
  refine r_aload_n (i := 0) C dL_law_1338 rfl rfl (by first | rfl | exact isR_rf _) ?_
  refine r_iload (i := 4) C dL_law_1339 rfl ?_
  refine r_iconst (v := 2) C dL_law_1341 (by decide) ?_
  refine r_iadd C dL_law_1342 ?_
  refine r_sald (j := i + 2) C dL_law_1343 (nI_plus i 2 2 rfl) (by omega) ?_
  refine r_callVs C v_L_150 Mm dL_law_1344 (by assumption) (ci := 10) (by decide) rfl rfl (As := [_, _]) rfl rfl rfl (by omega) (Nat.le_of_ble_eq_true rfl) (by omega) (by omega) ?_
  refine r_istore (i := 6) C dL_law_1347 (Nat.le_of_ble_eq_true rfl) ?_
  refine r_aload_n (i := 2) C dL_law_1349 rfl rfl (by first | rfl | exact isR_rf _) ?_
  refine r_callVs C v_L_96 Mt dL_law_1350 (by assumption) (ci := 10) (by decide) rfl rfl (As := []) rfl rfl rfl (by omega) (Nat.le_of_ble_eq_true rfl) (by omega) (by omega) ?_
  refine r_iload (i := 5) C dL_law_1353 rfl ?_
  refine r_ic_eq (tgt := 1360) C dL_law_1355 (by decide) (fun _ => ?_) (fun c => absurd rfl c)
  refine r_iload (i := 5) C dL_law_1360 rfl ?_
  refine r_if_ne (tgt := 1377) C dL_law_1362 (by decide) (fun _ => ?_) (fun c => ?_)
  · refine r_goto (tgt := 1734) C dL_law_1377 (by decide) ?_
    exact K
  · refine r_aload_n (i := 3) C dL_law_1365 rfl rfl (by first | rfl | exact isR_rf _) ?_
    refine r_iconst (v := 0) C dL_law_1366 (by decide) ?_
    refine r_lald (a := o) (j := 0) C dL_law_1367 hko rfl hlo ?_
    rw [hw c]
    refine r_iload (i := 6) C dL_law_1368 rfl ?_
    refine r_i2l C dL_law_1370 ?_
    refine r_lcmp C dL_law_1371 ?_
    rw [cmp_self]
    refine r_if_eq (tgt := 1377) C dL_law_1372 (by decide) (fun _ => ?_) (fun c => absurd rfl c)
    refine r_goto (tgt := 1734) C dL_law_1377 (by decide) ?_
    exact K
theorem lc_valueAnew {X : Ctx} (C : Cx X yL_law cL_law 7 (some .boolean) [] 20 601024 7293034) {k n i H m o : Nat} {h h1 h2 : Hp} {kk v : Int32} {v5 v6 : Value} (hi : i + 6 < gL (gOf X)) (Mw : MRw (lOf X) (gOf X) yL_valueAnew (.codeWith yL_valueAnew cL_valueAnew 5 (Option.some Jvm.ClassFile.FieldType.int) [(0, 10, 13, 13)]) 13 8 200 [.ref H, .int (gX (gOf X) (i + 1)), .int (gX (gOf X) (i + 2)), .ref o] h (.inl (some (.int kk), h1))) (hkm1 : hK h1 m = 10) (Mm : MRw (lOf X) (gOf X) yX12_valueAnew (.code yX12_valueAnew cX12_valueAnew 3 (Option.some Jvm.ClassFile.FieldType.int)) 2 0 0 [.ref m, .int (gX (gOf X) (i + 1)), .int (gX (gOf X) (i + 2))] h1 (.inl (some (.int v), h2))) (hkm2 : hK h2 m = 10) (Mt : MRw (lOf X) (gOf X) yX12_thrown (.code yX12_thrown cX12_thrown 1 (Option.some Jvm.ClassFile.FieldType.int)) 0 0 0 [.ref m] h2 (.inl (some (.int kk), h2)))
    (hko : hK h2 o = 102) (hlo : 0 < hL h2 o) (hw : kk = 0 → hW h2 o 0 = v.toInt64) (r1 : k + 8 ≤ 601024) (r2 : n + 200 ≤ 7293034) (K : wr X (k + 8) (n + 200) 1734 [.ref 0, .ref H, .ref m, .ref o, .int (nI i), .int kk, .int v] [] h2) : wr X k n 1380 [.ref 0, .ref H, .ref m, .ref o, .int (nI i), v5, v6] [] h := by
  refine r_aload_n (i := 1) C dL_law_1380 rfl rfl (by first | rfl | exact isR_rf _) ?_
  refine r_aload_n (i := 0) C dL_law_1381 rfl rfl (by first | rfl | exact isR_rf _) ?_
  refine r_iload (i := 4) C dL_law_1382 rfl ?_
  refine r_iconst (v := 1) C dL_law_1384 (by decide) ?_
  refine r_iadd C dL_law_1385 ?_
  refine r_sald (j := i + 1) C dL_law_1386 (nI_plus i 1 1 rfl) (by omega) ?_
  refine r_aload_n (i := 0) C dL_law_1387 rfl rfl (by first | rfl | exact isR_rf _) ?_
  refine r_iload (i := 4) C dL_law_1388 rfl ?_
  refine r_iconst (v := 2) C dL_law_1390 (by decide) ?_
  refine r_iadd C dL_law_1391 ?_
  refine r_sald (j := i + 2) C dL_law_1392 (nI_plus i 2 2 rfl) (by omega) ?_
  refine r_aload_n (i := 3) C dL_law_1393 rfl rfl (by first | rfl | exact isR_rf _) ?_
  refine r_callHs C s_L_151 Mw dL_law_1394 (As := [_, _, _, _]) rfl rfl rfl (by omega) (Nat.le_of_ble_eq_true rfl) (by omega) (by omega) ?_
  refine r_istore (i := 5) C dL_law_1397 (Nat.le_of_ble_eq_true rfl) ?_
  refine r_aload_n (i := 2) C dL_law_1399 rfl rfl (by first | rfl | exact isR_rf _) ?_
  refine r_aload_n (i := 0) C dL_law_1400 rfl rfl (by first | rfl | exact isR_rf _) ?_
  refine r_iload (i := 4) C dL_law_1401 rfl ?_
  refine r_iconst (v := 1) C dL_law_1403 (by decide) ?_
  refine r_iadd C dL_law_1404 ?_
  refine r_sald (j := i + 1) C dL_law_1405 (nI_plus i 1 1 rfl) (by omega) ?_
  refine r_aload_n (i := 0) C dL_law_1406 rfl rfl (by first | rfl | exact isR_rf _) ?_
  refine r_iload (i := 4) C dL_law_1407 rfl ?_
  refine r_iconst (v := 2) C dL_law_1409 (by decide) ?_
  refine r_iadd C dL_law_1410 ?_
  refine r_sald (j := i + 2) C dL_law_1411 (nI_plus i 2 2 rfl) (by omega) ?_
  refine r_callVs C v_L_153 Mm dL_law_1412 (by assumption) (ci := 10) (by decide) rfl rfl (As := [_, _]) rfl rfl rfl (by omega) (Nat.le_of_ble_eq_true rfl) (by omega) (by omega) ?_
  refine r_istore (i := 6) C dL_law_1415 (Nat.le_of_ble_eq_true rfl) ?_
  refine r_aload_n (i := 2) C dL_law_1417 rfl rfl (by first | rfl | exact isR_rf _) ?_
  refine r_callVs C v_L_96 Mt dL_law_1418 (by assumption) (ci := 10) (by decide) rfl rfl (As := []) rfl rfl rfl (by omega) (Nat.le_of_ble_eq_true rfl) (by omega) (by omega) ?_
  refine r_iload (i := 5) C dL_law_1421 rfl ?_
  refine r_ic_eq (tgt := 1428) C dL_law_1423 (by decide) (fun _ => ?_) (fun c => absurd rfl c)
  refine r_iload (i := 5) C dL_law_1428 rfl ?_
  refine r_if_ne (tgt := 1445) C dL_law_1430 (by decide) (fun _ => ?_) (fun c => ?_)
  · refine r_goto (tgt := 1734) C dL_law_1445 (by decide) ?_
    exact K
  · refine r_aload_n (i := 3) C dL_law_1433 rfl rfl (by first | rfl | exact isR_rf _) ?_
    refine r_iconst (v := 0) C dL_law_1434 (by decide) ?_
    refine r_lald (a := o) (j := 0) C dL_law_1435 hko rfl hlo ?_
    rw [hw c]
    refine r_iload (i := 6) C dL_law_1436 rfl ?_
    refine r_i2l C dL_law_1438 ?_
    refine r_lcmp C dL_law_1439 ?_
    rw [cmp_self]
    refine r_if_eq (tgt := 1445) C dL_law_1440 (by decide) (fun _ => ?_) (fun c => absurd rfl c)
    refine r_goto (tgt := 1734) C dL_law_1445 (by decide) ?_
    exact K
theorem lc_from {X : Ctx} (C : Cx X yL_law cL_law 7 (some .boolean) [] 20 601024 7293034) {k n i H m o : Nat} {h h1 h2 : Hp} {kk v : Int32} {v5 v6 : Value} (hi : i + 6 < gL (gOf X)) (Mw : MRw (lOf X) (gOf X) yL_from (.codeWith yL_from cL_from 5 (Option.some Jvm.ClassFile.FieldType.int) [(0, 10, 13, 13)]) 13 8 200 [.ref H, .int (gX (gOf X) (i + 1)), .int (gX (gOf X) (i + 2)), .ref o] h (.inl (some (.int kk), h1))) (hkm1 : hK h1 m = 10) (Mm : MRw (lOf X) (gOf X) yX12_from (.code yX12_from cX12_from 4 (Option.some Jvm.ClassFile.FieldType.int)) 1 0 0 [.ref m, .int (gX (gOf X) (i + 1)), .int (gX (gOf X) (i + 2))] h1 (.inl (some (.int v), h2))) (hkm2 : hK h2 m = 10) (Mt : MRw (lOf X) (gOf X) yX12_thrown (.code yX12_thrown cX12_thrown 1 (Option.some Jvm.ClassFile.FieldType.int)) 0 0 0 [.ref m] h2 (.inl (some (.int kk), h2)))
    (hko : hK h2 o = 102) (hlo : 0 < hL h2 o) (hw : kk = 0 → hW h2 o 0 = v.toInt64) (r1 : k + 8 ≤ 601024) (r2 : n + 200 ≤ 7293034) (K : wr X (k + 8) (n + 200) 1734 [.ref 0, .ref H, .ref m, .ref o, .int (nI i), .int kk, .int v] [] h2) : wr X k n 1448 [.ref 0, .ref H, .ref m, .ref o, .int (nI i), v5, v6] [] h := by
  refine r_aload_n (i := 1) C dL_law_1448 rfl rfl (by first | rfl | exact isR_rf _) ?_
  refine r_aload_n (i := 0) C dL_law_1449 rfl rfl (by first | rfl | exact isR_rf _) ?_
  refine r_iload (i := 4) C dL_law_1450 rfl ?_
  refine r_iconst (v := 1) C dL_law_1452 (by decide) ?_
  refine r_iadd C dL_law_1453 ?_
  refine r_sald (j := i + 1) C dL_law_1454 (nI_plus i 1 1 rfl) (by omega) ?_
  refine r_aload_n (i := 0) C dL_law_1455 rfl rfl (by first | rfl | exact isR_rf _) ?_
  refine r_iload (i := 4) C dL_law_1456 rfl ?_
  refine r_iconst (v := 2) C dL_law_1458 (by decide) ?_
  refine r_iadd C dL_law_1459 ?_
  refine r_sald (j := i + 2) C dL_law_1460 (nI_plus i 2 2 rfl) (by omega) ?_
  refine r_aload_n (i := 3) C dL_law_1461 rfl rfl (by first | rfl | exact isR_rf _) ?_
  refine r_callHs C s_L_154 Mw dL_law_1462 (As := [_, _, _, _]) rfl rfl rfl (by omega) (Nat.le_of_ble_eq_true rfl) (by omega) (by omega) ?_
  refine r_istore (i := 5) C dL_law_1465 (Nat.le_of_ble_eq_true rfl) ?_
  refine r_aload_n (i := 2) C dL_law_1467 rfl rfl (by first | rfl | exact isR_rf _) ?_
  refine r_aload_n (i := 0) C dL_law_1468 rfl rfl (by first | rfl | exact isR_rf _) ?_
  refine r_iload (i := 4) C dL_law_1469 rfl ?_
  refine r_iconst (v := 1) C dL_law_1471 (by decide) ?_
  refine r_iadd C dL_law_1472 ?_
  refine r_sald (j := i + 1) C dL_law_1473 (nI_plus i 1 1 rfl) (by omega) ?_
  refine r_aload_n (i := 0) C dL_law_1474 rfl rfl (by first | rfl | exact isR_rf _) ?_
  refine r_iload (i := 4) C dL_law_1475 rfl ?_
  refine r_iconst (v := 2) C dL_law_1477 (by decide) ?_
  refine r_iadd C dL_law_1478 ?_
  refine r_sald (j := i + 2) C dL_law_1479 (nI_plus i 2 2 rfl) (by omega) ?_
  refine r_callVs C v_L_156 Mm dL_law_1480 (by assumption) (ci := 10) (by decide) rfl rfl (As := [_, _]) rfl rfl rfl (by omega) (Nat.le_of_ble_eq_true rfl) (by omega) (by omega) ?_
  refine r_istore (i := 6) C dL_law_1483 (Nat.le_of_ble_eq_true rfl) ?_
  refine r_aload_n (i := 2) C dL_law_1485 rfl rfl (by first | rfl | exact isR_rf _) ?_
  refine r_callVs C v_L_96 Mt dL_law_1486 (by assumption) (ci := 10) (by decide) rfl rfl (As := []) rfl rfl rfl (by omega) (Nat.le_of_ble_eq_true rfl) (by omega) (by omega) ?_
  refine r_iload (i := 5) C dL_law_1489 rfl ?_
  refine r_ic_eq (tgt := 1496) C dL_law_1491 (by decide) (fun _ => ?_) (fun c => absurd rfl c)
  refine r_iload (i := 5) C dL_law_1496 rfl ?_
  refine r_if_ne (tgt := 1513) C dL_law_1498 (by decide) (fun _ => ?_) (fun c => ?_)
  · refine r_goto (tgt := 1734) C dL_law_1513 (by decide) ?_
    exact K
  · refine r_aload_n (i := 3) C dL_law_1501 rfl rfl (by first | rfl | exact isR_rf _) ?_
    refine r_iconst (v := 0) C dL_law_1502 (by decide) ?_
    refine r_lald (a := o) (j := 0) C dL_law_1503 hko rfl hlo ?_
    rw [hw c]
    refine r_iload (i := 6) C dL_law_1504 rfl ?_
    refine r_i2l C dL_law_1506 ?_
    refine r_lcmp C dL_law_1507 ?_
    rw [cmp_self]
    refine r_if_eq (tgt := 1513) C dL_law_1508 (by decide) (fun _ => ?_) (fun c => absurd rfl c)
    refine r_goto (tgt := 1734) C dL_law_1513 (by decide) ?_
    exact K
theorem lc_box {X : Ctx} (C : Cx X yL_law cL_law 7 (some .boolean) [] 20 601024 7293034) {k n i H m o : Nat} {h h1 h2 : Hp} {kk v : Int32} {v5 v6 : Value} (hi : i + 6 < gL (gOf X)) (Mw : MRw (lOf X) (gOf X) yL_box (.codeWith yL_box cL_box 5 (Option.some Jvm.ClassFile.FieldType.int) [(0, 10, 13, 13), (0, 10, 17, 15)]) 13 8 200 [.ref H, .int (gX (gOf X) (i + 1)), .int (gX (gOf X) (i + 2)), .ref o] h (.inl (some (.int kk), h1))) (hkm1 : hK h1 m = 10) (Mm : MRw (lOf X) (gOf X) yX12_box (.code yX12_box cX12_box 3 (Option.some Jvm.ClassFile.FieldType.int)) 2 0 0 [.ref m, .int (gX (gOf X) (i + 1)), .int (gX (gOf X) (i + 2))] h1 (.inl (some (.int v), h2))) (hkm2 : hK h2 m = 10) (Mt : MRw (lOf X) (gOf X) yX12_thrown (.code yX12_thrown cX12_thrown 1 (Option.some Jvm.ClassFile.FieldType.int)) 0 0 0 [.ref m] h2 (.inl (some (.int kk), h2)))
    (hko : hK h2 o = 102) (hlo : 0 < hL h2 o) (hw : kk = 0 → hW h2 o 0 = v.toInt64) (r1 : k + 8 ≤ 601024) (r2 : n + 200 ≤ 7293034) (K : wr X (k + 8) (n + 200) 1734 [.ref 0, .ref H, .ref m, .ref o, .int (nI i), .int kk, .int v] [] h2) : wr X k n 1516 [.ref 0, .ref H, .ref m, .ref o, .int (nI i), v5, v6] [] h := by
  refine r_aload_n (i := 1) C dL_law_1516 rfl rfl (by first | rfl | exact isR_rf _) ?_
  refine r_aload_n (i := 0) C dL_law_1517 rfl rfl (by first | rfl | exact isR_rf _) ?_
  refine r_iload (i := 4) C dL_law_1518 rfl ?_
  refine r_iconst (v := 1) C dL_law_1520 (by decide) ?_
  refine r_iadd C dL_law_1521 ?_
  refine r_sald (j := i + 1) C dL_law_1522 (nI_plus i 1 1 rfl) (by omega) ?_
  refine r_aload_n (i := 0) C dL_law_1523 rfl rfl (by first | rfl | exact isR_rf _) ?_
  refine r_iload (i := 4) C dL_law_1524 rfl ?_
  refine r_iconst (v := 2) C dL_law_1526 (by decide) ?_
  refine r_iadd C dL_law_1527 ?_
  refine r_sald (j := i + 2) C dL_law_1528 (nI_plus i 2 2 rfl) (by omega) ?_
  refine r_aload_n (i := 3) C dL_law_1529 rfl rfl (by first | rfl | exact isR_rf _) ?_
  refine r_callHs C s_L_157 Mw dL_law_1530 (As := [_, _, _, _]) rfl rfl rfl (by omega) (Nat.le_of_ble_eq_true rfl) (by omega) (by omega) ?_
  refine r_istore (i := 5) C dL_law_1533 (Nat.le_of_ble_eq_true rfl) ?_
  refine r_aload_n (i := 2) C dL_law_1535 rfl rfl (by first | rfl | exact isR_rf _) ?_
  refine r_aload_n (i := 0) C dL_law_1536 rfl rfl (by first | rfl | exact isR_rf _) ?_
  refine r_iload (i := 4) C dL_law_1537 rfl ?_
  refine r_iconst (v := 1) C dL_law_1539 (by decide) ?_
  refine r_iadd C dL_law_1540 ?_
  refine r_sald (j := i + 1) C dL_law_1541 (nI_plus i 1 1 rfl) (by omega) ?_
  refine r_aload_n (i := 0) C dL_law_1542 rfl rfl (by first | rfl | exact isR_rf _) ?_
  refine r_iload (i := 4) C dL_law_1543 rfl ?_
  refine r_iconst (v := 2) C dL_law_1545 (by decide) ?_
  refine r_iadd C dL_law_1546 ?_
  refine r_sald (j := i + 2) C dL_law_1547 (nI_plus i 2 2 rfl) (by omega) ?_
  refine r_callVs C v_L_159 Mm dL_law_1548 (by assumption) (ci := 10) (by decide) rfl rfl (As := [_, _]) rfl rfl rfl (by omega) (Nat.le_of_ble_eq_true rfl) (by omega) (by omega) ?_
  refine r_istore (i := 6) C dL_law_1551 (Nat.le_of_ble_eq_true rfl) ?_
  refine r_aload_n (i := 2) C dL_law_1553 rfl rfl (by first | rfl | exact isR_rf _) ?_
  refine r_callVs C v_L_96 Mt dL_law_1554 (by assumption) (ci := 10) (by decide) rfl rfl (As := []) rfl rfl rfl (by omega) (Nat.le_of_ble_eq_true rfl) (by omega) (by omega) ?_
  refine r_iload (i := 5) C dL_law_1557 rfl ?_
  refine r_ic_eq (tgt := 1564) C dL_law_1559 (by decide) (fun _ => ?_) (fun c => absurd rfl c)
  refine r_iload (i := 5) C dL_law_1564 rfl ?_
  refine r_if_ne (tgt := 1581) C dL_law_1566 (by decide) (fun _ => ?_) (fun c => ?_)
  · refine r_goto (tgt := 1734) C dL_law_1581 (by decide) ?_
    exact K
  · refine r_aload_n (i := 3) C dL_law_1569 rfl rfl (by first | rfl | exact isR_rf _) ?_
    refine r_iconst (v := 0) C dL_law_1570 (by decide) ?_
    refine r_lald (a := o) (j := 0) C dL_law_1571 hko rfl hlo ?_
    rw [hw c]
    refine r_iload (i := 6) C dL_law_1572 rfl ?_
    refine r_i2l C dL_law_1574 ?_
    refine r_lcmp C dL_law_1575 ?_
    rw [cmp_self]
    refine r_if_eq (tgt := 1581) C dL_law_1576 (by decide) (fun _ => ?_) (fun c => absurd rfl c)
    refine r_goto (tgt := 1734) C dL_law_1581 (by decide) ?_
    exact K
theorem lc_boxAnew {X : Ctx} (C : Cx X yL_law cL_law 7 (some .boolean) [] 20 601024 7293034) {k n i H m o : Nat} {h h1 h2 : Hp} {kk v : Int32} {v5 v6 : Value} (hi : i + 6 < gL (gOf X)) (Mw : MRw (lOf X) (gOf X) yL_boxAnew (.codeWith yL_boxAnew cL_boxAnew 5 (Option.some Jvm.ClassFile.FieldType.int) [(0, 10, 13, 13), (0, 10, 17, 15)]) 13 8 200 [.ref H, .int (gX (gOf X) (i + 1)), .int (gX (gOf X) (i + 2)), .ref o] h (.inl (some (.int kk), h1))) (hkm1 : hK h1 m = 10) (Mm : MRw (lOf X) (gOf X) yX12_boxAnew (.code yX12_boxAnew cX12_boxAnew 3 (Option.some Jvm.ClassFile.FieldType.int)) 2 0 0 [.ref m, .int (gX (gOf X) (i + 1)), .int (gX (gOf X) (i + 2))] h1 (.inl (some (.int v), h2))) (hkm2 : hK h2 m = 10) (Mt : MRw (lOf X) (gOf X) yX12_thrown (.code yX12_thrown cX12_thrown 1 (Option.some Jvm.ClassFile.FieldType.int)) 0 0 0 [.ref m] h2 (.inl (some (.int kk), h2)))
    (hko : hK h2 o = 102) (hlo : 0 < hL h2 o) (hw : kk = 0 → hW h2 o 0 = v.toInt64) (r1 : k + 8 ≤ 601024) (r2 : n + 200 ≤ 7293034) (K : wr X (k + 8) (n + 200) 1734 [.ref 0, .ref H, .ref m, .ref o, .int (nI i), .int kk, .int v] [] h2) : wr X k n 1584 [.ref 0, .ref H, .ref m, .ref o, .int (nI i), v5, v6] [] h := by
  refine r_aload_n (i := 1) C dL_law_1584 rfl rfl (by first | rfl | exact isR_rf _) ?_
  refine r_aload_n (i := 0) C dL_law_1585 rfl rfl (by first | rfl | exact isR_rf _) ?_
  refine r_iload (i := 4) C dL_law_1586 rfl ?_
  refine r_iconst (v := 1) C dL_law_1588 (by decide) ?_
  refine r_iadd C dL_law_1589 ?_
  refine r_sald (j := i + 1) C dL_law_1590 (nI_plus i 1 1 rfl) (by omega) ?_
  refine r_aload_n (i := 0) C dL_law_1591 rfl rfl (by first | rfl | exact isR_rf _) ?_
  refine r_iload (i := 4) C dL_law_1592 rfl ?_
  refine r_iconst (v := 2) C dL_law_1594 (by decide) ?_
  refine r_iadd C dL_law_1595 ?_
  refine r_sald (j := i + 2) C dL_law_1596 (nI_plus i 2 2 rfl) (by omega) ?_
  refine r_aload_n (i := 3) C dL_law_1597 rfl rfl (by first | rfl | exact isR_rf _) ?_
  refine r_callHs C s_L_160 Mw dL_law_1598 (As := [_, _, _, _]) rfl rfl rfl (by omega) (Nat.le_of_ble_eq_true rfl) (by omega) (by omega) ?_
  refine r_istore (i := 5) C dL_law_1601 (Nat.le_of_ble_eq_true rfl) ?_
  refine r_aload_n (i := 2) C dL_law_1603 rfl rfl (by first | rfl | exact isR_rf _) ?_
  refine r_aload_n (i := 0) C dL_law_1604 rfl rfl (by first | rfl | exact isR_rf _) ?_
  refine r_iload (i := 4) C dL_law_1605 rfl ?_
  refine r_iconst (v := 1) C dL_law_1607 (by decide) ?_
  refine r_iadd C dL_law_1608 ?_
  refine r_sald (j := i + 1) C dL_law_1609 (nI_plus i 1 1 rfl) (by omega) ?_
  refine r_aload_n (i := 0) C dL_law_1610 rfl rfl (by first | rfl | exact isR_rf _) ?_
  refine r_iload (i := 4) C dL_law_1611 rfl ?_
  refine r_iconst (v := 2) C dL_law_1613 (by decide) ?_
  refine r_iadd C dL_law_1614 ?_
  refine r_sald (j := i + 2) C dL_law_1615 (nI_plus i 2 2 rfl) (by omega) ?_
  refine r_callVs C v_L_162 Mm dL_law_1616 (by assumption) (ci := 10) (by decide) rfl rfl (As := [_, _]) rfl rfl rfl (by omega) (Nat.le_of_ble_eq_true rfl) (by omega) (by omega) ?_
  refine r_istore (i := 6) C dL_law_1619 (Nat.le_of_ble_eq_true rfl) ?_
  refine r_aload_n (i := 2) C dL_law_1621 rfl rfl (by first | rfl | exact isR_rf _) ?_
  refine r_callVs C v_L_96 Mt dL_law_1622 (by assumption) (ci := 10) (by decide) rfl rfl (As := []) rfl rfl rfl (by omega) (Nat.le_of_ble_eq_true rfl) (by omega) (by omega) ?_
  refine r_iload (i := 5) C dL_law_1625 rfl ?_
  refine r_ic_eq (tgt := 1632) C dL_law_1627 (by decide) (fun _ => ?_) (fun c => absurd rfl c)
  refine r_iload (i := 5) C dL_law_1632 rfl ?_
  refine r_if_ne (tgt := 1649) C dL_law_1634 (by decide) (fun _ => ?_) (fun c => ?_)
  · refine r_goto (tgt := 1734) C dL_law_1649 (by decide) ?_
    exact K
  · refine r_aload_n (i := 3) C dL_law_1637 rfl rfl (by first | rfl | exact isR_rf _) ?_
    refine r_iconst (v := 0) C dL_law_1638 (by decide) ?_
    refine r_lald (a := o) (j := 0) C dL_law_1639 hko rfl hlo ?_
    rw [hw c]
    refine r_iload (i := 6) C dL_law_1640 rfl ?_
    refine r_i2l C dL_law_1642 ?_
    refine r_lcmp C dL_law_1643 ?_
    rw [cmp_self]
    refine r_if_eq (tgt := 1649) C dL_law_1644 (by decide) (fun _ => ?_) (fun c => absurd rfl c)
    refine r_goto (tgt := 1734) C dL_law_1649 (by decide) ?_
    exact K
theorem lc_lines {X : Ctx} (C : Cx X yL_law cL_law 7 (some .boolean) [] 20 601024 7293034) {k n i H m o : Nat} {h h1 h2 : Hp} {kk v : Int32} {v5 v6 : Value} (hi : i + 6 < gL (gOf X)) (Mw : MRw (lOf X) (gOf X) yL_lines (.codeWith yL_lines cL_lines 4 (Option.some Jvm.ClassFile.FieldType.int) [(0, 9, 12, 13)]) 13 8 200 [.ref H, .int (gX (gOf X) (i + 1)), .ref o] h (.inl (some (.int kk), h1))) (hkm1 : hK h1 m = 10) (Mm : MRw (lOf X) (gOf X) yX12_lines (.code yX12_lines cX12_lines 3 (Option.some Jvm.ClassFile.FieldType.int)) 1 0 0 [.ref m, .int (gX (gOf X) (i + 1))] h1 (.inl (some (.int v), h2))) (hkm2 : hK h2 m = 10) (Mt : MRw (lOf X) (gOf X) yX12_thrown (.code yX12_thrown cX12_thrown 1 (Option.some Jvm.ClassFile.FieldType.int)) 0 0 0 [.ref m] h2 (.inl (some (.int kk), h2)))
    (hko : hK h2 o = 102) (hlo : 0 < hL h2 o) (hw : kk = 0 → hW h2 o 0 = v.toInt64) (r1 : k + 8 ≤ 601024) (r2 : n + 200 ≤ 7293034) (K : wr X (k + 8) (n + 200) 1734 [.ref 0, .ref H, .ref m, .ref o, .int (nI i), .int kk, .int v] [] h2) : wr X k n 1652 [.ref 0, .ref H, .ref m, .ref o, .int (nI i), v5, v6] [] h := by
  refine r_aload_n (i := 1) C dL_law_1652 rfl rfl (by first | rfl | exact isR_rf _) ?_
  refine r_aload_n (i := 0) C dL_law_1653 rfl rfl (by first | rfl | exact isR_rf _) ?_
  refine r_iload (i := 4) C dL_law_1654 rfl ?_
  refine r_iconst (v := 1) C dL_law_1656 (by decide) ?_
  refine r_iadd C dL_law_1657 ?_
  refine r_sald (j := i + 1) C dL_law_1658 (nI_plus i 1 1 rfl) (by omega) ?_
  refine r_aload_n (i := 3) C dL_law_1659 rfl rfl (by first | rfl | exact isR_rf _) ?_
  refine r_callHs C s_L_163 Mw dL_law_1660 (As := [_, _, _]) rfl rfl rfl (by omega) (Nat.le_of_ble_eq_true rfl) (by omega) (by omega) ?_
  refine r_istore (i := 5) C dL_law_1663 (Nat.le_of_ble_eq_true rfl) ?_
  refine r_aload_n (i := 2) C dL_law_1665 rfl rfl (by first | rfl | exact isR_rf _) ?_
  refine r_aload_n (i := 0) C dL_law_1666 rfl rfl (by first | rfl | exact isR_rf _) ?_
  refine r_iload (i := 4) C dL_law_1667 rfl ?_
  refine r_iconst (v := 1) C dL_law_1669 (by decide) ?_
  refine r_iadd C dL_law_1670 ?_
  refine r_sald (j := i + 1) C dL_law_1671 (nI_plus i 1 1 rfl) (by omega) ?_
  refine r_callVs C v_L_165 Mm dL_law_1672 (by assumption) (ci := 10) (by decide) rfl rfl (As := [_]) rfl rfl rfl (by omega) (Nat.le_of_ble_eq_true rfl) (by omega) (by omega) ?_
  refine r_istore (i := 6) C dL_law_1675 (Nat.le_of_ble_eq_true rfl) ?_
  refine r_aload_n (i := 2) C dL_law_1677 rfl rfl (by first | rfl | exact isR_rf _) ?_
  refine r_callVs C v_L_96 Mt dL_law_1678 (by assumption) (ci := 10) (by decide) rfl rfl (As := []) rfl rfl rfl (by omega) (Nat.le_of_ble_eq_true rfl) (by omega) (by omega) ?_
  refine r_iload (i := 5) C dL_law_1681 rfl ?_
  refine r_ic_eq (tgt := 1688) C dL_law_1683 (by decide) (fun _ => ?_) (fun c => absurd rfl c)
  refine r_iload (i := 5) C dL_law_1688 rfl ?_
  refine r_if_ne (tgt := 1705) C dL_law_1690 (by decide) (fun _ => ?_) (fun c => ?_)
  · refine r_goto (tgt := 1734) C dL_law_1705 (by decide) ?_
    exact K
  · refine r_aload_n (i := 3) C dL_law_1693 rfl rfl (by first | rfl | exact isR_rf _) ?_
    refine r_iconst (v := 0) C dL_law_1694 (by decide) ?_
    refine r_lald (a := o) (j := 0) C dL_law_1695 hko rfl hlo ?_
    rw [hw c]
    refine r_iload (i := 6) C dL_law_1696 rfl ?_
    refine r_i2l C dL_law_1698 ?_
    refine r_lcmp C dL_law_1699 ?_
    rw [cmp_self]
    refine r_if_eq (tgt := 1705) C dL_law_1700 (by decide) (fun _ => ?_) (fun c => absurd rfl c)
    refine r_goto (tgt := 1734) C dL_law_1705 (by decide) ?_
    exact K
