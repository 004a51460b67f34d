/-! ===== the law: the comparisons (by genlaw3.py) ===== -/
theorem lawHa {X : Ctx} (C : Cx X yL_law cL_law 20 (Option.some Jvm.ClassFile.FieldType.boolean) [] 20 660499 7120272) {Ho Hq a : Nat} {e KB NB : Nat} {w : Int32} {b : Hp} {u12 u13 u14 u15 u16 u17 u18 u19 : Value} (he : e < 10) (hKB : KB ≤ 50000) (hNB : NB ≤ 290000) (hA : AL2 b Ho Hq (lOf X) (gOf X)) (K : ∀ k n : Nat, k ≤ KB → n ≤ NB → wr X k n 1252 [.ref 0, .ref Ho, .ref Hq, .ref a, .ref (a + 1), .ref (a + 2), .ref (a + 3), .ref (a + 4), .int w, .int 1, .int (nI e), .int (nI 14), u12, u13, u14, u15, u16, u17, u18, u19] [] b) :
    ∀ (m i k n : Nat), i + m = 14 → k + 32 * m ≤ KB → n + cS 800 m ≤ NB → wr X k n 1169 [.ref 0, .ref Ho, .ref Hq, .ref a, .ref (a + 1), .ref (a + 2), .ref (a + 3), .ref (a + 4), .int w, .int 1, .int (nI e), .int (nI i), u12, u13, u14, u15, u16, u17, u18, u19] [] b := by
  intro m
  induction m with
  | zero =>
    intro i k n hm hk hn
    have : i = 14 := by omega
    subst this
    refine r_iload (i := 11) C dL_law_1169 rfl ?_
    refine r_bipush (v := nI 14) C dL_law_1171 (by decide) ?_
    refine r_ic_ge (tgt := 1252) C dL_law_1173 (by decide) (fun c => ?_) (fun c => ?_)
    rotate_left
    · exact absurd (nI_le (Nat.le_refl 14) (by decide)) c
    exact K _ _ hk (by rw [cS_0] at hn; exact hn)
  | succ m ih =>
    intro i k n hm hk hn
    rw [cS_s, ← Nat.add_assoc] at hn
    have c14 : i < 14 := by omega
    obtain ⟨v, u, M1, M2, M3, M4⟩ := (hA e he).1 i c14
    refine r_iload (i := 11) C dL_law_1169 rfl ?_
    refine r_bipush (v := nI 14) C dL_law_1171 (by decide) ?_
    refine r_ic_ge (tgt := 1252) C dL_law_1173 (by decide) (fun c => ?_) (fun c => ?_)
    · exact absurd c (nle9 c14)
    refine r_iload (i := 9) C dL_law_1176 rfl ?_
    refine r_if_eq (tgt := 1252) C dL_law_1178 (by decide) (fun c => ?_) (fun c => ?_)
    · exact absurd c (by decide)
    refine r_aload_n (i := 1) C dL_law_1181 rfl rfl (by first | rfl | exact isR_rf _) ?_
    refine r_bipush (v := 12) C dL_law_1182 (by decide) ?_
    refine r_iload (i := 10) C dL_law_1184 rfl ?_
    refine r_iload (i := 11) C dL_law_1186 rfl ?_
    refine r_iconst (v := 0) C dL_law_1188 (by decide) ?_
    refine r_iconst (v := 0) C dL_law_1189 (by decide) ?_
    refine r_iconst (v := 0) C dL_law_1190 (by decide) ?_
    refine r_callHs C s_L_87 M1 dL_law_1191 (As := [_, _, _, _, _, _, _]) rfl rfl rfl (Nat.le_of_ble_eq_true rfl) (Nat.le_of_ble_eq_true rfl) (kc9 ?_) (ks9 ?_) ?_
    · omega
    · omega
    refine r_aload_n (i := 2) C dL_law_1194 rfl rfl (by first | rfl | exact isR_rf _) ?_
    refine r_bipush (v := 12) C dL_law_1195 (by decide) ?_
    refine r_iload (i := 10) C dL_law_1197 rfl ?_
    refine r_iload (i := 11) C dL_law_1199 rfl ?_
    refine r_iconst (v := 0) C dL_law_1201 (by decide) ?_
    refine r_iconst (v := 0) C dL_law_1202 (by decide) ?_
    refine r_iconst (v := 0) C dL_law_1203 (by decide) ?_
    refine r_callHs C s_L_87 M2 dL_law_1204 (As := [_, _, _, _, _, _, _]) rfl rfl rfl (Nat.le_of_ble_eq_true rfl) (Nat.le_of_ble_eq_true rfl) (kc9 ?_) (ks9 ?_) ?_
    · omega
    · omega
    refine r_ic_ne (tgt := 1243) C dL_law_1207 (by decide) (fun c => ?_) (fun c => ?_)
    · exact absurd rfl c
    refine r_aload_n (i := 1) C dL_law_1210 rfl rfl (by first | rfl | exact isR_rf _) ?_
    refine r_bipush (v := 14) C dL_law_1211 (by decide) ?_
    refine r_iload (i := 10) C dL_law_1213 rfl ?_
    refine r_iload (i := 11) C dL_law_1215 rfl ?_
    refine r_iconst (v := 0) C dL_law_1217 (by decide) ?_
    refine r_iconst (v := 0) C dL_law_1218 (by decide) ?_
    refine r_iconst (v := 0) C dL_law_1219 (by decide) ?_
    refine r_callHs C s_L_87 M3 dL_law_1220 (As := [_, _, _, _, _, _, _]) rfl rfl rfl (Nat.le_of_ble_eq_true rfl) (Nat.le_of_ble_eq_true rfl) (kc9 ?_) (ks9 ?_) ?_
    · omega
    · omega
    refine r_aload_n (i := 2) C dL_law_1223 rfl rfl (by first | rfl | exact isR_rf _) ?_
    refine r_bipush (v := 14) C dL_law_1224 (by decide) ?_
    refine r_iload (i := 10) C dL_law_1226 rfl ?_
    refine r_iload (i := 11) C dL_law_1228 rfl ?_
    refine r_iconst (v := 0) C dL_law_1230 (by decide) ?_
    refine r_iconst (v := 0) C dL_law_1231 (by decide) ?_
    refine r_iconst (v := 0) C dL_law_1232 (by decide) ?_
    refine r_callHs C s_L_87 M4 dL_law_1233 (As := [_, _, _, _, _, _, _]) rfl rfl rfl (Nat.le_of_ble_eq_true rfl) (Nat.le_of_ble_eq_true rfl) (kc9 ?_) (ks9 ?_) ?_
    · omega
    · omega
    refine r_ic_ne (tgt := 1243) C dL_law_1236 (by decide) (fun c => ?_) (fun c => ?_)
    · exact absurd rfl c
    refine r_iconst (v := 1) C dL_law_1239 (by decide) ?_
    refine r_goto (tgt := 1244) C dL_law_1240 (by decide) ?_
    refine r_istore (i := 9) C dL_law_1244 (Nat.le_of_ble_eq_true rfl) ?_
    refine r_iinc1 (i := 11) C dL_law_1246 rfl ?_
    rw [nI_1]
    refine r_goto (tgt := 1169) C dL_law_1249 (by decide) ?_
    exact ih (i + 1) _ _ (by omega) (by omega) (by omega)
theorem lawHb {X : Ctx} (C : Cx X yL_law cL_law 20 (Option.some Jvm.ClassFile.FieldType.boolean) [] 20 660499 7120272) {Ho Hq a : Nat} {e KB NB : Nat} {w : Int32} {b : Hp} {u12 u13 u14 u15 u16 u17 u18 u19 : Value} (he : e < 10) (hKB : KB ≤ 50000) (hNB : NB ≤ 290000) (hA : AL2 b Ho Hq (lOf X) (gOf X)) (K : ∀ k n : Nat, k ≤ KB → n ≤ NB → wr X k n 1308 [.ref 0, .ref Ho, .ref Hq, .ref a, .ref (a + 1), .ref (a + 2), .ref (a + 3), .ref (a + 4), .int w, .int 1, .int (nI e), .int (nI 4), u12, u13, u14, u15, u16, u17, u18, u19] [] b) :
    ∀ (m i k n : Nat), i + m = 4 → k + 16 * m ≤ KB → n + cS 400 m ≤ NB → wr X k n 1255 [.ref 0, .ref Ho, .ref Hq, .ref a, .ref (a + 1), .ref (a + 2), .ref (a + 3), .ref (a + 4), .int w, .int 1, .int (nI e), .int (nI i), u12, u13, u14, u15, u16, u17, u18, u19] [] b := by
  intro m
  induction m with
  | zero =>
    intro i k n hm hk hn
    have : i = 4 := by omega
    subst this
    refine r_iload (i := 11) C dL_law_1255 rfl ?_
    refine r_iconst (v := nI 4) C dL_law_1257 (by decide) ?_
    refine r_ic_ge (tgt := 1308) C dL_law_1258 (by decide) (fun c => ?_) (fun c => ?_)
    rotate_left
    · exact absurd (nI_le (Nat.le_refl 4) (by decide)) c
    exact K _ _ hk (by rw [cS_0] at hn; exact hn)
  | succ m ih =>
    intro i k n hm hk hn
    rw [cS_s, ← Nat.add_assoc] at hn
    have c4 : i < 4 := by omega
    obtain ⟨v, M1, M2⟩ := (hA e he).2.1 i c4
    refine r_iload (i := 11) C dL_law_1255 rfl ?_
    refine r_iconst (v := nI 4) C dL_law_1257 (by decide) ?_
    refine r_ic_ge (tgt := 1308) C dL_law_1258 (by decide) (fun c => ?_) (fun c => ?_)
    · exact absurd c (nle9 c4)
    refine r_iload (i := 9) C dL_law_1261 rfl ?_
    refine r_if_eq (tgt := 1308) C dL_law_1263 (by decide) (fun c => ?_) (fun c => ?_)
    · exact absurd c (by decide)
    refine r_aload_n (i := 1) C dL_law_1266 rfl rfl (by first | rfl | exact isR_rf _) ?_
    refine r_bipush (v := 15) C dL_law_1267 (by decide) ?_
    refine r_iload (i := 10) C dL_law_1269 rfl ?_
    refine r_iload (i := 11) C dL_law_1271 rfl ?_
    refine r_iconst (v := 0) C dL_law_1273 (by decide) ?_
    refine r_iconst (v := 0) C dL_law_1274 (by decide) ?_
    refine r_iconst (v := 0) C dL_law_1275 (by decide) ?_
    refine r_callHs C s_L_87 M1 dL_law_1276 (As := [_, _, _, _, _, _, _]) rfl rfl rfl (Nat.le_of_ble_eq_true rfl) (Nat.le_of_ble_eq_true rfl) (kc9 ?_) (ks9 ?_) ?_
    · omega
    · omega
    refine r_aload_n (i := 2) C dL_law_1279 rfl rfl (by first | rfl | exact isR_rf _) ?_
    refine r_bipush (v := 15) C dL_law_1280 (by decide) ?_
    refine r_iload (i := 10) C dL_law_1282 rfl ?_
    refine r_iload (i := 11) C dL_law_1284 rfl ?_
    refine r_iconst (v := 0) C dL_law_1286 (by decide) ?_
    refine r_iconst (v := 0) C dL_law_1287 (by decide) ?_
    refine r_iconst (v := 0) C dL_law_1288 (by decide) ?_
    refine r_callHs C s_L_87 M2 dL_law_1289 (As := [_, _, _, _, _, _, _]) rfl rfl rfl (Nat.le_of_ble_eq_true rfl) (Nat.le_of_ble_eq_true rfl) (kc9 ?_) (ks9 ?_) ?_
    · omega
    · omega
    refine r_ic_ne (tgt := 1299) C dL_law_1292 (by decide) (fun c => ?_) (fun c => ?_)
    · exact absurd rfl c
    refine r_iconst (v := 1) C dL_law_1295 (by decide) ?_
    refine r_goto (tgt := 1300) C dL_law_1296 (by decide) ?_
    refine r_istore (i := 9) C dL_law_1300 (Nat.le_of_ble_eq_true rfl) ?_
    refine r_iinc1 (i := 11) C dL_law_1302 rfl ?_
    rw [nI_1]
    refine r_goto (tgt := 1255) C dL_law_1305 (by decide) ?_
    exact ih (i + 1) _ _ (by omega) (by omega) (by omega)
theorem lawH {X : Ctx} (C : Cx X yL_law cL_law 20 (Option.some Jvm.ClassFile.FieldType.boolean) [] 20 660499 7120272) {Ho Hq a : Nat} {w : Int32} {b : Hp} (hA : AL2 b Ho Hq (lOf X) (gOf X)) (END : ∀ (k n : Nat) (LS : List Value) (h : Hp), k ≤ 660499 → n ≤ 7120272 → wr X k n 1355 LS [.int 1] h) :
    ∀ (m e k n : Nat) (u11 u12 u13 u14 u15 u16 u17 u18 u19 : Value), e + m = 10 → k + cS 528 m ≤ 20000 → n + cS 13200 m ≤ 270000 → wr X k n 1154 [.ref 0, .ref Ho, .ref Hq, .ref a, .ref (a + 1), .ref (a + 2), .ref (a + 3), .ref (a + 4), .int w, .int 1, .int (nI e), u11, u12, u13, u14, u15, u16, u17, u18, u19] [] b := by
  intro m
  induction m with
  | zero =>
    intro e k n u11 u12 u13 u14 u15 u16 u17 u18 u19 hm hk hn
    have : e = 10 := by omega
    subst this
    rw [cS_0] at hk hn
    refine r_iload (i := 10) C dL_law_1154 rfl ?_
    refine r_bipush (v := nI 10) C dL_law_1156 (by decide) ?_
    refine r_ic_ge (tgt := 1353) C dL_law_1158 (by decide) (fun c => ?_) (fun c => ?_)
    rotate_left
    · exact absurd (nI_le (Nat.le_refl 10) (by decide)) c
    refine r_iload (i := 9) C dL_law_1353 rfl ?_
    exact END _ _ _ _ (kc9 (by omega)) (ks9 (by omega))
  | succ m ih =>
    intro e k n u11 u12 u13 u14 u15 u16 u17 u18 u19 hm hk hn
    rw [cS_s, ← Nat.add_assoc] at hk hn
    have c10 : e < 10 := by omega
    refine r_iload (i := 10) C dL_law_1154 rfl ?_
    refine r_bipush (v := nI 10) C dL_law_1156 (by decide) ?_
    refine r_ic_ge (tgt := 1353) C dL_law_1158 (by decide) (fun c => ?_) (fun c => ?_)
    · exact absurd c (nle9 c10)
    refine r_iload (i := 9) C dL_law_1161 rfl ?_
    refine r_if_eq (tgt := 1353) C dL_law_1163 (by decide) (fun c => ?_) (fun c => ?_)
    · exact absurd c (by decide)
    refine r_iconst (v := nI 0) C dL_law_1166 (by decide) ?_
    refine r_istore (i := 11) C dL_law_1167 (Nat.le_of_ble_eq_true rfl) ?_
    refine lawHa C (KB := k + 448) (NB := n + 11200) c10 (by omega) (by omega) hA (fun k2 n2 hk2 hn2 => ?_) 14 0 _ _ (by decide) (by omega) (by rw [show cS 800 14 = 11200 from rfl]; omega)
    refine r_iconst (v := nI 0) C dL_law_1252 (by decide) ?_
    refine r_istore (i := 11) C dL_law_1253 (Nat.le_of_ble_eq_true rfl) ?_
    refine lawHb C (KB := k + 512) (NB := n + 12800) c10 (by omega) (by omega) hA (fun k3 n3 hk3 hn3 => ?_) 4 0 _ _ (by decide) (by omega) (by rw [show cS 400 4 = 1600 from rfl]; omega)
    obtain ⟨v, M1, M2⟩ := (hA e c10).2.2
    refine r_iload (i := 9) C dL_law_1308 rfl ?_
    refine r_if_eq (tgt := 1344) C dL_law_1310 (by decide) (fun c => ?_) (fun c => ?_)
    · exact absurd c (by decide)
    refine r_aload_n (i := 1) C dL_law_1313 rfl rfl (by first | rfl | exact isR_rf _) ?_
    refine r_bipush (v := 17) C dL_law_1314 (by decide) ?_
    refine r_iload (i := 10) C dL_law_1316 rfl ?_
    refine r_iconst (v := 0) C dL_law_1318 (by decide) ?_
    refine r_iconst (v := 0) C dL_law_1319 (by decide) ?_
    refine r_iconst (v := 0) C dL_law_1320 (by decide) ?_
    refine r_iconst (v := 0) C dL_law_1321 (by decide) ?_
    refine r_callHs C s_L_87 M1 dL_law_1322 (As := [_, _, _, _, _, _, _]) rfl rfl rfl (Nat.le_of_ble_eq_true rfl) (Nat.le_of_ble_eq_true rfl) (kc9 ?_) (ks9 ?_) ?_
    · omega
    · omega
    refine r_aload_n (i := 2) C dL_law_1325 rfl rfl (by first | rfl | exact isR_rf _) ?_
    refine r_bipush (v := 17) C dL_law_1326 (by decide) ?_
    refine r_iload (i := 10) C dL_law_1328 rfl ?_
    refine r_iconst (v := 0) C dL_law_1330 (by decide) ?_
    refine r_iconst (v := 0) C dL_law_1331 (by decide) ?_
    refine r_iconst (v := 0) C dL_law_1332 (by decide) ?_
    refine r_iconst (v := 0) C dL_law_1333 (by decide) ?_
    refine r_callHs C s_L_87 M2 dL_law_1334 (As := [_, _, _, _, _, _, _]) rfl rfl rfl (Nat.le_of_ble_eq_true rfl) (Nat.le_of_ble_eq_true rfl) (kc9 ?_) (ks9 ?_) ?_
    · omega
    · omega
    refine r_ic_ne (tgt := 1344) C dL_law_1337 (by decide) (fun c => ?_) (fun c => ?_)
    · exact absurd rfl c
    refine r_iconst (v := 1) C dL_law_1340 (by decide) ?_
    refine r_goto (tgt := 1345) C dL_law_1341 (by decide) ?_
    refine r_istore (i := 9) C dL_law_1345 (Nat.le_of_ble_eq_true rfl) ?_
    refine r_iinc1 (i := 10) C dL_law_1347 rfl ?_
    rw [nI_1]
    refine r_goto (tgt := 1154) C dL_law_1350 (by decide) ?_
    exact ih (e + 1) _ _ _ _ _ _ _ _ _ _ _ (by omega) (by omega) (by omega)
