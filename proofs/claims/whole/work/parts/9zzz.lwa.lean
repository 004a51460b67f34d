/-! ===== the law: the walks of the cases (by genw.py) ===== -/
theorem lc_add {X : Ctx} (C : Cx X yL_law cL_law 7 (some .boolean) [] 20 601024 7293034) {k n i H m o : Nat} {h h1 h2 : Hp} {kk v : Int32} {v5 v6 : Value} (hi : i + 6 < gL (gOf X)) (Mw : MRw (lOf X) (gOf X) yL_add (.codeWith yL_add cL_add 6 (Option.some Jvm.ClassFile.FieldType.int) [(0, 12, 15, 13), (0, 12, 19, 15), (0, 12, 23, 17)]) 13 30 600 [.ref H, .int (gX (gOf X) (i + 1)), .int (gX (gOf X) (i + 2)), .int (gX (gOf X) (i + 3)), .ref o] h (.inl (some (.int kk), h1))) (hkm1 : hK h1 m = 10) (Mm : MRw (lOf X) (gOf X) yX12_add (.code yX12_add cX12_add 5 (Option.some Jvm.ClassFile.FieldType.int)) 7 0 0 [.ref m, .int (gX (gOf X) (i + 1)), .int (gX (gOf X) (i + 2)), .int (gX (gOf X) (i + 3))] h1 (.inl (some (.int v), h2))) (hkm2 : hK h2 m = 10) (Mt : MRw (lOf X) (gOf X) yX12_thrown (.code yX12_thrown cX12_thrown 1 (Option.some Jvm.ClassFile.FieldType.int)) 0 0 0 [.ref m] h2 (.inl (some (.int kk), h2)))
    (hko : hK h2 o = 102) (hlo : 0 < hL h2 o) (hw : kk = 0 → hW h2 o 0 = v.toInt64) (r1 : k + 30 ≤ 601024) (r2 : n + 600 ≤ 7293034) (K : wr X (k + 30) (n + 600) 1734 [.ref 0, .ref H, .ref m, .ref o, .int (nI i), .int kk, .int v] [] h2) : wr X k n 148 [.ref 0, .ref H, .ref m, .ref o, .int (nI i), v5, v6] [] h := by
  refine r_aload_n (i := 1) C dL_law_148 rfl rfl (by first | rfl | exact isR_rf _) ?_
  refine r_aload_n (i := 0) C dL_law_149 rfl rfl (by first | rfl | exact isR_rf _) ?_
  refine r_iload (i := 4) C dL_law_150 rfl ?_
  refine r_iconst (v := 1) C dL_law_152 (by decide) ?_
  refine r_iadd C dL_law_153 ?_
  refine r_sald (j := i + 1) C dL_law_154 (nI_plus i 1 1 rfl) (by omega) ?_
  refine r_aload_n (i := 0) C dL_law_155 rfl rfl (by first | rfl | exact isR_rf _) ?_
  refine r_iload (i := 4) C dL_law_156 rfl ?_
  refine r_iconst (v := 2) C dL_law_158 (by decide) ?_
  refine r_iadd C dL_law_159 ?_
  refine r_sald (j := i + 2) C dL_law_160 (nI_plus i 2 2 rfl) (by omega) ?_
  refine r_aload_n (i := 0) C dL_law_161 rfl rfl (by first | rfl | exact isR_rf _) ?_
  refine r_iload (i := 4) C dL_law_162 rfl ?_
  refine r_iconst (v := 3) C dL_law_164 (by decide) ?_
  refine r_iadd C dL_law_165 ?_
  refine r_sald (j := i + 3) C dL_law_166 (nI_plus i 3 3 rfl) (by omega) ?_
  refine r_aload_n (i := 3) C dL_law_167 rfl rfl (by first | rfl | exact isR_rf _) ?_
  refine r_callHs C s_L_90 Mw dL_law_168 (As := [_, _, _, _, _]) rfl rfl rfl (by omega) (Nat.le_of_ble_eq_true rfl) (by omega) (by omega) ?_
  refine r_istore (i := 5) C dL_law_171 (Nat.le_of_ble_eq_true rfl) ?_
  refine r_aload_n (i := 2) C dL_law_173 rfl rfl (by first | rfl | exact isR_rf _) ?_
  refine r_aload_n (i := 0) C dL_law_174 rfl rfl (by first | rfl | exact isR_rf _) ?_
  refine r_iload (i := 4) C dL_law_175 rfl ?_
  refine r_iconst (v := 1) C dL_law_177 (by decide) ?_
  refine r_iadd C dL_law_178 ?_
  refine r_sald (j := i + 1) C dL_law_179 (nI_plus i 1 1 rfl) (by omega) ?_
  refine r_aload_n (i := 0) C dL_law_180 rfl rfl (by first | rfl | exact isR_rf _) ?_
  refine r_iload (i := 4) C dL_law_181 rfl ?_
  refine r_iconst (v := 2) C dL_law_183 (by decide) ?_
  refine r_iadd C dL_law_184 ?_
  refine r_sald (j := i + 2) C dL_law_185 (nI_plus i 2 2 rfl) (by omega) ?_
  refine r_aload_n (i := 0) C dL_law_186 rfl rfl (by first | rfl | exact isR_rf _) ?_
  refine r_iload (i := 4) C dL_law_187 rfl ?_
  refine r_iconst (v := 3) C dL_law_189 (by decide) ?_
  refine r_iadd C dL_law_190 ?_
  refine r_sald (j := i + 3) C dL_law_191 (nI_plus i 3 3 rfl) (by omega) ?_
  refine r_callVs C v_L_95 Mm dL_law_192 (by assumption) (ci := 10) (by decide) rfl rfl (As := [_, _, _]) rfl rfl rfl (by omega) (Nat.le_of_ble_eq_true rfl) (by omega) (by omega) ?_
  refine r_istore (i := 6) C dL_law_195 (Nat.le_of_ble_eq_true rfl) ?_
  refine r_aload_n (i := 2) C dL_law_197 rfl rfl (by first | rfl | exact isR_rf _) ?_
  refine r_callVs C v_L_96 Mt dL_law_198 (by assumption) (ci := 10) (by decide) rfl rfl (As := []) rfl rfl rfl (by omega) (Nat.le_of_ble_eq_true rfl) (by omega) (by omega) ?_
  refine r_iload (i := 5) C dL_law_201 rfl ?_
  refine r_ic_eq (tgt := 208) C dL_law_203 (by decide) (fun _ => ?_) (fun c => absurd rfl c)
  refine r_iload (i := 5) C dL_law_208 rfl ?_
  refine r_if_ne (tgt := 225) C dL_law_210 (by decide) (fun _ => ?_) (fun c => ?_)
  · refine r_goto (tgt := 1734) C dL_law_225 (by decide) ?_
    exact K
  · refine r_aload_n (i := 3) C dL_law_213 rfl rfl (by first | rfl | exact isR_rf _) ?_
    refine r_iconst (v := 0) C dL_law_214 (by decide) ?_
    refine r_lald (a := o) (j := 0) C dL_law_215 hko rfl hlo ?_
    rw [hw c]
    refine r_iload (i := 6) C dL_law_216 rfl ?_
    refine r_i2l C dL_law_218 ?_
    refine r_lcmp C dL_law_219 ?_
    rw [cmp_self]
    refine r_if_eq (tgt := 225) C dL_law_220 (by decide) (fun _ => ?_) (fun c => absurd rfl c)
    refine r_goto (tgt := 1734) C dL_law_225 (by decide) ?_
    exact K
theorem lc_remove {X : Ctx} (C : Cx X yL_law cL_law 7 (some .boolean) [] 20 601024 7293034) {k n i H m o : Nat} {h h1 h2 : Hp} {kk v : Int32} {v5 v6 : Value} (hi : i + 6 < gL (gOf X)) (Mw : MRw (lOf X) (gOf X) yL_remove (.codeWith yL_remove cL_remove 4 (Option.some Jvm.ClassFile.FieldType.int) [(0, 9, 12, 13), (0, 9, 15, 17)]) 13 30 1700 [.ref H, .int (gX (gOf X) (i + 1)), .ref o] h (.inl (some (.int kk), h1))) (hkm1 : hK h1 m = 10) (Mm : MRw (lOf X) (gOf X) yX12_remove (.code yX12_remove cX12_remove 8 (Option.some Jvm.ClassFile.FieldType.int)) 7 0 0 [.ref m, .int (gX (gOf X) (i + 1))] h1 (.inl (some (.int v), h2))) (hkm2 : hK h2 m = 10) (Mt : MRw (lOf X) (gOf X) yX12_thrown (.code yX12_thrown cX12_thrown 1 (Option.some Jvm.ClassFile.FieldType.int)) 0 0 0 [.ref m] h2 (.inl (some (.int kk), h2)))
    (hko : hK h2 o = 102) (hlo : 0 < hL h2 o) (hw : kk = 0 → hW h2 o 0 = v.toInt64) (r1 : k + 30 ≤ 601024) (r2 : n + 1700 ≤ 7293034) (K : wr X (k + 30) (n + 1700) 1734 [.ref 0, .ref H, .ref m, .ref o, .int (nI i), .int kk, .int v] [] h2) : wr X k n 228 [.ref 0, .ref H, .ref m, .ref o, .int (nI i), v5, v6] [] h := by
  refine r_aload_n (i := 1) C dL_law_228 rfl rfl (by first | rfl | exact isR_rf _) ?_
  refine r_aload_n (i := 0) C dL_law_229 rfl rfl (by first | rfl | exact isR_rf _) ?_
  refine r_iload (i := 4) C dL_law_230 rfl ?_
  refine r_iconst (v := 1) C dL_law_232 (by decide) ?_
  refine r_iadd C dL_law_233 ?_
  refine r_sald (j := i + 1) C dL_law_234 (nI_plus i 1 1 rfl) (by omega) ?_
  refine r_aload_n (i := 3) C dL_law_235 rfl rfl (by first | rfl | exact isR_rf _) ?_
  refine r_callHs C s_L_100 Mw dL_law_236 (As := [_, _, _]) rfl rfl rfl (by omega) (Nat.le_of_ble_eq_true rfl) (by omega) (by omega) ?_
  refine r_istore (i := 5) C dL_law_239 (Nat.le_of_ble_eq_true rfl) ?_
  refine r_aload_n (i := 2) C dL_law_241 rfl rfl (by first | rfl | exact isR_rf _) ?_
  refine r_aload_n (i := 0) C dL_law_242 rfl rfl (by first | rfl | exact isR_rf _) ?_
  refine r_iload (i := 4) C dL_law_243 rfl ?_
  refine r_iconst (v := 1) C dL_law_245 (by decide) ?_
  refine r_iadd C dL_law_246 ?_
  refine r_sald (j := i + 1) C dL_law_247 (nI_plus i 1 1 rfl) (by omega) ?_
  refine r_callVs C v_L_103 Mm dL_law_248 (by assumption) (ci := 10) (by decide) rfl rfl (As := [_]) rfl rfl rfl (by omega) (Nat.le_of_ble_eq_true rfl) (by omega) (by omega) ?_
  refine r_istore (i := 6) C dL_law_251 (Nat.le_of_ble_eq_true rfl) ?_
  refine r_aload_n (i := 2) C dL_law_253 rfl rfl (by first | rfl | exact isR_rf _) ?_
  refine r_callVs C v_L_96 Mt dL_law_254 (by assumption) (ci := 10) (by decide) rfl rfl (As := []) rfl rfl rfl (by omega) (Nat.le_of_ble_eq_true rfl) (by omega) (by omega) ?_
  refine r_iload (i := 5) C dL_law_257 rfl ?_
  refine r_ic_eq (tgt := 264) C dL_law_259 (by decide) (fun _ => ?_) (fun c => absurd rfl c)
  refine r_iload (i := 5) C dL_law_264 rfl ?_
  refine r_if_ne (tgt := 281) C dL_law_266 (by decide) (fun _ => ?_) (fun c => ?_)
  · refine r_goto (tgt := 1734) C dL_law_281 (by decide) ?_
    exact K
  · refine r_aload_n (i := 3) C dL_law_269 rfl rfl (by first | rfl | exact isR_rf _) ?_
    refine r_iconst (v := 0) C dL_law_270 (by decide) ?_
    refine r_lald (a := o) (j := 0) C dL_law_271 hko rfl hlo ?_
    rw [hw c]
    refine r_iload (i := 6) C dL_law_272 rfl ?_
    refine r_i2l C dL_law_274 ?_
    refine r_lcmp C dL_law_275 ?_
    rw [cmp_self]
    refine r_if_eq (tgt := 281) C dL_law_276 (by decide) (fun _ => ?_) (fun c => absurd rfl c)
    refine r_goto (tgt := 1734) C dL_law_281 (by decide) ?_
    exact K
theorem lc_dress {X : Ctx} (C : Cx X yL_law cL_law 7 (some .boolean) [] 20 601024 7293034) {k n i H m o : Nat} {h h1 h2 : Hp} {kk v : Int32} {v5 v6 : Value} (hi : i + 6 < gL (gOf X)) (Mw : MRw (lOf X) (gOf X) yL_dress (.codeWith yL_dress cL_dress 5 (Option.some Jvm.ClassFile.FieldType.int) [(0, 10, 13, 13), (0, 10, 17, 15)]) 13 8 200 [.ref H, .int (gX (gOf X) (i + 1)), .int (gX (gOf X) (i + 2)), .ref o] h (.inl (some (.int kk), h1))) (hkm1 : hK h1 m = 10) (Mm : MRw (lOf X) (gOf X) yX12_dress (.code yX12_dress cX12_dress 5 (Option.some Jvm.ClassFile.FieldType.int)) 7 0 0 [.ref m, .int (gX (gOf X) (i + 1)), .int (gX (gOf X) (i + 2))] h1 (.inl (some (.int v), h2))) (hkm2 : hK h2 m = 10) (Mt : MRw (lOf X) (gOf X) yX12_thrown (.code yX12_thrown cX12_thrown 1 (Option.some Jvm.ClassFile.FieldType.int)) 0 0 0 [.ref m] h2 (.inl (some (.int kk), h2)))
    (hko : hK h2 o = 102) (hlo : 0 < hL h2 o) (hw : kk = 0 → hW h2 o 0 = v.toInt64) (r1 : k + 8 ≤ 601024) (r2 : n + 200 ≤ 7293034) (K : wr X (k + 8) (n + 200) 1734 [.ref 0, .ref H, .ref m, .ref o, .int (nI i), .int kk, .int v] [] h2) : wr X k n 284 [.ref 0, .ref H, .ref m, .ref o, .int (nI i), v5, v6] [] h := by
  refine r_aload_n (i := 1) C dL_law_284 rfl rfl (by first | rfl | exact isR_rf _) ?_
  refine r_aload_n (i := 0) C dL_law_285 rfl rfl (by first | rfl | exact isR_rf _) ?_
  refine r_iload (i := 4) C dL_law_286 rfl ?_
  refine r_iconst (v := 1) C dL_law_288 (by decide) ?_
  refine r_iadd C dL_law_289 ?_
  refine r_sald (j := i + 1) C dL_law_290 (nI_plus i 1 1 rfl) (by omega) ?_
  refine r_aload_n (i := 0) C dL_law_291 rfl rfl (by first | rfl | exact isR_rf _) ?_
  refine r_iload (i := 4) C dL_law_292 rfl ?_
  refine r_iconst (v := 2) C dL_law_294 (by decide) ?_
  refine r_iadd C dL_law_295 ?_
  refine r_sald (j := i + 2) C dL_law_296 (nI_plus i 2 2 rfl) (by omega) ?_
  refine r_aload_n (i := 3) C dL_law_297 rfl rfl (by first | rfl | exact isR_rf _) ?_
  refine r_callHs C s_L_104 Mw dL_law_298 (As := [_, _, _, _]) rfl rfl rfl (by omega) (Nat.le_of_ble_eq_true rfl) (by omega) (by omega) ?_
  refine r_istore (i := 5) C dL_law_301 (Nat.le_of_ble_eq_true rfl) ?_
  refine r_aload_n (i := 2) C dL_law_303 rfl rfl (by first | rfl | exact isR_rf _) ?_
  refine r_aload_n (i := 0) C dL_law_304 rfl rfl (by first | rfl | exact isR_rf _) ?_
  refine r_iload (i := 4) C dL_law_305 rfl ?_
  refine r_iconst (v := 1) C dL_law_307 (by decide) ?_
  refine r_iadd C dL_law_308 ?_
  refine r_sald (j := i + 1) C dL_law_309 (nI_plus i 1 1 rfl) (by omega) ?_
  refine r_aload_n (i := 0) C dL_law_310 rfl rfl (by first | rfl | exact isR_rf _) ?_
  refine r_iload (i := 4) C dL_law_311 rfl ?_
  refine r_iconst (v := 2) C dL_law_313 (by decide) ?_
  refine r_iadd C dL_law_314 ?_
  refine r_sald (j := i + 2) C dL_law_315 (nI_plus i 2 2 rfl) (by omega) ?_
  refine r_callVs C v_L_107 Mm dL_law_316 (by assumption) (ci := 10) (by decide) rfl rfl (As := [_, _]) rfl rfl rfl (by omega) (Nat.le_of_ble_eq_true rfl) (by omega) (by omega) ?_
  refine r_istore (i := 6) C dL_law_319 (Nat.le_of_ble_eq_true rfl) ?_
  refine r_aload_n (i := 2) C dL_law_321 rfl rfl (by first | rfl | exact isR_rf _) ?_
  refine r_callVs C v_L_96 Mt dL_law_322 (by assumption) (ci := 10) (by decide) rfl rfl (As := []) rfl rfl rfl (by omega) (Nat.le_of_ble_eq_true rfl) (by omega) (by omega) ?_
  refine r_iload (i := 5) C dL_law_325 rfl ?_
  refine r_ic_eq (tgt := 332) C dL_law_327 (by decide) (fun _ => ?_) (fun c => absurd rfl c)
  refine r_iload (i := 5) C dL_law_332 rfl ?_
  refine r_if_ne (tgt := 349) C dL_law_334 (by decide) (fun _ => ?_) (fun c => ?_)
  · refine r_goto (tgt := 1734) C dL_law_349 (by decide) ?_
    exact K
  · refine r_aload_n (i := 3) C dL_law_337 rfl rfl (by first | rfl | exact isR_rf _) ?_
    refine r_iconst (v := 0) C dL_law_338 (by decide) ?_
    refine r_lald (a := o) (j := 0) C dL_law_339 hko rfl hlo ?_
    rw [hw c]
    refine r_iload (i := 6) C dL_law_340 rfl ?_
    refine r_i2l C dL_law_342 ?_
    refine r_lcmp C dL_law_343 ?_
    rw [cmp_self]
    refine r_if_eq (tgt := 349) C dL_law_344 (by decide) (fun _ => ?_) (fun c => absurd rfl c)
    refine r_goto (tgt := 1734) C dL_law_349 (by decide) ?_
    exact K
theorem lc_text {X : Ctx} (C : Cx X yL_law cL_law 7 (some .boolean) [] 20 601024 7293034) {k n i H m o : Nat} {h h1 h2 : Hp} {kk v : Int32} {v5 v6 : Value} (hi : i + 6 < gL (gOf X)) (Mw : MRw (lOf X) (gOf X) yL_text (.codeWith yL_text cL_text 5 (Option.some Jvm.ClassFile.FieldType.int) [(0, 10, 13, 13), (0, 10, 17, 15)]) 13 8 200 [.ref H, .int (gX (gOf X) (i + 1)), .int (gX (gOf X) (i + 2)), .ref o] h (.inl (some (.int kk), h1))) (hkm1 : hK h1 m = 10) (Mm : MRw (lOf X) (gOf X) yX12_text (.code yX12_text cX12_text 7 (Option.some Jvm.ClassFile.FieldType.int)) 7 0 0 [.ref m, .int (gX (gOf X) (i + 1)), .int (gX (gOf X) (i + 2))] h1 (.inl (some (.int v), h2))) (hkm2 : hK h2 m = 10) (Mt : MRw (lOf X) (gOf X) yX12_thrown (.code yX12_thrown cX12_thrown 1 (Option.some Jvm.ClassFile.FieldType.int)) 0 0 0 [.ref m] h2 (.inl (some (.int kk), h2)))
    (hko : hK h2 o = 102) (hlo : 0 < hL h2 o) (hw : kk = 0 → hW h2 o 0 = v.toInt64) (r1 : k + 8 ≤ 601024) (r2 : n + 200 ≤ 7293034) (K : wr X (k + 8) (n + 200) 1734 [.ref 0, .ref H, .ref m, .ref o, .int (nI i), .int kk, .int v] [] h2) : wr X k n 352 [.ref 0, .ref H, .ref m, .ref o, .int (nI i), v5, v6] [] h := by
  refine r_aload_n (i := 1) C dL_law_352 rfl rfl (by first | rfl | exact isR_rf _) ?_
  refine r_aload_n (i := 0) C dL_law_353 rfl rfl (by first | rfl | exact isR_rf _) ?_
  refine r_iload (i := 4) C dL_law_354 rfl ?_
  refine r_iconst (v := 1) C dL_law_356 (by decide) ?_
  refine r_iadd C dL_law_357 ?_
  refine r_sald (j := i + 1) C dL_law_358 (nI_plus i 1 1 rfl) (by omega) ?_
  refine r_aload_n (i := 0) C dL_law_359 rfl rfl (by first | rfl | exact isR_rf _) ?_
  refine r_iload (i := 4) C dL_law_360 rfl ?_
  refine r_iconst (v := 2) C dL_law_362 (by decide) ?_
  refine r_iadd C dL_law_363 ?_
  refine r_sald (j := i + 2) C dL_law_364 (nI_plus i 2 2 rfl) (by omega) ?_
  refine r_aload_n (i := 3) C dL_law_365 rfl rfl (by first | rfl | exact isR_rf _) ?_
  refine r_callHs C s_L_108 Mw dL_law_366 (As := [_, _, _, _]) rfl rfl rfl (by omega) (Nat.le_of_ble_eq_true rfl) (by omega) (by omega) ?_
  refine r_istore (i := 5) C dL_law_369 (Nat.le_of_ble_eq_true rfl) ?_
  refine r_aload_n (i := 2) C dL_law_371 rfl rfl (by first | rfl | exact isR_rf _) ?_
  refine r_aload_n (i := 0) C dL_law_372 rfl rfl (by first | rfl | exact isR_rf _) ?_
  refine r_iload (i := 4) C dL_law_373 rfl ?_
  refine r_iconst (v := 1) C dL_law_375 (by decide) ?_
  refine r_iadd C dL_law_376 ?_
  refine r_sald (j := i + 1) C dL_law_377 (nI_plus i 1 1 rfl) (by omega) ?_
  refine r_aload_n (i := 0) C dL_law_378 rfl rfl (by first | rfl | exact isR_rf _) ?_
  refine r_iload (i := 4) C dL_law_379 rfl ?_
  refine r_iconst (v := 2) C dL_law_381 (by decide) ?_
  refine r_iadd C dL_law_382 ?_
  refine r_sald (j := i + 2) C dL_law_383 (nI_plus i 2 2 rfl) (by omega) ?_
  refine r_callVs C v_L_110 Mm dL_law_384 (by assumption) (ci := 10) (by decide) rfl rfl (As := [_, _]) rfl rfl rfl (by omega) (Nat.le_of_ble_eq_true rfl) (by omega) (by omega) ?_
  refine r_istore (i := 6) C dL_law_387 (Nat.le_of_ble_eq_true rfl) ?_
  refine r_aload_n (i := 2) C dL_law_389 rfl rfl (by first | rfl | exact isR_rf _) ?_
  refine r_callVs C v_L_96 Mt dL_law_390 (by assumption) (ci := 10) (by decide) rfl rfl (As := []) rfl rfl rfl (by omega) (Nat.le_of_ble_eq_true rfl) (by omega) (by omega) ?_
  refine r_iload (i := 5) C dL_law_393 rfl ?_
  refine r_ic_eq (tgt := 400) C dL_law_395 (by decide) (fun _ => ?_) (fun c => absurd rfl c)
  refine r_iload (i := 5) C dL_law_400 rfl ?_
  refine r_if_ne (tgt := 417) C dL_law_402 (by decide) (fun _ => ?_) (fun c => ?_)
  · refine r_goto (tgt := 1734) C dL_law_417 (by decide) ?_
    exact K
  · refine r_aload_n (i := 3) C dL_law_405 rfl rfl (by first | rfl | exact isR_rf _) ?_
    refine r_iconst (v := 0) C dL_law_406 (by decide) ?_
    refine r_lald (a := o) (j := 0) C dL_law_407 hko rfl hlo ?_
    rw [hw c]
    refine r_iload (i := 6) C dL_law_408 rfl ?_
    refine r_i2l C dL_law_410 ?_
    refine r_lcmp C dL_law_411 ?_
    rw [cmp_self]
    refine r_if_eq (tgt := 417) C dL_law_412 (by decide) (fun _ => ?_) (fun c => absurd rfl c)
    refine r_goto (tgt := 1734) C dL_law_417 (by decide) ?_
    exact K
theorem lc_contain {X : Ctx} (C : Cx X yL_law cL_law 7 (some .boolean) [] 20 601024 7293034) {k n i H m o : Nat} {h h1 h2 : Hp} {kk v : Int32} {v5 v6 : Value} (hi : i + 6 < gL (gOf X)) (Mw : MRw (lOf X) (gOf X) yL_contain (.codeWith yL_contain cL_contain 5 (Option.some Jvm.ClassFile.FieldType.int) [(0, 17, 20, 13)]) 13 8 200 [.ref H, .int (gX (gOf X) (i + 1)), .int (if gX (gOf X) (i + 2) = 0 then 0 else 1), .ref o] h (.inl (some (.int kk), h1))) (hkm1 : hK h1 m = 10) (Mm : MRw (lOf X) (gOf X) yX12_contain (.code yX12_contain cX12_contain 5 (Option.some Jvm.ClassFile.FieldType.boolean)) 7 0 0 [.ref m, .int (gX (gOf X) (i + 1)), .int (if gX (gOf X) (i + 2) = 0 then 0 else 1)] h1 (.inl (some (.int v), h2))) (hkm2 : hK h2 m = 10) (Mt : MRw (lOf X) (gOf X) yX12_thrown (.code yX12_thrown cX12_thrown 1 (Option.some Jvm.ClassFile.FieldType.int)) 0 0 0 [.ref m] h2 (.inl (some (.int kk), h2)))
    (hko : hK h2 o = 102) (hlo : 0 < hL h2 o) (hw : kk = 0 → hW h2 o 0 = (if v = 0 then 0 else 1)) (r1 : k + 8 ≤ 601024) (r2 : n + 200 ≤ 7293034) (K : wr X (k + 8) (n + 200) 1734 [.ref 0, .ref H, .ref m, .ref o, .int (nI i), .int kk, .int v] [] h2) : wr X k n 420 [.ref 0, .ref H, .ref m, .ref o, .int (nI i), v5, v6] [] h := by
  refine r_aload_n (i := 1) C dL_law_420 rfl rfl (by first | rfl | exact isR_rf _) ?_
  refine r_aload_n (i := 0) C dL_law_421 rfl rfl (by first | rfl | exact isR_rf _) ?_
  refine r_iload (i := 4) C dL_law_422 rfl ?_
  refine r_iconst (v := 1) C dL_law_424 (by decide) ?_
  refine r_iadd C dL_law_425 ?_
  refine r_sald (j := i + 1) C dL_law_426 (nI_plus i 1 1 rfl) (by omega) ?_
  refine r_aload_n (i := 0) C dL_law_427 rfl rfl (by first | rfl | exact isR_rf _) ?_
  refine r_iload (i := 4) C dL_law_428 rfl ?_
  refine r_iconst (v := 2) C dL_law_430 (by decide) ?_
  refine r_iadd C dL_law_431 ?_
  refine r_sald (j := i + 2) C dL_law_432 (nI_plus i 2 2 rfl) (by omega) ?_
  refine r_if_eq (tgt := 440) C dL_law_433 (by decide) (fun cb => ?_) (fun cb => ?_)
  · rw [if_pos cb] at Mw Mm
    refine r_iconst (v := 0) C dL_law_440 (by decide) ?_
    refine r_aload_n (i := 3) C dL_law_441 rfl rfl (by first | rfl | exact isR_rf _) ?_
    refine r_callHs C s_L_111 Mw dL_law_442 (As := [_, _, _, _]) rfl rfl rfl (by omega) (Nat.le_of_ble_eq_true rfl) (by omega) (by omega) ?_
    refine r_istore (i := 5) C dL_law_445 (Nat.le_of_ble_eq_true rfl) ?_
    refine r_aload_n (i := 2) C dL_law_447 rfl rfl (by first | rfl | exact isR_rf _) ?_
    refine r_aload_n (i := 0) C dL_law_448 rfl rfl (by first | rfl | exact isR_rf _) ?_
    refine r_iload (i := 4) C dL_law_449 rfl ?_
    refine r_iconst (v := 1) C dL_law_451 (by decide) ?_
    refine r_iadd C dL_law_452 ?_
    refine r_sald (j := i + 1) C dL_law_453 (nI_plus i 1 1 rfl) (by omega) ?_
    refine r_aload_n (i := 0) C dL_law_454 rfl rfl (by first | rfl | exact isR_rf _) ?_
    refine r_iload (i := 4) C dL_law_455 rfl ?_
    refine r_iconst (v := 2) C dL_law_457 (by decide) ?_
    refine r_iadd C dL_law_458 ?_
    refine r_sald (j := i + 2) C dL_law_459 (nI_plus i 2 2 rfl) (by omega) ?_
    refine r_if_eq (tgt := 467) C dL_law_460 (by decide) (fun _ => ?_) (fun c => absurd cb c)
    refine r_iconst (v := 0) C dL_law_467 (by decide) ?_
    refine r_callVs C v_L_114 Mm dL_law_468 (by assumption) (ci := 10) (by decide) rfl rfl (As := [_, _]) rfl rfl rfl (by omega) (Nat.le_of_ble_eq_true rfl) (by omega) (by omega) ?_
    refine r_istore (i := 6) C dL_law_471 (Nat.le_of_ble_eq_true rfl) ?_
    refine r_aload_n (i := 2) C dL_law_473 rfl rfl (by first | rfl | exact isR_rf _) ?_
    refine r_callVs C v_L_96 Mt dL_law_474 (by assumption) (ci := 10) (by decide) rfl rfl (As := []) rfl rfl rfl (by omega) (Nat.le_of_ble_eq_true rfl) (by omega) (by omega) ?_
    refine r_iload (i := 5) C dL_law_477 rfl ?_
    refine r_ic_eq (tgt := 484) C dL_law_479 (by decide) (fun _ => ?_) (fun c => absurd rfl c)
    refine r_iload (i := 5) C dL_law_484 rfl ?_
    refine r_if_ne (tgt := 508) C dL_law_486 (by decide) (fun _ => ?_) (fun c => ?_)
    · refine r_goto (tgt := 1734) C dL_law_508 (by decide) ?_
      exact K
    · refine r_aload_n (i := 3) C dL_law_489 rfl rfl (by first | rfl | exact isR_rf _) ?_
      refine r_iconst (v := 0) C dL_law_490 (by decide) ?_
      refine r_lald (a := o) (j := 0) C dL_law_491 hko rfl hlo ?_
      rw [hw c]
      refine r_iload (i := 6) C dL_law_492 rfl ?_
      refine r_if_eq (tgt := 501) C dL_law_494 (by decide) (fun c2 => ?_) (fun c2 => ?_)
      · rw [if_pos c2]
        refine r_lconst (v := 0) C dL_law_501 (by decide) ?_
        refine r_lcmp C dL_law_502 ?_
        rw [cmp_self]
        refine r_if_eq (tgt := 508) C dL_law_503 (by decide) (fun _ => ?_) (fun c => absurd rfl c)
        refine r_goto (tgt := 1734) C dL_law_508 (by decide) ?_
        exact K
      · rw [if_neg c2]
        refine r_lconst (v := 1) C dL_law_497 (by decide) ?_
        refine r_goto (tgt := 502) C dL_law_498 (by decide) ?_
        refine r_lcmp C dL_law_502 ?_
        rw [cmp_self]
        refine r_if_eq (tgt := 508) C dL_law_503 (by decide) (fun _ => ?_) (fun c => absurd rfl c)
        refine r_goto (tgt := 1734) C dL_law_508 (by decide) ?_
        exact K
  · rw [if_neg cb] at Mw Mm
    refine r_iconst (v := 1) C dL_law_436 (by decide) ?_
    refine r_goto (tgt := 441) C dL_law_437 (by decide) ?_
    refine r_aload_n (i := 3) C dL_law_441 rfl rfl (by first | rfl | exact isR_rf _) ?_
    refine r_callHs C s_L_111 Mw dL_law_442 (As := [_, _, _, _]) rfl rfl rfl (by omega) (Nat.le_of_ble_eq_true rfl) (by omega) (by omega) ?_
    refine r_istore (i := 5) C dL_law_445 (Nat.le_of_ble_eq_true rfl) ?_
    refine r_aload_n (i := 2) C dL_law_447 rfl rfl (by first | rfl | exact isR_rf _) ?_
    refine r_aload_n (i := 0) C dL_law_448 rfl rfl (by first | rfl | exact isR_rf _) ?_
    refine r_iload (i := 4) C dL_law_449 rfl ?_
    refine r_iconst (v := 1) C dL_law_451 (by decide) ?_
    refine r_iadd C dL_law_452 ?_
    refine r_sald (j := i + 1) C dL_law_453 (nI_plus i 1 1 rfl) (by omega) ?_
    refine r_aload_n (i := 0) C dL_law_454 rfl rfl (by first | rfl | exact isR_rf _) ?_
    refine r_iload (i := 4) C dL_law_455 rfl ?_
    refine r_iconst (v := 2) C dL_law_457 (by decide) ?_
    refine r_iadd C dL_law_458 ?_
    refine r_sald (j := i + 2) C dL_law_459 (nI_plus i 2 2 rfl) (by omega) ?_
    refine r_if_eq (tgt := 467) C dL_law_460 (by decide) (fun c => absurd c cb) (fun _ => ?_)
    refine r_iconst (v := 1) C dL_law_463 (by decide) ?_
    refine r_goto (tgt := 468) C dL_law_464 (by decide) ?_
    refine r_callVs C v_L_114 Mm dL_law_468 (by assumption) (ci := 10) (by decide) rfl rfl (As := [_, _]) rfl rfl rfl (by omega) (Nat.le_of_ble_eq_true rfl) (by omega) (by omega) ?_
    refine r_istore (i := 6) C dL_law_471 (Nat.le_of_ble_eq_true rfl) ?_
    refine r_aload_n (i := 2) C dL_law_473 rfl rfl (by first | rfl | exact isR_rf _) ?_
    refine r_callVs C v_L_96 Mt dL_law_474 (by assumption) (ci := 10) (by decide) rfl rfl (As := []) rfl rfl rfl (by omega) (Nat.le_of_ble_eq_true rfl) (by omega) (by omega) ?_
    refine r_iload (i := 5) C dL_law_477 rfl ?_
    refine r_ic_eq (tgt := 484) C dL_law_479 (by decide) (fun _ => ?_) (fun c => absurd rfl c)
    refine r_iload (i := 5) C dL_law_484 rfl ?_
    refine r_if_ne (tgt := 508) C dL_law_486 (by decide) (fun _ => ?_) (fun c => ?_)
    · refine r_goto (tgt := 1734) C dL_law_508 (by decide) ?_
      exact K
    · refine r_aload_n (i := 3) C dL_law_489 rfl rfl (by first | rfl | exact isR_rf _) ?_
      refine r_iconst (v := 0) C dL_law_490 (by decide) ?_
      refine r_lald (a := o) (j := 0) C dL_law_491 hko rfl hlo ?_
      rw [hw c]
      refine r_iload (i := 6) C dL_law_492 rfl ?_
      refine r_if_eq (tgt := 501) C dL_law_494 (by decide) (fun c2 => ?_) (fun c2 => ?_)
      · rw [if_pos c2]
        refine r_lconst (v := 0) C dL_law_501 (by decide) ?_
        refine r_lcmp C dL_law_502 ?_
        rw [cmp_self]
        refine r_if_eq (tgt := 508) C dL_law_503 (by decide) (fun _ => ?_) (fun c => absurd rfl c)
        refine r_goto (tgt := 1734) C dL_law_508 (by decide) ?_
        exact K
      · rw [if_neg c2]
        refine r_lconst (v := 1) C dL_law_497 (by decide) ?_
        refine r_goto (tgt := 502) C dL_law_498 (by decide) ?_
        refine r_lcmp C dL_law_502 ?_
        rw [cmp_self]
        refine r_if_eq (tgt := 508) C dL_law_503 (by decide) (fun _ => ?_) (fun c => absurd rfl c)
        refine r_goto (tgt := 1734) C dL_law_508 (by decide) ?_
        exact K
theorem lc_window {X : Ctx} (C : Cx X yL_law cL_law 7 (some .boolean) [] 20 601024 7293034) {k n i H m o : Nat} {h h1 h2 : Hp} {kk v : Int32} {v5 v6 : Value} (hi : i + 6 < gL (gOf X)) (Mw : MRw (lOf X) (gOf X) yL_window (.codeWith yL_window cL_window 4 (Option.some Jvm.ClassFile.FieldType.int) [(0, 9, 12, 15)]) 13 8 200 [.ref H, .int (gX (gOf X) (i + 1)), .ref o] h (.inl (some (.int kk), h1))) (hkm1 : hK h1 m = 10) (Mm : MRw (lOf X) (gOf X) yX12_window (.code yX12_window cX12_window 3 (Option.some Jvm.ClassFile.FieldType.int)) 7 0 0 [.ref m, .int (gX (gOf X) (i + 1))] h1 (.inl (some (.int v), h2))) (hkm2 : hK h2 m = 10) (Mt : MRw (lOf X) (gOf X) yX12_thrown (.code yX12_thrown cX12_thrown 1 (Option.some Jvm.ClassFile.FieldType.int)) 0 0 0 [.ref m] h2 (.inl (some (.int kk), h2)))
    (hko : hK h2 o = 102) (hlo : 0 < hL h2 o) (hw : kk = 0 → hW h2 o 0 = v.toInt64) (r1 : k + 8 ≤ 601024) (r2 : n + 200 ≤ 7293034) (K : wr X (k + 8) (n + 200) 1734 [.ref 0, .ref H, .ref m, .ref o, .int (nI i), .int kk, .int v] [] h2) : wr X k n 511 [.ref 0, .ref H, .ref m, .ref o, .int (nI i), v5, v6] [] h := by
  refine r_aload_n (i := 1) C dL_law_511 rfl rfl (by first | rfl | exact isR_rf _) ?_
  refine r_aload_n (i := 0) C dL_law_512 rfl rfl (by first | rfl | exact isR_rf _) ?_
  refine r_iload (i := 4) C dL_law_513 rfl ?_
  refine r_iconst (v := 1) C dL_law_515 (by decide) ?_
  refine r_iadd C dL_law_516 ?_
  refine r_sald (j := i + 1) C dL_law_517 (nI_plus i 1 1 rfl) (by omega) ?_
  refine r_aload_n (i := 3) C dL_law_518 rfl rfl (by first | rfl | exact isR_rf _) ?_
  refine r_callHs C s_L_115 Mw dL_law_519 (As := [_, _, _]) rfl rfl rfl (by omega) (Nat.le_of_ble_eq_true rfl) (by omega) (by omega) ?_
  refine r_istore (i := 5) C dL_law_522 (Nat.le_of_ble_eq_true rfl) ?_
  refine r_aload_n (i := 2) C dL_law_524 rfl rfl (by first | rfl | exact isR_rf _) ?_
  refine r_aload_n (i := 0) C dL_law_525 rfl rfl (by first | rfl | exact isR_rf _) ?_
  refine r_iload (i := 4) C dL_law_526 rfl ?_
  refine r_iconst (v := 1) C dL_law_528 (by decide) ?_
  refine r_iadd C dL_law_529 ?_
  refine r_sald (j := i + 1) C dL_law_530 (nI_plus i 1 1 rfl) (by omega) ?_
  refine r_callVs C v_L_117 Mm dL_law_531 (by assumption) (ci := 10) (by decide) rfl rfl (As := [_]) rfl rfl rfl (by omega) (Nat.le_of_ble_eq_true rfl) (by omega) (by omega) ?_
  refine r_istore (i := 6) C dL_law_534 (Nat.le_of_ble_eq_true rfl) ?_
  refine r_aload_n (i := 2) C dL_law_536 rfl rfl (by first | rfl | exact isR_rf _) ?_
  refine r_callVs C v_L_96 Mt dL_law_537 (by assumption) (ci := 10) (by decide) rfl rfl (As := []) rfl rfl rfl (by omega) (Nat.le_of_ble_eq_true rfl) (by omega) (by omega) ?_
  refine r_iload (i := 5) C dL_law_540 rfl ?_
  refine r_ic_eq (tgt := 547) C dL_law_542 (by decide) (fun _ => ?_) (fun c => absurd rfl c)
  refine r_iload (i := 5) C dL_law_547 rfl ?_
  refine r_if_ne (tgt := 564) C dL_law_549 (by decide) (fun _ => ?_) (fun c => ?_)
  · refine r_goto (tgt := 1734) C dL_law_564 (by decide) ?_
    exact K
  · refine r_aload_n (i := 3) C dL_law_552 rfl rfl (by first | rfl | exact isR_rf _) ?_
    refine r_iconst (v := 0) C dL_law_553 (by decide) ?_
    refine r_lald (a := o) (j := 0) C dL_law_554 hko rfl hlo ?_
    rw [hw c]
    refine r_iload (i := 6) C dL_law_555 rfl ?_
    refine r_i2l C dL_law_557 ?_
    refine r_lcmp C dL_law_558 ?_
    rw [cmp_self]
    refine r_if_eq (tgt := 564) C dL_law_559 (by decide) (fun _ => ?_) (fun c => absurd rfl c)
    refine r_goto (tgt := 1734) C dL_law_564 (by decide) ?_
    exact K
theorem lc_rule {X : Ctx} (C : Cx X yL_law cL_law 7 (some .boolean) [] 20 601024 7293034) {k n i H m o : Nat} {h h1 h2 : Hp} {kk v : Int32} {v5 v6 : Value} (hi : i + 6 < gL (gOf X)) (Mw : MRw (lOf X) (gOf X) yL_rule (.codeWith yL_rule cL_rule 9 (Option.some Jvm.ClassFile.FieldType.int) [(0, 18, 21, 15), (0, 18, 25, 17)]) 13 30 600 [.ref H, .int (gX (gOf X) (i + 1)), .int (gX (gOf X) (i + 2)), .int (gX (gOf X) (i + 3)), .int (gX (gOf X) (i + 4)), .int (gX (gOf X) (i + 5)), .int (if gX (gOf X) (i + 6) = 0 then 0 else 1), .ref o] h (.inl (some (.int kk), h1))) (hkm1 : hK h1 m = 10) (Mm : MRw (lOf X) (gOf X) yX12_rule (.code yX12_rule cX12_rule 8 (Option.some Jvm.ClassFile.FieldType.int)) 7 0 0 [.ref m, .int (gX (gOf X) (i + 1)), .int (gX (gOf X) (i + 2)), .int (gX (gOf X) (i + 3)), .int (gX (gOf X) (i + 4)), .int (gX (gOf X) (i + 5)), .int (if gX (gOf X) (i + 6) = 0 then 0 else 1)] h1 (.inl (some (.int v), h2))) (hkm2 : hK h2 m = 10) (Mt : MRw (lOf X) (gOf X) yX12_thrown (.code yX12_thrown cX12_thrown 1 (Option.some Jvm.ClassFile.FieldType.int)) 0 0 0 [.ref m] h2 (.inl (some (.int kk), h2)))
    (hko : hK h2 o = 102) (hlo : 0 < hL h2 o) (hw : kk = 0 → hW h2 o 0 = v.toInt64) (r1 : k + 30 ≤ 601024) (r2 : n + 600 ≤ 7293034) (K : wr X (k + 30) (n + 600) 1734 [.ref 0, .ref H, .ref m, .ref o, .int (nI i), .int kk, .int v] [] h2) : wr X k n 567 [.ref 0, .ref H, .ref m, .ref o, .int (nI i), v5, v6] [] h := by
  refine r_aload_n (i := 1) C dL_law_567 rfl rfl (by first | rfl | exact isR_rf _) ?_
  refine r_aload_n (i := 0) C dL_law_568 rfl rfl (by first | rfl | exact isR_rf _) ?_
  refine r_iload (i := 4) C dL_law_569 rfl ?_
  refine r_iconst (v := 1) C dL_law_571 (by decide) ?_
  refine r_iadd C dL_law_572 ?_
  refine r_sald (j := i + 1) C dL_law_573 (nI_plus i 1 1 rfl) (by omega) ?_
  refine r_aload_n (i := 0) C dL_law_574 rfl rfl (by first | rfl | exact isR_rf _) ?_
  refine r_iload (i := 4) C dL_law_575 rfl ?_
  refine r_iconst (v := 2) C dL_law_577 (by decide) ?_
  refine r_iadd C dL_law_578 ?_
  refine r_sald (j := i + 2) C dL_law_579 (nI_plus i 2 2 rfl) (by omega) ?_
  refine r_aload_n (i := 0) C dL_law_580 rfl rfl (by first | rfl | exact isR_rf _) ?_
  refine r_iload (i := 4) C dL_law_581 rfl ?_
  refine r_iconst (v := 3) C dL_law_583 (by decide) ?_
  refine r_iadd C dL_law_584 ?_
  refine r_sald (j := i + 3) C dL_law_585 (nI_plus i 3 3 rfl) (by omega) ?_
  refine r_aload_n (i := 0) C dL_law_586 rfl rfl (by first | rfl | exact isR_rf _) ?_
  refine r_iload (i := 4) C dL_law_587 rfl ?_
  refine r_iconst (v := 4) C dL_law_589 (by decide) ?_
  refine r_iadd C dL_law_590 ?_
  refine r_sald (j := i + 4) C dL_law_591 (nI_plus i 4 4 rfl) (by omega) ?_
  refine r_aload_n (i := 0) C dL_law_592 rfl rfl (by first | rfl | exact isR_rf _) ?_
  refine r_iload (i := 4) C dL_law_593 rfl ?_
  refine r_iconst (v := 5) C dL_law_595 (by decide) ?_
  refine r_iadd C dL_law_596 ?_
  refine r_sald (j := i + 5) C dL_law_597 (nI_plus i 5 5 rfl) (by omega) ?_
  refine r_aload_n (i := 0) C dL_law_598 rfl rfl (by first | rfl | exact isR_rf _) ?_
  refine r_iload (i := 4) C dL_law_599 rfl ?_
  refine r_bipush (v := 6) C dL_law_601 (by decide) ?_
  refine r_iadd C dL_law_603 ?_
  refine r_sald (j := i + 6) C dL_law_604 (nI_plus i 6 6 rfl) (by omega) ?_
  refine r_if_eq (tgt := 612) C dL_law_605 (by decide) (fun cb => ?_) (fun cb => ?_)
  · rw [if_pos cb] at Mw Mm
    refine r_iconst (v := 0) C dL_law_612 (by decide) ?_
    refine r_aload_n (i := 3) C dL_law_613 rfl rfl (by first | rfl | exact isR_rf _) ?_
    refine r_callHs C s_L_118 Mw dL_law_614 (As := [_, _, _, _, _, _, _, _]) rfl rfl rfl (by omega) (Nat.le_of_ble_eq_true rfl) (by omega) (by omega) ?_
    refine r_istore (i := 5) C dL_law_617 (Nat.le_of_ble_eq_true rfl) ?_
    refine r_aload_n (i := 2) C dL_law_619 rfl rfl (by first | rfl | exact isR_rf _) ?_
    refine r_aload_n (i := 0) C dL_law_620 rfl rfl (by first | rfl | exact isR_rf _) ?_
    refine r_iload (i := 4) C dL_law_621 rfl ?_
    refine r_iconst (v := 1) C dL_law_623 (by decide) ?_
    refine r_iadd C dL_law_624 ?_
    refine r_sald (j := i + 1) C dL_law_625 (nI_plus i 1 1 rfl) (by omega) ?_
    refine r_aload_n (i := 0) C dL_law_626 rfl rfl (by first | rfl | exact isR_rf _) ?_
    refine r_iload (i := 4) C dL_law_627 rfl ?_
    refine r_iconst (v := 2) C dL_law_629 (by decide) ?_
    refine r_iadd C dL_law_630 ?_
    refine r_sald (j := i + 2) C dL_law_631 (nI_plus i 2 2 rfl) (by omega) ?_
    refine r_aload_n (i := 0) C dL_law_632 rfl rfl (by first | rfl | exact isR_rf _) ?_
    refine r_iload (i := 4) C dL_law_633 rfl ?_
    refine r_iconst (v := 3) C dL_law_635 (by decide) ?_
    refine r_iadd C dL_law_636 ?_
    refine r_sald (j := i + 3) C dL_law_637 (nI_plus i 3 3 rfl) (by omega) ?_
    refine r_aload_n (i := 0) C dL_law_638 rfl rfl (by first | rfl | exact isR_rf _) ?_
    refine r_iload (i := 4) C dL_law_639 rfl ?_
    refine r_iconst (v := 4) C dL_law_641 (by decide) ?_
    refine r_iadd C dL_law_642 ?_
    refine r_sald (j := i + 4) C dL_law_643 (nI_plus i 4 4 rfl) (by omega) ?_
    refine r_aload_n (i := 0) C dL_law_644 rfl rfl (by first | rfl | exact isR_rf _) ?_
    refine r_iload (i := 4) C dL_law_645 rfl ?_
    refine r_iconst (v := 5) C dL_law_647 (by decide) ?_
    refine r_iadd C dL_law_648 ?_
    refine r_sald (j := i + 5) C dL_law_649 (nI_plus i 5 5 rfl) (by omega) ?_
    refine r_aload_n (i := 0) C dL_law_650 rfl rfl (by first | rfl | exact isR_rf _) ?_
    refine r_iload (i := 4) C dL_law_651 rfl ?_
    refine r_bipush (v := 6) C dL_law_653 (by decide) ?_
    refine r_iadd C dL_law_655 ?_
    refine r_sald (j := i + 6) C dL_law_656 (nI_plus i 6 6 rfl) (by omega) ?_
    refine r_if_eq (tgt := 664) C dL_law_657 (by decide) (fun _ => ?_) (fun c => absurd cb c)
    refine r_iconst (v := 0) C dL_law_664 (by decide) ?_
    refine r_callVs C v_L_121 Mm dL_law_665 (by assumption) (ci := 10) (by decide) rfl rfl (As := [_, _, _, _, _, _]) rfl rfl rfl (by omega) (Nat.le_of_ble_eq_true rfl) (by omega) (by omega) ?_
    refine r_istore (i := 6) C dL_law_668 (Nat.le_of_ble_eq_true rfl) ?_
    refine r_aload_n (i := 2) C dL_law_670 rfl rfl (by first | rfl | exact isR_rf _) ?_
    refine r_callVs C v_L_96 Mt dL_law_671 (by assumption) (ci := 10) (by decide) rfl rfl (As := []) rfl rfl rfl (by omega) (Nat.le_of_ble_eq_true rfl) (by omega) (by omega) ?_
    refine r_iload (i := 5) C dL_law_674 rfl ?_
    refine r_ic_eq (tgt := 681) C dL_law_676 (by decide) (fun _ => ?_) (fun c => absurd rfl c)
    refine r_iload (i := 5) C dL_law_681 rfl ?_
    refine r_if_ne (tgt := 698) C dL_law_683 (by decide) (fun _ => ?_) (fun c => ?_)
    · refine r_goto (tgt := 1734) C dL_law_698 (by decide) ?_
      exact K
    · refine r_aload_n (i := 3) C dL_law_686 rfl rfl (by first | rfl | exact isR_rf _) ?_
      refine r_iconst (v := 0) C dL_law_687 (by decide) ?_
      refine r_lald (a := o) (j := 0) C dL_law_688 hko rfl hlo ?_
      rw [hw c]
      refine r_iload (i := 6) C dL_law_689 rfl ?_
      refine r_i2l C dL_law_691 ?_
      refine r_lcmp C dL_law_692 ?_
      rw [cmp_self]
      refine r_if_eq (tgt := 698) C dL_law_693 (by decide) (fun _ => ?_) (fun c => absurd rfl c)
      refine r_goto (tgt := 1734) C dL_law_698 (by decide) ?_
      exact K
  · rw [if_neg cb] at Mw Mm
    refine r_iconst (v := 1) C dL_law_608 (by decide) ?_
    refine r_goto (tgt := 613) C dL_law_609 (by decide) ?_
    refine r_aload_n (i := 3) C dL_law_613 rfl rfl (by first | rfl | exact isR_rf _) ?_
    refine r_callHs C s_L_118 Mw dL_law_614 (As := [_, _, _, _, _, _, _, _]) rfl rfl rfl (by omega) (Nat.le_of_ble_eq_true rfl) (by omega) (by omega) ?_
    refine r_istore (i := 5) C dL_law_617 (Nat.le_of_ble_eq_true rfl) ?_
    refine r_aload_n (i := 2) C dL_law_619 rfl rfl (by first | rfl | exact isR_rf _) ?_
    refine r_aload_n (i := 0) C dL_law_620 rfl rfl (by first | rfl | exact isR_rf _) ?_
    refine r_iload (i := 4) C dL_law_621 rfl ?_
    refine r_iconst (v := 1) C dL_law_623 (by decide) ?_
    refine r_iadd C dL_law_624 ?_
    refine r_sald (j := i + 1) C dL_law_625 (nI_plus i 1 1 rfl) (by omega) ?_
    refine r_aload_n (i := 0) C dL_law_626 rfl rfl (by first | rfl | exact isR_rf _) ?_
    refine r_iload (i := 4) C dL_law_627 rfl ?_
    refine r_iconst (v := 2) C dL_law_629 (by decide) ?_
    refine r_iadd C dL_law_630 ?_
    refine r_sald (j := i + 2) C dL_law_631 (nI_plus i 2 2 rfl) (by omega) ?_
    refine r_aload_n (i := 0) C dL_law_632 rfl rfl (by first | rfl | exact isR_rf _) ?_
    refine r_iload (i := 4) C dL_law_633 rfl ?_
    refine r_iconst (v := 3) C dL_law_635 (by decide) ?_
    refine r_iadd C dL_law_636 ?_
    refine r_sald (j := i + 3) C dL_law_637 (nI_plus i 3 3 rfl) (by omega) ?_
    refine r_aload_n (i := 0) C dL_law_638 rfl rfl (by first | rfl | exact isR_rf _) ?_
    refine r_iload (i := 4) C dL_law_639 rfl ?_
    refine r_iconst (v := 4) C dL_law_641 (by decide) ?_
    refine r_iadd C dL_law_642 ?_
    refine r_sald (j := i + 4) C dL_law_643 (nI_plus i 4 4 rfl) (by omega) ?_
    refine r_aload_n (i := 0) C dL_law_644 rfl rfl (by first | rfl | exact isR_rf _) ?_
    refine r_iload (i := 4) C dL_law_645 rfl ?_
    refine r_iconst (v := 5) C dL_law_647 (by decide) ?_
    refine r_iadd C dL_law_648 ?_
    refine r_sald (j := i + 5) C dL_law_649 (nI_plus i 5 5 rfl) (by omega) ?_
    refine r_aload_n (i := 0) C dL_law_650 rfl rfl (by first | rfl | exact isR_rf _) ?_
    refine r_iload (i := 4) C dL_law_651 rfl ?_
    refine r_bipush (v := 6) C dL_law_653 (by decide) ?_
    refine r_iadd C dL_law_655 ?_
    refine r_sald (j := i + 6) C dL_law_656 (nI_plus i 6 6 rfl) (by omega) ?_
    refine r_if_eq (tgt := 664) C dL_law_657 (by decide) (fun c => absurd c cb) (fun _ => ?_)
    refine r_iconst (v := 1) C dL_law_660 (by decide) ?_
    refine r_goto (tgt := 665) C dL_law_661 (by decide) ?_
    refine r_callVs C v_L_121 Mm dL_law_665 (by assumption) (ci := 10) (by decide) rfl rfl (As := [_, _, _, _, _, _]) rfl rfl rfl (by omega) (Nat.le_of_ble_eq_true rfl) (by omega) (by omega) ?_
    refine r_istore (i := 6) C dL_law_668 (Nat.le_of_ble_eq_true rfl) ?_
    refine r_aload_n (i := 2) C dL_law_670 rfl rfl (by first | rfl | exact isR_rf _) ?_
    refine r_callVs C v_L_96 Mt dL_law_671 (by assumption) (ci := 10) (by decide) rfl rfl (As := []) rfl rfl rfl (by omega) (Nat.le_of_ble_eq_true rfl) (by omega) (by omega) ?_
    refine r_iload (i := 5) C dL_law_674 rfl ?_
    refine r_ic_eq (tgt := 681) C dL_law_676 (by decide) (fun _ => ?_) (fun c => absurd rfl c)
    refine r_iload (i := 5) C dL_law_681 rfl ?_
    refine r_if_ne (tgt := 698) C dL_law_683 (by decide) (fun _ => ?_) (fun c => ?_)
    · refine r_goto (tgt := 1734) C dL_law_698 (by decide) ?_
      exact K
    · refine r_aload_n (i := 3) C dL_law_686 rfl rfl (by first | rfl | exact isR_rf _) ?_
      refine r_iconst (v := 0) C dL_law_687 (by decide) ?_
      refine r_lald (a := o) (j := 0) C dL_law_688 hko rfl hlo ?_
      rw [hw c]
      refine r_iload (i := 6) C dL_law_689 rfl ?_
      refine r_i2l C dL_law_691 ?_
      refine r_lcmp C dL_law_692 ?_
      rw [cmp_self]
      refine r_if_eq (tgt := 698) C dL_law_693 (by decide) (fun _ => ?_) (fun c => absurd rfl c)
      refine r_goto (tgt := 1734) C dL_law_698 (by decide) ?_
      exact K
theorem lc_part {X : Ctx} (C : Cx X yL_law cL_law 7 (some .boolean) [] 20 601024 7293034) {k n i H m o : Nat} {h h1 h2 : Hp} {kk v : Int32} {v5 v6 : Value} (hi : i + 6 < gL (gOf X)) (Mw : MRw (lOf X) (gOf X) yL_part (.codeWith yL_part cL_part 8 (Option.some Jvm.ClassFile.FieldType.int) [(0, 16, 19, 13), (0, 16, 23, 15), (0, 16, 27, 17)]) 13 30 600 [.ref H, .int (gX (gOf X) (i + 1)), .int (gX (gOf X) (i + 2)), .int (gX (gOf X) (i + 3)), .int (gX (gOf X) (i + 4)), .int (gX (gOf X) (i + 5)), .ref o] h (.inl (some (.int kk), h1))) (hkm1 : hK h1 m = 10) (Mm : MRw (lOf X) (gOf X) yX12_part (.code yX12_part cX12_part 6 (Option.some Jvm.ClassFile.FieldType.int)) 7 0 0 [.ref m, .int (gX (gOf X) (i + 1)), .int (gX (gOf X) (i + 2)), .int (gX (gOf X) (i + 3)), .int (gX (gOf X) (i + 4)), .int (gX (gOf X) (i + 5))] h1 (.inl (some (.int v), h2))) (hkm2 : hK h2 m = 10) (Mt : MRw (lOf X) (gOf X) yX12_thrown (.code yX12_thrown cX12_thrown 1 (Option.some Jvm.ClassFile.FieldType.int)) 0 0 0 [.ref m] h2 (.inl (some (.int kk), h2)))
    (hko : hK h2 o = 102) (hlo : 0 < hL h2 o) (hw : kk = 0 → hW h2 o 0 = v.toInt64) (r1 : k + 30 ≤ 601024) (r2 : n + 600 ≤ 7293034) (K : wr X (k + 30) (n + 600) 1734 [.ref 0, .ref H, .ref m, .ref o, .int (nI i), .int kk, .int v] [] h2) : wr X k n 701 [.ref 0, .ref H, .ref m, .ref o, .int (nI i), v5, v6] [] h := by
  refine r_aload_n (i := 1) C dL_law_701 rfl rfl (by first | rfl | exact isR_rf _) ?_
  refine r_aload_n (i := 0) C dL_law_702 rfl rfl (by first | rfl | exact isR_rf _) ?_
  refine r_iload (i := 4) C dL_law_703 rfl ?_
  refine r_iconst (v := 1) C dL_law_705 (by decide) ?_
  refine r_iadd C dL_law_706 ?_
  refine r_sald (j := i + 1) C dL_law_707 (nI_plus i 1 1 rfl) (by omega) ?_
  refine r_aload_n (i := 0) C dL_law_708 rfl rfl (by first | rfl | exact isR_rf _) ?_
  refine r_iload (i := 4) C dL_law_709 rfl ?_
  refine r_iconst (v := 2) C dL_law_711 (by decide) ?_
  refine r_iadd C dL_law_712 ?_
  refine r_sald (j := i + 2) C dL_law_713 (nI_plus i 2 2 rfl) (by omega) ?_
  refine r_aload_n (i := 0) C dL_law_714 rfl rfl (by first | rfl | exact isR_rf _) ?_
  refine r_iload (i := 4) C dL_law_715 rfl ?_
  refine r_iconst (v := 3) C dL_law_717 (by decide) ?_
  refine r_iadd C dL_law_718 ?_
  refine r_sald (j := i + 3) C dL_law_719 (nI_plus i 3 3 rfl) (by omega) ?_
  refine r_aload_n (i := 0) C dL_law_720 rfl rfl (by first | rfl | exact isR_rf _) ?_
  refine r_iload (i := 4) C dL_law_721 rfl ?_
  refine r_iconst (v := 4) C dL_law_723 (by decide) ?_
  refine r_iadd C dL_law_724 ?_
  refine r_sald (j := i + 4) C dL_law_725 (nI_plus i 4 4 rfl) (by omega) ?_
  refine r_aload_n (i := 0) C dL_law_726 rfl rfl (by first | rfl | exact isR_rf _) ?_
  refine r_iload (i := 4) C dL_law_727 rfl ?_
  refine r_iconst (v := 5) C dL_law_729 (by decide) ?_
  refine r_iadd C dL_law_730 ?_
  refine r_sald (j := i + 5) C dL_law_731 (nI_plus i 5 5 rfl) (by omega) ?_
  refine r_aload_n (i := 3) C dL_law_732 rfl rfl (by first | rfl | exact isR_rf _) ?_
  refine r_callHs C s_L_122 Mw dL_law_733 (As := [_, _, _, _, _, _, _]) rfl rfl rfl (by omega) (Nat.le_of_ble_eq_true rfl) (by omega) (by omega) ?_
  refine r_istore (i := 5) C dL_law_736 (Nat.le_of_ble_eq_true rfl) ?_
  refine r_aload_n (i := 2) C dL_law_738 rfl rfl (by first | rfl | exact isR_rf _) ?_
  refine r_aload_n (i := 0) C dL_law_739 rfl rfl (by first | rfl | exact isR_rf _) ?_
  refine r_iload (i := 4) C dL_law_740 rfl ?_
  refine r_iconst (v := 1) C dL_law_742 (by decide) ?_
  refine r_iadd C dL_law_743 ?_
  refine r_sald (j := i + 1) C dL_law_744 (nI_plus i 1 1 rfl) (by omega) ?_
  refine r_aload_n (i := 0) C dL_law_745 rfl rfl (by first | rfl | exact isR_rf _) ?_
  refine r_iload (i := 4) C dL_law_746 rfl ?_
  refine r_iconst (v := 2) C dL_law_748 (by decide) ?_
  refine r_iadd C dL_law_749 ?_
  refine r_sald (j := i + 2) C dL_law_750 (nI_plus i 2 2 rfl) (by omega) ?_
  refine r_aload_n (i := 0) C dL_law_751 rfl rfl (by first | rfl | exact isR_rf _) ?_
  refine r_iload (i := 4) C dL_law_752 rfl ?_
  refine r_iconst (v := 3) C dL_law_754 (by decide) ?_
  refine r_iadd C dL_law_755 ?_
  refine r_sald (j := i + 3) C dL_law_756 (nI_plus i 3 3 rfl) (by omega) ?_
  refine r_aload_n (i := 0) C dL_law_757 rfl rfl (by first | rfl | exact isR_rf _) ?_
  refine r_iload (i := 4) C dL_law_758 rfl ?_
  refine r_iconst (v := 4) C dL_law_760 (by decide) ?_
  refine r_iadd C dL_law_761 ?_
  refine r_sald (j := i + 4) C dL_law_762 (nI_plus i 4 4 rfl) (by omega) ?_
  refine r_aload_n (i := 0) C dL_law_763 rfl rfl (by first | rfl | exact isR_rf _) ?_
  refine r_iload (i := 4) C dL_law_764 rfl ?_
  refine r_iconst (v := 5) C dL_law_766 (by decide) ?_
  refine r_iadd C dL_law_767 ?_
  refine r_sald (j := i + 5) C dL_law_768 (nI_plus i 5 5 rfl) (by omega) ?_
  refine r_callVs C v_L_125 Mm dL_law_769 (by assumption) (ci := 10) (by decide) rfl rfl (As := [_, _, _, _, _]) rfl rfl rfl (by omega) (Nat.le_of_ble_eq_true rfl) (by omega) (by omega) ?_
  refine r_istore (i := 6) C dL_law_772 (Nat.le_of_ble_eq_true rfl) ?_
  refine r_aload_n (i := 2) C dL_law_774 rfl rfl (by first | rfl | exact isR_rf _) ?_
  refine r_callVs C v_L_96 Mt dL_law_775 (by assumption) (ci := 10) (by decide) rfl rfl (As := []) rfl rfl rfl (by omega) (Nat.le_of_ble_eq_true rfl) (by omega) (by omega) ?_
  refine r_iload (i := 5) C dL_law_778 rfl ?_
  refine r_ic_eq (tgt := 785) C dL_law_780 (by decide) (fun _ => ?_) (fun c => absurd rfl c)
  refine r_iload (i := 5) C dL_law_785 rfl ?_
  refine r_if_ne (tgt := 802) C dL_law_787 (by decide) (fun _ => ?_) (fun c => ?_)
  · refine r_goto (tgt := 1734) C dL_law_802 (by decide) ?_
    exact K
  · refine r_aload_n (i := 3) C dL_law_790 rfl rfl (by first | rfl | exact isR_rf _) ?_
    refine r_iconst (v := 0) C dL_law_791 (by decide) ?_
    refine r_lald (a := o) (j := 0) C dL_law_792 hko rfl hlo ?_
    rw [hw c]
    refine r_iload (i := 6) C dL_law_793 rfl ?_
    refine r_i2l C dL_law_795 ?_
    refine r_lcmp C dL_law_796 ?_
    rw [cmp_self]
    refine r_if_eq (tgt := 802) C dL_law_797 (by decide) (fun _ => ?_) (fun c => absurd rfl c)
    refine r_goto (tgt := 1734) C dL_law_802 (by decide) ?_
    exact K
theorem lc_ask {X : Ctx} (C : Cx X yL_law cL_law 7 (some .boolean) [] 20 601024 7293034) {k n i H m o : Nat} {h h1 h2 : Hp} {kk v : Int32} {v5 v6 : Value} (hi : i + 6 < gL (gOf X)) (Mw : MRw (lOf X) (gOf X) yL_ask (.codeWith yL_ask cL_ask 5 (Option.some Jvm.ClassFile.FieldType.int) [(0, 10, 13, 13), (0, 10, 17, 15)]) 13 8 200 [.ref H, .int (gX (gOf X) (i + 1)), .int (gX (gOf X) (i + 2)), .ref o] h (.inl (some (.int kk), h1))) (hkm1 : hK h1 m = 10) (Mm : MRw (lOf X) (gOf X) yX12_ask (.code yX12_ask cX12_ask 4 (Option.some Jvm.ClassFile.FieldType.int)) 7 0 0 [.ref m, .int (gX (gOf X) (i + 1)), .int (gX (gOf X) (i + 2))] h1 (.inl (some (.int v), h2))) (hkm2 : hK h2 m = 10) (Mt : MRw (lOf X) (gOf X) yX12_thrown (.code yX12_thrown cX12_thrown 1 (Option.some Jvm.ClassFile.FieldType.int)) 0 0 0 [.ref m] h2 (.inl (some (.int kk), h2)))
    (hko : hK h2 o = 102) (hlo : 0 < hL h2 o) (hw : kk = 0 → hW h2 o 0 = v.toInt64) (r1 : k + 8 ≤ 601024) (r2 : n + 200 ≤ 7293034) (K : wr X (k + 8) (n + 200) 1734 [.ref 0, .ref H, .ref m, .ref o, .int (nI i), .int kk, .int v] [] h2) : wr X k n 805 [.ref 0, .ref H, .ref m, .ref o, .int (nI i), v5, v6] [] h := by
  refine r_aload_n (i := 1) C dL_law_805 rfl rfl (by first | rfl | exact isR_rf _) ?_
  refine r_aload_n (i := 0) C dL_law_806 rfl rfl (by first | rfl | exact isR_rf _) ?_
  refine r_iload (i := 4) C dL_law_807 rfl ?_
  refine r_iconst (v := 1) C dL_law_809 (by decide) ?_
  refine r_iadd C dL_law_810 ?_
  refine r_sald (j := i + 1) C dL_law_811 (nI_plus i 1 1 rfl) (by omega) ?_
  refine r_aload_n (i := 0) C dL_law_812 rfl rfl (by first | rfl | exact isR_rf _) ?_
  refine r_iload (i := 4) C dL_law_813 rfl ?_
  refine r_iconst (v := 2) C dL_law_815 (by decide) ?_
  refine r_iadd C dL_law_816 ?_
  refine r_sald (j := i + 2) C dL_law_817 (nI_plus i 2 2 rfl) (by omega) ?_
  refine r_aload_n (i := 3) C dL_law_818 rfl rfl (by first | rfl | exact isR_rf _) ?_
  refine r_callHs C s_L_126 Mw dL_law_819 (As := [_, _, _, _]) rfl rfl rfl (by omega) (Nat.le_of_ble_eq_true rfl) (by omega) (by omega) ?_
  refine r_istore (i := 5) C dL_law_822 (Nat.le_of_ble_eq_true rfl) ?_
  refine r_aload_n (i := 2) C dL_law_824 rfl rfl (by first | rfl | exact isR_rf _) ?_
  refine r_aload_n (i := 0) C dL_law_825 rfl rfl (by first | rfl | exact isR_rf _) ?_
  refine r_iload (i := 4) C dL_law_826 rfl ?_
  refine r_iconst (v := 1) C dL_law_828 (by decide) ?_
  refine r_iadd C dL_law_829 ?_
  refine r_sald (j := i + 1) C dL_law_830 (nI_plus i 1 1 rfl) (by omega) ?_
  refine r_aload_n (i := 0) C dL_law_831 rfl rfl (by first | rfl | exact isR_rf _) ?_
  refine r_iload (i := 4) C dL_law_832 rfl ?_
  refine r_iconst (v := 2) C dL_law_834 (by decide) ?_
  refine r_iadd C dL_law_835 ?_
  refine r_sald (j := i + 2) C dL_law_836 (nI_plus i 2 2 rfl) (by omega) ?_
  refine r_callVs C v_L_128 Mm dL_law_837 (by assumption) (ci := 10) (by decide) rfl rfl (As := [_, _]) rfl rfl rfl (by omega) (Nat.le_of_ble_eq_true rfl) (by omega) (by omega) ?_
  refine r_istore (i := 6) C dL_law_840 (Nat.le_of_ble_eq_true rfl) ?_
  refine r_aload_n (i := 2) C dL_law_842 rfl rfl (by first | rfl | exact isR_rf _) ?_
  refine r_callVs C v_L_96 Mt dL_law_843 (by assumption) (ci := 10) (by decide) rfl rfl (As := []) rfl rfl rfl (by omega) (Nat.le_of_ble_eq_true rfl) (by omega) (by omega) ?_
  refine r_iload (i := 5) C dL_law_846 rfl ?_
  refine r_ic_eq (tgt := 853) C dL_law_848 (by decide) (fun _ => ?_) (fun c => absurd rfl c)
  refine r_iload (i := 5) C dL_law_853 rfl ?_
  refine r_if_ne (tgt := 870) C dL_law_855 (by decide) (fun _ => ?_) (fun c => ?_)
  · refine r_goto (tgt := 1734) C dL_law_870 (by decide) ?_
    exact K
  · refine r_aload_n (i := 3) C dL_law_858 rfl rfl (by first | rfl | exact isR_rf _) ?_
    refine r_iconst (v := 0) C dL_law_859 (by decide) ?_
    refine r_lald (a := o) (j := 0) C dL_law_860 hko rfl hlo ?_
    rw [hw c]
    refine r_iload (i := 6) C dL_law_861 rfl ?_
    refine r_i2l C dL_law_863 ?_
    refine r_lcmp C dL_law_864 ?_
    rw [cmp_self]
    refine r_if_eq (tgt := 870) C dL_law_865 (by decide) (fun _ => ?_) (fun c => absurd rfl c)
    refine r_goto (tgt := 1734) C dL_law_870 (by decide) ?_
    exact K
theorem lc_declare {X : Ctx} (C : Cx X yL_law cL_law 7 (some .boolean) [] 20 601024 7293034) {k n i H m o : Nat} {h h1 h2 : Hp} {kk v : Int32} {v5 v6 : Value} (hi : i + 6 < gL (gOf X)) (Mw : MRw (lOf X) (gOf X) yL_declare (.codeWith yL_declare cL_declare 6 (Option.some Jvm.ClassFile.FieldType.int) [(0, 12, 15, 13), (0, 12, 19, 15), (0, 12, 23, 17)]) 13 30 600 [.ref H, .int (gX (gOf X) (i + 1)), .int (gX (gOf X) (i + 2)), .int (gX (gOf X) (i + 3)), .ref o] h (.inl (some (.int kk), h1))) (hkm1 : hK h1 m = 10) (Mm : MRw (lOf X) (gOf X) yX12_declare (.code yX12_declare cX12_declare 4 (Option.some Jvm.ClassFile.FieldType.int)) 8 0 0 [.ref m, .int (gX (gOf X) (i + 1)), .int (gX (gOf X) (i + 2)), .int (gX (gOf X) (i + 3))] h1 (.inl (some (.int v), h2))) (hkm2 : hK h2 m = 10) (Mt : MRw (lOf X) (gOf X) yX12_thrown (.code yX12_thrown cX12_thrown 1 (Option.some Jvm.ClassFile.FieldType.int)) 0 0 0 [.ref m] h2 (.inl (some (.int kk), h2)))
    (hko : hK h2 o = 102) (hlo : 0 < hL h2 o) (hw : kk = 0 → hW h2 o 0 = v.toInt64) (r1 : k + 30 ≤ 601024) (r2 : n + 600 ≤ 7293034) (K : wr X (k + 30) (n + 600) 1734 [.ref 0, .ref H, .ref m, .ref o, .int (nI i), .int kk, .int v] [] h2) : wr X k n 873 [.ref 0, .ref H, .ref m, .ref o, .int (nI i), v5, v6] [] h := by
  refine r_aload_n (i := 1) C dL_law_873 rfl rfl (by first | rfl | exact isR_rf _) ?_
  refine r_aload_n (i := 0) C dL_law_874 rfl rfl (by first | rfl | exact isR_rf _) ?_
  refine r_iload (i := 4) C dL_law_875 rfl ?_
  refine r_iconst (v := 1) C dL_law_877 (by decide) ?_
  refine r_iadd C dL_law_878 ?_
  refine r_sald (j := i + 1) C dL_law_879 (nI_plus i 1 1 rfl) (by omega) ?_
  refine r_aload_n (i := 0) C dL_law_880 rfl rfl (by first | rfl | exact isR_rf _) ?_
  refine r_iload (i := 4) C dL_law_881 rfl ?_
  refine r_iconst (v := 2) C dL_law_883 (by decide) ?_
  refine r_iadd C dL_law_884 ?_
  refine r_sald (j := i + 2) C dL_law_885 (nI_plus i 2 2 rfl) (by omega) ?_
  refine r_aload_n (i := 0) C dL_law_886 rfl rfl (by first | rfl | exact isR_rf _) ?_
  refine r_iload (i := 4) C dL_law_887 rfl ?_
  refine r_iconst (v := 3) C dL_law_889 (by decide) ?_
  refine r_iadd C dL_law_890 ?_
  refine r_sald (j := i + 3) C dL_law_891 (nI_plus i 3 3 rfl) (by omega) ?_
  refine r_aload_n (i := 3) C dL_law_892 rfl rfl (by first | rfl | exact isR_rf _) ?_
  refine r_callHs C s_L_129 Mw dL_law_893 (As := [_, _, _, _, _]) rfl rfl rfl (by omega) (Nat.le_of_ble_eq_true rfl) (by omega) (by omega) ?_
  refine r_istore (i := 5) C dL_law_896 (Nat.le_of_ble_eq_true rfl) ?_
  refine r_aload_n (i := 2) C dL_law_898 rfl rfl (by first | rfl | exact isR_rf _) ?_
  refine r_aload_n (i := 0) C dL_law_899 rfl rfl (by first | rfl | exact isR_rf _) ?_
  refine r_iload (i := 4) C dL_law_900 rfl ?_
  refine r_iconst (v := 1) C dL_law_902 (by decide) ?_
  refine r_iadd C dL_law_903 ?_
  refine r_sald (j := i + 1) C dL_law_904 (nI_plus i 1 1 rfl) (by omega) ?_
  refine r_aload_n (i := 0) C dL_law_905 rfl rfl (by first | rfl | exact isR_rf _) ?_
  refine r_iload (i := 4) C dL_law_906 rfl ?_
  refine r_iconst (v := 2) C dL_law_908 (by decide) ?_
  refine r_iadd C dL_law_909 ?_
  refine r_sald (j := i + 2) C dL_law_910 (nI_plus i 2 2 rfl) (by omega) ?_
  refine r_aload_n (i := 0) C dL_law_911 rfl rfl (by first | rfl | exact isR_rf _) ?_
  refine r_iload (i := 4) C dL_law_912 rfl ?_
  refine r_iconst (v := 3) C dL_law_914 (by decide) ?_
  refine r_iadd C dL_law_915 ?_
  refine r_sald (j := i + 3) C dL_law_916 (nI_plus i 3 3 rfl) (by omega) ?_
  refine r_callVs C v_L_131 Mm dL_law_917 (by assumption) (ci := 10) (by decide) rfl rfl (As := [_, _, _]) rfl rfl rfl (by omega) (Nat.le_of_ble_eq_true rfl) (by omega) (by omega) ?_
  refine r_istore (i := 6) C dL_law_920 (Nat.le_of_ble_eq_true rfl) ?_
  refine r_aload_n (i := 2) C dL_law_922 rfl rfl (by first | rfl | exact isR_rf _) ?_
  refine r_callVs C v_L_96 Mt dL_law_923 (by assumption) (ci := 10) (by decide) rfl rfl (As := []) rfl rfl rfl (by omega) (Nat.le_of_ble_eq_true rfl) (by omega) (by omega) ?_
  refine r_iload (i := 5) C dL_law_926 rfl ?_
  refine r_ic_eq (tgt := 933) C dL_law_928 (by decide) (fun _ => ?_) (fun c => absurd rfl c)
  refine r_iload (i := 5) C dL_law_933 rfl ?_
  refine r_if_ne (tgt := 950) C dL_law_935 (by decide) (fun _ => ?_) (fun c => ?_)
  · refine r_goto (tgt := 1734) C dL_law_950 (by decide) ?_
    exact K
  · refine r_aload_n (i := 3) C dL_law_938 rfl rfl (by first | rfl | exact isR_rf _) ?_
    refine r_iconst (v := 0) C dL_law_939 (by decide) ?_
    refine r_lald (a := o) (j := 0) C dL_law_940 hko rfl hlo ?_
    rw [hw c]
    refine r_iload (i := 6) C dL_law_941 rfl ?_
    refine r_i2l C dL_law_943 ?_
    refine r_lcmp C dL_law_944 ?_
    rw [cmp_self]
    refine r_if_eq (tgt := 950) C dL_law_945 (by decide) (fun _ => ?_) (fun c => absurd rfl c)
    refine r_goto (tgt := 1734) C dL_law_950 (by decide) ?_
    exact K
theorem lc_say {X : Ctx} (C : Cx X yL_law cL_law 7 (some .boolean) [] 20 601024 7293034) {k n i H m o : Nat} {h h1 h2 : Hp} {kk v : Int32} {v5 v6 : Value} (hi : i + 6 < gL (gOf X)) (Mw : MRw (lOf X) (gOf X) yL_say (.codeWith yL_say cL_say 6 (Option.some Jvm.ClassFile.FieldType.int) [(0, 12, 15, 13), (0, 12, 19, 15), (0, 12, 23, 17)]) 13 30 600 [.ref H, .int (gX (gOf X) (i + 1)), .int (gX (gOf X) (i + 2)), .int (gX (gOf X) (i + 3)), .ref o] h (.inl (some (.int kk), h1))) (hkm1 : hK h1 m = 10) (Mm : MRw (lOf X) (gOf X) yX12_say (.code yX12_say cX12_say 4 (Option.some Jvm.ClassFile.FieldType.int)) 8 0 0 [.ref m, .int (gX (gOf X) (i + 1)), .int (gX (gOf X) (i + 2)), .int (gX (gOf X) (i + 3))] h1 (.inl (some (.int v), h2))) (hkm2 : hK h2 m = 10) (Mt : MRw (lOf X) (gOf X) yX12_thrown (.code yX12_thrown cX12_thrown 1 (Option.some Jvm.ClassFile.FieldType.int)) 0 0 0 [.ref m] h2 (.inl (some (.int kk), h2)))
    (hko : hK h2 o = 102) (hlo : 0 < hL h2 o) (hw : kk = 0 → hW h2 o 0 = v.toInt64) (r1 : k + 30 ≤ 601024) (r2 : n + 600 ≤ 7293034) (K : wr X (k + 30) (n + 600) 1734 [.ref 0, .ref H, .ref m, .ref o, .int (nI i), .int kk, .int v] [] h2) : wr X k n 953 [.ref 0, .ref H, .ref m, .ref o, .int (nI i), v5, v6] [] h := by
  refine r_aload_n (i := 1) C dL_law_953 rfl rfl (by first | rfl | exact isR_rf _) ?_
  refine r_aload_n (i := 0) C dL_law_954 rfl rfl (by first | rfl | exact isR_rf _) ?_
  refine r_iload (i := 4) C dL_law_955 rfl ?_
  refine r_iconst (v := 1) C dL_law_957 (by decide) ?_
  refine r_iadd C dL_law_958 ?_
  refine r_sald (j := i + 1) C dL_law_959 (nI_plus i 1 1 rfl) (by omega) ?_
  refine r_aload_n (i := 0) C dL_law_960 rfl rfl (by first | rfl | exact isR_rf _) ?_
  refine r_iload (i := 4) C dL_law_961 rfl ?_
  refine r_iconst (v := 2) C dL_law_963 (by decide) ?_
  refine r_iadd C dL_law_964 ?_
  refine r_sald (j := i + 2) C dL_law_965 (nI_plus i 2 2 rfl) (by omega) ?_
  refine r_aload_n (i := 0) C dL_law_966 rfl rfl (by first | rfl | exact isR_rf _) ?_
  refine r_iload (i := 4) C dL_law_967 rfl ?_
  refine r_iconst (v := 3) C dL_law_969 (by decide) ?_
  refine r_iadd C dL_law_970 ?_
  refine r_sald (j := i + 3) C dL_law_971 (nI_plus i 3 3 rfl) (by omega) ?_
  refine r_aload_n (i := 3) C dL_law_972 rfl rfl (by first | rfl | exact isR_rf _) ?_
  refine r_callHs C s_L_132 Mw dL_law_973 (As := [_, _, _, _, _]) rfl rfl rfl (by omega) (Nat.le_of_ble_eq_true rfl) (by omega) (by omega) ?_
  refine r_istore (i := 5) C dL_law_976 (Nat.le_of_ble_eq_true rfl) ?_
  refine r_aload_n (i := 2) C dL_law_978 rfl rfl (by first | rfl | exact isR_rf _) ?_
  refine r_aload_n (i := 0) C dL_law_979 rfl rfl (by first | rfl | exact isR_rf _) ?_
  refine r_iload (i := 4) C dL_law_980 rfl ?_
  refine r_iconst (v := 1) C dL_law_982 (by decide) ?_
  refine r_iadd C dL_law_983 ?_
  refine r_sald (j := i + 1) C dL_law_984 (nI_plus i 1 1 rfl) (by omega) ?_
  refine r_aload_n (i := 0) C dL_law_985 rfl rfl (by first | rfl | exact isR_rf _) ?_
  refine r_iload (i := 4) C dL_law_986 rfl ?_
  refine r_iconst (v := 2) C dL_law_988 (by decide) ?_
  refine r_iadd C dL_law_989 ?_
  refine r_sald (j := i + 2) C dL_law_990 (nI_plus i 2 2 rfl) (by omega) ?_
  refine r_aload_n (i := 0) C dL_law_991 rfl rfl (by first | rfl | exact isR_rf _) ?_
  refine r_iload (i := 4) C dL_law_992 rfl ?_
  refine r_iconst (v := 3) C dL_law_994 (by decide) ?_
  refine r_iadd C dL_law_995 ?_
  refine r_sald (j := i + 3) C dL_law_996 (nI_plus i 3 3 rfl) (by omega) ?_
  refine r_callVs C v_L_134 Mm dL_law_997 (by assumption) (ci := 10) (by decide) rfl rfl (As := [_, _, _]) rfl rfl rfl (by omega) (Nat.le_of_ble_eq_true rfl) (by omega) (by omega) ?_
  refine r_istore (i := 6) C dL_law_1000 (Nat.le_of_ble_eq_true rfl) ?_
  refine r_aload_n (i := 2) C dL_law_1002 rfl rfl (by first | rfl | exact isR_rf _) ?_
  refine r_callVs C v_L_96 Mt dL_law_1003 (by assumption) (ci := 10) (by decide) rfl rfl (As := []) rfl rfl rfl (by omega) (Nat.le_of_ble_eq_true rfl) (by omega) (by omega) ?_
  refine r_iload (i := 5) C dL_law_1006 rfl ?_
  refine r_ic_eq (tgt := 1013) C dL_law_1008 (by decide) (fun _ => ?_) (fun c => absurd rfl c)
  refine r_iload (i := 5) C dL_law_1013 rfl ?_
  refine r_if_ne (tgt := 1030) C dL_law_1015 (by decide) (fun _ => ?_) (fun c => ?_)
  · refine r_goto (tgt := 1734) C dL_law_1030 (by decide) ?_
    exact K
  · refine r_aload_n (i := 3) C dL_law_1018 rfl rfl (by first | rfl | exact isR_rf _) ?_
    refine r_iconst (v := 0) C dL_law_1019 (by decide) ?_
    refine r_lald (a := o) (j := 0) C dL_law_1020 hko rfl hlo ?_
    rw [hw c]
    refine r_iload (i := 6) C dL_law_1021 rfl ?_
    refine r_i2l C dL_law_1023 ?_
    refine r_lcmp C dL_law_1024 ?_
    rw [cmp_self]
    refine r_if_eq (tgt := 1030) C dL_law_1025 (by decide) (fun _ => ?_) (fun c => absurd rfl c)
    refine r_goto (tgt := 1734) C dL_law_1030 (by decide) ?_
    exact K
