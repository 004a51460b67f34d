/-! ===== the law: the loop of 48 changes (by genlaw2.py) ===== -/
section RGs
variable {w : Int32} {fd fw fh fa ft : Nat → Int32}
theorem RG_d {e c : Nat} (he : e < 10) (hc : c < 16) (H : RG w fd fw fh fa ft) : RG w (va_up fd e (nI c)) fw fh fa ft := by
  obtain ⟨h1, h2, h3, h4⟩ := H
  exact ⟨h1, va_n (P := fun v => ∃ c, c < 16 ∧ v = nI c) h2 ⟨c, hc, rfl⟩, va_h he h3, h4⟩
theorem RG_w {e wd : Nat} (he : e < 10) (h0 : 0 < wd) (h100 : wd < 100) (hd : ¬ 0 ∈ dg 8 wd) (H : RG w fd fw fh fa ft) : RG w fd (va_up fw e (nI wd)) fh fa ft := by
  obtain ⟨h1, h2, h3, h4, h5, h6⟩ := H
  exact ⟨h1, h2, h3, va_n (P := fun v => v = 0 ∨ ∃ wd, 0 < wd ∧ wd < 100 ∧ v = nI wd ∧ ¬ 0 ∈ dg 8 wd) h4 (Or.inr ⟨wd, h0, h100, rfl, hd⟩), va_h he h5, h6⟩
theorem RG_h {e : Nat} {c : Int32} (he : e < 10) (hc : c = 0 ∨ c = 1) (H : RG w fd fw fh fa ft) : RG w fd fw (va_up fh e c) fa ft := by
  obtain ⟨h1, h2, h3, h4, h5, h6, h7, h8⟩ := H
  exact ⟨h1, h2, h3, h4, h5, va_n (P := fun v => v = 0 ∨ v = 1) h6 hc, va_h he h7, h8⟩
theorem RG_win {c : Nat} (hc : c ≤ 2000) (H : RG w fd fw fh fa ft) : RG (nI c) fd fw fh fa ft := ⟨⟨c, hc, rfl⟩, H.2⟩
theorem RG_a {r x : Nat} (hr : r < 6) (hx : x < 80) (H : RG w fd fw fh fa ft) : RG w fd fw fh (va_up fa r (nI x - 1)) ft := by
  obtain ⟨h1, h2, h3, h4, h5, h6, h7, h8, h9, h10⟩ := H
  refine ⟨h1, h2, h3, h4, h5, h6, h7, fun i hi => ?_, va_h hr h9, h10⟩
  by_cases q : i = r
  · rw [q, va_up_self]
    exact ⟨x, hx, rfl⟩
  · rw [va_up_ne _ _ q]
    exact h8 i hi
theorem RG_t {r p t : Nat} (hr : r < 6) (hp : p < 10) (ht : t < 3000) (hc : cg ft r p ≤ 6) (H : RG w fd fw fh fa ft) : RG w fd fw fh fa (va_up ft (10 * r + p) (nI (t + 1))) := by
  obtain ⟨h1, h2, h3, h4, h5, h6, h7, h8, h9, h10, h11⟩ := H
  refine ⟨h1, h2, h3, h4, h5, h6, h7, h8, h9, va_n (P := fun v => v = 0 ∨ ∃ t, t < 3000 ∧ v = nI (t + 1)) h10 (Or.inr ⟨t, ht, rfl⟩), fun i hi => ?_⟩
  by_cases q : i = r
  · rw [q, ca_up (nI_s0 ht)]
    exact hc
  · rw [ca_ne hp q]
    exact h11 i hi
end RGs
theorem dg2 : ∀ wd, wd < 100 → 0 < wd → ¬ wd % 10 = 0 → ¬ 0 ∈ dg 8 wd ∧ (dg 8 wd).length = if 9 < wd then 2 else 1 := by decide +kernel
theorem va_id {f : Nat → Int32} {i : Nat} : va_up f i (f i) = f := funext fun j => by
  by_cases q : j = i
  · rw [q, va_up_self]
  · rw [va_up_ne _ _ q]
theorem lawC0 {X : Ctx} (C : Cx X yL_law cL_law 20 (Option.some Jvm.ClassFile.FieldType.boolean) [] 20 660499 7120272) {Ho Hq a : Nat} {kk d v k n : Nat} {b : Hp} {w : Int32} {fd fw fh fa ft : Nat → Int32} {u16 u17 u18 u19 : Value} (hv : v < 2 ^ 28) (hk : k ≤ 50000) (hn : n ≤ 200000) (K : ∀ (k' n' : Nat) (b' : Hp) (w' : Int32) (fd' fw' fh' fa' ft' : Nat → Int32) (u16 u17 u18 u19 : Value), k' ≤ k + 30 → n' ≤ n + 600 → RG w' fd' fw' fh' fa' ft' → WO (gOf X) b' Ho Hq a (10, 6, w', fd', fw', fh', fa', ft') T00 (fd', fw', fh', fa', ft') → wr X k' n' 751 [.ref 0, .ref Ho, .ref Hq, .ref a, .ref (a + 1), .ref (a + 2), .ref (a + 3), .ref (a + 4), .int w', .int 1, .int (nI kk), .int (nI d), .int (nI v), .int (nI (d % 10)), .int (nI (v % 10)), .int (nI (v % 6)), u16, u17, u18, u19] [] b') (hR : RG w fd fw fh fa ft) (W : WO (gOf X) b Ho Hq a (10, 6, w, fd, fw, fh, fa, ft) T00 (fd, fw, fh, fa, ft)) : wr X k n 316 [.ref 0, .ref Ho, .ref Hq, .ref a, .ref (a + 1), .ref (a + 2), .ref (a + 3), .ref (a + 4), .int w, .int 1, .int (nI kk), .int (nI d), .int (nI v), .int (nI (d % 10)), .int (nI (v % 10)), .int (nI (v % 6)), u16, u17, u18, u19] [] b := by
  refine r_aload_n (i := 1) C dL_law_316 rfl rfl (by first | rfl | exact isR_rf _) ?_
  refine r_iconst (v := 2) C dL_law_317 (by decide) ?_
  refine r_iload (i := 14) C dL_law_318 rfl ?_
  refine r_iload (i := 12) C dL_law_320 rfl ?_
  refine r_bipush (v := nI 10) C dL_law_322 (by decide) ?_
  refine r_divN C dL_law_324 (by omega) (by omega) (by omega) ?_
  refine r_bipush (v := nI 16) C dL_law_325 (by decide) ?_
  refine r_remN C dL_law_327 (by omega) (by omega) (by omega) ?_
  refine r_iconst (v := 0) C dL_law_328 (by decide) ?_
  refine r_iconst (v := 0) C dL_law_329 (by decide) ?_
  refine r_iconst (v := 0) C dL_law_330 (by decide) ?_
  obtain ⟨b', M, W'⟩ := wo_o W (fun P gb h => st_dress (l := lOf X) (e := v % 10) (c := v / 10 % 16) gb h (by decide) (by omega) (by omega))
  refine r_callHs C s_L_87 M dL_law_331 (As := [_, _, _, _, _, _, _]) rfl rfl rfl (Nat.le_of_ble_eq_true rfl) (Nat.le_of_ble_eq_true rfl) (kc9 ?_) (ks9 ?_) ?_
  · omega
  · omega
  obtain ⟨⟨k0, l0, d0⟩, ⟨k1, l1, d1⟩, ⟨k2, l2, d2⟩, ⟨k3, l3, d3⟩, k4, l4, d4⟩ := wo_ar W'
  have d0 : hA b' a = fd := d0
  have d1 : hA b' (a + 1) = fw := d1
  have d2 : hA b' (a + 2) = fh := d2
  have d3 : hA b' (a + 3) = fa := d3
  have d4 : hA b' (a + 4) = ft := d4
  refine r_aload_n (i := 3) C dL_law_334 rfl rfl (by first | rfl | exact isR_rf _) ?_
  refine r_iload (i := 14) C dL_law_335 rfl ?_
  refine r_iald (j := v % 10) C dL_law_337 k0 rfl (by rw [l0]; omega) ?_
  rw [d0]
  refine r_ic_ne (tgt := 345) C dL_law_338 (by decide) (fun c => ?_) (fun c => ?_)
  · exact absurd rfl c
  refine r_iconst (v := 1) C dL_law_341 (by decide) ?_
  refine r_goto (tgt := 346) C dL_law_342 (by decide) ?_
  refine r_istore (i := 9) C dL_law_346 (Nat.le_of_ble_eq_true rfl) ?_
  refine r_aload_n (i := 3) C dL_law_348 rfl rfl (by first | rfl | exact isR_rf _) ?_
  refine r_iload (i := 14) C dL_law_349 rfl ?_
  refine r_iload (i := 12) C dL_law_351 rfl ?_
  refine r_bipush (v := nI 10) C dL_law_353 (by decide) ?_
  refine r_divN C dL_law_355 (by omega) (by omega) (by omega) ?_
  refine r_bipush (v := nI 16) C dL_law_356 (by decide) ?_
  refine r_remN C dL_law_358 (by omega) (by omega) (by omega) ?_
  refine r_iast (j := v % 10) C dL_law_359 k0 rfl (by rw [l0]; omega) ?_
  refine r_goto (tgt := 751) C dL_law_360 (by decide) ?_
  exact K _ _ _ w (va_up fd (v % 10) (nI (v / 10 % 16))) fw fh fa ft _ _ _ _ (by omega) (by omega) (RG_d (by omega) (by omega) hR) (wo_A (i := 0) (j := v % 10) (v := nI (v / 10 % 16)) (by decide) W')
theorem lawC1 {X : Ctx} (C : Cx X yL_law cL_law 20 (Option.some Jvm.ClassFile.FieldType.boolean) [] 20 660499 7120272) {Ho Hq a : Nat} {kk d v k n : Nat} {b : Hp} {w : Int32} {fd fw fh fa ft : Nat → Int32} {u16 u17 u18 u19 : Value} (hv : v < 2 ^ 28) (hk : k ≤ 50000) (hn : n ≤ 200000) (K : ∀ (k' n' : Nat) (b' : Hp) (w' : Int32) (fd' fw' fh' fa' ft' : Nat → Int32) (u16 u17 u18 u19 : Value), k' ≤ k + 30 → n' ≤ n + 600 → RG w' fd' fw' fh' fa' ft' → WO (gOf X) b' Ho Hq a (10, 6, w', fd', fw', fh', fa', ft') T00 (fd', fw', fh', fa', ft') → wr X k' n' 751 [.ref 0, .ref Ho, .ref Hq, .ref a, .ref (a + 1), .ref (a + 2), .ref (a + 3), .ref (a + 4), .int w', .int 1, .int (nI kk), .int (nI d), .int (nI v), .int (nI (d % 10)), .int (nI (v % 10)), .int (nI (v % 6)), u16, u17, u18, u19] [] b') (hR : RG w fd fw fh fa ft) (W : WO (gOf X) b Ho Hq a (10, 6, w, fd, fw, fh, fa, ft) T00 (fd, fw, fh, fa, ft)) : wr X k n 369 [.ref 0, .ref Ho, .ref Hq, .ref a, .ref (a + 1), .ref (a + 2), .ref (a + 3), .ref (a + 4), .int w, .int 1, .int (nI kk), .int (nI d), .int (nI v), .int (nI (d % 10)), .int (nI (v % 10)), .int (nI (v % 6)), u16, u17, u18, u19] [] b := by
  have J : ∀ y : Nat, (y = 0 ∨ ∃ z, z < 9 ∧ y = 10 * (1 + z)) → wr X k n 411 [.ref 0, .ref Ho, .ref Hq, .ref a, .ref (a + 1), .ref (a + 2), .ref (a + 3), .ref (a + 4), .int w, .int 1, .int (nI kk), .int (nI d), .int (nI v), .int (nI (d % 10)), .int (nI (v % 10)), .int (nI (v % 6)), u16, u17, u18, u19] [.int (nI y), .int (nI (1 + v / 10 % 9)), .int (nI (v % 10)), .ref (a + 1)] b := fun y hy => by
    obtain ⟨wd, ewd⟩ : ∃ wd, wd = 1 + v / 10 % 9 + y := ⟨_, rfl⟩
    have w1 : 0 < wd ∧ wd < 100 ∧ ¬ wd % 10 = 0 := by
      rcases hy with z | ⟨z, hz, ez⟩ <;> omega
    obtain ⟨g1, g2⟩ := dg2 wd w1.2.1 w1.1 w1.2.2
    refine r_addN C dL_law_411 ?_
    rw [← ewd]
    obtain ⟨⟨k0, l0, d0⟩, ⟨k1, l1, d1⟩, ⟨k2, l2, d2⟩, ⟨k3, l3, d3⟩, k4, l4, d4⟩ := wo_ar W
    have d0 : hA b a = fd := d0
    have d1 : hA b (a + 1) = fw := d1
    have d2 : hA b (a + 2) = fh := d2
    have d3 : hA b (a + 3) = fa := d3
    have d4 : hA b (a + 4) = ft := d4
    refine r_iast (j := v % 10) C dL_law_412 k1 rfl (by rw [l1]; omega) ?_
    have W1 := wo_A (i := 1) (j := v % 10) (v := nI wd) (by decide) W
    obtain ⟨b1, e1⟩ : ∃ z, z = sA b (a + 1) (v % 10) (nI wd) := ⟨_, rfl⟩
    rw [← e1] at W1 ⊢
    have W1 : WO (gOf X) b1 Ho Hq a (10, 6, w, fd, fw, fh, fa, ft) T00 (fd, va_up fw (v % 10) (nI wd), fh, fa, ft) := W1
    obtain ⟨⟨k0, l0, d0⟩, ⟨k1, l1, d1⟩, ⟨k2, l2, d2⟩, ⟨k3, l3, d3⟩, k4, l4, d4⟩ := wo_ar W1
    have d1 : hA b1 (a + 1) = va_up fw (v % 10) (nI wd) := d1
    refine r_aload_n (i := 1) C dL_law_413 rfl rfl (by first | rfl | exact isR_rf _) ?_
    refine r_iconst (v := 3) C dL_law_414 (by decide) ?_
    refine r_iload (i := 14) C dL_law_415 rfl ?_
    refine r_aload (i := 4) C dL_law_417 rfl (by first | rfl | exact isR_rf _) ?_
    refine r_iload (i := 14) C dL_law_419 rfl ?_
    refine r_iald (j := v % 10) C dL_law_421 k1 rfl (by rw [l1]; omega) ?_
    rw [d1, va_up_self]
    refine r_iconst (v := 0) C dL_law_422 (by decide) ?_
    refine r_iconst (v := 0) C dL_law_423 (by decide) ?_
    refine r_iconst (v := 0) C dL_law_424 (by decide) ?_
    obtain ⟨b', M, W'⟩ := wo_o W1 (fun P gb h => st_text (l := lOf X) (e := v % 10) (wd := wd) gb h (by decide) (by omega) w1.2.1 g1)
    refine r_callHs C s_L_87 M dL_law_425 (As := [_, _, _, _, _, _, _]) rfl rfl rfl (Nat.le_of_ble_eq_true rfl) (Nat.le_of_ble_eq_true rfl) (kc9 ?_) (ks9 ?_) ?_
    · omega
    · omega
    obtain ⟨⟨k0, l0, d0⟩, ⟨k1, l1, d1⟩, ⟨k2, l2, d2⟩, ⟨k3, l3, d3⟩, k4, l4, d4⟩ := wo_ar W'
    have d1 : hA b' (a + 1) = va_up fw (v % 10) (nI wd) := d1
    refine r_aload (i := 4) C dL_law_428 rfl (by first | rfl | exact isR_rf _) ?_
    refine r_iload (i := 14) C dL_law_430 rfl ?_
    refine r_iald (j := v % 10) C dL_law_432 k1 rfl (by rw [l1]; omega) ?_
    rw [d1, va_up_self]
    refine r_bipush (v := nI 9) C dL_law_433 (by decide) ?_
    have fin : ∀ x : Int32, x = nI (dg 8 wd).length → wr X (k + 8) (n + 200) 443 [.ref 0, .ref Ho, .ref Hq, .ref a, .ref (a + 1), .ref (a + 2), .ref (a + 3), .ref (a + 4), .int w, .int 1, .int (nI kk), .int (nI d), .int (nI v), .int (nI (d % 10)), .int (nI (v % 10)), .int (nI (v % 6)), u16, u17, u18, u19] [.int x, .int (nI (dg 8 wd).length)] b' := fun x hx => by
      refine r_ic_ne (tgt := 450) C dL_law_443 (by decide) (fun c => ?_) (fun c => ?_)
      · exact absurd hx.symm c
      refine r_iconst (v := 1) C dL_law_446 (by decide) ?_
      refine r_goto (tgt := 451) C dL_law_447 (by decide) ?_
      refine r_istore (i := 9) C dL_law_451 (Nat.le_of_ble_eq_true rfl) ?_
      refine r_goto (tgt := 751) C dL_law_453 (by decide) ?_
      exact K _ _ _ w fd (va_up fw (v % 10) (nI wd)) fh fa ft _ _ _ _ (by omega) (by omega) (RG_w (by omega) w1.1 w1.2.1 g1 hR) W'
    refine r_ic_le (tgt := 442) C dL_law_435 (by decide) (fun c => ?_) (fun c => ?_)
    · have c : wd ≤ 9 := (nI_leI (by omega) (by decide)).mp c
      rw [if_neg (by omega)] at g2
      refine r_iconst (v := 1) C dL_law_442 (by decide) ?_
      exact fin _ (by rw [g2]; rfl)
    · have c : 9 < wd := Nat.lt_of_not_le fun z => c (nI_le (b := 9) z (by decide))
      rw [if_pos c] at g2
      refine r_iconst (v := 2) C dL_law_438 (by decide) ?_
      refine r_goto (tgt := 443) C dL_law_439 (by decide) ?_
      exact fin _ (by rw [g2]; rfl)
  refine r_aload (i := 4) C dL_law_369 rfl (by first | rfl | exact isR_rf _) ?_
  refine r_iload (i := 14) C dL_law_371 rfl ?_
  refine r_iconst (v := nI 1) C dL_law_373 (by decide) ?_
  refine r_iload (i := 12) C dL_law_374 rfl ?_
  refine r_bipush (v := nI 10) C dL_law_376 (by decide) ?_
  refine r_divN C dL_law_378 (by omega) (by omega) (by omega) ?_
  refine r_bipush (v := nI 9) C dL_law_379 (by decide) ?_
  refine r_remN C dL_law_381 (by omega) (by omega) (by omega) ?_
  refine r_addN C dL_law_382 ?_
  refine r_iload (i := 12) C dL_law_383 rfl ?_
  refine r_bipush (v := nI 90) C dL_law_385 (by decide) ?_
  refine r_divN C dL_law_387 (by omega) (by omega) (by omega) ?_
  refine r_iconst (v := nI 2) C dL_law_388 (by decide) ?_
  refine r_remN C dL_law_389 (by omega) (by omega) (by omega) ?_
  refine r_if_ne (tgt := 397) C dL_law_390 (by decide) (fun c => ?_) (fun c => ?_)
  · refine r_bipush (v := nI 10) C dL_law_397 (by decide) ?_
    refine r_iconst (v := nI 1) C dL_law_399 (by decide) ?_
    refine r_iload (i := 12) C dL_law_400 rfl ?_
    refine r_sipush (v := nI 180) C dL_law_402 (by decide) ?_
    refine r_divN C dL_law_405 (by omega) (by omega) (by omega) ?_
    refine r_bipush (v := nI 9) C dL_law_406 (by decide) ?_
    refine r_remN C dL_law_408 (by omega) (by omega) (by omega) ?_
    refine r_addN C dL_law_409 ?_
    refine r_mulN C dL_law_410 ?_
    exact J _ (Or.inr ⟨v / 180 % 9, by omega, rfl⟩)
  · refine r_iconst (v := nI 0) C dL_law_393 (by decide) ?_
    refine r_goto (tgt := 411) C dL_law_394 (by decide) ?_
    exact J 0 (Or.inl rfl)
theorem lawC2 {X : Ctx} (C : Cx X yL_law cL_law 20 (Option.some Jvm.ClassFile.FieldType.boolean) [] 20 660499 7120272) {Ho Hq a : Nat} {kk d v k n : Nat} {b : Hp} {w : Int32} {fd fw fh fa ft : Nat → Int32} {u16 u17 u18 u19 : Value} (hv : v < 2 ^ 28) (hk : k ≤ 50000) (hn : n ≤ 200000) (K : ∀ (k' n' : Nat) (b' : Hp) (w' : Int32) (fd' fw' fh' fa' ft' : Nat → Int32) (u16 u17 u18 u19 : Value), k' ≤ k + 30 → n' ≤ n + 600 → RG w' fd' fw' fh' fa' ft' → WO (gOf X) b' Ho Hq a (10, 6, w', fd', fw', fh', fa', ft') T00 (fd', fw', fh', fa', ft') → wr X k' n' 751 [.ref 0, .ref Ho, .ref Hq, .ref a, .ref (a + 1), .ref (a + 2), .ref (a + 3), .ref (a + 4), .int w', .int 1, .int (nI kk), .int (nI d), .int (nI v), .int (nI (d % 10)), .int (nI (v % 10)), .int (nI (v % 6)), u16, u17, u18, u19] [] b') (hR : RG w fd fw fh fa ft) (W : WO (gOf X) b Ho Hq a (10, 6, w, fd, fw, fh, fa, ft) T00 (fd, fw, fh, fa, ft)) : wr X k n 462 [.ref 0, .ref Ho, .ref Hq, .ref a, .ref (a + 1), .ref (a + 2), .ref (a + 3), .ref (a + 4), .int w, .int 1, .int (nI kk), .int (nI d), .int (nI v), .int (nI (d % 10)), .int (nI (v % 10)), .int (nI (v % 6)), u16, u17, u18, u19] [] b := by
  have hc : nI (v / 10 % 2) = 0 ∨ nI (v / 10 % 2) = 1 := by
    have : v / 10 % 2 = 0 ∨ v / 10 % 2 = 1 := by omega
    rcases this with z | z <;> rw [z]
    · exact Or.inl rfl
    · exact Or.inr rfl
  refine r_aload_n (i := 1) C dL_law_462 rfl rfl (by first | rfl | exact isR_rf _) ?_
  refine r_iconst (v := 0) C dL_law_463 (by decide) ?_
  refine r_iload (i := 14) C dL_law_464 rfl ?_
  refine r_iload (i := 12) C dL_law_466 rfl ?_
  refine r_bipush (v := nI 10) C dL_law_468 (by decide) ?_
  refine r_divN C dL_law_470 (by omega) (by omega) (by omega) ?_
  refine r_iconst (v := nI 2) C dL_law_471 (by decide) ?_
  refine r_remN C dL_law_472 (by omega) (by omega) (by omega) ?_
  obtain ⟨b', M, W'⟩ := wo_o W (fun P gb h => st_is (l := lOf X) (e := v % 10) (c := nI (v / 10 % 2)) gb h (by decide) (by omega) hc (hR.2.2.2.2.2.1 _))
  refine r_callHs C s_L_101 M dL_law_473 (As := [_, _, _, _]) rfl rfl rfl (Nat.le_of_ble_eq_true rfl) (Nat.le_of_ble_eq_true rfl) (kc9 ?_) (ks9 ?_) ?_
  · omega
  · omega
  obtain ⟨⟨k0, l0, d0⟩, ⟨k1, l1, d1⟩, ⟨k2, l2, d2⟩, ⟨k3, l3, d3⟩, k4, l4, d4⟩ := wo_ar W'
  have d0 : hA b' a = fd := d0
  have d1 : hA b' (a + 1) = fw := d1
  have d2 : hA b' (a + 2) = fh := d2
  have d3 : hA b' (a + 3) = fa := d3
  have d4 : hA b' (a + 4) = ft := d4
  refine r_aload (i := 5) C dL_law_476 rfl (by first | rfl | exact isR_rf _) ?_
  refine r_iload (i := 14) C dL_law_478 rfl ?_
  refine r_iald (j := v % 10) C dL_law_480 k2 rfl (by rw [l2]; omega) ?_
  rw [d2]
  refine r_ic_ne (tgt := 488) C dL_law_481 (by decide) (fun c => ?_) (fun c => ?_)
  · exact absurd rfl c
  refine r_iconst (v := 1) C dL_law_484 (by decide) ?_
  refine r_goto (tgt := 489) C dL_law_485 (by decide) ?_
  refine r_istore (i := 9) C dL_law_489 (Nat.le_of_ble_eq_true rfl) ?_
  refine r_aload (i := 5) C dL_law_491 rfl (by first | rfl | exact isR_rf _) ?_
  refine r_iload (i := 14) C dL_law_493 rfl ?_
  refine r_iload (i := 12) C dL_law_495 rfl ?_
  refine r_bipush (v := nI 10) C dL_law_497 (by decide) ?_
  refine r_divN C dL_law_499 (by omega) (by omega) (by omega) ?_
  refine r_iconst (v := nI 2) C dL_law_500 (by decide) ?_
  refine r_remN C dL_law_501 (by omega) (by omega) (by omega) ?_
  refine r_iast (j := v % 10) C dL_law_502 k2 rfl (by rw [l2]; omega) ?_
  refine r_goto (tgt := 751) C dL_law_503 (by decide) ?_
  exact K _ _ _ w fd fw (va_up fh (v % 10) (nI (v / 10 % 2))) fa ft _ _ _ _ (by omega) (by omega) (RG_h (by omega) hc hR) (wo_A (i := 2) (j := v % 10) (v := nI (v / 10 % 2)) (by decide) W')
theorem lawC3 {X : Ctx} (C : Cx X yL_law cL_law 20 (Option.some Jvm.ClassFile.FieldType.boolean) [] 20 660499 7120272) {Ho Hq a : Nat} {kk d v k n : Nat} {b : Hp} {w : Int32} {fd fw fh fa ft : Nat → Int32} {u16 u17 u18 u19 : Value} (hv : v < 2 ^ 28) (hk : k ≤ 50000) (hn : n ≤ 200000) (K : ∀ (k' n' : Nat) (b' : Hp) (w' : Int32) (fd' fw' fh' fa' ft' : Nat → Int32) (u16 u17 u18 u19 : Value), k' ≤ k + 30 → n' ≤ n + 600 → RG w' fd' fw' fh' fa' ft' → WO (gOf X) b' Ho Hq a (10, 6, w', fd', fw', fh', fa', ft') T00 (fd', fw', fh', fa', ft') → wr X k' n' 751 [.ref 0, .ref Ho, .ref Hq, .ref a, .ref (a + 1), .ref (a + 2), .ref (a + 3), .ref (a + 4), .int w', .int 1, .int (nI kk), .int (nI d), .int (nI v), .int (nI (d % 10)), .int (nI (v % 10)), .int (nI (v % 6)), u16, u17, u18, u19] [] b') (hR : RG w fd fw fh fa ft) (W : WO (gOf X) b Ho Hq a (10, 6, w, fd, fw, fh, fa, ft) T00 (fd, fw, fh, fa, ft)) : wr X k n 512 [.ref 0, .ref Ho, .ref Hq, .ref a, .ref (a + 1), .ref (a + 2), .ref (a + 3), .ref (a + 4), .int w, .int 1, .int (nI kk), .int (nI d), .int (nI v), .int (nI (d % 10)), .int (nI (v % 10)), .int (nI (v % 6)), u16, u17, u18, u19] [] b := by
  refine r_aload_n (i := 1) C dL_law_512 rfl rfl (by first | rfl | exact isR_rf _) ?_
  refine r_iconst (v := 4) C dL_law_513 (by decide) ?_
  refine r_iload (i := 12) C dL_law_514 rfl ?_
  refine r_sipush (v := nI 150) C dL_law_516 (by decide) ?_
  refine r_remN C dL_law_519 (by omega) (by omega) (by omega) ?_
  refine r_iconst (v := 0) C dL_law_520 (by decide) ?_
  refine r_iconst (v := 0) C dL_law_521 (by decide) ?_
  refine r_iconst (v := 0) C dL_law_522 (by decide) ?_
  refine r_iconst (v := 0) C dL_law_523 (by decide) ?_
  obtain ⟨b', M, W'⟩ := wo_o W (fun P gb h => st_window (l := lOf X) (c := v % 150) gb h (by omega))
  refine r_callHs C s_L_87 M dL_law_524 (As := [_, _, _, _, _, _, _]) rfl rfl rfl (Nat.le_of_ble_eq_true rfl) (Nat.le_of_ble_eq_true rfl) (kc9 ?_) (ks9 ?_) ?_
  · omega
  · omega
  refine r_iload (i := 8) C dL_law_527 rfl ?_
  refine r_ic_ne (tgt := 536) C dL_law_529 (by decide) (fun c => ?_) (fun c => ?_)
  · exact absurd rfl c
  refine r_iconst (v := 1) C dL_law_532 (by decide) ?_
  refine r_goto (tgt := 537) C dL_law_533 (by decide) ?_
  refine r_istore (i := 9) C dL_law_537 (Nat.le_of_ble_eq_true rfl) ?_
  refine r_iload (i := 12) C dL_law_539 rfl ?_
  refine r_sipush (v := nI 150) C dL_law_541 (by decide) ?_
  refine r_remN C dL_law_544 (by omega) (by omega) (by omega) ?_
  refine r_istore (i := 8) C dL_law_545 (Nat.le_of_ble_eq_true rfl) ?_
  refine r_goto (tgt := 751) C dL_law_547 (by decide) ?_
  exact K _ _ _ (nI (v % 150)) fd fw fh fa ft _ _ _ _ (by omega) (by omega) (RG_win (by omega) hR) W'
theorem lawC4 {X : Ctx} (C : Cx X yL_law cL_law 20 (Option.some Jvm.ClassFile.FieldType.boolean) [] 20 660499 7120272) {Ho Hq a : Nat} {kk d v k n : Nat} {b : Hp} {w : Int32} {fd fw fh fa ft : Nat → Int32} {u16 u17 u18 u19 : Value} (hv : v < 2 ^ 28) (hk : k ≤ 50000) (hn : n ≤ 200000) (K : ∀ (k' n' : Nat) (b' : Hp) (w' : Int32) (fd' fw' fh' fa' ft' : Nat → Int32) (u16 u17 u18 u19 : Value), k' ≤ k + 30 → n' ≤ n + 600 → RG w' fd' fw' fh' fa' ft' → WO (gOf X) b' Ho Hq a (10, 6, w', fd', fw', fh', fa', ft') T00 (fd', fw', fh', fa', ft') → wr X k' n' 751 [.ref 0, .ref Ho, .ref Hq, .ref a, .ref (a + 1), .ref (a + 2), .ref (a + 3), .ref (a + 4), .int w', .int 1, .int (nI kk), .int (nI d), .int (nI v), .int (nI (d % 10)), .int (nI (v % 10)), .int (nI (v % 6)), u16, u17, u18, u19] [] b') (hR : RG w fd fw fh fa ft) (W : WO (gOf X) b Ho Hq a (10, 6, w, fd, fw, fh, fa, ft) T00 (fd, fw, fh, fa, ft)) : wr X k n 556 [.ref 0, .ref Ho, .ref Hq, .ref a, .ref (a + 1), .ref (a + 2), .ref (a + 3), .ref (a + 4), .int w, .int 1, .int (nI kk), .int (nI d), .int (nI v), .int (nI (d % 10)), .int (nI (v % 10)), .int (nI (v % 6)), u16, u17, u18, u19] [] b := by
  refine r_aload_n (i := 1) C dL_law_556 rfl rfl (by first | rfl | exact isR_rf _) ?_
  refine r_bipush (v := 6) C dL_law_557 (by decide) ?_
  refine r_iload (i := 15) C dL_law_559 rfl ?_
  refine r_iload (i := 12) C dL_law_561 rfl ?_
  refine r_bipush (v := nI 6) C dL_law_563 (by decide) ?_
  refine r_divN C dL_law_565 (by omega) (by omega) (by omega) ?_
  refine r_bipush (v := nI 80) C dL_law_566 (by decide) ?_
  refine r_remN C dL_law_568 (by omega) (by omega) (by omega) ?_
  refine r_iconst (v := 1) C dL_law_569 (by decide) ?_
  refine r_isub C dL_law_570 ?_
  refine r_iconst (v := 0) C dL_law_571 (by decide) ?_
  refine r_iconst (v := 0) C dL_law_572 (by decide) ?_
  refine r_iconst (v := 0) C dL_law_573 (by decide) ?_
  obtain ⟨b', M, W'⟩ := wo_o W (fun P gb h => st_ask (l := lOf X) (r := v % 6) (x := v / 6 % 80) gb h (by omega) (by omega))
  refine r_callHs C s_L_87 M dL_law_574 (As := [_, _, _, _, _, _, _]) rfl rfl rfl (Nat.le_of_ble_eq_true rfl) (Nat.le_of_ble_eq_true rfl) (kc9 ?_) (ks9 ?_) ?_
  · omega
  · omega
  obtain ⟨⟨k0, l0, d0⟩, ⟨k1, l1, d1⟩, ⟨k2, l2, d2⟩, ⟨k3, l3, d3⟩, k4, l4, d4⟩ := wo_ar W'
  have d0 : hA b' a = fd := d0
  have d1 : hA b' (a + 1) = fw := d1
  have d2 : hA b' (a + 2) = fh := d2
  have d3 : hA b' (a + 3) = fa := d3
  have d4 : hA b' (a + 4) = ft := d4
  refine r_aload (i := 6) C dL_law_577 rfl (by first | rfl | exact isR_rf _) ?_
  refine r_iload (i := 15) C dL_law_579 rfl ?_
  refine r_iald (j := v % 6) C dL_law_581 k3 rfl (by rw [l3]; omega) ?_
  rw [d3]
  refine r_ic_ne (tgt := 589) C dL_law_582 (by decide) (fun c => ?_) (fun c => ?_)
  · exact absurd rfl c
  refine r_iconst (v := 1) C dL_law_585 (by decide) ?_
  refine r_goto (tgt := 590) C dL_law_586 (by decide) ?_
  refine r_istore (i := 9) C dL_law_590 (Nat.le_of_ble_eq_true rfl) ?_
  refine r_aload (i := 6) C dL_law_592 rfl (by first | rfl | exact isR_rf _) ?_
  refine r_iload (i := 15) C dL_law_594 rfl ?_
  refine r_iload (i := 12) C dL_law_596 rfl ?_
  refine r_bipush (v := nI 6) C dL_law_598 (by decide) ?_
  refine r_divN C dL_law_600 (by omega) (by omega) (by omega) ?_
  refine r_bipush (v := nI 80) C dL_law_601 (by decide) ?_
  refine r_remN C dL_law_603 (by omega) (by omega) (by omega) ?_
  refine r_iconst (v := 1) C dL_law_604 (by decide) ?_
  refine r_isub C dL_law_605 ?_
  refine r_iast (j := v % 6) C dL_law_606 k3 rfl (by rw [l3]; omega) ?_
  refine r_goto (tgt := 751) C dL_law_607 (by decide) ?_
  exact K _ _ _ w fd fw fh (va_up fa (v % 6) (nI (v / 6 % 80) - 1)) ft _ _ _ _ (by omega) (by omega) (RG_a (by omega) (by omega) hR) (wo_A (i := 3) (j := v % 6) (v := nI (v / 6 % 80) - 1) (by decide) W')
theorem lawC5l {X : Ctx} (C : Cx X yL_law cL_law 20 (Option.some Jvm.ClassFile.FieldType.boolean) [] 20 660499 7120272) {Ho Hq a : Nat} {kk d v k n : Nat} {b : Hp} {w : Int32} {ft : Nat → Int32} (hv : v < 2 ^ 28) (k4 : hK b (a + 4) = 100) (l4 : hL b (a + 4) = 60) (d4 : hA b (a + 4) = ft) (K : wr X k n 681 [.ref 0, .ref Ho, .ref Hq, .ref a, .ref (a + 1), .ref (a + 2), .ref (a + 3), .ref (a + 4), .int w, .int 1, .int (nI kk), .int (nI d), .int (nI v), .int (nI (d % 10)), .int (nI (v % 10)), .int (nI (v % 6)), .int (nI (v / 6 % 10)), .int (nI (v / 60 % 3000)), .int (nI (cn (Qp ft (v % 6) (v / 6 % 10)) 10)), .int (nI 10)] [] b) : ∀ m j : Nat, j + m = 10 → wr X k n 637 [.ref 0, .ref Ho, .ref Hq, .ref a, .ref (a + 1), .ref (a + 2), .ref (a + 3), .ref (a + 4), .int w, .int 1, .int (nI kk), .int (nI d), .int (nI v), .int (nI (d % 10)), .int (nI (v % 10)), .int (nI (v % 6)), .int (nI (v / 6 % 10)), .int (nI (v / 60 % 3000)), .int (nI (cn (Qp ft (v % 6) (v / 6 % 10)) j)), .int (nI j)] [] b := by
  intro m
  induction m with
  | zero =>
    intro j hm
    have : j = 10 := by omega
    subst this
    refine r_iload (i := 19) C dL_law_637 rfl ?_
    refine r_bipush (v := nI 10) C dL_law_639 (by decide) ?_
    refine r_ic_ge (tgt := 681) C dL_law_641 (by decide) (fun c => ?_) (fun c => ?_)
    rotate_left
    · exact absurd (nI_le (Nat.le_refl 10) (by decide)) c
    exact K
  | succ m ih =>
    intro j hm
    have c10 : j < 10 := by omega
    have r6 : v % 6 < 6 := by omega
    have qk := cg_10 (g := ft) (r := v % 6) (p := v / 6 % 10) (k := j)
    refine r_iload (i := 19) C dL_law_637 rfl ?_
    refine r_bipush (v := nI 10) C dL_law_639 (by decide) ?_
    refine r_ic_ge (tgt := 681) C dL_law_641 (by decide) (fun c => ?_) (fun c => ?_)
    · exact absurd c (nle9 c10)
    have J : ∀ x : Nat, x = (if Qp ft (v % 6) (v / 6 % 10) j = true then 1 else 0) → wr X k n 672 [.ref 0, .ref Ho, .ref Hq, .ref a, .ref (a + 1), .ref (a + 2), .ref (a + 3), .ref (a + 4), .int w, .int 1, .int (nI kk), .int (nI d), .int (nI v), .int (nI (d % 10)), .int (nI (v % 10)), .int (nI (v % 6)), .int (nI (v / 6 % 10)), .int (nI (v / 60 % 3000)), .int (nI (cn (Qp ft (v % 6) (v / 6 % 10)) j)), .int (nI j)] [.int (nI x), .int (nI (cn (Qp ft (v % 6) (v / 6 % 10)) j))] b := fun x hx => by
      refine r_addN C dL_law_672 ?_
      refine r_istore (i := 18) C dL_law_673 (Nat.le_of_ble_eq_true rfl) ?_
      refine r_iinc1 (i := 19) C dL_law_675 rfl ?_
      rw [nI_1, hx, ← cn_s]
      refine r_goto (tgt := 637) C dL_law_678 (by decide) ?_
      exact ih (j + 1) (by omega)
    refine r_iload (i := 18) C dL_law_644 rfl ?_
    refine r_aload (i := 7) C dL_law_646 rfl (by first | rfl | exact isR_rf _) ?_
    refine r_bipush (v := nI 10) C dL_law_648 (by decide) ?_
    refine r_iload (i := 15) C dL_law_650 rfl ?_
    refine r_mulN C dL_law_652 ?_
    refine r_iload (i := 19) C dL_law_653 rfl ?_
    refine r_addN C dL_law_655 ?_
    refine r_iald (j := 10 * (v % 6) + j) C dL_law_656 k4 rfl (by rw [l4]; omega) ?_
    rw [d4]
    refine r_if_ne (tgt := 671) C dL_law_657 (by decide) (fun c => ?_) (fun c => ?_)
    · refine r_iconst (v := nI 1) C dL_law_671 (by decide) ?_
      exact J 1 (by
        unfold Qp
        rw [decide_eq_false c, Bool.not_false, Bool.or_true, if_pos rfl])
    · refine r_iload (i := 19) C dL_law_660 rfl ?_
      refine r_iload (i := 16) C dL_law_662 rfl ?_
      refine r_ic_eq (tgt := 671) C dL_law_664 (by decide) (fun c2 => ?_) (fun c2 => ?_)
      · refine r_iconst (v := nI 1) C dL_law_671 (by decide) ?_
        have c2 : j = v / 6 % 10 := (nI_eq (by omega) (by omega)).mp c2
        exact J 1 (by
          unfold Qp
          rw [decide_eq_true c2, Bool.true_or, if_pos rfl])
      · have c2 : ¬ j = v / 6 % 10 := fun z => c2 (by rw [← z])
        refine r_iconst (v := nI 0) C dL_law_667 (by decide) ?_
        refine r_goto (tgt := 672) C dL_law_668 (by decide) ?_
        exact J 0 (by
          unfold Qp
          rw [decide_eq_false c2, decide_eq_true c, Bool.not_true, Bool.or_false, if_neg (fun z => Bool.noConfusion z)])
theorem lawC5 {X : Ctx} (C : Cx X yL_law cL_law 20 (Option.some Jvm.ClassFile.FieldType.boolean) [] 20 660499 7120272) {Ho Hq a : Nat} {kk d v k n : Nat} {b : Hp} {w : Int32} {fd fw fh fa ft : Nat → Int32} {u16 u17 u18 u19 : Value} (hv : v < 2 ^ 28) (hk : k ≤ 50000) (hn : n ≤ 200000) (K : ∀ (k' n' : Nat) (b' : Hp) (w' : Int32) (fd' fw' fh' fa' ft' : Nat → Int32) (u16 u17 u18 u19 : Value), k' ≤ k + 30 → n' ≤ n + 600 → RG w' fd' fw' fh' fa' ft' → WO (gOf X) b' Ho Hq a (10, 6, w', fd', fw', fh', fa', ft') T00 (fd', fw', fh', fa', ft') → wr X k' n' 751 [.ref 0, .ref Ho, .ref Hq, .ref a, .ref (a + 1), .ref (a + 2), .ref (a + 3), .ref (a + 4), .int w', .int 1, .int (nI kk), .int (nI d), .int (nI v), .int (nI (d % 10)), .int (nI (v % 10)), .int (nI (v % 6)), u16, u17, u18, u19] [] b') (hR : RG w fd fw fh fa ft) (W : WO (gOf X) b Ho Hq a (10, 6, w, fd, fw, fh, fa, ft) T00 (fd, fw, fh, fa, ft)) : wr X k n 610 [.ref 0, .ref Ho, .ref Hq, .ref a, .ref (a + 1), .ref (a + 2), .ref (a + 3), .ref (a + 4), .int w, .int 1, .int (nI kk), .int (nI d), .int (nI v), .int (nI (d % 10)), .int (nI (v % 10)), .int (nI (v % 6)), u16, u17, u18, u19] [] b := by
  have r6 : v % 6 < 6 := by omega
  have p10 : v / 6 % 10 < 10 := by omega
  have t3 : v / 60 % 3000 < 3000 := by omega
  have q10 := cg_10 (g := ft) (r := v % 6) (p := v / 6 % 10) (k := 10)
  have qe : cn (Qp ft (v % 6) (v / 6 % 10)) 10 = cg ft (v % 6) (v / 6 % 10) := rfl
  have q10 : cg ft (v % 6) (v / 6 % 10) ≤ 10 := q10
  obtain ⟨⟨k0, l0, d0⟩, ⟨k1, l1, d1⟩, ⟨k2, l2, d2⟩, ⟨k3, l3, d3⟩, k4, l4, d4⟩ := wo_ar W
  have d0 : hA b a = fd := d0
  have d1 : hA b (a + 1) = fw := d1
  have d2 : hA b (a + 2) = fh := d2
  have d3 : hA b (a + 3) = fa := d3
  have d4 : hA b (a + 4) = ft := d4
  refine r_iload (i := 12) C dL_law_610 rfl ?_
  refine r_bipush (v := nI 6) C dL_law_612 (by decide) ?_
  refine r_divN C dL_law_614 (by omega) (by omega) (by omega) ?_
  refine r_bipush (v := nI 10) C dL_law_615 (by decide) ?_
  refine r_remN C dL_law_617 (by omega) (by omega) (by omega) ?_
  refine r_istore (i := 16) C dL_law_618 (Nat.le_of_ble_eq_true rfl) ?_
  refine r_iload (i := 12) C dL_law_620 rfl ?_
  refine r_bipush (v := nI 60) C dL_law_622 (by decide) ?_
  refine r_divN C dL_law_624 (by omega) (by omega) (by omega) ?_
  refine r_sipush (v := nI 3000) C dL_law_625 (by decide) ?_
  refine r_remN C dL_law_628 (by omega) (by omega) (by omega) ?_
  refine r_istore (i := 17) C dL_law_629 (Nat.le_of_ble_eq_true rfl) ?_
  refine r_iconst (v := nI 0) C dL_law_631 (by decide) ?_
  refine r_istore (i := 18) C dL_law_632 (Nat.le_of_ble_eq_true rfl) ?_
  refine r_iconst (v := nI 0) C dL_law_634 (by decide) ?_
  refine r_istore (i := 19) C dL_law_635 (Nat.le_of_ble_eq_true rfl) ?_
  refine lawC5l C hv k4 l4 d4 ?_ 10 0 (by decide)
  rw [qe]
  refine r_aload_n (i := 1) C dL_law_681 rfl rfl (by first | rfl | exact isR_rf _) ?_
  refine r_iload (i := 15) C dL_law_682 rfl ?_
  refine r_iload (i := 16) C dL_law_684 rfl ?_
  refine r_iload (i := 17) C dL_law_686 rfl ?_
  by_cases h6 : cg ft (v % 6) (v / 6 % 10) ≤ 6
  · obtain ⟨b', M, W'⟩ := wo_o W (fun P gb h => st_decl (l := lOf X) (r := v % 6) (p := v / 6 % 10) (t := v / 60 % 3000) gb h r6 (Nat.le_refl 6) p10 t3 h6)
    refine r_callSs C s_L_105 M dL_law_688 (As := [_, _, _, _]) rfl rfl rfl (Nat.le_of_ble_eq_true rfl) (Nat.le_of_ble_eq_true rfl) (kc9 ?_) (ks9 ?_) ?_
    · omega
    · omega
    obtain ⟨⟨k0, l0, d0⟩, ⟨k1, l1, d1⟩, ⟨k2, l2, d2⟩, ⟨k3, l3, d3⟩, k4, l4, d4⟩ := wo_ar W'
    have d0 : hA b' a = fd := d0
    have d1 : hA b' (a + 1) = fw := d1
    have d2 : hA b' (a + 2) = fh := d2
    have d3 : hA b' (a + 3) = fa := d3
    have d4 : hA b' (a + 4) = ft := d4
    refine r_iload (i := 18) C dL_law_691 rfl ?_
    refine r_bipush (v := nI 6) C dL_law_693 (by decide) ?_
    refine r_ic_le (tgt := 703) C dL_law_695 (by decide) (fun c => ?_) (fun c => ?_)
    rotate_left
    · exact absurd (nI_le (b := 6) h6 (by decide)) c
    refine r_iload (i := 18) C dL_law_703 rfl ?_
    refine r_ic_ne (tgt := 712) C dL_law_705 (by decide) (fun c => ?_) (fun c => ?_)
    · exact absurd rfl c
    refine r_iconst (v := 1) C dL_law_708 (by decide) ?_
    refine r_goto (tgt := 713) C dL_law_709 (by decide) ?_
    refine r_istore (i := 9) C dL_law_713 (Nat.le_of_ble_eq_true rfl) ?_
    refine r_aload (i := 7) C dL_law_715 rfl (by first | rfl | exact isR_rf _) ?_
    refine r_bipush (v := nI 10) C dL_law_717 (by decide) ?_
    refine r_iload (i := 15) C dL_law_719 rfl ?_
    refine r_mulN C dL_law_721 ?_
    refine r_iload (i := 16) C dL_law_722 rfl ?_
    refine r_addN C dL_law_724 ?_
    refine r_iload (i := 18) C dL_law_725 rfl ?_
    refine r_bipush (v := nI 6) C dL_law_727 (by decide) ?_
    refine r_ic_le (tgt := 746) C dL_law_729 (by decide) (fun c => ?_) (fun c => ?_)
    rotate_left
    · exact absurd (nI_le (b := 6) h6 (by decide)) c
    refine r_iload (i := 17) C dL_law_746 rfl ?_
    refine r_iconst (v := nI 1) C dL_law_748 (by decide) ?_
    refine r_addN C dL_law_749 ?_
    refine r_iast (j := 10 * (v % 6) + v / 6 % 10) C dL_law_750 k4 rfl (by rw [l4]; omega) ?_
    exact K _ _ _ w fd fw fh fa (va_up ft (10 * (v % 6) + v / 6 % 10) (nI (v / 60 % 3000 + 1))) _ _ _ _ (by omega) (by omega) (RG_t r6 p10 t3 h6 hR) (wo_A (i := 4) (j := 10 * (v % 6) + v / 6 % 10) (v := nI (v / 60 % 3000 + 1)) (by decide) W')
  · obtain ⟨b', M, W'⟩ := wo_o W (fun P gb h => st_declx (l := lOf X) (r := v % 6) (p := v / 6 % 10) (t := v / 60 % 3000) gb h r6 (Nat.le_refl 6) p10 t3 (by omega))
    refine r_callSs C s_L_105 M dL_law_688 (As := [_, _, _, _]) rfl rfl rfl (Nat.le_of_ble_eq_true rfl) (Nat.le_of_ble_eq_true rfl) (kc9 ?_) (ks9 ?_) ?_
    · omega
    · omega
    obtain ⟨⟨k0, l0, d0⟩, ⟨k1, l1, d1⟩, ⟨k2, l2, d2⟩, ⟨k3, l3, d3⟩, k4, l4, d4⟩ := wo_ar W'
    have d0 : hA b' a = fd := d0
    have d1 : hA b' (a + 1) = fw := d1
    have d2 : hA b' (a + 2) = fh := d2
    have d3 : hA b' (a + 3) = fa := d3
    have d4 : hA b' (a + 4) = ft := d4
    refine r_iload (i := 18) C dL_law_691 rfl ?_
    refine r_bipush (v := nI 6) C dL_law_693 (by decide) ?_
    refine r_ic_le (tgt := 703) C dL_law_695 (by decide) (fun c => ?_) (fun c => ?_)
    · exact absurd c (nle9 (show 6 < cg ft (v % 6) (v / 6 % 10) by omega) (by omega))
    refine r_bipush (v := (-9)) C dL_law_698 (by decide) ?_
    refine r_goto (tgt := 705) C dL_law_700 (by decide) ?_
    refine r_ic_ne (tgt := 712) C dL_law_705 (by decide) (fun c => ?_) (fun c => ?_)
    · exact absurd rfl c
    refine r_iconst (v := 1) C dL_law_708 (by decide) ?_
    refine r_goto (tgt := 713) C dL_law_709 (by decide) ?_
    refine r_istore (i := 9) C dL_law_713 (Nat.le_of_ble_eq_true rfl) ?_
    refine r_aload (i := 7) C dL_law_715 rfl (by first | rfl | exact isR_rf _) ?_
    refine r_bipush (v := nI 10) C dL_law_717 (by decide) ?_
    refine r_iload (i := 15) C dL_law_719 rfl ?_
    refine r_mulN C dL_law_721 ?_
    refine r_iload (i := 16) C dL_law_722 rfl ?_
    refine r_addN C dL_law_724 ?_
    refine r_iload (i := 18) C dL_law_725 rfl ?_
    refine r_bipush (v := nI 6) C dL_law_727 (by decide) ?_
    refine r_ic_le (tgt := 746) C dL_law_729 (by decide) (fun c => ?_) (fun c => ?_)
    · exact absurd c (nle9 (show 6 < cg ft (v % 6) (v / 6 % 10) by omega) (by omega))
    refine r_aload (i := 7) C dL_law_732 rfl (by first | rfl | exact isR_rf _) ?_
    refine r_bipush (v := nI 10) C dL_law_734 (by decide) ?_
    refine r_iload (i := 15) C dL_law_736 rfl ?_
    refine r_mulN C dL_law_738 ?_
    refine r_iload (i := 16) C dL_law_739 rfl ?_
    refine r_addN C dL_law_741 ?_
    refine r_iald (j := 10 * (v % 6) + v / 6 % 10) C dL_law_742 k4 rfl (by rw [l4]; omega) ?_
    rw [d4]
    refine r_goto (tgt := 750) C dL_law_743 (by decide) ?_
    refine r_iast (j := 10 * (v % 6) + v / 6 % 10) C dL_law_750 k4 rfl (by rw [l4]; omega) ?_
    have W2 := wo_A (i := 4) (j := 10 * (v % 6) + v / 6 % 10) (v := ft (10 * (v % 6) + v / 6 % 10)) (by decide) W'
    have W2 : WO (gOf X) (sA b' (a + 4) (10 * (v % 6) + v / 6 % 10) (ft (10 * (v % 6) + v / 6 % 10))) Ho Hq a (10, 6, w, fd, fw, fh, fa, ft) T00 (fd, fw, fh, fa, va_up ft (10 * (v % 6) + v / 6 % 10) (ft (10 * (v % 6) + v / 6 % 10))) := W2
    rw [va_id] at W2
    exact K _ _ _ w fd fw fh fa ft _ _ _ _ (by omega) (by omega) hR W2
theorem lawC {X : Ctx} (C : Cx X yL_law cL_law 20 (Option.some Jvm.ClassFile.FieldType.boolean) [] 20 660499 7120272) {Ho Hq a : Nat} (K : ∀ (k n : Nat) (b : Hp) (w : Int32) (fd fw fh fa ft : Nat → Int32) (u11 u12 u13 u14 u15 u16 u17 u18 u19 : Value), k ≤ 2200 → n ≤ 42000 → RG w fd fw fh fa ft → WO (gOf X) b Ho Hq a (10, 6, w, fd, fw, fh, fa, ft) T00 (fd, fw, fh, fa, ft) → wr X k n 757 [.ref 0, .ref Ho, .ref Hq, .ref a, .ref (a + 1), .ref (a + 2), .ref (a + 3), .ref (a + 4), .int w, .int 1, .int (nI 48), u11, u12, u13, u14, u15, u16, u17, u18, u19] [] b) :
    ∀ (m kk k n : Nat) (b : Hp) (w : Int32) (fd fw fh fa ft : Nat → Int32) (u11 u12 u13 u14 u15 u16 u17 u18 u19 : Value), kk + m = 48 → k + 30 * m ≤ 2200 → n + cS 600 m ≤ 42000 → RG w fd fw fh fa ft → WO (gOf X) b Ho Hq a (10, 6, w, fd, fw, fh, fa, ft) T00 (fd, fw, fh, fa, ft) → wr X k n 257 [.ref 0, .ref Ho, .ref Hq, .ref a, .ref (a + 1), .ref (a + 2), .ref (a + 3), .ref (a + 4), .int w, .int 1, .int (nI kk), u11, u12, u13, u14, u15, u16, u17, u18, u19] [] b := by
  intro m
  induction m with
  | zero =>
    intro kk k n b w fd fw fh fa ft u11 u12 u13 u14 u15 u16 u17 u18 u19 hm hk hn hR W
    have : kk = 48 := by omega
    subst this
    refine r_iload (i := 10) C dL_law_257 rfl ?_
    refine r_bipush (v := nI 48) C dL_law_259 (by decide) ?_
    refine r_ic_ge (tgt := 757) C dL_law_261 (by decide) (fun c => ?_) (fun c => ?_)
    rotate_left
    · exact absurd (nI_le (Nat.le_refl 48) (by decide)) c
    exact K _ _ _ _ _ _ _ _ _ _ _ _ _ _ _ _ _ _ hk (by rw [cS_0] at hn; exact hn) hR W
  | succ m ih =>
    intro kk k n b w fd fw fh fa ft u11 u12 u13 u14 u15 u16 u17 u18 u19 hm hk hn hR W
    rw [cS_s, ← Nat.add_assoc] at hn
    have d30 := drw_lt (gOf X) (16 + kk % 48)
    have c48 : kk < 48 := by omega
    obtain ⟨d, ed⟩ : ∃ d, d = drw (gOf X) (16 + kk % 48) := ⟨_, rfl⟩
    refine r_iload (i := 10) C dL_law_257 rfl ?_
    refine r_bipush (v := nI 48) C dL_law_259 (by decide) ?_
    refine r_ic_ge (tgt := 757) C dL_law_261 (by decide) (fun c => ?_) (fun c => ?_)
    · exact absurd c (nle9 c48)
    refine r_iload (i := 9) C dL_law_264 rfl ?_
    refine r_if_eq (tgt := 757) C dL_law_266 (by decide) (fun c => ?_) (fun c => ?_)
    · exact absurd c (by decide)
    refine r_aload_n (i := 0) C dL_law_269 rfl rfl (by first | rfl | exact isR_rf _) ?_
    refine r_bipush (v := nI 16) C dL_law_270 (by decide) ?_
    refine r_iload (i := 10) C dL_law_272 rfl ?_
    refine r_bipush (v := nI 48) C dL_law_274 (by decide) ?_
    refine r_remN C dL_law_276 (by omega) (by omega) (by omega) ?_
    refine r_addN C dL_law_277 ?_
    refine r_callSs C s_L_94 (c_drawn (lOf X) (gOf X) (b := b) (k := 16 + kk % 48) (by omega)) dL_law_278 (As := [_, _]) rfl rfl rfl (Nat.le_of_ble_eq_true rfl) (Nat.le_of_ble_eq_true rfl) (kc9 ?_) (ks9 ?_) ?_
    · omega
    · omega
    rw [← ed] at d30 ⊢
    refine r_istore (i := 11) C dL_law_281 (Nat.le_of_ble_eq_true rfl) ?_
    refine r_iload (i := 11) C dL_law_283 rfl ?_
    refine r_bipush (v := nI 10) C dL_law_285 (by decide) ?_
    refine r_divN C dL_law_287 (by omega) (by omega) (by omega) ?_
    refine r_istore (i := 12) C dL_law_288 (Nat.le_of_ble_eq_true rfl) ?_
    refine r_iload (i := 11) C dL_law_290 rfl ?_
    refine r_bipush (v := nI 10) C dL_law_292 (by decide) ?_
    refine r_remN C dL_law_294 (by omega) (by omega) (by omega) ?_
    refine r_istore (i := 13) C dL_law_295 (Nat.le_of_ble_eq_true rfl) ?_
    obtain ⟨v, ev⟩ : ∃ v, v = d / 10 := ⟨_, rfl⟩
    rw [← ev]
    have hv : v < 2 ^ 28 := by omega
    refine r_iload (i := 12) C dL_law_297 rfl ?_
    refine r_bipush (v := nI 10) C dL_law_299 (by decide) ?_
    refine r_remN C dL_law_301 (by omega) (by omega) (by omega) ?_
    refine r_istore (i := 14) C dL_law_302 (Nat.le_of_ble_eq_true rfl) ?_
    refine r_iload (i := 12) C dL_law_304 rfl ?_
    refine r_bipush (v := nI 6) C dL_law_306 (by decide) ?_
    refine r_remN C dL_law_308 (by omega) (by omega) (by omega) ?_
    refine r_istore (i := 15) C dL_law_309 (Nat.le_of_ble_eq_true rfl) ?_
    have K2 : ∀ (k' n' : Nat) (b' : Hp) (w' : Int32) (fd' fw' fh' fa' ft' : Nat → Int32) (u16 u17 u18 u19 : Value), k' ≤ (k + 0) + 30 → n' ≤ (n + 0) + 600 → RG w' fd' fw' fh' fa' ft' → WO (gOf X) b' Ho Hq a (10, 6, w', fd', fw', fh', fa', ft') T00 (fd', fw', fh', fa', ft') → wr X k' n' 751 [.ref 0, .ref Ho, .ref Hq, .ref a, .ref (a + 1), .ref (a + 2), .ref (a + 3), .ref (a + 4), .int w', .int 1, .int (nI kk), .int (nI d), .int (nI v), .int (nI (d % 10)), .int (nI (v % 10)), .int (nI (v % 6)), u16, u17, u18, u19] [] b' := fun k' n' b' w' fd' fw' fh' fa' ft' u16 u17 u18 u19 hk' hn' hR' W' => by
      refine r_iinc1 (i := 10) C dL_law_751 rfl ?_
      rw [nI_1]
      refine r_goto (tgt := 257) C dL_law_754 (by decide) ?_
      exact ih (kk + 1) _ _ _ _ _ _ _ _ _ _ _ _ _ _ _ _ _ _ (by omega) (by omega) (by omega) hR' W'
    refine r_iload (i := 13) C dL_law_311 rfl ?_
    refine r_if_ne (tgt := 363) C dL_law_313 (by decide) (fun c => ?_) (fun c => ?_)
    rotate_left
    · exact lawC0 C hv (by omega) (by omega) K2 hR W
    refine r_iload (i := 13) C dL_law_363 rfl ?_
    refine r_iconst (v := 1) C dL_law_365 (by decide) ?_
    refine r_ic_ne (tgt := 456) C dL_law_366 (by decide) (fun c => ?_) (fun c => ?_)
    rotate_left
    · exact lawC1 C hv (by omega) (by omega) K2 hR W
    refine r_iload (i := 13) C dL_law_456 rfl ?_
    refine r_iconst (v := 2) C dL_law_458 (by decide) ?_
    refine r_ic_ne (tgt := 506) C dL_law_459 (by decide) (fun c => ?_) (fun c => ?_)
    rotate_left
    · exact lawC2 C hv (by omega) (by omega) K2 hR W
    refine r_iload (i := 13) C dL_law_506 rfl ?_
    refine r_iconst (v := 3) C dL_law_508 (by decide) ?_
    refine r_ic_ne (tgt := 550) C dL_law_509 (by decide) (fun c => ?_) (fun c => ?_)
    rotate_left
    · exact lawC3 C hv (by omega) (by omega) K2 hR W
    refine r_iload (i := 13) C dL_law_550 rfl ?_
    refine r_iconst (v := 4) C dL_law_552 (by decide) ?_
    refine r_ic_ne (tgt := 610) C dL_law_553 (by decide) (fun c => ?_) (fun c => ?_)
    rotate_left
    · exact lawC4 C hv (by omega) (by omega) K2 hR W
    exact lawC5 C hv (by omega) (by omega) K2 hR W
