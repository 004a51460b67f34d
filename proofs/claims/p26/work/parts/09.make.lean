/-- a class that is made: its link from a class, and what its rows want -/
def NK (own : String) (idx ci N : Nat) : Prop := ∃ (Cn : String) (T : u_T),
  mCl[ci]? = some (Cn, T, N) ∧ ci ≤ 10 ∧ cnt ci = N ∧ (∀ w ∈ u_ws Cn T N, Wk w) ∧ (∀ j, j < N → parseFieldDescriptor (T j).2.2.1 = some (cty ci j)) ∧ (∀ j, j < N → isRf (cty ci j) = true ∨ cty ci j = .int ∨ cty ci j = .boolean) ∧
  Wk (.classLink own idx Cn) ∧ Wk (.instantiable Cn N) ∧ Wk (.initialized Cn)
theorem fld_new {ρ : Nat → Nat} {h : Hp} (hg : Good h) {ci j : Nat} (ht : isRf (cty ci j) = true ∨ cty ci j = .int ∨ cty ci j = .boolean) : defaultValue (cty ci j) = fld ρ h ci (hN h) j := by
  have hb := hg.2.2.1 (hN h) (Nat.le_refl _)
  rcases ht with ht | ht | ht
  · rw [fld_ref ht, (hb.2.1 _).2]
    cases hc : cty ci j <;> rw [hc] at ht <;> first | rfl | cases ht
  · rw [fld_int (by rw [ht]; rfl), (hb.2.1 _).1, ht]
    rfl
  · rw [fld_int (by rw [ht]; rfl), (hb.2.1 _).1, ht]
    rfl
theorem up_old {ρ : Nat → Nat} {n q : Nat} : ∀ a, a < n → va_up ρ n q a = ρ a := fun a ha => va_up_ne _ _ (by omega)
theorem ce_new_obj {G : Gf} {ρ' : Nat → Nat} {h : Hp} {ci : Nat} (h1 : ci < 100) : ce G ρ' (nw h ci 0) (hN h) = .inr (ci, (List.range (cnt ci)).map (fld ρ' h ci (hN h))) := by
  rw [ce_obj (show hK (nw h ci 0) (hN h) = ci from va_up_self _ _ _) h1]
  rfl
theorem Wo_new {G : Gf} {ρ : Nat → Nat} {h : Hp} {H1 : Heap} {ci n q : Nat} {e : va_E} (hg : Good h) (hi : ∀ i, i < 6 → ρ i = gF G i) (hk : okK ci = true) (hn : n < 2 ^ 31) (he : ce G (va_up ρ (hN h) q) (nw h ci n) (hN h) = e) (hP : va_P (gD G) mCl (wsF G ρ h ++ [(q, e)]) H1) (hD : va_D (gA G) (wsF G ρ h ++ [(q, e)])) : Wo G (va_up ρ (hN h) q) (nw h ci n) H1 := by
  rw [wsF_push hg he] at hP hD
  exact ⟨hP, hD, gd_nw hg hk hn, fun i h6 => by rw [va_up_ne _ _ (by have := hg.1; omega)]; exact hi i h6⟩
theorem r_new {X : Ctx} {y : MethodName} {cc : ByteArray} {nL : Nat} {ret : Option FieldType} {hh : List (Nat × Nat × Nat × Nat)} {f mc ms : Nat} (C : Cx X y cc nL ret hh f mc ms) {k n pc : Nat} {LS st : List Value} {h : Hp} {ci idx N : Nat} (F : NK y.cls idx ci N) (hd : decode cc pc = .ok (.new idx, 3)) (hk1 : k + 1 ≤ mc) (hn1 : n + N ≤ ms) (K : wr X (k + 1) (n + N) (pc + 3) LS (.ref (hN h) :: st) (nw h ci 0)) : wr X k n pc LS st h := by
  obtain ⟨p, l, e, R, s, m, args, below, meth, c, G, ρ0, n0, Q⟩ := X
  obtain ⟨hx, hb, hml, hret, hown, hlk, hnm, htb, htr, hE, hsz, hf, hmc, hms, hlo⟩ := C
  intro ρ H locs ls hWo hS hLV hv1 hv2 hρ
  obtain ⟨Cn, T, e1, e2, e3, e4, e5, e6, e7, e8, e9⟩ := F
  have hw := hE.2.1.1
  have hg := hWo.2.2.1
  refine va_new (ci := ci) (fs := (List.range (cnt ci)).map (fld ρ h ci (hN h))) (C := Cn) (T := T) (N := N) (Ts := u_ws Cn T N) hx hb (fun w hm => hw w (e4 w hm) args) (fun _ hm => hm) (cty ci) e5 hown (hw _ e7 args) (hw _ e8 args) (hw _ e9 args) hE.1 hWo.1 hWo.2.1 hS hsz e1 (fun j hj => ?_) (Nat.le_trans hk1 hmc) (Nat.le_trans hn1 hms) hd (fun q H1 hP1 hD1 hS1 => ?_)
  · rw [fld_new (ρ := ρ) hg (e6 j hj)]
    simp [vp_V, e3, hj]
  · have hρe : ∀ a, a < hN h → va_up ρ (hN h) q a = ρ a := up_old
    have hce : ce G (va_up ρ (hN h) q) (nw h ci 0) (hN h) = .inr (ci, (List.range (cnt ci)).map (fld ρ h ci (hN h))) := by
      rw [ce_new_obj (by omega), show fld (va_up ρ (hN h) q) h ci (hN h) = fld ρ h ci (hN h) from funext fun j => fld_ext hρe hg.2.2.2.1 _ _ _]
    have hWo1 := Wo_new hg hWo.2.2.2 (by simp [okK, e2]) (by decide) hce hP1 hD1
    have hK' := K _ H1 locs ls hWo1 hS1 (LV_ext hρe hv1 hLV) (vl_mono (Nat.le_succ _) hv1) (vl_c (Nat.lt_succ_self _) (vl_mono (Nat.le_succ _) hv2)) ⟨Nat.le_succ_of_le hρ.1, fun a ha => (hρe a (Nat.lt_of_lt_of_le ha hρ.1)).trans (hρ.2 a ha)⟩
    rw [List.map_cons, upv_exts hρe hv2, show upv (va_up ρ (hN h) q) (.ref (hN h)) = .ref q from congrArg Value.ref (va_up_self _ _ _)] at hK'
    exact hK'
theorem ra_nm {s : State} {c1 c2 : ClassId} {t : FieldType} (h1 : va_RA s c1 t) (h2 : va_RA s c2 t) : c1 = c2 := by
  cases t with
  | object C =>
    obtain ⟨-, -, -, -, -, q1⟩ := h1
    obtain ⟨-, -, -, -, -, q2⟩ := h2
    exact Option.some.inj (q1.symm.trans q2)
  | _ => exact Option.some.inj ((show s.vm.findClass _ = some c1 from h1).symm.trans h2)
theorem r_newa_int {X : Ctx} {y : MethodName} {cc : ByteArray} {nL : Nat} {ret : Option FieldType} {hh : List (Nat × Nat × Nat × Nat)} {f mc ms : Nat} (C : Cx X y cc nL ret hh f mc ms) {k n pc : Nat} {LS st : List Value} {h : Hp} {j : Nat} {i : Int32} (hd : decode cc pc = .ok (.newarray .int, 2)) (hi : i = nI j) (hj : j ≤ 10000) (hw : Wk (.arrayClass .int)) (hk1 : k + 1 ≤ mc) (hn1 : n + j ≤ ms) (K : wr X (k + 1) (n + j) (pc + 2) LS (.ref (hN h) :: st) (nw h 100 j)) : wr X k n pc LS (.int i :: st) h := by
  obtain ⟨p, l, e, R, s, m, args, below, meth, c, G, ρ0, n0, Q⟩ := X
  obtain ⟨hx, hb, hml, hret, hown, hlk, hnm, htb, htr, hE, hsz, hf, hmc, hms, hlo⟩ := C
  intro ρ H locs ls hWo hS hLV hv1 hv2 hρ
  have hg := hWo.2.2.1
  subst hi
  have ec : (nI j).toNatClampNeg = j := nI_clamp (by omega)
  refine va_newa (N' := j) (a0 := (j, .inl (fun _ => 0))) hx hb (atype := .int) (hE.2.1.1 _ hw args) (ty := .int) rfl hE.1 hWo.1 hWo.2.1 hS hsz (fun _ => rfl) (nI_pos (by omega)) ec (by have : componentBytes .int ≤ 8 := (by decide); have := Nat.mul_le_mul hj this; omega) (Nat.le_trans hk1 hmc) (Nat.le_trans hn1 hms) hd (fun q cA H1 hK1 hP1 hD1 hS1 => ?_)
  have hcA : cA = gC G 0 := ra_nm (hK1.2 (aty G).length _ (show (aty G ++ [(cA, .int)])[(aty G).length]? = some (cA, .int) by simp)).2 (hE.1.2 0 _ rfl).2
  subst hcA
  have hρe : ∀ a, a < hN h → va_up ρ (hN h) q a = ρ a := up_old
  have hb9 := hg.2.2.1 (hN h) (Nat.le_refl _)
  have hce : ce G (va_up ρ (hN h) q) (nw h 100 j) (hN h) = .inl (gC G 0, j, .inl (fun _ => 0)) := by
    rw [ce_int (show hK (nw h 100 j) (hN h) = 100 from va_up_self _ _ _), show hL (nw h 100 j) (hN h) = j from va_up_self _ _ _, show hA (nw h 100 j) (hN h) = fun _ => 0 from funext fun j9 => (hb9.2.2 j9).1]
  have hWo1 := Wo_new hg hWo.2.2.2 (by decide) (by omega) hce hP1 hD1
  have hK' := K _ H1 locs ls hWo1 hS1 (LV_ext hρe hv1 hLV) (vl_mono (Nat.le_succ _) hv1) (vl_c (Nat.lt_succ_self _) (vl_mono (Nat.le_succ _) (vl_t hv2))) ⟨Nat.le_succ_of_le hρ.1, fun a ha => (hρe a (Nat.lt_of_lt_of_le ha hρ.1)).trans (hρ.2 a ha)⟩
  rw [List.map_cons, upv_exts hρe (vl_t hv2), show upv (va_up ρ (hN h) q) (.ref (hN h)) = .ref q from congrArg Value.ref (va_up_self _ _ _)] at hK'
  exact hK'
theorem r_newq {X : Ctx} {y : MethodName} {cc : ByteArray} {nL : Nat} {ret : Option FieldType} {hh : List (Nat × Nat × Nat × Nat)} {f mc ms : Nat} (C : Cx X y cc nL ret hh f mc ms) {k n pc : Nat} {LS st : List Value} {h : Hp} {j t idx : Nat} {i : Int32} (hd : decode cc pc = .ok (.anewarray idx, 3)) (hi : i = nI j) (hj : j ≤ 10000) (ht : t < 3) (hw : Wk (.classLink y.cls idx (enm t))) (hk1 : k + 1 ≤ mc) (hn1 : n + j ≤ ms) (K : wr X (k + 1) (n + j) (pc + 3) LS (.ref (hN h) :: st) (nw h (103 + t) j)) : wr X k n pc LS (.int i :: st) h := by
  obtain ⟨p, l, e, R, s, m, args, below, meth, c, G, ρ0, n0, Q⟩ := X
  obtain ⟨hx, hb, hml, hret, hown, hlk, hnm, htb, htr, hE, hsz, hf, hmc, hms, hlo⟩ := C
  intro ρ H locs ls hWo hS hLV hv1 hv2 hρ
  have hg := hWo.2.2.1
  subst hi
  have ec : (nI j).toNatClampNeg = j := nI_clamp (by omega)
  have hao : enm t ∈ aoL := by
    match t, ht with
    | 0, _ => exact List.mem_cons_self
    | 1, _ => exact List.mem_cons_of_mem _ List.mem_cons_self
    | 2, _ => exact List.mem_cons_of_mem _ (List.mem_cons_of_mem _ List.mem_cons_self)
  refine va_newq hx hb hown (hE.2.1.1 _ hw args) (hE.2.1.2.2.2.2.1 _ hao) hE.1 hWo.1 hWo.2.1 hS hsz (nI_pos (by omega)) ec (by omega) (Nat.le_trans hk1 hmc) (Nat.le_trans hn1 hms) hd (fun q cA H1 hK1 hP1 hD1 hS1 => ?_)
  have hcA : cA = gC G (3 + t) := ra_nm (hK1.2 (aty G).length _ (show (aty G ++ [(cA, .object (enm t))])[(aty G).length]? = some (cA, .object (enm t)) by simp)).2 (hE.1.2 (3 + t) _ (aty_ref G ht)).2
  subst hcA
  have hρe : ∀ a, a < hN h → va_up ρ (hN h) q a = ρ a := up_old
  have hb9 := hg.2.2.1 (hN h) (Nat.le_refl _)
  have hce : ce G (va_up ρ (hN h) q) (nw h (103 + t) j) (hN h) = .inl (gC G (3 + t), j, .inr (.inr (.inr (.inr (fun _ => none))))) := by
    rw [ce_ref (show hK (nw h (103 + t) j) (hN h) = 103 + t from va_up_self _ _ _), show hL (nw h (103 + t) j) (hN h) = j from va_up_self _ _ _, show hQ (nw h (103 + t) j) (hN h) = fun _ => none from funext fun j9 => (hb9.2.2 j9).2.1]
    rfl
  have hWo1 := Wo_new hg hWo.2.2.2 (by simp [okK]; omega) (by omega) hce hP1 hD1
  have hK' := K _ H1 locs ls hWo1 hS1 (LV_ext hρe hv1 hLV) (vl_mono (Nat.le_succ _) hv1) (vl_c (Nat.lt_succ_self _) (vl_mono (Nat.le_succ _) (vl_t hv2))) ⟨Nat.le_succ_of_le hρ.1, fun a ha => (hρe a (Nat.lt_of_lt_of_le ha hρ.1)).trans (hρ.2 a ha)⟩
  rw [List.map_cons, upv_exts hρe (vl_t hv2), show upv (va_up ρ (hN h) q) (.ref (hN h)) = .ref q from congrArg Value.ref (va_up_self _ _ _)] at hK'
  exact hK'
theorem sum1 {l : List Value} (hc : (l.map fun v => v.category).sum ≤ 8) (ρ : Nat → Nat) : ((l.map (upv ρ)).map fun v => v.category).sum ≤ 8 := by
  rw [List.map_map, show ((fun v : Value => v.category) ∘ upv ρ) = fun v => v.category from funext fun v => upv_cat ρ v]
  exact hc
theorem r_mmax {X : Ctx} {y : MethodName} {cc : ByteArray} {nL : Nat} {ret : Option FieldType} {hh : List (Nat × Nat × Nat × Nat)} {f mc ms : Nat} (C : Cx X y cc nL ret hh f mc ms) {k n pc : Nat} {LS st : List Value} {h : Hp} {idx : Nat} {x z : Int32} (hd : decode cc pc = .ok (.invokestatic idx, 3)) (hf1 : 1 ≤ f) (hlen : LS.length = nL) (hst : (st.map fun v => v.category).sum ≤ 8) (w1 : Wk (.methodLink y.cls idx Lib.Math.max.name)) (w2 : Wk (.static Lib.Math.max.name)) (w3 : Wk (.initialized "java/lang/Math")) (w4 : Wk (.code Lib.Math.max.name Lib.Math.max.code 2 (some .int))) (hkm : k ≤ mc) (hnm9 : n ≤ ms) (K : wr X k n (pc + 3) LS (.int (if x < z then z else x) :: st) h) : wr X k n pc LS (.int z :: .int x :: st) h := by
  obtain ⟨p, l, e, R, s, m, args, below, meth, c, G, ρ0, n0, Q⟩ := X
  obtain ⟨hx, hb, hml, hret, hown, hlk, hnm, htb, htr, hE, hsz, hf, hmc, hms, hlo⟩ := C
  intro ρ H locs ls hWo hS hLV hv1 hv2 hρ
  have hw := hE.2.1.1
  have hsum := sum1 hst ρ
  exact va_mmax hx hb (by rw [hml, hLV.1.1, hlen]) hown (hw _ w1 args) (hw _ w2 args) (hw _ w3 args) (hw _ w4 args) (by omega) (by omega) (Nat.le_trans hkm hmc) (Nat.le_trans hnm9 hms) hd (K ρ H locs ls hWo hS hLV hv1 (vl_c trivial (vl_t (vl_t hv2))) hρ)
theorem r_mmin {X : Ctx} {y : MethodName} {cc : ByteArray} {nL : Nat} {ret : Option FieldType} {hh : List (Nat × Nat × Nat × Nat)} {f mc ms : Nat} (C : Cx X y cc nL ret hh f mc ms) {k n pc : Nat} {LS st : List Value} {h : Hp} {idx : Nat} {x z : Int32} (hd : decode cc pc = .ok (.invokestatic idx, 3)) (hf1 : 1 ≤ f) (hlen : LS.length = nL) (hst : (st.map fun v => v.category).sum ≤ 8) (w1 : Wk (.methodLink y.cls idx Lib.Math.min.name)) (w2 : Wk (.static Lib.Math.min.name)) (w3 : Wk (.initialized "java/lang/Math")) (w4 : Wk (.code Lib.Math.min.name Lib.Math.min.code 2 (some .int))) (hkm : k ≤ mc) (hnm9 : n ≤ ms) (K : wr X k n (pc + 3) LS (.int (if z < x then z else x) :: st) h) : wr X k n pc LS (.int z :: .int x :: st) h := by
  obtain ⟨p, l, e, R, s, m, args, below, meth, c, G, ρ0, n0, Q⟩ := X
  obtain ⟨hx, hb, hml, hret, hown, hlk, hnm, htb, htr, hE, hsz, hf, hmc, hms, hlo⟩ := C
  intro ρ H locs ls hWo hS hLV hv1 hv2 hρ
  have hw := hE.2.1.1
  have hsum := sum1 hst ρ
  exact va_mmin hx hb (by rw [hml, hLV.1.1, hlen]) hown (hw _ w1 args) (hw _ w2 args) (hw _ w3 args) (hw _ w4 args) (by omega) (by omega) (Nat.le_trans hkm hmc) (Nat.le_trans hnm9 hms) hd (K ρ H locs ls hWo hS hLV hv1 (vl_c trivial (vl_t (vl_t hv2))) hρ)
theorem r_ldcI {X : Ctx} {y : MethodName} {cc : ByteArray} {nL : Nat} {ret : Option FieldType} {hh : List (Nat × Nat × Nat × Nat)} {f mc ms : Nat} (C : Cx X y cc nL ret hh f mc ms) {k n pc : Nat} {LS st : List Value} {h : Hp} {idx : Nat} {v : Int32} (hd : decode cc pc = .ok (.ldc idx, 2)) (hw : Wk (.constant y.cls idx v)) (K : wr X k n (pc + 2) LS (.int v :: st) h) : wr X k n pc LS st h := by
  obtain ⟨p, l, e, R, s, m, args, below, meth, c, G, ρ0, n0, Q⟩ := X
  obtain ⟨hx, hb, hml, hret, hown, hlk, hnm, htb, htr, hE, hsz, hf, hmc, hms, hlo⟩ := C
  intro ρ H locs ls hWo hS hLV hv1 hv2 hρ
  exact lv_ldc hx hb hown (hE.2.1.1 _ hw args) hd (K ρ H locs ls hWo hS hLV hv1 (vl_c trivial hv2) hρ)
theorem r_ldcwI {X : Ctx} {y : MethodName} {cc : ByteArray} {nL : Nat} {ret : Option FieldType} {hh : List (Nat × Nat × Nat × Nat)} {f mc ms : Nat} (C : Cx X y cc nL ret hh f mc ms) {k n pc : Nat} {LS st : List Value} {h : Hp} {idx : Nat} {v : Int32} (hd : decode cc pc = .ok (.ldc_w idx, 3)) (hw : Wk (.constant y.cls idx v)) (K : wr X k n (pc + 3) LS (.int v :: st) h) : wr X k n pc LS st h := by
  obtain ⟨p, l, e, R, s, m, args, below, meth, c, G, ρ0, n0, Q⟩ := X
  obtain ⟨hx, hb, hml, hret, hown, hlk, hnm, htb, htr, hE, hsz, hf, hmc, hms, hlo⟩ := C
  intro ρ H locs ls hWo hS hLV hv1 hv2 hρ
  exact lv_ldcw hx hb hown (hE.2.1.1 _ hw args) hd (K ρ H locs ls hWo hS hLV hv1 (vl_c trivial hv2) hρ)
theorem r_ldcM {X : Ctx} {y : MethodName} {cc : ByteArray} {nL : Nat} {ret : Option FieldType} {hh : List (Nat × Nat × Nat × Nat)} {f mc ms : Nat} (C : Cx X y cc nL ret hh f mc ms) {k n pc : Nat} {LS st : List Value} {h : Hp} {idx : Nat} (hd : decode cc pc = .ok (.ldc idx, 2)) (hw : Wk (.classLink y.cls idx "[Ljava/lang/Object;")) (K : wr X k n (pc + 2) LS (.ref 5 :: st) h) : wr X k n pc LS st h := by
  obtain ⟨p, l, e, R, s, m, args, below, meth, c, G, ρ0, n0, Q⟩ := X
  obtain ⟨hx, hb, hml, hret, hown, hlk, hnm, htb, htr, hE, hsz, hf, hmc, hms, hlo⟩ := C
  intro ρ H locs ls hWo hS hLV hv1 hv2 hρ
  have e0 : ρ 5 = gF G 5 := hWo.2.2.2 5 (by decide)
  have hM := hE.2.2.1.2.2.2.2.2.1
  have hK' : W p l e R s m args below meth c H locs k n Q (F0 m (pc + 2) ls (.ref (ρ 5) :: st.map (upv ρ))) := K ρ H locs ls hWo hS hLV hv1 (vl_c (Nat.lt_of_lt_of_le (by decide : 5 < 6) hWo.2.2.1.1) hv2) hρ
  rw [e0] at hK'
  exact va_ldcM hx hb hown (hE.2.1.1 _ hw args) hM hd hK'
theorem r_getC {X : Ctx} {y : MethodName} {cc : ByteArray} {nL : Nat} {ret : Option FieldType} {hh : List (Nat × Nat × Nat × Nat)} {f mc ms : Nat} (C : Cx X y cc nL ret hh f mc ms) {k n pc : Nat} {LS st : List Value} {h : Hp} {a idx : Nat} (hd : decode cc pc = .ok (.invokevirtual idx, 3)) (hk : hK h a = 103) (hf1 : 1 ≤ f) (hlen : LS.length = nL) (hst : (st.map fun v => v.category).sum ≤ 8) (w1 : Wk (.methodLink y.cls idx ⟨"java/lang/Object", "getClass", "()Ljava/lang/Class;"⟩)) (w2 : Wk (.selects "[Ljava/lang/Object;" ⟨"java/lang/Object", "getClass", "()Ljava/lang/Class;"⟩ ⟨"java/lang/Object", "getClass", "()Ljava/lang/Class;"⟩)) (w3 : Wk (.instanceMethod ⟨"java/lang/Object", "getClass", "()Ljava/lang/Class;"⟩)) (w4 : Wk (.native ⟨"java/lang/Object", "getClass", "()Ljava/lang/Class;"⟩)) (K : wr X k n (pc + 3) LS (.ref 5 :: st) h) : wr X k n pc LS (.ref a :: st) h := by
  obtain ⟨p, l, e, R, s, m, args, below, meth, c, G, ρ0, n0, Q⟩ := X
  obtain ⟨hx, hb, hml, hret, hown, hlk, hnm, htb, htr, hE, hsz, hf, hmc, hms, hlo⟩ := C
  intro ρ H locs ls hWo hS hLV hv1 hv2 hρ
  have e0 : ρ 5 = gF G 5 := hWo.2.2.2 5 (by decide)
  have hM := hE.2.2.1.2.2.2.2.2.1
  have hK' : W p l e R s m args below meth c H locs k n Q (F0 m (pc + 3) ls (.ref (ρ 5) :: st.map (upv ρ))) := K ρ H locs ls hWo hS hLV hv1 (vl_c (Nat.lt_of_lt_of_le (by decide : 5 < 6) hWo.2.2.1.1) (vl_t hv2)) hρ
  rw [e0] at hK'
  have hw := hE.2.1.1
  have hsum := sum1 hst ρ
  have hcell : ∃ cell : Cell, H[ρ a]? = some cell ∧ cell.vm.isStatics = false ∧ s.vm.findClass "[Ljava/lang/Object;" = some cell.cls := by
    obtain ⟨h6, ha⟩ := kind_in hWo.2.2.1 hk (by decide)
    have he := wsF_get G ρ h h6 ha
    rw [ce_ref (i := 0) hk] at he
    have h1 : H[ρ a]? = some (vp_cell (gC G 3) (hL h a, .inr (.inr (.inr (.inr (fun j => (hQ h a j).map ρ)))))) := hWo.1 _ _ he
    have hra : va_RA s (gC G 3) (.object "java/lang/Object") := (hE.1.2 3 _ rfl).2
    obtain ⟨-, -, -, -, -, q4⟩ := hra
    exact ⟨_, h1, rfl, q4⟩
  exact va_getC hx hb (by rw [hml, hLV.1.1, hlen]) hown (hw _ w1 args) (va_Dc.use hE.2.1.2.2.2.2.2.1.1) (hw _ w2 args) (hw _ w3 args) (hw _ w4 args) hM hcell (by omega) (by omega) hd hK'
theorem r_acopy {X : Ctx} {y : MethodName} {cc : ByteArray} {nL : Nat} {ret : Option FieldType} {hh : List (Nat × Nat × Nat × Nat)} {f mc ms : Nat} (C : Cx X y cc nL ret hh f mc ms) {k n pc : Nat} {LS st : List Value} {h : Hp} {a0 a1 idx i0 i1 ln ci : Nat} {sp dp len : Int32} {r : vw_C} (hd : decode cc pc = .ok (.invokestatic idx, 3)) (hk0 : hK h a0 = 103) (hk1 : hK h a1 = 103) (h1 : sp = nI i0) (h2 : dp = nI i1) (h3 : len = nI ln) (h4 : i0 + ln ≤ hL h a0) (h5 : i1 + ln ≤ hL h a1) (hci : ci < 100) (hr : mCl[ci]? = some r) (hrn : (r.1, "java/lang/Object") ∈ castL) (hel : ∀ i, i < ln → ∀ z, hQ h a0 (i0 + i) = some z → hK h z = ci) (hf1 : 1 ≤ f) (hlen : LS.length = nL) (hst : (st.map fun v => v.category).sum ≤ 8) (w1 : Wk (.methodLink y.cls idx arraycopyName)) (w2 : Wk (.native arraycopyName)) (w3 : Wk (.static arraycopyName)) (w4 : Wk (.initialized "java/lang/System")) (K : wr X k n (pc + 3) LS st (sQf h a1 (va_cpy (hQ h a0) (hQ h a1) i0 i1 ln))) : wr X k n pc LS (.int len :: .int dp :: .ref a1 :: .int sp :: .ref a0 :: st) h := by
  obtain ⟨p, l, e, R, s, m, args, below, meth, c, G, ρ0, n0, Q⟩ := X
  obtain ⟨hx, hb, hml, hret, hown, hlk, hnm, htb, htr, hE, hsz, hf, hmc, hms, hlo⟩ := C
  intro ρ H locs ls hWo hS hLV hv1 hv2 hρ
  have hw := hE.2.1.1
  have hg := hWo.2.2.1
  have hsum := sum1 hst ρ
  obtain ⟨g6, ga⟩ := kind_in hg hk0 (by decide)
  obtain ⟨j6, ja⟩ := kind_in hg hk1 (by decide)
  have l0 : hL h a0 < 2 ^ 31 := hg.2.2.2.2.2.2 a0
  have l1 : hL h a1 < 2 ^ 31 := hg.2.2.2.2.2.2 a1
  have he0 := wsF_get G ρ h g6 ga
  have he1 := wsF_get G ρ h j6 ja
  have hmap : (fun j => (va_cpy (hQ h a0) (hQ h a1) i0 i1 ln j).map ρ) = va_cpy (fun j => (hQ h a0 j).map ρ) (fun j => (hQ h a1 j).map ρ) i0 i1 ln := by
    funext j
    unfold va_cpy
    by_cases q : i1 ≤ j ∧ j < i1 + ln
    · rw [if_pos q, if_pos q]
    · rw [if_neg q, if_neg q]
  have es := wsF_set (G := G) (ρ := ρ) (h' := sQf h a1 (va_cpy (hQ h a0) (hQ h a1) i0 i1 ln)) j6 ja rfl (by rw [ce_sQf_ref (i := 0) hk1, hmap]) (fun b hb9 => ce_sQf_ne hb9)
  rw [ce_ref (i := 0) hk0] at he0
  rw [ce_ref (i := 0) hk1] at he1
  subst h1 h2 h3
  have c0 : (nI i0).toNatClampNeg = i0 := nI_clamp (by omega)
  have c1 : (nI i1).toNatClampNeg = i1 := nI_clamp (by omega)
  have c2 : (nI ln).toNatClampNeg = ln := nI_clamp (by omega)
  refine va_copyq hx hb (by rw [hml, hLV.1.1, hlen]) hown (hw _ w1 args) (hw _ w2 args) (hw _ w3 args) (hw _ w4 args) hE.1 hWo.1 hWo.2.1 hS (a0 - 6) (a1 - 6) 3 3 (C := r.1) he0 he1 (aty_ref G (i := 0) (by decide)) (aty_ref G (i := 0) (by decide)) (nI_pos (by omega)) (nI_pos (by omega)) (nI_pos (by omega)) (by rw [c0, c2]; exact h4) (by rw [c1, c2]; exact h5) (fun i hi z hz => ?_) (cast_asg (hE.2.1.2.1 _ hrn)) (by omega) (by have : nativeFrameWords "java/lang/System" "arraycopy" 5 ≤ 20 := (by decide); omega) hd (fun H1 locs1 hP1 hD1 hS1 => ?_)
  · rw [c2] at hi
    rw [c0] at hz
    cases hq : hQ h a0 (i0 + i) with
    | none => rw [hq] at hz; cases hz
    | some w =>
      rw [hq] at hz
      cases hz
      exact rec_at hE hWo (hel i hi w hq) hci hr
  · rw [c0, c1, c2] at hP1 hD1
    have hP2 := es ▸ hP1
    have hD2 := es ▸ hD1
    refine K ρ H1 locs1 ls ⟨hP2, hD2, gd_sQf hg ja (fun i b hib => ?_), hWo.2.2.2⟩ hS1 hLV hv1 (vl_t (vl_t (vl_t (vl_t (vl_t hv2))))) hρ
    unfold va_cpy at hib
    by_cases q : i1 ≤ i ∧ i < i1 + ln
    · rw [if_pos q] at hib
      exact hg.2.2.2.2.1 _ _ _ hib
    · rw [if_neg q] at hib
      exact hg.2.2.2.2.1 _ _ _ hib
theorem r_oinit {X : Ctx} {y : MethodName} {cc : ByteArray} {nL : Nat} {ret : Option FieldType} {hh : List (Nat × Nat × Nat × Nat)} {f mc ms : Nat} (C : Cx X y cc nL ret hh f mc ms) {k n pc : Nat} {LS st : List Value} {h : Hp} {a idx : Nat} (hd : decode cc pc = .ok (.invokespecial idx, 3)) (hf1 : 1 ≤ f) (hlen : LS.length = nL) (hst : (st.map fun v => v.category).sum ≤ 8) (w1 : Wk (.methodLink y.cls idx Lib.objectInit)) (w2 : Wk (.instanceMethod Lib.objectInit)) (w3 : Wk (.code Lib.objectInit ⟨#[0xb1]⟩ 1 none)) (K : wr X k n (pc + 3) LS st h) : wr X k n pc LS (.ref a :: st) h := by
  obtain ⟨p, l, e, R, s, m, args, below, meth, c, G, ρ0, n0, Q⟩ := X
  obtain ⟨hx, hb, hml, hret, hown, hlk, hnm, htb, htr, hE, hsz, hf, hmc, hms, hlo⟩ := C
  intro ρ H locs ls hWo hS hLV hv1 hv2 hρ
  have hw := hE.2.1.1
  have hsum := sum1 hst ρ
  exact W.objInit hx hb hown (hw _ w1 args) (hw _ w2 args) (hw _ w3 args) rfl (by rw [hml]; show ls.size = nL; rw [hLV.1.1, hlen]) rfl hd (by omega) (by show 2 * 0 + _ + 12 ≤ _; omega) (K ρ H locs ls hWo hS hLV hv1 (vl_t hv2) hρ)
theorem end_ok {G : Gf} {ρ ρ0 : Nat → Nat} {n0 : Nat} {h : Hp} {H : Heap} {locs : List Loc} {s t : State} {v : Option Value} (hWo : Wo G ρ h H) (hS : va_S (gA G) s.heap H locs) (hv : ∀ w, v = some w → vld (hN h) w) (hρ : n0 ≤ hN h ∧ ∀ a, a < n0 → ρ a = ρ0 a) (ht : t.heap = H) (args : Array Value) : QcR G ρ0 n0 (.inl (v, h)) args s (.returned (v.map (upv ρ))) t :=
  ⟨⟨v, h, ρ, rfl, rfl, hv, by rw [ht]; exact hWo, hρ.1, hρ.2⟩, hS.F ht⟩
theorem r_vret {X : Ctx} {y : MethodName} {cc : ByteArray} {nL : Nat} {ret : Option FieldType} {hh : List (Nat × Nat × Nat × Nat)} {f mc ms : Nat} (C : Cx X y cc nL ret hh f mc ms) {k n pc : Nat} {LS : List Value} {h : Hp} {mc9 ms9 : Nat} (E9 : Ex X mc9 ms9 (.inl (none, h))) (hd : decode cc pc = .ok (.return_, 1)) (hr9 : ret = none) (hk9 : k ≤ mc9) (hn9 : n ≤ ms9) : wr X k n pc LS [] h := by
  obtain ⟨p, l, e, R, s, m, args, below, meth, c, G, ρ0, n0, Q⟩ := X
  obtain ⟨hx, hb, hml, hret, hown, hlk, hnm, htb, htr, hE, hsz, hf, hmc, hms, hlo⟩ := C
  intro ρ H locs ls hWo hS hLV hv1 hv2 hρ
  have hEx : Q = vx_MQ below (QcR G ρ0 n0 (.inl (none, h))) (XCR G ρ0 n0 (.inl (none, h))) args s mc9 ms9 (gA G) := E9
  rw [hEx]
  refine W.widen (k := mc9) (n := ms9) hk9 hn9 ?_
  exact vx_ret (W.vret hx hb (by rw [hret, hr9]) (fun t ht _ => end_ok hWo hS (fun w hw => by cases hw) hρ ht args) hS.2.2 hd hlk)
theorem r_iret {X : Ctx} {y : MethodName} {cc : ByteArray} {nL : Nat} {ret : Option FieldType} {hh : List (Nat × Nat × Nat × Nat)} {f mc ms : Nat} (C : Cx X y cc nL ret hh f mc ms) {k n pc : Nat} {LS : List Value} {h : Hp} {mc9 ms9 : Nat} {v : Int32} {ty : FieldType} (E9 : Ex X mc9 ms9 (.inl (some (.int v), h))) (hd : decode cc pc = .ok (.ireturn, 1)) (hr9 : ret = some ty) (hnr : narrow ty (.int v) = .int v) (hk9 : k ≤ mc9) (hn9 : n ≤ ms9) : wr X k n pc LS [.int v] h := by
  obtain ⟨p, l, e, R, s, m, args, below, meth, c, G, ρ0, n0, Q⟩ := X
  obtain ⟨hx, hb, hml, hret, hown, hlk, hnm, htb, htr, hE, hsz, hf, hmc, hms, hlo⟩ := C
  intro ρ H locs ls hWo hS hLV hv1 hv2 hρ
  have hEx : Q = vx_MQ below (QcR G ρ0 n0 (.inl (some (.int v), h))) (XCR G ρ0 n0 (.inl (some (.int v), h))) args s mc9 ms9 (gA G) := E9
  rw [hEx]
  refine W.widen (k := mc9) (n := ms9) hk9 hn9 ?_
  exact vx_ret (W.zret hx hb (by rw [hret, hr9]) hnr (fun t ht _ => end_ok (v := some (.int v)) hWo hS (fun w hw => by cases hw; trivial) hρ ht args) hS.2.2 hd hlk)
theorem r_aret {X : Ctx} {y : MethodName} {cc : ByteArray} {nL : Nat} {ret : Option FieldType} {hh : List (Nat × Nat × Nat × Nat)} {f mc ms : Nat} (C : Cx X y cc nL ret hh f mc ms) {k n pc : Nat} {LS : List Value} {h : Hp} {mc9 ms9 : Nat} {o : Option Nat} {ty : FieldType} (E9 : Ex X mc9 ms9 (.inl (some (va_rf o), h))) (hd : decode cc pc = .ok (.areturn, 1)) (hr9 : ret = some ty) (hty : isRf ty = true) (hk9 : k ≤ mc9) (hn9 : n ≤ ms9) : wr X k n pc LS [va_rf o] h := by
  obtain ⟨p, l, e, R, s, m, args, below, meth, c, G, ρ0, n0, Q⟩ := X
  obtain ⟨hx, hb, hml, hret, hown, hlk, hnm, htb, htr, hE, hsz, hf, hmc, hms, hlo⟩ := C
  intro ρ H locs ls hWo hS hLV hv1 hv2 hρ
  have hEx : Q = vx_MQ below (QcR G ρ0 n0 (.inl (some (va_rf o), h))) (XCR G ρ0 n0 (.inl (some (va_rf o), h))) args s mc9 ms9 (gA G) := E9
  rw [hEx]
  refine W.widen (k := mc9) (n := ms9) hk9 hn9 ?_
  have hrt : (∃ n, ty = .object n) ∨ ∃ t, ty = .array t := by
    cases ty <;> first | exact Or.inl ⟨_, rfl⟩ | exact Or.inr ⟨_, rfl⟩ | cases hty
  have hvv : upv ρ (va_rf o) = .null ∨ ∃ a, upv ρ (va_rf o) = .ref a := by
    cases o with
    | none => exact Or.inl rfl
    | some a => exact Or.inr ⟨_, rfl⟩
  exact vx_ret (W.aret (v := upv ρ (va_rf o)) hx hb (by rw [hret, hr9]) hrt hvv (fun t ht _ => end_ok (v := some (va_rf o)) hWo hS (fun w hw => by cases hw; exact vl_h hv2) hρ ht args) hS.2.2 hd hlk)
