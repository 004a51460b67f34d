def mT (ci : Nat) : u_T := match mCl[ci]? with
  | some q => q.2.1
  | none => TX0
/-- a field's link from a class, with all that its rows want: kind ci, place kf, number fi -/
def FL (own : String) (idx ci kf fi : Nat) (fin : Bool) : Prop := ∃ (Cn : String) (T : u_T) (N : Nat) (ref : String),
  mCl[ci]? = some (Cn, T, N) ∧ ci < 100 ∧ cnt ci = N ∧ kf < N ∧ (T kf).2.2.2 = fin ∧ (∀ w ∈ u_ws Cn T N, Wk w) ∧ Wk (.fieldLink own idx ref (T kf).2.1 (T kf).2.2.1) ∧
  (ref = (T kf).1 ∨ Wk (.sameField ref (T kf).1 (T kf).2.1 (T kf).2.2.1)) ∧ (∀ j, j < N → parseFieldDescriptor (T j).2.2.1 = some (cty ci j)) ∧ (∀ a, a < N → ∀ b, b < N → a ≠ b → (T a).2.1 ≠ (T b).2.1) ∧ ci * 64 + kf = fi
def fOf (X : Ctx) : Gf := X.2.2.2.2.2.2.2.2.2.2.1
def gOf (X : Ctx) : Gl := gZ (fOf X)
def lOf (X : Ctx) : Launch := X.2.1
theorem fld_int {ρ : Nat → Nat} {h : Hp} {c a k : Nat} (hr : isRf (cty c k) = false) : fld ρ h c a k = .int (hI h (c * 64 + k) a) := by
  unfold fld
  rw [hr]
  rfl
theorem fld_ref {ρ : Nat → Nat} {h : Hp} {c a k : Nat} (hr : isRf (cty c k) = true) : fld ρ h c a k = va_rf ((hR h (c * 64 + k) a).map ρ) := by
  unfold fld
  rw [if_pos hr]
theorem rf_nar {t : FieldType} (h : isRf t = true) (o : Option Nat) : narrow t (va_rf o) = va_rf o ∧ fits t (va_rf o) = true := by
  cases t <;> first | (cases h; done) | (cases o <;> exact ⟨rfl, rfl⟩)
theorem bo_nar {v : Int32} (h : v = 0 ∨ v = 1) : narrow .boolean (.int v) = .int v ∧ fits .boolean (.int v) = true := by
  rcases h with rfl | rfl <;> exact ⟨by decide, by decide⟩
theorem aty_at (G : Gf) {i : Nat} (h : i < 6) : ∃ t, (aty G)[i]? = some (gC G i, t) := by
  match i, h with
  | 0, _ => exact ⟨_, rfl⟩
  | 1, _ => exact ⟨_, rfl⟩
  | 2, _ => exact ⟨_, rfl⟩
  | 3, _ => exact ⟨_, rfl⟩
  | 4, _ => exact ⟨_, rfl⟩
  | 5, _ => exact ⟨_, rfl⟩
def enm (i : Nat) : String := match i with
  | 0 => "java/lang/Object"
  | 1 => RX7
  | _ => RX1
theorem aty_ref (G : Gf) {i : Nat} (h : i < 3) : (aty G)[3 + i]? = some (gC G (3 + i), .object (enm i)) := by
  match i, h with
  | 0, _ => rfl
  | 1, _ => rfl
  | 2, _ => rfl
theorem ce_sA_int {G : Gf} {ρ : Nat → Nat} {h : Hp} {a j : Nat} {v : Int32} (hk : hK h a = 100) : ce G ρ (sA h a j v) a = .inl (gC G 0, hL h a, .inl (va_up (hA h a) j v)) := by
  rw [ce_int (show hK (sA h a j v) a = 100 from hk), show hA (sA h a j v) a = va_up (hA h a) j v from va_up_self _ _ _]
  rfl
theorem ce_sA_boo {G : Gf} {ρ : Nat → Nat} {h : Hp} {a j : Nat} {v : Int32} (hk : hK h a = 101) : ce G ρ (sA h a j v) a = .inl (gC G 1, hL h a, .inl (va_up (hA h a) j v)) := by
  rw [ce_boo (show hK (sA h a j v) a = 101 from hk), show hA (sA h a j v) a = va_up (hA h a) j v from va_up_self _ _ _]
  rfl
theorem ce_sW_lon {G : Gf} {ρ : Nat → Nat} {h : Hp} {a j : Nat} {v : Int64} (hk : hK h a = 102) : ce G ρ (sW h a j v) a = .inl (gC G 2, hL h a, .inr (.inl (va_up (hW h a) j v))) := by
  rw [ce_lon (show hK (sW h a j v) a = 102 from hk), show hW (sW h a j v) a = va_up (hW h a) j v from va_up_self _ _ _]
  rfl
theorem ce_sQf_ref {G : Gf} {ρ : Nat → Nat} {h : Hp} {a i : Nat} {g : Nat → Option Nat} (hk : hK h a = 103 + i) : ce G ρ (sQf h a g) a = .inl (gC G (3 + i), hL h a, .inr (.inr (.inr (.inr (fun j => (g j).map ρ))))) := by
  rw [ce_ref (show hK (sQf h a g) a = 103 + i from hk), show hQ (sQf h a g) a = g from va_up_self _ _ _]
  rfl
theorem sQ_f (h : Hp) (a j : Nat) (v : Option Nat) : sQ h a j v = sQf h a (va_up (hQ h a) j v) := rfl
theorem up_map (ρ : Nat → Nat) (g : Nat → Option Nat) (j : Nat) (v : Option Nat) : (fun i => (va_up g j v i).map ρ) = va_up (fun i => (g i).map ρ) j (v.map ρ) := by
  funext i
  by_cases q : i = j
  · subst q
    rw [va_up_self, va_up_self]
  · rw [va_up_ne _ _ q, va_up_ne _ _ q]
theorem r_getI {X : Ctx} {y : MethodName} {cc : ByteArray} {nL : Nat} {ret : Option FieldType} {hh : List (Nat × Nat × Nat × Nat)} {f mc ms : Nat} (C : Cx X y cc nL ret hh f mc ms) {k n pc : Nat} {LS st : List Value} {h : Hp} {a ci kf fi idx : Nat} {fin : Bool} (F : FL y.cls idx ci kf fi fin) (hd : decode cc pc = .ok (.getfield idx, 3)) (hr : isRf (cty ci kf) = false) (hk : hK h a = ci) (K : wr X k n (pc + 3) LS (.int (hI h fi a) :: st) h) : wr X k n pc LS (.ref a :: st) h := by
  obtain ⟨p, l, e, R, s, m, args, below, meth, c, G, ρ0, n0, Q⟩ := X
  obtain ⟨hx, hb, hml, hret, hown, hlk, hnm, htb, htr, hE, hsz, hf, hmc, hms, hlo⟩ := C
  intro ρ H locs ls hWo hS hLV hv1 hv2 hρ
  obtain ⟨Cn, T, N, ref, e1, e2, e3, e4, e5, e6, e7, e8, e9, e10, e11⟩ := F
  obtain ⟨h6, ha⟩ := kind_in hWo.2.2.1 hk (by omega)
  have hw := hE.2.1.1
  have he := wsF_get G ρ h h6 ha
  rw [ce_obj hk e2] at he
  have hK' := K ρ H locs ls hWo hS hLV hv1 (vl_c trivial (vl_t hv2)) hρ
  subst e11
  exact va_get (D := gD G) (ci := ci) (v := .int (hI h (ci * 64 + kf) a)) (C := Cn) (T := T) (N := N) (Ts := u_ws Cn T N) hx hb (fun w hm => hw w (e6 w hm) args) (fun _ hm => hm) hown hE.1 hWo.1 (a - 6) he e1 kf e4 (hw _ e7 args) (by rcases e8 with q | q; exact (fun _ h9 => by rw [q]; exact h9); exact (fun x hx9 => u_same (hw _ q args) x hx9)) (by rw [e3]; simp [e4, fld_int hr]) hd hK'
theorem r_getR {X : Ctx} {y : MethodName} {cc : ByteArray} {nL : Nat} {ret : Option FieldType} {hh : List (Nat × Nat × Nat × Nat)} {f mc ms : Nat} (C : Cx X y cc nL ret hh f mc ms) {k n pc : Nat} {LS st : List Value} {h : Hp} {a ci kf fi idx : Nat} {fin : Bool} (F : FL y.cls idx ci kf fi fin) (hd : decode cc pc = .ok (.getfield idx, 3)) (hr : isRf (cty ci kf) = true) (hk : hK h a = ci) (K : wr X k n (pc + 3) LS (va_rf (hR h fi a) :: st) h) : wr X k n pc LS (.ref a :: st) h := by
  obtain ⟨p, l, e, R, s, m, args, below, meth, c, G, ρ0, n0, Q⟩ := X
  obtain ⟨hx, hb, hml, hret, hown, hlk, hnm, htb, htr, hE, hsz, hf, hmc, hms, hlo⟩ := C
  intro ρ H locs ls hWo hS hLV hv1 hv2 hρ
  obtain ⟨Cn, T, N, ref, e1, e2, e3, e4, e5, e6, e7, e8, e9, e10, e11⟩ := F
  obtain ⟨h6, ha⟩ := kind_in hWo.2.2.1 hk (by omega)
  have hw := hE.2.1.1
  have he := wsF_get G ρ h h6 ha
  rw [ce_obj hk e2] at he
  have hK' := K ρ H locs ls hWo hS hLV hv1 (vl_c (vld_rf (fun b hb9 => hWo.2.2.1.2.2.2.1 _ _ _ hb9)) (vl_t hv2)) hρ
  rw [List.map_cons, upv_rf] at hK'
  subst e11
  exact va_get (D := gD G) (ci := ci) (v := va_rf ((hR h (ci * 64 + kf) a).map ρ)) (C := Cn) (T := T) (N := N) (Ts := u_ws Cn T N) hx hb (fun w hm => hw w (e6 w hm) args) (fun _ hm => hm) hown hE.1 hWo.1 (a - 6) he e1 kf e4 (hw _ e7 args) (by rcases e8 with q | q; exact (fun _ h9 => by rw [q]; exact h9); exact (fun x hx9 => u_same (hw _ q args) x hx9)) (by rw [e3]; simp [e4, fld_ref hr]) hd hK'
def meth_nm (X : Ctx) : String := X.2.2.2.2.2.2.2.2.1.name
theorem r_putI {X : Ctx} {y : MethodName} {cc : ByteArray} {nL : Nat} {ret : Option FieldType} {hh : List (Nat × Nat × Nat × Nat)} {f mc ms : Nat} (C : Cx X y cc nL ret hh f mc ms) {k n pc : Nat} {LS st : List Value} {h : Hp} {a ci kf fi idx : Nat} {v : Int32} (F : FL y.cls idx ci kf fi false) (hd : decode cc pc = .ok (.putfield idx, 3)) (hr : isRf (cty ci kf) = false) (hnr : narrow (cty ci kf) (.int v) = .int v) (hft : fits (cty ci kf) (.int v) = true) (hk : hK h a = ci) (K : wr X k n (pc + 3) LS st (sI h fi a v)) : wr X k n pc LS (.int v :: .ref a :: st) h := by
  obtain ⟨p, l, e, R, s, m, args, below, meth, c, G, ρ0, n0, Q⟩ := X
  obtain ⟨hx, hb, hml, hret, hown, hlk, hnm, htb, htr, hE, hsz, hf, hmc, hms, hlo⟩ := C
  intro ρ H locs ls hWo hS hLV hv1 hv2 hρ
  obtain ⟨Cn, T, N, ref, e1, e2, e3, e4, e5, e6, e7, e8, e9, e10, e11⟩ := F
  obtain ⟨h6, ha⟩ := kind_in hWo.2.2.1 hk (by omega)
  have hw := hE.2.1.1
  have he := wsF_get G ρ h h6 ha
  rw [ce_obj hk e2] at he
  subst e11
  have es := wsF_set (G := G) (ρ := ρ) (h' := sI h (ci * 64 + kf) a v) h6 ha rfl (ce_sI hk e2 hr) (fun b hb9 => ce_sI_ne hb9)
  refine va_put (D := gD G) (ci := ci) (v := .int v) (C := Cn) (T := T) (N := N) (Ts := u_ws Cn T N) hx hb (fun w hm => hw w (e6 w hm) args) (fun _ hm => hm) (cty ci) e9 e10 hown hE.1 hWo.1 hWo.2.1 hS (a - 6) he e1 kf e4 (hw _ e7 args) (by rcases e8 with q | q; exact (fun _ h9 => by rw [q]; exact h9); exact (fun x hx9 => u_same (hw _ q args) x hx9)) e5 (e9 kf e4) hnr hft (by simp [e3, e4]) hd (fun H1 locs1 hP1 hD1 hS1 => ?_)
  rw [es] at hP1 hD1
  exact K ρ H1 locs1 ls ⟨hP1, hD1, gd_sI hWo.2.2.1 ha, hWo.2.2.2⟩ hS1 hLV hv1 (vl_t (vl_t hv2)) hρ
theorem r_putR {X : Ctx} {y : MethodName} {cc : ByteArray} {nL : Nat} {ret : Option FieldType} {hh : List (Nat × Nat × Nat × Nat)} {f mc ms : Nat} (C : Cx X y cc nL ret hh f mc ms) {k n pc : Nat} {LS st : List Value} {h : Hp} {a ci kf fi idx : Nat} {o : Option Nat} (F : FL y.cls idx ci kf fi false) (hd : decode cc pc = .ok (.putfield idx, 3)) (hr : isRf (cty ci kf) = true) (hk : hK h a = ci) (K : wr X k n (pc + 3) LS st (sR h fi a o)) : wr X k n pc LS (va_rf o :: .ref a :: st) h := by
  obtain ⟨p, l, e, R, s, m, args, below, meth, c, G, ρ0, n0, Q⟩ := X
  obtain ⟨hx, hb, hml, hret, hown, hlk, hnm, htb, htr, hE, hsz, hf, hmc, hms, hlo⟩ := C
  intro ρ H locs ls hWo hS hLV hv1 hv2 hρ
  obtain ⟨Cn, T, N, ref, e1, e2, e3, e4, e5, e6, e7, e8, e9, e10, e11⟩ := F
  obtain ⟨h6, ha⟩ := kind_in hWo.2.2.1 hk (by omega)
  have hw := hE.2.1.1
  have he := wsF_get G ρ h h6 ha
  rw [ce_obj hk e2] at he
  have hvo : ∀ b, o = some b → b < hN h := fun b hb9 => by
    subst hb9
    exact vl_h hv2
  rw [List.map_cons, upv_rf]
  subst e11
  have es := wsF_set (G := G) (ρ := ρ) (h' := sR h (ci * 64 + kf) a o) h6 ha rfl (ce_sR hk e2 hr) (fun b hb9 => ce_sR_ne hb9)
  refine va_put (D := gD G) (ci := ci) (v := va_rf (o.map ρ)) (C := Cn) (T := T) (N := N) (Ts := u_ws Cn T N) hx hb (fun w hm => hw w (e6 w hm) args) (fun _ hm => hm) (cty ci) e9 e10 hown hE.1 hWo.1 hWo.2.1 hS (a - 6) he e1 kf e4 (hw _ e7 args) (by rcases e8 with q | q; exact (fun _ h9 => by rw [q]; exact h9); exact (fun x hx9 => u_same (hw _ q args) x hx9)) e5 (e9 kf e4) (rf_nar hr _).1 (rf_nar hr _).2 (by simp [e3, e4]) hd (fun H1 locs1 hP1 hD1 hS1 => ?_)
  rw [es] at hP1 hD1
  exact K ρ H1 locs1 ls ⟨hP1, hD1, gd_sR hWo.2.2.1 ha hvo, hWo.2.2.2⟩ hS1 hLV hv1 (vl_t (vl_t hv2)) hρ
theorem r_putFI {X : Ctx} {y : MethodName} {cc : ByteArray} {nL : Nat} {ret : Option FieldType} {hh : List (Nat × Nat × Nat × Nat)} {f mc ms : Nat} (C : Cx X y cc nL ret hh f mc ms) {k n pc : Nat} {LS st : List Value} {h : Hp} {a ci kf fi idx : Nat} {v : Int32} (F : FL y.cls idx ci kf fi true) (hd : decode cc pc = .ok (.putfield idx, 3)) (hr : isRf (cty ci kf) = false) (hnr : narrow (cty ci kf) (.int v) = .int v) (hft : fits (cty ci kf) (.int v) = true) (hin : meth_nm X = "<init>") (hdc : (mT ci kf).1 = y.cls) (hk : hK h a = ci) (K : wr X k n (pc + 3) LS st (sI h fi a v)) : wr X k n pc LS (.int v :: .ref a :: st) h := by
  obtain ⟨p, l, e, R, s, m, args, below, meth, c, G, ρ0, n0, Q⟩ := X
  obtain ⟨hx, hb, hml, hret, hown, hlk, hnm, htb, htr, hE, hsz, hf, hmc, hms, hlo⟩ := C
  intro ρ H locs ls hWo hS hLV hv1 hv2 hρ
  obtain ⟨Cn, T, N, ref, e1, e2, e3, e4, e5, e6, e7, e8, e9, e10, e11⟩ := F
  obtain ⟨h6, ha⟩ := kind_in hWo.2.2.1 hk (by omega)
  have hw := hE.2.1.1
  have he := wsF_get G ρ h h6 ha
  rw [ce_obj hk e2] at he
  subst e11
  have es := wsF_set (G := G) (ρ := ρ) (h' := sI h (ci * 64 + kf) a v) h6 ha rfl (ce_sI hk e2 hr) (fun b hb9 => ce_sI_ne hb9)
  have hin9 : meth.name = "<init>" := hin
  have hdc9 : (T kf).1 = y.cls := by
    have q := hdc
    unfold mT at q
    rw [e1] at q
    exact q
  refine va_putF (D := gD G) (ci := ci) (v := .int v) (C := Cn) (T := T) (N := N) (Ts := u_ws Cn T N) hx hb (fun w hm => hw w (e6 w hm) args) (fun _ hm => hm) (cty ci) e9 e10 hown hE.1 hWo.1 hWo.2.1 hS (a - 6) he e1 kf e4 (hw _ e7 args) (by rcases e8 with q | q; exact (fun _ h9 => by rw [q]; exact h9); exact (fun x hx9 => u_same (hw _ q args) x hx9)) e5 hin9 hdc9 (e9 kf e4) hnr hft (by simp [e3, e4]) hd (fun H1 locs1 hP1 hD1 hS1 => ?_)
  rw [es] at hP1 hD1
  exact K ρ H1 locs1 ls ⟨hP1, hD1, gd_sI hWo.2.2.1 ha, hWo.2.2.2⟩ hS1 hLV hv1 (vl_t (vl_t hv2)) hρ
theorem r_putFR {X : Ctx} {y : MethodName} {cc : ByteArray} {nL : Nat} {ret : Option FieldType} {hh : List (Nat × Nat × Nat × Nat)} {f mc ms : Nat} (C : Cx X y cc nL ret hh f mc ms) {k n pc : Nat} {LS st : List Value} {h : Hp} {a ci kf fi idx : Nat} {o : Option Nat} (F : FL y.cls idx ci kf fi true) (hd : decode cc pc = .ok (.putfield idx, 3)) (hr : isRf (cty ci kf) = true) (hin : meth_nm X = "<init>") (hdc : (mT ci kf).1 = y.cls) (hk : hK h a = ci) (K : wr X k n (pc + 3) LS st (sR h fi a o)) : wr X k n pc LS (va_rf o :: .ref a :: st) h := by
  obtain ⟨p, l, e, R, s, m, args, below, meth, c, G, ρ0, n0, Q⟩ := X
  obtain ⟨hx, hb, hml, hret, hown, hlk, hnm, htb, htr, hE, hsz, hf, hmc, hms, hlo⟩ := C
  intro ρ H locs ls hWo hS hLV hv1 hv2 hρ
  obtain ⟨Cn, T, N, ref, e1, e2, e3, e4, e5, e6, e7, e8, e9, e10, e11⟩ := F
  obtain ⟨h6, ha⟩ := kind_in hWo.2.2.1 hk (by omega)
  have hw := hE.2.1.1
  have he := wsF_get G ρ h h6 ha
  rw [ce_obj hk e2] at he
  have hvo : ∀ b, o = some b → b < hN h := fun b hb9 => by
    subst hb9
    exact vl_h hv2
  rw [List.map_cons, upv_rf]
  subst e11
  have es := wsF_set (G := G) (ρ := ρ) (h' := sR h (ci * 64 + kf) a o) h6 ha rfl (ce_sR hk e2 hr) (fun b hb9 => ce_sR_ne hb9)
  have hin9 : meth.name = "<init>" := hin
  have hdc9 : (T kf).1 = y.cls := by
    have q := hdc
    unfold mT at q
    rw [e1] at q
    exact q
  refine va_putF (D := gD G) (ci := ci) (v := va_rf (o.map ρ)) (C := Cn) (T := T) (N := N) (Ts := u_ws Cn T N) hx hb (fun w hm => hw w (e6 w hm) args) (fun _ hm => hm) (cty ci) e9 e10 hown hE.1 hWo.1 hWo.2.1 hS (a - 6) he e1 kf e4 (hw _ e7 args) (by rcases e8 with q | q; exact (fun _ h9 => by rw [q]; exact h9); exact (fun x hx9 => u_same (hw _ q args) x hx9)) e5 hin9 hdc9 (e9 kf e4) (rf_nar hr _).1 (rf_nar hr _).2 (by simp [e3, e4]) hd (fun H1 locs1 hP1 hD1 hS1 => ?_)
  rw [es] at hP1 hD1
  exact K ρ H1 locs1 ls ⟨hP1, hD1, gd_sR hWo.2.2.1 ha hvo, hWo.2.2.2⟩ hS1 hLV hv1 (vl_t (vl_t hv2)) hρ
theorem r_iald {X : Ctx} {y : MethodName} {cc : ByteArray} {nL : Nat} {ret : Option FieldType} {hh : List (Nat × Nat × Nat × Nat)} {f mc ms : Nat} (C : Cx X y cc nL ret hh f mc ms) {k n pc : Nat} {LS st : List Value} {h : Hp} {a j : Nat} {i : Int32} (hd : decode cc pc = .ok (.iaload, 1)) (hk : hK h a = 100) (hi : i = nI j) (hj : j < hL h a) (K : wr X k n (pc + 1) LS (.int (hA h a j) :: st) h) : wr X k n pc LS (.int i :: .ref a :: st) h := by
  obtain ⟨p, l, e, R, s, m, args, below, meth, c, G, ρ0, n0, Q⟩ := X
  obtain ⟨hx, hb, hml, hret, hown, hlk, hnm, htb, htr, hE, hsz, hf, hmc, hms, hlo⟩ := C
  intro ρ H locs ls hWo hS hLV hv1 hv2 hρ
  obtain ⟨h6, ha⟩ := kind_in hWo.2.2.1 hk (by omega)
  have he := wsF_get G ρ h h6 ha
  have h31 : hL h a < 2 ^ 31 := hWo.2.2.1.2.2.2.2.2.2 a
  have ec : (nI j).toNatClampNeg = j := nI_clamp (by omega)
  subst hi
  rw [ce_int hk] at he
  refine va_iald hx hb hE.1 hWo.1 (a - 6) 0 he rfl (vp_in_nI hj h31) hd ?_
  rw [ec]
  exact K ρ H locs ls hWo hS hLV hv1 (vl_c trivial (vl_t (vl_t hv2))) hρ
theorem r_iast {X : Ctx} {y : MethodName} {cc : ByteArray} {nL : Nat} {ret : Option FieldType} {hh : List (Nat × Nat × Nat × Nat)} {f mc ms : Nat} (C : Cx X y cc nL ret hh f mc ms) {k n pc : Nat} {LS st : List Value} {h : Hp} {a j : Nat} {i : Int32} {v : Int32} (hd : decode cc pc = .ok (.iastore, 1)) (hk : hK h a = 100) (hi : i = nI j) (hj : j < hL h a) (K : wr X k n (pc + 1) LS st (sA h a j v)) : wr X k n pc LS (.int v :: .int i :: .ref a :: st) h := by
  obtain ⟨p, l, e, R, s, m, args, below, meth, c, G, ρ0, n0, Q⟩ := X
  obtain ⟨hx, hb, hml, hret, hown, hlk, hnm, htb, htr, hE, hsz, hf, hmc, hms, hlo⟩ := C
  intro ρ H locs ls hWo hS hLV hv1 hv2 hρ
  obtain ⟨h6, ha⟩ := kind_in hWo.2.2.1 hk (by omega)
  have he := wsF_get G ρ h h6 ha
  have h31 : hL h a < 2 ^ 31 := hWo.2.2.1.2.2.2.2.2.2 a
  have ec : (nI j).toNatClampNeg = j := nI_clamp (by omega)
  subst hi
  have es := wsF_set (G := G) (ρ := ρ) (h' := sA h a j v) h6 ha rfl (ce_sA_int hk) (fun b hb9 => ce_sA_ne hb9)
  rw [ce_int hk] at he
  refine va_iast hx hb hE.1 hWo.1 hWo.2.1 hS (a - 6) 0 he rfl (vp_in_nI hj h31) hd (fun H1 locs1 hP1 hD1 hS1 => ?_)
  rw [ec] at hP1 hD1
  have hP1 : va_P (gD G) mCl ((wsF G ρ h).set (a - 6) (ρ a, _)) H1 := hP1
  have hP2 := es ▸ hP1
  have hD2 := es ▸ hD1
  exact K ρ H1 locs1 ls ⟨hP2, hD2, gd_sA hWo.2.2.1 ha, hWo.2.2.2⟩ hS1 hLV hv1 (vl_t (vl_t (vl_t hv2))) hρ
theorem r_aald {X : Ctx} {y : MethodName} {cc : ByteArray} {nL : Nat} {ret : Option FieldType} {hh : List (Nat × Nat × Nat × Nat)} {f mc ms : Nat} (C : Cx X y cc nL ret hh f mc ms) {k n pc : Nat} {LS st : List Value} {h : Hp} {a j q : Nat} {i : Int32} (hd : decode cc pc = .ok (.aaload, 1)) (hk : hK h a = 103 + q) (hq : q < 3) (hi : i = nI j) (hj : j < hL h a) (K : wr X k n (pc + 1) LS (va_rf (hQ h a j) :: st) h) : wr X k n pc LS (.int i :: .ref a :: st) h := by
  obtain ⟨p, l, e, R, s, m, args, below, meth, c, G, ρ0, n0, Q⟩ := X
  obtain ⟨hx, hb, hml, hret, hown, hlk, hnm, htb, htr, hE, hsz, hf, hmc, hms, hlo⟩ := C
  intro ρ H locs ls hWo hS hLV hv1 hv2 hρ
  obtain ⟨h6, ha⟩ := kind_in hWo.2.2.1 hk (by omega)
  have he := wsF_get G ρ h h6 ha
  have h31 : hL h a < 2 ^ 31 := hWo.2.2.1.2.2.2.2.2.2 a
  have ec : (nI j).toNatClampNeg = j := nI_clamp (by omega)
  subst hi
  rw [ce_ref hk] at he
  refine va_aldq hx hb hE.1 hWo.1 (a - 6) (3 + q) he (aty_ref G hq) (vp_in_nI hj h31) hd ?_
  rw [ec]
  have hK' := K ρ H locs ls hWo hS hLV hv1 (vl_c (vld_rf (fun b hb9 => hWo.2.2.1.2.2.2.2.1 _ _ _ hb9)) (vl_t (vl_t hv2))) hρ
  rw [List.map_cons, upv_rf] at hK'
  exact hK'
theorem r_aastN {X : Ctx} {y : MethodName} {cc : ByteArray} {nL : Nat} {ret : Option FieldType} {hh : List (Nat × Nat × Nat × Nat)} {f mc ms : Nat} (C : Cx X y cc nL ret hh f mc ms) {k n pc : Nat} {LS st : List Value} {h : Hp} {a j q : Nat} {i : Int32} (hd : decode cc pc = .ok (.aastore, 1)) (hk : hK h a = 103 + q) (hq : q < 3) (hi : i = nI j) (hj : j < hL h a) (K : wr X k n (pc + 1) LS st (sQ h a j none)) : wr X k n pc LS (.null :: .int i :: .ref a :: st) h := by
  obtain ⟨p, l, e, R, s, m, args, below, meth, c, G, ρ0, n0, Q⟩ := X
  obtain ⟨hx, hb, hml, hret, hown, hlk, hnm, htb, htr, hE, hsz, hf, hmc, hms, hlo⟩ := C
  intro ρ H locs ls hWo hS hLV hv1 hv2 hρ
  obtain ⟨h6, ha⟩ := kind_in hWo.2.2.1 hk (by omega)
  have he := wsF_get G ρ h h6 ha
  have h31 : hL h a < 2 ^ 31 := hWo.2.2.1.2.2.2.2.2.2 a
  have ec : (nI j).toNatClampNeg = j := nI_clamp (by omega)
  subst hi
  have es := wsF_set (G := G) (ρ := ρ) (h' := sQ h a j none) h6 ha rfl (by rw [sQ_f, ce_sQf_ref hk, up_map]) (fun b hb9 => ce_sQf_ne hb9)
  rw [ce_ref hk] at he
  refine va_astqN hx hb hE.1 hWo.1 hWo.2.1 hS (a - 6) (3 + q) he (aty_ref G hq) (vp_in_nI hj h31) hd (fun H1 locs1 hP1 hD1 hS1 => ?_)
  rw [ec] at hP1 hD1
  have hP2 := es ▸ hP1
  have hD2 := es ▸ hD1
  refine K ρ H1 locs1 ls ⟨hP2, hD2, gd_sQf hWo.2.2.1 ha (fun i b hib => ?_), hWo.2.2.2⟩ hS1 hLV hv1 (vl_t (vl_t (vl_t hv2))) hρ
  by_cases e : i = j
  · subst e
    rw [va_up_self] at hib
    cases hib
  · rw [va_up_ne _ _ e] at hib
    exact hWo.2.2.1.2.2.2.2.1 _ _ _ hib
theorem r_aastX {X : Ctx} {y : MethodName} {cc : ByteArray} {nL : Nat} {ret : Option FieldType} {hh : List (Nat × Nat × Nat × Nat)} {f mc ms : Nat} (C : Cx X y cc nL ret hh f mc ms) {k n pc : Nat} {LS st : List Value} {h : Hp} {a j q v cv : Nat} {i : Int32} {r : vw_C} (hd : decode cc pc = .ok (.aastore, 1)) (hk : hK h a = 103 + q) (hq : q < 3) (hi : i = nI j) (hj : j < hL h a) (hkv : hK h v = cv) (hcv : cv < 100) (hr : mCl[cv]? = some r) (hrn : r.1 = enm q) (K : wr X k n (pc + 1) LS st (sQ h a j (some v))) : wr X k n pc LS (.ref v :: .int i :: .ref a :: st) h := by
  obtain ⟨p, l, e, R, s, m, args, below, meth, c, G, ρ0, n0, Q⟩ := X
  obtain ⟨hx, hb, hml, hret, hown, hlk, hnm, htb, htr, hE, hsz, hf, hmc, hms, hlo⟩ := C
  intro ρ H locs ls hWo hS hLV hv1 hv2 hρ
  obtain ⟨h6, ha⟩ := kind_in hWo.2.2.1 hk (by omega)
  have he := wsF_get G ρ h h6 ha
  have h31 : hL h a < 2 ^ 31 := hWo.2.2.1.2.2.2.2.2.2 a
  have ec : (nI j).toNatClampNeg = j := nI_clamp (by omega)
  subst hi
  have es := wsF_set (G := G) (ρ := ρ) (h' := sQ h a j (some v)) h6 ha rfl (by rw [sQ_f, ce_sQf_ref hk, up_map]) (fun b hb9 => ce_sQf_ne hb9)
  rw [ce_ref hk] at he
  obtain ⟨g6, ga⟩ := kind_in hWo.2.2.1 hkv (by omega)
  have hev := wsF_get G ρ h g6 ga
  rw [ce_obj hkv hcv] at hev
  refine va_astq hx hb hE.1 hWo.1 hWo.2.1 hS (a - 6) (3 + q) (v - 6) cv he (by rw [hrn]; exact aty_ref G hq) hev hr (vp_in_nI hj h31) hd (fun H1 locs1 hP1 hD1 hS1 => ?_)
  rw [ec] at hP1 hD1
  have hP2 := es ▸ hP1
  have hD2 := es ▸ hD1
  refine K ρ H1 locs1 ls ⟨hP2, hD2, gd_sQf hWo.2.2.1 ha (fun i b hib => ?_), hWo.2.2.2⟩ hS1 hLV hv1 (vl_t (vl_t (vl_t hv2))) hρ
  by_cases e : i = j
  · subst e
    rw [va_up_self] at hib
    cases hib; exact ga
  · rw [va_up_ne _ _ e] at hib
    exact hWo.2.2.1.2.2.2.2.1 _ _ _ hib
theorem rec_at {G : Gf} {ρ : Nat → Nat} {h : Hp} {H : Heap} {s : State} {a ci : Nat} {r : vw_C} (hE : Ev G s) (hWo : Wo G ρ h H) (hk : hK h a = ci) (hc : ci < 100) (hr : mCl[ci]? = some r) : ∃ cell : Cell, H[ρ a]? = some cell ∧ cell.vm.isStatics = false ∧ s.vm.findClass r.1 = some cell.cls := by
  obtain ⟨h6, ha⟩ := kind_in hWo.2.2.1 hk (by omega)
  have he := wsF_get G ρ h h6 ha
  rw [ce_obj hk hc] at he
  exact va_recv hE.1 hWo.1 hr he
theorem cast_asg {s : State} {C D : String} (h : va_Nw (.castable C D) s) : ∀ comp c0 : ClassId, s.vm.findClass D = some comp → s.vm.findClass C = some c0 → s.vm.assignable c0 comp = true := by
  intro comp c0 h1 h2
  obtain ⟨a, b, ha, hb, hab⟩ := Cond.castable_spec (args := #[]) h
  cases Option.some.inj (ha.symm.trans h2)
  cases Option.some.inj (hb.symm.trans h1)
  exact hab
theorem r_aastO {X : Ctx} {y : MethodName} {cc : ByteArray} {nL : Nat} {ret : Option FieldType} {hh : List (Nat × Nat × Nat × Nat)} {f mc ms : Nat} (C : Cx X y cc nL ret hh f mc ms) {k n pc : Nat} {LS st : List Value} {h : Hp} {a j v cv : Nat} {i : Int32} {r : vw_C} (hd : decode cc pc = .ok (.aastore, 1)) (hk : hK h a = 103) (hi : i = nI j) (hj : j < hL h a) (hkv : hK h v = cv) (hcv : cv < 100) (hr : mCl[cv]? = some r) (hrn : (r.1, "java/lang/Object") ∈ castL) (K : wr X k n (pc + 1) LS st (sQ h a j (some v))) : wr X k n pc LS (.ref v :: .int i :: .ref a :: st) h := by
  obtain ⟨p, l, e, R, s, m, args, below, meth, c, G, ρ0, n0, Q⟩ := X
  obtain ⟨hx, hb, hml, hret, hown, hlk, hnm, htb, htr, hE, hsz, hf, hmc, hms, hlo⟩ := C
  intro ρ H locs ls hWo hS hLV hv1 hv2 hρ
  have hk : hK h a = 103 + 0 := hk
  obtain ⟨h6, ha⟩ := kind_in hWo.2.2.1 hk (by omega)
  have he := wsF_get G ρ h h6 ha
  have h31 : hL h a < 2 ^ 31 := hWo.2.2.1.2.2.2.2.2.2 a
  have ec : (nI j).toNatClampNeg = j := nI_clamp (by omega)
  subst hi
  have es := wsF_set (G := G) (ρ := ρ) (h' := sQ h a j (some v)) h6 ha rfl (by rw [sQ_f, ce_sQf_ref hk, up_map]) (fun b hb9 => ce_sQf_ne hb9)
  rw [ce_ref hk] at he
  obtain ⟨g6, ga⟩ := kind_in hWo.2.2.1 hkv (by omega)
  have hev := wsF_get G ρ h g6 ga
  rw [ce_obj hkv hcv] at hev
  have hany : va_Any "java/lang/Object" s H (ρ v) := va_rAny hE.1 hWo.1 hev hr (cast_asg (hE.2.1.2.1 _ hrn))
  refine va_astqM hx hb hE.1 hWo.1 hWo.2.1 hS (a - 6) 3 he (aty_ref G (i := 0) (by decide)) hany (vp_in_nI hj h31) hd (fun H1 locs1 hP1 hD1 hS1 => ?_)
  rw [ec] at hP1 hD1
  have hP2 := es ▸ hP1
  have hD2 := es ▸ hD1
  refine K ρ H1 locs1 ls ⟨hP2, hD2, gd_sQf hWo.2.2.1 ha (fun i b hib => ?_), hWo.2.2.2⟩ hS1 hLV hv1 (vl_t (vl_t (vl_t hv2))) hρ
  by_cases e : i = j
  · subst e
    rw [va_up_self] at hib
    cases hib; exact ga
  · rw [va_up_ne _ _ e] at hib
    exact hWo.2.2.1.2.2.2.2.1 _ _ _ hib
theorem r_alen {X : Ctx} {y : MethodName} {cc : ByteArray} {nL : Nat} {ret : Option FieldType} {hh : List (Nat × Nat × Nat × Nat)} {f mc ms : Nat} (C : Cx X y cc nL ret hh f mc ms) {k n pc : Nat} {LS st : List Value} {h : Hp} {a ka : Nat} (hd : decode cc pc = .ok (.arraylength, 1)) (hk : hK h a = ka) (hka : 100 ≤ ka ∧ ka ≤ 105) (K : wr X k n (pc + 1) LS (.int (nI (hL h a)) :: st) h) : wr X k n pc LS (.ref a :: st) h := by
  obtain ⟨p, l, e, R, s, m, args, below, meth, c, G, ρ0, n0, Q⟩ := X
  obtain ⟨hx, hb, hml, hret, hown, hlk, hnm, htb, htr, hE, hsz, hf, hmc, hms, hlo⟩ := C
  intro ρ H locs ls hWo hS hLV hv1 hv2 hρ
  obtain ⟨h6, ha⟩ := kind_in hWo.2.2.1 hk (by omega)
  have he := wsF_get G ρ h h6 ha
  have hce : ∃ x : vp_A, ce G ρ h a = .inl (gC G (ka - 100), x) ∧ x.1 = hL h a := by
    unfold ce
    rw [hk, if_neg (by omega)]
    exact ⟨_, rfl, rfl⟩
  obtain ⟨x, hx1, hx2⟩ := hce
  rw [hx1] at he
  obtain ⟨t, ht⟩ := aty_at G (i := ka - 100) (by omega)
  exact va_alen hx hb hE.1 hWo.1 (a - 6) (ka - 100) he ht (by rw [hx2]; rfl) hd (K ρ H locs ls hWo hS hLV hv1 (vl_c trivial (vl_t hv2)) hρ)
theorem r_sald {X : Ctx} {y : MethodName} {cc : ByteArray} {nL : Nat} {ret : Option FieldType} {hh : List (Nat × Nat × Nat × Nat)} {f mc ms : Nat} (C : Cx X y cc nL ret hh f mc ms) {k n pc : Nat} {LS st : List Value} {h : Hp} {j : Nat} {i : Int32} (hd : decode cc pc = .ok (.iaload, 1)) (hi : i = nI j) (hj : j < gL (fOf X)) (K : wr X k n (pc + 1) LS (.int (gX (fOf X) j) :: st) h) : wr X k n pc LS (.int i :: .ref 0 :: st) h := by
  obtain ⟨p, l, e, R, s, m, args, below, meth, c, G, ρ0, n0, Q⟩ := X
  obtain ⟨hx, hb, hml, hret, hown, hlk, hnm, htb, htr, hE, hsz, hf, hmc, hms, hlo⟩ := C
  intro ρ H locs ls hWo hS hLV hv1 hv2 hρ
  have hj : j < gL G := hj
  have h31 : gL G < 2 ^ 31 := hE.2.2.2
  have ec : (nI j).toNatClampNeg = j := nI_clamp (by omega)
  subst hi
  have e0 : ρ 0 = gF G 0 := hWo.2.2.2 0 (by decide)
  show W p l e R s m args below meth c H locs k n Q (F0 m pc ls (.int (nI j) :: .ref (ρ 0) :: st.map (upv ρ)))
  rw [e0]
  exact va_ti (v := .int (gX G j)) hx hb hE.2.2.1.1 hS (vp_in_nI hj h31) (congrArg (fun z => Value.int (gX G z)) ec) hd (K ρ H locs ls hWo hS hLV hv1 (vl_c trivial (vl_t (vl_t hv2))) hρ)
theorem r_slen {X : Ctx} {y : MethodName} {cc : ByteArray} {nL : Nat} {ret : Option FieldType} {hh : List (Nat × Nat × Nat × Nat)} {f mc ms : Nat} (C : Cx X y cc nL ret hh f mc ms) {k n pc : Nat} {LS st : List Value} {h : Hp} (hd : decode cc pc = .ok (.arraylength, 1)) (K : wr X k n (pc + 1) LS (.int (nI (gL (fOf X))) :: st) h) : wr X k n pc LS (.ref 0 :: st) h := by
  obtain ⟨p, l, e, R, s, m, args, below, meth, c, G, ρ0, n0, Q⟩ := X
  obtain ⟨hx, hb, hml, hret, hown, hlk, hnm, htb, htr, hE, hsz, hf, hmc, hms, hlo⟩ := C
  intro ρ H locs ls hWo hS hLV hv1 hv2 hρ
  have e0 : ρ 0 = gF G 0 := hWo.2.2.2 0 (by decide)
  show W p l e R s m args below meth c H locs k n Q (F0 m pc ls (.ref (ρ 0) :: st.map (upv ρ)))
  rw [e0]
  exact va_tlen hx hb hE.2.2.1.1 hS rfl hd (K ρ H locs ls hWo hS hLV hv1 (vl_c trivial (vl_t hv2)) hρ)
theorem r_p1ald {X : Ctx} {y : MethodName} {cc : ByteArray} {nL : Nat} {ret : Option FieldType} {hh : List (Nat × Nat × Nat × Nat)} {f mc ms : Nat} (C : Cx X y cc nL ret hh f mc ms) {k n pc : Nat} {LS st : List Value} {h : Hp} {j : Nat} {i : Int32} (hd : decode cc pc = .ok (.iaload, 1)) (hi : i = nI j) (hj : j < 14) (K : wr X k n (pc + 1) LS (.int (pLe j) :: st) h) : wr X k n pc LS (.int i :: .ref 1 :: st) h := by
  obtain ⟨p, l, e, R, s, m, args, below, meth, c, G, ρ0, n0, Q⟩ := X
  obtain ⟨hx, hb, hml, hret, hown, hlk, hnm, htb, htr, hE, hsz, hf, hmc, hms, hlo⟩ := C
  intro ρ H locs ls hWo hS hLV hv1 hv2 hρ
  have ec : (nI j).toNatClampNeg = j := nI_clamp (by omega)
  subst hi
  have e0 : ρ 1 = gF G 1 := hWo.2.2.2 1 (by decide)
  show W p l e R s m args below meth c H locs k n Q (F0 m pc ls (.int (nI j) :: .ref (ρ 1) :: st.map (upv ρ)))
  rw [e0]
  exact va_ti (v := .int (pLe j)) hx hb hE.2.2.1.2.1.2 hS (vp_in_nI hj (by decide)) (congrArg (fun z => Value.int (pLe z)) ec) hd (K ρ H locs ls hWo hS hLV hv1 (vl_c trivial (vl_t (vl_t hv2))) hρ)
theorem r_gs1 {X : Ctx} {y : MethodName} {cc : ByteArray} {nL : Nat} {ret : Option FieldType} {hh : List (Nat × Nat × Nat × Nat)} {f mc ms : Nat} (C : Cx X y cc nL ret hh f mc ms) {k n pc : Nat} {LS st : List Value} {h : Hp} {idx : Nat} (hd : decode cc pc = .ok (.getstatic idx, 3)) (hw : Wk (.fieldLink y.cls idx RX6 "LEAST" "[I")) (K : wr X k n (pc + 3) LS (.ref 1 :: st) h) : wr X k n pc LS st h := by
  obtain ⟨p, l, e, R, s, m, args, below, meth, c, G, ρ0, n0, Q⟩ := X
  obtain ⟨hx, hb, hml, hret, hown, hlk, hnm, htb, htr, hE, hsz, hf, hmc, hms, hlo⟩ := C
  intro ρ H locs ls hWo hS hLV hv1 hv2 hρ
  have e0 : ρ 1 = gF G 1 := hWo.2.2.2 1 (by decide)
  have hK' := K ρ H locs ls hWo hS hLV hv1 (vl_c (Nat.lt_of_lt_of_le (by decide : 1 < 6) hWo.2.2.1.1) hv2) hρ
  have hK' : W p l e R s m args below meth c H locs k n Q (F0 m (pc + 3) ls (.ref (ρ 1) :: st.map (upv ρ))) := hK'
  rw [e0] at hK'
  exact va_gets hx hb hE.2.2.1.2.1.1 hS hown (hE.2.1.1 _ hw args) (fun _ h9 => h9) hd hK'
theorem r_p2ald {X : Ctx} {y : MethodName} {cc : ByteArray} {nL : Nat} {ret : Option FieldType} {hh : List (Nat × Nat × Nat × Nat)} {f mc ms : Nat} (C : Cx X y cc nL ret hh f mc ms) {k n pc : Nat} {LS st : List Value} {h : Hp} {j : Nat} {i : Int32} (hd : decode cc pc = .ok (.iaload, 1)) (hi : i = nI j) (hj : j < 14) (K : wr X k n (pc + 1) LS (.int (pGr j) :: st) h) : wr X k n pc LS (.int i :: .ref 2 :: st) h := by
  obtain ⟨p, l, e, R, s, m, args, below, meth, c, G, ρ0, n0, Q⟩ := X
  obtain ⟨hx, hb, hml, hret, hown, hlk, hnm, htb, htr, hE, hsz, hf, hmc, hms, hlo⟩ := C
  intro ρ H locs ls hWo hS hLV hv1 hv2 hρ
  have ec : (nI j).toNatClampNeg = j := nI_clamp (by omega)
  subst hi
  have e0 : ρ 2 = gF G 2 := hWo.2.2.2 2 (by decide)
  show W p l e R s m args below meth c H locs k n Q (F0 m pc ls (.int (nI j) :: .ref (ρ 2) :: st.map (upv ρ)))
  rw [e0]
  exact va_ti (v := .int (pGr j)) hx hb hE.2.2.1.2.2.1.2 hS (vp_in_nI hj (by decide)) (congrArg (fun z => Value.int (pGr z)) ec) hd (K ρ H locs ls hWo hS hLV hv1 (vl_c trivial (vl_t (vl_t hv2))) hρ)
theorem r_gs2 {X : Ctx} {y : MethodName} {cc : ByteArray} {nL : Nat} {ret : Option FieldType} {hh : List (Nat × Nat × Nat × Nat)} {f mc ms : Nat} (C : Cx X y cc nL ret hh f mc ms) {k n pc : Nat} {LS st : List Value} {h : Hp} {idx : Nat} (hd : decode cc pc = .ok (.getstatic idx, 3)) (hw : Wk (.fieldLink y.cls idx RX6 "GREATEST" "[I")) (K : wr X k n (pc + 3) LS (.ref 2 :: st) h) : wr X k n pc LS st h := by
  obtain ⟨p, l, e, R, s, m, args, below, meth, c, G, ρ0, n0, Q⟩ := X
  obtain ⟨hx, hb, hml, hret, hown, hlk, hnm, htb, htr, hE, hsz, hf, hmc, hms, hlo⟩ := C
  intro ρ H locs ls hWo hS hLV hv1 hv2 hρ
  have e0 : ρ 2 = gF G 2 := hWo.2.2.2 2 (by decide)
  have hK' := K ρ H locs ls hWo hS hLV hv1 (vl_c (Nat.lt_of_lt_of_le (by decide : 2 < 6) hWo.2.2.1.1) hv2) hρ
  have hK' : W p l e R s m args below meth c H locs k n Q (F0 m (pc + 3) ls (.ref (ρ 2) :: st.map (upv ρ))) := hK'
  rw [e0] at hK'
  exact va_gets hx hb hE.2.2.1.2.2.1.1 hS hown (hE.2.1.1 _ hw args) (fun _ h9 => h9) hd hK'
theorem r_p3ald {X : Ctx} {y : MethodName} {cc : ByteArray} {nL : Nat} {ret : Option FieldType} {hh : List (Nat × Nat × Nat × Nat)} {f mc ms : Nat} (C : Cx X y cc nL ret hh f mc ms) {k n pc : Nat} {LS st : List Value} {h : Hp} {j : Nat} {i : Int32} (hd : decode cc pc = .ok (.iaload, 1)) (hi : i = nI j) (hj : j < 14) (K : wr X k n (pc + 1) LS (.int (pAf j) :: st) h) : wr X k n pc LS (.int i :: .ref 3 :: st) h := by
  obtain ⟨p, l, e, R, s, m, args, below, meth, c, G, ρ0, n0, Q⟩ := X
  obtain ⟨hx, hb, hml, hret, hown, hlk, hnm, htb, htr, hE, hsz, hf, hmc, hms, hlo⟩ := C
  intro ρ H locs ls hWo hS hLV hv1 hv2 hρ
  have ec : (nI j).toNatClampNeg = j := nI_clamp (by omega)
  subst hi
  have e0 : ρ 3 = gF G 3 := hWo.2.2.2 3 (by decide)
  show W p l e R s m args below meth c H locs k n Q (F0 m pc ls (.int (nI j) :: .ref (ρ 3) :: st.map (upv ρ)))
  rw [e0]
  exact va_ti (v := .int (pAf j)) hx hb hE.2.2.1.2.2.2.1.2 hS (vp_in_nI hj (by decide)) (congrArg (fun z => Value.int (pAf z)) ec) hd (K ρ H locs ls hWo hS hLV hv1 (vl_c trivial (vl_t (vl_t hv2))) hρ)
theorem r_gs3 {X : Ctx} {y : MethodName} {cc : ByteArray} {nL : Nat} {ret : Option FieldType} {hh : List (Nat × Nat × Nat × Nat)} {f mc ms : Nat} (C : Cx X y cc nL ret hh f mc ms) {k n pc : Nat} {LS st : List Value} {h : Hp} {idx : Nat} (hd : decode cc pc = .ok (.getstatic idx, 3)) (hw : Wk (.fieldLink y.cls idx RX6 "AT_FIRST" "[I")) (K : wr X k n (pc + 3) LS (.ref 3 :: st) h) : wr X k n pc LS st h := by
  obtain ⟨p, l, e, R, s, m, args, below, meth, c, G, ρ0, n0, Q⟩ := X
  obtain ⟨hx, hb, hml, hret, hown, hlk, hnm, htb, htr, hE, hsz, hf, hmc, hms, hlo⟩ := C
  intro ρ H locs ls hWo hS hLV hv1 hv2 hρ
  have e0 : ρ 3 = gF G 3 := hWo.2.2.2 3 (by decide)
  have hK' := K ρ H locs ls hWo hS hLV hv1 (vl_c (Nat.lt_of_lt_of_le (by decide : 3 < 6) hWo.2.2.1.1) hv2) hρ
  have hK' : W p l e R s m args below meth c H locs k n Q (F0 m (pc + 3) ls (.ref (ρ 3) :: st.map (upv ρ))) := hK'
  rw [e0] at hK'
  exact va_gets hx hb hE.2.2.1.2.2.2.1.1 hS hown (hE.2.1.1 _ hw args) (fun _ h9 => h9) hd hK'
theorem r_gs4 {X : Ctx} {y : MethodName} {cc : ByteArray} {nL : Nat} {ret : Option FieldType} {hh : List (Nat × Nat × Nat × Nat)} {f mc ms : Nat} (C : Cx X y cc nL ret hh f mc ms) {k n pc : Nat} {LS st : List Value} {h : Hp} {idx : Nat} (hd : decode cc pc = .ok (.getstatic idx, 3)) (hw : Wk (.fieldLink y.cls idx RJx4a65c "DEFAULTCAPACITY_EMPTY_ELEMENTDATA" "[Ljava/lang/Object;")) (K : wr X k n (pc + 3) LS (.ref 4 :: st) h) : wr X k n pc LS st h := by
  obtain ⟨p, l, e, R, s, m, args, below, meth, c, G, ρ0, n0, Q⟩ := X
  obtain ⟨hx, hb, hml, hret, hown, hlk, hnm, htb, htr, hE, hsz, hf, hmc, hms, hlo⟩ := C
  intro ρ H locs ls hWo hS hLV hv1 hv2 hρ
  have e0 : ρ 4 = gF G 4 := hWo.2.2.2 4 (by decide)
  have hK' := K ρ H locs ls hWo hS hLV hv1 (vl_c (Nat.lt_of_lt_of_le (by decide : 4 < 6) hWo.2.2.1.1) hv2) hρ
  have hK' : W p l e R s m args below meth c H locs k n Q (F0 m (pc + 3) ls (.ref (ρ 4) :: st.map (upv ρ))) := hK'
  rw [e0] at hK'
  exact va_gets hx hb hE.2.2.1.2.2.2.2.1.1 hS hown (hE.2.1.1 _ hw args) (fun _ h9 => h9) hd hK'
theorem r_elen {X : Ctx} {y : MethodName} {cc : ByteArray} {nL : Nat} {ret : Option FieldType} {hh : List (Nat × Nat × Nat × Nat)} {f mc ms : Nat} (C : Cx X y cc nL ret hh f mc ms) {k n pc : Nat} {LS st : List Value} {h : Hp} (hd : decode cc pc = .ok (.arraylength, 1)) (K : wr X k n (pc + 1) LS (.int 0 :: st) h) : wr X k n pc LS (.ref 4 :: st) h := by
  obtain ⟨p, l, e, R, s, m, args, below, meth, c, G, ρ0, n0, Q⟩ := X
  obtain ⟨hx, hb, hml, hret, hown, hlk, hnm, htb, htr, hE, hsz, hf, hmc, hms, hlo⟩ := C
  intro ρ H locs ls hWo hS hLV hv1 hv2 hρ
  have e0 : ρ 4 = gF G 4 := hWo.2.2.2 4 (by decide)
  show W p l e R s m args below meth c H locs k n Q (F0 m pc ls (.ref (ρ 4) :: st.map (upv ρ)))
  rw [e0]
  exact va_tlen hx hb hE.2.2.1.2.2.2.2.1.2 hS (v := 0) (by decide) hd (K ρ H locs ls hWo hS hLV hv1 (vl_c trivial (vl_t hv2)) hρ)
theorem r_lcmp {X : Ctx} {y : MethodName} {cc : ByteArray} {nL : Nat} {ret : Option FieldType} {hh : List (Nat × Nat × Nat × Nat)} {f mc ms : Nat} (C : Cx X y cc nL ret hh f mc ms) {k n pc : Nat} {LS st : List Value} {h : Hp} {x z : Int64} (hd : decode cc pc = .ok (.lcmp, 1)) (K : wr X k n (pc + 1) LS (.int (lg_cmp x z) :: st) h) : wr X k n pc LS (.long z :: .long x :: st) h := by
  obtain ⟨p, l, e, R, s, m, args, below, meth, c, G, ρ0, n0, Q⟩ := X
  obtain ⟨hx, hb, hml, hret, hown, hlk, hnm, htb, htr, hE, hsz, hf, hmc, hms, hlo⟩ := C
  intro ρ H locs ls hWo hS hLV hv1 hv2 hρ
  exact W.lcmp hx hb hd (K ρ H locs ls hWo hS hLV hv1 (vl_c trivial (vl_t (vl_t hv2))) hρ)
theorem r_cast {X : Ctx} {y : MethodName} {cc : ByteArray} {nL : Nat} {ret : Option FieldType} {hh : List (Nat × Nat × Nat × Nat)} {f mc ms : Nat} (C : Cx X y cc nL ret hh f mc ms) {k n pc : Nat} {LS st : List Value} {h : Hp} {o : Option Nat} {ci idx : Nat} {r : vw_C} {D : String} (hd : decode cc pc = .ok (.checkcast idx, 3)) (hw : Wk (.classLink y.cls idx D)) (hr : mCl[ci]? = some r) (hc : ci < 100) (hrn : (r.1, D) ∈ castL) (hk : ∀ a, o = some a → hK h a = ci) (K : wr X k n (pc + 3) LS (va_rf o :: st) h) : wr X k n pc LS (va_rf o :: st) h := by
  obtain ⟨p, l, e, R, s, m, args, below, meth, c, G, ρ0, n0, Q⟩ := X
  obtain ⟨hx, hb, hml, hret, hown, hlk, hnm, htb, htr, hE, hsz, hf, hmc, hms, hlo⟩ := C
  intro ρ H locs ls hWo hS hLV hv1 hv2 hρ
  have hK' := K ρ H locs ls hWo hS hLV hv1 hv2 hρ
  cases o with
  | none => exact lv_castN hx hb hd hK'
  | some a => exact va_castY hx hb hown (hE.2.1.1 _ hw args) (hE.2.1.2.1 _ hrn) (rec_at hE hWo (hk a rfl) hc hr) hd hK'
theorem ρ_inj {G : Gf} {ρ : Nat → Nat} {h : Hp} {H : Heap} {s : State} (hE : Ev G s) (hWo : Wo G ρ h H) {a b : Nat} (ha : a < hN h) (hb : b < hN h) (hab : a = b ∨ (6 ≤ a ∧ b ≠ 5) ∨ (6 ≤ b ∧ a ≠ 5)) (e : ρ a = ρ b) : a = b := by
  have my : ∀ x, 6 ≤ x → x < hN h → gA G (ρ x) := fun x h6 hx => hWo.2.1.2 _ _ (wsF_get G ρ h h6 hx)
  have out : ∀ x, x < 5 → ¬ gA G (ρ x) := by
    intro x hx
    rw [hWo.2.2.2 x (by omega)]
    match x, hx with
    | 0, _ => exact hE.2.2.1.1.out
    | 1, _ => exact hE.2.2.1.2.1.2.out
    | 2, _ => exact hE.2.2.1.2.2.1.2.out
    | 3, _ => exact hE.2.2.1.2.2.2.1.2.out
    | 4, _ => exact hE.2.2.1.2.2.2.2.1.2.out
  have both : ∀ x z, 6 ≤ x → 6 ≤ z → x < hN h → z < hN h → ρ x = ρ z → x = z := by
    intro x z h1 h2 h3 h4 h5
    have := hWo.2.1.1 _ _ _ _ (wsF_get G ρ h h1 h3) (wsF_get G ρ h h2 h4) h5
    omega
  rcases hab with q | ⟨q1, q2⟩ | ⟨q1, q2⟩
  · exact q
  · rcases Nat.lt_or_ge b 6 with q | q
    · exact absurd (e ▸ my a q1 ha) (out b (by omega))
    · exact both a b q1 q ha hb e
  · rcases Nat.lt_or_ge a 6 with q | q
    · exact absurd (e ▸ my b q1 hb) (out a (by omega))
    · exact both a b q q1 ha hb e
def acq (o1 o2 : Option Nat) : Prop := ∀ a b, o1 = some a → o2 = some b → a = b ∨ (6 ≤ a ∧ b ≠ 5) ∨ (6 ≤ b ∧ a ≠ 5)
theorem ρ_injO {G : Gf} {ρ : Nat → Nat} {h : Hp} {H : Heap} {s : State} (hE : Ev G s) (hWo : Wo G ρ h H) {o1 o2 : Option Nat} (h1 : vld (hN h) (va_rf o1)) (h2 : vld (hN h) (va_rf o2)) (hab : acq o1 o2) : o1.map ρ = o2.map ρ ↔ o1 = o2 := by
  refine ⟨fun e => ?_, fun e => by rw [e]⟩
  cases o1 with
  | none => cases o2 with
    | none => rfl
    | some b => cases e
  | some a => cases o2 with
    | none => cases e
    | some b => exact congrArg some (ρ_inj hE hWo h1 h2 (hab a b rfl rfl) (Option.some.inj e))
theorem r_ac_eq {X : Ctx} {y : MethodName} {cc : ByteArray} {nL : Nat} {ret : Option FieldType} {hh : List (Nat × Nat × Nat × Nat)} {f mc ms : Nat} (C : Cx X y cc nL ret hh f mc ms) {k n pc : Nat} {LS st : List Value} {h : Hp} {o1 o2 : Option Nat} {off : Int} {tgt : Nat} (hd : decode cc pc = .ok (.if_acmp .eq off, 3)) (ht : (pc : Int) + off = (tgt : Int)) (hq : acq o1 o2) (K1 : o1 = o2 → wr X k n tgt LS st h) (K2 : ¬ o1 = o2 → wr X k n (pc + 3) LS st h) : wr X k n pc LS (va_rf o2 :: va_rf o1 :: st) h := by
  obtain ⟨p, l, e, R, s, m, args, below, meth, c, G, ρ0, n0, Q⟩ := X
  obtain ⟨hx, hb, hml, hret, hown, hlk, hnm, htb, htr, hE, hsz, hf, hmc, hms, hlo⟩ := C
  intro ρ H locs ls hWo hS hLV hv1 hv2 hρ
  have hiff := ρ_injO hE hWo (vl_h (vl_t hv2)) (vl_h hv2) hq
  rw [List.map_cons, List.map_cons, upv_rf, upv_rf]
  exact lv_acmp_eq hx hb hd ht (fun q9 => K1 (hiff.mp q9) ρ H locs ls hWo hS hLV hv1 (vl_t (vl_t hv2)) hρ) (fun q9 => K2 (fun z => q9 (hiff.mpr z)) ρ H locs ls hWo hS hLV hv1 (vl_t (vl_t hv2)) hρ)
theorem r_ac_ne {X : Ctx} {y : MethodName} {cc : ByteArray} {nL : Nat} {ret : Option FieldType} {hh : List (Nat × Nat × Nat × Nat)} {f mc ms : Nat} (C : Cx X y cc nL ret hh f mc ms) {k n pc : Nat} {LS st : List Value} {h : Hp} {o1 o2 : Option Nat} {off : Int} {tgt : Nat} (hd : decode cc pc = .ok (.if_acmp .ne off, 3)) (ht : (pc : Int) + off = (tgt : Int)) (hq : acq o1 o2) (K1 : ¬ o1 = o2 → wr X k n tgt LS st h) (K2 : o1 = o2 → wr X k n (pc + 3) LS st h) : wr X k n pc LS (va_rf o2 :: va_rf o1 :: st) h := by
  obtain ⟨p, l, e, R, s, m, args, below, meth, c, G, ρ0, n0, Q⟩ := X
  obtain ⟨hx, hb, hml, hret, hown, hlk, hnm, htb, htr, hE, hsz, hf, hmc, hms, hlo⟩ := C
  intro ρ H locs ls hWo hS hLV hv1 hv2 hρ
  have hiff := ρ_injO hE hWo (vl_h (vl_t hv2)) (vl_h hv2) hq
  rw [List.map_cons, List.map_cons, upv_rf, upv_rf]
  exact lv_acmp_ne hx hb hd ht (fun q9 => K1 (fun z => q9 (hiff.mpr z)) ρ H locs ls hWo hS hLV hv1 (vl_t (vl_t hv2)) hρ) (fun q9 => K2 (hiff.mp q9) ρ H locs ls hWo hS hLV hv1 (vl_t (vl_t hv2)) hρ)
