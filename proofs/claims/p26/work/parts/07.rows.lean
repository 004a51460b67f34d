/-! ===== what holds around: the tables, the foreign cells ===== -/
def xI : String := "java/lang/IndexOutOfBoundsException"
def xA : String := "java/lang/IllegalArgumentException"
def xS : String := "java/lang/IllegalStateException"
def castL : List (String × String) := [(RX2, RX2), (RX7, RX7), (RX5, RX5), (RX2, "java/lang/Object"), (RX7, "java/lang/Object"), (RX5, "java/lang/Object"), (xI, xI), (xA, xA), (xS, xS)]
def ncL : List (String × String) := [(xI, xA), (xI, xS), (xA, xI), (xA, xS), (xS, xI), (xS, xA)]
def nestL : List (String × Nat × MethodName × String) := [(RX10, 21, yX2_init, "CascadeHouse"), (RX2, 11, yX4_init, "CascadeHouse"), (RX11, 18, yX8_init, "CascadeHouse")]
def aoL : List String := ["java/lang/Object", RX7, RX1]
def strL : List (Nat × String) := [(107, "16 rules are there"), (133, "the rule has 3 parts"), (158, "the property cannot be that"), (171, "the property cannot be the fallback"), (209, "there is no such element"), (214, "there is no such rule"), (216, "there is no such property"), (218, "an argument is out of its range"), (223, "a rule has at most 6 declarations"), (57, "24 elements are there"), (75, "the root stays"), (93, "a word has 1 to 9 letters")]
def pLe (j : Nat) : Int32 := ([0, 0, 0, 0, 0, 0, 0, 1, 0, 1, 0, 0, 0, 0] : List Int32).getD j 0
def pGr (j : Nat) : Int32 := ([2000, 2000, 2000, 100, 100, 3, 9, 6, 99, 20, 2000, 2000, 2000, 2000] : List Int32).getD j 0
def pAf (j : Nat) : Int32 := ([-2, -2, -2, 0, 0, 0, 0, 1, 0, 1, -1, -1, -1, -1] : List Int32).getD j 0
def dcL : List String := ["java/lang/RuntimeException", "java/lang/Exception", "java/lang/Throwable"]
def dcS (Y : String) (U : State) : Prop := (Cond.declares ⟨Y, "<init>", "(Ljava/lang/String;)V"⟩).before #[] U = true
theorem dcS.moved {Y : String} {u U : State} (hvm : u.vm.Alike U.vm) (h : dcS Y u) : dcS Y U := by
  have h1 : (Cond.declares ⟨Y, "<init>", "(Ljava/lang/String;)V"⟩).before #[] (u.setVm U.vm) = true := by
    rw [Cond.declares_setVm hvm]
    exact h
  have e := Cond.onTables_vm (A := #[]) (A' := #[]) (U := u) (U' := U) U.vm (Cond.declares ⟨Y, "<init>", "(Ljava/lang/String;)V"⟩) rfl
  have hU : U.setVm U.vm = U := rfl
  rw [hU] at e
  unfold dcS
  rw [← e]
  exact h1
def FxV (U : State) : Prop :=
  (∀ w, Wk w → ∀ args : Array Value, w.before args U = true) ∧ (∀ q ∈ castL, va_Nw (.castable q.1 q.2) U) ∧ (∀ q ∈ ncL, va_Nc q.1 q.2 U) ∧ (∀ q ∈ nestL, va_Nw (.methodLinkNest q.1 q.2.1 q.2.2.1 q.2.2.2) U) ∧ (∀ q ∈ aoL, va_AO q U) ∧ (va_Dc U ∧ ∀ Y ∈ dcL, dcS Y U) ∧ (∀ q ∈ strL, ∃ sa : Nat, vk_R RX11 q.1 q.2 sa U)
def FxH (G : Gf) (U : State) (H : Heap) : Prop :=
  va_T .int (gF G 0) (gL G) (fun j => .int (gX G j)) (gA G) U H ∧
  (va_Z RX6 "LEAST" "[I" (.ref (gF G 1)) (gA G) U H ∧ va_T .int (gF G 1) 14 (fun j => .int (pLe j)) (gA G) U H) ∧
  (va_Z RX6 "GREATEST" "[I" (.ref (gF G 2)) (gA G) U H ∧ va_T .int (gF G 2) 14 (fun j => .int (pGr j)) (gA G) U H) ∧
  (va_Z RX6 "AT_FIRST" "[I" (.ref (gF G 3)) (gA G) U H ∧ va_T .int (gF G 3) 14 (fun j => .int (pAf j)) (gA G) U H) ∧
  (va_Z RJx4a65c "DEFAULTCAPACITY_EMPTY_ELEMENTDATA" "[Ljava/lang/Object;" (.ref (gF G 4)) (gA G) U H ∧ va_T (.object "java/lang/Object") (gF G 4) 0 (fun _ => .null) (gA G) U H) ∧
  va_Mi "[Ljava/lang/Object;" (gF G 5) U ∧
  vx_Zq Bundle.tN "UNASSIGNED_STACK" Bundle.steD (gA G) U H ∧ vx_Zq Bundle.tN "SUPPRESSED_SENTINEL" Bundle.listD (gA G) U H
def Ev (G : Gf) (U : State) : Prop := va_K (gD G) mCl (aty G) U ∧ FxV U ∧ FxH G U U.heap ∧ gL G < 2 ^ 31
theorem FxV_go {s U : State} (hW : s.WarmedH U.vm) (h : FxV s) : FxV U := by
  obtain ⟨h1, h2, h3, h4, h5, h6, h7⟩ := h
  refine ⟨fun w hw args => word_at hW (good_of_word hw.2) (h1 w hw args), fun q hq => va_Nw.warmC hW (h2 q hq), fun q hq => (h3 q hq).moved hW.alike, fun q hq => va_Nw.warmM hW (h4 q hq), fun q hq => va_AO.moved hW.alike (h5 q hq), ⟨va_Dc.moved hW.alike h6.1, fun Y hY => dcS.moved hW.alike (h6.2 Y hY)⟩, fun q hq => ?_⟩
  obtain ⟨sa, hs⟩ := h7 q hq
  exact ⟨sa, vk_R.warm hW hs⟩
theorem FxH_go {G : Gf} {s U : State} {H H1 : Heap} (hW : s.vm.Alike U.vm) (hk : ∀ a : Nat, a < H.size → ¬ gA G a → H1[a]? = H[a]?) (h : FxH G s H) : FxH G U H1 := by
  obtain ⟨h1, ⟨h2, h3⟩, ⟨h4, h5⟩, ⟨h6, h7⟩, ⟨h8, h9⟩, h10, h11, h12⟩ := h
  exact ⟨(h1.kept hk).moved hW, ⟨(h2.kept hk).moved hW, (h3.kept hk).moved hW⟩, ⟨(h4.kept hk).moved hW, (h5.kept hk).moved hW⟩, ⟨(h6.kept hk).moved hW, (h7.kept hk).moved hW⟩, ⟨(h8.kept hk).moved hW, (h9.kept hk).moved hW⟩, h10.moved hW, vx_Zq.moved hW (h11.kept hk), vx_Zq.moved hW (h12.kept hk)⟩
theorem Ev_go {G : Gf} {s U : State} (hW : s.WarmedH U.vm) (hk : ∀ a : Nat, a < s.heap.size → ¬ gA G a → U.heap[a]? = s.heap[a]?) (h : Ev G s) : Ev G U :=
  ⟨va_K.moved hW.alike h.1, FxV_go hW h.2.1, FxH_go hW.alike hk h.2.2.1, h.2.2.2⟩
/-! ===== the context of a walk, and the goal of a walk ===== -/
abbrev Res : Type := (Option Value × Hp) ⊕ (String × Hp)
abbrev Ctx : Type := Program × Launch × Jvm.Env × Room × State × MethodId × Array Value × List Frame × Method × Code × Gf × (Nat → Nat) × Nat × (State → Prop)
def wr (X : Ctx) (k n pc : Nat) (LS st : List Value) (h : Hp) : Prop := match X with
  | (p, l, e, R, s, m, args, below, meth, c, G, ρ0, n0, Q) =>
    ∀ (ρ : Nat → Nat) (H : Heap) (locs : List Loc) (ls : Array Slot), Wo G ρ h H → va_S (gA G) s.heap H locs → LV ρ ls LS → vl (hN h) LS → vl (hN h) st → (n0 ≤ hN h ∧ ∀ a, a < n0 → ρ a = ρ0 a) →
      W p l e R s m args below meth c H locs k n Q (F0 m pc ls (st.map (upv ρ)))
def Cx (X : Ctx) (y : MethodName) (cc : ByteArray) (nL : Nat) (ret : Option FieldType) (hh : List (Nat × Nat × Nat × Nat)) (f mc ms : Nat) : Prop := match X with
  | (p, l, _, R, s, m, _, _, meth, c, G, _, _, _) =>
    p.tables.exec = Jvm.exec ∧ c.code = cc ∧ c.maxLocals = nL ∧ meth.sig.returnType = ret ∧ s.vm.findClass y.cls = some m.cls ∧ meth.locks = false ∧ meth.name = y.name ∧ c.exceptionTable.toList = tableOf hh ∧ l.stackTraces = false ∧ Ev G s ∧ (∀ q : Nat, s.heap.size ≤ q → gA G q) ∧
    f ≤ R.frames ∧ mc ≤ R.cells ∧ ms ≤ R.slots ∧ 64 * f + 64 ≤ R.locals
def QcR (G : Gf) (ρ0 : Nat → Nat) (n0 : Nat) (r : Res) : Array Value → State → Outcome → State → Prop := fun _ st oc t =>
  (∃ (v : Option Value) (h' : Hp) (ρ' : Nat → Nat), r = .inl (v, h') ∧ oc = .returned (v.map (upv ρ')) ∧ (∀ w, v = some w → vld (hN h') w) ∧ Wo G ρ' h' t.heap ∧ n0 ≤ hN h' ∧ ∀ a, a < n0 → ρ' a = ρ0 a) ∧ va_F (gA G) st t
def XCR (G : Gf) (ρ0 : Nat → Nat) (n0 : Nat) (r : Res) : String → State → State → Prop := fun E st t =>
  (∃ (h' : Hp) (ρ' : Nat → Nat), r = .inr (E, h') ∧ Wo G ρ' h' t.heap ∧ n0 ≤ hN h' ∧ ∀ a, a < n0 → ρ' a = ρ0 a) ∧ va_F (gA G) st t
/-- the end that is owed: the method's result is r -/
def Ex (X : Ctx) (mc ms : Nat) (r : Res) : Prop := match X with
  | (_, _, _, _, s, _, args, below, _, _, G, ρ0, n0, Q) => Q = vx_MQ below (QcR G ρ0 n0 r) (XCR G ρ0 n0 r) args s mc ms (gA G)
/-- a method's contract: called with these values in this state it comes to the result r, with f frames, mc cells, ms slots -/
def MRw (l : Launch) (G : Gl) (y : MethodName) (w : Cond) (f mc ms : Nat) (as : List Value) (h : Hp) (r : Res) : Prop :=
  l.stackTraces = false → ∀ (A : Nat → Prop) (ρ : Nat → Nat), vl (hN h) as → vx_Met l y [w] { frames := f, cells := mc, slots := ms, locals := 64 * f + 64 } (va_Pc (as.map (upv ρ)) (fun U => Ev (gW G A) U ∧ Wo (gW G A) ρ h U.heap ∧ ∀ q : Nat, U.heap.size ≤ q → gA (gW G A) q)) (QcR (gW G A) ρ (hN h) r) (XCR (gW G A) ρ (hN h) r) mc ms (gA (gW G A))
theorem mr_use {l : Launch} {G : Gf} {y : MethodName} {w : Cond} {f mc ms : Nat} {as : List Value} {h : Hp} {r : Res} (M : MRw l (gZ G) y w f mc ms as h r) (htr : l.stackTraces = false) (ρ : Nat → Nat) (hv : vl (hN h) as) : vx_Met l y [w] { frames := f, cells := mc, slots := ms, locals := 64 * f + 64 } (va_Pc (as.map (upv ρ)) (fun U => Ev G U ∧ Wo G ρ h U.heap ∧ ∀ q : Nat, U.heap.size ≤ q → gA G q)) (QcR G ρ (hN h) r) (XCR G ρ (hN h) r) mc ms (gA G) := M htr (gA G) ρ hv
theorem r_iconst {X : Ctx} {y : MethodName} {cc : ByteArray} {nL : Nat} {ret : Option FieldType} {hh : List (Nat × Nat × Nat × Nat)} {f mc ms : Nat} (C : Cx X y cc nL ret hh f mc ms) {k n pc : Nat} {LS st : List Value} {h : Hp} {i : Int} {v : Int32} (hd : decode cc pc = .ok (.iconst i, 1)) (hv : Int32.ofInt i = v) (K : wr X k n (pc + 1) LS (.int v :: st) h) : wr X k n pc LS st h := by
  obtain ⟨p, l, e, R, s, m, args, below, meth, c, G, ρ0, n0, Q⟩ := X
  obtain ⟨hx, hb, hml, hr, hown, hlk, hnm, htb, htr, hE, hsz, hf, hmc, hms, hlo⟩ := C
  intro ρ H locs ls hWo hS hL hv1 hv2 hρ
  exact lv_iconst hx hb hd hv (K ρ H locs ls hWo hS hL hv1 (vl_c trivial hv2) hρ)
theorem r_bipush {X : Ctx} {y : MethodName} {cc : ByteArray} {nL : Nat} {ret : Option FieldType} {hh : List (Nat × Nat × Nat × Nat)} {f mc ms : Nat} (C : Cx X y cc nL ret hh f mc ms) {k n pc : Nat} {LS st : List Value} {h : Hp} {i : Int} {v : Int32} (hd : decode cc pc = .ok (.bipush i, 2)) (hv : (Int8.ofInt i).toInt32 = v) (K : wr X k n (pc + 2) LS (.int v :: st) h) : wr X k n pc LS st h := by
  obtain ⟨p, l, e, R, s, m, args, below, meth, c, G, ρ0, n0, Q⟩ := X
  obtain ⟨hx, hb, hml, hr, hown, hlk, hnm, htb, htr, hE, hsz, hf, hmc, hms, hlo⟩ := C
  intro ρ H locs ls hWo hS hL hv1 hv2 hρ
  exact lv_bipush hx hb hd hv (K ρ H locs ls hWo hS hL hv1 (vl_c trivial hv2) hρ)
theorem r_sipush {X : Ctx} {y : MethodName} {cc : ByteArray} {nL : Nat} {ret : Option FieldType} {hh : List (Nat × Nat × Nat × Nat)} {f mc ms : Nat} (C : Cx X y cc nL ret hh f mc ms) {k n pc : Nat} {LS st : List Value} {h : Hp} {i : Int} {v : Int32} (hd : decode cc pc = .ok (.sipush i, 3)) (hv : (Int16.ofInt i).toInt32 = v) (K : wr X k n (pc + 3) LS (.int v :: st) h) : wr X k n pc LS st h := by
  obtain ⟨p, l, e, R, s, m, args, below, meth, c, G, ρ0, n0, Q⟩ := X
  obtain ⟨hx, hb, hml, hr, hown, hlk, hnm, htb, htr, hE, hsz, hf, hmc, hms, hlo⟩ := C
  intro ρ H locs ls hWo hS hL hv1 hv2 hρ
  exact lv_sipush hx hb hd hv (K ρ H locs ls hWo hS hL hv1 (vl_c trivial hv2) hρ)
theorem r_lconst {X : Ctx} {y : MethodName} {cc : ByteArray} {nL : Nat} {ret : Option FieldType} {hh : List (Nat × Nat × Nat × Nat)} {f mc ms : Nat} (C : Cx X y cc nL ret hh f mc ms) {k n pc : Nat} {LS st : List Value} {h : Hp} {i : Fin 2} {v : Int64} (hd : decode cc pc = .ok (.lconst i, 1)) (hv : Int64.ofNat (i : Nat) = v) (K : wr X k n (pc + 1) LS (.long v :: st) h) : wr X k n pc LS st h := by
  obtain ⟨p, l, e, R, s, m, args, below, meth, c, G, ρ0, n0, Q⟩ := X
  obtain ⟨hx, hb, hml, hr, hown, hlk, hnm, htb, htr, hE, hsz, hf, hmc, hms, hlo⟩ := C
  intro ρ H locs ls hWo hS hL hv1 hv2 hρ
  exact lv_lconst hx hb hd hv (K ρ H locs ls hWo hS hL hv1 (vl_c trivial hv2) hρ)
theorem r_null {X : Ctx} {y : MethodName} {cc : ByteArray} {nL : Nat} {ret : Option FieldType} {hh : List (Nat × Nat × Nat × Nat)} {f mc ms : Nat} (C : Cx X y cc nL ret hh f mc ms) {k n pc : Nat} {LS st : List Value} {h : Hp} (hd : decode cc pc = .ok (.aconst_null, 1)) (K : wr X k n (pc + 1) LS (.null :: st) h) : wr X k n pc LS st h := by
  obtain ⟨p, l, e, R, s, m, args, below, meth, c, G, ρ0, n0, Q⟩ := X
  obtain ⟨hx, hb, hml, hr, hown, hlk, hnm, htb, htr, hE, hsz, hf, hmc, hms, hlo⟩ := C
  intro ρ H locs ls hWo hS hL hv1 hv2 hρ
  exact lv_null hx hb hd (K ρ H locs ls hWo hS hL hv1 (vl_c trivial hv2) hρ)
theorem r_iadd {X : Ctx} {y : MethodName} {cc : ByteArray} {nL : Nat} {ret : Option FieldType} {hh : List (Nat × Nat × Nat × Nat)} {f mc ms : Nat} (C : Cx X y cc nL ret hh f mc ms) {k n pc : Nat} {LS st : List Value} {h : Hp} {x z : Int32} (hd : decode cc pc = .ok (.iadd, 1)) (K : wr X k n (pc + 1) LS (.int (x + z) :: st) h) : wr X k n pc LS (.int z :: .int x :: st) h := by
  obtain ⟨p, l, e, R, s, m, args, below, meth, c, G, ρ0, n0, Q⟩ := X
  obtain ⟨hx, hb, hml, hr, hown, hlk, hnm, htb, htr, hE, hsz, hf, hmc, hms, hlo⟩ := C
  intro ρ H locs ls hWo hS hL hv1 hv2 hρ
  exact lv_iadd hx hb hd (K ρ H locs ls hWo hS hL hv1 (vl_c trivial (vl_t (vl_t hv2))) hρ)
theorem r_isub {X : Ctx} {y : MethodName} {cc : ByteArray} {nL : Nat} {ret : Option FieldType} {hh : List (Nat × Nat × Nat × Nat)} {f mc ms : Nat} (C : Cx X y cc nL ret hh f mc ms) {k n pc : Nat} {LS st : List Value} {h : Hp} {x z : Int32} (hd : decode cc pc = .ok (.isub, 1)) (K : wr X k n (pc + 1) LS (.int (x - z) :: st) h) : wr X k n pc LS (.int z :: .int x :: st) h := by
  obtain ⟨p, l, e, R, s, m, args, below, meth, c, G, ρ0, n0, Q⟩ := X
  obtain ⟨hx, hb, hml, hr, hown, hlk, hnm, htb, htr, hE, hsz, hf, hmc, hms, hlo⟩ := C
  intro ρ H locs ls hWo hS hL hv1 hv2 hρ
  exact lv_isub hx hb hd (K ρ H locs ls hWo hS hL hv1 (vl_c trivial (vl_t (vl_t hv2))) hρ)
theorem r_imul {X : Ctx} {y : MethodName} {cc : ByteArray} {nL : Nat} {ret : Option FieldType} {hh : List (Nat × Nat × Nat × Nat)} {f mc ms : Nat} (C : Cx X y cc nL ret hh f mc ms) {k n pc : Nat} {LS st : List Value} {h : Hp} {x z : Int32} (hd : decode cc pc = .ok (.imul, 1)) (K : wr X k n (pc + 1) LS (.int (x * z) :: st) h) : wr X k n pc LS (.int z :: .int x :: st) h := by
  obtain ⟨p, l, e, R, s, m, args, below, meth, c, G, ρ0, n0, Q⟩ := X
  obtain ⟨hx, hb, hml, hr, hown, hlk, hnm, htb, htr, hE, hsz, hf, hmc, hms, hlo⟩ := C
  intro ρ H locs ls hWo hS hL hv1 hv2 hρ
  exact lv_imul hx hb hd (K ρ H locs ls hWo hS hL hv1 (vl_c trivial (vl_t (vl_t hv2))) hρ)
theorem r_iand {X : Ctx} {y : MethodName} {cc : ByteArray} {nL : Nat} {ret : Option FieldType} {hh : List (Nat × Nat × Nat × Nat)} {f mc ms : Nat} (C : Cx X y cc nL ret hh f mc ms) {k n pc : Nat} {LS st : List Value} {h : Hp} {x z : Int32} (hd : decode cc pc = .ok (.iand, 1)) (K : wr X k n (pc + 1) LS (.int (x &&& z) :: st) h) : wr X k n pc LS (.int z :: .int x :: st) h := by
  obtain ⟨p, l, e, R, s, m, args, below, meth, c, G, ρ0, n0, Q⟩ := X
  obtain ⟨hx, hb, hml, hr, hown, hlk, hnm, htb, htr, hE, hsz, hf, hmc, hms, hlo⟩ := C
  intro ρ H locs ls hWo hS hL hv1 hv2 hρ
  exact lv_iand hx hb hd (K ρ H locs ls hWo hS hL hv1 (vl_c trivial (vl_t (vl_t hv2))) hρ)
theorem r_ior {X : Ctx} {y : MethodName} {cc : ByteArray} {nL : Nat} {ret : Option FieldType} {hh : List (Nat × Nat × Nat × Nat)} {f mc ms : Nat} (C : Cx X y cc nL ret hh f mc ms) {k n pc : Nat} {LS st : List Value} {h : Hp} {x z : Int32} (hd : decode cc pc = .ok (.ior, 1)) (K : wr X k n (pc + 1) LS (.int (x ||| z) :: st) h) : wr X k n pc LS (.int z :: .int x :: st) h := by
  obtain ⟨p, l, e, R, s, m, args, below, meth, c, G, ρ0, n0, Q⟩ := X
  obtain ⟨hx, hb, hml, hr, hown, hlk, hnm, htb, htr, hE, hsz, hf, hmc, hms, hlo⟩ := C
  intro ρ H locs ls hWo hS hL hv1 hv2 hρ
  exact lv_ior hx hb hd (K ρ H locs ls hWo hS hL hv1 (vl_c trivial (vl_t (vl_t hv2))) hρ)
theorem r_ixor {X : Ctx} {y : MethodName} {cc : ByteArray} {nL : Nat} {ret : Option FieldType} {hh : List (Nat × Nat × Nat × Nat)} {f mc ms : Nat} (C : Cx X y cc nL ret hh f mc ms) {k n pc : Nat} {LS st : List Value} {h : Hp} {x z : Int32} (hd : decode cc pc = .ok (.ixor, 1)) (K : wr X k n (pc + 1) LS (.int (x ^^^ z) :: st) h) : wr X k n pc LS (.int z :: .int x :: st) h := by
  obtain ⟨p, l, e, R, s, m, args, below, meth, c, G, ρ0, n0, Q⟩ := X
  obtain ⟨hx, hb, hml, hr, hown, hlk, hnm, htb, htr, hE, hsz, hf, hmc, hms, hlo⟩ := C
  intro ρ H locs ls hWo hS hL hv1 hv2 hρ
  exact lv_ixor hx hb hd (K ρ H locs ls hWo hS hL hv1 (vl_c trivial (vl_t (vl_t hv2))) hρ)
theorem r_ishl {X : Ctx} {y : MethodName} {cc : ByteArray} {nL : Nat} {ret : Option FieldType} {hh : List (Nat × Nat × Nat × Nat)} {f mc ms : Nat} (C : Cx X y cc nL ret hh f mc ms) {k n pc : Nat} {LS st : List Value} {h : Hp} {x z : Int32} (hd : decode cc pc = .ok (.ishl, 1)) (K : wr X k n (pc + 1) LS (.int (x <<< (z &&& 31)) :: st) h) : wr X k n pc LS (.int z :: .int x :: st) h := by
  obtain ⟨p, l, e, R, s, m, args, below, meth, c, G, ρ0, n0, Q⟩ := X
  obtain ⟨hx, hb, hml, hr, hown, hlk, hnm, htb, htr, hE, hsz, hf, hmc, hms, hlo⟩ := C
  intro ρ H locs ls hWo hS hL hv1 hv2 hρ
  exact lv_ishl hx hb hd (K ρ H locs ls hWo hS hL hv1 (vl_c trivial (vl_t (vl_t hv2))) hρ)
theorem r_ishr {X : Ctx} {y : MethodName} {cc : ByteArray} {nL : Nat} {ret : Option FieldType} {hh : List (Nat × Nat × Nat × Nat)} {f mc ms : Nat} (C : Cx X y cc nL ret hh f mc ms) {k n pc : Nat} {LS st : List Value} {h : Hp} {x z : Int32} (hd : decode cc pc = .ok (.ishr, 1)) (K : wr X k n (pc + 1) LS (.int (x >>> (z &&& 31)) :: st) h) : wr X k n pc LS (.int z :: .int x :: st) h := by
  obtain ⟨p, l, e, R, s, m, args, below, meth, c, G, ρ0, n0, Q⟩ := X
  obtain ⟨hx, hb, hml, hr, hown, hlk, hnm, htb, htr, hE, hsz, hf, hmc, hms, hlo⟩ := C
  intro ρ H locs ls hWo hS hL hv1 hv2 hρ
  exact lv_ishr hx hb hd (K ρ H locs ls hWo hS hL hv1 (vl_c trivial (vl_t (vl_t hv2))) hρ)
theorem r_idiv {X : Ctx} {y : MethodName} {cc : ByteArray} {nL : Nat} {ret : Option FieldType} {hh : List (Nat × Nat × Nat × Nat)} {f mc ms : Nat} (C : Cx X y cc nL ret hh f mc ms) {k n pc : Nat} {LS st : List Value} {h : Hp} {x z : Int32} (hd : decode cc pc = .ok (.idiv, 1)) (hz : ¬ z = 0) (K : wr X k n (pc + 1) LS (.int (x / z) :: st) h) : wr X k n pc LS (.int z :: .int x :: st) h := by
  obtain ⟨p, l, e, R, s, m, args, below, meth, c, G, ρ0, n0, Q⟩ := X
  obtain ⟨hx, hb, hml, hr, hown, hlk, hnm, htb, htr, hE, hsz, hf, hmc, hms, hlo⟩ := C
  intro ρ H locs ls hWo hS hL hv1 hv2 hρ
  exact lv_idiv hx hb hd hz (K ρ H locs ls hWo hS hL hv1 (vl_c trivial (vl_t (vl_t hv2))) hρ)
theorem r_irem {X : Ctx} {y : MethodName} {cc : ByteArray} {nL : Nat} {ret : Option FieldType} {hh : List (Nat × Nat × Nat × Nat)} {f mc ms : Nat} (C : Cx X y cc nL ret hh f mc ms) {k n pc : Nat} {LS st : List Value} {h : Hp} {x z : Int32} (hd : decode cc pc = .ok (.irem, 1)) (hz : ¬ z = 0) (K : wr X k n (pc + 1) LS (.int (x - x / z * z) :: st) h) : wr X k n pc LS (.int z :: .int x :: st) h := by
  obtain ⟨p, l, e, R, s, m, args, below, meth, c, G, ρ0, n0, Q⟩ := X
  obtain ⟨hx, hb, hml, hr, hown, hlk, hnm, htb, htr, hE, hsz, hf, hmc, hms, hlo⟩ := C
  intro ρ H locs ls hWo hS hL hv1 hv2 hρ
  exact lv_irem hx hb hd hz (K ρ H locs ls hWo hS hL hv1 (vl_c trivial (vl_t (vl_t hv2))) hρ)
theorem r_iushr {X : Ctx} {y : MethodName} {cc : ByteArray} {nL : Nat} {ret : Option FieldType} {hh : List (Nat × Nat × Nat × Nat)} {f mc ms : Nat} (C : Cx X y cc nL ret hh f mc ms) {k n pc : Nat} {LS st : List Value} {h : Hp} {x z v : Int32} (hd : decode cc pc = .ok (.iushr, 1)) (hv : (x.toUInt32 >>> (z.toUInt32 &&& Int32.toUInt32 31)).toInt32 = v) (K : wr X k n (pc + 1) LS (.int v :: st) h) : wr X k n pc LS (.int z :: .int x :: st) h := by
  obtain ⟨p, l, e, R, s, m, args, below, meth, c, G, ρ0, n0, Q⟩ := X
  obtain ⟨hx, hb, hml, hr, hown, hlk, hnm, htb, htr, hE, hsz, hf, hmc, hms, hlo⟩ := C
  intro ρ H locs ls hWo hS hL hv1 hv2 hρ
  exact lv_iushr hx hb hd hv (K ρ H locs ls hWo hS hL hv1 (vl_c trivial (vl_t (vl_t hv2))) hρ)
theorem r_i2l {X : Ctx} {y : MethodName} {cc : ByteArray} {nL : Nat} {ret : Option FieldType} {hh : List (Nat × Nat × Nat × Nat)} {f mc ms : Nat} (C : Cx X y cc nL ret hh f mc ms) {k n pc : Nat} {LS st : List Value} {h : Hp} {x : Int32} (hd : decode cc pc = .ok (.i2l, 1)) (K : wr X k n (pc + 1) LS (.long x.toInt64 :: st) h) : wr X k n pc LS (.int x :: st) h := by
  obtain ⟨p, l, e, R, s, m, args, below, meth, c, G, ρ0, n0, Q⟩ := X
  obtain ⟨hx, hb, hml, hr, hown, hlk, hnm, htb, htr, hE, hsz, hf, hmc, hms, hlo⟩ := C
  intro ρ H locs ls hWo hS hL hv1 hv2 hρ
  exact lv_i2l hx hb hd rfl (K ρ H locs ls hWo hS hL hv1 (vl_c trivial (vl_t hv2)) hρ)
theorem r_dup {X : Ctx} {y : MethodName} {cc : ByteArray} {nL : Nat} {ret : Option FieldType} {hh : List (Nat × Nat × Nat × Nat)} {f mc ms : Nat} (C : Cx X y cc nL ret hh f mc ms) {k n pc : Nat} {LS st : List Value} {h : Hp} {v : Value} (hc : v.category = 1) (hd : decode cc pc = .ok (.dup, 1)) (K : wr X k n (pc + 1) LS (v :: v :: st) h) : wr X k n pc LS (v :: st) h := by
  obtain ⟨p, l, e, R, s, m, args, below, meth, c, G, ρ0, n0, Q⟩ := X
  obtain ⟨hx, hb, hml, hr, hown, hlk, hnm, htb, htr, hE, hsz, hf, hmc, hms, hlo⟩ := C
  intro ρ H locs ls hWo hS hL hv1 hv2 hρ
  exact lv_dup hx hb hd (by rw [upv_cat]; exact hc) (K ρ H locs ls hWo hS hL hv1 (vl_c (vl_h hv2) hv2) hρ)
theorem r_pop {X : Ctx} {y : MethodName} {cc : ByteArray} {nL : Nat} {ret : Option FieldType} {hh : List (Nat × Nat × Nat × Nat)} {f mc ms : Nat} (C : Cx X y cc nL ret hh f mc ms) {k n pc : Nat} {LS st : List Value} {h : Hp} {v : Value} (hc : v.category = 1) (hd : decode cc pc = .ok (.pop, 1)) (K : wr X k n (pc + 1) LS st h) : wr X k n pc LS (v :: st) h := by
  obtain ⟨p, l, e, R, s, m, args, below, meth, c, G, ρ0, n0, Q⟩ := X
  obtain ⟨hx, hb, hml, hr, hown, hlk, hnm, htb, htr, hE, hsz, hf, hmc, hms, hlo⟩ := C
  intro ρ H locs ls hWo hS hL hv1 hv2 hρ
  exact lv_pop hx hb hd (by rw [upv_cat]; exact hc) (K ρ H locs ls hWo hS hL hv1 (vl_t hv2) hρ)
theorem r_dup_x1 {X : Ctx} {y : MethodName} {cc : ByteArray} {nL : Nat} {ret : Option FieldType} {hh : List (Nat × Nat × Nat × Nat)} {f mc ms : Nat} (C : Cx X y cc nL ret hh f mc ms) {k n pc : Nat} {LS st : List Value} {h : Hp} {v w : Value} (hc : v.category = 1) (hw : w.category = 1) (hd : decode cc pc = .ok (.dup_x1, 1)) (K : wr X k n (pc + 1) LS (v :: w :: v :: st) h) : wr X k n pc LS (v :: w :: st) h := by
  obtain ⟨p, l, e, R, s, m, args, below, meth, c, G, ρ0, n0, Q⟩ := X
  obtain ⟨hx, hb, hml, hr, hown, hlk, hnm, htb, htr, hE, hsz, hf, hmc, hms, hlo⟩ := C
  intro ρ H locs ls hWo hS hL hv1 hv2 hρ
  exact lv_dup_x1 hx hb hd (by rw [upv_cat]; exact hc) (by rw [upv_cat]; exact hw) (K ρ H locs ls hWo hS hL hv1 (vl_c (vl_h hv2) (vl_c (vl_h (vl_t hv2)) (vl_c (vl_h hv2) (vl_t (vl_t hv2))))) hρ)
theorem r_dup2 {X : Ctx} {y : MethodName} {cc : ByteArray} {nL : Nat} {ret : Option FieldType} {hh : List (Nat × Nat × Nat × Nat)} {f mc ms : Nat} (C : Cx X y cc nL ret hh f mc ms) {k n pc : Nat} {LS st : List Value} {h : Hp} {v w : Value} (hc : v.category = 1) (hw : w.category = 1) (hd : decode cc pc = .ok (.dup2, 1)) (K : wr X k n (pc + 1) LS (v :: w :: v :: w :: st) h) : wr X k n pc LS (v :: w :: st) h := by
  obtain ⟨p, l, e, R, s, m, args, below, meth, c, G, ρ0, n0, Q⟩ := X
  obtain ⟨hx, hb, hml, hr, hown, hlk, hnm, htb, htr, hE, hsz, hf, hmc, hms, hlo⟩ := C
  intro ρ H locs ls hWo hS hL hv1 hv2 hρ
  exact lv_dup2_11 hx hb hd (by rw [upv_cat]; exact hc) (by rw [upv_cat]; exact hw) (K ρ H locs ls hWo hS hL hv1 (vl_c (vl_h hv2) (vl_c (vl_h (vl_t hv2)) hv2)) hρ)
theorem r_iload_n {X : Ctx} {y : MethodName} {cc : ByteArray} {nL : Nat} {ret : Option FieldType} {hh : List (Nat × Nat × Nat × Nat)} {f mc ms : Nat} (C : Cx X y cc nL ret hh f mc ms) {k n pc : Nat} {LS st : List Value} {h : Hp} {j : Fin 4} {i : Nat} {x : Int32} (hd : decode cc pc = .ok (.iload_n j, 1)) (hi : (j : Nat) = i) (hl : LS[i]? = some (.int x)) (K : wr X k n (pc + 1) LS (.int x :: st) h) : wr X k n pc LS st h := by
  obtain ⟨p, l, e, R, s, m, args, below, meth, c, G, ρ0, n0, Q⟩ := X
  obtain ⟨hx, hb, hml, hr, hown, hlk, hnm, htb, htr, hE, hsz, hf, hmc, hms, hlo⟩ := C
  intro ρ H locs ls hWo hS hL hv1 hv2 hρ
  exact lv_iload_n hx hb hd hi (hL.2 _ _ hl rfl) (K ρ H locs ls hWo hS hL hv1 (vl_c trivial hv2) hρ)
theorem r_iload {X : Ctx} {y : MethodName} {cc : ByteArray} {nL : Nat} {ret : Option FieldType} {hh : List (Nat × Nat × Nat × Nat)} {f mc ms : Nat} (C : Cx X y cc nL ret hh f mc ms) {k n pc : Nat} {LS st : List Value} {h : Hp} {i : Nat} {x : Int32} (hd : decode cc pc = .ok (.iload i, 2)) (hl : LS[i]? = some (.int x)) (K : wr X k n (pc + 2) LS (.int x :: st) h) : wr X k n pc LS st h := by
  obtain ⟨p, l, e, R, s, m, args, below, meth, c, G, ρ0, n0, Q⟩ := X
  obtain ⟨hx, hb, hml, hr, hown, hlk, hnm, htb, htr, hE, hsz, hf, hmc, hms, hlo⟩ := C
  intro ρ H locs ls hWo hS hL hv1 hv2 hρ
  exact lv_iload hx hb hd (hL.2 _ _ hl rfl) (K ρ H locs ls hWo hS hL hv1 (vl_c trivial hv2) hρ)
def isR (v : Value) : Bool := match v with
  | .ref _ => true
  | .null => true
  | _ => false
theorem isR_rf (o : Option Nat) : isR (va_rf o) = true := by cases o <;> rfl
theorem isR_cat {v : Value} (h : isR v = true) : v.category = 1 := by cases v <;> first | rfl | cases h
theorem r_aload_n {X : Ctx} {y : MethodName} {cc : ByteArray} {nL : Nat} {ret : Option FieldType} {hh : List (Nat × Nat × Nat × Nat)} {f mc ms : Nat} (C : Cx X y cc nL ret hh f mc ms) {k n pc : Nat} {LS st : List Value} {h : Hp} {j : Fin 4} {i : Nat} {v : Value} (hd : decode cc pc = .ok (.aload_n j, 1)) (hi : (j : Nat) = i) (hl : LS[i]? = some v) (hr : isR v = true) (K : wr X k n (pc + 1) LS (v :: st) h) : wr X k n pc LS st h := by
  obtain ⟨p, l, e, R, s, m, args, below, meth, c, G, ρ0, n0, Q⟩ := X
  obtain ⟨hx, hb, hml, hret, hown, hlk, hnm, htb, htr, hE, hsz, hf, hmc, hms, hlo⟩ := C
  intro ρ H locs ls hWo hS hL hv1 hv2 hρ
  have hK := K ρ H locs ls hWo hS hL hv1 (vl_c (vl_at hv1 hl) hv2) hρ
  have hv := hL.2 _ _ hl (isR_cat hr)
  cases v with
  | ref a => exact lv_aload_n hx hb hd hi hv hK
  | null => exact lv_aload_nN hx hb hd hi hv hK
  | _ => cases hr
theorem r_aload {X : Ctx} {y : MethodName} {cc : ByteArray} {nL : Nat} {ret : Option FieldType} {hh : List (Nat × Nat × Nat × Nat)} {f mc ms : Nat} (C : Cx X y cc nL ret hh f mc ms) {k n pc : Nat} {LS st : List Value} {h : Hp} {i : Nat} {v : Value} (hd : decode cc pc = .ok (.aload i, 2)) (hl : LS[i]? = some v) (hr : isR v = true) (K : wr X k n (pc + 2) LS (v :: st) h) : wr X k n pc LS st h := by
  obtain ⟨p, l, e, R, s, m, args, below, meth, c, G, ρ0, n0, Q⟩ := X
  obtain ⟨hx, hb, hml, hret, hown, hlk, hnm, htb, htr, hE, hsz, hf, hmc, hms, hlo⟩ := C
  intro ρ H locs ls hWo hS hL hv1 hv2 hρ
  have hK := K ρ H locs ls hWo hS hL hv1 (vl_c (vl_at hv1 hl) hv2) hρ
  have hv := hL.2 _ _ hl (isR_cat hr)
  cases v with
  | ref a => exact lv_aload hx hb hd hv hK
  | null => exact lv_aloadN hx hb hd hv hK
  | _ => cases hr
def asc (ρ : Nat → Nat) (LS : List Value) : List (Nat × Value) := (List.range LS.length).filterMap (fun i => match LS[i]? with
  | some v => if v.category = 1 then some (i, upv ρ v) else none
  | none => none)
theorem asc_mem {ρ : Nat → Nat} {LS : List Value} {i : Nat} {v : Value} (h : LS[i]? = some v) (hc : v.category = 1) : (i, upv ρ v) ∈ asc ρ LS := by
  refine List.mem_filterMap.mpr ⟨i, List.mem_range.mpr (List.getElem?_eq_some_iff.mp h).1, ?_⟩
  rw [h]
  simp [hc]
theorem asc_of {ρ : Nat → Nat} {LS : List Value} {q : Nat × Value} (h : q ∈ asc ρ LS) : ∃ v, LS[q.1]? = some v ∧ v.category = 1 ∧ q.2 = upv ρ v := by
  obtain ⟨i, -, hi⟩ := List.mem_filterMap.mp h
  cases hl : LS[i]? with
  | none => rw [hl] at hi; cases hi
  | some v =>
    rw [hl] at hi
    dsimp only at hi
    by_cases hc : v.category = 1
    · rw [if_pos hc] at hi
      cases hi
      exact ⟨v, hl, hc, rfl⟩
    · rw [if_neg hc] at hi
      cases hi
theorem LV_asc {ρ : Nat → Nat} {ls : Array Slot} {LS : List Value} (h : LV ρ ls LS) : lv_has ls LS.length (asc ρ LS) := ⟨h.1.1, h.1.2.1, fun q hq => by
  obtain ⟨v, h1, h2, h3⟩ := asc_of hq
  rw [h3]
  exact h.2 _ _ h1 h2⟩
theorem LV_set {ρ : Nat → Nat} {ls' : Array Slot} {LS : List Value} {i : Nat} {v : Value} (hi : i < LS.length) (h : lv_has ls' LS.length ((i, upv ρ v) :: (asc ρ LS).filter (fun q => !(q.1 == i) && !(q.1 + 1 == i && q.2.category == 2)))) : LV ρ ls' (LS.set i v) := by
  refine ⟨⟨by rw [List.length_set]; exact h.1, h.2.1, fun q hq => by cases hq⟩, fun j w hj hc => ?_⟩
  by_cases e : j = i
  · subst e
    rw [List.getElem?_set_self hi] at hj
    cases hj
    exact h.2.2 (j, upv ρ v) List.mem_cons_self
  · rw [List.getElem?_set_ne (Ne.symm e)] at hj
    refine h.2.2 (j, upv ρ w) (List.mem_cons_of_mem _ (List.mem_filter.mpr ⟨asc_mem hj hc, ?_⟩))
    have hcw : (upv ρ w).category = 1 := by rw [upv_cat]; exact hc
    simp [e, hcw]
theorem r_istore_n {X : Ctx} {y : MethodName} {cc : ByteArray} {nL : Nat} {ret : Option FieldType} {hh : List (Nat × Nat × Nat × Nat)} {f mc ms : Nat} (C : Cx X y cc nL ret hh f mc ms) {k n pc : Nat} {LS st : List Value} {h : Hp} {j : Fin 4} {i : Nat} {x : Int32} (hd : decode cc pc = .ok (.istore_n j, 1)) (hi : (j : Nat) = i) (hn : i < LS.length) (K : wr X k n (pc + 1) (LS.set i (.int x)) st h) : wr X k n pc LS (.int x :: st) h := by
  obtain ⟨p, l, e, R, s, m, args, below, meth, c, G, ρ0, n0, Q⟩ := X
  obtain ⟨hx, hb, hml, hr, hown, hlk, hnm, htb, htr, hE, hsz, hf, hmc, hms, hlo⟩ := C
  intro ρ H locs ls hWo hS hL hv1 hv2 hρ
  refine lv_istore_n hx hb hd hi (LV_asc hL) hn rfl (fun ls' hl' => ?_)
  exact K ρ H locs ls' hWo hS (LV_set (v := .int x) hn hl') (vl_set hv1 trivial) (vl_t hv2) hρ
theorem r_istore {X : Ctx} {y : MethodName} {cc : ByteArray} {nL : Nat} {ret : Option FieldType} {hh : List (Nat × Nat × Nat × Nat)} {f mc ms : Nat} (C : Cx X y cc nL ret hh f mc ms) {k n pc : Nat} {LS st : List Value} {h : Hp} {i : Nat} {x : Int32} (hd : decode cc pc = .ok (.istore i, 2)) (hn : i < LS.length) (K : wr X k n (pc + 2) (LS.set i (.int x)) st h) : wr X k n pc LS (.int x :: st) h := by
  obtain ⟨p, l, e, R, s, m, args, below, meth, c, G, ρ0, n0, Q⟩ := X
  obtain ⟨hx, hb, hml, hr, hown, hlk, hnm, htb, htr, hE, hsz, hf, hmc, hms, hlo⟩ := C
  intro ρ H locs ls hWo hS hL hv1 hv2 hρ
  refine lv_istore hx hb hd (LV_asc hL) hn rfl (fun ls' hl' => ?_)
  exact K ρ H locs ls' hWo hS (LV_set (v := .int x) hn hl') (vl_set hv1 trivial) (vl_t hv2) hρ
theorem r_astore_n {X : Ctx} {y : MethodName} {cc : ByteArray} {nL : Nat} {ret : Option FieldType} {hh : List (Nat × Nat × Nat × Nat)} {f mc ms : Nat} (C : Cx X y cc nL ret hh f mc ms) {k n pc : Nat} {LS st : List Value} {h : Hp} {j : Fin 4} {i : Nat} {v : Value} (hd : decode cc pc = .ok (.astore_n j, 1)) (hi : (j : Nat) = i) (hn : i < LS.length) (hr : isR v = true) (K : wr X k n (pc + 1) (LS.set i v) st h) : wr X k n pc LS (v :: st) h := by
  obtain ⟨p, l, e, R, s, m, args, below, meth, c, G, ρ0, n0, Q⟩ := X
  obtain ⟨hx, hb, hml, hret, hown, hlk, hnm, htb, htr, hE, hsz, hf, hmc, hms, hlo⟩ := C
  intro ρ H locs ls hWo hS hL hv1 hv2 hρ
  cases v with
  | ref a =>
    refine lv_astore_n hx hb hd hi (LV_asc hL) hn rfl (fun ls' hl' => ?_)
    exact K ρ H locs ls' hWo hS (LV_set (v := .ref a) hn hl') (vl_set hv1 (vl_h hv2)) (vl_t hv2) hρ
  | null =>
    refine lv_astore_nN hx hb hd hi (LV_asc hL) hn rfl (fun ls' hl' => ?_)
    exact K ρ H locs ls' hWo hS (LV_set (v := .null) hn hl') (vl_set hv1 trivial) (vl_t hv2) hρ
  | _ => cases hr
theorem r_astore {X : Ctx} {y : MethodName} {cc : ByteArray} {nL : Nat} {ret : Option FieldType} {hh : List (Nat × Nat × Nat × Nat)} {f mc ms : Nat} (C : Cx X y cc nL ret hh f mc ms) {k n pc : Nat} {LS st : List Value} {h : Hp} {i : Nat} {v : Value} (hd : decode cc pc = .ok (.astore i, 2)) (hn : i < LS.length) (hr : isR v = true) (K : wr X k n (pc + 2) (LS.set i v) st h) : wr X k n pc LS (v :: st) h := by
  obtain ⟨p, l, e, R, s, m, args, below, meth, c, G, ρ0, n0, Q⟩ := X
  obtain ⟨hx, hb, hml, hret, hown, hlk, hnm, htb, htr, hE, hsz, hf, hmc, hms, hlo⟩ := C
  intro ρ H locs ls hWo hS hL hv1 hv2 hρ
  cases v with
  | ref a =>
    refine lv_astore hx hb hd (LV_asc hL) hn rfl (fun ls' hl' => ?_)
    exact K ρ H locs ls' hWo hS (LV_set (v := .ref a) hn hl') (vl_set hv1 (vl_h hv2)) (vl_t hv2) hρ
  | null =>
    refine lv_astoreN hx hb hd (LV_asc hL) hn rfl (fun ls' hl' => ?_)
    exact K ρ H locs ls' hWo hS (LV_set (v := .null) hn hl') (vl_set hv1 trivial) (vl_t hv2) hρ
  | _ => cases hr
theorem r_iinc {X : Ctx} {y : MethodName} {cc : ByteArray} {nL : Nat} {ret : Option FieldType} {hh : List (Nat × Nat × Nat × Nat)} {f mc ms : Nat} (C : Cx X y cc nL ret hh f mc ms) {k n pc : Nat} {LS st : List Value} {h : Hp} {i : Nat} {d : Int} {x v : Int32} (hd : decode cc pc = .ok (.iinc i d, 3)) (hl : LS[i]? = some (.int x)) (hv : x + Int32.ofInt d = v) (K : wr X k n (pc + 3) (LS.set i (.int v)) st h) : wr X k n pc LS st h := by
  obtain ⟨p, l, e, R, s, m, args, below, meth, c, G, ρ0, n0, Q⟩ := X
  obtain ⟨hx, hb, hml, hr, hown, hlk, hnm, htb, htr, hE, hsz, hf, hmc, hms, hlo⟩ := C
  intro ρ H locs ls hWo hS hL hv1 hv2 hρ
  have hn : i < LS.length := (List.getElem?_eq_some_iff.mp hl).1
  obtain ⟨kk, hk⟩ := List.getElem?_of_mem (asc_mem (ρ := ρ) hl rfl)
  refine lv_iinc hx hb hd (LV_asc hL) hk hv hn rfl (fun ls' hl' => ?_)
  exact K ρ H locs ls' hWo hS (LV_set (v := .int v) hn hl') (vl_set hv1 trivial) hv2 hρ
theorem r_if_eq {X : Ctx} {y : MethodName} {cc : ByteArray} {nL : Nat} {ret : Option FieldType} {hh : List (Nat × Nat × Nat × Nat)} {f mc ms : Nat} (C : Cx X y cc nL ret hh f mc ms) {k n pc : Nat} {LS st : List Value} {h : Hp} {x : Int32} {off : Int} {tgt : Nat} (hd : decode cc pc = .ok (.ifCond .eq off, 3)) (ht : (pc : Int) + off = (tgt : Int)) (K1 : x = 0 → wr X k n tgt LS st h) (K2 : ¬ x = 0 → wr X k n (pc + 3) LS st h) : wr X k n pc LS (.int x :: st) h := by
  obtain ⟨p, l, e, R, s, m, args, below, meth, c, G, ρ0, n0, Q⟩ := X
  obtain ⟨hx, hb, hml, hr, hown, hlk, hnm, htb, htr, hE, hsz, hf, hmc, hms, hlo⟩ := C
  intro ρ H locs ls hWo hS hL hv1 hv2 hρ
  exact lv_if_eq hx hb hd ht (fun q => K1 q ρ H locs ls hWo hS hL hv1 (vl_t hv2) hρ) (fun q => K2 q ρ H locs ls hWo hS hL hv1 (vl_t hv2) hρ)
theorem r_ic_eq {X : Ctx} {y : MethodName} {cc : ByteArray} {nL : Nat} {ret : Option FieldType} {hh : List (Nat × Nat × Nat × Nat)} {f mc ms : Nat} (C : Cx X y cc nL ret hh f mc ms) {k n pc : Nat} {LS st : List Value} {h : Hp} {x z : Int32} {off : Int} {tgt : Nat} (hd : decode cc pc = .ok (.if_icmp .eq off, 3)) (ht : (pc : Int) + off = (tgt : Int)) (K1 : x = z → wr X k n tgt LS st h) (K2 : ¬ x = z → wr X k n (pc + 3) LS st h) : wr X k n pc LS (.int z :: .int x :: st) h := by
  obtain ⟨p, l, e, R, s, m, args, below, meth, c, G, ρ0, n0, Q⟩ := X
  obtain ⟨hx, hb, hml, hr, hown, hlk, hnm, htb, htr, hE, hsz, hf, hmc, hms, hlo⟩ := C
  intro ρ H locs ls hWo hS hL hv1 hv2 hρ
  exact lv_icmp_eq hx hb hd ht (fun q => K1 q ρ H locs ls hWo hS hL hv1 (vl_t (vl_t hv2)) hρ) (fun q => K2 q ρ H locs ls hWo hS hL hv1 (vl_t (vl_t hv2)) hρ)
theorem r_if_ne {X : Ctx} {y : MethodName} {cc : ByteArray} {nL : Nat} {ret : Option FieldType} {hh : List (Nat × Nat × Nat × Nat)} {f mc ms : Nat} (C : Cx X y cc nL ret hh f mc ms) {k n pc : Nat} {LS st : List Value} {h : Hp} {x : Int32} {off : Int} {tgt : Nat} (hd : decode cc pc = .ok (.ifCond .ne off, 3)) (ht : (pc : Int) + off = (tgt : Int)) (K1 : ¬ x = 0 → wr X k n tgt LS st h) (K2 : x = 0 → wr X k n (pc + 3) LS st h) : wr X k n pc LS (.int x :: st) h := by
  obtain ⟨p, l, e, R, s, m, args, below, meth, c, G, ρ0, n0, Q⟩ := X
  obtain ⟨hx, hb, hml, hr, hown, hlk, hnm, htb, htr, hE, hsz, hf, hmc, hms, hlo⟩ := C
  intro ρ H locs ls hWo hS hL hv1 hv2 hρ
  exact lv_if_ne hx hb hd ht (fun q => K1 q ρ H locs ls hWo hS hL hv1 (vl_t hv2) hρ) (fun q => K2 q ρ H locs ls hWo hS hL hv1 (vl_t hv2) hρ)
theorem r_ic_ne {X : Ctx} {y : MethodName} {cc : ByteArray} {nL : Nat} {ret : Option FieldType} {hh : List (Nat × Nat × Nat × Nat)} {f mc ms : Nat} (C : Cx X y cc nL ret hh f mc ms) {k n pc : Nat} {LS st : List Value} {h : Hp} {x z : Int32} {off : Int} {tgt : Nat} (hd : decode cc pc = .ok (.if_icmp .ne off, 3)) (ht : (pc : Int) + off = (tgt : Int)) (K1 : ¬ x = z → wr X k n tgt LS st h) (K2 : x = z → wr X k n (pc + 3) LS st h) : wr X k n pc LS (.int z :: .int x :: st) h := by
  obtain ⟨p, l, e, R, s, m, args, below, meth, c, G, ρ0, n0, Q⟩ := X
  obtain ⟨hx, hb, hml, hr, hown, hlk, hnm, htb, htr, hE, hsz, hf, hmc, hms, hlo⟩ := C
  intro ρ H locs ls hWo hS hL hv1 hv2 hρ
  exact lv_icmp_ne hx hb hd ht (fun q => K1 q ρ H locs ls hWo hS hL hv1 (vl_t (vl_t hv2)) hρ) (fun q => K2 q ρ H locs ls hWo hS hL hv1 (vl_t (vl_t hv2)) hρ)
theorem r_if_lt {X : Ctx} {y : MethodName} {cc : ByteArray} {nL : Nat} {ret : Option FieldType} {hh : List (Nat × Nat × Nat × Nat)} {f mc ms : Nat} (C : Cx X y cc nL ret hh f mc ms) {k n pc : Nat} {LS st : List Value} {h : Hp} {x : Int32} {off : Int} {tgt : Nat} (hd : decode cc pc = .ok (.ifCond .lt off, 3)) (ht : (pc : Int) + off = (tgt : Int)) (K1 : x < 0 → wr X k n tgt LS st h) (K2 : ¬ x < 0 → wr X k n (pc + 3) LS st h) : wr X k n pc LS (.int x :: st) h := by
  obtain ⟨p, l, e, R, s, m, args, below, meth, c, G, ρ0, n0, Q⟩ := X
  obtain ⟨hx, hb, hml, hr, hown, hlk, hnm, htb, htr, hE, hsz, hf, hmc, hms, hlo⟩ := C
  intro ρ H locs ls hWo hS hL hv1 hv2 hρ
  exact lv_if_lt hx hb hd ht (fun q => K1 q ρ H locs ls hWo hS hL hv1 (vl_t hv2) hρ) (fun q => K2 q ρ H locs ls hWo hS hL hv1 (vl_t hv2) hρ)
theorem r_ic_lt {X : Ctx} {y : MethodName} {cc : ByteArray} {nL : Nat} {ret : Option FieldType} {hh : List (Nat × Nat × Nat × Nat)} {f mc ms : Nat} (C : Cx X y cc nL ret hh f mc ms) {k n pc : Nat} {LS st : List Value} {h : Hp} {x z : Int32} {off : Int} {tgt : Nat} (hd : decode cc pc = .ok (.if_icmp .lt off, 3)) (ht : (pc : Int) + off = (tgt : Int)) (K1 : x < z → wr X k n tgt LS st h) (K2 : ¬ x < z → wr X k n (pc + 3) LS st h) : wr X k n pc LS (.int z :: .int x :: st) h := by
  obtain ⟨p, l, e, R, s, m, args, below, meth, c, G, ρ0, n0, Q⟩ := X
  obtain ⟨hx, hb, hml, hr, hown, hlk, hnm, htb, htr, hE, hsz, hf, hmc, hms, hlo⟩ := C
  intro ρ H locs ls hWo hS hL hv1 hv2 hρ
  exact lv_icmp_lt hx hb hd ht (fun q => K1 q ρ H locs ls hWo hS hL hv1 (vl_t (vl_t hv2)) hρ) (fun q => K2 q ρ H locs ls hWo hS hL hv1 (vl_t (vl_t hv2)) hρ)
theorem r_if_ge {X : Ctx} {y : MethodName} {cc : ByteArray} {nL : Nat} {ret : Option FieldType} {hh : List (Nat × Nat × Nat × Nat)} {f mc ms : Nat} (C : Cx X y cc nL ret hh f mc ms) {k n pc : Nat} {LS st : List Value} {h : Hp} {x : Int32} {off : Int} {tgt : Nat} (hd : decode cc pc = .ok (.ifCond .ge off, 3)) (ht : (pc : Int) + off = (tgt : Int)) (K1 : 0 ≤ x → wr X k n tgt LS st h) (K2 : ¬ 0 ≤ x → wr X k n (pc + 3) LS st h) : wr X k n pc LS (.int x :: st) h := by
  obtain ⟨p, l, e, R, s, m, args, below, meth, c, G, ρ0, n0, Q⟩ := X
  obtain ⟨hx, hb, hml, hr, hown, hlk, hnm, htb, htr, hE, hsz, hf, hmc, hms, hlo⟩ := C
  intro ρ H locs ls hWo hS hL hv1 hv2 hρ
  exact lv_if_ge hx hb hd ht (fun q => K1 q ρ H locs ls hWo hS hL hv1 (vl_t hv2) hρ) (fun q => K2 q ρ H locs ls hWo hS hL hv1 (vl_t hv2) hρ)
theorem r_ic_ge {X : Ctx} {y : MethodName} {cc : ByteArray} {nL : Nat} {ret : Option FieldType} {hh : List (Nat × Nat × Nat × Nat)} {f mc ms : Nat} (C : Cx X y cc nL ret hh f mc ms) {k n pc : Nat} {LS st : List Value} {h : Hp} {x z : Int32} {off : Int} {tgt : Nat} (hd : decode cc pc = .ok (.if_icmp .ge off, 3)) (ht : (pc : Int) + off = (tgt : Int)) (K1 : z ≤ x → wr X k n tgt LS st h) (K2 : ¬ z ≤ x → wr X k n (pc + 3) LS st h) : wr X k n pc LS (.int z :: .int x :: st) h := by
  obtain ⟨p, l, e, R, s, m, args, below, meth, c, G, ρ0, n0, Q⟩ := X
  obtain ⟨hx, hb, hml, hr, hown, hlk, hnm, htb, htr, hE, hsz, hf, hmc, hms, hlo⟩ := C
  intro ρ H locs ls hWo hS hL hv1 hv2 hρ
  exact lv_icmp_ge hx hb hd ht (fun q => K1 q ρ H locs ls hWo hS hL hv1 (vl_t (vl_t hv2)) hρ) (fun q => K2 q ρ H locs ls hWo hS hL hv1 (vl_t (vl_t hv2)) hρ)
theorem r_if_gt {X : Ctx} {y : MethodName} {cc : ByteArray} {nL : Nat} {ret : Option FieldType} {hh : List (Nat × Nat × Nat × Nat)} {f mc ms : Nat} (C : Cx X y cc nL ret hh f mc ms) {k n pc : Nat} {LS st : List Value} {h : Hp} {x : Int32} {off : Int} {tgt : Nat} (hd : decode cc pc = .ok (.ifCond .gt off, 3)) (ht : (pc : Int) + off = (tgt : Int)) (K1 : 0 < x → wr X k n tgt LS st h) (K2 : ¬ 0 < x → wr X k n (pc + 3) LS st h) : wr X k n pc LS (.int x :: st) h := by
  obtain ⟨p, l, e, R, s, m, args, below, meth, c, G, ρ0, n0, Q⟩ := X
  obtain ⟨hx, hb, hml, hr, hown, hlk, hnm, htb, htr, hE, hsz, hf, hmc, hms, hlo⟩ := C
  intro ρ H locs ls hWo hS hL hv1 hv2 hρ
  exact lv_if_gt hx hb hd ht (fun q => K1 q ρ H locs ls hWo hS hL hv1 (vl_t hv2) hρ) (fun q => K2 q ρ H locs ls hWo hS hL hv1 (vl_t hv2) hρ)
theorem r_ic_gt {X : Ctx} {y : MethodName} {cc : ByteArray} {nL : Nat} {ret : Option FieldType} {hh : List (Nat × Nat × Nat × Nat)} {f mc ms : Nat} (C : Cx X y cc nL ret hh f mc ms) {k n pc : Nat} {LS st : List Value} {h : Hp} {x z : Int32} {off : Int} {tgt : Nat} (hd : decode cc pc = .ok (.if_icmp .gt off, 3)) (ht : (pc : Int) + off = (tgt : Int)) (K1 : z < x → wr X k n tgt LS st h) (K2 : ¬ z < x → wr X k n (pc + 3) LS st h) : wr X k n pc LS (.int z :: .int x :: st) h := by
  obtain ⟨p, l, e, R, s, m, args, below, meth, c, G, ρ0, n0, Q⟩ := X
  obtain ⟨hx, hb, hml, hr, hown, hlk, hnm, htb, htr, hE, hsz, hf, hmc, hms, hlo⟩ := C
  intro ρ H locs ls hWo hS hL hv1 hv2 hρ
  exact lv_icmp_gt hx hb hd ht (fun q => K1 q ρ H locs ls hWo hS hL hv1 (vl_t (vl_t hv2)) hρ) (fun q => K2 q ρ H locs ls hWo hS hL hv1 (vl_t (vl_t hv2)) hρ)
theorem r_if_le {X : Ctx} {y : MethodName} {cc : ByteArray} {nL : Nat} {ret : Option FieldType} {hh : List (Nat × Nat × Nat × Nat)} {f mc ms : Nat} (C : Cx X y cc nL ret hh f mc ms) {k n pc : Nat} {LS st : List Value} {h : Hp} {x : Int32} {off : Int} {tgt : Nat} (hd : decode cc pc = .ok (.ifCond .le off, 3)) (ht : (pc : Int) + off = (tgt : Int)) (K1 : x ≤ 0 → wr X k n tgt LS st h) (K2 : ¬ x ≤ 0 → wr X k n (pc + 3) LS st h) : wr X k n pc LS (.int x :: st) h := by
  obtain ⟨p, l, e, R, s, m, args, below, meth, c, G, ρ0, n0, Q⟩ := X
  obtain ⟨hx, hb, hml, hr, hown, hlk, hnm, htb, htr, hE, hsz, hf, hmc, hms, hlo⟩ := C
  intro ρ H locs ls hWo hS hL hv1 hv2 hρ
  exact lv_if_le hx hb hd ht (fun q => K1 q ρ H locs ls hWo hS hL hv1 (vl_t hv2) hρ) (fun q => K2 q ρ H locs ls hWo hS hL hv1 (vl_t hv2) hρ)
theorem r_ic_le {X : Ctx} {y : MethodName} {cc : ByteArray} {nL : Nat} {ret : Option FieldType} {hh : List (Nat × Nat × Nat × Nat)} {f mc ms : Nat} (C : Cx X y cc nL ret hh f mc ms) {k n pc : Nat} {LS st : List Value} {h : Hp} {x z : Int32} {off : Int} {tgt : Nat} (hd : decode cc pc = .ok (.if_icmp .le off, 3)) (ht : (pc : Int) + off = (tgt : Int)) (K1 : x ≤ z → wr X k n tgt LS st h) (K2 : ¬ x ≤ z → wr X k n (pc + 3) LS st h) : wr X k n pc LS (.int z :: .int x :: st) h := by
  obtain ⟨p, l, e, R, s, m, args, below, meth, c, G, ρ0, n0, Q⟩ := X
  obtain ⟨hx, hb, hml, hr, hown, hlk, hnm, htb, htr, hE, hsz, hf, hmc, hms, hlo⟩ := C
  intro ρ H locs ls hWo hS hL hv1 hv2 hρ
  exact lv_icmp_le hx hb hd ht (fun q => K1 q ρ H locs ls hWo hS hL hv1 (vl_t (vl_t hv2)) hρ) (fun q => K2 q ρ H locs ls hWo hS hL hv1 (vl_t (vl_t hv2)) hρ)
theorem r_goto {X : Ctx} {y : MethodName} {cc : ByteArray} {nL : Nat} {ret : Option FieldType} {hh : List (Nat × Nat × Nat × Nat)} {f mc ms : Nat} (C : Cx X y cc nL ret hh f mc ms) {k n pc : Nat} {LS st : List Value} {h : Hp} {off : Int} {tgt : Nat} (hd : decode cc pc = .ok (.goto off, 3)) (ht : (pc : Int) + off = (tgt : Int)) (K : wr X k n tgt LS st h) : wr X k n pc LS st h := by
  obtain ⟨p, l, e, R, s, m, args, below, meth, c, G, ρ0, n0, Q⟩ := X
  obtain ⟨hx, hb, hml, hr, hown, hlk, hnm, htb, htr, hE, hsz, hf, hmc, hms, hlo⟩ := C
  intro ρ H locs ls hWo hS hL hv1 hv2 hρ
  exact lv_goto hx hb hd ht (K ρ H locs ls hWo hS hL hv1 hv2 hρ)
theorem r_ifnull {X : Ctx} {y : MethodName} {cc : ByteArray} {nL : Nat} {ret : Option FieldType} {hh : List (Nat × Nat × Nat × Nat)} {f mc ms : Nat} (C : Cx X y cc nL ret hh f mc ms) {k n pc : Nat} {LS st : List Value} {h : Hp} {o : Option Nat} {off : Int} {tgt : Nat} (hd : decode cc pc = .ok (.ifnull off, 3)) (ht : (pc : Int) + off = (tgt : Int)) (K1 : o = none → wr X k n tgt LS st h) (K2 : ∀ a, o = some a → wr X k n (pc + 3) LS st h) : wr X k n pc LS (va_rf o :: st) h := by
  obtain ⟨p, l, e, R, s, m, args, below, meth, c, G, ρ0, n0, Q⟩ := X
  obtain ⟨hx, hb, hml, hr, hown, hlk, hnm, htb, htr, hE, hsz, hf, hmc, hms, hlo⟩ := C
  intro ρ H locs ls hWo hS hL hv1 hv2 hρ
  cases o with
  | none => exact lv_ifnullN hx hb hd ht (K1 rfl ρ H locs ls hWo hS hL hv1 (vl_t hv2) hρ)
  | some a => exact lv_ifnull hx hb hd (K2 a rfl ρ H locs ls hWo hS hL hv1 (vl_t hv2) hρ)
theorem r_ifnonnull {X : Ctx} {y : MethodName} {cc : ByteArray} {nL : Nat} {ret : Option FieldType} {hh : List (Nat × Nat × Nat × Nat)} {f mc ms : Nat} (C : Cx X y cc nL ret hh f mc ms) {k n pc : Nat} {LS st : List Value} {h : Hp} {o : Option Nat} {off : Int} {tgt : Nat} (hd : decode cc pc = .ok (.ifnonnull off, 3)) (ht : (pc : Int) + off = (tgt : Int)) (K1 : ∀ a, o = some a → wr X k n tgt LS st h) (K2 : o = none → wr X k n (pc + 3) LS st h) : wr X k n pc LS (va_rf o :: st) h := by
  obtain ⟨p, l, e, R, s, m, args, below, meth, c, G, ρ0, n0, Q⟩ := X
  obtain ⟨hx, hb, hml, hr, hown, hlk, hnm, htb, htr, hE, hsz, hf, hmc, hms, hlo⟩ := C
  intro ρ H locs ls hWo hS hL hv1 hv2 hρ
  cases o with
  | none => exact lv_ifnonnullN hx hb hd (K2 rfl ρ H locs ls hWo hS hL hv1 (vl_t hv2) hρ)
  | some a => exact lv_ifnonnull hx hb hd ht (K1 a rfl ρ H locs ls hWo hS hL hv1 (vl_t hv2) hρ)
theorem r_tsw {X : Ctx} {y : MethodName} {cc : ByteArray} {nL : Nat} {ret : Option FieldType} {hh : List (Nat × Nat × Nat × Nat)} {f mc ms : Nat} (C : Cx X y cc nL ret hh f mc ms) {k n pc : Nat} {LS st : List Value} {h : Hp} {df lo hi : Int} {offs : Array Int} {len : Nat} {x : Int32} {off : Int} {tgt : Nat} (hd : decode cc pc = .ok (.tableswitch df lo hi offs, len)) (h1 : ¬ x.toInt < lo) (h2 : ¬ hi < x.toInt) (ho : offs[(x.toInt - lo).toNat]? = some off) (ht : (pc : Int) + off = (tgt : Int)) (K : wr X k n tgt LS st h) : wr X k n pc LS (.int x :: st) h := by
  obtain ⟨p, l, e, R, s, m, args, below, meth, c, G, ρ0, n0, Q⟩ := X
  obtain ⟨hx, hb, hml, hr, hown, hlk, hnm, htb, htr, hE, hsz, hf, hmc, hms, hlo⟩ := C
  intro ρ H locs ls hWo hS hL hv1 hv2 hρ
  exact lv_tableIn hx hb hd h1 h2 ho ht (K ρ H locs ls hWo hS hL hv1 (vl_t hv2) hρ)
theorem r_tswo {X : Ctx} {y : MethodName} {cc : ByteArray} {nL : Nat} {ret : Option FieldType} {hh : List (Nat × Nat × Nat × Nat)} {f mc ms : Nat} (C : Cx X y cc nL ret hh f mc ms) {k n pc : Nat} {LS st : List Value} {h : Hp} {df lo hi : Int} {offs : Array Int} {len : Nat} {x : Int32} {tgt : Nat} (hd : decode cc pc = .ok (.tableswitch df lo hi offs, len)) (h1 : x.toInt < lo ∨ hi < x.toInt) (ht : (pc : Int) + df = (tgt : Int)) (K : wr X k n tgt LS st h) : wr X k n pc LS (.int x :: st) h := by
  obtain ⟨p, l, e, R, s, m, args, below, meth, c, G, ρ0, n0, Q⟩ := X
  obtain ⟨hx, hb, hml, hr, hown, hlk, hnm, htb, htr, hE, hsz, hf, hmc, hms, hlo⟩ := C
  intro ρ H locs ls hWo hS hL hv1 hv2 hρ
  exact lv_tableOut hx hb hd h1 ht (K ρ H locs ls hWo hS hL hv1 (vl_t hv2) hρ)
theorem r_lsw {X : Ctx} {y : MethodName} {cc : ByteArray} {nL : Nat} {ret : Option FieldType} {hh : List (Nat × Nat × Nat × Nat)} {f mc ms : Nat} (C : Cx X y cc nL ret hh f mc ms) {k n pc : Nat} {LS st : List Value} {h : Hp} {df : Int} {ps : Array (Int × Int)} {len : Nat} {x : Int32} {off : Int} {tgt : Nat} (hd : decode cc pc = .ok (.lookupswitch df ps, len)) (hp : (ps.toList.zip (ps.toList.drop 1)).all (fun (a, next) => a.1 < next.1) = true) (ho : Op.lookupswitch.offset ps.toList df x.toInt = off) (ht : (pc : Int) + off = (tgt : Int)) (K : wr X k n tgt LS st h) : wr X k n pc LS (.int x :: st) h := by
  obtain ⟨p, l, e, R, s, m, args, below, meth, c, G, ρ0, n0, Q⟩ := X
  obtain ⟨hx, hb, hml, hr, hown, hlk, hnm, htb, htr, hE, hsz, hf, hmc, hms, hlo⟩ := C
  intro ρ H locs ls hWo hS hL hv1 hv2 hρ
  exact lv_lookup hx hb hd hp ho ht (K ρ H locs ls hWo hS hL hv1 (vl_t hv2) hρ)
