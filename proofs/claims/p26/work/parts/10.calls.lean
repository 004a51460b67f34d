/-! ===== BEGIN a constructor that throws (launches without stack traces) ===== -/
section VXIA
variable {p : Program} {l : Launch} {e : Env} {R : Room} {s : State} {m : MethodId} {args : Array Value} {below : List Frame} {meth : Method} {c : Code} {T : State} {locs : List Loc} {cells slots : Nat}
theorem vx_callI (X : Stand p l e R s m args below meth c T locs cells slots) (hexec : p.tables.exec = Jvm.exec) {own : String} {index : Nat} {y : MethodName} {bytes : ByteArray} {maxL : Nat}
    (hown : s.vm.findClass own = some m.cls) (hy1 : y.name = "<init>") (hlink : (Cond.methodLink own index y).before args s = true) (hinst : (Cond.instanceMethod y).before args s = true)
    (hcode : (Cond.code y bytes maxL none).before args s = true) (hy : y.cls ≠ "java/lang/invoke/MethodHandle" ∧ y.cls ≠ "java/lang/invoke/VarHandle")
    {W9 : Nat} {Pre : Pt → Array Value → Prop} {Post : Pt → Array Value → Option Value → Pt → Prop} {PostX : Pt → Array Value → Addr → Pt → Prop} (hK : vx_Back l R p e below s args y 3 W9 Pre Post PostX)
    {g : JFrame} (hg : g.method = m) (hsize : g.locals.size = c.maxLocals) {a : Addr} {argsL rest : List Value} (hlen : ∀ sig, parseMethodDescriptor y.desc = some sig → argsL.length = sig.parameters.length)
    (hstack : g.stack = argsL.reverse ++ .ref a :: rest) (hW : 2 * g.monitorRoom + (rest.map fun v => v.category).sum ≤ W9) (hdg : decode c.code g.pc = .ok (.invokespecial index, 3))
    (hpre : ∀ vm₁, s.WarmedH vm₁ → Pre ⟨T.setVm vm₁, locs, cells, slots⟩ (Value.ref a :: argsL).toArray) :
    (∃ (v : Option Value) (vm₁ : Vm) (B : Pt), s.WarmedH vm₁ ∧ Stand p l e R s m args below meth c B.U B.locs B.cells B.slots ∧ Post ⟨T.setVm vm₁, locs, cells, slots⟩ (Value.ref a :: argsL).toArray v B ∧
      ∀ target, Steps p.tables e below (B.U.setTop { g with pc := g.pc + 3, stack := v.toList ++ rest }) target → Steps p.tables e below (T.setTop g) target) ∨
    (∃ (q : Addr) (vm₁ : Vm) (B : Pt), s.WarmedH vm₁ ∧ Stand p l e R s m args below meth c B.U B.locs B.cells B.slots ∧ PostX ⟨T.setVm vm₁, locs, cells, slots⟩ (Value.ref a :: argsL).toArray q B ∧
      Steps p.tables e below (T.setTop g) ((B.U.setTop { g with stack := rest }).pushFrame (.throwing q))) := by
  subst hg
  have hpl : e.platform.magicAccessors = ({} : Platform).magicAccessors := by rw [X.admits.platform]
  obtain ⟨mk, methM, cM, kP, vm₁, hnamed, hmethM, hcodeM, -, hlocalsM, -, hkP, -, hW₁, hstep₁⟩ := Steps.initColdArgs (e := e) X.here hexec X.warmed hpl hown hy1 hy hlink hinst hcode (f := g) rfl hlen hstack hdg
  have X₁ := X.noted hW₁
  rcases hK g.method meth c ⟨T.setVm vm₁, locs, cells, slots⟩ { g with stack := rest } (.invokespecial index) mk (Value.ref a :: argsL).toArray X₁ rfl hsize hdg hW (X₁.named hnamed) (hpre vm₁ X₁.warmed) with ⟨v, B, X', hpost, hsteps⟩ | ⟨q, B, X', hpost, hsteps⟩
  · exact Or.inl ⟨v, vm₁, B, X₁.warmed, X', hpost, fun target h => hstep₁ _ fun acts => by rw [doInvoke_state]; exact hsteps.trans h⟩
  · exact Or.inr ⟨q, vm₁, B, X₁.warmed, X', hpost, hstep₁ _ fun acts => by rw [doInvoke_state]; exact hsteps⟩
end VXIA
section VXIB
variable {p : Program} {l : Launch} {e : Env} {R : Room} {s : State} {m : MethodId} {args : Array Value} {below : List Frame} {meth : Method} {c : Code} {H : Heap} {locs : List Loc} {cells slots : Nat}
variable {y : MethodName} {bytes cc : ByteArray} {maxL nL mc ms n index : Nat} {ret : Option FieldType} {ws : List Cond} {rm : Room} {Pc : Array Value → State → Prop} {Qc : Array Value → State → Outcome → State → Prop} {XC : String → State → State → Prop} {free : Addr → Prop} {Ts : List Cond} {own C : String} {b : Addr} {As rest : List Value} {g : JFrame}
theorem vx_runI (S : CallFix p m c cc nL s args Ts own) (hM : vx_Met l y ws rm Pc Qc XC mc ms free) (cw : CallB R s args own index y bytes maxL none ws rm mc ms n ∧ y.name = "<init>" ∧ (Cond.instanceMethod y).before args s = true) (hp : PreS s H Pc (.ref b :: As))
    (hg : g.method = m) (hn : As.length = n) (hsize : g.locals.size = nL) (hstack : g.stack = As.reverse ++ .ref b :: rest) (hW : 2 * g.monitorRoom + (rest.map fun v => v.category).sum ≤ 8) (hdg : decode cc g.pc = .ok (.invokespecial index, 3)) (hf : cells + mc ≤ R.cells ∧ slots + ms ≤ R.slots) :
    vx_Run p l e R s m args below meth c H locs cells slots mc ms g rest (Qc (Value.ref b :: As).toArray) XC free := by
  have hK : vx_Back l R p e below s args y 3 8 (PreOf R mc ms Pc) (PostOf Qc mc ms free) (vx_Post XC mc ms free) := vx_callBack cw.1 hM hp.1
  obtain ⟨⟨-, -, -, -, -, -, hcode, -, hy, hlen, hl⟩, hy1, hin⟩ := cw
  obtain ⟨hx, hb, hml, ho, -⟩ := S
  have hPc := hp.2
  intro T hT X
  rcases vx_callI X hx (bytes := bytes) (maxL := maxL) ho hy1 hl hin hcode hy hK hg (hsize.trans hml.symm) (a := b) (argsL := As) (rest := rest) (fun sig h => hn.trans (hlen sig h)) hstack hW (by rw [hb]; exact hdg)
    (fun vm₁ hW₁ => ⟨hf.1, hf.2, hPc (T.setVm vm₁) hT hW₁⟩) with ⟨v, vm₁, ⟨U', l2, c2, s2⟩, hW₁, X', ⟨g', mk, t, L, e1, e2, hq, h1, hL, h2, h3⟩, st⟩ | ⟨q, vm₁, ⟨U', l2, c2, s2⟩, hW₁, X', ⟨g', mk, t, L, E, ce, e1, e2, hq, hce, hcv, hcl, h1, hL, h2, h3⟩, st⟩
  · dsimp only [Pt.U, Pt.locs, Pt.cells, Pt.slots] at X' e1 e2 h1 h2 h3 st
    subst h1; subst h2; subst h3
    exact Or.inl ⟨v, (T.setVm vm₁).calling g' mk (Value.ref b :: As).toArray, t, U', L, hT, X', hL, e1, e2, hq, st⟩
  · dsimp only [Pt.U, Pt.locs, Pt.cells, Pt.slots] at X' e1 e2 h1 h2 h3 st hcl
    subst h1; subst h2; subst h3
    exact Or.inr ⟨q, (T.setVm vm₁).calling g' mk (Value.ref b :: As).toArray, t, U', L, E, ce, hT, X', hL, e1, e2, hq, hce, hcv, vx_cls hW₁ hcl, st⟩
end VXIB
/-! ===== END ===== -/
/-! ===== BEGIN a private constructor of a nest mate that throws ===== -/
section VXIC
variable {p : Program} {l : Launch} {e : Env} {R : Room} {s : State} {m : MethodId} {args : Array Value} {below : List Frame} {meth : Method} {c : Code} {T : State} {locs : List Loc} {cells slots : Nat}
theorem vx_callIN (X : Stand p l e R s m args below meth c T locs cells slots) (hexec : p.tables.exec = Jvm.exec) {own : String} {index : Nat} {host : String} {y : MethodName} {bytes : ByteArray} {maxL : Nat}
    (hown : s.vm.findClass own = some m.cls) (hy1 : y.name = "<init>") (hlink : (Cond.methodLinkNest own index y host).before args s = true) (hinst : (Cond.instanceMethod y).before args s = true)
    (hcode : (Cond.code y bytes maxL none).before args s = true) (hy : y.cls ≠ "java/lang/invoke/MethodHandle" ∧ y.cls ≠ "java/lang/invoke/VarHandle")
    {W9 : Nat} {Pre : Pt → Array Value → Prop} {Post : Pt → Array Value → Option Value → Pt → Prop} {PostX : Pt → Array Value → Addr → Pt → Prop} (hK : vx_Back l R p e below s args y 3 W9 Pre Post PostX)
    {g : JFrame} (hg : g.method = m) (hsize : g.locals.size = c.maxLocals) {a : Addr} {argsL rest : List Value} (hlen : ∀ sig, parseMethodDescriptor y.desc = some sig → argsL.length = sig.parameters.length)
    (hstack : g.stack = argsL.reverse ++ .ref a :: rest) (hW : 2 * g.monitorRoom + (rest.map fun v => v.category).sum ≤ W9) (hdg : decode c.code g.pc = .ok (.invokespecial index, 3))
    (hpre : ∀ vm₁, s.WarmedH vm₁ → Pre ⟨T.setVm vm₁, locs, cells, slots⟩ (Value.ref a :: argsL).toArray) :
    (∃ (v : Option Value) (vm₁ : Vm) (B : Pt), s.WarmedH vm₁ ∧ Stand p l e R s m args below meth c B.U B.locs B.cells B.slots ∧ Post ⟨T.setVm vm₁, locs, cells, slots⟩ (Value.ref a :: argsL).toArray v B ∧
      ∀ target, Steps p.tables e below (B.U.setTop { g with pc := g.pc + 3, stack := v.toList ++ rest }) target → Steps p.tables e below (T.setTop g) target) ∨
    (∃ (q : Addr) (vm₁ : Vm) (B : Pt), s.WarmedH vm₁ ∧ Stand p l e R s m args below meth c B.U B.locs B.cells B.slots ∧ PostX ⟨T.setVm vm₁, locs, cells, slots⟩ (Value.ref a :: argsL).toArray q B ∧
      Steps p.tables e below (T.setTop g) ((B.U.setTop { g with stack := rest }).pushFrame (.throwing q))) := by
  subst hg
  have hpl : e.platform.magicAccessors = ({} : Platform).magicAccessors := by rw [X.admits.platform]
  obtain ⟨mk, methM, cM, kP, vm₁, hnamed, hmethM, hcodeM, -, hlocalsM, -, hkP, -, hW₁, hstep₁⟩ := Steps.initColdArgsNest (e := e) X.here hexec X.warmed hpl hown hy1 hy hlink hinst hcode (f := g) rfl hlen hstack hdg
  have X₁ := X.noted hW₁
  rcases hK g.method meth c ⟨T.setVm vm₁, locs, cells, slots⟩ { g with stack := rest } (.invokespecial index) mk (Value.ref a :: argsL).toArray X₁ rfl hsize hdg hW (X₁.named hnamed) (hpre vm₁ X₁.warmed) with ⟨v, B, X', hpost, hsteps⟩ | ⟨q, B, X', hpost, hsteps⟩
  · exact Or.inl ⟨v, vm₁, B, X₁.warmed, X', hpost, fun target h => hstep₁ _ fun acts => by rw [doInvoke_state]; exact hsteps.trans h⟩
  · exact Or.inr ⟨q, vm₁, B, X₁.warmed, X', hpost, hstep₁ _ fun acts => by rw [doInvoke_state]; exact hsteps⟩
end VXIC
section VXID
variable {p : Program} {l : Launch} {e : Env} {R : Room} {s : State} {m : MethodId} {args : Array Value} {below : List Frame} {meth : Method} {c : Code} {H : Heap} {locs : List Loc} {cells slots : Nat}
theorem vx_runIN {y : MethodName} {bytes cc : ByteArray} {maxL nL mc ms n index : Nat} {ws : List Cond} {rm : Room} {Pc : Array Value → State → Prop} {Qc : Array Value → State → Outcome → State → Prop} {XC : String → State → State → Prop} {free : Addr → Prop} {Ts : List Cond} {own host : String} {b : Addr} {As rest : List Value} {g : JFrame}
    (S : CallFix p m c cc nL s args Ts own) (hM : vx_Met l y ws rm Pc Qc XC mc ms free) (cw : va_CN R s args own index y host bytes maxL none ws rm mc ms n ∧ y.name = "<init>" ∧ (Cond.instanceMethod y).before args s = true) (hp : PreS s H Pc (.ref b :: As))
    (hg : g.method = m) (hn : As.length = n) (hsize : g.locals.size = nL) (hstack : g.stack = As.reverse ++ .ref b :: rest) (hW : 2 * g.monitorRoom + (rest.map fun v => v.category).sum ≤ 8) (hdg : decode cc g.pc = .ok (.invokespecial index, 3)) (hf : cells + mc ≤ R.cells ∧ slots + ms ≤ R.slots) :
    vx_Run p l e R s m args below meth c H locs cells slots mc ms g rest (Qc (Value.ref b :: As).toArray) XC free := by
  obtain ⟨⟨⟨hrc, hrs, hfr, hlo, hws, hcw⟩, hcode, hini, hy, hlen, hl⟩, hx1, hx2⟩ := cw
  have hK : vx_Back l R p e below s args y 3 8 (PreOf R mc ms Pc) (PostOf Qc mc ms free) (vx_Post XC mc ms free) := vx_back (bytes := bytes) (maxL := maxL) (ret := none) hM hp.1 hrc hrs hfr hlo hws hcw (fun a' U hW => word_at hW (Or.inl (by first | rfl | simp [Cond.onTables, Cond.keeps, Cond.steady])) hini)
  obtain ⟨hx, hb, hml, ho, -⟩ := S
  have hPc := hp.2
  intro T hT X
  rcases vx_callIN X hx (bytes := bytes) (maxL := maxL) ho hx1 hl hx2 hcode hy hK hg (hsize.trans hml.symm) (a := b) (argsL := As) (rest := rest) (fun sig h => hn.trans (hlen sig h)) hstack hW (by rw [hb]; exact hdg)
    (fun vm₁ hW₁ => ⟨hf.1, hf.2, hPc (T.setVm vm₁) hT hW₁⟩) with ⟨v, vm₁, ⟨U', l2, c2, s2⟩, hW₁, X', ⟨g', mk, t, L, e1, e2, hq, h1, hL, h2, h3⟩, st⟩ | ⟨q, vm₁, ⟨U', l2, c2, s2⟩, hW₁, X', ⟨g', mk, t, L, E, ce, e1, e2, hq, hce, hcv, hcl, h1, hL, h2, h3⟩, st⟩
  · dsimp only [Pt.U, Pt.locs, Pt.cells, Pt.slots] at X' e1 e2 h1 h2 h3 st
    subst h1; subst h2; subst h3
    exact Or.inl ⟨v, (T.setVm vm₁).calling g' mk (Value.ref b :: As).toArray, t, U', L, hT, X', hL, e1, e2, hq, st⟩
  · dsimp only [Pt.U, Pt.locs, Pt.cells, Pt.slots] at X' e1 e2 h1 h2 h3 st hcl
    subst h1; subst h2; subst h3
    exact Or.inr ⟨q, (T.setVm vm₁).calling g' mk (Value.ref b :: As).toArray, t, U', L, E, ce, hT, X', hL, e1, e2, hq, hce, hcv, vx_cls hW₁ hcl, st⟩
end VXID
/-! ===== END ===== -/
/-! ===== a method's entry ===== -/
theorem lg_sl1 {vs : List Value} (h : ∀ v ∈ vs, v.category = 1) : lg_sl vs = vs.map Slot.val := by
  induction vs with
  | nil => rfl
  | cons v vs ih =>
    have h1 : v.category = 1 := h v List.mem_cons_self
    have ih := ih (fun w hw => h w (List.mem_cons_of_mem _ hw))
    show (if v.category = 2 then [Slot.val v, .second] else [.val v]) ++ lg_sl vs = _
    rw [if_neg (by omega), ih]
    rfl
theorem LV_entry {ρ : Nat → Nat} {as : List Value} {maxL : Nat} (hc : ∀ v ∈ as, v.category = 1) (hl : as.length ≤ maxL) :
    LV ρ ((lg_sl (as.map (upv ρ)) ++ List.replicate (maxL - (lg_sl (as.map (upv ρ))).length) Slot.unset).toArray) (as ++ List.replicate (maxL - as.length) (.long 0)) := by
  have hc' : ∀ v ∈ as.map (upv ρ), v.category = 1 := by
    intro v hv
    obtain ⟨w, hw, rfl⟩ := List.mem_map.mp hv
    rw [upv_cat]
    exact hc w hw
  have e1 : lg_sl (as.map (upv ρ)) = (as.map (upv ρ)).map Slot.val := lg_sl1 hc'
  have e2 : (lg_sl (as.map (upv ρ))).length = as.length := by rw [e1]; simp
  have h0 := lv_entry (as.map (upv ρ)) (n := maxL) (by rw [e2]; exact hl)
  refine ⟨⟨by rw [h0.1]; simp; omega, h0.2.1, fun q hq => by cases hq⟩, fun i v hi hv => ?_⟩
  by_cases q : i < as.length
  · rw [List.getElem?_append_left q] at hi
    rw [List.getElem?_toArray, List.getElem?_append_left (by rw [e2]; exact q), e1]
    simp [hi]
  · rw [List.getElem?_append_right (by omega)] at hi
    have := List.mem_replicate.mp (List.mem_of_getElem? hi)
    rw [this.2] at hv
    cases hv
theorem vl_ent {n : Nat} {as : List Value} {k : Nat} (h : vl n as) : vl n (as ++ List.replicate k (.long 0)) := vl_app h (fun v hv => by rw [(List.mem_replicate.mp hv).2]; trivial)
theorem mr_of {l : Launch} {G : Gl} {y : MethodName} {cc : ByteArray} {maxL : Nat} {ret : Option FieldType} {f mc ms : Nat} {as : List Value} {h : Hp} {r : Res} (hy : plainName y.cls = true) (hl : as.length ≤ maxL) (hc : ∀ v ∈ as, v.category = 1)
    (body : ∀ X : Ctx, gOf X = G → lOf X = l → Cx X y cc maxL ret [] f mc ms → Ex X mc ms r → wr X 0 0 0 (as ++ List.replicate (maxL - as.length) (.long 0)) [] h) : MRw l G y (.code y cc maxL ret) f mc ms as h r := by
  intro htr A ρ hvl
  refine vx_ofW (cc := cc) (maxL := maxL) (ret := ret) hy rfl ?_
  intro p e s m args below meth c s₁ B hml htab hPc
  obtain ⟨rfl, hE, hWo, hsz⟩ := hPc
  have htb : c.exceptionTable.toList = tableOf [] := by
    cases hq : c.exceptionTable.toList with
    | nil => rfl
    | cons a b => exact absurd (htab a (by rw [hq]; exact List.mem_cons_self)) (fun z => z)
  have K := body (p, l, e, ({ frames := f, cells := mc, slots := ms, locals := 64 * f + 64 } : Room), s, m, (as.map (upv ρ)).toArray, below, meth, c, gW G A, ρ, hN h, vx_MQ below (QcR (gW G A) ρ (hN h) r) (XCR (gW G A) ρ (hN h) r) (as.map (upv ρ)).toArray s mc ms (gA (gW G A))) rfl rfl ⟨B.exec, B.bytes, hml, B.returns, findClass_of_methodNamed B.named, B.notSynchronized, (name_of_methodNamed B.named B.method).1, htb, htr, hE, hsz, Nat.le_refl _, Nat.le_refl _, Nat.le_refl _, Nat.le_refl _⟩ rfl
  have K2 := K ρ s.heap [] _ hWo va_S.rf (LV_entry hc hl) (vl_ent hvl) (fun v hv => by cases hv) ⟨Nat.le_refl _, fun _ _ => rfl⟩
  rw [lg_entry_eq]
  exact K2
/-- .. of a method with handlers -/
theorem mr_ofH {l : Launch} {G : Gl} {y : MethodName} {cc : ByteArray} {maxL : Nat} {ret : Option FieldType} {hh : List (Nat × Nat × Nat × Nat)} {f mc ms : Nat} {as : List Value} {h : Hp} {r : Res} (hy : plainName y.cls = true) (hl : as.length ≤ maxL) (hc : ∀ v ∈ as, v.category = 1)
    (body : ∀ X : Ctx, gOf X = G → lOf X = l → Cx X y cc maxL ret hh f mc ms → Ex X mc ms r → wr X 0 0 0 (as ++ List.replicate (maxL - as.length) (.long 0)) [] h) : MRw l G y (.codeWith y cc maxL ret hh) f mc ms as h r := by
  intro htr A ρ hvl
  refine vx_ofWH (cc := cc) (maxL := maxL) (ret := ret) (hh := hh) hy rfl ?_
  intro p e s m args below meth c s₁ B hml hPc
  obtain ⟨rfl, hE, hWo, hsz⟩ := hPc
  have htb : c.exceptionTable.toList = tableOf hh := vx_table (x := y) B (atoms_spec B.pre _ List.mem_cons_self)
  have K := body (p, l, e, ({ frames := f, cells := mc, slots := ms, locals := 64 * f + 64 } : Room), s, m, (as.map (upv ρ)).toArray, below, meth, c, gW G A, ρ, hN h, vx_MQ below (QcR (gW G A) ρ (hN h) r) (XCR (gW G A) ρ (hN h) r) (as.map (upv ρ)).toArray s mc ms (gA (gW G A))) rfl rfl ⟨B.exec, B.bytes, hml, B.returns, findClass_of_methodNamed B.named, B.notSynchronized, (name_of_methodNamed B.named B.method).1, htb, htr, hE, hsz, Nat.le_refl _, Nat.le_refl _, Nat.le_refl _, Nat.le_refl _⟩ rfl
  have K2 := K ρ s.heap [] _ hWo va_S.rf (LV_entry hc hl) (vl_ent hvl) (fun v hv => by cases hv) ⟨Nat.le_refl _, fun _ _ => rfl⟩
  rw [lg_entry_eq]
  exact K2
/-! ===== calls ===== -/
section Call
variable {p : Program} {l : Launch} {e : Jvm.Env} {R : Room} {s : State} {m : MethodId} {args : Array Value} {below : List Frame} {meth : Method} {c : Code} {G : Gf} {ρ0 : Nat → Nat} {n0 : Nat} {Q : State → Prop}
theorem pc_ok {ρ : Nat → Nat} {h : Hp} {H : Heap} {locs : List Loc} {as : List Value} (hE : Ev G s) (hsz : ∀ q : Nat, s.heap.size ≤ q → gA G q) (hWo : Wo G ρ h H) (hS : va_S (gA G) s.heap H locs) :
    FrameBlind (va_Pc (as.map (upv ρ)) (fun U => Ev G U ∧ Wo G ρ h U.heap ∧ ∀ q : Nat, U.heap.size ≤ q → gA G q)) ∧ ∀ U : State, U.heap = H → s.WarmedH U.vm → va_Pc (as.map (upv ρ)) (fun U => Ev G U ∧ Wo G ρ h U.heap ∧ ∀ q : Nat, U.heap.size ≤ q → gA G q) (as.map (upv ρ)).toArray U := by
  refine ⟨fun a U g mk q => ?_, fun U hU hW => ?_⟩
  · obtain ⟨q0, q1, q2, q3⟩ := q
    exact ⟨q0, Ev_go (s := U) (U := U.calling g mk a) (State.WarmedH.refl U) (fun _ _ _ => rfl) q1, q2, q3⟩
  · refine ⟨rfl, Ev_go hW (fun a ha hna => by rw [hU]; exact hS.2.1 a ha hna) hE, by rw [hU]; exact hWo, fun q hq => hsz q (Nat.le_trans hS.1 (by rw [← hU]; exact hq))⟩
theorem run_ok {k n pc mc9 ms9 : Nat} {LS rest : List Value} {h h1 : Hp} {v : Option Value} {ρ : Nat → Nat} {H : Heap} {locs : List Loc} {ls : Array Slot} {st0 : List Value} {a : Array Value}
    (hWo : Wo G ρ h H) (hS : va_S (gA G) s.heap H locs) (hLV : LV ρ ls LS) (hv1 : vl (hN h) LS) (hvr : vl (hN h) rest) (hρ : n0 ≤ hN h ∧ ∀ a, a < n0 → ρ a = ρ0 a)
    (hr : vx_Run p l e R s m args below meth c H locs k n mc9 ms9 (F0 m pc ls st0) (rest.map (upv ρ)) (QcR G ρ (hN h) (.inl (v, h1)) a) (XCR G ρ (hN h) (.inl (v, h1))) (gA G))
    (K : wr (p, l, e, R, s, m, args, below, meth, c, G, ρ0, n0, Q) (k + mc9) (n + ms9) (pc + 3) LS (v.toList ++ rest) h1) : W p l e R s m args below meth c H locs k n Q (F0 m pc ls st0) := by
  intro T hT Xs
  rcases hr T hT Xs with ⟨v0, st₀, t, T', L, h0, X', hL, e1, e2, hq, go⟩ | ⟨q, st₀, t, T', L, E, ce9, h0, X', hL, e1, e2, hq, -⟩
  · obtain ⟨⟨v1, h1', ρ', hr1, hoc, hv, hWo', hn', hρ'⟩, hF⟩ := hq
    cases hr1
    have hv0 : v0 = v.map (upv ρ') := by
      injection hoc
    subst hv0
    have hk := vx_keep h0 e1 hS (fun _ _ z => z) (fun _ z => z) hL hF
    have hWo2 : Wo G ρ' h1 T'.heap := by rw [e1]; exact hWo'
    have hvv : vl (hN h1) (v.toList ++ rest) := vl_app (fun w hw => hv w (Option.mem_toList.mp hw)) (vl_mono hn' hvr)
    have K2 := K ρ' T'.heap (locs ++ L) ls hWo2 hk.2.2 (LV_ext hρ' hv1 hLV) (vl_mono hn' hv1) hvv ⟨Nat.le_trans hρ.1 hn', fun a ha => (hρ' a (Nat.lt_of_lt_of_le ha hρ.1)).trans (hρ.2 a ha)⟩
    have es : (v.toList ++ rest).map (upv ρ') = (v.map (upv ρ')).toList ++ rest.map (upv ρ) := by
      rw [List.map_append, upv_exts hρ' hvr]
      cases v <;> rfl
    rw [es] at K2
    obtain ⟨t2, a1, b1⟩ := K2 T' rfl X'
    exact ⟨t2, go t2 a1, b1⟩
  · obtain ⟨⟨h1', ρ', hr1, -⟩, -⟩ := hq
    cases hr1
/-- the callee throws, and nothing here catches it -/
theorem run_ex {k n pc mc9 ms9 mc ms : Nat} {rest : List Value} {h h1 : Hp} {E : String} {ρ : Nat → Nat} {H : Heap} {locs : List Loc} {ls : Array Slot} {st0 : List Value} {a : Array Value}
    (hEx : Q = vx_MQ below (QcR G ρ0 n0 (.inr (E, h1))) (XCR G ρ0 n0 (.inr (E, h1))) args s mc ms (gA G)) (htb : c.exceptionTable.toList = tableOf []) (hlk : meth.locks = false)
    (hWo : Wo G ρ h H) (hS : va_S (gA G) s.heap H locs) (hρ : n0 ≤ hN h ∧ ∀ a, a < n0 → ρ a = ρ0 a) (hk : k + mc9 ≤ mc) (hn : n + ms9 ≤ ms)
    (hr : vx_Run p l e R s m args below meth c H locs k n mc9 ms9 (F0 m pc ls st0) (rest.map (upv ρ)) (QcR G ρ (hN h) (.inr (E, h1)) a) (XCR G ρ (hN h) (.inr (E, h1))) (gA G)) : W p l e R s m args below meth c H locs k n Q (F0 m pc ls st0) := by
  intro T hT Xs
  rcases hr T hT Xs with ⟨v0, st₀, t, T', L, h0, X', hL, e1, e2, hq, go⟩ | ⟨q, st₀, t, T', L, E9, ce9, h0, X', hL, e1, e2, hq, hce, hcv, hcl, go⟩
  · obtain ⟨⟨v1, h1', ρ', hr1, -⟩, -⟩ := hq
    cases hr1
  · obtain ⟨⟨h1', ρ', hr1, hWo', hn', hρ'⟩, hF⟩ := hq
    cases hr1
    have hk9 := vx_keep h0 e1 hS (fun _ _ z => z) (fun _ z => z) hL hF
    have hout := vx_out (below := below) (Qc := QcR G ρ0 n0 (.inr (E, h1))) (XC := XCR G ρ0 n0 (.inr (E, h1))) (args := args) (s := s) (H := T'.heap) (locs := locs ++ L) (cells := k + mc9) (slots := n + ms9) (free := gA G) (p := p) (l := l) (e := e) (R := R) (m := m) (meth := meth) (c := c) (pc := pc) (ls := ls) (rest := rest.map (upv ρ)) (E := E) (ce := ce9) (q := q) (mc := mc) (ms := ms)
      (by rw [htb]; intro x hx; cases hx) hlk (by rw [e1]; exact hce) hcv hcl
      (fun t9 ht9 _ => ⟨⟨h1, ρ', rfl, by rw [ht9, e1]; exact hWo', Nat.le_trans hρ.1 hn', fun a ha => (hρ' a (Nat.lt_of_lt_of_le ha hρ.1)).trans (hρ.2 a ha)⟩, hk9.2.2.F ht9⟩) hk9.2.2.2.2 hk hn
    obtain ⟨t2, a1, b1⟩ := hout T' rfl X'
    exact ⟨t2, go.trans a1, by rw [hEx]; exact b1⟩
end Call
/-! what a call wants of the tables -/
def hdq (y : MethodName) (n : Nat) : Prop := y.cls ≠ "java/lang/invoke/MethodHandle" ∧ y.cls ≠ "java/lang/invoke/VarHandle" ∧ (parseMethodDescriptor y.desc).map (fun d => d.parameters.length) = some n
def KV (own : String) (idx : Nat) (y : MethodName) (cc : ByteArray) (maxL : Nat) (ret : Option FieldType) (n : Nat) : Prop :=
  Wk (.methodLink own idx y) ∧ Wk (.instanceMethod y) ∧ Wk (.selects y.cls y y) ∧ Wk (.initialized y.cls) ∧ Wk (.code y cc maxL ret) ∧ hdq y n ∧ maxL ≤ 45
def KS (own : String) (idx : Nat) (y : MethodName) (cc : ByteArray) (maxL : Nat) (ret : Option FieldType) (n : Nat) : Prop :=
  Wk (.methodLink own idx y) ∧ Wk (.static y) ∧ Wk (.initialized y.cls) ∧ Wk (.code y cc maxL ret) ∧ hdq y n ∧ maxL ≤ 45
def KI (own : String) (idx : Nat) (y : MethodName) (cc : ByteArray) (maxL n : Nat) : Prop :=
  Wk (.methodLink own idx y) ∧ Wk (.instanceMethod y) ∧ y.name = "<init>" ∧ Wk (.initialized y.cls) ∧ Wk (.code y cc maxL none) ∧ hdq y n ∧ maxL ≤ 45
def KN (own : String) (idx : Nat) (y : MethodName) (cc : ByteArray) (maxL n : Nat) : Prop :=
  (own, idx, y, "CascadeHouse") ∈ nestL ∧ Wk (.instanceMethod y) ∧ y.name = "<init>" ∧ Wk (.initialized y.cls) ∧ Wk (.code y cc maxL none) ∧ hdq y n ∧ maxL ≤ 45
def KH (own : String) (idx : Nat) (y : MethodName) (cc : ByteArray) (maxL : Nat) (ret : Option FieldType) (hh : List (Nat × Nat × Nat × Nat)) (n : Nat) : Prop :=
  Wk (.methodLink own idx y) ∧ Wk (.static y) ∧ Wk (.initialized y.cls) ∧ Wk (.codeWith y cc maxL ret hh) ∧ hdq y n ∧ maxL ≤ 45
theorem good1 {w : Cond} (h : Wk w) : GoodIn [w] [w] := fun v hv => ⟨hv, by rw [List.mem_singleton.mp hv]; exact good_of_word h.2⟩
theorem one1 {w : Cond} {s : State} {args : Array Value} (h : w.before args s = true) : ∀ v ∈ [w], v.before args s = true := fun v hv => by rw [List.mem_singleton.mp hv]; exact h
theorem r_callV {X : Ctx} {y : MethodName} {cc : ByteArray} {nL : Nat} {ret : Option FieldType} {hh : List (Nat × Nat × Nat × Nat)} {f mc ms : Nat} (C : Cx X y cc nL ret hh f mc ms) {k n pc : Nat} {LS : List Value} {h : Hp} {y2 : MethodName} {cc2 : ByteArray} {maxL2 n2 f2 mc2 ms2 idx : Nat} {ret2 : Option FieldType} {As rest st0 : List Value} {b : Nat} {h1 : Hp} {v : Option Value} {ci : Nat} {rc : vw_C} (F : KV y.cls idx y2 cc2 maxL2 ret2 n2) (M : MRw (lOf X) (gOf X) y2 (.code y2 cc2 maxL2 ret2) f2 mc2 ms2 (.ref b :: As) h (.inl (v, h1))) (hd : decode cc pc = .ok (.invokevirtual idx, 3)) (hkb : hK h b = ci) (hci : ci < 100) (hrc : mCl[ci]? = some rc) (hrn : rc.1 = y2.cls) (hs0 : st0 = As.reverse ++ .ref b :: rest) (hAs : As.length = n2) (hlen : LS.length = nL) (hf2 : f2 + 1 ≤ f) (hst : (rest.map fun v => v.category).sum ≤ 8) (hkm : k + mc2 ≤ mc) (hnm9 : n + ms2 ≤ ms)  (K : wr X (k + mc2) (n + ms2) (pc + 3) LS (v.toList ++ rest) h1) : wr X k n pc LS st0 h := by
  obtain ⟨p, l, e, R, s, m, args, below, meth, c, G, ρ0, n0, Q⟩ := X
  obtain ⟨hx, hb, hml, hret, hown, hlk, hnm, htb, htr, hE, hsz, hf, hmc, hms, hlo⟩ := C
  intro ρ H locs ls hWo hS hLV hv1 hv2 hρ
  subst hs0
  have hw := hE.2.1.1
  obtain ⟨w1, w2, w3, w4, w5, w6, w7⟩ := F
  have hvr : vl (hN h) rest := vl_t (vl_r hv2)
  have hvs : vl (hN h) (.ref b :: As) := vl_c (vl_h (vl_r hv2)) (fun v hv => vl_l hv2 v (List.mem_reverse.mpr hv))
  have hM := mr_use (G := G) M htr ρ hvs
  have hpc9 := pc_ok (as := (.ref b :: As)) hE hsz hWo hS
  have cb := callB_of (R := R) (s := s) (args := args) (own := y.cls) (index := idx) (Ts := [Cond.code y2 cc2 maxL2 ret2]) (ws := [Cond.code y2 cc2 maxL2 ret2]) (rm := { frames := f2, cells := mc2, slots := ms2, locals := 64 * f2 + 64 }) (mc := mc2) (ms := ms2) n2 (one1 (hw _ w5 args)) (good1 w5) rfl rfl rfl (hw _ w4 args) (hw _ w1 args) w6 ⟨Nat.le_trans hf2 hf, by show 8 + (maxL2 + 11) + (64 * f2 + 64) ≤ R.locals; omega⟩
  have hrec : ∃ cell : Cell, H[ρ b]? = some cell ∧ cell.vm.isStatics = false ∧ s.vm.findClass y2.cls = some cell.cls := by rw [← hrn]; exact rec_at hE hWo hkb hci hrc
  have hrun := vx_runV (As := As.map (upv ρ)) (b := ρ b) (C := y2.cls) (rest := rest.map (upv ρ)) (l := l) (meth := meth) (below := below) (e := e) (H := H) (locs := locs) (cells := k) (slots := n) ⟨hx, hb, hml, hown, one1 (hw _ w5 args)⟩ hM ⟨cb, hw _ w2 args, hw _ w3 args⟩ ⟨hpc9.1, hrec, hpc9.2⟩ (g := F0 m pc ls ((As.reverse ++ .ref b :: rest).map (upv ρ))) rfl (by simp [hAs]) (by show ls.size = nL; rw [hLV.1.1, hlen]) (by show List.map _ _ = _; rw [List.map_append, List.map_reverse]; rfl) (lv_room (sum1 hst ρ)) hd ⟨Nat.le_trans hkm hmc, Nat.le_trans hnm9 hms⟩
  exact run_ok hWo hS hLV hv1 hvr hρ hrun K
theorem r_callVx {X : Ctx} {y : MethodName} {cc : ByteArray} {nL : Nat} {ret : Option FieldType} {hh : List (Nat × Nat × Nat × Nat)} {f mc ms : Nat} (C : Cx X y cc nL ret hh f mc ms) {k n pc : Nat} {LS : List Value} {h : Hp} {y2 : MethodName} {cc2 : ByteArray} {maxL2 n2 f2 mc2 ms2 idx : Nat} {ret2 : Option FieldType} {As rest st0 : List Value} {b : Nat} {h1 : Hp} {E : String} {ci : Nat} {rc : vw_C} {mc9 ms9 : Nat} (F : KV y.cls idx y2 cc2 maxL2 ret2 n2) (M : MRw (lOf X) (gOf X) y2 (.code y2 cc2 maxL2 ret2) f2 mc2 ms2 (.ref b :: As) h (.inr (E, h1))) (hd : decode cc pc = .ok (.invokevirtual idx, 3)) (hkb : hK h b = ci) (hci : ci < 100) (hrc : mCl[ci]? = some rc) (hrn : rc.1 = y2.cls) (hs0 : st0 = As.reverse ++ .ref b :: rest) (hAs : As.length = n2) (hlen : LS.length = nL) (hf2 : f2 + 1 ≤ f) (hst : (rest.map fun v => v.category).sum ≤ 8) (hkm : k + mc2 ≤ mc) (hnm9 : n + ms2 ≤ ms) (E9 : Ex X mc9 ms9 (.inr (E, h1))) (hh0 : hh = []) (hk9 : k + mc2 ≤ mc9) (hn9 : n + ms2 ≤ ms9)  : wr X k n pc LS st0 h := by
  obtain ⟨p, l, e, R, s, m, args, below, meth, c, G, ρ0, n0, Q⟩ := X
  obtain ⟨hx, hb, hml, hret, hown, hlk, hnm, htb, htr, hE, hsz, hf, hmc, hms, hlo⟩ := C
  intro ρ H locs ls hWo hS hLV hv1 hv2 hρ
  subst hs0
  have hw := hE.2.1.1
  obtain ⟨w1, w2, w3, w4, w5, w6, w7⟩ := F
  have hvr : vl (hN h) rest := vl_t (vl_r hv2)
  have hvs : vl (hN h) (.ref b :: As) := vl_c (vl_h (vl_r hv2)) (fun v hv => vl_l hv2 v (List.mem_reverse.mpr hv))
  have hM := mr_use (G := G) M htr ρ hvs
  have hpc9 := pc_ok (as := (.ref b :: As)) hE hsz hWo hS
  have cb := callB_of (R := R) (s := s) (args := args) (own := y.cls) (index := idx) (Ts := [Cond.code y2 cc2 maxL2 ret2]) (ws := [Cond.code y2 cc2 maxL2 ret2]) (rm := { frames := f2, cells := mc2, slots := ms2, locals := 64 * f2 + 64 }) (mc := mc2) (ms := ms2) n2 (one1 (hw _ w5 args)) (good1 w5) rfl rfl rfl (hw _ w4 args) (hw _ w1 args) w6 ⟨Nat.le_trans hf2 hf, by show 8 + (maxL2 + 11) + (64 * f2 + 64) ≤ R.locals; omega⟩
  have hrec : ∃ cell : Cell, H[ρ b]? = some cell ∧ cell.vm.isStatics = false ∧ s.vm.findClass y2.cls = some cell.cls := by rw [← hrn]; exact rec_at hE hWo hkb hci hrc
  have hrun := vx_runV (As := As.map (upv ρ)) (b := ρ b) (C := y2.cls) (rest := rest.map (upv ρ)) (l := l) (meth := meth) (below := below) (e := e) (H := H) (locs := locs) (cells := k) (slots := n) ⟨hx, hb, hml, hown, one1 (hw _ w5 args)⟩ hM ⟨cb, hw _ w2 args, hw _ w3 args⟩ ⟨hpc9.1, hrec, hpc9.2⟩ (g := F0 m pc ls ((As.reverse ++ .ref b :: rest).map (upv ρ))) rfl (by simp [hAs]) (by show ls.size = nL; rw [hLV.1.1, hlen]) (by show List.map _ _ = _; rw [List.map_append, List.map_reverse]; rfl) (lv_room (sum1 hst ρ)) hd ⟨Nat.le_trans hkm hmc, Nat.le_trans hnm9 hms⟩
  subst hh0
  exact run_ex E9 htb hlk hWo hS hρ hk9 hn9 hrun
theorem r_callVc {X : Ctx} {y : MethodName} {cc : ByteArray} {nL : Nat} {ret : Option FieldType} {hh : List (Nat × Nat × Nat × Nat)} {f mc ms : Nat} (C : Cx X y cc nL ret hh f mc ms) {k n pc : Nat} {LS : List Value} {h : Hp} {y2 : MethodName} {cc2 : ByteArray} {maxL2 n2 f2 mc2 ms2 idx : Nat} {ret2 : Option FieldType} {As rest st0 : List Value} {b : Nat} {h1 : Hp} {E : String} {ci : Nat} {rc : vw_C} {a0 b0 hpc ct i la : Nat} {hp hs : List (Nat × Nat × Nat × Nat)} (F : KV y.cls idx y2 cc2 maxL2 ret2 n2) (M : MRw (lOf X) (gOf X) y2 (.code y2 cc2 maxL2 ret2) f2 mc2 ms2 (.ref b :: As) h (.inr (E, h1))) (hd : decode cc pc = .ok (.invokevirtual idx, 3)) (hkb : hK h b = ci) (hci : ci < 100) (hrc : mCl[ci]? = some rc) (hrn : rc.1 = y2.cls) (hs0 : st0 = As.reverse ++ .ref b :: rest) (hAs : As.length = n2) (hlen : LS.length = nL) (hf2 : f2 + 1 ≤ f) (hst : (rest.map fun v => v.category).sum ≤ 8) (hkm : k + mc2 ≤ mc) (hnm9 : n + ms2 ≤ ms) (hhe : hh = hp ++ (a0, b0, hpc, ct) :: hs) (hps : ∀ z ∈ hp, z.2.2.2 ≠ 0 ∧ ∃ nm : String, Wk (.classLink y.cls z.2.2.2 nm) ∧ (E, nm) ∈ ncL) (hcov : covers ⟨a0, b0, hpc, ct⟩ pc = true) (hct : ct ≠ 0) (hlk9 : Wk (.classLink y.cls ct E)) (hEE : (E, E) ∈ castL) (hi : i < LS.length) (hda : (∃ j : Fin 4, decode cc hpc = .ok (.astore_n j, 1) ∧ (j : Nat) = i ∧ la = 1) ∨ (decode cc hpc = .ok (.astore i, 2) ∧ la = 2))  (K : wr X (k + mc2) (n + ms2) (hpc + la) (LS.set i (.long 0)) [] h1) : wr X k n pc LS st0 h := by
  obtain ⟨p, l, e, R, s, m, args, below, meth, c, G, ρ0, n0, Q⟩ := X
  obtain ⟨hx, hb, hml, hret, hown, hlk, hnm, htb, htr, hE, hsz, hf, hmc, hms, hlo⟩ := C
  intro ρ H locs ls hWo hS hLV hv1 hv2 hρ
  subst hs0
  have hw := hE.2.1.1
  obtain ⟨w1, w2, w3, w4, w5, w6, w7⟩ := F
  have hvr : vl (hN h) rest := vl_t (vl_r hv2)
  have hvs : vl (hN h) (.ref b :: As) := vl_c (vl_h (vl_r hv2)) (fun v hv => vl_l hv2 v (List.mem_reverse.mpr hv))
  have hM := mr_use (G := G) M htr ρ hvs
  have hpc9 := pc_ok (as := (.ref b :: As)) hE hsz hWo hS
  have cb := callB_of (R := R) (s := s) (args := args) (own := y.cls) (index := idx) (Ts := [Cond.code y2 cc2 maxL2 ret2]) (ws := [Cond.code y2 cc2 maxL2 ret2]) (rm := { frames := f2, cells := mc2, slots := ms2, locals := 64 * f2 + 64 }) (mc := mc2) (ms := ms2) n2 (one1 (hw _ w5 args)) (good1 w5) rfl rfl rfl (hw _ w4 args) (hw _ w1 args) w6 ⟨Nat.le_trans hf2 hf, by show 8 + (maxL2 + 11) + (64 * f2 + 64) ≤ R.locals; omega⟩
  have hrec : ∃ cell : Cell, H[ρ b]? = some cell ∧ cell.vm.isStatics = false ∧ s.vm.findClass y2.cls = some cell.cls := by rw [← hrn]; exact rec_at hE hWo hkb hci hrc
  have hrun := vx_runV (As := As.map (upv ρ)) (b := ρ b) (C := y2.cls) (rest := rest.map (upv ρ)) (l := l) (meth := meth) (below := below) (e := e) (H := H) (locs := locs) (cells := k) (slots := n) ⟨hx, hb, hml, hown, one1 (hw _ w5 args)⟩ hM ⟨cb, hw _ w2 args, hw _ w3 args⟩ ⟨hpc9.1, hrec, hpc9.2⟩ (g := F0 m pc ls ((As.reverse ++ .ref b :: rest).map (upv ρ))) rfl (by simp [hAs]) (by show ls.size = nL; rw [hLV.1.1, hlen]) (by show List.map _ _ = _; rw [List.map_append, List.map_reverse]; rfl) (lv_room (sum1 hst ρ)) hd ⟨Nat.le_trans hkm hmc, Nat.le_trans hnm9 hms⟩
  intro T9 hT9 Xs
  rcases hrun T9 hT9 Xs with ⟨v0, st₀, t, T', L, h0, X', hL, e1, e2, hq, go⟩ | ⟨q, st₀, t, T', L, E9, ce9, h0, X', hL, e1, e2, hq, hce, hcv, hcl, go⟩
  · obtain ⟨⟨v1, h1', ρ', hr1, -⟩, -⟩ := hq
    cases hr1
  · obtain ⟨⟨h1', ρ', hr1, hWo', hn', hρ'⟩, hF⟩ := hq
    cases hr1
    have hk9 := vx_keep h0 e1 hS (fun _ _ z => z) (fun _ z => z) hL hF
    have hWo2 : Wo G ρ' h1 T'.heap := by rw [e1]; exact hWo'
    have hLV2 := LV_ext hρ' hv1 hLV
    have hρ2 : n0 ≤ hN h1 ∧ ∀ a, a < n0 → ρ' a = ρ0 a := ⟨Nat.le_trans hρ.1 hn', fun a ha => (hρ' a (Nat.lt_of_lt_of_le ha hρ.1)).trans (hρ.2 a ha)⟩
    have hset : ∀ ls' : Array Slot, lv_has ls' LS.length ((i, .ref q) :: (asc ρ' LS).filter (fun q => !(q.1 == i) && !(q.1 + 1 == i && q.2.category == 2))) → LV ρ' ls' (LS.set i (.long 0)) := by
      intro ls' hl'
      refine ⟨⟨by rw [List.length_set]; exact hl'.1, hl'.2.1, fun z hz => by cases hz⟩, fun j w hj hc => ?_⟩
      by_cases e9 : j = i
      · subst e9
        rw [List.getElem?_set_self hi] at hj
        cases hj
        cases hc
      · rw [List.getElem?_set_ne (Ne.symm e9)] at hj
        refine hl'.2.2 (j, upv ρ' w) (List.mem_cons_of_mem _ (List.mem_filter.mpr ⟨asc_mem hj hc, ?_⟩))
        have hcw : (upv ρ' w).category = 1 := by rw [upv_cat]; exact hc
        simp [e9, hcw]
    have hgo2 : W p l e R s m args below meth c T'.heap (locs ++ L) (k + mc2) (n + ms2) Q (F0 m hpc ls [.ref q]) := by
      rcases hda with ⟨j, hda, hj, rfl⟩ | ⟨hda, rfl⟩
      · refine lv_astore_n hx hb hda hj (LV_asc hLV2) hi rfl (fun ls' hl' => ?_)
        exact K ρ' T'.heap (locs ++ L) ls' hWo2 hk9.2.2 (hset ls' hl') (vl_set (vl_mono hn' hv1) trivial) (fun z hz => by cases hz) hρ2
      · refine lv_astore hx hb hda (LV_asc hLV2) hi rfl (fun ls' hl' => ?_)
        exact K ρ' T'.heap (locs ++ L) ls' hWo2 hk9.2.2 (hset ls' hl') (vl_set (vl_mono hn' hv1) trivial) (fun z hz => by cases hz) hρ2
    have hcat := vx_catch (own := y.cls) (name := E) (E := E) (ce := ce9) (q := q) (H := T'.heap) (pc := pc) (ls := ls) (rest := rest.map (upv ρ)) hown (tableOf hp) ⟨a0, b0, hpc, ct⟩ (tableOf hs) (by rw [htb, hhe]; simp [tableOf])
      (fun z hz => by
        obtain ⟨z0, hz0, rfl⟩ := List.mem_map.mp hz
        obtain ⟨g1, nm, g2, g3⟩ := hps z0 hz0
        exact Or.inr ⟨g1, nm, hw _ g2 args, hE.2.1.2.2.1 _ g3⟩) hcov hct (hw _ hlk9 args) (va_Nw.use rfl (hE.2.1.2.1 _ hEE)) (by rw [e1]; exact hce) hcv hcl hgo2
    obtain ⟨t2, a1, b1⟩ := hcat T' rfl X'
    exact ⟨t2, go.trans a1, b1⟩
theorem r_callS {X : Ctx} {y : MethodName} {cc : ByteArray} {nL : Nat} {ret : Option FieldType} {hh : List (Nat × Nat × Nat × Nat)} {f mc ms : Nat} (C : Cx X y cc nL ret hh f mc ms) {k n pc : Nat} {LS : List Value} {h : Hp} {y2 : MethodName} {cc2 : ByteArray} {maxL2 n2 f2 mc2 ms2 idx : Nat} {ret2 : Option FieldType} {As rest st0 : List Value} {h1 : Hp} {v : Option Value} (F : KS y.cls idx y2 cc2 maxL2 ret2 n2) (M : MRw (lOf X) (gOf X) y2 (.code y2 cc2 maxL2 ret2) f2 mc2 ms2 As h (.inl (v, h1))) (hd : decode cc pc = .ok (.invokestatic idx, 3)) (hs0 : st0 = As.reverse ++ rest) (hAs : As.length = n2) (hlen : LS.length = nL) (hf2 : f2 + 1 ≤ f) (hst : (rest.map fun v => v.category).sum ≤ 8) (hkm : k + mc2 ≤ mc) (hnm9 : n + ms2 ≤ ms)  (K : wr X (k + mc2) (n + ms2) (pc + 3) LS (v.toList ++ rest) h1) : wr X k n pc LS st0 h := by
  obtain ⟨p, l, e, R, s, m, args, below, meth, c, G, ρ0, n0, Q⟩ := X
  obtain ⟨hx, hb, hml, hret, hown, hlk, hnm, htb, htr, hE, hsz, hf, hmc, hms, hlo⟩ := C
  intro ρ H locs ls hWo hS hLV hv1 hv2 hρ
  subst hs0
  have hw := hE.2.1.1
  obtain ⟨w1, w2, w4, w5, w6, w7⟩ := F
  have hvr : vl (hN h) rest := vl_r hv2
  have hvs : vl (hN h) As := fun v hv => vl_l hv2 v (List.mem_reverse.mpr hv)
  have hM := mr_use (G := G) M htr ρ hvs
  have hpc9 := pc_ok (as := As) hE hsz hWo hS
  have cb := callB_of (R := R) (s := s) (args := args) (own := y.cls) (index := idx) (Ts := [Cond.code y2 cc2 maxL2 ret2]) (ws := [Cond.code y2 cc2 maxL2 ret2]) (rm := { frames := f2, cells := mc2, slots := ms2, locals := 64 * f2 + 64 }) (mc := mc2) (ms := ms2) n2 (one1 (hw _ w5 args)) (good1 w5) rfl rfl rfl (hw _ w4 args) (hw _ w1 args) w6 ⟨Nat.le_trans hf2 hf, by show 8 + (maxL2 + 11) + (64 * f2 + 64) ≤ R.locals; omega⟩
  have hrun := vx_runS (As := As.map (upv ρ)) (rest := rest.map (upv ρ)) (l := l) (meth := meth) (below := below) (e := e) (H := H) (locs := locs) (cells := k) (slots := n) ⟨hx, hb, hml, hown, one1 (hw _ w5 args)⟩ hM ⟨cb, hw _ w2 args⟩ hpc9 (g := F0 m pc ls ((As.reverse ++ rest).map (upv ρ))) rfl (by simp [hAs]) (by show ls.size = nL; rw [hLV.1.1, hlen]) (by show List.map _ _ = _; rw [List.map_append, List.map_reverse]) (lv_room (sum1 hst ρ)) hd ⟨Nat.le_trans hkm hmc, Nat.le_trans hnm9 hms⟩
  exact run_ok hWo hS hLV hv1 hvr hρ hrun K
theorem r_callSx {X : Ctx} {y : MethodName} {cc : ByteArray} {nL : Nat} {ret : Option FieldType} {hh : List (Nat × Nat × Nat × Nat)} {f mc ms : Nat} (C : Cx X y cc nL ret hh f mc ms) {k n pc : Nat} {LS : List Value} {h : Hp} {y2 : MethodName} {cc2 : ByteArray} {maxL2 n2 f2 mc2 ms2 idx : Nat} {ret2 : Option FieldType} {As rest st0 : List Value} {h1 : Hp} {E : String} {mc9 ms9 : Nat} (F : KS y.cls idx y2 cc2 maxL2 ret2 n2) (M : MRw (lOf X) (gOf X) y2 (.code y2 cc2 maxL2 ret2) f2 mc2 ms2 As h (.inr (E, h1))) (hd : decode cc pc = .ok (.invokestatic idx, 3)) (hs0 : st0 = As.reverse ++ rest) (hAs : As.length = n2) (hlen : LS.length = nL) (hf2 : f2 + 1 ≤ f) (hst : (rest.map fun v => v.category).sum ≤ 8) (hkm : k + mc2 ≤ mc) (hnm9 : n + ms2 ≤ ms) (E9 : Ex X mc9 ms9 (.inr (E, h1))) (hh0 : hh = []) (hk9 : k + mc2 ≤ mc9) (hn9 : n + ms2 ≤ ms9)  : wr X k n pc LS st0 h := by
  obtain ⟨p, l, e, R, s, m, args, below, meth, c, G, ρ0, n0, Q⟩ := X
  obtain ⟨hx, hb, hml, hret, hown, hlk, hnm, htb, htr, hE, hsz, hf, hmc, hms, hlo⟩ := C
  intro ρ H locs ls hWo hS hLV hv1 hv2 hρ
  subst hs0
  have hw := hE.2.1.1
  obtain ⟨w1, w2, w4, w5, w6, w7⟩ := F
  have hvr : vl (hN h) rest := vl_r hv2
  have hvs : vl (hN h) As := fun v hv => vl_l hv2 v (List.mem_reverse.mpr hv)
  have hM := mr_use (G := G) M htr ρ hvs
  have hpc9 := pc_ok (as := As) hE hsz hWo hS
  have cb := callB_of (R := R) (s := s) (args := args) (own := y.cls) (index := idx) (Ts := [Cond.code y2 cc2 maxL2 ret2]) (ws := [Cond.code y2 cc2 maxL2 ret2]) (rm := { frames := f2, cells := mc2, slots := ms2, locals := 64 * f2 + 64 }) (mc := mc2) (ms := ms2) n2 (one1 (hw _ w5 args)) (good1 w5) rfl rfl rfl (hw _ w4 args) (hw _ w1 args) w6 ⟨Nat.le_trans hf2 hf, by show 8 + (maxL2 + 11) + (64 * f2 + 64) ≤ R.locals; omega⟩
  have hrun := vx_runS (As := As.map (upv ρ)) (rest := rest.map (upv ρ)) (l := l) (meth := meth) (below := below) (e := e) (H := H) (locs := locs) (cells := k) (slots := n) ⟨hx, hb, hml, hown, one1 (hw _ w5 args)⟩ hM ⟨cb, hw _ w2 args⟩ hpc9 (g := F0 m pc ls ((As.reverse ++ rest).map (upv ρ))) rfl (by simp [hAs]) (by show ls.size = nL; rw [hLV.1.1, hlen]) (by show List.map _ _ = _; rw [List.map_append, List.map_reverse]) (lv_room (sum1 hst ρ)) hd ⟨Nat.le_trans hkm hmc, Nat.le_trans hnm9 hms⟩
  subst hh0
  exact run_ex E9 htb hlk hWo hS hρ hk9 hn9 hrun
theorem r_callI {X : Ctx} {y : MethodName} {cc : ByteArray} {nL : Nat} {ret : Option FieldType} {hh : List (Nat × Nat × Nat × Nat)} {f mc ms : Nat} (C : Cx X y cc nL ret hh f mc ms) {k n pc : Nat} {LS : List Value} {h : Hp} {y2 : MethodName} {cc2 : ByteArray} {maxL2 n2 f2 mc2 ms2 idx : Nat} {As rest st0 : List Value} {b : Nat} {h1 : Hp} {v : Option Value} (F : KI y.cls idx y2 cc2 maxL2 n2) (M : MRw (lOf X) (gOf X) y2 (.code y2 cc2 maxL2 none) f2 mc2 ms2 (.ref b :: As) h (.inl (v, h1))) (hd : decode cc pc = .ok (.invokespecial idx, 3)) (hs0 : st0 = As.reverse ++ .ref b :: rest) (hAs : As.length = n2) (hlen : LS.length = nL) (hf2 : f2 + 1 ≤ f) (hst : (rest.map fun v => v.category).sum ≤ 8) (hkm : k + mc2 ≤ mc) (hnm9 : n + ms2 ≤ ms)  (K : wr X (k + mc2) (n + ms2) (pc + 3) LS (v.toList ++ rest) h1) : wr X k n pc LS st0 h := by
  obtain ⟨p, l, e, R, s, m, args, below, meth, c, G, ρ0, n0, Q⟩ := X
  obtain ⟨hx, hb, hml, hret, hown, hlk, hnm, htb, htr, hE, hsz, hf, hmc, hms, hlo⟩ := C
  intro ρ H locs ls hWo hS hLV hv1 hv2 hρ
  subst hs0
  have hw := hE.2.1.1
  obtain ⟨w1, w2, w3, w4, w5, w6, w7⟩ := F
  have hvr : vl (hN h) rest := vl_t (vl_r hv2)
  have hvs : vl (hN h) (.ref b :: As) := vl_c (vl_h (vl_r hv2)) (fun v hv => vl_l hv2 v (List.mem_reverse.mpr hv))
  have hM := mr_use (G := G) M htr ρ hvs
  have hpc9 := pc_ok (as := (.ref b :: As)) hE hsz hWo hS
  have cb := callB_of (R := R) (s := s) (args := args) (own := y.cls) (index := idx) (Ts := [Cond.code y2 cc2 maxL2 none]) (ws := [Cond.code y2 cc2 maxL2 none]) (rm := { frames := f2, cells := mc2, slots := ms2, locals := 64 * f2 + 64 }) (mc := mc2) (ms := ms2) n2 (one1 (hw _ w5 args)) (good1 w5) rfl rfl rfl (hw _ w4 args) (hw _ w1 args) w6 ⟨Nat.le_trans hf2 hf, by show 8 + (maxL2 + 11) + (64 * f2 + 64) ≤ R.locals; omega⟩
  have hrun := vx_runI (As := As.map (upv ρ)) (b := ρ b) (rest := rest.map (upv ρ)) (l := l) (meth := meth) (below := below) (e := e) (H := H) (locs := locs) (cells := k) (slots := n) ⟨hx, hb, hml, hown, one1 (hw _ w5 args)⟩ hM ⟨cb, w3, hw _ w2 args⟩ hpc9 (g := F0 m pc ls ((As.reverse ++ .ref b :: rest).map (upv ρ))) rfl (by simp [hAs]) (by show ls.size = nL; rw [hLV.1.1, hlen]) (by show List.map _ _ = _; rw [List.map_append, List.map_reverse]; rfl) (lv_room (sum1 hst ρ)) hd ⟨Nat.le_trans hkm hmc, Nat.le_trans hnm9 hms⟩
  exact run_ok hWo hS hLV hv1 hvr hρ hrun K
theorem r_callN {X : Ctx} {y : MethodName} {cc : ByteArray} {nL : Nat} {ret : Option FieldType} {hh : List (Nat × Nat × Nat × Nat)} {f mc ms : Nat} (C : Cx X y cc nL ret hh f mc ms) {k n pc : Nat} {LS : List Value} {h : Hp} {y2 : MethodName} {cc2 : ByteArray} {maxL2 n2 f2 mc2 ms2 idx : Nat} {As rest st0 : List Value} {b : Nat} {h1 : Hp} {v : Option Value} (F : KN y.cls idx y2 cc2 maxL2 n2) (M : MRw (lOf X) (gOf X) y2 (.code y2 cc2 maxL2 none) f2 mc2 ms2 (.ref b :: As) h (.inl (v, h1))) (hd : decode cc pc = .ok (.invokespecial idx, 3)) (hs0 : st0 = As.reverse ++ .ref b :: rest) (hAs : As.length = n2) (hlen : LS.length = nL) (hf2 : f2 + 1 ≤ f) (hst : (rest.map fun v => v.category).sum ≤ 8) (hkm : k + mc2 ≤ mc) (hnm9 : n + ms2 ≤ ms)  (K : wr X (k + mc2) (n + ms2) (pc + 3) LS (v.toList ++ rest) h1) : wr X k n pc LS st0 h := by
  obtain ⟨p, l, e, R, s, m, args, below, meth, c, G, ρ0, n0, Q⟩ := X
  obtain ⟨hx, hb, hml, hret, hown, hlk, hnm, htb, htr, hE, hsz, hf, hmc, hms, hlo⟩ := C
  intro ρ H locs ls hWo hS hLV hv1 hv2 hρ
  subst hs0
  have hw := hE.2.1.1
  obtain ⟨w1, w2, w3, w4, w5, w6, w7⟩ := F
  have hvr : vl (hN h) rest := vl_t (vl_r hv2)
  have hvs : vl (hN h) (.ref b :: As) := vl_c (vl_h (vl_r hv2)) (fun v hv => vl_l hv2 v (List.mem_reverse.mpr hv))
  have hM := mr_use (G := G) M htr ρ hvs
  have hpc9 := pc_ok (as := (.ref b :: As)) hE hsz hWo hS
  have cb := va_cnB (R := R) (s := s) (args := args) (host := "CascadeHouse") (index := idx) (own := y.cls) (Ts := [Cond.code y2 cc2 maxL2 none]) (ws := [Cond.code y2 cc2 maxL2 none]) (rm := { frames := f2, cells := mc2, slots := ms2, locals := 64 * f2 + 64 }) (mc := mc2) (ms := ms2) n2 (one1 (hw _ w5 args)) (good1 w5) rfl rfl rfl (hE.2.1.2.2.2.1 _ w1) (hw _ w4 args) w6 ⟨Nat.le_trans hf2 hf, by show 8 + (maxL2 + 11) + (64 * f2 + 64) ≤ R.locals; omega⟩
  have hrun := vx_runIN (As := As.map (upv ρ)) (b := ρ b) (rest := rest.map (upv ρ)) (l := l) (meth := meth) (below := below) (e := e) (H := H) (locs := locs) (cells := k) (slots := n) ⟨hx, hb, hml, hown, one1 (hw _ w5 args)⟩ hM ⟨cb, w3, hw _ w2 args⟩ hpc9 (g := F0 m pc ls ((As.reverse ++ .ref b :: rest).map (upv ρ))) rfl (by simp [hAs]) (by show ls.size = nL; rw [hLV.1.1, hlen]) (by show List.map _ _ = _; rw [List.map_append, List.map_reverse]; rfl) (lv_room (sum1 hst ρ)) hd ⟨Nat.le_trans hkm hmc, Nat.le_trans hnm9 hms⟩
  exact run_ok hWo hS hLV hv1 hvr hρ hrun K
theorem r_callH {X : Ctx} {y : MethodName} {cc : ByteArray} {nL : Nat} {ret : Option FieldType} {hh : List (Nat × Nat × Nat × Nat)} {f mc ms : Nat} (C : Cx X y cc nL ret hh f mc ms) {k n pc : Nat} {LS : List Value} {h : Hp} {y2 : MethodName} {cc2 : ByteArray} {maxL2 n2 f2 mc2 ms2 idx : Nat} {ret2 : Option FieldType} {hh2 : List (Nat × Nat × Nat × Nat)} {As rest st0 : List Value} {h1 : Hp} {v : Option Value} (F : KH y.cls idx y2 cc2 maxL2 ret2 hh2 n2) (M : MRw (lOf X) (gOf X) y2 (.codeWith y2 cc2 maxL2 ret2 hh2) f2 mc2 ms2 As h (.inl (v, h1))) (hd : decode cc pc = .ok (.invokestatic idx, 3)) (hs0 : st0 = As.reverse ++ rest) (hAs : As.length = n2) (hlen : LS.length = nL) (hf2 : f2 + 1 ≤ f) (hst : (rest.map fun v => v.category).sum ≤ 8) (hkm : k + mc2 ≤ mc) (hnm9 : n + ms2 ≤ ms)  (K : wr X (k + mc2) (n + ms2) (pc + 3) LS (v.toList ++ rest) h1) : wr X k n pc LS st0 h := by
  obtain ⟨p, l, e, R, s, m, args, below, meth, c, G, ρ0, n0, Q⟩ := X
  obtain ⟨hx, hb, hml, hret, hown, hlk, hnm, htb, htr, hE, hsz, hf, hmc, hms, hlo⟩ := C
  intro ρ H locs ls hWo hS hLV hv1 hv2 hρ
  subst hs0
  have hw := hE.2.1.1
  obtain ⟨w1, w2, w4, w5, w6, w7⟩ := F
  have hvr : vl (hN h) rest := vl_r hv2
  have hvs : vl (hN h) As := fun v hv => vl_l hv2 v (List.mem_reverse.mpr hv)
  have hM := mr_use (G := G) M htr ρ hvs
  have hpc9 := pc_ok (as := As) hE hsz hWo hS
  have cw : vx_CSW R s args y.cls idx y2 cc2 maxL2 ret2 hh2 [Cond.codeWith y2 cc2 maxL2 ret2 hh2] ({ frames := f2, cells := mc2, slots := ms2, locals := 64 * f2 + 64 } : Room) mc2 ms2 n2 := ⟨⟨rfl, rfl, Nat.le_trans hf2 hf, (by show 8 + (maxL2 + 11) + (64 * f2 + 64) ≤ R.locals; omega), pay_in (one1 (hw _ w5 args)) (good1 w5), List.mem_cons_self⟩, hw _ w5 args, hw _ w4 args, ⟨w6.1, w6.2.1⟩, (fun sig h9 => by have h2 := w6.2.2; rw [h9] at h2; exact (Option.some.inj h2).symm), hw _ w1 args, hw _ w2 args⟩
  have hrun := vx_runSX (As := As.map (upv ρ)) (rest := rest.map (upv ρ)) (l := l) (meth := meth) (below := below) (e := e) (H := H) (locs := locs) (cells := k) (slots := n) ⟨hx, hb, hml, hown, one1 (hw _ w5 args)⟩ hM cw hpc9 (g := F0 m pc ls ((As.reverse ++ rest).map (upv ρ))) rfl (by simp [hAs]) (by show ls.size = nL; rw [hLV.1.1, hlen]) (by show List.map _ _ = _; rw [List.map_append, List.map_reverse]) (lv_room (sum1 hst ρ)) hd ⟨Nat.le_trans hkm hmc, Nat.le_trans hnm9 hms⟩
  exact run_ok hWo hS hLV hv1 hvr hρ hrun K
theorem Wo_kept {G : Gf} {ρ : Nat → Nat} {h : Hp} {H H1 : Heap} (hWo : Wo G ρ h H) (hk : ∀ q : Nat, q < H.size → H1[q]? = H[q]?) : Wo G ρ h H1 :=
  ⟨hWo.1.kept (fun k q hq => hk _ (hWo.1 k q hq).lt), hWo.2⟩
def xN : List String := ["java/lang/RuntimeException", "java/lang/Exception"]
theorem r_throw {X : Ctx} {y : MethodName} {cc : ByteArray} {nL : Nat} {ret : Option FieldType} {hh : List (Nat × Nat × Nat × Nat)} {f mc ms : Nat} (C : Cx X y cc nL ret hh f mc ms) {k n pc : Nat} {LS st : List Value} {h : Hp} {cls tx : String} {ik is ic mc9 ms9 : Nat} (E9 : Ex X mc9 ms9 (.inr (cls, h))) (hy : y.cls = RX11) (hh0 : hh = []) (hfit : Bundle.fit cls = true) (wk : Wk (.classLink RX11 ik cls)) (wi : Wk (.initialized cls)) (hstr : (is, tx) ∈ strL) (hcst : (cls, cls) ∈ castL) (hat : ∀ w ∈ vx_atS RX11 ic cls xN, Wk w ∨ w = .castable cls cls ∨ ∃ Y, Y ∈ dcL ∧ w = .declares ⟨Y, "<init>", "(Ljava/lang/String;)V"⟩) (hlen : LS.length = nL) (hst : (st.map fun v => v.category).sum ≤ 8) (d0 : decode cc pc = .ok (.new ik, 3)) (d3 : decode cc (pc + 3) = .ok (.dup, 1)) (d4 : decode cc (pc + 4) = .ok (.ldc is, 2)) (d6 : decode cc (pc + 6) = .ok (.invokespecial ic, 3)) (d9 : decode cc (pc + 9) = .ok (.athrow, 1)) (hf8 : 8 ≤ f) (hkm : k + 1 ≤ mc) (hnm9 : n + 6 ≤ ms) (hk9 : k + 1 ≤ mc9) (hn9 : n + 6 ≤ ms9) : wr X k n pc LS st h := by
  obtain ⟨p, l, e, R, s, m, args, below, meth, c, G, ρ0, n0, Q⟩ := X
  obtain ⟨hx, hb, hml, hret, hown, hlk, hnm, htb, htr, hE, hsz, hf, hmc, hms, hlo⟩ := C
  intro ρ H locs ls hWo hS hLV hv1 hv2 hρ
  have hw := hE.2.1.1
  rw [hy] at hown
  obtain ⟨sa, hsa⟩ := hE.2.1.2.2.2.2.2.2 _ hstr
  have hEx : Q = vx_MQ below (QcR G ρ0 n0 (.inr (cls, h))) (XCR G ρ0 n0 (.inr (cls, h))) args s mc9 ms9 (gA G) := E9
  have hat1 : ∀ w ∈ vx_atS RX11 ic cls xN, w.before args s = true := fun w hm => by
    rcases hat w hm with q | q | ⟨Y, hY, q⟩
    · exact hw _ q args
    · rw [q]; exact va_Nw.use rfl (hE.2.1.2.1 _ hcst)
    · rw [q]; exact va_any rfl (hE.2.1.2.2.2.2.2.1.2 Y hY)
  have hot : ∀ w, Wk w → vx_ot w = true := fun w q => by unfold vx_ot; rw [q.2, Bool.or_true]
  have hot1 : ∀ w ∈ Cond.classLink RX11 ik cls :: Cond.initialized cls :: vx_atS RX11 ic cls xN, vx_ot w = true := fun w hm => by
    rcases List.mem_cons.mp hm with q | hm
    · rw [q]; exact hot _ wk
    · rcases List.mem_cons.mp hm with q | hm
      · rw [q]; exact hot _ wi
      · rcases hat w hm with q | q | ⟨Y, hY, q⟩
        · exact hot _ q
        · rw [q]; rfl
        · rw [q]; rfl
  have hs8 := sum1 hst ρ
  rw [hEx]
  subst hh0
  exact vx_throwS (names := xN) hx hb htr hown hfit (by decide) (hw _ wk args) (hw _ wi args) hsa hat1 hot1 hE.2.2.1.2.2.2.2.2.2.1 hE.2.2.1.2.2.2.2.2.2.2 hS (by rw [hml, hLV.1.1, hlen]) d0 d3 d4 d6 d9 (by rw [htb]; intro x hx9; cases hx9)
    (by show 2 + 3 < R.frames; omega) (by show _ + (13 * (2 + 1) + 43) ≤ R.locals; omega) (Nat.le_trans hkm hmc) (Nat.le_trans hnm9 hms) hlk
    (fun t _ hsz9 hk9 => ⟨⟨h, ρ, rfl, Wo_kept hWo hk9, hρ.1, hρ.2⟩, ⟨Nat.le_trans hS.1 hsz9, fun q h1 h2 => (hk9 q (Nat.lt_of_lt_of_le h1 hS.1)).trans (hS.2.1 q h1 h2)⟩⟩) hS.2.2 hk9 hn9
