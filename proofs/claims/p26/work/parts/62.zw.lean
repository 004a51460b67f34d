/-! ===== the fresh looks as one table: row = place of the element; columns: 0-13 values, 14-27 rules, 28 isKnown, 29 hasBox, 30 left, 31 top, 32 width, 33 height, 34 lineCount, 35 gain, 36 isFrozen ===== -/
abbrev WZ : Type := Nat × (Nat → Nat) × (Nat → Nat) × (Nat → Nat) × (Nat → Nat) × (Nat → Nat → Option Nat) × (Nat → Nat → Int32)
def wn (w : WZ) : Nat := w.1
def wE (w : WZ) : Nat → Nat := w.2.1
def wf (w : WZ) : Nat → Nat := w.2.2.1
def wv (w : WZ) : Nat → Nat := w.2.2.2.1
def ws (w : WZ) : Nat → Nat := w.2.2.2.2.1
def wl (w : WZ) : Nat → Nat → Option Nat := w.2.2.2.2.2.1
def wi (w : WZ) : Nat → Nat → Int32 := w.2.2.2.2.2.2
def fi (n : Nat) (g : Nat → Nat) (a : Nat) : Option Nat := (List.range n).find? (fun e => g e == a)
def inj (n : Nat) (g : Nat → Nat) : Prop := ∀ e, e < n → ∀ e', e' < n → g e = g e' → e = e'
theorem fi_some {n : Nat} {g : Nat → Nat} {a e : Nat} (h : fi n g a = some e) : e < n ∧ g e = a := by
  have h1 := List.mem_of_find?_eq_some h
  have h2 := List.find?_some h
  exact ⟨List.mem_range.mp h1, by simpa using h2⟩
theorem fi_at {n : Nat} {g : Nat → Nat} (hi : inj n g) {e : Nat} (he : e < n) : fi n g (g e) = some e := by
  cases q : fi n g (g e) with
  | none =>
    have := List.find?_eq_none.mp q e (List.mem_range.mpr he)
    simp at this
  | some c =>
    obtain ⟨h1, h2⟩ := fi_some q
    rw [hi c h1 e he h2]
theorem fi_no {n : Nat} {g : Nat → Nat} {a : Nat} (h : ∀ e, e < n → g e ≠ a) : fi n g a = none := by
  cases q : fi n g a with
  | none => rfl
  | some c => exact absurd (fi_some q).2 (h c (fi_some q).1)
def cm (w : WZ) (h : Hp) (Z : MM) : Hp := (hN h, hK h, hL h,
  fun f a => if 258 ≤ f ∧ f ≤ 266 then (match fi (wn w) (wf w) a with | some e => Z e (f - 230) | none => hI h f a) else hI h f a,
  hR h,
  fun a j => if j < 14 then (match fi (wn w) (wv w) a with | some e => Z e j | none => match fi (wn w) (ws w) a with | some e => Z e (14 + j) | none => hA h a j) else hA h a j,
  hQ h, hW h)
def ZW (w : WZ) (h : Hp) : Prop :=
  (∀ e, e < wn w → hK h (wE w e) = 3 ∧ hR h 203 (wE w e) = some (wf w e) ∧ LO h (wf w e) (wv w e) (ws w e)) ∧
  inj (wn w) (wf w) ∧ inj (wn w) (wv w) ∧ inj (wn w) (ws w) ∧ (∀ e, e < wn w → ∀ e', e' < wn w → wv w e ≠ ws w e') ∧
  (∀ f e, e < wn w → 197 ≤ f → f ≤ 201 → hR h f (wE w e) = (wl w f e).map (wE w) ∧ ∀ c, wl w f e = some c → c < wn w) ∧
  (∀ f e, e < wn w → 192 ≤ f → f ≤ 196 → hI h f (wE w e) = wi w f e)
theorem cm_I {w : WZ} {h : Hp} {Z : MM} (hZ : ZW w h) {e f : Nat} (he : e < wn w) (h1 : 258 ≤ f) (h2 : f ≤ 266) : hI (cm w h Z) f (wf w e) = Z e (f - 230) := by
  show (if 258 ≤ f ∧ f ≤ 266 then (match fi (wn w) (wf w) (wf w e) with | some e => Z e (f - 230) | none => hI h f (wf w e)) else hI h f (wf w e)) = _
  rw [if_pos ⟨h1, h2⟩, fi_at hZ.2.1 he]
theorem cm_In {w : WZ} {h : Hp} {Z : MM} {f a : Nat} (h1 : f < 258 ∨ 266 < f) : hI (cm w h Z) f a = hI h f a := if_neg (by omega)
theorem cm_v {w : WZ} {h : Hp} {Z : MM} (hZ : ZW w h) {e j : Nat} (he : e < wn w) (hj : j < 14) : hA (cm w h Z) (wv w e) j = Z e j := by
  show (if j < 14 then (match fi (wn w) (wv w) (wv w e) with | some e => Z e j | none => _) else _) = _
  rw [if_pos hj, fi_at hZ.2.2.1 he]
theorem cm_s {w : WZ} {h : Hp} {Z : MM} (hZ : ZW w h) {e j : Nat} (he : e < wn w) (hj : j < 14) : hA (cm w h Z) (ws w e) j = Z e (14 + j) := by
  show (if j < 14 then (match fi (wn w) (wv w) (ws w e) with | some e => Z e j | none => match fi (wn w) (ws w) (ws w e) with | some e => Z e (14 + j) | none => _) else _) = _
  rw [if_pos hj, fi_no (fun c hc => hZ.2.2.2.2.1 c hc e he), fi_at hZ.2.2.2.1 he]
theorem cm_sI {w : WZ} {h : Hp} {Z : MM} (hZ : ZW w h) {e f : Nat} {v : Int32} (he : e < wn w) (h1 : 258 ≤ f) (h2 : f ≤ 266) : sI (cm w h Z) f (wf w e) v = cm w h (u2 Z e (f - 230) v) := by
  have eA : (fun a j => if j < 14 then (match fi (wn w) (wv w) a with | some e => Z e j | none => match fi (wn w) (ws w) a with | some e => Z e (14 + j) | none => hA h a j) else hA h a j) = fun a j => if j < 14 then (match fi (wn w) (wv w) a with | some c => u2 Z e (f - 230) v c j | none => match fi (wn w) (ws w) a with | some c => u2 Z e (f - 230) v c (14 + j) | none => hA h a j) else hA h a j := by
    funext a j
    by_cases q : j < 14
    · rw [if_pos q, if_pos q]
      cases fi (wn w) (wv w) a with
      | some c => exact (u2_ne (by omega)).symm
      | none =>
        cases fi (wn w) (ws w) a with
        | some c => exact (u2_ne (by omega)).symm
        | none => rfl
    · rw [if_neg q, if_neg q]
  have eI : va_up (hI (cm w h Z)) f (va_up (hI (cm w h Z) f) (wf w e) v) = fun g a => if 258 ≤ g ∧ g ≤ 266 then (match fi (wn w) (wf w) a with | some c => u2 Z e (f - 230) v c (g - 230) | none => hI h g a) else hI h g a := by
    funext g a
    by_cases q : g = f
    · subst q
      rw [va_up_self, if_pos ⟨h1, h2⟩]
      by_cases z : a = wf w e
      · subst z
        rw [va_up_self, fi_at hZ.2.1 he]
        exact (u2_self _ _ _ _).symm
      · rw [va_up_ne _ _ z]
        show (if 258 ≤ g ∧ g ≤ 266 then _ else _) = _
        rw [if_pos ⟨h1, h2⟩]
        cases y : fi (wn w) (wf w) a with
        | none => rfl
        | some c => exact (u2_ne (fun x => z (by rw [← (fi_some y).2, x.1]))).symm
    · rw [va_up_ne _ _ q]
      show (if 258 ≤ g ∧ g ≤ 266 then _ else _) = _
      by_cases z : 258 ≤ g ∧ g ≤ 266
      · rw [if_pos z, if_pos z]
        cases fi (wn w) (wf w) a with
        | none => rfl
        | some c => exact (u2_ne (by omega)).symm
      · rw [if_neg z, if_neg z]
  show (hN h, hK h, hL h, va_up (hI (cm w h Z)) f (va_up (hI (cm w h Z) f) (wf w e) v), hR h, (fun a j => if j < 14 then (match fi (wn w) (wv w) a with | some e => Z e j | none => match fi (wn w) (ws w) a with | some e => Z e (14 + j) | none => hA h a j) else hA h a j), hQ h, hW h) = _
  rw [eI, eA]
  rfl
theorem cm_sA {w : WZ} {h : Hp} {Z : MM} (hZ : ZW w h) {e j k a : Nat} {v : Int32} (he : e < wn w) (hj : j < 14) (hk : (a = wv w e ∧ k = j) ∨ (a = ws w e ∧ k = 14 + j)) : sA (cm w h Z) a j v = cm w h (u2 Z e k v) := by
  have eI : (fun f a => if 258 ≤ f ∧ f ≤ 266 then (match fi (wn w) (wf w) a with | some e => Z e (f - 230) | none => hI h f a) else hI h f a) = fun f a => if 258 ≤ f ∧ f ≤ 266 then (match fi (wn w) (wf w) a with | some c => u2 Z e k v c (f - 230) | none => hI h f a) else hI h f a := by
    funext g a
    by_cases z : 258 ≤ g ∧ g ≤ 266
    · rw [if_pos z, if_pos z]
      cases fi (wn w) (wf w) a with
      | none => rfl
      | some c => exact (u2_ne (by omega)).symm
    · rw [if_neg z, if_neg z]
  have eA : va_up (hA (cm w h Z)) a (va_up (hA (cm w h Z) a) j v) = fun b i => if i < 14 then (match fi (wn w) (wv w) b with | some c => u2 Z e k v c i | none => match fi (wn w) (ws w) b with | some c => u2 Z e k v c (14 + i) | none => hA h b i) else hA h b i := by
    funext b i
    by_cases q : b = a
    · rw [q, va_up_self]
      by_cases z : i = j
      · rw [z, va_up_self, if_pos hj]
        rcases hk with ⟨h1, h2⟩ | ⟨h1, h2⟩
        · rw [h1, h2, fi_at hZ.2.2.1 he]
          exact (u2_self _ _ _ _).symm
        · rw [h1, h2, fi_no (fun c hc => hZ.2.2.2.2.1 c hc e he), fi_at hZ.2.2.2.1 he]
          exact (u2_self _ _ _ _).symm
      · rw [va_up_ne _ _ z]
        show (if i < 14 then (match fi (wn w) (wv w) a with | some e => Z e i | none => match fi (wn w) (ws w) a with | some e => Z e (14 + i) | none => hA h a i) else hA h a i) = _
        by_cases y : i < 14
        · rw [if_pos y, if_pos y]
          cases fi (wn w) (wv w) a with
          | some c => exact (u2_ne (by omega)).symm
          | none =>
            cases fi (wn w) (ws w) a with
            | some c => exact (u2_ne (by omega)).symm
            | none => rfl
        · rw [if_neg y, if_neg y]
    · rw [va_up_ne _ _ q]
      show (if i < 14 then (match fi (wn w) (wv w) b with | some e => Z e i | none => match fi (wn w) (ws w) b with | some e => Z e (14 + i) | none => hA h b i) else hA h b i) = _
      by_cases y : i < 14
      · rw [if_pos y, if_pos y]
        cases z : fi (wn w) (wv w) b with
        | some c =>
          refine (u2_ne (fun x => ?_)).symm
          rcases hk with ⟨h1, h2⟩ | ⟨h1, h2⟩
          · exact q (by rw [h1, ← (fi_some z).2, x.1])
          · omega
        | none =>
          cases z2 : fi (wn w) (ws w) b with
          | some c =>
            refine (u2_ne (fun x => ?_)).symm
            rcases hk with ⟨h1, h2⟩ | ⟨h1, h2⟩
            · omega
            · exact q (by rw [h1, ← (fi_some z2).2, x.1])
          | none => rfl
      · rw [if_neg y, if_neg y]
  show (hN h, hK h, hL h, (fun f a => if 258 ≤ f ∧ f ≤ 266 then (match fi (wn w) (wf w) a with | some e => Z e (f - 230) | none => hI h f a) else hI h f a), hR h, va_up (hA (cm w h Z)) a (va_up (hA (cm w h Z) a) j v), hQ h, hW h) = _
  rw [eI, eA]
  rfl
/-! the rows of the fresh looks -/
theorem rz_fresh {X : Ctx} {y : MethodName} {cc : ByteArray} {nL : Nat} {ret : Option FieldType} {hh : List (Nat × Nat × Nat × Nat)} {f mc ms : Nat} (C : Cx X y cc nL ret hh f mc ms) {q n pc : Nat} {LS st : List Value} {w : WZ} {h : Hp} {Z : MM} {e kf fj idx : Nat} {fin : Bool} (F : FL y.cls idx 3 kf fj fin) (hd : decode cc pc = .ok (.getfield idx, 3)) (hr : isRf (cty 3 kf) = true) (hf : fj = 203) (hZ : ZW w h) (he : e < wn w) (K : wr X q n (pc + 3) LS (.ref (wf w e) :: st) (cm w h Z)) : wr X q n pc LS (.ref (wE w e) :: st) (cm w h Z) := by
  refine r_getR C F hd hr (hZ.1 e he).1 ?_
  rw [hf, show hR (cm w h Z) 203 (wE w e) = some (wf w e) from (hZ.1 e he).2.1]
  exact K
theorem rz_link {X : Ctx} {y : MethodName} {cc : ByteArray} {nL : Nat} {ret : Option FieldType} {hh : List (Nat × Nat × Nat × Nat)} {f mc ms : Nat} (C : Cx X y cc nL ret hh f mc ms) {q n pc : Nat} {LS st : List Value} {w : WZ} {h : Hp} {Z : MM} {e kf fj idx : Nat} {fin : Bool} (kc : Nat) (F : FL y.cls idx 3 kf fj fin) (hd : decode cc pc = .ok (.getfield idx, 3)) (hr : isRf (cty 3 kf) = true) (hc : fj = kc) (h1 : 197 ≤ kc) (h2 : kc ≤ 201) (hZ : ZW w h) (he : e < wn w) (K : wr X q n (pc + 3) LS (va_rf ((wl w kc e).map (wE w)) :: st) (cm w h Z)) : wr X q n pc LS (.ref (wE w e) :: st) (cm w h Z) := by
  subst hc
  refine r_getR C F hd hr (hZ.1 e he).1 ?_
  rw [show hR (cm w h Z) fj (wE w e) = (wl w fj e).map (wE w) from (hZ.2.2.2.2.2.1 fj e he h1 h2).1]
  exact K
theorem rz_eI {X : Ctx} {y : MethodName} {cc : ByteArray} {nL : Nat} {ret : Option FieldType} {hh : List (Nat × Nat × Nat × Nat)} {f mc ms : Nat} (C : Cx X y cc nL ret hh f mc ms) {q n pc : Nat} {LS st : List Value} {w : WZ} {h : Hp} {Z : MM} {e kf fj idx : Nat} {fin : Bool} (kc : Nat) (F : FL y.cls idx 3 kf fj fin) (hd : decode cc pc = .ok (.getfield idx, 3)) (hr : isRf (cty 3 kf) = false) (hc : fj = kc) (h1 : 192 ≤ kc) (h2 : kc ≤ 196) (hZ : ZW w h) (he : e < wn w) (K : wr X q n (pc + 3) LS (.int (wi w kc e) :: st) (cm w h Z)) : wr X q n pc LS (.ref (wE w e) :: st) (cm w h Z) := by
  subst hc
  refine r_getI C F hd hr (hZ.1 e he).1 ?_
  rw [cm_In (Or.inl (by omega)), hZ.2.2.2.2.2.2 fj e he h1 h2]
  exact K
theorem rz_lI {X : Ctx} {y : MethodName} {cc : ByteArray} {nL : Nat} {ret : Option FieldType} {hh : List (Nat × Nat × Nat × Nat)} {f mc ms : Nat} (C : Cx X y cc nL ret hh f mc ms) {q n pc : Nat} {LS st : List Value} {w : WZ} {h : Hp} {Z : MM} {e kf fj idx : Nat} {fin : Bool} (kc : Nat) (F : FL y.cls idx 4 kf fj fin) (hd : decode cc pc = .ok (.getfield idx, 3)) (hr : isRf (cty 4 kf) = false) (hc : fj = kc + 230) (h1 : 28 ≤ kc) (h2 : kc ≤ 36) (hZ : ZW w h) (he : e < wn w) (K : wr X q n (pc + 3) LS (.int (Z e kc) :: st) (cm w h Z)) : wr X q n pc LS (.ref (wf w e) :: st) (cm w h Z) := by
  subst hc
  refine r_getI C F hd hr (hZ.1 e he).2.2.1 ?_
  rw [cm_I hZ he (by omega) (by omega), Nat.add_sub_cancel]
  exact K
theorem rz_lput {X : Ctx} {y : MethodName} {cc : ByteArray} {nL : Nat} {ret : Option FieldType} {hh : List (Nat × Nat × Nat × Nat)} {f mc ms : Nat} (C : Cx X y cc nL ret hh f mc ms) {q n pc : Nat} {LS st : List Value} {w : WZ} {h : Hp} {Z : MM} {e kf fj idx : Nat} {v : Int32} (kc : Nat) (F : FL y.cls idx 4 kf fj false) (hd : decode cc pc = .ok (.putfield idx, 3)) (hr : isRf (cty 4 kf) = false) (hnr : narrow (cty 4 kf) (.int v) = .int v) (hft : fits (cty 4 kf) (.int v) = true) (hc : fj = kc + 230) (h1 : 28 ≤ kc) (h2 : kc ≤ 36) (hZ : ZW w h) (he : e < wn w) (K : wr X q n (pc + 3) LS st (cm w h (u2 Z e kc v))) : wr X q n pc LS (.int v :: .ref (wf w e) :: st) (cm w h Z) := by
  subst hc
  refine r_putI C F hd hr hnr hft (hZ.1 e he).2.2.1 ?_
  rw [cm_sI hZ he (by omega) (by omega), Nat.add_sub_cancel]
  exact K
/-! the small methods of a look, over the table -/
theorem z_lkValue (l : Launch) (G : Gl) {w : WZ} {h : Hp} {Z : MM} {e : Nat} {p : Int32} (hZ : ZW w h) (he : e < wn w) (g : ix p 14) : MRw l G yX4_valueOf (.code yX4_valueOf cX4_valueOf 2 (Option.some Jvm.ClassFile.FieldType.int)) 0 0 0 [.ref (wf w e), .int p] (cm w h Z) (.inl (some (.int (Z e (tn p))), cm w h Z)) := by
  have := c_valueOf l G (h := cm w h Z) (p := tn p) (k := wf w e) (v := wv w e) (s := ws w e) (hZ.1 e he).2.2 g.2
  rw [g.1, cm_v hZ he g.2] at this
  exact this
theorem z_lkSource (l : Launch) (G : Gl) {w : WZ} {h : Hp} {Z : MM} {e : Nat} {p : Int32} (hZ : ZW w h) (he : e < wn w) (g : ix p 14) : MRw l G yX4_sourceOf (.code yX4_sourceOf cX4_sourceOf 2 (Option.some Jvm.ClassFile.FieldType.int)) 0 0 0 [.ref (wf w e), .int p] (cm w h Z) (.inl (some (.int (Z e (14 + tn p))), cm w h Z)) := by
  have := c_sourceOf l G (h := cm w h Z) (p := tn p) (k := wf w e) (v := wv w e) (s := ws w e) (hZ.1 e he).2.2 g.2
  rw [g.1, cm_s hZ he g.2] at this
  exact this
def zAtMost (Z : MM) (e : Nat) (a : Int32) : Int32 := if Z e 2 = -2 then a else if Z e 2 ≤ a then Z e 2 else a
theorem z_lkAtMost (l : Launch) (G : Gl) {w : WZ} {h : Hp} {Z : MM} {e : Nat} {p : Int32} (hZ : ZW w h) (he : e < wn w) : MRw l G yX4_atMost (.code yX4_atMost cX4_atMost 3 (Option.some Jvm.ClassFile.FieldType.int)) 0 0 0 [.ref (wf w e), .int p] (cm w h Z) (.inl (some (.int (zAtMost Z e p)), cm w h Z)) := by
  have := c_atMost l G (h := cm w h Z) (w := p) (k := wf w e) (v := wv w e) (s := ws w e) (hZ.1 e he).2.2
  rw [cm_v hZ he (by decide)] at this
  exact this
theorem z_lkHWM (l : Launch) (G : Gl) {w : WZ} {h : Hp} {Z : MM} {e : Nat} (hZ : ZW w h) (he : e < wn w) : MRw l G yX4_heightWithMargins (.code yX4_heightWithMargins cX4_heightWithMargins 1 (Option.some Jvm.ClassFile.FieldType.int)) 1 0 0 [.ref (wf w e)] (cm w h Z) (.inl (some (.int (Z e 3 + Z e 33 + Z e 4)), cm w h Z)) := by
  have := c_heightWM l G (h := cm w h Z) (k := wf w e) (v := wv w e) (s := ws w e) (hZ.1 e he).2.2
  rw [cm_v hZ he (by decide), cm_v hZ he (by decide), show fL_height = 263 from rfl, cm_I hZ he (by decide) (by decide)] at this
  exact this
def zBegin (Z : MM) (e : Nat) (b : Int32) : MM := u2 (u2 (u2 (u2 (u2 (u2 (u2 (u2 Z e 29 b) e 30 0) e 31 0) e 32 0) e 33 0) e 34 0) e 35 0) e 36 0
theorem z_lkBegin (l : Launch) (G : Gl) {w : WZ} {h : Hp} {Z : MM} {e : Nat} {b : Int32} (hZ : ZW w h) (he : e < wn w) (g : b = 0 ∨ b = 1) : MRw l G yX4_beginBox (.code yX4_beginBox cX4_beginBox 2 none) 0 0 0 [.ref (wf w e), .int b] (cm w h Z) (.inl (none, cm w h (zBegin Z e b))) := by
  have := c_beginBox l G (h := cm w h Z) (b := b) (k := wf w e) (hZ.1 e he).2.2.1 g
  have e1 : bgB (cm w h Z) (wf w e) b = cm w h (zBegin Z e b) := by
    unfold bgB zBegin
    rw [show fL_hasBox = 259 from rfl, show fL_left = 260 from rfl, show fL_top = 261 from rfl, show fL_width = 262 from rfl, show fL_height = 263 from rfl, show fL_lineCount = 264 from rfl, show fL_gain = 265 from rfl, show fL_isFrozen = 266 from rfl]
    rw [cm_sI hZ he (by decide) (by decide), cm_sI hZ he (by decide) (by decide), cm_sI hZ he (by decide) (by decide), cm_sI hZ he (by decide) (by decide), cm_sI hZ he (by decide) (by decide), cm_sI hZ he (by decide) (by decide), cm_sI hZ he (by decide) (by decide), cm_sI hZ he (by decide) (by decide)]
  rw [e1] at this
  exact this
def zLongest (x : Int32) : Int32 := (dg 8 (tn x)).foldl (fun s w => mxI s (nI w)) 0
theorem tn_lt (x : Int32) : tn x < 2 ^ 31 := by
  have := Int32.toInt_lt x
  unfold tn
  omega
theorem z_tLongest (l : Launch) (G : Gl) {h : Hp} {p : Int32} (g : nI (tn p) = p) : MRw l G yX9_longestWord (.code yX9_longestWord cX9_longestWord 4 (Option.some Jvm.ClassFile.FieldType.int)) 1 0 0 [.int p] h (.inl (some (.int (zLongest p)), h)) := by
  have := c_longestWord l G (h := h) (tn_lt p)
  rw [g] at this
  exact this
def zLines (x size width : Int32) : Int32 := ((dg 8 (tn x)).foldl (clS size width) (0, 0)).1
theorem z_tLines (l : Launch) (G : Gl) {h : Hp} {p size width : Int32} (g : nI (tn p) = p) : MRw l G yX9_countLines (.code yX9_countLines cX9_countLines 8 (Option.some Jvm.ClassFile.FieldType.int)) 0 0 0 [.int p, .int size, .int width] h (.inl (some (.int (zLines p size width)), h)) := by
  have := c_countLines l G (h := h) (size := size) (width := width) (tn_lt p)
  rw [g] at this
  exact this
