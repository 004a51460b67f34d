/-! ===== the state as functions, one a field: next address, kind, length, int fields, ref fields, int rows, ref rows, long rows ===== -/
abbrev Hp : Type := Nat × (Nat → Nat) × (Nat → Nat) × (Nat → Nat → Int32) × (Nat → Nat → Option Nat) × (Nat → Nat → Int32) × (Nat → Nat → Option Nat) × (Nat → Nat → Int64)
def hN (h : Hp) : Nat := h.1
def hK (h : Hp) : Nat → Nat := h.2.1
def hL (h : Hp) : Nat → Nat := h.2.2.1
def hI (h : Hp) : Nat → Nat → Int32 := h.2.2.2.1
def hR (h : Hp) : Nat → Nat → Option Nat := h.2.2.2.2.1
def hA (h : Hp) : Nat → Nat → Int32 := h.2.2.2.2.2.1
def hQ (h : Hp) : Nat → Nat → Option Nat := h.2.2.2.2.2.2.1
def hW (h : Hp) : Nat → Nat → Int64 := h.2.2.2.2.2.2.2
def sI (h : Hp) (f a : Nat) (v : Int32) : Hp := (hN h, hK h, hL h, va_up (hI h) f (va_up (hI h f) a v), hR h, hA h, hQ h, hW h)
def sR (h : Hp) (f a : Nat) (v : Option Nat) : Hp := (hN h, hK h, hL h, hI h, va_up (hR h) f (va_up (hR h f) a v), hA h, hQ h, hW h)
def sA (h : Hp) (a j : Nat) (v : Int32) : Hp := (hN h, hK h, hL h, hI h, hR h, va_up (hA h) a (va_up (hA h a) j v), hQ h, hW h)
def sQ (h : Hp) (a j : Nat) (v : Option Nat) : Hp := (hN h, hK h, hL h, hI h, hR h, hA h, va_up (hQ h) a (va_up (hQ h a) j v), hW h)
def sQf (h : Hp) (a : Nat) (f : Nat → Option Nat) : Hp := (hN h, hK h, hL h, hI h, hR h, hA h, va_up (hQ h) a f, hW h)
def sW (h : Hp) (a j : Nat) (v : Int64) : Hp := (hN h, hK h, hL h, hI h, hR h, hA h, hQ h, va_up (hW h) a (va_up (hW h a) j v))
def nw (h : Hp) (k n : Nat) : Hp := (hN h + 1, va_up (hK h) (hN h) k, va_up (hL h) (hN h) n, hI h, hR h, hA h, hQ h, hW h)
/-- the classes by their kinds -/
abbrev mCl : List vw_C := [(RJx4a65c, TJx4a65c, 3), (RX0, TX0, 5), (RX1, TX1, 3), (RX2, TX2, 12), (RX4, TX4, 11), (RX5, TX5, 4), (RX7, TX7, 7), (RX8, TX8, 2), (RX10, TX10, 3), (RX11, TX11, 5), (RX11, TX11, 5)]
def cty (c : Nat) : Nat → FieldType := match c with
  | 0 => tyJx4a65c
  | 1 => tyX0
  | 2 => tyX1
  | 3 => tyX2
  | 4 => tyX4
  | 5 => tyX5
  | 6 => tyX7
  | 7 => tyX8
  | 8 => tyX10
  | 9 => tyX11
  | _ => tyX11
def cnt (c : Nat) : Nat := match c with
  | 0 => 3
  | 1 => 5
  | 2 => 3
  | 3 => 12
  | 4 => 11
  | 5 => 4
  | 6 => 7
  | 7 => 2
  | 8 => 3
  | 9 => 5
  | _ => 5
def isRf (t : FieldType) : Bool := match t with
  | .object _ => true
  | .array _ => true
  | _ => false
def fld (ρ : Nat → Nat) (h : Hp) (c a k : Nat) : Value := if isRf (cty c k) = true then va_rf ((hR h (c * 64 + k) a).map ρ) else .int (hI h (c * 64 + k) a)
def okK (k : Nat) : Bool := decide (k ≤ 10) || (decide (100 ≤ k) && decide (k ≤ 105))
/-- what is fixed for the whole run: class ids and slots, row classes, where our cells begin, foreign addresses, the script -/
abbrev Gf : Type := va_G × (Nat → ClassId) × (Nat → Prop) × (Nat → Nat) × Nat × (Nat → Int32)
def gD (G : Gf) : va_G := G.1
def gC (G : Gf) : Nat → ClassId := G.2.1
def gB (G : Gf) : Nat → Prop := G.2.2.1
def gF (G : Gf) : Nat → Nat := G.2.2.2.1
def gL (G : Gf) : Nat := G.2.2.2.2.1
def gX (G : Gf) : Nat → Int32 := G.2.2.2.2.2
def gA (G : Gf) : Nat → Prop := gB G
/-- the same without the cells that may change; and with them -/
abbrev Gl : Type := va_G × (Nat → ClassId) × (Nat → Nat) × Nat × (Nat → Int32)
def gZ (G : Gf) : Gl := (G.1, G.2.1, G.2.2.2.1, G.2.2.2.2.1, G.2.2.2.2.2)
def gW (G : Gl) (A : Nat → Prop) : Gf := (G.1, G.2.1, A, G.2.2.1, G.2.2.2.1, G.2.2.2.2)
def gF0 (G : Gl) : Nat → Nat := G.2.2.1
def gL0 (G : Gl) : Nat := G.2.2.2.1
def gX0 (G : Gl) : Nat → Int32 := G.2.2.2.2
def aty (G : Gf) : List (ClassId × FieldType) := [(gC G 0, .int), (gC G 1, .int), (gC G 2, .int), (gC G 3, .object "java/lang/Object"), (gC G 4, .object RX7), (gC G 5, .object RX1)]
def ce (G : Gf) (ρ : Nat → Nat) (h : Hp) (a : Nat) : va_E :=
  if hK h a < 100 then .inr (hK h a, (List.range (cnt (hK h a))).map (fld ρ h (hK h a) a))
  else .inl (gC G (hK h a - 100), hL h a, if hK h a < 102 then .inl (hA h a) else if hK h a = 102 then .inr (.inl (hW h a)) else .inr (.inr (.inr (.inr (fun j => (hQ h a j).map ρ)))))
def wsF (G : Gf) (ρ : Nat → Nat) (h : Hp) : va_W := (List.range (hN h - 6)).map (fun i => (ρ (i + 6), ce G ρ h (i + 6)))
def vld (n : Nat) (v : Value) : Prop := match v with
  | .ref a => a < n
  | _ => True
def upv (ρ : Nat → Nat) (v : Value) : Value := match v with
  | .ref a => .ref (ρ a)
  | v => v
def vl (n : Nat) (l : List Value) : Prop := ∀ v ∈ l, vld n v
def Good (h : Hp) : Prop :=
  6 ≤ hN h ∧ (∀ a, a < 6 → hK h a = 999) ∧ (∀ a, hN h ≤ a → hK h a = 999 ∧ (∀ f, hI h f a = 0 ∧ hR h f a = none) ∧ (∀ j, hA h a j = 0 ∧ hQ h a j = none ∧ hW h a j = 0)) ∧
  (∀ f a b, hR h f a = some b → b < hN h) ∧ (∀ a j b, hQ h a j = some b → b < hN h) ∧ (∀ a, 6 ≤ a → a < hN h → okK (hK h a) = true) ∧ (∀ a, hL h a < 2 ^ 31)
def Wo (G : Gf) (ρ : Nat → Nat) (h : Hp) (H : Heap) : Prop :=
  va_P (gD G) mCl (wsF G ρ h) H ∧ va_D (gA G) (wsF G ρ h) ∧ Good h ∧ (∀ i, i < 6 → ρ i = gF G i)
def LV (ρ : Nat → Nat) (ls : Array Slot) (LS : List Value) : Prop := lv_has ls LS.length [] ∧ ∀ (i : Nat) (v : Value), LS[i]? = some v → v.category = 1 → ls[i]? = some (.val (upv ρ v))
/-- a word of the tables that holds wherever the machine is -/
def Wk (w : Cond) : Prop := w ∈ lw_tbl ∧ goodWord w = true
/-! pure rows -/
theorem vl_c {n : Nat} {v : Value} {l : List Value} (h : vld n v) (k : vl n l) : vl n (v :: l) := fun w hw => (List.mem_cons.mp hw).elim (fun e => e ▸ h) (k w)
theorem vl_t {n : Nat} {v : Value} {l : List Value} (k : vl n (v :: l)) : vl n l := fun w hw => k w (List.mem_cons_of_mem _ hw)
theorem vl_h {n : Nat} {v : Value} {l : List Value} (k : vl n (v :: l)) : vld n v := k v List.mem_cons_self
theorem vl_mono {n m : Nat} {l : List Value} (h : n ≤ m) (k : vl n l) : vl m l := fun w hw => by
  have := k w hw
  cases w <;> first | trivial | exact Nat.lt_of_lt_of_le this h
theorem vl_app {n : Nat} {l r : List Value} (h : vl n l) (k : vl n r) : vl n (l ++ r) := fun w hw => (List.mem_append.mp hw).elim (h w) (k w)
theorem vl_l {n : Nat} {l r : List Value} (h : vl n (l ++ r)) : vl n l := fun w hw => h w (List.mem_append_left _ hw)
theorem vl_r {n : Nat} {l r : List Value} (h : vl n (l ++ r)) : vl n r := fun w hw => h w (List.mem_append_right _ hw)
theorem vl_at {n : Nat} {l : List Value} (h : vl n l) {i : Nat} {v : Value} (hi : l[i]? = some v) : vld n v := h v (List.mem_of_getElem? hi)
theorem vl_set {n : Nat} {l : List Value} (h : vl n l) {i : Nat} {v : Value} (hv : vld n v) : vl n (l.set i v) := fun w hw => by
  rcases List.mem_or_eq_of_mem_set hw with q | q
  · exact h w q
  · exact q ▸ hv
theorem vld_rf {n : Nat} {o : Option Nat} (h : ∀ b, o = some b → b < n) : vld n (va_rf o) := by
  cases o with
  | none => trivial
  | some a => exact h a rfl
theorem upv_rf (ρ : Nat → Nat) (o : Option Nat) : upv ρ (va_rf o) = va_rf (o.map ρ) := by cases o <;> rfl
theorem upv_int (ρ : Nat → Nat) (x : Int32) : upv ρ (.int x) = .int x := rfl
theorem upv_cat (ρ : Nat → Nat) (v : Value) : (upv ρ v).category = v.category := by cases v <;> rfl
theorem upv_ext {ρ ρ' : Nat → Nat} {n : Nat} (h : ∀ a, a < n → ρ' a = ρ a) {v : Value} (hv : vld n v) : upv ρ' v = upv ρ v := by
  cases v <;> first | rfl | (exact congrArg Value.ref (h _ hv))
theorem upv_exts {ρ ρ' : Nat → Nat} {n : Nat} (h : ∀ a, a < n → ρ' a = ρ a) {l : List Value} (hv : vl n l) : l.map (upv ρ') = l.map (upv ρ) := List.map_congr_left (fun v hm => upv_ext h (hv v hm))
theorem LV_ext {ρ ρ' : Nat → Nat} {n : Nat} (h : ∀ a, a < n → ρ' a = ρ a) {ls : Array Slot} {LS : List Value} (hv : vl n LS) (hL : LV ρ ls LS) : LV ρ' ls LS := ⟨hL.1, fun i v hi hc => by rw [upv_ext h (vl_at hv hi)]; exact hL.2 i v hi hc⟩
theorem wsF_len (G : Gf) (ρ : Nat → Nat) (h : Hp) : (wsF G ρ h).length = hN h - 6 := by simp [wsF]
theorem wsF_get (G : Gf) (ρ : Nat → Nat) (h : Hp) {a : Nat} (h6 : 6 ≤ a) (hn : a < hN h) : (wsF G ρ h)[a - 6]? = some (ρ a, ce G ρ h a) := by
  have : a - 6 < hN h - 6 := by omega
  simp [wsF, this, Nat.sub_add_cancel h6]
theorem wsF_at {G : Gf} {ρ : Nat → Nat} {h : Hp} {k : Nat} {q : Nat × va_E} (hk : (wsF G ρ h)[k]? = some q) : k + 6 < hN h ∧ q = (ρ (k + 6), ce G ρ h (k + 6)) := by
  have hl : k < (wsF G ρ h).length := (List.getElem?_eq_some_iff.mp hk).1
  rw [wsF_len] at hl
  have := wsF_get G ρ h (a := k + 6) (by omega) (by omega)
  rw [Nat.add_sub_cancel] at this
  rw [this] at hk
  exact ⟨by omega, (Option.some.inj hk).symm⟩
theorem wsF_set {G : Gf} {ρ : Nat → Nat} {h h' : Hp} {a : Nat} (h6 : 6 ≤ a) (hn : a < hN h) (e1 : hN h' = hN h) {e : va_E} (e2 : ce G ρ h' a = e) (e3 : ∀ b, b ≠ a → ce G ρ h' b = ce G ρ h b) : (wsF G ρ h).set (a - 6) (ρ a, e) = wsF G ρ h' := by
  apply List.ext_getElem?
  intro k
  by_cases hk : k < hN h - 6
  · by_cases hka : k = a - 6
    · subst hka
      rw [List.getElem?_set_self (by rw [wsF_len]; exact hk), wsF_get G ρ h' h6 (by omega), e2]
    · rw [List.getElem?_set_ne (Ne.symm hka)]
      have h1 := wsF_get G ρ h (a := k + 6) (by omega) (by omega)
      have h2 := wsF_get G ρ h' (a := k + 6) (by omega) (by omega)
      rw [Nat.add_sub_cancel] at h1 h2
      rw [h1, h2, e3 _ (by omega)]
  · rw [List.getElem?_eq_none (by rw [List.length_set, wsF_len]; omega), List.getElem?_eq_none (by rw [wsF_len]; omega)]
theorem fld_ext {ρ ρ' : Nat → Nat} {h : Hp} (he : ∀ a, a < hN h → ρ' a = ρ a) (hc : ∀ f a b, hR h f a = some b → b < hN h) (c a k : Nat) : fld ρ' h c a k = fld ρ h c a k := by
  unfold fld
  cases hr : hR h (c * 64 + k) a with
  | none => rfl
  | some b => rw [Option.map_some, Option.map_some, he b (hc _ _ _ hr)]
theorem ce_ext {G : Gf} {ρ ρ' : Nat → Nat} {h : Hp} (he : ∀ a, a < hN h → ρ' a = ρ a) (hc : Good h) (a : Nat) : ce G ρ' h a = ce G ρ h a := by
  have e1 : fld ρ' h (hK h a) a = fld ρ h (hK h a) a := funext fun k => fld_ext he hc.2.2.2.1 _ _ _
  have e2 : (fun j => (hQ h a j).map ρ') = fun j => (hQ h a j).map ρ := funext fun j => by
    cases hr : hQ h a j with
    | none => rfl
    | some b => rw [Option.map_some, Option.map_some, he b (hc.2.2.2.2.1 _ _ _ hr)]
  unfold ce
  rw [e1, e2]
theorem wsF_ext {G : Gf} {ρ ρ' : Nat → Nat} {h : Hp} (he : ∀ a, a < hN h → ρ' a = ρ a) (hc : Good h) : wsF G ρ' h = wsF G ρ h := by
  unfold wsF
  apply List.map_congr_left
  intro i hi
  rw [List.mem_range] at hi
  rw [he (i + 6) (by omega), ce_ext he hc]
theorem okK_cases {k : Nat} (h : okK k = true) : k ≤ 10 ∨ (100 ≤ k ∧ k ≤ 105) := by
  simp [okK] at h
  omega
theorem kind_in {h : Hp} (hg : Good h) {a k : Nat} (hk : hK h a = k) (h9 : k ≠ 999) : 6 ≤ a ∧ a < hN h := by
  refine ⟨?_, ?_⟩
  · rcases Nat.lt_or_ge a 6 with q | q
    · exact absurd (hk.symm.trans (hg.2.1 a q)) h9
    · exact q
  · rcases Nat.lt_or_ge a (hN h) with q | q
    · exact q
    · exact absurd (hk.symm.trans (hg.2.2.1 a q).1) h9
