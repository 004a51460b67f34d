/-! ===== the model's memory as one table: row = place of the field, scalars at 0 ===== -/
abbrev MM : Type := Nat → Nat → Int32
def u2 (S : MM) (k j : Nat) (v : Int32) : MM := fun a b => if a = k ∧ b = j then v else S a b
def tn (x : Int32) : Nat := x.toInt.toNat
abbrev ix (x : Int32) (n : Nat) : Prop := nI (tn x) = x ∧ tn x < n
def mln (k : Nat) : Nat := ([0, 0, 0, 0, 24, 24, 24, 24, 24, 24, 0, 16, 48, 48, 48, 48, 16, 16, 16, 16, 224, 224, 224, 336, 336, 96, 24, 24, 24, 0, 24, 336, 96, 0, 24, 24, 16, 4, 24, 24] : List Nat).getD k 0
def marr (k : Nat) : Bool := Nat.blt 0 (mln k)
def mbo (k : Nat) : Bool := k == 9 || k == 18 || k == 28 || k == 35 || k == 36 || k == 39
def mad (k : Nat) : Nat := if k < 10 then k - 3 else if k < 29 then k - 4 else if k < 33 then k - 5 else k - 6
def mof (d : Nat) : Nat := if d ≤ 6 then d + 3 else if d ≤ 24 then d + 4 else if d ≤ 27 then d + 5 else d + 6
def msc (k : Nat) : Bool := k == 0 || k == 1 || k == 2 || k == 3 || k == 10 || k == 29 || k == 33
/-- the heap with the model's cells as the table tells -/
def pm (m : Nat) (h : Hp) (S : MM) : Hp := (hN h, hK h, hL h, fun f a => if a = m ∧ 640 ≤ f ∧ msc (f - 640) = true then S (f - 640) 0 else hI h f a, hR h, fun a j => if m < a ∧ a ≤ m + 33 then S (mof (a - m)) j else hA h a j, hQ h, hW h)
/-- the model at m: its rows right behind it -/
def MW (m : Nat) (h : Hp) : Prop := hK h m = 10 ∧ ∀ k, marr k = true → hR h (640 + k) m = some (m + mad k) ∧ hK h (m + mad k) = (if mbo k = true then 101 else 100) ∧ hL h (m + mad k) = mln k
theorem marr_lt {k : Nat} (h : marr k = true) : k < 40 := by
  rcases Nat.lt_or_ge k 40 with q | q
  · exact q
  · have : mln k = 0 := by
      unfold mln
      rw [List.getD_eq_getElem?_getD, List.getElem?_eq_none (by simpa using q)]
      rfl
    rw [marr, this] at h
    cases h
theorem mad_ok {k : Nat} (h : marr k = true) : 0 < mad k ∧ mad k ≤ 33 ∧ mof (mad k) = k := by
  have : ∀ k, k < 40 → marr k = true → 0 < mad k ∧ mad k ≤ 33 ∧ mof (mad k) = k := by decide
  exact this k (marr_lt h) h
theorem mof_ok {d : Nat} (h : 0 < d) (h2 : d ≤ 33) : mad (mof d) = d ∧ msc (mof d) = false := by
  have : ∀ d, d < 34 → 0 < d → mad (mof d) = d ∧ msc (mof d) = false := by decide
  exact this d (by omega) h
theorem msc_lt {k : Nat} (h : msc k = true) : k < 40 := by
  simp [msc] at h
  omega
theorem u2_self (S : MM) (k j : Nat) (v : Int32) : u2 S k j v k j = v := if_pos ⟨rfl, rfl⟩
theorem u2_ne {S : MM} {k j a b : Nat} {v : Int32} (h : ¬ (a = k ∧ b = j)) : u2 S k j v a b = S a b := if_neg h
theorem u2_row {S : MM} {k j a b : Nat} {v : Int32} (h : a ≠ k) : u2 S k j v a b = S a b := if_neg (fun z => h z.1)
theorem pm_A {m : Nat} {h : Hp} {S : MM} {k : Nat} (hk : marr k = true) (j : Nat) : hA (pm m h S) (m + mad k) j = S k j := by
  obtain ⟨h1, h2, h3⟩ := mad_ok hk
  show (if m < m + mad k ∧ m + mad k ≤ m + 33 then S (mof (m + mad k - m)) j else _) = _
  rw [if_pos ⟨by omega, by omega⟩, Nat.add_sub_cancel_left, h3]
theorem pm_I {m : Nat} {h : Hp} {S : MM} {k : Nat} (hk : msc k = true) : hI (pm m h S) (640 + k) m = S k 0 := by
  show (if m = m ∧ 640 ≤ 640 + k ∧ msc (640 + k - 640) = true then S (640 + k - 640) 0 else _) = _
  rw [Nat.add_sub_cancel_left, if_pos ⟨rfl, by omega, hk⟩]
theorem pm_sA {m : Nat} {h : Hp} {S : MM} {k j : Nat} {v : Int32} (hk : marr k = true) : sA (pm m h S) (m + mad k) j v = pm m h (u2 S k j v) := by
  obtain ⟨h1, h2, h3⟩ := mad_ok hk
  have hns : msc k = false := by have := (mof_ok h1 h2).2; rw [h3] at this; exact this
  have eI : (fun f a => if a = m ∧ 640 ≤ f ∧ msc (f - 640) = true then S (f - 640) 0 else hI h f a) = fun f a => if a = m ∧ 640 ≤ f ∧ msc (f - 640) = true then u2 S k j v (f - 640) 0 else hI h f a := by
    funext f a
    by_cases q : a = m ∧ 640 ≤ f ∧ msc (f - 640) = true
    · rw [if_pos q, if_pos q, u2_row (fun z => by rw [z] at q; rw [hns] at q; exact absurd q.2.2 (by decide))]
    · rw [if_neg q, if_neg q]
  have eA : va_up (hA (pm m h S)) (m + mad k) (va_up (hA (pm m h S) (m + mad k)) j v) = fun a i => if m < a ∧ a ≤ m + 33 then u2 S k j v (mof (a - m)) i else hA h a i := by
    funext a i
    by_cases q : a = m + mad k
    · subst q
      rw [va_up_self, if_pos ⟨by omega, by omega⟩, Nat.add_sub_cancel_left, h3]
      by_cases z : i = j
      · subst z
        rw [va_up_self, u2_self]
      · rw [va_up_ne _ _ z, pm_A hk, u2_ne (fun y => z y.2)]
    · rw [va_up_ne _ _ q]
      show (if m < a ∧ a ≤ m + 33 then S (mof (a - m)) i else _) = _
      by_cases z : m < a ∧ a ≤ m + 33
      · rw [if_pos z, if_pos z, u2_row (fun y => q (by
          have := (mof_ok (d := a - m) (by omega) (by omega)).1
          rw [y] at this
          omega))]
      · rw [if_neg z, if_neg z]
  show (hN h, hK h, hL h, _, hR h, va_up (hA (pm m h S)) (m + mad k) (va_up (hA (pm m h S) (m + mad k)) j v), hQ h, hW h) = _
  rw [eA]
  show (hN h, hK h, hL h, (fun f a => if a = m ∧ 640 ≤ f ∧ msc (f - 640) = true then S (f - 640) 0 else hI h f a), hR h, _, hQ h, hW h) = _
  rw [eI]
  rfl
theorem pm_sI {m : Nat} {h : Hp} {S : MM} {k : Nat} {v : Int32} (hk : msc k = true) : sI (pm m h S) (640 + k) m v = pm m h (u2 S k 0 v) := by
  have eA : (fun a i => if m < a ∧ a ≤ m + 33 then S (mof (a - m)) i else hA h a i) = fun a i => if m < a ∧ a ≤ m + 33 then u2 S k 0 v (mof (a - m)) i else hA h a i := by
    funext a i
    by_cases q : m < a ∧ a ≤ m + 33
    · rw [if_pos q, if_pos q, u2_row (fun z => by
        have := (mof_ok (d := a - m) (by omega) (by omega)).2
        rw [z, hk] at this
        cases this)]
    · rw [if_neg q, if_neg q]
  have eI : va_up (hI (pm m h S)) (640 + k) (va_up (hI (pm m h S) (640 + k)) m v) = fun f a => if a = m ∧ 640 ≤ f ∧ msc (f - 640) = true then u2 S k 0 v (f - 640) 0 else hI h f a := by
    funext f a
    by_cases q : f = 640 + k
    · subst q
      rw [va_up_self]
      by_cases z : a = m
      · subst z
        rw [va_up_self, Nat.add_sub_cancel_left, if_pos ⟨rfl, by omega, hk⟩, u2_self]
      · rw [va_up_ne _ _ z, if_neg (fun y => z y.1)]
        exact if_neg (fun y => z y.1)
    · rw [va_up_ne _ _ q]
      show (if a = m ∧ 640 ≤ f ∧ msc (f - 640) = true then S (f - 640) 0 else _) = _
      by_cases z : a = m ∧ 640 ≤ f ∧ msc (f - 640) = true
      · rw [if_pos z, if_pos z, u2_row (by omega)]
      · rw [if_neg z, if_neg z]
  show (hN h, hK h, hL h, va_up (hI (pm m h S)) (640 + k) (va_up (hI (pm m h S) (640 + k)) m v), hR h, (fun a i => if m < a ∧ a ≤ m + 33 then S (mof (a - m)) i else hA h a i), hQ h, hW h) = _
  rw [eI, eA]
  rfl
/-! what the pure functions are made of -/
def bnd {α β : Type} (e : α) (f : α → β) : β := f e
def bd {α β : Type} (x : Option α) (f : α → Option β) : Option β := x.bind f
def bd2 {α β γ : Type} (x : Option (α × β)) (f : α → β → Option γ) : Option γ := x.bind (fun q => f q.1 q.2)
theorem bnd_elim {α β : Type} {e : α} {f : α → β} {r : β} {P : α → Prop} (E : bnd e f = r) (k : ∀ x, f x = r → P x) : P e := k e E
theorem bd_elim {α β : Type} {x : Option α} {f : α → Option β} {r : β} (E : bd x f = some r) : ∃ v, x = some v ∧ f v = some r := by
  cases x with
  | none => cases E
  | some v => exact ⟨v, rfl, E⟩
theorem bd2_elim {α β γ : Type} {x : Option (α × β)} {f : α → β → Option γ} {r : γ} (E : bd2 x f = some r) : ∃ v s, x = some (v, s) ∧ f v s = some r := by
  cases x with
  | none => cases E
  | some v => exact ⟨v.1, v.2, rfl, E⟩
theorem gd_elim {α : Type} {c : Prop} [Decidable c] {A : Option α} {r : α} (E : (if c then A else none) = some r) : c ∧ A = some r := by
  by_cases q : c
  · rw [if_pos q] at E
    exact ⟨q, E⟩
  · rw [if_neg q] at E
    cases E
theorem ite_t {α : Type} {c : Prop} [Decidable c] {A B r : α} (E : (if c then A else B) = r) (h : c) : A = r := by
  rw [if_pos h] at E
  exact E
theorem ite_f {α : Type} {c : Prop} [Decidable c] {A B r : α} (E : (if c then A else B) = r) (h : ¬ c) : B = r := by
  rw [if_neg h] at E
  exact E
/-! the rows of the model -/
theorem rm_ref {X : Ctx} {y : MethodName} {cc : ByteArray} {nL : Nat} {ret : Option FieldType} {hh : List (Nat × Nat × Nat × Nat)} {f mc ms : Nat} (C : Cx X y cc nL ret hh f mc ms) {q n pc : Nat} {LS st : List Value} {m : Nat} {h : Hp} {S : MM} {k : Nat} {fi idx : Nat} {fin : Bool} (F : FL y.cls idx 10 k fi fin) (hd : decode cc pc = .ok (.getfield idx, 3)) (hfi : fi = 640 + k) (hr : isRf (cty 10 k) = true) (hM : MW m h) (ha : marr k = true) (K : wr X q n (pc + 3) LS (.ref (m + mad k) :: st) (pm m h S)) : wr X q n pc LS (.ref m :: st) (pm m h S) := by
  refine r_getR C F hd hr hM.1 ?_
  have e : hR (pm m h S) fi m = some (m + mad k) := by
    rw [hfi]
    exact (hM.2 k ha).1
  rw [e]
  exact K
theorem rm_get {X : Ctx} {y : MethodName} {cc : ByteArray} {nL : Nat} {ret : Option FieldType} {hh : List (Nat × Nat × Nat × Nat)} {f mc ms : Nat} (C : Cx X y cc nL ret hh f mc ms) {q n pc : Nat} {LS st : List Value} {m : Nat} {h : Hp} {S : MM} {k : Nat} {fi idx : Nat} {fin : Bool} (F : FL y.cls idx 10 k fi fin) (hd : decode cc pc = .ok (.getfield idx, 3)) (hfi : fi = 640 + k) (hr : isRf (cty 10 k) = false) (hM : MW m h) (ha : msc k = true) (K : wr X q n (pc + 3) LS (.int (S k 0) :: st) (pm m h S)) : wr X q n pc LS (.ref m :: st) (pm m h S) := by
  refine r_getI C F hd hr hM.1 ?_
  rw [hfi, pm_I ha]
  exact K
theorem rm_iald {X : Ctx} {y : MethodName} {cc : ByteArray} {nL : Nat} {ret : Option FieldType} {hh : List (Nat × Nat × Nat × Nat)} {f mc ms : Nat} (C : Cx X y cc nL ret hh f mc ms) {q n pc : Nat} {LS st : List Value} {m : Nat} {h : Hp} {S : MM} {k : Nat} {i : Int32} (hd : decode cc pc = .ok (.iaload, 1)) (hM : MW m h) (ha : marr k = true) (hb : mbo k = false) (g : ix i (mln k)) (K : wr X q n (pc + 1) LS (.int (S k (tn i)) :: st) (pm m h S)) : wr X q n pc LS (.int i :: .ref (m + mad k) :: st) (pm m h S) := by
  obtain ⟨-, h2, h3⟩ := hM.2 k ha
  rw [hb] at h2
  refine r_iald (j := tn i) C hd h2 g.1.symm (by show tn i < hL h (m + mad k); rw [h3]; exact g.2) ?_
  rw [pm_A ha]
  exact K
theorem rm_iast {X : Ctx} {y : MethodName} {cc : ByteArray} {nL : Nat} {ret : Option FieldType} {hh : List (Nat × Nat × Nat × Nat)} {f mc ms : Nat} (C : Cx X y cc nL ret hh f mc ms) {q n pc : Nat} {LS st : List Value} {m : Nat} {h : Hp} {S : MM} {k : Nat} {i v : Int32} (hd : decode cc pc = .ok (.iastore, 1)) (hM : MW m h) (ha : marr k = true) (hb : mbo k = false) (g : ix i (mln k)) (K : wr X q n (pc + 1) LS st (pm m h (u2 S k (tn i) v))) : wr X q n pc LS (.int v :: .int i :: .ref (m + mad k) :: st) (pm m h S) := by
  obtain ⟨-, h2, h3⟩ := hM.2 k ha
  rw [hb] at h2
  refine r_iast (j := tn i) C hd h2 g.1.symm (by show tn i < hL h (m + mad k); rw [h3]; exact g.2) ?_
  rw [pm_sA ha]
  exact K