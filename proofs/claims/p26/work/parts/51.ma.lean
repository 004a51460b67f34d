/-! ===== the model: in, isBelow, placeOf, asked, asked_, asked__, isRule, keeps, isPart, lay (by gen.py) ===== -/
def m_in (a0 : Int32) (a1 : Int32) (a2 : Int32) : Int32 := if a0 < a1 then (0 : Int32) else if a2 < a0 then (0 : Int32) else (1 : Int32)
theorem b_in {a0 a1 a2 : Int32} : m_in a0 a1 a2 = 0 ∨ m_in a0 a1 a2 = 1 := by
  unfold m_in
  exact (by first | exact Or.inl rfl | exact Or.inr rfl | assumption | exact b_canBe | (repeat' split) <;> first | exact Or.inl rfl | exact Or.inr rfl | assumption | exact b_canBe)

def m_isBelow_2 (K0 : Int32 → Option (Int32)) (S : MM) (x2 : Int32) : Nat → Int32 → Option (Int32)
  | 0, _ => none
  | fu + 1, x3 => if x3 = ((-1) : Int32) then (K0 x3) else (if x3 = x2 then (K0 x3) else (if ix x3 24 then bnd (S 5 (tn x3)) fun p8 => (m_isBelow_2 K0 S x2 fu p8) else none))
def m_isBelow (S : MM) (a0 : Int32) (a1 : Int32) : Option (Int32) := m_isBelow_2 (fun p9 => some (if p9 = a1 then (1 : Int32) else (0 : Int32))) S a1 1000 a0
def m_placeOf_2 (S : MM) (x1 : Int32) : Nat → Int32 → Option (Int32)
  | 0, _ => none
  | fu + 1, x2 => if (S 3 0) ≤ x2 then (some ((-1) : Int32)) else (if ix x2 24 then if (S 4 (tn x2)) = x1 then (some x2) else (m_placeOf_2 S x1 fu (x2 + 1)) else none)
def m_placeOf (S : MM) (a0 : Int32) : Option (Int32) := m_placeOf_2 S a0 1000 (0 : Int32)
def m_asked (S : MM) (a0 : Int32) : Option (Int32 × MM) := bnd (if a0 = (0 : Int32) then (1 : Int32) else (0 : Int32)) fun p3 => bnd (u2 S 0 0 p3) fun S4 => (if (a0) = 0 ∨ (a0) = 1 then some (a0, S4) else none)
def m_asked_ (S : MM) (a0 : Int32) (a1 : Int32) : Option (Int32 × MM) := bnd (if a0 = (0 : Int32) then (1 : Int32) else if a1 = (0 : Int32) then (2 : Int32) else (0 : Int32)) fun p4 => bnd (u2 S 0 0 p4) fun S5 => (some (if (S5 0 0) = (0 : Int32) then (1 : Int32) else (0 : Int32), S5))
def m_asked__ (S : MM) (a0 : Int32) (a1 : Int32) (a2 : Int32) : Option (Int32 × MM) := bnd (if a0 = (0 : Int32) then (1 : Int32) else if a1 = (0 : Int32) then (2 : Int32) else if a2 = (0 : Int32) then (3 : Int32) else (0 : Int32)) fun p5 => bnd (u2 S 0 0 p5) fun S6 => (some (if (S6 0 0) = (0 : Int32) then (1 : Int32) else (0 : Int32), S6))
def m_isRule (S : MM) (a0 : Int32) : Int32 := m_in a0 (0 : Int32) ((S 10 0) - (1 : Int32))
theorem b_isRule {S : MM} {a0 : Int32} : m_isRule S a0 = 0 ∨ m_isRule S a0 = 1 := by
  unfold m_isRule
  exact (by first | exact Or.inl rfl | exact Or.inr rfl | assumption | exact b_canBe | exact b_in | (repeat' split) <;> first | exact Or.inl rfl | exact Or.inr rfl | assumption | exact b_canBe | exact b_in)

def m_keeps_10 (K0 : MM → Option (MM)) : Nat → Int32 → MM → Option (MM)
  | 0, _, _ => none
  | fu + 1, x1, S => if (S 3 0) ≤ x1 then (K0 S) else (if ix x1 24 then bnd (u2 S 30 (tn x1) (S 4 (tn x1))) fun S6 => (m_keeps_10 K0 fu (x1 + 1) S6) else none)
def m_keeps_38 (K0 : MM → Option (MM)) : Nat → Int32 → MM → Option (MM)
  | 0, _, _ => none
  | fu + 1, x1, S => if ((14 : Int32) * (S 3 0)) ≤ x1 then (K0 S) else (if ix x1 336 then bnd (u2 S 31 (tn x1) (S 23 (tn x1))) fun S13 => (m_keeps_38 K0 fu (x1 + 1) S13) else none)
def m_keeps_69 : Nat → Int32 → MM → Option (MM)
  | 0, _, _ => none
  | fu + 1, x1, S => if ((4 : Int32) * (S 3 0)) ≤ x1 then (some S) else (if ix x1 96 then bnd (u2 S 32 (tn x1) (S 25 (tn x1))) fun S20 => (m_keeps_69 fu (x1 + 1) S20) else none)
def m_keeps (S : MM) : Option (MM) := bnd (u2 S 29 0 (S 3 0)) fun S1 => (m_keeps_10 (fun S8 => m_keeps_38 (fun S15 => m_keeps_69 1000 (0 : Int32) S15) 1000 (0 : Int32) S8) 1000 (0 : Int32) S1)
def m_isPart (a0 : Int32) (a1 : Int32) (a2 : Int32) : Int32 := if (m_in a0 ((-1) : Int32) (5 : Int32)) = (0 : Int32) then (0 : Int32) else if (m_in a1 (0 : Int32) (255 : Int32)) = (0 : Int32) then (0 : Int32) else if (m_in a2 (0 : Int32) (255 : Int32)) = (0 : Int32) then (0 : Int32) else (1 : Int32)
theorem b_isPart {a0 a1 a2 : Int32} : m_isPart a0 a1 a2 = 0 ∨ m_isPart a0 a1 a2 = 1 := by
  unfold m_isPart
  exact (by first | exact Or.inl rfl | exact Or.inr rfl | assumption | exact b_canBe | exact b_in | exact b_isRule | (repeat' split) <;> first | exact Or.inl rfl | exact Or.inr rfl | assumption | exact b_canBe | exact b_in | exact b_isRule)

def m_lay (S : MM) (a0 : Int32) (a1 : Int32) (a2 : Int32) (a3 : Int32) (a4 : Int32) : Option (MM) := if ix a0 48 then bnd (u2 S 12 (tn a0) a1) fun S1 => (bnd (u2 S1 13 (tn a0) a2) fun S3 => (bnd (u2 S3 14 (tn a0) a3) fun S4 => (bnd (u2 S4 15 (tn a0) a4) fun S5 => (some S5)))) else none