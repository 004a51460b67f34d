/-! ===== the model: canBe, bits, weightOf, declared, isPartOf, leads (by gen.py) ===== -/
def m_canBe (a0 : Int32) (a1 : Int32) : Int32 := if a0 = 3 ∨ a0 = 4 ∨ a0 = 14 then m_in a1 0 100 else if a0 = 5 then m_in a1 0 3 else if a0 = 6 then m_in a1 0 9 else if a0 = 7 then m_in a1 1 6 else if a0 = 8 then m_in a1 0 99 else if a0 = 9 then m_in a1 1 20 else m_in a1 0 2000
theorem b_canBe {a0 a1 : Int32} : m_canBe a0 a1 = 0 ∨ m_canBe a0 a1 = 1 := by
  unfold m_canBe
  repeat' split
  all_goals exact b_in
theorem sw_out {x : Int32} (h : ∀ v : Int32, 3 ≤ v.toInt → v.toInt ≤ 14 → ¬ x = v) : x.toInt < 3 ∨ 14 < x.toInt := by
  rcases Int.lt_or_le x.toInt 3 with q | q
  · exact Or.inl q
  · rcases Int.lt_or_le 14 x.toInt with z | z
    · exact Or.inr z
    · exact absurd rfl (h x q z)
def m_bits_4 (x0 : Int32) : Nat → Int32 → Int32 → Option (Int32)
  | 0, _, _ => none
  | fu + 1, x1, x2 => if (8 : Int32) ≤ x2 then (some x1) else (bnd (x1 + ((x0 >>> (x2 &&& 31)) &&& (1 : Int32))) fun p2 => (m_bits_4 x0 fu p2 (x2 + 1)))
def m_bits (a0 : Int32) : Option (Int32) := m_bits_4 a0 1000 (0 : Int32) (0 : Int32)
def m_weightOf_4 (S : MM) (x1 : Int32) : Nat → Int32 → Int32 → Option (Int32)
  | 0, _, _ => none
  | fu + 1, x2, x3 => if ix x1 16 then if (S 11 (tn x1)) ≤ x3 then (some x2) else (bnd (((3 : Int32) * x1) + x3) fun p5 => (if ix p5 48 then bd (m_bits (S 14 (tn p5))) fun p8 => (bd (m_bits (S 15 (tn p5))) fun p9 => (bnd (if (S 13 (tn p5)) = ((-1) : Int32) then (0 : Int32) else (1 : Int32)) fun p12 => bnd (x2 + (((10 : Int32) * (p8 + p9)) + p12)) fun p13 => (m_weightOf_4 S x1 fu p13 (x3 + 1)))) else none)) else none
def m_weightOf (S : MM) (a0 : Int32) : Option (Int32) := m_weightOf_4 S a0 1000 (0 : Int32) (0 : Int32)
def m_declared_4 (S : MM) (x1 : Int32) : Nat → Int32 → Int32 → Option (Int32)
  | 0, _, _ => none
  | fu + 1, x2, x3 => if (14 : Int32) ≤ x3 then (some x2) else (if ix (((14 : Int32) * x1) + x3) 224 then bnd (if (S 20 (tn (((14 : Int32) * x1) + x3))) = (0 : Int32) then (0 : Int32) else (1 : Int32)) fun p9 => bnd (x2 + p9) fun p10 => (m_declared_4 S x1 fu p10 (x3 + 1)) else none)
def m_declared (S : MM) (a0 : Int32) : Option (Int32) := m_declared_4 S a0 1000 (0 : Int32) (0 : Int32)
def m_isPartOf (S : MM) (a0 : Int32) (a1 : Int32) : Int32 := if (S 13 (tn a0)) = ((-1) : Int32) then if ((S 7 (tn a1)) &&& (S 14 (tn a0))) = (S 14 (tn a0)) then if ((S 7 (tn a1)) &&& (S 15 (tn a0))) = (0 : Int32) then (1 : Int32) else (0 : Int32) else (0 : Int32) else if (S 13 (tn a0)) = (S 6 (tn a1)) then if ((S 7 (tn a1)) &&& (S 14 (tn a0))) = (S 14 (tn a0)) then if ((S 7 (tn a1)) &&& (S 15 (tn a0))) = (0 : Int32) then (1 : Int32) else (0 : Int32) else (0 : Int32) else (0 : Int32)
abbrev m_isPartOf_g (S : MM) (a0 : Int32) (a1 : Int32) : Prop := (ix a0 48 ∧ ((S 13 (tn a0)) = ((-1) : Int32) → ix a1 24) ∧ (¬ ((S 13 (tn a0)) = ((-1) : Int32)) → ix a1 24))
theorem b_isPartOf {S : MM} {a0 a1 : Int32} : m_isPartOf S a0 a1 = 0 ∨ m_isPartOf S a0 a1 = 1 := by
  unfold m_isPartOf
  exact (by first | exact Or.inl rfl | exact Or.inr rfl | assumption | exact b_canBe | exact b_in | exact b_isRule | exact b_isPart | (repeat' split) <;> first | exact Or.inl rfl | exact Or.inr rfl | assumption | exact b_canBe | exact b_in | exact b_isRule | exact b_isPart)

def m_leads_51 (K0 : Int32 → Option (Int32)) (S : MM) (x2 : Int32) : Nat → Int32 → Int32 → Option (Int32)
  | 0, _, _ => none
  | fu + 1, x4, x5 => if x2 ≤ x5 then (K0 x4) else (if ix x5 24 then if ix x2 24 then bnd (if (S 5 (tn x5)) = (S 5 (tn x2)) then x5 else x4) fun p18 => (m_leads_51 K0 S x2 fu p18 (x5 + 1)) else none else none)
def m_leads (S : MM) (a0 : Int32) (a1 : Int32) (a2 : Int32) : Option (Int32) := if a0 = (0 : Int32) then (if ix a1 24 then some (if (S 5 (tn a1)) = a2 then (1 : Int32) else (0 : Int32)) else none) else (if a0 = (1 : Int32) then (if a1 = a2 then (some (0 : Int32)) else (bd (m_isBelow S a1 a2) fun p28 => (some (if p28 = (0 : Int32) then (0 : Int32) else (1 : Int32))))) else (m_leads_51 (fun p19 => some (if p19 = ((-1) : Int32) then (0 : Int32) else if p19 = a2 then (1 : Int32) else (0 : Int32))) S a1 1000 ((-1) : Int32) (0 : Int32)))