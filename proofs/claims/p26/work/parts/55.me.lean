/-! ===== the model: findsValues, of, capped, widest (by gen.py) ===== -/
def m_findsValues_2 (K0 : MM → Option (MM)) (x1 : Int32) : Nat → Int32 → MM → Option (MM)
  | 0, _, _ => none
  | fu + 1, x2, S => if (S 10 0) ≤ x2 then (K0 S) else (bd (m_isThere S x2 x1) fun p2 => (if ix x2 16 then if (p2 = 0 ∨ p2 = 1) then bnd (u2 S 36 (tn x2) p2) fun S3 => (m_findsValues_2 K0 x1 fu (x2 + 1) S3) else none else none))
def m_findsValues_30 (K0 : MM → Option (MM)) (x1 : Int32) : Nat → Int32 → MM → Option (MM)
  | 0, _, _ => none
  | fu + 1, x2, S => if (4 : Int32) ≤ x2 then (K0 S) else (bd (m_tells S x1 ((10 : Int32) + x2)) fun p12 => (if ix x2 4 then bnd (u2 S 37 (tn x2) p12) fun S13 => (m_findsValues_30 K0 x1 fu (x2 + 1) S13) else none))
def m_findsValues_75 (K0 : Int32 → Option (MM)) (S : MM) (x3 : Int32) : Nat → Int32 → Int32 → Option (MM)
  | 0, _, _ => none
  | fu + 1, x4, x5 => if (4 : Int32) ≤ x5 then (K0 x4) else (if x4 = ((-1) : Int32) then (K0 x4) else (if x4 = x3 then (K0 x4) else (bd (m_needs S x4) fun p28 => (m_findsValues_75 K0 S x3 fu p28 (x5 + 1)))))
def m_findsValues_60 (K0 : Int32 → MM → Option (MM)) (x1 : Int32) : Nat → Int32 → Int32 → MM → Option (MM)
  | 0, _, _, _ => none
  | fu + 1, x2, x3, S => if (4 : Int32) ≤ x3 then (K0 x2 S) else (bd (m_needs S x3) fun p21 => (m_findsValues_75 (fun p29 => if p29 = x3 then (if ix ((((14 : Int32) * x1) + (10 : Int32)) + x3) 336 then bnd (u2 S 23 (tn ((((14 : Int32) * x1) + (10 : Int32)) + x3)) ((-1) : Int32)) fun S32 => (bnd (u2 S32 24 (tn ((((14 : Int32) * x1) + (10 : Int32)) + x3)) ((-1) : Int32)) fun S34 => (bnd (x2 ||| ((1 : Int32) <<< (x3 &&& 31))) fun p35 => (m_findsValues_60 K0 x1 fu p35 (x3 + 1) S34))) else none) else (m_findsValues_60 K0 x1 fu x2 (x3 + 1) S)) S x3 1000 p21 (0 : Int32)))
def m_findsValues_165 (K0 : Int32 → MM → Option (MM)) (x1 : Int32) : Nat → Int32 → Int32 → MM → Option (MM)
  | 0, _, _, _ => none
  | fu + 1, x2, x4, S => if (4 : Int32) ≤ x4 then (K0 x2 S) else (bd (m_needs S x4) fun p43 => (if ((x2 >>> (x4 &&& 31)) &&& (1 : Int32)) = (0 : Int32) then (if p43 = ((-1) : Int32) then (if ix x4 4 then bd (m_takesValue S x1 ((10 : Int32) + x4) (S 37 (tn x4))) fun S51 => (if ix ((((14 : Int32) * x1) + (10 : Int32)) + x4) 336 then bnd (if (S51 23 (tn ((((14 : Int32) * x1) + (10 : Int32)) + x4))) = ((-1) : Int32) then ((-1) : Int32) else S51 24 (tn ((((14 : Int32) * x1) + (10 : Int32)) + x4))) fun p56 => bnd (u2 S51 24 (tn ((((14 : Int32) * x1) + (10 : Int32)) + x4)) p56) fun S57 => (bnd (x2 ||| ((1 : Int32) <<< (x4 &&& 31))) fun p58 => (m_findsValues_165 K0 x1 fu p58 (x4 + 1) S57)) else none) else none) else (if ((x2 >>> (p43 &&& 31)) &&& (1 : Int32)) = (1 : Int32) then (if ix x4 4 then bd (m_takesValue S x1 ((10 : Int32) + x4) (S 37 (tn x4))) fun S63 => (if ix ((((14 : Int32) * x1) + (10 : Int32)) + x4) 336 then bnd (if (S63 23 (tn ((((14 : Int32) * x1) + (10 : Int32)) + x4))) = ((-1) : Int32) then ((-1) : Int32) else S63 24 (tn ((((14 : Int32) * x1) + (10 : Int32)) + x4))) fun p68 => bnd (u2 S63 24 (tn ((((14 : Int32) * x1) + (10 : Int32)) + x4)) p68) fun S69 => (bnd (x2 ||| ((1 : Int32) <<< (x4 &&& 31))) fun p70 => (m_findsValues_165 K0 x1 fu p70 (x4 + 1) S69)) else none) else none) else (m_findsValues_165 K0 x1 fu x2 (x4 + 1) S))) else (m_findsValues_165 K0 x1 fu x2 (x4 + 1) S)))
def m_findsValues_157 (K0 : MM → Option (MM)) (x1 : Int32) : Nat → Int32 → Int32 → MM → Option (MM)
  | 0, _, _, _ => none
  | fu + 1, x2, x3, S => if (4 : Int32) ≤ x3 then (K0 S) else (m_findsValues_165 (fun p71 S74 => m_findsValues_157 K0 x1 fu p71 (x3 + 1) S74) x1 1000 x2 (0 : Int32) S)
def m_findsValues_295 (x1 : Int32) : Nat → Int32 → MM → Option (MM)
  | 0, _, _ => none
  | fu + 1, x3, S => if (10 : Int32) ≤ x3 then (some S) else (bd (m_tells S x1 x3) fun p81 => (bd (m_takesValue S x1 x3 p81) fun S82 => (m_findsValues_295 x1 fu (x3 + 1) S82)))
def m_findsValues (S : MM) (a0 : Int32) : Option (MM) := m_findsValues_2 (fun S10 => m_findsValues_30 (fun S19 => m_findsValues_60 (fun p36 S40 => m_findsValues_157 (fun S79 => m_findsValues_295 a0 1000 (0 : Int32) S79) a0 1000 p36 (0 : Int32) S40) a0 1000 (0 : Int32) (0 : Int32) S19) a0 1000 (0 : Int32) S10) a0 1000 (0 : Int32) S
def m_of (S : MM) (a0 : Int32) (a1 : Int32) : Int32 := S 23 (tn (((14 : Int32) * a0) + a1))
abbrev m_of_g (S : MM) (a0 : Int32) (a1 : Int32) : Prop := ix (((14 : Int32) * a0) + a1) 336
def m_capped (S : MM) (a0 : Int32) (a1 : Int32) : Int32 := if (m_of S a0 (2 : Int32)) = ((-2) : Int32) then a1 else if a1 ≤ (m_of S a0 (2 : Int32)) then a1 else m_of S a0 (2 : Int32)
abbrev m_capped_g (S : MM) (a0 : Int32) (a1 : Int32) : Prop := m_of_g S a0 (2 : Int32)
def m_widest_9 (K0 : Int32 → Option (Int32)) (S : MM) : Nat → Int32 → Int32 → Option (Int32)
  | 0, _, _ => none
  | fu + 1, x2, x3 => if x3 ≤ (0 : Int32) then (K0 x2) else (bnd (if (x3 - x3 / (10 : Int32) * (10 : Int32)) ≤ x2 then x2 else x3 - x3 / (10 : Int32) * (10 : Int32)) fun p10 => (bnd (x3 / (10 : Int32)) fun p11 => (m_widest_9 K0 S fu p10 p11)))
def m_widest (S : MM) (a0 : Int32) : Option (Int32) := if ix a0 24 then bnd (S 8 (tn a0)) fun p4 => (m_widest_9 (fun p12 => if m_of_g S a0 (9 : Int32) then some (p12 * (m_of S a0 (9 : Int32))) else none) S 1000 (0 : Int32) p4) else none