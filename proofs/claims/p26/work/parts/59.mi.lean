/-! ===== the model: finds (by gen.py) ===== -/
def m_finds_4 (K0 : Int32 → MM → Option (MM)) : Nat → Int32 → Int32 → MM → Option (MM)
  | 0, _, _, _ => none
  | fu + 1, x1, x2, S => if (S 3 0) ≤ x2 then (K0 x1 S) else (if ix x2 24 then if (¬ ((S 5 (tn x2)) = ((-1) : Int32)) → ix (S 5 (tn x2)) 24) then bnd (if (S 5 (tn x2)) = ((-1) : Int32) then (0 : Int32) else (S 27 (tn (S 5 (tn x2)))) + (1 : Int32)) fun p12 => bnd (u2 S 27 (tn x2) p12) fun S13 => (bnd (if (S13 27 (tn x2)) ≤ x1 then x1 else S13 27 (tn x2)) fun p16 => (m_finds_4 K0 fu p16 (x2 + 1) S13)) else none else none)
def m_finds_81 (K0 : MM → Option (MM)) (x2 : Int32) : Nat → Int32 → MM → Option (MM)
  | 0, _, _ => none
  | fu + 1, x3, S => if (S 3 0) ≤ x3 then (K0 S) else (if ix x3 24 then if (S 27 (tn x3)) = x2 then (bd (m_findsValues S x3) fun S28 => (m_finds_81 K0 x2 fu (x3 + 1) S28)) else (m_finds_81 K0 x2 fu (x3 + 1) S) else none)
def m_finds_172 (K0 : MM → Option (MM)) (x2 : Int32) : Nat → Int32 → MM → Option (MM)
  | 0, _, _ => none
  | fu + 1, x3, S => if (S 3 0) ≤ x3 then (K0 S) else (if x2 ≤ (0 : Int32) then (K0 S) else (if ix x3 24 then if (S 27 (tn x3)) = (x2 - (1 : Int32)) then (bd (m_findsWidths S x3) fun S45 => (m_finds_172 K0 x2 fu (x3 + 1) S45)) else (m_finds_172 K0 x2 fu (x3 + 1) S) else none))
def m_finds_74 (K0 : MM → Option (MM)) (x1 : Int32) : Nat → Int32 → MM → Option (MM)
  | 0, _, _ => none
  | fu + 1, x2, S => if x1 < x2 then (K0 S) else (m_finds_81 (fun S30 => if x2 = (0 : Int32) then (if m_of_g S30 (0 : Int32) (5 : Int32) then bnd (if (m_of S30 (0 : Int32) (5 : Int32)) = (3 : Int32) then (0 : Int32) else (1 : Int32)) fun p52 => if ix (0 : Int32) 24 then if (p52 = 0 ∨ p52 = 1) then bnd (u2 S30 28 (tn (0 : Int32)) p52) fun S53 => (if m_of_g S53 (0 : Int32) (0 : Int32) then bnd (if (m_of S53 (0 : Int32) (0 : Int32)) = ((-2) : Int32) then S53 1 0 else m_of S53 (0 : Int32) (0 : Int32)) fun p60 => if m_capped_g S53 (0 : Int32) p60 then if ix (2 : Int32) 96 then bnd (u2 S53 25 (tn (2 : Int32)) (m_capped S53 (0 : Int32) p60)) fun S63 => (m_finds_172 (fun S66 => m_finds_74 K0 x1 fu (x2 + 1) S66) x2 1000 (0 : Int32) S63) else none else none else none) else none else none else none) else (m_finds_172 (fun S47 => m_finds_74 K0 x1 fu (x2 + 1) S47) x2 1000 (0 : Int32) S30)) x2 1000 (0 : Int32) S)
def m_finds_221 (K0 : MM → Option (MM)) (x2 : Int32) : Nat → Int32 → MM → Option (MM)
  | 0, _, _ => none
  | fu + 1, x3, S => if (S 3 0) ≤ x3 then (K0 S) else (if ix x3 24 then if (S 27 (tn x3)) = x2 then (if (S 28 (tn x3)) = (0 : Int32) then (m_finds_221 K0 x2 fu (x3 + 1) S) else (bd (m_findsHeight S x3) fun S80 => (m_finds_221 K0 x2 fu (x3 + 1) S80))) else (m_finds_221 K0 x2 fu (x3 + 1) S) else none)
def m_finds_215 (K0 : MM → Option (MM)) : Nat → Int32 → MM → Option (MM)
  | 0, _, _ => none
  | fu + 1, x2, S => if x2 < (0 : Int32) then (K0 S) else (m_finds_221 (fun S83 => m_finds_215 K0 fu (x2 + Int32.ofInt (-1)) S83) x2 1000 (0 : Int32) S)
def m_finds_362 (K0 : MM → Option (MM)) (x2 : Int32) : Nat → Int32 → MM → Option (MM)
  | 0, _, _ => none
  | fu + 1, x3, S => if (4 : Int32) ≤ x3 then (K0 S) else (if ix x2 24 then if (S 28 (tn x2)) = (0 : Int32) then (if ix (((4 : Int32) * x2) + x3) 96 then bnd (u2 S 25 (tn (((4 : Int32) * x2) + x3)) ((-1) : Int32)) fun S110 => (bnd (u2 S110 26 (tn x2) (0 : Int32)) fun S112 => (m_finds_362 K0 x2 fu (x3 + 1) S112)) else none) else (K0 S) else none)
def m_finds_281 : Nat → Int32 → MM → Option (MM)
  | 0, _, _ => none
  | fu + 1, x2, S => if (S 3 0) ≤ x2 then (some S) else (if ix x2 24 then if (S 28 (tn x2)) = (0 : Int32) then (m_finds_362 (fun S115 => m_finds_281 fu (x2 + 1) S115) x2 1000 (0 : Int32) S) else (if (S 5 (tn x2)) = ((-1) : Int32) then (m_finds_362 (fun S121 => m_finds_281 fu (x2 + 1) S121) x2 1000 (0 : Int32) S) else (if ix ((4 : Int32) * x2) 96 then if ix ((4 : Int32) * (S 5 (tn x2))) 96 then bnd (u2 S 25 (tn ((4 : Int32) * x2)) ((S 25 (tn ((4 : Int32) * x2))) + (S 25 (tn ((4 : Int32) * (S 5 (tn x2))))))) fun S126 => (if ix (((4 : Int32) * x2) + (1 : Int32)) 96 then if ix (((4 : Int32) * (S126 5 (tn x2))) + (1 : Int32)) 96 then bnd (u2 S126 25 (tn (((4 : Int32) * x2) + (1 : Int32))) ((S126 25 (tn (((4 : Int32) * x2) + (1 : Int32)))) + (S126 25 (tn (((4 : Int32) * (S126 5 (tn x2))) + (1 : Int32)))))) fun S131 => (m_finds_362 (fun S134 => m_finds_281 fu (x2 + 1) S134) x2 1000 (0 : Int32) S131) else none else none) else none else none)) else none)
def m_finds (S : MM) : Option (MM) := m_finds_4 (fun p17 S20 => m_finds_74 (fun S69 => m_finds_215 (fun S87 => if ix (0 : Int32) 96 then bnd (u2 S87 25 (tn (0 : Int32)) (0 : Int32)) fun S88 => (if ix (1 : Int32) 96 then bnd (u2 S88 25 (tn (1 : Int32)) (0 : Int32)) fun S90 => (m_finds_281 1000 (0 : Int32) S90) else none) else none) 1000 p17 S69) p17 1000 (0 : Int32) S20) 1000 (0 : Int32) (0 : Int32) S