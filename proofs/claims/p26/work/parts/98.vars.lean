/-! ===== variables that need one another, four of them ===== -/
/-- where the needs lead, within n steps, until v -/
def wk (f : Nat → Option Nat) (v : Nat) : Nat → Option Nat → Option Nat
  | 0, o => o
  | _ + 1, none => none
  | n + 1, some u => if u = v then some u else wk f v n (f u)
theorem wk_rg {f : Nat → Option Nat} {v : Nat} : ∀ n o, wk f v n o = some v ↔ ∃ u, o = some u ∧ (u = v ∨ rgA f v n u = true)
  | 0, o => by
    unfold wk
    constructor
    · exact fun z => ⟨v, z, Or.inl rfl⟩
    · rintro ⟨u, z, y | y⟩
      · rw [z, y]
      · cases y
  | n + 1, none => ⟨fun z => (by cases z), fun ⟨u, z, _⟩ => (by cases z)⟩
  | n + 1, some u => by
    unfold wk
    by_cases q : u = v
    · rw [if_pos q, q]
      exact ⟨fun _ => ⟨v, rfl, Or.inl rfl⟩, fun _ => rfl⟩
    · rw [if_neg q, wk_rg n (f u)]
      constructor
      · rintro ⟨w, z, y⟩
        refine ⟨u, rfl, Or.inr ?_⟩
        unfold rgA
        rw [z]
        show (if w = v then true else rgA f v n w) = true
        rcases y with y | y
        · rw [if_pos y]
        · by_cases x : w = v
          · rw [if_pos x]
          · rw [if_neg x]; exact y
      · rintro ⟨w, z, y⟩
        cases z
        rcases y with y | y
        · exact absurd y q
        · unfold rgA at y
          cases hf : f u with
          | none => rw [hf] at y; cases y
          | some w =>
            rw [hf] at y
            have y' : (if w = v then true else rgA f v n w) = true := y
            refine ⟨w, rfl, ?_⟩
            by_cases x : w = v
            · exact Or.inl x
            · rw [if_neg x] at y'
              exact Or.inr y'
def stM (f : Nat → Option Nat) (m v : Nat) : Nat := if m.testBit v = true then m else match f v with
  | none => m ||| 2 ^ v
  | some u => if m.testBit u = true then m ||| 2 ^ v else m
def stC (f : Nat → Option Nat) (m v : Nat) : Nat := if rgA f v 4 v = true then m ||| 2 ^ v else match f v with
  | none => m ||| 2 ^ v
  | some u => if m.testBit u = true then m ||| 2 ^ v else m
def stR (f : Nat → Option Nat) (m v : Nat) : Nat := if rgA f v 4 v = true then m ||| 2 ^ v else m
def r4 (g : Nat → Nat → Nat) (m : Nat) : Nat := g (g (g (g m 0) 1) 2) 3
def dc (c0 c1 c2 c3 : Nat) : Nat → Option Nat := fun a => if (if a = 0 then c0 else if a = 1 then c1 else if a = 2 then c2 else c3) = 4 then none else some (if a = 0 then c0 else if a = 1 then c1 else if a = 2 then c2 else c3)
def dcOk (f : Nat → Option Nat) : Bool := (List.range 4).all (fun v => rgA f v 5 v == rgA f v 4 v) && r4 (stM f) (r4 (stM f) (r4 (stM f) (r4 (stM f) (r4 (stR f) 0)))) == 15 && r4 (stC f) (r4 (stC f) (r4 (stC f) (r4 (stC f) 0))) == 15
theorem dc_all : ((List.range 5).all fun c0 => (List.range 5).all fun c1 => (List.range 5).all fun c2 => (List.range 5).all fun c3 => dcOk (dc c0 c1 c2 c3)) = true := by decide +kernel
theorem dc_of {f : Nat → Option Nat} (h : ∀ a u, a < 4 → f a = some u → u < 4) : ∃ c0 c1 c2 c3, c0 < 5 ∧ c1 < 5 ∧ c2 < 5 ∧ c3 < 5 ∧ ∀ a, a < 4 → f a = dc c0 c1 c2 c3 a := by
  have k : ∀ a, a < 4 → ∃ c, c < 5 ∧ f a = if c = 4 then none else some c := fun a ha => by
    cases q : f a with
    | none => exact ⟨4, by decide, rfl⟩
    | some u =>
      have := h a u ha q
      exact ⟨u, by omega, by rw [if_neg (by omega)]⟩
  obtain ⟨c0, x0, y0⟩ := k 0 (by decide)
  obtain ⟨c1, x1, y1⟩ := k 1 (by decide)
  obtain ⟨c2, x2, y2⟩ := k 2 (by decide)
  obtain ⟨c3, x3, y3⟩ := k 3 (by decide)
  refine ⟨c0, c1, c2, c3, x0, x1, x2, x3, fun a ha => ?_⟩
  have : a = 0 ∨ a = 1 ∨ a = 2 ∨ a = 3 := by omega
  rcases this with rfl | rfl | rfl | rfl
  · exact y0
  · exact y1
  · exact y2
  · exact y3
theorem dc_f {f : Nat → Option Nat} (h : ∀ a u, a < 4 → f a = some u → u < 4) : (∀ v, v < 4 → rgA f v 5 v = rgA f v 4 v) ∧ r4 (stM f) (r4 (stM f) (r4 (stM f) (r4 (stM f) (r4 (stR f) 0)))) = 15 ∧ r4 (stC f) (r4 (stC f) (r4 (stC f) (r4 (stC f) 0))) = 15 := by
  obtain ⟨c0, c1, c2, c3, x0, x1, x2, x3, e⟩ := dc_of h
  have a1 := List.all_eq_true.mp dc_all c0 (List.mem_range.mpr x0)
  have a2 := List.all_eq_true.mp a1 c1 (List.mem_range.mpr x1)
  have a3 := List.all_eq_true.mp a2 c2 (List.mem_range.mpr x2)
  have a4 := List.all_eq_true.mp a3 c3 (List.mem_range.mpr x3)
  unfold dcOk at a4
  rw [Bool.and_eq_true, Bool.and_eq_true, beq_iff_eq, beq_iff_eq, List.all_eq_true] at a4
  obtain ⟨⟨b1, b2⟩, b3⟩ := a4
  have hb : ∀ a u, a < 4 → dc c0 c1 c2 c3 a = some u → u < 4 := fun a u ha hu => h a u ha (by rw [e a ha]; exact hu)
  have er : ∀ n v, v < 4 → rgA f v n v = rgA (dc c0 c1 c2 c3) v n v := fun n v hv => rgA_c e hb n v hv
  have eM : ∀ m v, v < 4 → stM f m v = stM (dc c0 c1 c2 c3) m v := fun m v hv => by unfold stM; rw [e v hv]
  have eC : ∀ m v, v < 4 → stC f m v = stC (dc c0 c1 c2 c3) m v := fun m v hv => by unfold stC; rw [e v hv, er 4 v hv]
  have eR : ∀ m v, v < 4 → stR f m v = stR (dc c0 c1 c2 c3) m v := fun m v hv => by unfold stR; rw [er 4 v hv]
  have rM : ∀ m, r4 (stM f) m = r4 (stM (dc c0 c1 c2 c3)) m := fun m => by
    unfold r4
    rw [eM _ 0 (by decide), eM _ 1 (by decide), eM _ 2 (by decide), eM _ 3 (by decide)]
  have rC : ∀ m, r4 (stC f) m = r4 (stC (dc c0 c1 c2 c3)) m := fun m => by
    unfold r4
    rw [eC _ 0 (by decide), eC _ 1 (by decide), eC _ 2 (by decide), eC _ 3 (by decide)]
  have rR : ∀ m, r4 (stR f) m = r4 (stR (dc c0 c1 c2 c3)) m := fun m => by
    unfold r4
    rw [eR _ 0 (by decide), eR _ 1 (by decide), eR _ 2 (by decide), eR _ 3 (by decide)]
  refine ⟨fun v hv => ?_, ?_, ?_⟩
  · rw [er 5 v hv, er 4 v hv]
    exact eq_of_beq (b1 v (List.mem_range.mpr hv))
  · rw [rR, rM, rM, rM, rM]
    exact b2
  · rw [rC, rC, rC, rC]
    exact b3
theorem fb1 : ∀ m, m < 16 → ∀ v, v < 4 → ((nI m >>> (nI v &&& 31)) &&& (1 : Int32)) = if m.testBit v = true then 1 else 0 := by decide +kernel
theorem fb2 : ∀ m, m < 16 → ∀ v, v < 4 → nI m ||| ((1 : Int32) <<< (nI v &&& 31)) = nI (m ||| 2 ^ v) ∧ m ||| 2 ^ v < 16 := by decide +kernel
theorem fb3 : ∀ m, m < 16 → ∀ v, v < 4 → ∀ u, u < 4 → ((m ||| 2 ^ v).testBit u = true ↔ m.testBit u = true ∨ u = v) := by decide +kernel
