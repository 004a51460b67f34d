/-! ===== the model's functions: which rule is stronger, by the group ===== -/
/-- what the model says where origin, layer or importance differ -/
def stG (b1 o1 y1 b2 o2 y2 : Int32) : Int32 := if b1 = b2 then (if o1 = o2 then (if (if y1 ≤ y2 then (0 : Int32) else 1) = b1 then 0 else 1) else (if o1 = (if b1 = 0 then (1 : Int32) else 0) then 1 else 0)) else b1
def grpOk (o1 y1 b1 o2 y2 b2 : Nat) : Bool :=
  decide (gpO (nI o1) (nI y1) (nI b1) = gpO (nI o2) (nI y2) (nI b2) ↔ o1 = o2 ∧ y1 = y2 ∧ b1 = b2) &&
  (decide (o1 = o2 ∧ y1 = y2 ∧ b1 = b2) || decide (stG (nI b1) (nI o1) (nI y1) (nI b2) (nI o2) (nI y2) = if gpO (nI o2) (nI y2) (nI b2) < gpO (nI o1) (nI y1) (nI b1) then 1 else 0))
theorem grp_chk : ((List.range 2).all fun o1 => (List.range 3).all fun y1 => (List.range 2).all fun b1 => (List.range 2).all fun o2 => (List.range 3).all fun y2 => (List.range 2).all fun b2 => grpOk o1 y1 b1 o2 y2 b2) = true := by decide +kernel
theorem grp_all {o1 y1 b1 o2 y2 b2 : Nat} (h1 : o1 < 2) (h2 : y1 < 3) (h3 : b1 < 2) (h4 : o2 < 2) (h5 : y2 < 3) (h6 : b2 < 2) :
    (gpO (nI o1) (nI y1) (nI b1) = gpO (nI o2) (nI y2) (nI b2) ↔ o1 = o2 ∧ y1 = y2 ∧ b1 = b2) ∧
    (¬ (o1 = o2 ∧ y1 = y2 ∧ b1 = b2) → stG (nI b1) (nI o1) (nI y1) (nI b2) (nI o2) (nI y2) = if gpO (nI o2) (nI y2) (nI b2) < gpO (nI o1) (nI y1) (nI b1) then 1 else 0) := by
  have a1 := List.all_eq_true.mp grp_chk o1 (List.mem_range.mpr h1)
  have a2 := List.all_eq_true.mp a1 y1 (List.mem_range.mpr h2)
  have a3 := List.all_eq_true.mp a2 b1 (List.mem_range.mpr h3)
  have a4 := List.all_eq_true.mp a3 o2 (List.mem_range.mpr h4)
  have a5 := List.all_eq_true.mp a4 y2 (List.mem_range.mpr h5)
  have a6 := List.all_eq_true.mp a5 b2 (List.mem_range.mpr h6)
  unfold grpOk at a6
  rw [Bool.and_eq_true, Bool.or_eq_true, decide_eq_true_iff, decide_eq_true_iff, decide_eq_true_iff] at a6
  exact ⟨a6.1, fun q => a6.2.resolve_left q⟩
