/-! ===== the exceptions that the house throws ===== -/
def jThr : List Nat := [12, 39, 40, 41, 42, 43, 44, 59, 60, 61, 67, 79, 99, 105, 259, 260, 261, 295, 310, 558, 559, 560, 573, 574, 575, 576, 577, 578, 579, 580, 581, 582, 583, 584, 585, 586, 587, 588, 589, 590, 591, 592, 593, 594, 595, 596, 597, 598, 599, 600, 601, 602, 603, 604, 605, 606, 607, 608, 609, 610, 611, 612, 613, 615, 616, 617, 618, 619, 620, 621, 622, 623, 624, 625, 626, 627, 628, 629, 630, 631, 632, 633, 634, 635, 636, 637, 638, 639, 644, 645, 646, 647, 648, 649, 650, 651, 652, 654, 655, 656, 657, 658, 659, 660, 661, 662, 663, 664, 665, 666, 667, 668, 670, 671, 672, 673, 674, 675, 749, 796, 809, 976, 1000, 1007, 1032, 1055, 1158, 1215, 1233, 1234, 1235, 1239]
def wThr : List Cond := jThr.filterMap (fun j => lw_tbl[j]?)
theorem wThr_mem {w : Cond} (h : w ∈ wThr) : w ∈ lw_tbl := by
  obtain ⟨j, -, hj⟩ := List.mem_filterMap.mp h
  exact List.mem_of_getElem? hj
def dcW (w : Cond) : Bool := dcL.any (fun Y => decide (w = .declares ⟨Y, "<init>", "(Ljava/lang/String;)V"⟩))
theorem thr_of {own cls : String} {ic : Nat} (h : (vx_atS own ic cls xN).all (fun w => (decide (w ∈ wThr) && goodWord w) || decide (w = .castable cls cls) || dcW w) = true) : ∀ w ∈ vx_atS own ic cls xN, Wk w ∨ w = .castable cls cls ∨ ∃ Y, Y ∈ dcL ∧ w = .declares ⟨Y, "<init>", "(Ljava/lang/String;)V"⟩ := fun w hw => by
  have := List.all_eq_true.mp h w hw
  rw [Bool.or_eq_true, Bool.or_eq_true, Bool.and_eq_true, decide_eq_true_iff, decide_eq_true_iff] at this
  rcases this with (q | q) | q
  · exact Or.inl ⟨wThr_mem q.1, q.2⟩
  · exact Or.inr (Or.inl q)
  · obtain ⟨Y, hY, e⟩ := List.any_eq_true.mp q
    exact Or.inr (Or.inr ⟨Y, hY, decide_eq_true_iff.mp e⟩)
theorem at_I : ∀ w ∈ vx_atS RX11 211 xI xN, Wk w ∨ w = .castable xI xI ∨ ∃ Y, Y ∈ dcL ∧ w = .declares ⟨Y, "<init>", "(Ljava/lang/String;)V"⟩ := thr_of (by decide +kernel)
theorem at_A : ∀ w ∈ vx_atS RX11 95 xA xN, Wk w ∨ w = .castable xA xA ∨ ∃ Y, Y ∈ dcL ∧ w = .declares ⟨Y, "<init>", "(Ljava/lang/String;)V"⟩ := thr_of (by decide +kernel)
theorem at_S : ∀ w ∈ vx_atS RX11 59 xS xN, Wk w ∨ w = .castable xS xS ∨ ∃ Y, Y ∈ dcL ∧ w = .declares ⟨Y, "<init>", "(Ljava/lang/String;)V"⟩ := thr_of (by decide +kernel)
