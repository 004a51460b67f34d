/-! ===== the model's <init> ===== -/
def aFk (j : Nat) : Nat := ([4, 5, 6, 7, 8, 9, 11, 12, 13, 14, 15, 16, 17, 18, 19, 20, 21, 22, 23, 24, 25, 26, 27, 28, 30, 31, 32, 34, 35, 36, 37, 38, 39] : List Nat).getD j 0
def aLn (j : Nat) : Nat := ([24, 24, 24, 24, 24, 24, 16, 48, 48, 48, 48, 16, 16, 16, 16, 224, 224, 224, 336, 336, 96, 24, 24, 24, 24, 336, 96, 24, 24, 16, 4, 24, 24] : List Nat).getD j 0
def aKd (j : Nat) : Nat := ([100, 100, 100, 100, 100, 101, 100, 100, 100, 100, 100, 100, 100, 101, 100, 100, 100, 100, 100, 100, 100, 100, 100, 101, 100, 100, 100, 100, 101, 101, 100, 100, 101] : List Nat).getD j 0
theorem aFk_ok : ∀ j, j < 33 → marr (aFk j) = true ∧ mad (aFk j) = j + 1 ∧ mln (aFk j) = aLn j ∧ (if mbo (aFk j) = true then 101 else 100) = aKd j := by decide
theorem aFk_of {k : Nat} (h : marr k = true) : ∃ j, j < 33 ∧ aFk j = k := by
  have h1 := mad_ok h
  refine ⟨mad k - 1, by omega, ?_⟩
  have := (aFk_ok (mad k - 1) (by omega)).2.1
  have e : mad (aFk (mad k - 1)) = mad k := by omega
  have h2 := (mad_ok (aFk_ok (mad k - 1) (by omega)).1).2.2
  rw [e, h1.2.2] at h2
  exact h2.symm
/-- the model's memory at first: window 100, one element, the next number 1 -/
def mm0 : MM := u2 (u2 (u2 (fun _ _ => 0) 1 0 100) 2 0 1) 3 0 1
theorem pm_id {m : Nat} {h : Hp} {S : MM} (h1 : ∀ k, msc k = true → hI h (640 + k) m = S k 0) (h2 : ∀ k, marr k = true → hA h (m + mad k) = S k) : pm m h S = h := by
  have eI : (fun f a => if a = m ∧ 640 ≤ f ∧ msc (f - 640) = true then S (f - 640) 0 else hI h f a) = hI h := by
    funext f a
    by_cases q : a = m ∧ 640 ≤ f ∧ msc (f - 640) = true
    · rw [if_pos q]
      have := h1 (f - 640) q.2.2
      rw [show 640 + (f - 640) = f by omega] at this
      rw [q.1]
      exact this.symm
    · rw [if_neg q]
  have eA : (fun a j => if m < a ∧ a ≤ m + 33 then S (mof (a - m)) j else hA h a j) = hA h := by
    funext a j
    by_cases q : m < a ∧ a ≤ m + 33
    · rw [if_pos q]
      have hm := mof_ok (d := a - m) (by omega) (by omega)
      have ha : marr (mof (a - m)) = true := by
        have : ∀ d, d < 34 → 0 < d → marr (mof d) = true := by decide
        exact this (a - m) (by omega) (by omega)
      have := h2 (mof (a - m)) ha
      rw [hm.1, show m + (a - m) = a by omega] at this
      rw [this]
    · rw [if_neg q]
  show (hN h, hK h, hL h, (fun f a => if a = m ∧ 640 ≤ f ∧ msc (f - 640) = true then S (f - 640) 0 else hI h f a), hR h, (fun a j => if m < a ∧ a ≤ m + 33 then S (mof (a - m)) j else hA h a j), hQ h, hW h) = h
  rw [eI, eA]
  rfl
theorem tn_nI {a : Nat} (h : a < 2 ^ 31) : tn (nI a) = a := by
  unfold tn
  rw [nI_toInt h]
  rfl
theorem ix_nI {a n : Nat} (h : a < n) (h31 : a < 2 ^ 31) : ix (nI a) n := ⟨by rw [tn_nI h31], by rw [tn_nI h31]; exact h⟩
theorem ix_0 {n : Nat} (h : 0 < n) : ix (0 : Int32) n := by
  rw [← nI_0]
  exact ix_nI h (by decide)
theorem tn_0 : tn (0 : Int32) = 0 := by
  rw [← nI_0]
  exact tn_nI (by decide)