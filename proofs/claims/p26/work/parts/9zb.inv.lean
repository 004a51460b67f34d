/-! ===== the class at rest: what holds of its heap ===== -/
/-- the fixed cells: 0 house 1 tree 2 cascade 3 book 4 deciding 5 passed 6 needed 7 row 8 idle 9 listed 10 byStrength 11 rules -/
def FXD (A : Nat → Nat) (h : Hp) : Prop :=
  (hK h (A 0) = 9 ∧ hR h fH_tree (A 0) = some (A 1) ∧ hR h fH_cascade (A 0) = some (A 2) ∧ hR h fH_book (A 0) = some (A 3)) ∧
  (hK h (A 1) = 8 ∧ hR h fT_row (A 1) = some (A 7) ∧ hR h fT_idle (A 1) = some (A 8)) ∧
  (hK h (A 2) = 1 ∧ hR h fC_book (A 2) = some (A 3) ∧ hR h fC_listed (A 2) = some (A 9) ∧ hR h fC_deciding (A 2) = some (A 4) ∧ hR h fC_passed (A 2) = some (A 5) ∧ hR h fC_needed (A 2) = some (A 6)) ∧
  (hK h (A 3) = 7 ∧ hR h fB_rules (A 3) = some (A 11) ∧ hR h fB_byStrength (A 3) = some (A 10)) ∧
  (hK h (A 4) = 104 ∧ hL h (A 4) = 14 ∧ hK h (A 5) = 100 ∧ hL h (A 5) = 14 ∧ hK h (A 6) = 100 ∧ hL h (A 6) = 4)
/-- the lists are different ones, and so are their rows -/
def pw (x y : Nat × Nat) : Prop := x.1 ≠ y.1 ∧ (x.2 = y.2 → x.2 = 4)
def lsA (A D : Nat → Nat) (R : Nat) (Pl dP : Nat → Nat) : List (Nat × Nat) := (A 7, D 7) :: (A 8, D 8) :: (A 9, D 9) :: (A 10, D 10) :: (A 11, D 11) :: (List.range R).map (fun r => (Pl r, dP r))
def LSS (A D : Nat → Nat) (h : Hp) (R : Nat) (Pl dP : Nat → Nat) (es is ss rs : List Nat) : Prop :=
  AL h (A 7) (D 7) es ∧ AL h (A 8) (D 8) is ∧ ((∃ xs, AL h (A 9) (D 9) xs) ∧ CP h (D 9)) ∧ AL h (A 10) (D 10) ss ∧ AL h (A 11) (D 11) rs ∧ (lsA A D R Pl dP).Pairwise pw
/-- the looks and the rows of them -/
def lks (h : Hp) (El : List Nat) : List Nat := El.map (frs h) ++ El.map (kpt h)
def ars (A : Nat → Nat) (h : Hp) (El : List Nat) : List Nat := A 5 :: A 6 :: ((lks h El).map (vls h) ++ (lks h El).map (scs h))
def ELS (A : Nat → Nat) (m : Nat) (h : Hp) (El : List Nat) : Prop := El.Nodup ∧ (∀ e, e ∈ El → EW h e) ∧ (lks h El).Nodup ∧ (ars A h El).Nodup ∧ ∀ a, a ∈ ars A h El → a < m ∨ m + 33 < a
/-- the next one of the same parent -/
def nxS (S : MM) (n e : Nat) : Option Nat := match par S e with
  | none => none
  | some p => (List.range' (e + 1) (n - (e + 1))).find? (fun c => decide (par S c = some p))
/-- what is told of the elements -/
def TEL (S : MM) (n : Nat) (h : Hp) (Ee : Nat → Nat) : Prop := inj n Ee ∧ ∀ e, e < n → (hI h fE_number (Ee e) = S 4 e ∧ hI h fE_tag (Ee e) = S 6 e ∧ hI h fE_classes (Ee e) = S 7 e ∧ hI h fE_words (Ee e) = S 8 e ∧ hI h fE_isContainer (Ee e) = S 9 e) ∧
  hR h fE_parent (Ee e) = (par S e).map Ee ∧ hR h fE_ahead (Ee e) = (ahS S e e).map Ee ∧ hR h fE_next (Ee e) = (nxS S n e).map Ee ∧ hR h fE_first (Ee e) = ((chl S n e).head?).map Ee ∧ hR h fE_last (Ee e) = ((chl S n e).getLast?).map Ee
/-- what is told of a rule -/
def TR1 (S : MM) (h : Hp) (ra : Nat → Nat) (pa : Nat → Nat → Nat) (Dd : Nat → Nat) (Pl dP : Nat → Nat) (r : Nat) : Prop :=
  (hI h fU_least (ra r) = S 19 r ∧ hI h fU_group (ra r) = gS S r ∧ hI h fU_number (ra r) = nI r ∧ hI h fU_weightInAll (ra r) = wS S r ∧ hI h fU_declarationCount (ra r) = nI (cn (dclS S r) 14)) ∧
  (hR h fU_parts (ra r) = some (Pl r) ∧ AL h (Pl r) (dP r) ((List.range (tn (S 11 r))).map (pa r))) ∧
  (∀ k, k < tn (S 11 r) → hK h (pa r k) = 5 ∧ hI h fP_tag (pa r k) = S 13 (3 * r + k) ∧ hI h fP_has (pa r k) = S 14 (3 * r + k) ∧ hI h fP_lacks (pa r k) = S 15 (3 * r + k) ∧ (0 < k → hI h fP_way (pa r k) = S 12 (3 * r + k))) ∧
  UD h (ra r) (Dd r) ∧ ∀ p, p < 14 → (∀ d, hQ h (Dd r) p = some d → hK h d = 2) ∧ DR S h (14 * r + p) (hQ h (Dd r) p)
def TRL (S : MM) (R : Nat) (h : Hp) (ra : Nat → Nat) (pa : Nat → Nat → Nat) (Dd : Nat → Nat) (Pl dP : Nat → Nat) : Prop := inj R ra ∧ inj R Dd ∧ ∀ r, r < R → TR1 S h ra pa Dd Pl dP r
/-- the rules by strength -/
def SSo (S : MM) (R : Nat) (ra : Nat → Nat) (ss : List Nat) : Prop := ∃ xs : List Nat, ss = xs.map ra ∧ (∀ r, r ∈ xs ↔ r < R) ∧ xs.Pairwise (fun a b => stB S a b = true) ∧ xs.length ≤ 16
/-- what is told in the heap: all of it -/
def TLD (A D : Nat → Nat) (m : Nat) (h : Hp) (S : MM) (n R : Nat) (Ee : Nat → Nat) (is ss : List Nat) (ra : Nat → Nat) (pa : Nat → Nat → Nat) (Dd Pl dP : Nat → Nat) : Prop :=
  Good h ∧ FXD A h ∧ LSS A D h R Pl dP ((List.range n).map Ee) is ss ((List.range R).map ra) ∧ ELS A m h ((List.range n).map Ee ++ is) ∧ TEL S n h Ee ∧ TRL S R h ra pa Dd Pl dP ∧ SSo S R ra ss ∧ hI h fT_nextNumber (A 1) = S 2 0 ∧ hI h fH_windowWidth (A 0) = S 1 0
/-- the ranges of what is told -/
def TNR (S : MM) (n R : Nat) : Prop := TOLD S n R ∧ NI S n ∧ (∀ e, e < n → S 9 e = 0 ∨ S 9 e = 1) ∧ (0 ≤ S 1 0 ∧ S 1 0 ≤ 2000) ∧ ∀ r, r < R → S 19 r = -1 ∨ 0 ≤ S 19 r
/-! the world of the fresh looks -/
def wlO (S : MM) (n f e : Nat) : Option Nat := if f = 197 then par S e else if f = 198 then ahS S e e else if f = 199 then nxS S n e else if f = 200 then (chl S n e).head? else (chl S n e).getLast?
def wiO (S : MM) (f e : Nat) : Int32 := if f = 192 then S 4 e else if f = 193 then S 6 e else if f = 194 then S 7 e else if f = 195 then S 8 e else S 9 e
def wO (S : MM) (n : Nat) (h : Hp) (Ee : Nat → Nat) : WZ := (n, Ee, fun e => frs h (Ee e), fun e => vls h (frs h (Ee e)), fun e => scs h (frs h (Ee e)), wlO S n, wiO S)
theorem find_flt {P : Nat → Bool} {w : WZ} {q : Nat → Option Nat} : ∀ (m k : Nat), (∀ c, P c = true → k ≤ c → c < k + m → wl w 199 c = (List.range' (c + 1) (k + m - (c + 1))).find? P) → chn w ((List.range' k m).find? P) ((List.range' k m).filter P)
  | 0, k, _ => rfl
  | m + 1, k, h => by
    rw [List.range'_succ, List.find?_cons, List.filter_cons]
    have ih := find_flt (q := q) (P := P) (w := w) m (k + 1) (fun c hc h1 h2 => by
      rw [h c hc (by omega) (by omega), show k + (m + 1) = k + 1 + m by omega])
    cases hp : P k with
    | true =>
      rw [if_pos rfl]
      refine ⟨rfl, ?_⟩
      rw [h k hp (Nat.le_refl k) (by omega), show k + (m + 1) - (k + 1) = m by omega]
      exact ih
    | false =>
      rw [if_neg (fun z => Bool.noConfusion z)]
      exact ih
theorem head_flt {P : Nat → Bool} : ∀ (xs : List Nat), (xs.filter P).head? = xs.find? P
  | [] => rfl
  | x :: xs => by
    rw [List.filter_cons, List.find?_cons]
    cases P x with
    | true => rfl
    | false => exact head_flt xs
theorem chn_ch {S : MM} {n : Nat} {h : Hp} {Ee : Nat → Nat} (k : Nat) : chn (wO S n h Ee) (wl (wO S n h Ee) 200 k) (chl S n k) := by
  have e1 : wl (wO S n h Ee) 200 k = (List.range' 0 n).find? (fun c => decide (par S c = some k)) := by
    show (chl S n k).head? = _
    unfold chl
    rw [head_flt, List.range_eq_range']
  rw [e1]
  unfold chl
  rw [List.range_eq_range']
  refine find_flt (q := fun _ => none) n 0 (fun c hc _ h2 => ?_)
  show nxS S n c = _
  unfold nxS
  rw [of_decide_eq_true hc, Nat.zero_add]
