/-! ===== the row told, as declarations ===== -/
def E0 (x : Int32) : Int32 := if x = 0 then 0 else dkk (tn x - 1)
def E1 (p : Nat) (x : Int32) : Int32 := if x = 0 then 0 else dvv p (tn x - 1)
def E2 (x : Int32) : Int32 := if x = 0 then 0 else dff (tn x - 1)
def D0 (g : Nat → Int32) (i : Nat) : Int32 := if i / 14 < 6 ∧ i % 14 < 10 then E0 (g (10 * (i / 14) + i % 14)) else 0
def D1 (g : Nat → Int32) (i : Nat) : Int32 := if i / 14 < 6 ∧ i % 14 < 10 then E1 (i % 14) (g (10 * (i / 14) + i % 14)) else 0
def D2 (g : Nat → Int32) (i : Nat) : Int32 := if i / 14 < 6 ∧ i % 14 < 10 then E2 (g (10 * (i / 14) + i % 14)) else 0
theorem nI_s0 {t : Nat} (ht : t < 3000) : ¬ nI (t + 1) = 0 := fun z => by
  have := (nI_eq (b := 0) (by omega) (by decide)).mp z
  omega
theorem E_t {t p : Nat} (ht : t < 3000) : E0 (nI (t + 1)) = dkk t ∧ E1 p (nI (t + 1)) = dvv p t ∧ E2 (nI (t + 1)) = dff t := by
  have e : tn (nI (t + 1)) - 1 = t := by
    rw [tn_nI (by omega)]
    omega
  refine ⟨?_, ?_, ?_⟩
  · unfold E0
    rw [if_neg (nI_s0 ht), e]
  · unfold E1
    rw [if_neg (nI_s0 ht), e]
  · unfold E2
    rw [if_neg (nI_s0 ht), e]
theorem dkk_0 (t : Nat) : ¬ dkk t = 0 := by
  unfold dkk
  split
  · decide
  · split <;> decide
theorem E0_0 {x : Int32} : E0 x = 0 ↔ x = 0 := by
  unfold E0
  by_cases q : x = 0
  · rw [if_pos q]
    exact ⟨fun _ => q, fun _ => rfl⟩
  · rw [if_neg q]
    exact ⟨fun z => absurd z (dkk_0 _), fun z => absurd z q⟩
theorem D_i {r p : Nat} (hr : r < 6) (hp : p < 10) : (14 * r + p) / 14 < 6 ∧ (14 * r + p) % 14 < 10 ∧ 10 * ((14 * r + p) / 14) + (14 * r + p) % 14 = 10 * r + p ∧ (14 * r + p) % 14 = p := by omega
theorem D_up {g : Nat → Int32} {r p t : Nat} (hr : r < 6) (hp : p < 10) (ht : t < 3000) : va_up (D0 g) (14 * r + p) (dkk t) = D0 (va_up g (10 * r + p) (nI (t + 1))) ∧ va_up (D1 g) (14 * r + p) (dvv p t) = D1 (va_up g (10 * r + p) (nI (t + 1))) ∧ va_up (D2 g) (14 * r + p) (dff t) = D2 (va_up g (10 * r + p) (nI (t + 1))) := by
  obtain ⟨i1, i2, i3, i4⟩ := D_i hr hp
  obtain ⟨e0, e1, e2⟩ := E_t (p := p) ht
  have ne : ∀ i, i ≠ 14 * r + p → i / 14 < 6 ∧ i % 14 < 10 → 10 * (i / 14) + i % 14 ≠ 10 * r + p := fun i h z => by omega
  refine ⟨funext fun i => ?_, funext fun i => ?_, funext fun i => ?_⟩
  · by_cases q : i = 14 * r + p
    · rw [q, va_up_self]
      unfold D0
      rw [if_pos ⟨i1, i2⟩, i3, va_up_self, e0]
    · rw [va_up_ne _ _ q]
      unfold D0
      by_cases z : i / 14 < 6 ∧ i % 14 < 10
      · rw [if_pos z, if_pos z, va_up_ne _ _ (ne i q z)]
      · rw [if_neg z, if_neg z]
  · by_cases q : i = 14 * r + p
    · rw [q, va_up_self]
      unfold D1
      rw [if_pos ⟨i1, i2⟩, i3, i4, va_up_self, e1]
    · rw [va_up_ne _ _ q]
      unfold D1
      by_cases z : i / 14 < 6 ∧ i % 14 < 10
      · rw [if_pos z, if_pos z, va_up_ne _ _ (ne i q z)]
      · rw [if_neg z, if_neg z]
  · by_cases q : i = 14 * r + p
    · rw [q, va_up_self]
      unfold D2
      rw [if_pos ⟨i1, i2⟩, i3, va_up_self, e2]
    · rw [va_up_ne _ _ q]
      unfold D2
      by_cases z : i / 14 < 6 ∧ i % 14 < 10
      · rw [if_pos z, if_pos z, va_up_ne _ _ (ne i q z)]
      · rw [if_neg z, if_neg z]
/-- how many properties a rule would declare, with p -/
def Qp (g : Nat → Int32) (r p j : Nat) : Bool := decide (j = p) || !(decide (g (10 * r + j) = 0))
def cg (g : Nat → Int32) (r p : Nat) : Nat := cn (Qp g r p) 10
theorem cn_le2 {P Q : Nat → Bool} : ∀ k, (∀ e, e < k → P e = true → Q e = true) → cn P k ≤ cn Q k
  | 0, _ => Nat.le_refl _
  | k + 1, h => by
    have ih := cn_le2 (P := P) (Q := Q) k (fun e he => h e (by omega))
    rw [cn_s, cn_s]
    by_cases q : P k = true
    · rw [if_pos q, if_pos (h k (by omega) q)]
      omega
    · rw [if_neg q]
      omega
theorem cntD_cg {G : Gl} {n R : Nat} {w : Int32} {cl wo ho aq d1 d2 g : Nat → Int32} {S : MM} (T : TG (CT G n R w cl wo ho aq (D0 g) d1 d2) S) {r p : Nat} (hr : r < 6) (hp : p < 10) : cntD S r p = cg g r p := by
  have e20 : ∀ i, S 20 i = D0 g i := fun i => by
    rw [T 20 (by decide) (by decide)]
    rfl
  have lo : ∀ j, j < 10 → dclS S r j = !(decide (g (10 * r + j) = 0)) := fun j hj => by
    obtain ⟨i1, i2, i3, i4⟩ := D_i hr hj
    unfold dclS
    rw [e20]
    unfold D0
    rw [if_pos ⟨i1, i2⟩, i3]
    congr 1
    exact decide_eq_decide.mpr E0_0
  have hi : ∀ j, 10 ≤ j → j < 14 → dclS S r j = false := fun j h1 h2 => by
    unfold dclS
    rw [e20]
    unfold D0
    rw [if_neg (by omega)]
    rfl
  have hpn : p ≠ 14 := by omega
  have up := cn_up (P := dclS S r) (Q := fun j => decide (j = p) || dclS S r j) (p := p) (fun i h => by
    show (decide (i = p) || dclS S r i) = dclS S r i
    rw [decide_eq_false h]
    rfl) (by
    show (decide (p = p) || dclS S r p) = true
    rw [decide_eq_true rfl]
    rfl) 14
  have z : ∀ j, 10 ≤ j → j < 14 → (decide (j = p) || dclS S r j) = false := fun j h1 h2 => by
    rw [decide_eq_false (show ¬ j = p by omega), hi j h1 h2]
    rfl
  have s14 : cn (fun j => decide (j = p) || dclS S r j) 14 = cn (fun j => decide (j = p) || dclS S r j) 10 := by
    rw [cn_s (k := 13), cn_s (k := 12), cn_s (k := 11), cn_s (k := 10), z 10 (by omega) (by omega), z 11 (by omega) (by omega), z 12 (by omega) (by omega), z 13 (by omega) (by omega)]
    rfl
  have s10 : cn (fun j => decide (j = p) || dclS S r j) 10 = cg g r p := cn_c 10 (fun j hj => by
    show (decide (j = p) || dclS S r j) = Qp g r p j
    rw [lo j hj]
    rfl)
  unfold cntD
  have e3 : (if p = 14 ∧ dclS S r 4 = false then 1 else 0) = 0 := if_neg (fun y => hpn y.1)
  rw [show dlo p = p from if_neg hpn, e3]
  rw [s14, s10] at up
  rw [up]
  cases dclS S r p with
  | true =>
    rw [show (if p < 14 ∧ true = false then 1 else 0) = 0 from if_neg (fun y => Bool.noConfusion y.2)]
    rfl
  | false =>
    rw [show (if p < 14 ∧ false = false then 1 else 0) = 1 from if_pos ⟨by omega, rfl⟩]
    rfl
/-- how many properties a rule declares -/
def ca (g : Nat → Int32) (r : Nat) : Nat := cn (fun j => !(decide (g (10 * r + j) = 0))) 10
theorem ca_up {g : Nat → Int32} {r p : Nat} {v : Int32} (hv : ¬ v = 0) : ca (va_up g (10 * r + p) v) r = cg g r p := by
  unfold ca cg
  refine cn_c 10 (fun j hj => ?_)
  unfold Qp
  by_cases q : j = p
  · rw [q, va_up_self, decide_eq_false hv, decide_eq_true rfl]
    rfl
  · rw [va_up_ne _ _ (by omega), decide_eq_false q]
    rfl
theorem ca_ne {g : Nat → Int32} {r r' p : Nat} {v : Int32} (hp : p < 10) (h : r' ≠ r) : ca (va_up g (10 * r + p) v) r' = ca g r' := by
  unfold ca
  refine cn_c 10 (fun j hj => ?_)
  rw [va_up_ne _ _ (by omega)]
theorem cg_1 {g : Nat → Int32} {r p : Nat} (hp : p < 10) : 1 ≤ cg g r p := by
  have := cn_lt (P := Qp g r p) (n := 10) (e := p) hp (by
    unfold Qp
    rw [decide_eq_true rfl]
    rfl)
  unfold cg
  omega
theorem cg_10 {g : Nat → Int32} {r p k : Nat} : cn (Qp g r p) k ≤ k := by
  induction k with
  | zero => exact Nat.le_refl _
  | succ k ih =>
    rw [cn_s]
    split <;> omega
/-- what is told of a rule up to now: of the rules ahead all, of this one from j on -/
def gR (ft : Nat → Int32) (r j : Nat) (q : Nat) : Int32 := if q / 10 < r ∨ (q / 10 = r ∧ j ≤ q % 10) then ft q else 0
theorem gR_s {ft : Nat → Int32} {r j : Nat} (hj : j < 10) : va_up (gR ft r (j + 1)) (10 * r + j) (ft (10 * r + j)) = gR ft r j := funext fun q => by
  by_cases z : q = 10 * r + j
  · rw [z, va_up_self]
    unfold gR
    rw [if_pos (by omega)]
  · rw [va_up_ne _ _ z]
    unfold gR
    by_cases y : q / 10 < r ∨ (q / 10 = r ∧ j + 1 ≤ q % 10)
    · rw [if_pos y, if_pos (by omega)]
    · rw [if_neg y, if_neg (by omega)]
theorem gR_k {ft : Nat → Int32} {r j : Nat} (hj : j < 10) (h : ft (10 * r + j) = 0) : gR ft r (j + 1) = gR ft r j := by
  rw [← gR_s hj, h]
  funext q
  by_cases z : q = 10 * r + j
  · rw [z, va_up_self]
    unfold gR
    exact if_neg (by omega)
  · rw [va_up_ne _ _ z]
theorem gR_r (ft : Nat → Int32) (r : Nat) : gR ft r 0 = gR ft (r + 1) 10 := funext fun q => by
  unfold gR
  by_cases y : q / 10 < r ∨ (q / 10 = r ∧ 0 ≤ q % 10)
  · rw [if_pos y, if_pos (by omega)]
  · rw [if_neg y, if_neg (by omega)]
theorem gR_0 (ft : Nat → Int32) : gR ft 0 10 = fun _ => 0 := funext fun q => by
  unfold gR
  exact if_neg (by omega)
theorem gR_6 {ft : Nat → Int32} : D0 (gR ft 6 10) = D0 ft ∧ D1 (gR ft 6 10) = D1 ft ∧ D2 (gR ft 6 10) = D2 ft := by
  have e : ∀ i, i / 14 < 6 ∧ i % 14 < 10 → gR ft 6 10 (10 * (i / 14) + i % 14) = ft (10 * (i / 14) + i % 14) := fun i h => by
    unfold gR
    exact if_pos (by omega)
  refine ⟨funext fun i => ?_, funext fun i => ?_, funext fun i => ?_⟩
  · unfold D0
    by_cases z : i / 14 < 6 ∧ i % 14 < 10
    · rw [if_pos z, if_pos z, e i z]
    · rw [if_neg z, if_neg z]
  · unfold D1
    by_cases z : i / 14 < 6 ∧ i % 14 < 10
    · rw [if_pos z, if_pos z, e i z]
    · rw [if_neg z, if_neg z]
  · unfold D2
    by_cases z : i / 14 < 6 ∧ i % 14 < 10
    · rw [if_pos z, if_pos z, e i z]
    · rw [if_neg z, if_neg z]
theorem gR_ne {ft : Nat → Int32} {r j q : Nat} (h : ¬ gR ft r j q = 0) : ¬ ft q = 0 := fun z => h (by
  unfold gR
  split
  · exact z
  · rfl)
theorem cg_R {ft : Nat → Int32} {r j : Nat} (h : ¬ ft (10 * r + j) = 0) : cg (gR ft r (j + 1)) r j ≤ ca ft r := by
  refine cn_le2 10 (fun e he hq => ?_)
  show (!(decide (ft (10 * r + e) = 0))) = true
  unfold Qp at hq
  by_cases q : e = j
  · rw [q, decide_eq_false h]
    rfl
  · rw [decide_eq_false q] at hq
    have hq : (!(decide (gR ft r (j + 1) (10 * r + e) = 0))) = true := hq
    rw [decide_eq_false (gR_ne (fun z => by
      rw [decide_eq_true z] at hq
      exact Bool.noConfusion hq))]
    rfl
theorem D_0 : D0 (fun _ => 0) = (fun _ => 0) ∧ D1 (fun _ => 0) = (fun _ => 0) ∧ D2 (fun _ => 0) = (fun _ => 0) := by
  refine ⟨funext fun i => ?_, funext fun i => ?_, funext fun i => ?_⟩
  · unfold D0
    split <;> rfl
  · unfold D1
    split <;> rfl
  · unfold D2
    split <;> rfl
/-! the ranges of the law's rows -/
def RG (w : Int32) (fd fw fh fa ft : Nat → Int32) : Prop := (∃ c, c ≤ 2000 ∧ w = nI c) ∧ (∀ e, ∃ c, c < 16 ∧ fd e = nI c) ∧ (∀ e, 10 ≤ e → fd e = 0) ∧ (∀ e, fw e = 0 ∨ ∃ wd, 0 < wd ∧ wd < 100 ∧ fw e = nI wd ∧ ¬ 0 ∈ dg 8 wd) ∧ (∀ e, 10 ≤ e → fw e = 0) ∧ (∀ e, fh e = 0 ∨ fh e = 1) ∧ (∀ e, 10 ≤ e → fh e = 0) ∧ (∀ r, r < 6 → ∃ x, x < 80 ∧ fa r = nI x - 1) ∧ (∀ r, 6 ≤ r → fa r = 0) ∧ (∀ q, ft q = 0 ∨ ∃ t, t < 3000 ∧ ft q = nI (t + 1)) ∧ ∀ r, r < 6 → ca ft r ≤ 6
theorem c255 {c : Nat} (h : c < 16) : ¬ (nI c < 0 ∨ 255 < nI c) := fun z => z.elim (nI_pos (by omega)) (fun y => absurd (show nI 255 < nI c from y) (nI_nlt (by omega) (by decide)))
theorem c2000 {c : Nat} (h : c ≤ 2000) : ¬ (nI c < 0 ∨ 2000 < nI c) := fun z => z.elim (nI_pos (by omega)) (fun y => absurd (show nI 2000 < nI c from y) (nI_nlt (by omega) (by decide)))
theorem c5 {c : Nat} (h : c < 6) : ¬ (nI c < 0 ∨ 5 < nI c) := fun z => z.elim (nI_pos (by omega)) (fun y => absurd (show nI 5 < nI c from y) (nI_nlt (by omega) (by decide)))
theorem xm1 {x : Nat} (h : x < 80) : ¬ (nI x - 1 < -1 ∨ 2000 < nI x - 1) := by
  have e1 : (nI x - 1).toInt = (x : Int) - 1 := pk_sub_toInt (a := x) (b := 1) (by omega) (by decide)
  rintro (z | z)
  · have := Int32.lt_iff_toInt_lt.mp z
    rw [e1, show (-1 : Int32).toInt = -1 from rfl] at this
    omega
  · have := Int32.lt_iff_toInt_lt.mp z
    rw [e1, show (2000 : Int32).toInt = 2000 from rfl] at this
    omega
theorem va_n {f : Nat → Int32} {i : Nat} {v : Int32} {P : Int32 → Prop} (hf : ∀ j, P (f j)) (hv : P v) : ∀ j, P (va_up f i v j) := fun j => by
  by_cases q : j = i
  · rw [q, va_up_self]
    exact hv
  · rw [va_up_ne _ _ q]
    exact hf j
theorem va_h {f : Nat → Int32} {i n : Nat} {v : Int32} (hi : i < n) (hf : ∀ j, n ≤ j → f j = 0) : ∀ j, n ≤ j → va_up f i v j = 0 := fun j hj => by
  rw [va_up_ne _ _ (by omega)]
  exact hf j hj
