/-! ===== the model's calls that change what is told: those of one element, the window, ask ===== -/
def plc (S : MM) (n : Nat) (x : Int32) : Option Nat := (List.range n).find? (fun k => S 4 k = x)
def plI (o : Option Nat) : Int32 := match o with
  | some k => nI k
  | none => -1
theorem placeOf_p {S : MM} {n : Nat} (h : TS S n) (x : Int32) : m_placeOf S x = some (plI (plc S n x)) := by
  rw [placeOf_s h]
  unfold plI plc
  cases (List.range n).find? (fun k => S 4 k = x) <;> rfl
theorem plc_lt {S : MM} {n p : Nat} {x : Int32} (h : plc S n x = some p) : p < n ∧ S 4 p = x := by
  unfold plc at h
  have h1 := List.mem_of_find?_eq_some h
  have h2 := List.find?_some h
  exact ⟨List.mem_range.mp h1, by simpa using h2⟩
def c1 (a : Int32) : Int32 := if a = 0 then 1 else 0
def c2 (a b : Int32) : Int32 := if a = 0 then 1 else if b = 0 then 2 else 0
def c3 (a b c : Int32) : Int32 := if a = 0 then 1 else if b = 0 then 2 else if c = 0 then 3 else 0
theorem asked_s {S : MM} {a : Int32} (h : a = 0 ∨ a = 1) : m_asked S a = some (a, u2 S 0 0 (c1 a)) := by
  unfold m_asked c1
  rw [bnd_s, bnd_s, if_pos h]
theorem asked1_s {S : MM} {a b : Int32} : m_asked_ S a b = some (if c2 a b = 0 then 1 else 0, u2 S 0 0 (c2 a b)) := by
  unfold m_asked_ c2
  rw [bnd_s, bnd_s, u2_self]
theorem asked2_s {S : MM} {a b c : Int32} : m_asked__ S a b c = some (if c3 a b c = 0 then 1 else 0, u2 S 0 0 (c3 a b c)) := by
  unfold m_asked__ c3
  rw [bnd_s, bnd_s, u2_self]
/-- what the model keeps ahead of a change -/
def KF (S Sk : MM) (n : Nat) : Prop := Sk 29 0 = nI n ∧ (∀ e, e < n → Sk 30 e = S 4 e) ∧ (∀ i, i < 14 * n → Sk 31 i = S 23 i) ∧ (∀ i, i < 4 * n → Sk 32 i = S 25 i) ∧ Sk 0 0 = 0 ∧ ∀ k, k ≠ 0 → k ≠ 29 → k ≠ 30 → k ≠ 31 → k ≠ 32 → Sk k = S k
theorem keeps_p {S : MM} {n : Nat} (h : TS S n) : ∃ Sk : MM, m_keeps (u2 S 0 0 0) = some Sk ∧ KF S Sk n := by
  have h0 : TS (u2 S 0 0 0) n := TS_c (S := S) (fun k h1 _ => by funext j; rw [u2_row (by omega)]) h
  obtain ⟨Sk, e, a1, a2, a3, a4, a5⟩ := keeps_s h0
  refine ⟨Sk, e, a1, fun e he => ?_, fun i hi => ?_, fun i hi => ?_, ?_, fun k k0 k1 k2 k3 k4 => ?_⟩
  · rw [a2 e he, u2_row (by decide)]
  · rw [a3 i hi, u2_row (by decide)]
  · rw [a4 i hi, u2_row (by decide)]
  · rw [a5 0 (by decide) (by decide) (by decide) (by decide), u2_self]
  · rw [a5 k k1 k2 k3 k4]
    funext j
    rw [u2_row k0]
/-- the model after a call: T is what is told, Y what is found, mt the place ahead, wt how many went -/
def MR (S T Y : MM) (n' : Nat) (mt : Nat → Option Nat) (wt : Nat) (S' : MM) : Prop := TG T S' ∧ S' 0 0 = 0 ∧ (∀ e, e < n' → GV S' Y e ∧ GE S' Y e) ∧ S' 33 0 = nI (wt + cn (df S Y mt) n')
theorem TG_TOLD {S T : MM} {n R : Nat} (g : TG S T) (h : TOLD S n R) : TOLD T n R := ⟨TS_c g h.1, RTo_c g h.2.1, TDo_c g h.2.2.1, WDo_c g h.2.2.2⟩
theorem thY_c {S S' Y : MM} {n r e : Nat} (g : TG S S') : thY S' Y n r e = thY S Y n r e := by
  unfold thY
  rw [fitS_c g, nct_c g, par_c g, g 19 (by decide) (by decide)]
theorem LEV_c {S S' Y : MM} {n R e : Nat} (g : TG S S') (h : LEV S Y n R e) : LEV S' Y n R e := by
  obtain ⟨xs, a1, a2, a3, a4, a5⟩ := h
  refine ⟨xs, fun r => ?_, ?_, a3, fun p hp => ?_, fun v hv => ?_⟩
  · rw [thY_c g]
    exact a1 r
  · rw [stB_c g]
    exact a2
  · rw [cl_c g, tkY_c g]
    exact a4 p hp
  · have : (fun p => cl S' p xs (-1)) = fun p => cl S p xs (-1) := funext fun p => cl_c g p xs (-1)
    rw [this, ndS_c g, cl_c g, tkY_c g]
    exact a5 v hv
theorem LE_c {S S' Y : MM} {n R : Nat} (g : TG S S') (h : LE S Y n R) : LE S' Y n R := by
  obtain ⟨a1, a2, a3, a4, a5⟩ := h
  refine ⟨fun e he => LEV_c g (a1 e he), LEB_c g a2, fun z => ?_, fun p hp => LEW_c g (a4 p hp), fun p hp => LEH_c g (a5 p hp)⟩
  rw [g 1 (by decide) (by decide)]
  exact a3 z
theorem ms_op {S Sk Tk T Y : MM} {n n' R wt : Nat} {mt : Nat → Option Nat} (hn : n ≤ 24) (hk : KF S Sk n) (hT : TOLD T n' R) (g : TG T Tk) (o : ∀ k, 29 ≤ k → k ≤ 32 → Tk k = Sk k) (z : Tk 0 0 = 0) (hY : LE T Y n' R) (hV : VR Y n')
    (m1 : ∀ e f, e < n' → mt e = some f → f < n) (m2 : ∀ e f, e < n' → f < n → (T 4 e = S 4 f ↔ mt e = some f)) (hw : n + cn (fun e => (mt e).isNone) n' = n' + wt) : ∃ S' : MM, m_changes (u2 Tk 33 0 0) = some S' ∧ MR S T Y n' mt wt S' := by
  obtain ⟨k1, k2, k3, k4, k5, k6⟩ := hk
  obtain ⟨T3, eT3⟩ : ∃ z : MM, z = u2 Tk 33 0 0 := ⟨_, rfl⟩
  have o3 : ∀ k, k ≠ 33 → T3 k = Tk k := fun k hk => by
    funext j
    rw [eT3, u2_row hk]
  have g3 : TG T T3 := fun k h1 h2 => (o3 k (by omega)).trans (g k h1 h2)
  rw [← eT3]
  obtain ⟨S', e, a1, a2, a3⟩ := ms_core (S := S) (T := T3) (Y := Y) (mt := mt) (wt := wt) (TG_TOLD g3 hT) hn (by rw [o3 29 (by decide), o 29 (by decide) (by decide), k1]) (fun e he => by rw [o3 30 (by decide), o 30 (by decide) (by decide), k2 e he]) (fun e he => by rw [o3 31 (by decide), o 31 (by decide) (by decide), k3 e he]) (fun e he => by rw [o3 32 (by decide), o 32 (by decide) (by decide), k4 e he]) (by rw [eT3, u2_self]) (LE_c g3 hY) hV m1 (fun e f he hf => by rw [g3 4 (by decide) (by decide)]; exact m2 e f he hf) hw
  exact ⟨S', e, fun k h1 h2 => (a1 k h2).trans (g3 k h1 h2), by rw [a1 0 (by decide), o3 0 (by decide), z], a2, a3⟩
theorem cn_0 {P : Nat → Bool} : ∀ k, (∀ e, e < k → P e = false) → cn P k = 0
  | 0, _ => rfl
  | k + 1, h => by
    unfold cn
    rw [cn_0 k (fun e he => h e (by omega)), h k (by omega)]
    rfl
/-- the numbers are different ones -/
def NI (S : MM) (n : Nat) : Prop := ∀ e f, e < n → f < n → S 4 e = S 4 f → e = f
theorem ms_op0 {S Sk Tk T Y : MM} {n R R' : Nat} (h : TOLD S n R) (hN : NI S n) (hk : KF S Sk n) (hT : TOLD T n R') (h4 : T 4 = S 4) (g : TG T Tk) (o : ∀ k, 23 ≤ k → k ≠ 33 → Tk k = Sk k) (z : Tk 0 0 = 0) (hY : LE T Y n R') (hV : VR Y n) : ∃ S' : MM, m_changes (u2 Tk 33 0 0) = some S' ∧ MR S T Y n some 0 S' :=
  ms_op h.1.2.2.1 hk hT g (fun k a b => o k (by omega) (by omega)) z hY hV (fun e f he hf => by cases hf; exact he) (fun e f he hf => by
    rw [h4]
    constructor
    · intro y
      rw [hN e f he hf y]
    · intro y
      cases y
      rfl) (by rw [show cn (fun e => (some e).isNone) n = 0 from cn_0 n (fun _ _ => rfl)])
theorem nI_ne {p : Nat} (h : p < 24) : ¬ nI p = -1 := nI_ne1 (by omega)
theorem plI_s {p : Nat} : plI (some p) = nI p := rfl
theorem plI_0 : plI none = -1 := rfl
theorem p1_if {p : Nat} (h : p < 24) : (if nI p = (-1 : Int32) then (0 : Int32) else 1) = 1 := if_neg (nI_ne h)
theorem p0_if : (if (-1 : Int32) = (-1 : Int32) then (0 : Int32) else 1) = 0 := if_pos rfl
theorem if_10 {α : Type} {a b : α} : (if (1 : Int32) = 0 then a else b) = b := if_neg (by decide)
theorem if_00 {α : Type} {a b : α} : (if (0 : Int32) = 0 then a else b) = a := if_pos rfl
theorem bd2_s {α β γ : Type} (a : α) (b : β) (f : α → β → Option γ) : bd2 (some (a, b)) f = f a b := rfl
theorem c2_ok {a b : Int32} (ha : a = 1) (hb : b = 1) : c2 a b = 0 := by
  rw [ha, hb]
  rfl
/-- the word for one row of the told, and what the model holds then -/
theorem tg_u {S Sk : MM} {n k j : Nat} {v : Int32} (hk : KF S Sk n) (h22 : k ≤ 22) (h1 : 1 ≤ k) : TG (u2 S k j v) (u2 Sk k j v) ∧ (∀ i, 23 ≤ i → i ≠ 33 → u2 Sk k j v i = Sk i) ∧ u2 Sk k j v 0 0 = 0 := by
  refine ⟨fun i i1 i2 => ?_, fun i i1 _ => ?_, ?_⟩
  · funext a
    have e := hk.2.2.2.2.2 i (by omega) (by omega) (by omega) (by omega) (by omega)
    unfold u2
    rw [e]
  · funext a
    rw [u2_row (by omega)]
  · rw [u2_row (by omega)]
    exact hk.2.2.2.2.1
theorem m_dress_ok {S Y : MM} {n R p : Nat} {x c : Int32} (h : TOLD S n R) (hN : NI S n) (hp : plc S n x = some p) (hc : m_in c 0 255 = 1) (hT : TOLD (u2 S 7 p c) n R) (hY : LE (u2 S 7 p c) Y n R) (hV : VR Y n) : ∃ S' : MM, m_dress S x c = some (S 7 p, S') ∧ MR S (u2 S 7 p c) Y n some 0 S' := by
  have h24 := h.1.2.2.1
  have hpn := (plc_lt hp).1
  obtain ⟨Sk, e, hk⟩ := keeps_p h.1
  obtain ⟨t1, t2, t3⟩ := tg_u (j := p) (v := c) hk (show 7 ≤ 22 by decide) (by decide)
  obtain ⟨S', e2, hM⟩ := ms_op0 h hN hk hT (by funext j; rw [u2_row (by decide)]) t1 t2 t3 hY hV
  refine ⟨S', ?_, hM⟩
  unfold m_dress
  rw [placeOf_p h.1, hp, bd_s, plI_s, p1_if (by omega), bnd_s, asked1_s, c2_ok rfl hc, if_00, bd2_s, if_10, e, bd_s, if_pos (ix_nI (by omega) (by omega)), tn_nI (by omega), bnd_s, bnd_s, bnd_s, e2, bd_s, hk.2.2.2.2.2 7 (by decide) (by decide) (by decide) (by decide) (by decide)]
theorem m_dress_no {S : MM} {n : Nat} {x c : Int32} (h : TS S n) (hc : plc S n x = none ∨ m_in c 0 255 = 0) : m_dress S x c = some (0, u2 S 0 0 (if plc S n x = none then 1 else 2)) := by
  unfold m_dress
  rw [placeOf_p h, bd_s]
  cases hq : plc S n x with
  | none =>
    rw [plI_0, p0_if, bnd_s, asked1_s]
    rfl
  | some p =>
    have hpn := (plc_lt hq).1
    have h24 := h.2.2.1
    rw [hq] at hc
    rw [plI_s, p1_if (by omega), bnd_s, asked1_s, hc.resolve_left (fun z => by cases z)]
    rfl
