/-! ===== the model's calls that change what is told: rule, part, declares, empty ===== -/
def wrs (l : List (Nat × Nat × Int32)) (S : MM) : MM := l.foldl (fun S x => u2 S x.1 x.2.1 x.2.2) S
theorem tg_w {S : MM} {n : Nat} : ∀ (l : List (Nat × Nat × Int32)), (∀ x, x ∈ l → 1 ≤ x.1 ∧ x.1 ≤ 22) → ∀ (T Sk Tk : MM), TG T Tk → (∀ i, 23 ≤ i → Tk i = Sk i) → Tk 0 0 = 0 → TG (wrs l T) (wrs l Tk) ∧ (∀ i, 23 ≤ i → wrs l Tk i = Sk i) ∧ wrs l Tk 0 0 = 0
  | [], _, T, Sk, Tk, a, b, c => ⟨a, b, c⟩
  | x :: l, h, T, Sk, Tk, a, b, c => by
    obtain ⟨h1, h2⟩ := h x List.mem_cons_self
    refine tg_w (S := S) (n := n) l (fun y hy => h y (List.mem_cons_of_mem _ hy)) (u2 T x.1 x.2.1 x.2.2) Sk (u2 Tk x.1 x.2.1 x.2.2) (fun i i1 i2 => ?_) (fun i i1 => ?_) ?_
    · funext j
      have := a i i1 i2
      unfold u2
      rw [this]
    · funext j
      rw [u2_row (by omega), b i i1]
    · rw [u2_row (by omega)]
      exact c
theorem tg_k {S Sk : MM} {n : Nat} (hk : KF S Sk n) (l : List (Nat × Nat × Int32)) (h : ∀ x, x ∈ l → 1 ≤ x.1 ∧ x.1 ≤ 22) : TG (wrs l S) (wrs l Sk) ∧ (∀ i, 23 ≤ i → wrs l Sk i = Sk i) ∧ wrs l Sk 0 0 = 0 :=
  tg_w (S := S) (n := n) l h S Sk Sk (fun i i1 i2 => hk.2.2.2.2.2 i (by omega) (by omega) (by omega) (by omega) (by omega)) (fun _ _ => rfl) hk.2.2.2.2.1
def tRule (S : MM) (R : Nat) (t a b o y i : Int32) : MM := wrs [(12, 3 * R, -1), (13, 3 * R, t), (14, 3 * R, a), (15, 3 * R, b), (11, R, 1), (16, R, o), (17, R, y), (18, R, i), (19, R, -1), (10, 0, nI R + 1)] S
theorem KF_r {S Sk : MM} {n k : Nat} (hk : KF S Sk n) (h : 1 ≤ k ∧ k ≤ 28) : Sk k = S k := hk.2.2.2.2.2 k (by omega) (by omega) (by omega) (by omega) (by omega)
theorem in_1 {x lo hi : Int32} (h : ¬ (x < lo ∨ hi < x)) : m_in x lo hi = 1 := by
  unfold m_in
  rw [if_neg (fun z => h (Or.inl z)), if_neg (fun z => h (Or.inr z))]
theorem in_0 {x lo hi : Int32} (h : x < lo ∨ hi < x) : m_in x lo hi = 0 := by
  unfold m_in
  by_cases q : x < lo
  · rw [if_pos q]
  · rw [if_neg q, if_pos (h.resolve_left q)]
theorem isPart_1 {t a b : Int32} (h : ptOk t a b) : m_isPart t a b = 1 := by
  unfold m_isPart
  rw [in_1 h.1, in_1 h.2.1, in_1 h.2.2, if_neg (by decide), if_neg (by decide), if_neg (by decide)]
theorem isPart_0 {t a b : Int32} (h : ¬ ptOk t a b) : m_isPart t a b = 0 := by
  unfold m_isPart
  by_cases q1 : t < -1 ∨ 5 < t
  · rw [in_0 q1, if_pos rfl]
  · rw [in_1 q1, if_neg (by decide)]
    by_cases q2 : a < 0 ∨ 255 < a
    · rw [in_0 q2, if_pos rfl]
    · rw [in_1 q2, if_neg (by decide)]
      by_cases q3 : b < 0 ∨ 255 < b
      · rw [in_0 q3, if_pos rfl]
      · exact absurd ⟨q1, q2, q3⟩ h
theorem c3_ok {a b c : Int32} (ha : a = 1) (hb : b = 1) (hc : c = 1) : c3 a b c = 0 := by
  rw [ha, hb, hc]
  rfl
theorem m_rule_ok {S Y : MM} {n R : Nat} {t a b o y i : Int32} (h : TOLD S n R) (hN : NI S n) (hR : R < 16) (hp : ptOk t a b) (ho : m_in o 0 1 = 1) (hy : m_in y 0 2 = 1) (hi : i = 0 ∨ i = 1) (hT : TOLD (tRule S R t a b o y i) n (R + 1)) (hY : LE (tRule S R t a b o y i) Y n (R + 1)) (hV : VR Y n) : ∃ S' : MM, m_rule S t a b o y i = some (nI R, S') ∧ MR S (tRule S R t a b o y i) Y n some 0 S' := by
  obtain ⟨Sk, e, hk⟩ := keeps_p h.1
  obtain ⟨t1, t2, t3⟩ := tg_k hk [(12, 3 * R, -1), (13, 3 * R, t), (14, 3 * R, a), (15, 3 * R, b), (11, R, 1), (16, R, o), (17, R, y), (18, R, i), (19, R, -1), (10, 0, nI R + 1)] (by simp)
  obtain ⟨S', e2, hM⟩ := ms_op0 h hN hk hT rfl t1 (fun i i1 _ => t2 i i1) t3 hY hV
  refine ⟨S', ?_, hM⟩
  have h10 : Sk 10 0 = nI R := (congrFun (KF_r hk ⟨by decide, by decide⟩) 0).trans h.2.1.1.1
  have g10 : S' 10 0 = nI R + 1 := (congrFun (hM.1 10 (by decide) (by decide)) 0).trans rfl
  unfold m_rule
  have e16 : (if (16 : Int32) ≤ S 10 0 then (0 : Int32) else 1) = 1 := by
    rw [h.2.1.1.1, if_neg (show ¬ (16 : Int32) ≤ nI R from nI_ge (b := 16) hR (by decide))]
  rw [isPart_1 hp, ho, hy, if_10, if_10, if_10, bnd_s, e16, bnd_s, asked1_s, c2_ok rfl rfl, if_00, bd2_s, if_10, e, bd_s]
  have e3 : (3 : Int32) * Sk 10 0 = nI (3 * R) := by rw [h10, nx3]
  unfold m_lay
  rw [e3, if_pos (ix_nI (by omega) (by omega)), tn_nI (by omega), bnd_s, bnd_s, bnd_s, bnd_s, bd_s]
  simp only [u2_row (show (10 : Nat) ≠ 15 by decide), u2_row (show (10 : Nat) ≠ 14 by decide), u2_row (show (10 : Nat) ≠ 13 by decide), u2_row (show (10 : Nat) ≠ 12 by decide), u2_row (show (10 : Nat) ≠ 11 by decide), u2_row (show (10 : Nat) ≠ 16 by decide), u2_row (show (10 : Nat) ≠ 17 by decide), u2_row (show (10 : Nat) ≠ 18 by decide), u2_row (show (10 : Nat) ≠ 19 by decide), h10, bnd_s, tn_nI (show R < 2 ^ 31 by omega)]
  rw [if_pos (ix_nI hR (by omega)), if_pos (ix_nI hR (by omega)), if_pos (ix_nI hR (by omega)), if_pos (ix_nI hR (by omega)), if_pos hi, if_pos (ix_nI hR (by omega))]
  refine (congrArg (fun x => bd x _) e2).trans ?_
  rw [bd_s, g10, Int32.add_sub_cancel]
theorem m_rule_no1 {S : MM} {t a b o y i : Int32} (q : ¬ (ptOk t a b ∧ m_in o 0 1 = 1 ∧ m_in y 0 2 = 1)) : m_rule S t a b o y i = some (0, u2 S 0 0 1) := by
  unfold m_rule
  have : (if m_isPart t a b = 0 then (0 : Int32) else if m_in o 0 1 = 0 then 0 else if m_in y 0 2 = 0 then 0 else 1) = 0 := by
    by_cases q1 : ptOk t a b
    · rw [isPart_1 q1, if_10]
      rcases b_in (a0 := o) (a1 := 0) (a2 := 1) with q2 | q2
      · rw [q2, if_00]
      · rw [q2, if_10]
        rcases b_in (a0 := y) (a1 := 0) (a2 := 2) with q3 | q3
        · rw [q3, if_00]
        · exact absurd ⟨q1, q2, q3⟩ q
    · rw [isPart_0 q1, if_00]
  rw [this, bnd_s, bnd_s, asked1_s]
  unfold c2
  rw [if_00, if_neg (by decide), bd2_s, if_00]
theorem m_rule_no2 {S : MM} {R : Nat} {t a b o y i : Int32} (h : RSo S R) (q1 : ptOk t a b) (q2 : m_in o 0 1 = 1) (q3 : m_in y 0 2 = 1) (h16 : 16 ≤ R) : m_rule S t a b o y i = some (0, u2 S 0 0 2) := by
  have hR := h.2.1
  unfold m_rule
  have e16 : (if (16 : Int32) ≤ S 10 0 then (0 : Int32) else 1) = 0 := by
    rw [h.1, if_pos (show (16 : Int32) ≤ nI R from nI_le (a := 16) h16 (by omega))]
  rw [e16, isPart_1 q1, q2, q3, if_10, if_10, if_10, bnd_s, bnd_s, asked1_s]
  rfl
/-! part -/
def tPart (S : MM) (r c : Nat) (w t a b : Int32) : MM := wrs [(12, 3 * r + c, w), (13, 3 * r + c, t), (14, 3 * r + c, a), (15, 3 * r + c, b), (11, r, nI (c + 1))] S
theorem wS_c {S S' : MM} (g : TG S S') (r : Nat) : wS S' r = wS S r := by
  unfold wS
  rw [wtS_c g, g 11 (by decide) (by decide)]
theorem m_part_ok {S Y : MM} {n R r c : Nat} {w t a b : Int32} (h : TOLD S n R) (hN : NI S n) (hr : r < R) (hi : m_isRule S (nI r) = 1) (hc : S 11 r = nI c) (h3 : c < 3) (hw : m_in w 0 2 = 1) (hp : ptOk t a b) (hT : TOLD (tPart S r c w t a b) n R) (hY : LE (tPart S r c w t a b) Y n R) (hV : VR Y n) : ∃ S' : MM, m_part S (nI r) w t a b = some (wS (tPart S r c w t a b) r, S') ∧ MR S (tPart S r c w t a b) Y n some 0 S' := by
  have h16 := h.2.1.1.2.1
  obtain ⟨Sk, e, hk⟩ := keeps_p h.1
  obtain ⟨t1, t2, t3⟩ := tg_k hk [(12, 3 * r + c, w), (13, 3 * r + c, t), (14, 3 * r + c, a), (15, 3 * r + c, b), (11, r, nI (c + 1))] (by simp)
  obtain ⟨S', e2, hM⟩ := ms_op0 h hN hk hT rfl t1 (fun i i1 _ => t2 i i1) t3 hY hV
  refine ⟨S', ?_, hM⟩
  have h11 : Sk 11 r = nI c := (congrFun (KF_r hk ⟨by decide, by decide⟩) r).trans hc
  unfold m_part
  have e0 : (if m_in w 0 2 = 0 then (0 : Int32) else if m_isPart t a b = 0 then 0 else 1) = 1 := by rw [hw, isPart_1 hp, if_10, if_10]
  have e1 : (if m_isRule S (nI r) = 0 then (0 : Int32) else if (3 : Int32) ≤ S 11 (tn (nI r)) then 0 else 1) = 1 := by
    rw [hi, if_10, tn_nI (by omega), hc, if_neg (show ¬ (3 : Int32) ≤ nI c from nI_ge (b := 3) h3 (by decide))]
  rw [e0, bnd_s, if_pos (fun _ => ix_nI (show r < 16 by omega) (by omega)), e1, bnd_s, asked2_s, c3_ok hi rfl rfl, if_00, bd2_s, if_10, e, bd_s, if_pos (ix_nI (show r < 16 by omega) (by omega))]
  unfold m_lay
  rw [tn_nI (show r < 2 ^ 31 by omega), h11, nx3, nI_add, if_pos (ix_nI (by omega) (by omega)), tn_nI (by omega), bnd_s, bnd_s, bnd_s, bnd_s, bd_s, bnd_s, bnd_s]
  rw [u2_row (show (11 : Nat) ≠ 15 by decide), u2_row (show (11 : Nat) ≠ 14 by decide), u2_row (show (11 : Nat) ≠ 13 by decide), u2_row (show (11 : Nat) ≠ 12 by decide), h11, nI_1]
  refine (congrArg (fun x => bd x _) e2).trans ?_
  rw [bd_s, weightOf_s (RTo_c hM.1 hT.2.1).1 hr, bd_s]
  show some (wS S' r, S') = _
  rw [wS_c hM.1]
theorem m_part_no1 {S : MM} {R : Nat} {x w t a b : Int32} (hi : m_isRule S x = 0) : m_part S x w t a b = some (0, u2 S 0 0 1) := by
  unfold m_part
  rw [hi, bnd_s, if_pos (fun z => absurd rfl z), if_00, bnd_s, asked2_s]
  rfl
theorem m_part_no2 {S : MM} {R r : Nat} {w t a b : Int32} (h : RSo S R) (hr : r < R) (hi : m_isRule S (nI r) = 1) (hq : m_in w 0 2 = 0 ∨ ¬ ptOk t a b) : m_part S (nI r) w t a b = some (0, u2 S 0 0 2) := by
  have h16 := h.2.1
  unfold m_part
  have e0 : (if m_in w 0 2 = 0 then (0 : Int32) else if m_isPart t a b = 0 then 0 else 1) = 0 := by
    by_cases q1 : m_in w 0 2 = 0
    · rw [if_pos q1]
    · rw [if_neg q1, isPart_0 (hq.resolve_left q1), if_00]
  rw [e0, bnd_s, hi, if_pos (fun _ => ix_nI (show r < 16 by omega) (by omega)), bnd_s, asked2_s]
  unfold c3
  rw [if_10, if_00, if_neg (by decide), bd2_s, if_00]
theorem m_part_no3 {S : MM} {R r : Nat} {w t a b : Int32} (h : RSo S R) (hr : r < R) (hi : m_isRule S (nI r) = 1) (hw : m_in w 0 2 = 1) (hp : ptOk t a b) (h3 : S 11 r = 3) : m_part S (nI r) w t a b = some (0, u2 S 0 0 3) := by
  have h16 := h.2.1
  unfold m_part
  have e1 : (if (3 : Int32) ≤ S 11 (tn (nI r)) then (0 : Int32) else 1) = 0 := by
    rw [tn_nI (by omega), h3]
    rfl
  rw [hw, isPart_1 hp, if_10, if_10, bnd_s, hi, if_pos (fun _ => ix_nI (show r < 16 by omega) (by omega)), if_10, e1, bnd_s, asked2_s]
  rfl
/-! what a rule declares -/
def dclS (S : MM) (r p : Nat) : Bool := !(decide (S 20 (14 * r + p) = 0))
theorem dcl_n {S : MM} {r p : Nat} : (if S 20 (14 * r + p) = 0 then (0 : Int32) else 1) = nI (if dclS S r p = true then 1 else 0) := by
  unfold dclS
  by_cases q : S 20 (14 * r + p) = 0
  · rw [if_pos q, decide_eq_true q]
    rfl
  · rw [if_neg q, decide_eq_false q]
    rfl
theorem declared_s {S : MM} {r : Nat} (hr : r < 16) : m_declared S (nI r) = some (nI (cn (dclS S r) 14)) := by
  obtain ⟨s, i1, e1⟩ := lp_0 (σ := Int32) (α := Option Int32) (L := fun K fu k s => (m_declared_4 S (nI r) fu s (nI k)).bind (fun x => K x)) (n := 14)
    (Inv := fun k s => s = nI (cn (dclS S r) k))
    (fun K fu s hi => by
      show (m_declared_4 S (nI r) (fu + 1) s (nI 14)).bind (fun x => K x) = K s
      rw [m_declared_4, if_pos (by decide)]
      rfl)
    (fun fu k s hk hi => by
      refine ⟨_, rfl, fun K => ?_⟩
      show (m_declared_4 S (nI r) (fu + 1) s (nI k)).bind (fun x => K x) = (m_declared_4 S (nI r) fu (nI (cn (dclS S r) k + if dclS S r k = true then 1 else 0)) (nI (k + 1))).bind (fun x => K x)
      rw [m_declared_4, if_neg (n14 hk), nx14, nI_add, if_pos (ix_nI (by omega) (by omega)), tn_nI (by omega), dcl_n, bnd_s, bnd_s, hi, nI_add, nI_1])
    (fu := 1000) (s := 0) (by omega) rfl
  rw [nI_0] at e1
  unfold m_declared
  rw [bind_so (e1 some), i1]
/-- the place from which a property's declarations are, and how many there are -/
def dlo (p : Nat) : Nat := if p = 14 then 3 else p
def dhi (p : Nat) : Nat := if p = 14 then 4 else p
theorem dlh (p : Nat) (h : p ≤ 14) : dlo p ≤ dhi p ∧ dhi p < 14 ∧ dhi p ≤ dlo p + 1 := by
  unfold dlo dhi
  by_cases q : p = 14
  · rw [if_pos q, if_pos q]
    omega
  · rw [if_neg q, if_neg q]
    omega
/-- how many declarations there were with one more of p -/
def cntD (S : MM) (r p : Nat) : Nat := cn (dclS S r) 14 + (if dclS S r (dlo p) = true then 0 else 1) + (if p = 14 ∧ dclS S r 4 = false then 1 else 0)
def tDec (S : MM) (r p : Nat) (k v f : Int32) : MM := wrs (if p = 14 then [(20, 14 * r + 3, k), (21, 14 * r + 3, v), (22, 14 * r + 3, f), (20, 14 * r + 4, k), (21, 14 * r + 4, v), (22, 14 * r + 4, f)] else [(20, 14 * r + p, k), (21, 14 * r + p, v), (22, 14 * r + p, f)]) S
theorem dcl_m {S : MM} {r p : Nat} : (if S 20 (14 * r + p) = 0 then (1 : Int32) else 0) = nI (if dclS S r p = true then 0 else 1) := by
  unfold dclS
  by_cases q : S 20 (14 * r + p) = 0
  · rw [if_pos q, decide_eq_true q]
    rfl
  · rw [if_neg q, decide_eq_false q]
    rfl
theorem dl71 {S : MM} {r p a : Nat} {K : Int32 → Option (Int32 × MM)} (hr : r < 16) (hp : p ≤ 14) : m_declares_71 K S (nI r) 1 (nI (dhi p)) 1000 (nI a) (nI (dlo p)) = K (nI (a + (if dclS S r (dlo p) = true then 0 else 1) + (if p = 14 ∧ dclS S r 4 = false then 1 else 0))) := by
  have one : ∀ fu b q, q < 14 → m_declares_71 K S (nI r) 1 (nI (dhi p)) (fu + 1) (nI b) (nI q) = if nI (dhi p) < nI q then K (nI b) else m_declares_71 K S (nI r) 1 (nI (dhi p)) fu (nI (b + if dclS S r q = true then 0 else 1)) (nI (q + 1)) := fun fu b q hq => by
    rw [m_declares_71]
    by_cases z : nI (dhi p) < nI q
    · rw [if_pos z, if_pos z]
    · rw [if_neg z, if_neg z, if_neg (show ¬ (1 : Int32) = 0 by decide), nx14, nI_add, if_pos (ix_nI (by omega) (by omega)), tn_nI (by omega), dcl_m, bnd_s, bnd_s, nI_add, nI_1]
  obtain ⟨d1, d2, d3⟩ := dlh p hp
  by_cases q : p = 14
  · subst q
    rw [show dlo 14 = 3 from rfl, show dhi 14 = 4 from rfl] at *
    rw [one 999 _ 3 (by decide), if_neg (by decide), one 998 _ 4 (by decide), if_neg (by decide), one 997 _ 5 (by decide), if_pos (by decide)]
    congr 2
    by_cases z : dclS S r 4 = true
    · rw [if_pos z, if_neg (show ¬ (14 = 14 ∧ dclS S r 4 = false) from fun y => by rw [z] at y; exact Bool.noConfusion y.2)]
    · rw [if_neg z, if_pos (show 14 = 14 ∧ dclS S r 4 = false from ⟨rfl, Bool.eq_false_iff.mpr z⟩)]
  · have e1 : dlo p = p := if_neg q
    have e2 : dhi p = p := if_neg q
    rw [e2] at one ⊢
    rw [e1]
    rw [one 999 _ p (by omega), if_neg (nI_nlt (Nat.le_refl p) (by omega)), if_neg (show ¬ (p = 14 ∧ dclS S r 4 = false) from fun z => q z.1)]
    by_cases y : p + 1 < 14
    · rw [one 998 _ (p + 1) y, if_pos (nI_lt (by omega) (by omega))]
      rfl
    · rw [m_declares_71, if_pos (nI_lt (by omega) (by omega))]
      rfl
theorem dl146 {S : MM} {r p : Nat} {k v f : Int32} {K : MM → Option (Int32 × MM)} (hr : r < 16) (hp : p ≤ 14) : m_declares_146 K (nI r) k v f (nI (dhi p)) 1000 (nI (dlo p)) S = K (tDec S r p k v f) := by
  have one : ∀ fu q S, q < 14 → m_declares_146 K (nI r) k v f (nI (dhi p)) (fu + 1) (nI q) S = if nI (dhi p) < nI q then K S else m_declares_146 K (nI r) k v f (nI (dhi p)) fu (nI (q + 1)) (u2 (u2 (u2 S 20 (14 * r + q) k) 21 (14 * r + q) v) 22 (14 * r + q) f) := fun fu q S hq => by
    rw [m_declares_146]
    by_cases z : nI (dhi p) < nI q
    · rw [if_pos z, if_pos z]
    · rw [if_neg z, if_neg z, nx14, nI_add, if_pos (ix_nI (by omega) (by omega)), tn_nI (by omega), bnd_s, bnd_s, bnd_s, nI_1]
  obtain ⟨d1, d2, d3⟩ := dlh p hp
  unfold tDec
  by_cases q : p = 14
  · subst q
    rw [show dlo 14 = 3 from rfl, show dhi 14 = 4 from rfl] at *
    rw [one 999 3 _ (by decide), if_neg (by decide), one 998 4 _ (by decide), if_neg (by decide), one 997 5 _ (by decide), if_pos (by decide), if_pos rfl]
    rfl
  · have e1 : dlo p = p := if_neg q
    have e2 : dhi p = p := if_neg q
    rw [e2] at one ⊢
    rw [e1]
    rw [one 999 p _ (by omega), if_neg (nI_nlt (Nat.le_refl p) (by omega)), if_neg q]
    by_cases y : p + 1 < 14
    · rw [one 998 (p + 1) _ y, if_pos (nI_lt (by omega) (by omega))]
      rfl
    · rw [m_declares_146, if_pos (nI_lt (by omega) (by omega))]
      rfl
theorem nI14 {p : Nat} (h : p ≤ 14) : (nI p = 14) = (p = 14) := propext (by
  rw [show (14 : Int32) = nI 14 from rfl]
  exact nI_eq (by omega) (by decide))
theorem dlo_n {p : Nat} (h : p ≤ 14) : (if nI p = (14 : Int32) then (3 : Int32) else nI p) = nI (dlo p) := by
  unfold dlo
  simp only [nI14 h]
  by_cases q : p = 14
  · rw [if_pos q, if_pos q]
    rfl
  · rw [if_neg q, if_neg q]
theorem dhi_n {p : Nat} (h : p ≤ 14) : (if nI p = (14 : Int32) then (4 : Int32) else nI p) = nI (dhi p) := by
  unfold dhi
  simp only [nI14 h]
  by_cases q : p = 14
  · rw [if_pos q, if_pos q]
    rfl
  · rw [if_neg q, if_neg q]
theorem in14 {p : Nat} (h : p ≤ 14) : m_in (nI p) 0 14 = 1 := in_1 (fun z => z.elim (nI_pos (by omega)) (fun y => absurd (show nI 14 < nI p from y) (nI_nlt h (by decide))))
theorem cntD_le {S : MM} {r p : Nat} : cntD S r p ≤ 16 := by
  unfold cntD
  have h1 := cn_le (dclS S r) 14
  have h2 : (if dclS S r (dlo p) = true then 0 else 1) ≤ 1 := by split <;> omega
  have h3 : (if p = 14 ∧ dclS S r 4 = false then 1 else 0) ≤ 1 := by split <;> omega
  omega
theorem m_declares_ok {S Y : MM} {n R r p : Nat} {k v f : Int32} (h : TOLD S n R) (hN : NI S n) (hr : r < R) (hi : m_isRule S (nI r) = 1) (hp : p ≤ 14) (h6 : cntD S r p ≤ 6) (hT : TOLD (tDec S r p k v f) n R) (hY : LE (tDec S r p k v f) Y n R) (hV : VR Y n) : ∃ S' : MM, m_declares S (nI r) (nI p) 1 k v f = some (nI (cntD S r p), S') ∧ MR S (tDec S r p k v f) Y n some 0 S' := by
  have h16 := h.2.1.1.2.1
  obtain ⟨Sk, e, hk⟩ := keeps_p h.1
  obtain ⟨t1, t2, t3⟩ := tg_k hk (if p = 14 then [(20, 14 * r + 3, k), (21, 14 * r + 3, v), (22, 14 * r + 3, f), (20, 14 * r + 4, k), (21, 14 * r + 4, v), (22, 14 * r + 4, f)] else [(20, 14 * r + p, k), (21, 14 * r + p, v), (22, 14 * r + p, f)]) (by
    by_cases q : p = 14
    · rw [if_pos q]
      simp
    · rw [if_neg q]
      simp)
  obtain ⟨S', e2, hM⟩ := ms_op0 h hN hk hT (by
    by_cases q : p = 14
    · unfold tDec
      rw [if_pos q]
      rfl
    · unfold tDec
      rw [if_neg q]
      rfl) t1 (fun i i1 _ => t2 i i1) t3 hY hV
  refine ⟨S', ?_, hM⟩
  unfold m_declares
  rw [hi, if_10, in14 hp, if_10, bnd_s, dlo_n hp, dhi_n hp, bnd_s, bnd_s, if_10, declared_s (by omega), bd_s, dl71 (by omega) hp]
  rw [show cn (dclS S r) 14 + (if dclS S r (dlo p) = true then 0 else 1) + (if p = 14 ∧ dclS S r 4 = false then 1 else 0) = cntD S r p from rfl, if_neg (show ¬ (6 : Int32) < nI (cntD S r p) from nI_nlt (a := 6) h6 (by decide)), bnd_s, asked2_s, c3_ok rfl rfl rfl, if_00, bd2_s, if_10, e, bd_s, dl146 (by omega) hp, bnd_s]
  refine (congrArg (fun x => bd x _) e2).trans ?_
  rfl
theorem m_declares_no1 {S : MM} {x y a k v f : Int32} (h : m_isRule S x = 0 ∨ m_in y 0 14 = 0) : m_declares S x y a k v f = some (0, u2 S 0 0 1) := by
  unfold m_declares
  have e1 : (if m_isRule S x = 0 then (0 : Int32) else if m_in y 0 14 = 0 then 0 else 1) = 0 := by
    by_cases q : m_isRule S x = 0
    · rw [if_pos q]
    · rw [if_neg q, if_pos (h.resolve_left q)]
  rw [e1, bnd_s, bnd_s, bnd_s, if_00]
  obtain ⟨K, eK⟩ : ∃ K : Int32 → Option (Int32 × MM), K = (fun p27 => bnd (if (6 : Int32) < p27 then (0 : Int32) else (1 : Int32)) fun p32 => bd2 (m_asked__ S 0 a p32) fun p33 S34 => (if p33 = (0 : Int32) then (some ((0 : Int32), S34)) else (bd (m_keeps S34) fun S35 => (m_declares_146 (fun S51 => bnd (u2 S51 33 0 (0 : Int32)) fun S52 => (bd (m_changes S52) fun S53 => (some (p27, S53)))) x k v f (if y = (14 : Int32) then (4 : Int32) else y) 1000 (if y = (14 : Int32) then (3 : Int32) else y) S35)))) := ⟨_, rfl⟩
  have e2 : K 0 = some (0, u2 S 0 0 1) := by
    rw [eK]
    show bnd (if (6 : Int32) < 0 then (0 : Int32) else (1 : Int32)) _ = _
    rw [bnd_s, asked2_s]
    rfl
  rw [← eK, m_declares_71]
  by_cases z : (if y = (14 : Int32) then (4 : Int32) else y) < (if y = (14 : Int32) then (3 : Int32) else y)
  · rw [if_pos z, e2]
  · rw [if_neg z, if_pos rfl, e2]
theorem m_declares_no2 {S : MM} {R r p : Nat} {a k v f : Int32} (h : RSo S R) (hr : r < R) (hi : m_isRule S (nI r) = 1) (hp : p ≤ 14) (hq : a = 0 ∨ a = 1 ∧ 6 < cntD S r p) : m_declares S (nI r) (nI p) a k v f = some (0, u2 S 0 0 (if a = 0 then 2 else 3)) := by
  have h16 := h.2.1
  unfold m_declares
  rw [hi, if_10, in14 hp, if_10, bnd_s, dlo_n hp, dhi_n hp, bnd_s, bnd_s, if_10, declared_s (by omega), bd_s, dl71 (by omega) hp]
  rw [show cn (dclS S r) 14 + (if dclS S r (dlo p) = true then 0 else 1) + (if p = 14 ∧ dclS S r 4 = false then 1 else 0) = cntD S r p from rfl, bnd_s, asked2_s]
  have hle := cntD_le (S := S) (r := r) (p := p)
  rcases hq with q | ⟨q1, q2⟩
  · subst q
    rfl
  · subst q1
    rw [if_pos (show (6 : Int32) < nI (cntD S r p) from nI_lt (a := 6) q2 (by omega))]
    rfl
