/-! ===== the model's calls that change what is told: contain, window, ask, text ===== -/
theorem asked_1 {S : MM} : m_asked S 1 = some (1, u2 S 0 0 0) := asked_s (Or.inr rfl)
theorem asked_0 {S : MM} : m_asked S 0 = some (0, u2 S 0 0 1) := asked_s (Or.inl rfl)
theorem m_contain_ok {S Y : MM} {n R p : Nat} {x c : Int32} (h : TOLD S n R) (hN : NI S n) (h9 : S 9 p = 0 ∨ S 9 p = 1) (hp : plc S n x = some p) (hc : c = 0 ∨ c = 1) (hT : TOLD (u2 S 9 p c) n R) (hY : LE (u2 S 9 p c) Y n R) (hV : VR Y n) : ∃ S' : MM, m_contain S x c = some (S 9 p, S') ∧ MR S (u2 S 9 p c) Y n some 0 S' := by
  have h24 := h.1.2.2.1
  have hpn := (plc_lt hp).1
  obtain ⟨Sk, e, hk⟩ := keeps_p h.1
  obtain ⟨t1, t2, t3⟩ := tg_u (j := p) (v := c) hk (show 9 ≤ 22 by decide) (by decide)
  obtain ⟨S', e2, hM⟩ := ms_op0 h hN hk hT (by funext j; rw [u2_row (by decide)]) t1 t2 t3 hY hV
  refine ⟨S', ?_, hM⟩
  unfold m_contain
  rw [placeOf_p h.1, hp, bd_s, plI_s, p1_if (by omega), bnd_s, asked_1, bd2_s, if_10, e, bd_s, if_pos (ix_nI (by omega) (by omega)), tn_nI (by omega), bnd_s, if_pos hc, bnd_s, bnd_s, e2, bd_s, hk.2.2.2.2.2 9 (by decide) (by decide) (by decide) (by decide) (by decide), if_pos h9]
theorem m_contain_no {S : MM} {n : Nat} {x c : Int32} (h : TS S n) (hq : plc S n x = none) : m_contain S x c = some (0, u2 S 0 0 1) := by
  unfold m_contain
  rw [placeOf_p h, bd_s, hq, plI_0, p0_if, bnd_s, asked_0, bd2_s, if_00]
theorem m_window_ok {S Y : MM} {n R : Nat} {c : Int32} (h : TOLD S n R) (hN : NI S n) (hc : m_in c 0 2000 = 1) (hT : TOLD (u2 S 1 0 c) n R) (hY : LE (u2 S 1 0 c) Y n R) (hV : VR Y n) : ∃ S' : MM, m_window S c = some (S 1 0, S') ∧ MR S (u2 S 1 0 c) Y n some 0 S' := by
  obtain ⟨Sk, e, hk⟩ := keeps_p h.1
  obtain ⟨t1, t2, t3⟩ := tg_u (j := 0) (v := c) hk (show 1 ≤ 22 by decide) (by decide)
  obtain ⟨S', e2, hM⟩ := ms_op0 h hN hk hT (by funext j; rw [u2_row (by decide)]) t1 t2 t3 hY hV
  refine ⟨S', ?_, hM⟩
  unfold m_window
  rw [hc, asked_1, bd2_s, if_10, e, bd_s, bnd_s, bnd_s, bnd_s, e2, bd_s, hk.2.2.2.2.2 1 (by decide) (by decide) (by decide) (by decide) (by decide)]
theorem m_window_no {S : MM} {c : Int32} (hc : m_in c 0 2000 = 0) : m_window S c = some (0, u2 S 0 0 1) := by
  unfold m_window
  rw [hc, asked_0, bd2_s, if_00]
theorem isRule_cs {S : MM} {R : Nat} {x : Int32} (h : RSo S R) : (∃ j, j < R ∧ x = nI j ∧ m_isRule S x = 1) ∨ ((x < 0 ∨ nI R ≤ x) ∧ m_isRule S x = 0) := by
  unfold m_isRule m_in
  rw [h.1]
  have h16 := h.2.1
  by_cases q : x < 0
  · exact Or.inr ⟨Or.inl q, if_pos q⟩
  · rw [if_neg q]
    obtain ⟨k, hk, ek⟩ := nI_of q
    subst ek
    cases R with
    | zero => exact Or.inr ⟨Or.inr (nI_le (Nat.zero_le k) hk), if_pos (by
        rw [show nI 0 - 1 = -1 from rfl]
        have h0 := nI_pos' hk
        exact Int32.lt_iff_toInt_lt.mpr (by
          have := Int32.le_iff_toInt_le.mp h0
          have e1 : (-1 : Int32).toInt = -1 := rfl
          have e2 : (0 : Int32).toInt = 0 := rfl
          omega))⟩
    | succ R =>
      rw [nI_pred]
      by_cases z : k < R + 1
      · exact Or.inl ⟨k, z, rfl, if_neg (nI_nlt (by omega) (by omega))⟩
      · exact Or.inr ⟨Or.inr (nI_le (by omega) hk), if_pos (nI_lt (by omega) hk)⟩
theorem m_ask_ok {S Y : MM} {n R r : Nat} {c : Int32} (h : TOLD S n R) (hN : NI S n) (hr : r < R) (hi : m_isRule S (nI r) = 1) (hc : m_in c (-1) 2000 = 1) (hT : TOLD (u2 S 19 r c) n R) (hY : LE (u2 S 19 r c) Y n R) (hV : VR Y n) : ∃ S' : MM, m_ask S (nI r) c = some (S 19 r, S') ∧ MR S (u2 S 19 r c) Y n some 0 S' := by
  have h16 := h.2.1.1.2.1
  obtain ⟨Sk, e, hk⟩ := keeps_p h.1
  obtain ⟨t1, t2, t3⟩ := tg_u (j := r) (v := c) hk (show 19 ≤ 22 by decide) (by decide)
  obtain ⟨S', e2, hM⟩ := ms_op0 h hN hk hT (by funext j; rw [u2_row (by decide)]) t1 t2 t3 hY hV
  refine ⟨S', ?_, hM⟩
  unfold m_ask
  rw [asked1_s, c2_ok hi hc, if_00, bd2_s, if_10, e, bd_s, if_pos (ix_nI (by omega) (by omega)), tn_nI (by omega), bnd_s, bnd_s, bnd_s, e2, bd_s, hk.2.2.2.2.2 19 (by decide) (by decide) (by decide) (by decide) (by decide)]
theorem c2_no {a b : Int32} (h : a = 0 ∨ b = 0) : c2 a b = (if a = 0 then 1 else 2) := by
  unfold c2
  by_cases q : a = 0
  · rw [if_pos q, if_pos q]
  · rw [if_neg q, if_neg q, if_pos (h.resolve_left q)]
theorem m_ask_no {S : MM} {x c : Int32} (h : m_isRule S x = 0 ∨ m_in c (-1) 2000 = 0) : m_ask S x c = some (0, u2 S 0 0 (if m_isRule S x = 0 then 1 else 2)) := by
  unfold m_ask
  rw [asked1_s, c2_no h]
  by_cases q : m_isRule S x = 0
  · rw [if_pos q]
    rfl
  · rw [if_neg q]
    rfl
theorem text_l {S : MM} {K : Int32 → Int32 → Option (Int32 × MM)} : ∀ (f w : Nat), w < 10 ^ f → w < 2 ^ 31 → ∀ fu c, f + 2 ≤ fu → ∃ c' : Int32, m_text_29 K S fu 1 (nI c) (nI w) = if 0 ∈ dg f w then K 0 c' else K 1 (nI (c + (dg f w).length)) := by
  intro f
  induction f with
  | zero =>
    intro w hw h31 fu c hfu
    have : w = 0 := by
      rw [Nat.pow_zero] at hw
      omega
    subst this
    obtain ⟨fu, rfl⟩ : ∃ z, fu = z + 1 := ⟨fu - 1, by omega⟩
    refine ⟨0, ?_⟩
    rw [m_text_29, if_pos (by decide), dg_z, if_neg (List.not_mem_nil)]
    rfl
  | succ f ih =>
    intro w hw h31 fu c hfu
    obtain ⟨fu, rfl⟩ : ∃ z, fu = z + 1 := ⟨fu - 1, by omega⟩
    rcases Nat.eq_zero_or_pos w with z | z
    · subst z
      refine ⟨0, ?_⟩
      rw [m_text_29, if_pos (by decide), dg_z, if_neg (List.not_mem_nil)]
      rfl
    · have hw' : w / 10 < 10 ^ f := by
        rw [Nat.pow_succ, Nat.mul_comm] at hw
        exact Nat.div_lt_of_lt_mul hw
      have e0 : m_text_29 K S (fu + 1) 1 (nI c) (nI w) = m_text_29 K S fu (if nI (w % 10) = 0 then 0 else 1) (nI (c + 1)) (nI (w / 10)) := by
        rw [m_text_29, if_neg (nI_nle z h31), if_neg (show ¬ (1 : Int32) = 0 by decide), show nI w - nI w / 10 * 10 = nI (w % 10) from pk_rem (d := 10) h31 (by decide) (by decide), show nI w / 10 = nI (w / 10) from pk_div (d := 10) h31 (by decide) (by decide), bnd_s, bnd_s, nI_1]
      rw [dg_s z]
      by_cases y : w % 10 = 0
      · refine ⟨nI (c + 1), ?_⟩
        obtain ⟨fu, rfl⟩ : ∃ z, fu = z + 1 := ⟨fu - 1, by omega⟩
        rw [e0, y, if_pos (show nI 0 = 0 from rfl), if_pos List.mem_cons_self]
        rw [m_text_29, if_pos (show (0 : Int32) = 0 from rfl)]
        by_cases x : nI (w / 10) ≤ 0
        · rw [if_pos x]
        · rw [if_neg x]
      · obtain ⟨c', e1⟩ := ih (w / 10) hw' (by omega) fu (c + 1) (by omega)
        refine ⟨c', ?_⟩
        rw [e0, if_neg (nI_ne0 (by omega) (by omega)), e1, List.length_cons]
        by_cases x : 0 ∈ dg f (w / 10)
        · rw [if_pos x, if_pos (List.mem_cons_of_mem _ x)]
        · rw [if_neg x, if_neg (fun q => by
            rcases List.mem_cons.mp q with q | q
            · exact y q.symm
            · exact x q), show c + 1 + (dg f (w / 10)).length = c + ((dg f (w / 10)).length + 1) by omega]
theorem m_text_ok {S Y : MM} {n R p wd : Nat} {x : Int32} (h : TOLD S n R) (hN : NI S n) (hp : plc S n x = some p) (hw : wd < 100000000) (h0 : ¬ 0 ∈ dg 8 wd) (hT : TOLD (u2 S 8 p (nI wd)) n R) (hY : LE (u2 S 8 p (nI wd)) Y n R) (hV : VR Y n) : ∃ S' : MM, m_text S x (nI wd) = some (nI (dg 8 wd).length, S') ∧ MR S (u2 S 8 p (nI wd)) Y n some 0 S' := by
  have h24 := h.1.2.2.1
  have hpn := (plc_lt hp).1
  obtain ⟨Sk, e, hk⟩ := keeps_p h.1
  obtain ⟨t1, t2, t3⟩ := tg_u (j := p) (v := nI wd) hk (show 8 ≤ 22 by decide) (by decide)
  obtain ⟨S', e2, hM⟩ := ms_op0 h hN hk hT (by funext j; rw [u2_row (by decide)]) t1 t2 t3 hY hV
  refine ⟨S', ?_, hM⟩
  unfold m_text
  have hin : (if nI wd < (0 : Int32) then (0 : Int32) else if (100000000 : Int32) ≤ nI wd then 0 else 1) = 1 := by
    rw [if_neg (nI_pos (by omega)), if_neg (show ¬ (100000000 : Int32) ≤ nI wd from nI_ge (b := 100000000) hw (by decide))]
  rw [placeOf_p h.1, hp, bd_s, plI_s, hin, bnd_s]
  obtain ⟨c', e3⟩ := text_l (S := S) (K := fun p17 p18 => bnd (if nI p = ((-1) : Int32) then (0 : Int32) else (1 : Int32)) fun p23 => bd2 (m_asked_ S p23 p17) fun p24 S25 => (if p24 = (0 : Int32) then (some ((0 : Int32), S25)) else (bd (m_keeps S25) fun S26 => (if ix (nI p) 24 then bnd (u2 S26 8 (tn (nI p)) (nI wd)) fun S27 => (bnd (u2 S27 33 0 (0 : Int32)) fun S29 => (bd (m_changes S29) fun S30 => (some (p18, S30)))) else none)))) 8 wd (by omega) (by omega) 1000 0 (by omega)
  rw [if_neg h0, Nat.zero_add] at e3
  refine e3.trans ?_
  rw [p1_if (by omega), bnd_s, asked1_s, c2_ok rfl rfl, if_00, bd2_s, if_10, e, bd_s, if_pos (ix_nI (by omega) (by omega)), tn_nI (by omega), bnd_s, bnd_s, e2, bd_s]
def wBad (a : Int32) : Prop := a < 0 ∨ 100000000 ≤ a ∨ ∃ wd, a = nI wd ∧ wd < 100000000 ∧ 0 ∈ dg 8 wd
theorem m_text_no {S : MM} {n : Nat} {x a : Int32} (h : TS S n) (hq : plc S n x = none ∨ wBad a) : m_text S x a = some (0, u2 S 0 0 (if plc S n x = none then 1 else 2)) := by
  have h24 := h.2.2.1
  have hpl : ∀ p, plc S n x = some p → p < 24 := fun p hp => by
    have := (plc_lt hp).1
    omega
  unfold m_text
  rw [placeOf_p h, bd_s]
  have hp1 : (if plI (plc S n x) = (-1 : Int32) then (0 : Int32) else 1) = if plc S n x = none then 0 else 1 := by
    cases hc : plc S n x with
    | none => rfl
    | some p => rw [plI_s, p1_if (hpl p hc)]; rfl
  obtain ⟨K, eK⟩ : ∃ K : Int32 → Int32 → Option (Int32 × MM), K = (fun p17 p18 => bnd (if plI (plc S n x) = ((-1) : Int32) then (0 : Int32) else (1 : Int32)) fun p23 => bd2 (m_asked_ S p23 p17) fun p24 S25 => (if p24 = (0 : Int32) then (some ((0 : Int32), S25)) else (bd (m_keeps S25) fun S26 => (if ix (plI (plc S n x)) 24 then bnd (u2 S26 8 (tn (plI (plc S n x))) a) fun S27 => (bnd (u2 S27 33 0 (0 : Int32)) fun S29 => (bd (m_changes S29) fun S30 => (some (p18, S30)))) else none)))) := ⟨_, rfl⟩
  rw [← eK]
  have k0 : ∀ c', K 0 c' = some (0, u2 S 0 0 (if plc S n x = none then 1 else 2)) := fun c' => by
    rw [eK]
    show bnd (if plI (plc S n x) = ((-1) : Int32) then (0 : Int32) else (1 : Int32)) (fun p23 => bd2 (m_asked_ S p23 0) _) = _
    rw [hp1, bnd_s, asked1_s, c2_no (Or.inr rfl)]
    by_cases z : plc S n x = none
    · rw [if_pos z, if_pos z]
      rfl
    · rw [if_neg z, if_neg z]
      rfl
  have k1 : ∀ c', plc S n x = none → K 1 c' = some (0, u2 S 0 0 (if plc S n x = none then 1 else 2)) := fun c' z => by
    rw [eK]
    show bnd (if plI (plc S n x) = ((-1) : Int32) then (0 : Int32) else (1 : Int32)) (fun p23 => bd2 (m_asked_ S p23 1) _) = _
    rw [hp1, bnd_s, asked1_s, if_pos z, c2_no (Or.inl rfl), if_pos z]
    rfl
  by_cases c0 : a < 0
  · rw [if_pos c0, bnd_s, m_text_29, if_pos (Int32.le_of_lt c0), k0]
  · rw [if_neg c0]
    by_cases c8 : 100000000 ≤ a
    · rw [if_pos c8, bnd_s, m_text_29]
      by_cases y : a ≤ 0
      · rw [if_pos y, k0]
      · rw [if_neg y, if_pos rfl, k0]
    · rw [if_neg c8, bnd_s]
      obtain ⟨wd, hw31, ew⟩ := nI_of c0
      have hw : wd < 100000000 := Nat.lt_of_not_le fun z => c8 (by
        rw [ew]
        exact nI_le (a := 100000000) z hw31)
      rw [ew]
      obtain ⟨c', e3⟩ := text_l (S := S) (K := K) 8 wd (by omega) hw31 1000 0 (by omega)
      refine e3.trans ?_
      by_cases z : 0 ∈ dg 8 wd
      · rw [if_pos z, k0]
      · rw [if_neg z]
        refine k1 _ (hq.resolve_right fun b => ?_)
        rcases b with b | b | ⟨w2, e2, h2, h0⟩
        · exact c0 b
        · exact c8 b
        · have : w2 = wd := (nI_eq (by omega) hw31).mp (e2.symm.trans ew)
          rw [this] at h0
          exact z h0
