/-! ===== the model's call remove: as a whole ===== -/
theorem blo_c {S S' : MM} (g : TG S S') (p : Nat) : blo S' p = blo S p := funext fun e => by
  unfold blo
  rw [ach_c g]
theorem stay_c {S S' : MM} (g : TG S S') (p : Nat) : stay S' p = stay S p := funext fun e => by
  unfold stay
  rw [blo_c g]
theorem m_remove_ok {S : MM} {n R p : Nat} {x : Int32} (h : TOLD S n R) (hN : NI S n) (h9 : ∀ e, e < n → S 9 e = 0 ∨ S 9 e = 1) (hp : plc S n x = some p) (hp0 : 0 < p) : ∃ T : MM, RMV S T n p ∧ ∀ Y, TOLD T (kpl S n p).length R → LE T Y (kpl S n p).length R → VR Y (kpl S n p).length → ∃ S' : MM, m_remove S x = some (nI (cn (blo S p) n), S') ∧ MR S T Y (kpl S n p).length (fun e => (kpl S n p)[e]?) (cn (blo S p) n) S' := by
  have h24 := h.1.2.2.1
  have hpn := (plc_lt hp).1
  obtain ⟨Sk, e, hk⟩ := keeps_p h.1
  have gk : TG S Sk := fun k h1 h2 => KF_r hk ⟨h1, by omega⟩
  obtain ⟨K3, eK3⟩ : ∃ K3 : Int32 → Int32 → MM → Option (Int32 × MM), K3 = (fun p20 p34 S65 => bnd (u2 S65 3 0 p34) fun S66 => (bnd (u2 S66 33 0 (0 : Int32)) fun S67 => (bd (m_changes S67) fun S68 => (some (p20, S68))))) := ⟨_, rfl⟩
  obtain ⟨A, eA, a1, a2⟩ := rm49 (K := fun p20 S26 => m_remove_98 (fun p34 S39 => m_remove_142 (K3 p20 p34) 1000 0 S39) 1000 0 0 S26) (TS_c gk h.1) hpn
  have gA : TG Sk A := fun i _ h2 => a2 i (by omega)
  obtain ⟨B, eB, b1, b2⟩ := rm98 (p := p) (b := blo Sk p) (K := fun p34 S39 => m_remove_142 (K3 (nI (cn (blo Sk p) n)) p34) 1000 0 S39) (TS_c gA (TS_c gk h.1)).1 h24 a1
  have gB : TG A B := fun i _ h2 => b2 i (by omega)
  have tB := TS_c gB (TS_c gA (TS_c gk h.1))
  obtain ⟨C, eC, d1, d2⟩ := rm142 (P := stay S p) (K := K3 (nI (cn (blo Sk p) n)) (nI (cn (fun e => !(blo Sk p e)) n))) tB (fun e he => by
    rw [gB 9 (by decide) (by decide), gA 9 (by decide) (by decide), gk 9 (by decide) (by decide)]
    exact h9 e he) (fun e he => by
    rw [b2 35 (by decide), a1 e he, blo_c gk]
    unfold stay
    cases blo S p e
    · exact ⟨fun _ => rfl, fun _ => rfl⟩
    · exact ⟨fun z => absurd z (by decide), fun z => Bool.noConfusion z⟩) (fun e he => by
    rw [b1 e he, blo_c gk]
    rfl)
  have hlen : (kpl S n p).length = cn (stay S p) n := cn_flt n
  have e98 : cn (fun e => !(blo Sk p e)) n = (kpl S n p).length := by
    rw [hlen, blo_c gk]
    rfl
  have gAB : ∀ k, 1 ≤ k → k ≤ 22 → B k = S k := fun k h1 h2 => by rw [gB k h1 h2, gA k h1 h2, gk k h1 h2]
  obtain ⟨T, eT⟩ : ∃ T : MM, T = u2 C 3 0 (nI (kpl S n p).length) := ⟨_, rfl⟩
  have To : ∀ k, k ≠ 3 → T k = C k := fun k hk => funext fun j => by rw [eT, u2_row hk]
  have hR : RMV S T n p := by
    refine ⟨fun k h1 h2 h3 h4 => ?_, by rw [eT, u2_self], fun i f hf => ?_⟩
    · rw [To k h3, d2 k h4, gAB k h1 h2]
    · obtain ⟨f1, f2, f3⟩ := cn_at hf
      obtain ⟨y1, y2, y3, y4, y5, y6⟩ := d1 f f1 f2
      rw [f3] at y1 y2 y3 y4 y5 y6
      rw [To 4 (by decide), To 5 (by decide), To 6 (by decide), To 7 (by decide), To 8 (by decide), To 9 (by decide), y1, y2, y3, y4, y5, y6, gAB 4 (by decide) (by decide), gAB 5 (by decide) (by decide), gAB 6 (by decide) (by decide), gAB 7 (by decide) (by decide), gAB 8 (by decide) (by decide), gAB 9 (by decide) (by decide)]
      exact ⟨rfl, rfl, rfl, rfl, rfl, rfl⟩
  refine ⟨T, hR, fun Y hT hY hV => ?_⟩
  have hn := cn_not (P := stay S p) n
  have hb : (fun e => !(stay S p e)) = blo S p := funext fun e => by
    unfold stay
    rw [Bool.not_not]
  rw [hb] at hn
  obtain ⟨S', e2, hM⟩ := ms_op (T := T) (Tk := T) (mt := fun e => (kpl S n p)[e]?) (wt := cn (blo S p) n) h24 hk hT (TG_r T) (fun k k1 k2 => by
    rw [To k (by omega), d2 k (by omega), b2 k (by omega), a2 k (by omega)]) (by
    rw [To 0 (by decide), d2 0 (by decide), b2 0 (by decide), a2 0 (by decide)]
    exact hk.2.2.2.2.1) hY hV (fun e f he hf => (cn_at hf).1) (fun e f he hf => by
    obtain ⟨g, hg⟩ : ∃ g, (kpl S n p)[e]? = some g := ⟨_, List.getElem?_eq_getElem he⟩
    have hgn := (cn_at hg).1
    rw [hg, (hR.2.2 e g hg).1]
    constructor
    · intro y
      rw [hN g f hgn hf y]
    · intro y
      cases y
      rfl) (by
    rw [cn_0 (P := fun e => ((kpl S n p)[e]?).isNone) (kpl S n p).length (fun e he => by rw [List.getElem?_eq_getElem he]; rfl)]
    omega)
  refine ⟨S', ?_, hM⟩
  unfold m_remove
  have e0 : (if nI p = (0 : Int32) then (0 : Int32) else 1) = 1 := if_neg (nI_ne0 hp0 (by omega))
  rw [placeOf_p h.1, hp, bd_s, plI_s, p1_if (by omega), bnd_s, e0, bnd_s, asked1_s, c2_ok rfl rfl, if_00, bd2_s, if_10, e, bd_s]
  rw [eK3] at eA eB eC
  refine eA.trans (eB.trans (eC.trans ?_))
  rw [e98]
  show bnd (u2 C 3 0 (nI (kpl S n p).length)) (fun S66 => bnd (u2 S66 33 0 0) fun S67 => bd (m_changes S67) fun S68 => some (nI (cn (blo Sk p) n), S68)) = _
  rw [bnd_s, ← eT, bnd_s, e2, bd_s, blo_c gk]
theorem m_remove_no {S : MM} {n : Nat} {x : Int32} (h : TS S n) (hq : plc S n x = none ∨ plc S n x = some 0) : m_remove S x = some (0, u2 S 0 0 (if plc S n x = none then 1 else 2)) := by
  unfold m_remove
  rw [placeOf_p h, bd_s]
  rcases hq with q | q
  · rw [q, plI_0, p0_if, bnd_s, bnd_s, asked1_s, if_pos rfl]
    rfl
  · rw [q, plI_s, p1_if (by decide), bnd_s, if_pos (show nI 0 = 0 from rfl), bnd_s, asked1_s, if_neg (show ¬ some 0 = none from fun z => by cases z)]
    rfl
