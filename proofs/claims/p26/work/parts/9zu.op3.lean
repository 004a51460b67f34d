/-! ===== the calls declare, say, refer, empty: both sides ===== -/
theorem DN_pt {h : Hp} {r D p d d2 : Nat} {k v f : Int32} (H : DN h d k v f) : DN (ptO h r D p d2) d k v f := by
  unfold DN at *
  have e : ∀ g, g ≠ fU_declarationCount → hI (ptO h r D p d2) g = hI h g := fun g hg => by
    unfold ptO
    rw [hI_sQ, iI_ne hg]
  rw [e _ (by decide), e _ (by decide), e _ (by decide)]
  exact H
theorem pt_fr (h : Hp) (r D p d : Nat) : KP h (ptO h r D p d) ∧ hR (ptO h r D p d) = hR h ∧ hA (ptO h r D p d) = hA h ∧ hW (ptO h r D p d) = hW h ∧ ∀ g, g ≠ fU_declarationCount → hI (ptO h r D p d) g = hI h g :=
  ⟨⟨Nat.le_refl _, fun _ _ => ⟨rfl, rfl⟩⟩, rfl, rfl, rfl, fun g hg => by unfold ptO; rw [hI_sQ, iI_ne hg]⟩
/-- what putInto leaves -/
def puO (h : Hp) (r D p d : Nat) : Hp := if p = 14 then ptO (ptO h r D 3 d) r D 4 d else ptO h r D p d
theorem pu_fr (h : Hp) (r D p d : Nat) : KP h (puO h r D p d) ∧ hR (puO h r D p d) = hR h ∧ hA (puO h r D p d) = hA h ∧ hW (puO h r D p d) = hW h ∧ ∀ g, g ≠ fU_declarationCount → hI (puO h r D p d) g = hI h g := by
  unfold puO
  by_cases q : p = 14
  · rw [if_pos q]
    obtain ⟨a1, a2, a3, a4, a5⟩ := pt_fr h r D 3 d
    obtain ⟨b1, b2, b3, b4, b5⟩ := pt_fr (ptO h r D 3 d) r D 4 d
    exact ⟨KP_t a1 b1, b2.trans a2, b3.trans a3, b4.trans a4, fun g hg => (b5 g hg).trans (a5 g hg)⟩
  · rw [if_neg q]
    exact pt_fr h r D p d
theorem tDec_o {S : MM} {r p : Nat} {k v f : Int32} {a : Nat} (h : a ≤ 19) : tDec S r p k v f a = S a := by
  by_cases q : p = 14
  · subst q
    rw [tDec_2, t3_o h, t3_o h]
  · rw [tDec_1 q, t3_o h]
theorem tDec_n {S : MM} {r p R i : Nat} {k v f : Int32} (hp : p ≤ 14) (hr : r < R) (hi : 14 * R ≤ i) (a : Nat) : tDec S r p k v f a i = S a i := by
  by_cases q : p = 14
  · subst q
    rw [tDec_2, t3_n (by omega), t3_n (by omega)]
  · rw [tDec_1 q, t3_n (by omega)]
theorem tDec_D {S : MM} {R q p : Nat} {k v f : Int32} (hp : p ≤ 14) (h1 : VD (dlo p) k v f) (h2 : VD (dhi p) k v f) (H : TDo S R) : TDo (tDec S q p k v f) R := by
  by_cases z : p = 14
  · subst z
    rw [tDec_2]
    exact t3_D (by decide) h2 (t3_D (by decide) h1 H)
  · have e1 : dlo p = p := if_neg z
    rw [e1] at h1
    rw [tDec_1 z]
    exact t3_D (by omega) h1 H
theorem cnt_tDec {S : MM} {q p : Nat} {k v f : Int32} (hp : p ≤ 14) (hk : k ≠ 0) : cn (dclS (tDec S q p k v f) q) 14 = cntD S q p := by
  unfold cntD
  by_cases z : p = 14
  · subst z
    rw [tDec_2, dcl_t3 (by decide) hk, dcl_t3 (by decide) hk, show dlo 14 = 3 from rfl]
    have e : dclS (t3 S (14 * q + 3) k v f) q 4 = dclS S q 4 := by
      unfold dclS
      rw [t3_n (by omega)]
    rw [e]
    cases dclS S q 4
    · rw [if_neg (show ¬ false = true from fun z => Bool.noConfusion z), if_pos (show 14 = 14 ∧ false = false from ⟨rfl, rfl⟩)]
    · rw [if_pos (show true = true from rfl), if_neg (show ¬ (14 = 14 ∧ true = false) from fun z => Bool.noConfusion z.2)]
  · rw [tDec_1 z, dcl_t3 (by omega) hk, if_neg (show ¬ (p = 14 ∧ dclS S q 4 = false) from fun y => z y.1), show dlo p = p from if_neg z, Nat.add_zero]
theorem cwO_s {S : MM} {h : Hp} {ra : Nat → Nat} {pa : Nat → Nat → Nat} {Dd Pl dP : Nat → Nat} {r p : Nat} (hp : p ≤ 14) (H : TR1 S h ra pa Dd Pl dP r) : cwO h (ra r) (Dd r) p = nI (cntD S r p) := by
  unfold cwO cntD
  rw [H.1.2.2.2.2]
  by_cases z : p = 14
  · subst z
    rw [if_pos rfl, nwo_d (H.2.2.2.2 3 (by decide)).2, nwo_d (H.2.2.2.2 4 (by decide)).2, nI_add, nI_add, show dlo 14 = 3 from rfl]
    cases dclS S r 4
    · rw [if_neg (show ¬ false = true from fun z => Bool.noConfusion z), if_pos (show 14 = 14 ∧ false = false from ⟨rfl, rfl⟩)]
    · rw [if_pos (show true = true from rfl), if_neg (show ¬ (14 = 14 ∧ true = false) from fun z => Bool.noConfusion z.2)]
  · rw [if_neg z, nwo_d (H.2.2.2.2 p (by omega)).2, nI_add, if_neg (show ¬ (p = 14 ∧ dclS S r 4 = false) from fun y => z y.1), show dlo p = p from if_neg z, Nat.add_zero]
theorem dec_no (l : Launch) (G : Gl) {A D : Nat → Nat} {m : Nat} {h h0 : Hp} {S : MM} {n R r p d : Nat} {Ee : Nat → Nat} {is ss : List Nat} {ra : Nat → Nat} {pa : Nat → Nat → Nat} {Dd Pl dP : Nat → Nat} (T : TLD A D m h S n R Ee is ss ra pa Dd Pl dP) (hr : r < R) (hp : p ≤ 14) (g0 : Good h0) (F : OLD h h0) (h6 : 6 < cntD S r p) : MRw l G yX11_putInto (.code yX11_putInto cX11_putInto 3 none) 8 1 6 [.ref (ra r), .int (nI p), .ref d] h0 (.inr (xS, h0)) := by
  have T0 := TLD_old g0 F T
  have hRr := T0.2.2.2.2.2.1.2.2 r hr
  have hle := cntD_le (S := S) (r := r) (p := p)
  exact c_putIntoN l G hRr.2.2.2.1 hp (by rw [cwO_s hp hRr]; exact nI_lt (a := 6) h6 (by omega))
theorem canBe_i {p : Nat} (hp : p ≤ 14) (v : Int32) : (if pLe (pq p) ≤ v ∧ v ≤ pGr (pq p) then (1 : Int32) else 0) = m_canBe (nI p) v := by
  have := canBe_c hp v
  by_cases q : pLe (pq p) ≤ v ∧ v ≤ pGr (pq p)
  · rw [if_pos q, this.mpr q]
  · rw [if_neg q]
    rcases b_canBe (a0 := nI p) (a1 := v) with z | z
    · exact z.symm
    · exact absurd (this.mp z) q
theorem canBe_l {p : Nat} (hp : p ≤ 14) {v : Int32} (h : m_canBe (nI p) v = 1) : m_canBe (nI (dlo p)) v = 1 ∧ m_canBe (nI (dhi p)) v = 1 := by
  by_cases z : p = 14
  · subst z
    exact ⟨h, h⟩
  · rw [show dlo p = p from if_neg z, show dhi p = p from if_neg z]
    exact ⟨h, h⟩