/-! ===== the law: the end of a call on both sides ===== -/
theorem CI_M {A : Nat → Nat} {m b : Nat} {h : Hp} {S : MM} (H : CI A m h S b) : MMH m h S := by
  obtain ⟨D, n, R, Ee, is, ss, ra, pa, Dd, Pl, dP, T, N, O, hl, M, _⟩ := H
  exact M
theorem CI_g {A : Nat → Nat} {m b : Nat} {h : Hp} {S : MM} (H : CI A m h S b) : Good h ∧ hK h (A 0) = 9 := by
  obtain ⟨D, n, R, Ee, is, ss, ra, pa, Dd, Pl, dP, T, _⟩ := H
  exact ⟨T.1, T.2.1.1.1⟩
theorem CI_up {A : Nat → Nat} {m b b' : Nat} {h : Hp} {S : MM} (hb : b ≤ b') (H : CI A m h S b) : CI A m h S b' := by
  obtain ⟨D, n, R, Ee, is, ss, ra, pa, Dd, Pl, dP, T, N, O, hl, M, ⟨k1, k2, k3⟩, r⟩ := H
  exact ⟨D, n, R, Ee, is, ss, ra, pa, Dd, Pl, dP, T, N, O, hl, M, ⟨k1, Nat.le_trans k2 hb, k3⟩, r⟩
theorem CI_sW {A : Nat → Nat} {m b o j : Nat} {h : Hp} {S : MM} {w : Int64} (ho : hK h o = 102) (H : CI A m h S b) : CI A m (sW h o j w) S b := by
  obtain ⟨D, n, R, Ee, is, ss, ra, pa, Dd, Pl, dP, ⟨hg, hX, hL, hE, hT, hR, hx, s1, s2⟩, N, O, hl, M, r⟩ := H
  exact ⟨D, n, R, Ee, is, ss, ra, pa, Dd, Pl, dP, ⟨gd_sW hg (kind_in hg ho (by decide)).2, hX, hL, hE, hT, hR, hx, s1, s2⟩, N, O, hl, M, r⟩
/-- both sides at rest behind a call: kk what was thrown, w what the law keeps of the answer -/
def FIN (A : Nat → Nat) (m o : Nat) (S' : MM) (b : Nat) (h1 h2 : Hp) (kk : Int32) (w : Int64) : Prop := CI A m h2 S' b ∧ (kk = 0 → hW h2 o 0 = w) ∧ hK h2 o = 102 ∧ 0 < hL h2 o ∧ hK h1 m = 10 ∧ hK h2 m = 10
theorem sW_at {h : Hp} {o j : Nat} {w : Int64} : hW (sW h o j w) o j = w := by
  show va_up (hW h) o (va_up (hW h o) j w) o j = w
  rw [va_up_self, va_up_self]
theorem fin_ok {A : Nat → Nat} {m b b' o : Nat} {h hc : Hp} {S S' : MM} (w : Int64) (H : CI A m h S b) (O : OKr A m h S b' hc S') (ho : hK h o = 102) (hl : 0 < hL h o) : MW m (sW hc o 0 w) ∧ pm m (sW hc o 0 w) S = sW hc o 0 w ∧ hK hc o = 102 ∧ 0 < hL hc o ∧ S' 0 0 = 0 ∧ FIN A m o S' b' (sW hc o 0 w) (pm m (sW hc o 0 w) S') 0 w := by
  obtain ⟨s0, C, M, g2, K, _⟩ := O
  have hg := (CI_g H).1
  have k2 : hK hc o = 102 := KP_k hg K ho (by decide)
  have l2 : 0 < hL hc o := by rw [KP_l hg K ho (by decide)]; exact hl
  have M1 : MMH m (sW hc o 0 w) S := M
  refine ⟨M1.1, MMH_pm M1, k2, l2, s0, ?_, fun _ => ?_, k2, l2, M.1.1, M.1.1⟩
  · exact CI_sW (h := pm m hc S') (j := 0) (w := w) k2 C
  · exact sW_at
theorem XKr_0 {A : Nat → Nat} {m b : Nat} {h : Hp} {S : MM} {c : Int32} (H : CI A m h S b) : XKr A m h S b h c := ⟨CI_0 (Nat.le_refl b) H, CI_M H, (CI_g H).1, KP_r h, rfl⟩
theorem fin_x {A : Nat → Nat} {m b b' o : Nat} {h hc : Hp} {S : MM} {c : Int32} (w : Int64) (H : CI A m h S b) (hc0 : c ≠ 0) (hb : b ≤ b') (O : XKr A m h S b hc c) (ho : hK h o = 102) (hl : 0 < hL h o) : MW m hc ∧ pm m hc S = hc ∧ (u2 S 0 0 c) 0 0 = c ∧ FIN A m o (u2 S 0 0 c) b' hc (pm m hc (u2 S 0 0 c)) c w := by
  obtain ⟨C, M, g2, K, _⟩ := O
  have hg := (CI_g H).1
  have k2 : hK hc o = 102 := KP_k hg K ho (by decide)
  have l2 : 0 < hL hc o := by rw [KP_l hg K ho (by decide)]; exact hl
  exact ⟨M.1, MMH_pm M, u2_self _ _ _ _, CI_up hb C, fun z => absurd z hc0, k2, l2, M.1.1, M.1.1⟩
theorem and31 (y : Int32) : ∃ j, j < 32 ∧ y &&& 31 = nI j := by
  refine ⟨(y.toBitVec &&& 31#32).toNat, ?_, ?_⟩
  · rw [BitVec.toNat_and]
    exact Nat.lt_of_le_of_lt Nat.and_le_right (by decide)
  · apply Int32.toBitVec_inj.mp
    show y.toBitVec &&& 31#32 = BitVec.ofNat 32 (y.toBitVec &&& 31#32).toNat
    rw [BitVec.ofNat_toNat, BitVec.setWidth_eq]
theorem cmp_self (x : Int64) : lg_cmp x x = 0 := by
  unfold lg_cmp
  rw [if_neg (Int64.lt_irrefl), if_pos rfl]
theorem bz01 (x : Int32) : (if x = 0 then (0 : Int32) else 1) = 0 ∨ (if x = 0 then (0 : Int32) else 1) = 1 := by
  by_cases q : x = 0
  · exact Or.inl (if_pos q)
  · exact Or.inr (if_neg q)
/-- the law's look at what is left of the script -/
theorem sub7 {L i : Nat} (hL : L < 2 ^ 30) (hi : i < 2 ^ 30) : nI L - 7 < nI i ↔ L < i + 7 := by
  by_cases q : 7 ≤ L
  · have e : nI L - 7 = nI (L - 7) := by
      have : nI L = nI (L - 7) + 7 := by
        rw [nI_plus (L - 7) 7 7 rfl, show L - 7 + 7 = L by omega]
      rw [this, Int32.add_sub_cancel]
    rw [e]
    constructor
    · intro w
      have : ¬ i ≤ L - 7 := fun z => nI_nlt z (by omega) w
      omega
    · intro w
      exact nI_lt (by omega) (by omega)
  · have q : L = 0 ∨ L = 1 ∨ L = 2 ∨ L = 3 ∨ L = 4 ∨ L = 5 ∨ L = 6 := by omega
    refine ⟨fun _ => by omega, fun _ => ?_⟩
    have h0 : nI L - 7 < 0 := by
      rcases q with z | z | z | z | z | z | z <;> subst z <;> decide
    exact Int32.lt_of_lt_of_le h0 (nI_le (a := 0) (Nat.zero_le _) (by omega))
