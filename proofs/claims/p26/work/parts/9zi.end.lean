/-! ===== the class at rest: the end of a call ===== -/
theorem good_pm {m : Nat} {h : Hp} {S : MM} (hg : Good h) (H : MW m h) : Good (pm m h S) := by
  have hm := kind_in hg H.1 (by decide)
  have h33 : m + 33 < hN h := by
    have a := (H.2 39 (by decide)).2.1
    exact (kind_in hg (k := if mbo 39 = true then 101 else 100) a (by decide)).2
  obtain ⟨a1, a2, a3, a4, a5, a6, a7⟩ := hg
  refine ⟨a1, a2, fun a ha => ?_, a4, a5, a6, a7⟩
  have ha : hN h ≤ a := ha
  obtain ⟨b1, b2, b3⟩ := a3 a ha
  refine ⟨b1, fun f => ⟨?_, (b2 f).2⟩, fun j => ⟨?_, (b3 j).2⟩⟩
  · exact (if_neg (fun z => by omega) : (if a = m ∧ 640 ≤ f ∧ msc (f - 640) = true then S (f - 640) 0 else hI h f a) = hI h f a).trans (b2 f).1
  · exact (if_neg (fun z => by omega) : (if m < a ∧ a ≤ m + 33 then S (mof (a - m)) j else hA h a j) = hA h a j).trans (b3 j).1
theorem KO_S {h : Hp} {S S' : MM} {n : Nat} {mt : Nat → Option Nat} {Ee : Nat → Nat} (e1 : S' 23 = S 23) (e2 : S' 24 = S 24) (e3 : S' 25 = S 25) (e4 : S' 26 = S 26) (H : KO h S n mt Ee) : KO h S' n mt Ee := fun e he => by
  have hk := H e he
  cases hm : mt e with
  | none =>
    rw [hm] at hk
    exact hk
  | some f =>
    rw [hm] at hk
    show LKo h _ S' f
    unfold LKo at *
    rw [e1, e2, e3, e4]
    exact hk
/-- the model only says what it threw -/
theorem CI_0 {A : Nat → Nat} {m : Nat} {h : Hp} {S : MM} {b b' : Nat} {v : Int32} (hb : b ≤ b') (H : CI A m h S b) : CI A m (pm m h (u2 S 0 0 v)) (u2 S 0 0 v) b' := by
  obtain ⟨D, n, R, Ee, is, ss, ra, pa, Dd, Pl, dP, T, N, O, hl, M, nu, z, len, ky1, ky2, ky3, ky4⟩ := H
  have g : TG S (u2 S 0 0 v) := fun k h1 _ => by funext j; rw [u2_row (by omega)]
  have r : ∀ k, k ≠ 0 → u2 S 0 0 v k = S k := fun k hk => funext fun j => by rw [u2_row hk]
  obtain ⟨k1, k2, k3⟩ := NM_S g nu
  refine ⟨D, n, R, Ee, is, ss, ra, pa, Dd, Pl, dP, TLD_S g (TLD_pm (good_pm T.1 M.1) T), TNR_S g N, KO_S (r 23 (by decide)) (r 24 (by decide)) (r 25 (by decide)) (r 26 (by decide)) (KO_pm T.2.2.2.1 O), ?_, MMH_p M, ⟨k1, Nat.le_trans k2 hb, k3⟩, ?_, len, ky1, LE_c g ky2, ky3, fun e he => ?_⟩
  · rw [pm_If (by decide), r 33 (by decide)]
    exact hl
  · rw [r 20 (by decide)]
    exact z
  · have := ky4 e he
    unfold GV GE at *
    rw [r 23 (by decide), r 24 (by decide), r 25 (by decide), r 26 (by decide)]
    exact this
theorem CI_step {A D : Nat → Nat} {m b : Nat} {h : Hp} {S0 T S' : MM} {n R : Nat} {Ee : Nat → Nat} {is ss : List Nat} {ra : Nat → Nat} {pa : Nat → Nat → Nat} {Dd Pl dP : Nat → Nat} (TL : TLD A D m h T n R Ee is ss ra pa Dd Pl dP) (hT : TNR T n R) (O : KO h S' n some Ee) (hl : hI h fH_lastReached (A 0) = S' 33 0) (M : MMH m h S0) (g : TG T S') (nu : NM T n b) (z : ∀ i, 14 * R ≤ i → T 20 i = 0) (len : n + is.length ≤ 24) {Y : MM} (hY : LE T Y n R) (hV : VR Y n) (gg : ∀ e, e < n → GV S' Y e ∧ GE S' Y e) : CI A m (pm m h S') S' b := by
  refine ⟨D, n, R, Ee, is, ss, ra, pa, Dd, Pl, dP, TLD_S g (TLD_pm (good_pm TL.1 M.1) TL), TNR_S g hT, KO_pm TL.2.2.2.1 O, ?_, MMH_p M, NM_S g nu, ?_, len, Y, LE_c g hY, hV, gg⟩
  · rw [pm_If (by decide)]
    exact hl
  · rw [g 20 (by decide) (by decide)]
    exact z
/-- what stays where it was -/
def STY (h h' : Hp) : Prop := Good h' ∧ KP h h' ∧ hW h' = hW h