/-! ===== the class at rest, with the model beside it ===== -/
theorem nxS_c {S S' : MM} (g : TG S S') (n e : Nat) : nxS S' n e = nxS S n e := by
  unfold nxS
  rw [par_c g]
theorem chl_c {S S' : MM} (g : TG S S') (n e : Nat) : chl S' n e = chl S n e := by
  unfold chl
  rw [par_c g]
theorem TEL_S {S S' : MM} {n : Nat} {h : Hp} {Ee : Nat → Nat} (g : TG S S') (H : TEL S n h Ee) : TEL S' n h Ee := by
  refine ⟨H.1, fun e he => ?_⟩
  rw [g 4 (by decide) (by decide), g 6 (by decide) (by decide), g 7 (by decide) (by decide), g 8 (by decide) (by decide), g 9 (by decide) (by decide), par_c g, ahS_c g, nxS_c g, chl_c g]
  exact H.2 e he
theorem DR_S {S S' : MM} {h : Hp} {i : Nat} {o : Option Nat} (g : TG S S') (H : DR S h i o) : DR S' h i o := by
  unfold DR at *
  rw [g 20 (by decide) (by decide), g 21 (by decide) (by decide), g 22 (by decide) (by decide)]
  exact H
theorem dclS_c {S S' : MM} (g : TG S S') (r : Nat) : dclS S' r = dclS S r := funext fun p => by
  unfold dclS
  rw [g 20 (by decide) (by decide)]
theorem TR1_S {S S' : MM} {h : Hp} {ra : Nat → Nat} {pa : Nat → Nat → Nat} {Dd Pl dP : Nat → Nat} {r : Nat} (g : TG S S') (H : TR1 S h ra pa Dd Pl dP r) : TR1 S' h ra pa Dd Pl dP r := by
  obtain ⟨h1, h2, h3, h4, h5⟩ := H
  refine ⟨?_, ?_, ?_, h4, fun p hp => ⟨(h5 p hp).1, DR_S g (h5 p hp).2⟩⟩
  · rw [g 19 (by decide) (by decide), gS_c g, wS_c g, dclS_c g]
    exact h1
  · rw [g 11 (by decide) (by decide)]
    exact h2
  · rw [g 11 (by decide) (by decide), g 12 (by decide) (by decide), g 13 (by decide) (by decide), g 14 (by decide) (by decide), g 15 (by decide) (by decide)]
    exact h3
theorem TLD_S {A D : Nat → Nat} {m : Nat} {h : Hp} {S S' : MM} {n R : Nat} {Ee : Nat → Nat} {is ss : List Nat} {ra : Nat → Nat} {pa : Nat → Nat → Nat} {Dd Pl dP : Nat → Nat} (g : TG S S') (T : TLD A D m h S n R Ee is ss ra pa Dd Pl dP) : TLD A D m h S' n R Ee is ss ra pa Dd Pl dP := by
  obtain ⟨hg, hX, hL, hE, hT, ⟨ri, di, hR⟩, hx, s1, s2⟩ := T
  refine ⟨hg, hX, hL, hE, TEL_S g hT, ⟨ri, di, fun r hr => TR1_S g (hR r hr)⟩, ?_, ?_, ?_⟩
  · unfold SSo at *
    rw [stB_c g]
    exact hx
  · rw [g 2 (by decide) (by decide)]
    exact s1
  · rw [g 1 (by decide) (by decide)]
    exact s2
theorem TNR_S {S S' : MM} {n R : Nat} (g : TG S S') (H : TNR S n R) : TNR S' n R := by
  obtain ⟨a, b, c, d, e⟩ := H
  refine ⟨TG_TOLD g a, ?_, ?_, ?_, ?_⟩
  · unfold NI
    rw [g 4 (by decide) (by decide)]
    exact b
  · rw [g 9 (by decide) (by decide)]
    exact c
  · rw [g 1 (by decide) (by decide)]
    exact d
  · rw [g 19 (by decide) (by decide)]
    exact e
/-! the model's cells changed -/
theorem pm_Iz {m : Nat} {h : Hp} {S : MM} {f x : Nat} (hf : f < 640) : hI (pm m h S) f x = hI h f x := if_neg (fun z => by omega)
theorem pm_If {m : Nat} {h : Hp} {S : MM} {f : Nat} (hf : f < 640) : hI (pm m h S) f = hI h f := funext fun _ => pm_Iz hf
theorem pm_Az {m : Nat} {h : Hp} {S : MM} {x : Nat} (hx : x ≤ m ∨ m + 33 < x) : hA (pm m h S) x = hA h x := funext fun j => if_neg (fun z => by omega)
theorem pm_R {m : Nat} {h : Hp} {S : MM} : hR (pm m h S) = hR h := rfl
theorem pm_K {m : Nat} {h : Hp} {S : MM} : KP h (pm m h S) := ⟨Nat.le_refl _, fun _ _ => ⟨rfl, rfl⟩⟩
theorem AL_pm {m : Nat} {h : Hp} {S : MM} {l d : Nat} {xs : List Nat} (H : AL h l d xs) : AL (pm m h S) l d xs := by
  unfold AL at *
  rw [pm_If (by decide)]
  exact H
theorem ELS_pm {A : Nat → Nat} {m : Nat} {h : Hp} {S : MM} {El : List Nat} (H : ELS A m h El) : ELS A m (pm m h S) El := H
theorem TLD_pm {A D : Nat → Nat} {m : Nat} {h : Hp} {S S0 : MM} {n R : Nat} {Ee : Nat → Nat} {is ss : List Nat} {ra : Nat → Nat} {pa : Nat → Nat → Nat} {Dd Pl dP : Nat → Nat} (gp : Good (pm m h S0)) (T : TLD A D m h S n R Ee is ss ra pa Dd Pl dP) : TLD A D m (pm m h S0) S n R Ee is ss ra pa Dd Pl dP := by
  obtain ⟨hg, hX, ⟨l7, l8, ⟨⟨xs, l9⟩, cp⟩, l10, l11, lp⟩, hE, hT, ⟨ri, di, hR⟩, hx, s1, s2⟩ := T
  refine ⟨gp, hX, ⟨AL_pm l7, AL_pm l8, ⟨⟨xs, AL_pm l9⟩, cp⟩, AL_pm l10, AL_pm l11, lp⟩, hE, TEL_f (h := h) (fun f hf => ?_) (fun f hf => rfl) hT, ⟨ri, di, fun r hr => TR1_f hg pm_K (fun f hf => ?_) rfl rfl (AL_pm (hR r hr).2.1.2) rfl (hR r hr)⟩, hx, ?_, ?_⟩
  · rcases hf with z | z | z | z | z <;> subst z <;> exact pm_If (by decide)
  · rcases hf with z | z | z | z | z | z | z | z | z | z | z | z <;> subst z <;> exact pm_If (by decide)
  · rw [pm_If (by decide)]
    exact s1
  · rw [pm_If (by decide)]
    exact s2
theorem LKo_pm {m : Nat} {h : Hp} {S S0 : MM} {k f : Nat} (h1 : vls h k < m ∨ m + 33 < vls h k) (h2 : scs h k < m ∨ m + 33 < scs h k) (H : LKo h k S f) : LKo (pm m h S0) k S f := by
  unfold LKo at *
  rw [pm_If (f := fL_isKnown) (by decide), pm_If (f := fL_hasBox) (by decide), pm_If (f := fL_left) (by decide), pm_If (f := fL_top) (by decide), pm_If (f := fL_width) (by decide), pm_If (f := fL_height) (by decide), pm_If (f := fL_lineCount) (by decide)]
  rw [show vls (pm m h S0) k = vls h k from rfl, show scs (pm m h S0) k = scs h k from rfl, pm_Az (by omega), pm_Az (by omega)]
  exact H
theorem ar_o {A : Nat → Nat} {m : Nat} {h : Hp} {El : List Nat} (H : ELS A m h El) {k : Nat} (hk : k ∈ lks h El) : (vls h k < m ∨ m + 33 < vls h k) ∧ (scs h k < m ∨ m + 33 < scs h k) :=
  ⟨H.2.2.2.2 _ (List.mem_cons_of_mem _ (List.mem_cons_of_mem _ (List.mem_append_left _ (List.mem_map.mpr ⟨k, hk, rfl⟩)))), H.2.2.2.2 _ (List.mem_cons_of_mem _ (List.mem_cons_of_mem _ (List.mem_append_right _ (List.mem_map.mpr ⟨k, hk, rfl⟩))))⟩
theorem KO_pm {A : Nat → Nat} {m : Nat} {h : Hp} {S S0 : MM} {n : Nat} {mt : Nat → Option Nat} {Ee : Nat → Nat} {is : List Nat} (hE : ELS A m h ((List.range n).map Ee ++ is)) (H : KO h S n mt Ee) : KO (pm m h S0) S n mt Ee := fun e he => by
  have hk := H e he
  have o := ar_o hE (kp_lk (Ee_m (is := is) he))
  cases hm : mt e with
  | none =>
    rw [hm] at hk
    show hI (pm m h S0) fL_isKnown _ = 0
    rw [pm_If (by decide)]
    exact hk
  | some f =>
    rw [hm] at hk
    exact LKo_pm o.1 o.2 hk
theorem MMH_p {m : Nat} {h : Hp} {S S0 : MM} (H : MMH m h S0) : MMH m (pm m h S) S := by
  refine ⟨H.1, fun k hk => ?_, fun k hk => ?_⟩
  · show (if m = m ∧ 640 ≤ 640 + k ∧ msc (640 + k - 640) = true then S (640 + k - 640) 0 else _) = _
    rw [Nat.add_sub_cancel_left, if_pos ⟨rfl, by omega, hk⟩]
  · have := mad_r hk
    funext j
    show (if m < m + mad k ∧ m + mad k ≤ m + 33 then S (mof (m + mad k - m)) j else _) = _
    rw [if_pos ⟨by omega, by omega⟩, Nat.add_sub_cancel_left]
    have e : mof (mad k) = k := by
      have h40 := marr_lt hk
      have : ∀ k, k < 40 → marr k = true → mof (mad k) = k := by decide
      exact this k h40 hk
    rw [e]
/-- the numbers given away -/
def NM (S : MM) (n b : Nat) : Prop := ∃ nu, nu ≤ b ∧ S 2 0 = nI nu ∧ ∀ e, e < n → ∃ k, k < nu ∧ S 4 e = nI k
theorem NM_S {S S' : MM} {n b : Nat} (g : TG S S') (H : NM S n b) : NM S' n b := by
  unfold NM at *
  rw [g 2 (by decide) (by decide), g 4 (by decide) (by decide)]
  exact H
/-- what the model keeps is what is found -/
def KY (S : MM) (n R : Nat) : Prop := ∃ Y : MM, LE S Y n R ∧ VR Y n ∧ ∀ e, e < n → GV S Y e ∧ GE S Y e
/-- the class and the model at rest -/
def CI (A : Nat → Nat) (m : Nat) (h : Hp) (S : MM) (b : Nat) : Prop := ∃ (D : Nat → Nat) (n R : Nat) (Ee : Nat → Nat) (is ss : List Nat) (ra : Nat → Nat) (pa : Nat → Nat → Nat) (Dd Pl dP : Nat → Nat),
  TLD A D m h S n R Ee is ss ra pa Dd Pl dP ∧ TNR S n R ∧ KO h S n some Ee ∧ hI h fH_lastReached (A 0) = S 33 0 ∧ MMH m h S ∧ NM S n b ∧ (∀ i, 14 * R ≤ i → S 20 i = 0) ∧ n + is.length ≤ 24 ∧ KY S n R
