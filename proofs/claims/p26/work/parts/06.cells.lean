
/-! what the setters do to the cells -/
theorem ce_obj {G : Gf} {ρ : Nat → Nat} {h : Hp} {a ci : Nat} (hk : hK h a = ci) (h1 : ci < 100) : ce G ρ h a = .inr (ci, (List.range (cnt ci)).map (fld ρ h ci a)) := by
  unfold ce
  rw [hk, if_pos h1]
theorem ce_int {G : Gf} {ρ : Nat → Nat} {h : Hp} {a : Nat} (hk : hK h a = 100) : ce G ρ h a = .inl (gC G 0, hL h a, .inl (hA h a)) := by
  unfold ce
  rw [hk]
  rfl
theorem ce_boo {G : Gf} {ρ : Nat → Nat} {h : Hp} {a : Nat} (hk : hK h a = 101) : ce G ρ h a = .inl (gC G 1, hL h a, .inl (hA h a)) := by
  unfold ce
  rw [hk]
  rfl
theorem ce_lon {G : Gf} {ρ : Nat → Nat} {h : Hp} {a : Nat} (hk : hK h a = 102) : ce G ρ h a = .inl (gC G 2, hL h a, .inr (.inl (hW h a))) := by
  unfold ce
  rw [hk]
  rfl
theorem ce_ref {G : Gf} {ρ : Nat → Nat} {h : Hp} {a i : Nat} (hk : hK h a = 103 + i) : ce G ρ h a = .inl (gC G (3 + i), hL h a, .inr (.inr (.inr (.inr (fun j => (hQ h a j).map ρ))))) := by
  unfold ce
  rw [hk, if_neg (by omega), if_neg (by omega), if_neg (by omega), show 103 + i - 100 = 3 + i by omega]
theorem fld_sI {ρ : Nat → Nat} {h : Hp} {f a c b k : Nat} {v : Int32} (hn : b ≠ a ∨ c * 64 + k ≠ f) : fld ρ (sI h f a v) c b k = fld ρ h c b k := by
  unfold fld
  have e : hI (sI h f a v) (c * 64 + k) b = hI h (c * 64 + k) b := by
    show va_up (hI h) f (va_up (hI h f) a v) (c * 64 + k) b = _
    by_cases q : c * 64 + k = f
    · subst q
      rw [va_up_self, va_up_ne _ _ (hn.resolve_right (fun z => z rfl))]
    · rw [va_up_ne _ _ q]
  rw [e]
  rfl
theorem fld_sR {ρ : Nat → Nat} {h : Hp} {f a c b k : Nat} {v : Option Nat} (hn : b ≠ a ∨ c * 64 + k ≠ f) : fld ρ (sR h f a v) c b k = fld ρ h c b k := by
  unfold fld
  have e : hR (sR h f a v) (c * 64 + k) b = hR h (c * 64 + k) b := by
    show va_up (hR h) f (va_up (hR h f) a v) (c * 64 + k) b = _
    by_cases q : c * 64 + k = f
    · subst q
      rw [va_up_self, va_up_ne _ _ (hn.resolve_right (fun z => z rfl))]
    · rw [va_up_ne _ _ q]
  rw [e]
  rfl
theorem fld_sI_self {ρ : Nat → Nat} {h : Hp} {a c k : Nat} {v : Int32} (hr : isRf (cty c k) = false) : fld ρ (sI h (c * 64 + k) a v) c a k = .int v := by
  unfold fld
  rw [hr]
  show Value.int (va_up (hI h) (c * 64 + k) (va_up (hI h (c * 64 + k)) a v) (c * 64 + k) a) = _
  rw [va_up_self, va_up_self]
theorem fld_sR_self {ρ : Nat → Nat} {h : Hp} {a c k : Nat} {v : Option Nat} (hr : isRf (cty c k) = true) : fld ρ (sR h (c * 64 + k) a v) c a k = va_rf (v.map ρ) := by
  unfold fld
  rw [if_pos hr]
  show va_rf ((va_up (hR h) (c * 64 + k) (va_up (hR h (c * 64 + k)) a v) (c * 64 + k) a).map ρ) = _
  rw [va_up_self, va_up_self]
theorem map_set {f g : Nat → Value} {n k : Nat} {v : Value} (h1 : g k = v) (h2 : ∀ j, j ≠ k → g j = f j) : ((List.range n).map f).set k v = (List.range n).map g := by
  apply List.ext_getElem?
  intro j
  by_cases hj : j = k
  · subst hj
    by_cases hn : j < n
    · rw [List.getElem?_set_self (by simpa using hn)]
      simp [hn, h1]
    · rw [List.getElem?_eq_none (by simp; omega), List.getElem?_eq_none (by simp; omega)]
  · rw [List.getElem?_set_ne (Ne.symm hj)]
    by_cases hn : j < n
    · simp [hn, h2 j hj]
    · rw [List.getElem?_eq_none (by simp; omega), List.getElem?_eq_none (by simp; omega)]
theorem ce_sI {G : Gf} {ρ : Nat → Nat} {h : Hp} {a ci kf : Nat} {v : Int32} (hk : hK h a = ci) (h1 : ci < 100) (hr : isRf (cty ci kf) = false) : ce G ρ (sI h (ci * 64 + kf) a v) a = .inr (ci, ((List.range (cnt ci)).map (fld ρ h ci a)).set kf (.int v)) := by
  rw [ce_obj (show hK (sI h (ci * 64 + kf) a v) a = ci from hk) h1, map_set (fld_sI_self hr) (fun j hj => fld_sI (Or.inr (by omega)))]
theorem ce_sR {G : Gf} {ρ : Nat → Nat} {h : Hp} {a ci kf : Nat} {v : Option Nat} (hk : hK h a = ci) (h1 : ci < 100) (hr : isRf (cty ci kf) = true) : ce G ρ (sR h (ci * 64 + kf) a v) a = .inr (ci, ((List.range (cnt ci)).map (fld ρ h ci a)).set kf (va_rf (v.map ρ))) := by
  rw [ce_obj (show hK (sR h (ci * 64 + kf) a v) a = ci from hk) h1, map_set (fld_sR_self hr) (fun j hj => fld_sR (Or.inr (by omega)))]
theorem ce_sI_ne {G : Gf} {ρ : Nat → Nat} {h : Hp} {f a b : Nat} {v : Int32} (hn : b ≠ a) : ce G ρ (sI h f a v) b = ce G ρ h b := by
  have e : fld ρ (sI h f a v) (hK h b) b = fld ρ h (hK h b) b := funext fun k => fld_sI (Or.inl hn)
  show (if hK h b < 100 then _ else _) = (if hK h b < 100 then _ else _)
  rw [show hK (sI h f a v) b = hK h b from rfl, e]
  rfl
theorem ce_sR_ne {G : Gf} {ρ : Nat → Nat} {h : Hp} {f a b : Nat} {v : Option Nat} (hn : b ≠ a) : ce G ρ (sR h f a v) b = ce G ρ h b := by
  have e : fld ρ (sR h f a v) (hK h b) b = fld ρ h (hK h b) b := funext fun k => fld_sR (Or.inl hn)
  show (if hK h b < 100 then _ else _) = (if hK h b < 100 then _ else _)
  rw [show hK (sR h f a v) b = hK h b from rfl, e]
  rfl
theorem ce_sA_ne {G : Gf} {ρ : Nat → Nat} {h : Hp} {j a b : Nat} {v : Int32} (hn : b ≠ a) : ce G ρ (sA h a j v) b = ce G ρ h b := by
  have e : hA (sA h a j v) b = hA h b := va_up_ne _ _ hn
  show (if hK h b < 100 then _ else _) = (if hK h b < 100 then _ else _)
  rw [e]
  rfl
theorem ce_sW_ne {G : Gf} {ρ : Nat → Nat} {h : Hp} {j a b : Nat} {v : Int64} (hn : b ≠ a) : ce G ρ (sW h a j v) b = ce G ρ h b := by
  have e : hW (sW h a j v) b = hW h b := va_up_ne _ _ hn
  show (if hK h b < 100 then _ else _) = (if hK h b < 100 then _ else _)
  rw [e]
  rfl
theorem ce_sQf_ne {G : Gf} {ρ : Nat → Nat} {h : Hp} {a b : Nat} {f : Nat → Option Nat} (hn : b ≠ a) : ce G ρ (sQf h a f) b = ce G ρ h b := by
  have e : hQ (sQf h a f) b = hQ h b := va_up_ne _ _ hn
  show (if hK h b < 100 then _ else _) = (if hK h b < 100 then _ else _)
  rw [e]
  rfl
/-! .. and to being closed -/
theorem gd_sI {h : Hp} {f a : Nat} {v : Int32} (hg : Good h) (ha : a < hN h) : Good (sI h f a v) := by
  obtain ⟨g1, g2, g3, g4, g5, g6, g7⟩ := hg
  refine ⟨g1, g2, fun b hb => ⟨(g3 b hb).1, fun f' => ⟨?_, ((g3 b hb).2.1 f').2⟩, (g3 b hb).2.2⟩, g4, g5, g6, g7⟩
  have hb' : hN h ≤ b := hb
  show va_up (hI h) f (va_up (hI h f) a v) f' b = 0
  by_cases q : f' = f
  · subst q
    rw [va_up_self, va_up_ne _ _ (by omega)]
    exact ((g3 b hb).2.1 f').1
  · rw [va_up_ne _ _ q]
    exact ((g3 b hb).2.1 f').1
theorem gd_sR {h : Hp} {f a : Nat} {v : Option Nat} (hg : Good h) (ha : a < hN h) (hv : ∀ b, v = some b → b < hN h) : Good (sR h f a v) := by
  obtain ⟨g1, g2, g3, g4, g5, g6, g7⟩ := hg
  refine ⟨g1, g2, fun b hb => ⟨(g3 b hb).1, fun f' => ⟨((g3 b hb).2.1 f').1, ?_⟩, (g3 b hb).2.2⟩, fun f' b w hw => ?_, g5, g6, g7⟩
  · have hb' : hN h ≤ b := hb
    show va_up (hR h) f (va_up (hR h f) a v) f' b = none
    by_cases q : f' = f
    · subst q
      rw [va_up_self, va_up_ne _ _ (by omega)]
      exact ((g3 b hb).2.1 f').2
    · rw [va_up_ne _ _ q]
      exact ((g3 b hb).2.1 f').2
  · have hw' : va_up (hR h) f (va_up (hR h f) a v) f' b = some w := hw
    by_cases q : f' = f
    · subst q
      rw [va_up_self] at hw'
      by_cases q2 : b = a
      · subst q2
        rw [va_up_self] at hw'
        exact hv w hw'
      · rw [va_up_ne _ _ q2] at hw'
        exact g4 _ _ _ hw'
    · rw [va_up_ne _ _ q] at hw'
      exact g4 _ _ _ hw'
theorem gd_sA {h : Hp} {a j : Nat} {v : Int32} (hg : Good h) (ha : a < hN h) : Good (sA h a j v) := by
  obtain ⟨g1, g2, g3, g4, g5, g6, g7⟩ := hg
  refine ⟨g1, g2, fun b hb => ⟨(g3 b hb).1, (g3 b hb).2.1, fun i => ⟨?_, ((g3 b hb).2.2 i).2⟩⟩, g4, g5, g6, g7⟩
  have hb' : hN h ≤ b := hb
  show va_up (hA h) a _ b i = 0
  rw [va_up_ne _ _ (by omega)]
  exact ((g3 b hb).2.2 i).1
theorem gd_sW {h : Hp} {a j : Nat} {v : Int64} (hg : Good h) (ha : a < hN h) : Good (sW h a j v) := by
  obtain ⟨g1, g2, g3, g4, g5, g6, g7⟩ := hg
  refine ⟨g1, g2, fun b hb => ⟨(g3 b hb).1, (g3 b hb).2.1, fun i => ⟨((g3 b hb).2.2 i).1, ((g3 b hb).2.2 i).2.1, ?_⟩⟩, g4, g5, g6, g7⟩
  have hb' : hN h ≤ b := hb
  show va_up (hW h) a _ b i = 0
  rw [va_up_ne _ _ (by omega)]
  exact ((g3 b hb).2.2 i).2.2
theorem gd_sQf {h : Hp} {a : Nat} {f : Nat → Option Nat} (hg : Good h) (ha : a < hN h) (hv : ∀ j b, f j = some b → b < hN h) : Good (sQf h a f) := by
  obtain ⟨g1, g2, g3, g4, g5, g6, g7⟩ := hg
  refine ⟨g1, g2, fun b hb => ⟨(g3 b hb).1, (g3 b hb).2.1, fun i => ⟨((g3 b hb).2.2 i).1, ?_, ((g3 b hb).2.2 i).2.2⟩⟩, g4, fun b i w hw => ?_, g6, g7⟩
  · have hb' : hN h ≤ b := hb
    show va_up (hQ h) a _ b i = none
    rw [va_up_ne _ _ (by omega)]
    exact ((g3 b hb).2.2 i).2.1
  · have hw' : va_up (hQ h) a f b i = some w := hw
    by_cases q : b = a
    · subst q
      rw [va_up_self] at hw'
      exact hv _ _ hw'
    · rw [va_up_ne _ _ q] at hw'
      exact g5 _ _ _ hw'
theorem gd_nw {h : Hp} {k n : Nat} (hg : Good h) (hk : okK k = true) (hn : n < 2 ^ 31) : Good (nw h k n) := by
  obtain ⟨g1, g2, g3, g4, g5, g6, g7⟩ := hg
  refine ⟨Nat.le_succ_of_le g1, fun a ha => ?_, fun b hb => ?_, fun f b w hw => Nat.lt_succ_of_lt (g4 f b w hw), fun b i w hw => Nat.lt_succ_of_lt (g5 b i w hw), fun a h6 ha => ?_, fun a => ?_⟩
  · show va_up (hK h) (hN h) k a = 999
    rw [va_up_ne _ _ (by omega)]
    exact g2 a ha
  · have hb' : hN h + 1 ≤ b := hb
    have := g3 b (by omega)
    refine ⟨?_, this.2.1, this.2.2⟩
    show va_up (hK h) (hN h) k b = 999
    rw [va_up_ne _ _ (by omega)]
    exact this.1
  · have ha' : a < hN h + 1 := ha
    show okK (va_up (hK h) (hN h) k a) = true
    by_cases q : a = hN h
    · subst q
      rw [va_up_self]
      exact hk
    · rw [va_up_ne _ _ q]
      exact g6 a h6 (by omega)
  · show va_up (hL h) (hN h) n a < 2 ^ 31
    by_cases q : a = hN h
    · rw [q, va_up_self]
      exact hn
    · rw [va_up_ne _ _ q]
      exact g7 a
/-- a new cell at the end -/
theorem wsF_push {G : Gf} {ρ : Nat → Nat} {h : Hp} {k n q : Nat} (hg : Good h) {e : va_E} (he : ce G (va_up ρ (hN h) q) (nw h k n) (hN h) = e) : wsF G ρ h ++ [(q, e)] = wsF G (va_up ρ (hN h) q) (nw h k n) := by
  have hN1 : hN (nw h k n) - 6 = (hN h - 6) + 1 := by
    have := hg.1
    show hN h + 1 - 6 = _
    omega
  have e6 : hN h - 6 + 6 = hN h := Nat.sub_add_cancel hg.1
  unfold wsF
  rw [hN1, List.range_succ, List.map_append, List.map_singleton, e6, he, va_up_self]
  congr 1
  apply List.map_congr_left
  intro i hi
  rw [List.mem_range] at hi
  have hl : i + 6 < hN h := by omega
  have hne : i + 6 ≠ hN h := by omega
  have hex : ∀ a, a < hN h → va_up ρ (hN h) q a = ρ a := fun a ha => va_up_ne _ _ (by omega)
  rw [hex _ hl, ← ce_ext hex hg]
  refine congrArg (Prod.mk _) ?_
  have ek : hK (nw h k n) (i + 6) = hK h (i + 6) := va_up_ne _ _ hne
  have el : hL (nw h k n) (i + 6) = hL h (i + 6) := va_up_ne _ _ hne
  unfold ce
  rw [ek, el]
  rfl
