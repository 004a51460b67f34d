/-! ===== the simple changes: window, ask; the ranges ===== -/
theorem TLD_wi {A D : Nat → Nat} {m : Nat} {h : Hp} {S : MM} {n R : Nat} {Ee : Nat → Nat} {is ss : List Nat} {ra : Nat → Nat} {pa : Nat → Nat → Nat} {Dd Pl dP : Nat → Nat} {v : Int32} (T : TLD A D m h S n R Ee is ss ra pa Dd Pl dP) : TLD A D m (sI h fH_windowWidth (A 0) v) (u2 S 1 0 v) n R Ee is ss ra pa Dd Pl dP := by
  obtain ⟨hg, hX, hL, hE, hT, ⟨ri, di, hR⟩, hx, s1, s2⟩ := T
  have ro : ∀ a, a ≠ 1 → u2 S 1 0 v a = S a := fun a ha => funext fun j => by rw [u2_row ha]
  have fo : ∀ g, g ≠ fH_windowWidth → hI (sI h fH_windowWidth (A 0) v) g = hI h g := fun g hg => iI_ne hg
  have gr : RU S (u2 S 1 0 v) := fun a h1 h2 _ => ro a (by omega)
  have ge : EU S (u2 S 1 0 v) := fun a h1 h2 => ro a (by omega)
  refine ⟨gd_sI hg (kind_in hg hX.1.1 (by decide)).2, FXD_f hg KP_sI (fun _ _ => rfl) hX, LSS_sI (by decide) hL, hE, TEL_e ge (TEL_f (h := h) (fun f hf => fo f ?_) (fun f hf => rfl) hT), ⟨ri, di, fun r hr => ?_⟩, SSo_r gr hx, ?_, ?_⟩
  · rcases hf with z | z | z | z | z <;> subst z <;> decide
  · refine TR1_r gr (by rw [ro 19 (by omega)]) (TR1_f hg KP_sI (fun g hg => fo g ?_) rfl rfl (AL_sI (by decide) (hR r hr).2.1.2) rfl (hR r hr))
    rcases hg with z | z | z | z | z | z | z | z | z | z | z | z <;> subst z <;> decide
  · rw [fo _ (by decide), ro 2 (by omega)]
    exact s1
  · rw [iI_at, u2_self]
theorem TLD_as {A D : Nat → Nat} {m : Nat} {h : Hp} {S : MM} {n R : Nat} {Ee : Nat → Nat} {is ss : List Nat} {ra : Nat → Nat} {pa : Nat → Nat → Nat} {Dd Pl dP : Nat → Nat} {q : Nat} {v : Int32} (hq : q < R) (T : TLD A D m h S n R Ee is ss ra pa Dd Pl dP) : TLD A D m (sI h fU_least (ra q) v) (u2 S 19 q v) n R Ee is ss ra pa Dd Pl dP := by
  obtain ⟨hg, hX, hL, hE, hT, ⟨ri, di, hR⟩, hx, s1, s2⟩ := T
  have ro : ∀ a, a ≠ 19 → u2 S 19 q v a = S a := fun a ha => funext fun j => by rw [u2_row ha]
  have fo : ∀ g, g ≠ fU_least → hI (sI h fU_least (ra q) v) g = hI h g := fun g hg => iI_ne hg
  have gr : RU S (u2 S 19 q v) := fun a h1 h2 h3 => ro a h3
  have ge : EU S (u2 S 19 q v) := fun a h1 h2 => ro a (by omega)
  refine ⟨gd_sI hg (kind_in hg (hR q hq).2.2.2.1.1 (by decide)).2, FXD_f hg KP_sI (fun _ _ => rfl) hX, LSS_sI (by decide) hL, hE, TEL_e ge (TEL_f (h := h) (fun f hf => fo f ?_) (fun f hf => rfl) hT), ⟨ri, di, fun r hr => ?_⟩, SSo_r gr hx, ?_, ?_⟩
  · rcases hf with z | z | z | z | z <;> subst z <;> decide
  · obtain ⟨⟨u1, u2', u3, u4, u5⟩, ⟨p1, p2⟩, p3, p4, p5⟩ := hR r hr
    refine ⟨⟨?_, ?_, ?_, ?_, ?_⟩, ⟨p1, ?_⟩, ?_, p4, fun p hp => ⟨(p5 p hp).1, DR_r gr (DR_f (fo _ (by decide)) (fo _ (by decide)) (fo _ (by decide)) (p5 p hp).2)⟩⟩
    · by_cases z : r = q
      · rw [z, iI_at, u2_self]
      · rw [iI_nb (fun y => z (ri r hr q hq y)), u2_ne (fun y => z y.2)]
        exact u1
    · rw [fo _ (by decide), gS_r gr]; exact u2'
    · rw [fo _ (by decide)]; exact u3
    · rw [fo _ (by decide), wS_r gr]; exact u4
    · rw [fo _ (by decide), dclS_r gr]; exact u5
    · rw [ro 11 (by decide)]
      exact AL_sI (by decide) p2
    · rw [ro 11 (by decide), ro 12 (by decide), ro 13 (by decide), ro 14 (by decide), ro 15 (by decide), fo fP_tag (by decide), fo fP_has (by decide), fo fP_lacks (by decide), fo fP_way (by decide)]
      exact p3
  · rw [fo _ (by decide), ro 2 (by omega)]
    exact s1
  · rw [fo _ (by decide), ro 1 (by omega)]
    exact s2
/-! the ranges -/
theorem in_b {x : Int32} {hi : Nat} (h31 : hi < 2 ^ 31) (h : m_in x 0 (nI hi) = 1) : ∃ k, k ≤ hi ∧ x = nI k := by
  unfold m_in at h
  by_cases q : x < 0
  · rw [if_pos q] at h
    exact absurd h (by decide)
  · rw [if_neg q] at h
    obtain ⟨k, hk, ek⟩ := nI_of q
    refine ⟨k, Nat.le_of_not_lt fun z => ?_, ek⟩
    rw [ek, if_pos (nI_lt z hk)] at h
    exact absurd h (by decide)
theorem TNR_el {S : MM} {n R p k : Nat} {v : Int32} (hk : k = 7 ∨ (k = 8 ∧ ∃ wd, wd < 100000000 ∧ v = nI wd) ∨ (k = 9 ∧ (v = 0 ∨ v = 1))) (H : TNR S n R) : TNR (u2 S k p v) n R := by
  obtain ⟨⟨a1, a2, a3, a4⟩, b, c, d, e⟩ := H
  have k79 : 7 ≤ k ∧ k ≤ 9 := by omega
  have ro : ∀ a, a ≠ k → u2 S k p v a = S a := fun a ha => funext fun j => by rw [u2_row ha]
  have gr : RU S (u2 S k p v) := fun a h1 h2 _ => ro a (by omega)
  refine ⟨⟨TS_e (ro 3 (by omega)) (ro 5 (by omega)) a1, RTo_r gr a2, TDo_r gr a3, fun q hq => ?_⟩, ?_, fun q hq => ?_, ?_, ?_⟩
  · by_cases z : k = 8
    · subst z
      by_cases y : q = p
      · subst y
        rw [u2_self]
        rcases hk with w | ⟨_, w⟩ | ⟨w, _⟩
        · omega
        · exact w
        · omega
      · rw [u2_ne (fun w => y w.2)]
        exact a4 q hq
    · rw [ro 8 (fun w => z w.symm)]
      exact a4 q hq
  · unfold NI
    rw [ro 4 (by omega)]
    exact b
  · by_cases z : k = 9
    · subst z
      by_cases y : q = p
      · subst y
        rw [u2_self]
        rcases hk with w | ⟨w, _⟩ | ⟨_, w⟩
        · omega
        · omega
        · exact w
      · rw [u2_ne (fun w => y w.2)]
        exact c q hq
    · rw [ro 9 (fun w => z w.symm)]
      exact c q hq
  · rw [ro 1 (by omega)]
    exact d
  · rw [ro 19 (by omega)]
    exact e
theorem TNR_wi {S : MM} {n R : Nat} {v : Int32} (hv : 0 ≤ v ∧ v ≤ 2000) (H : TNR S n R) : TNR (u2 S 1 0 v) n R := by
  obtain ⟨⟨a1, a2, a3, a4⟩, b, c, d, e⟩ := H
  have ro : ∀ a, a ≠ 1 → u2 S 1 0 v a = S a := fun a ha => funext fun j => by rw [u2_row ha]
  have gr : RU S (u2 S 1 0 v) := fun a h1 h2 _ => ro a (by omega)
  refine ⟨⟨TS_e (ro 3 (by omega)) (ro 5 (by omega)) a1, RTo_r gr a2, TDo_r gr a3, ?_⟩, ?_, ?_, ?_, ?_⟩
  · unfold WDo
    rw [ro 8 (by omega)]
    exact a4
  · unfold NI
    rw [ro 4 (by omega)]
    exact b
  · rw [ro 9 (by omega)]
    exact c
  · rw [u2_self]
    exact hv
  · rw [ro 19 (by omega)]
    exact e
theorem TNR_as {S : MM} {n R q : Nat} {v : Int32} (hv : v = -1 ∨ 0 ≤ v) (H : TNR S n R) : TNR (u2 S 19 q v) n R := by
  obtain ⟨⟨a1, a2, a3, a4⟩, b, c, d, e⟩ := H
  have ro : ∀ a, a ≠ 19 → u2 S 19 q v a = S a := fun a ha => funext fun j => by rw [u2_row ha]
  have gr : RU S (u2 S 19 q v) := fun a h1 h2 h3 => ro a h3
  refine ⟨⟨TS_e (ro 3 (by omega)) (ro 5 (by omega)) a1, RTo_r gr a2, TDo_r gr a3, ?_⟩, ?_, ?_, ?_, fun r hr => ?_⟩
  · unfold WDo
    rw [ro 8 (by omega)]
    exact a4
  · unfold NI
    rw [ro 4 (by omega)]
    exact b
  · rw [ro 9 (by omega)]
    exact c
  · rw [ro 1 (by omega)]
    exact d
  · by_cases z : r = q
    · rw [z, u2_self]
      exact hv
    · rw [u2_ne (fun y => z y.2)]
      exact e r hr
theorem NM_u {S : MM} {n b k p : Nat} {v : Int32} (h2 : k ≠ 2) (h4 : k ≠ 4) (H : NM S n b) : NM (u2 S k p v) n b := by
  unfold NM at *
  have ro : ∀ a, a ≠ k → u2 S k p v a = S a := fun a ha => funext fun j => by rw [u2_row ha]
  rw [ro 2 (fun z => h2 z.symm), ro 4 (fun z => h4 z.symm)]
  exact H
/-- the element, or none -/
theorem fnd_pl {S : MM} {h : Hp} {n : Nat} {Ee : Nat → Nat} {x : Int32} (H : ∀ e, e < n → hI h fE_number (Ee e) = S 4 e) : fnd h x ((List.range n).map Ee) = (plc S n x).map Ee := by
  unfold plc
  have : ∀ l : List Nat, (∀ e, e ∈ l → e < n) → fnd h x (l.map Ee) = (l.find? (fun k => S 4 k = x)).map Ee := by
    intro l
    induction l with
    | nil => exact fun _ => rfl
    | cons a l ih =>
      intro hl
      rw [List.map_cons, fnd, List.find?_cons, H a (hl a List.mem_cons_self)]
      by_cases q : S 4 a = x
      · rw [if_pos q, decide_eq_true q]
        rfl
      · rw [if_neg q, decide_eq_false q]
        exact ih (fun e he => hl e (List.mem_cons_of_mem _ he))
  exact this _ (fun e he => List.mem_range.mp he)
theorem el_of (l : Launch) (G : Gl) {A D : Nat → Nat} {m : Nat} {h : Hp} {S : MM} {n R : Nat} {Ee : Nat → Nat} {is ss : List Nat} {ra : Nat → Nat} {pa : Nat → Nat → Nat} {Dd Pl dP : Nat → Nat} {x : Int32} (T : TLD A D m h S n R Ee is ss ra pa Dd Pl dP) : MRw l G yX11_elementOf (.code yX11_elementOf cX11_elementOf 3 (Option.some (Jvm.ClassFile.FieldType.object "CascadeHouse$Element"))) 8 1 6 [.ref (A 0), .int x] h (match (plc S n x).map Ee with | some e => .inl (some (.ref e), h) | none => .inr (xI, h)) := by
  obtain ⟨hg, ⟨⟨a1, a2, _⟩, ⟨b1, b2, _⟩, _⟩, hL, hE, hT, _⟩ := T
  have := c_elementOf l G (x := x) a1 a2 b1 b2 hL.1 (fun e he => by
    obtain ⟨k, hk, rfl⟩ := List.mem_map.mp he
    exact (hE.2.1 _ (Ee_m (is := is) (List.mem_range.mp hk))).1)
  rw [fnd_pl (S := S) (fun e he => (hT.2 e he).1.1)] at this
  exact this
theorem el_ok {l : Launch} {G : Gl} {A D : Nat → Nat} {m : Nat} {h : Hp} {S : MM} {n R p : Nat} {Ee : Nat → Nat} {is ss : List Nat} {ra : Nat → Nat} {pa : Nat → Nat → Nat} {Dd Pl dP : Nat → Nat} {x : Int32} (T : TLD A D m h S n R Ee is ss ra pa Dd Pl dP) (hp : plc S n x = some p) : MRw l G yX11_elementOf (.code yX11_elementOf cX11_elementOf 3 (Option.some (Jvm.ClassFile.FieldType.object "CascadeHouse$Element"))) 8 1 6 [.ref (A 0), .int x] h (.inl (some (.ref (Ee p)), h)) := by
  have := el_of l G (x := x) T
  rw [hp] at this
  exact this
theorem el_no {l : Launch} {G : Gl} {A D : Nat → Nat} {m : Nat} {h : Hp} {S : MM} {n R : Nat} {Ee : Nat → Nat} {is ss : List Nat} {ra : Nat → Nat} {pa : Nat → Nat → Nat} {Dd Pl dP : Nat → Nat} {x : Int32} (T : TLD A D m h S n R Ee is ss ra pa Dd Pl dP) (hp : plc S n x = none) : MRw l G yX11_elementOf (.code yX11_elementOf cX11_elementOf 3 (Option.some (Jvm.ClassFile.FieldType.object "CascadeHouse$Element"))) 8 1 6 [.ref (A 0), .int x] h (.inr (xI, h)) := by
  have := el_of l G (x := x) T
  rw [hp] at this
  exact this
theorem ru_ok {l : Launch} {G : Gl} {A D : Nat → Nat} {m : Nat} {h : Hp} {S : MM} {n R r : Nat} {Ee : Nat → Nat} {is ss : List Nat} {ra : Nat → Nat} {pa : Nat → Nat → Nat} {Dd Pl dP : Nat → Nat} (T : TLD A D m h S n R Ee is ss ra pa Dd Pl dP) (hr : r < R) : MRw l G yX11_ruleOf (.code yX11_ruleOf cX11_ruleOf 3 (Option.some (Jvm.ClassFile.FieldType.object "CascadeHouse$Rule"))) 8 1 6 [.ref (A 0), .int (nI r)] h (.inl (some (.ref (ra r)), h)) := by
  obtain ⟨hg, ⟨⟨a1, _, _, a4⟩, _, _, ⟨d1, d2, _⟩, _⟩, ⟨_, _, _, _, l11, _⟩, _, _, ⟨_, _, hR⟩, _⟩ := T
  refine c_ruleOf l G a1 a4 d1 d2 l11 (j := r) ?_ (hR r hr).2.2.2.1.1
  rw [List.getElem?_map, List.getElem?_range hr]
  rfl
theorem ru_no {l : Launch} {G : Gl} {A D : Nat → Nat} {m : Nat} {h : Hp} {S : MM} {n R : Nat} {Ee : Nat → Nat} {is ss : List Nat} {ra : Nat → Nat} {pa : Nat → Nat → Nat} {Dd Pl dP : Nat → Nat} {x : Int32} (T : TLD A D m h S n R Ee is ss ra pa Dd Pl dP) (hx : x < 0 ∨ nI R ≤ x) : MRw l G yX11_ruleOf (.code yX11_ruleOf cX11_ruleOf 3 (Option.some (Jvm.ClassFile.FieldType.object "CascadeHouse$Rule"))) 8 1 6 [.ref (A 0), .int x] h (.inr (xI, h)) := by
  obtain ⟨hg, ⟨⟨a1, _, _, a4⟩, _, _, ⟨d1, d2, _⟩, _⟩, ⟨_, _, _, _, l11, _⟩, _⟩ := T
  refine c_ruleOfN l G a1 a4 d1 d2 l11 ?_
  rw [List.length_map, List.length_range]
  exact hx
