/-! ===== Tree.append ===== -/
theorem AL_KP {h h' : Hp} {l d : Nat} {xs : List Nat} (hg : Good h) (K : KP h h') (e1 : hI h' fA_size l = hI h fA_size l) (e2 : hR h' fA_elementData l = hR h fA_elementData l) (e3 : d < hN h → hQ h' d = hQ h d) (H : AL h l d xs) : AL h' l d xs := by
  obtain ⟨h1, h2, h3, h4, h5⟩ := H
  refine ⟨KP_k hg K h1 (by decide), e1.trans h2, e2.trans h3, h4, ?_⟩
  rcases h5 with h5 | ⟨q1, q2, q3, q4, q5⟩
  · exact Or.inl h5
  · have hl2 : hL h' d = hL h d := KP_l hg K q2 (by decide)
    refine Or.inr ⟨q1, KP_k hg K q2 (by decide), by rw [hl2]; exact q3, by rw [hl2]; exact q4, fun i x hi => ?_⟩
    rw [e3 (kind_in hg q2 (by decide)).2]
    exact q5 i x hi
/-- an element e begun as the last child of p -/
def lkC (h : Hp) (t e kp p : Nat) (x1 x2 : Int32) : Hp :=
  sR (sR (sI (bgE h e kp (hI h fT_nextNumber t) x1 x2) fT_nextNumber t (hI h fT_nextNumber t + 1)) fE_parent e (some p)) fE_ahead e (hR h fE_last p)
def lkB (h g : Hp) (e p : Nat) : Hp := match hR h fE_last p with
  | none => sR g fE_first p (some e)
  | some q => sR g fE_next q (some e)
def lkA (h : Hp) (t e kp p : Nat) (x1 x2 : Int32) : Hp := sR (lkB h (lkC h t e kp p x1 x2) e p) fE_last p (some e)
theorem lkB_s (h g : Hp) (e p : Nat) : hN (lkB h g e p) = hN g ∧ hK (lkB h g e p) = hK g ∧ hL (lkB h g e p) = hL g ∧ hI (lkB h g e p) = hI g ∧ hA (lkB h g e p) = hA g ∧ hQ (lkB h g e p) = hQ g ∧ hW (lkB h g e p) = hW g := by
  unfold lkB; split <;> exact ⟨rfl, rfl, rfl, rfl, rfl, rfl, rfl⟩
theorem lkA_s (h : Hp) (t e kp p : Nat) (x1 x2 : Int32) : hN (lkA h t e kp p x1 x2) = hN h ∧ hK (lkA h t e kp p x1 x2) = hK h ∧ hL (lkA h t e kp p x1 x2) = hL h ∧ hA (lkA h t e kp p x1 x2) = hA h ∧ hQ (lkA h t e kp p x1 x2) = hQ h ∧ hW (lkA h t e kp p x1 x2) = hW h := by
  obtain ⟨a1, a2, a3, a4, a5, a6, a7⟩ := lkB_s h (lkC h t e kp p x1 x2) e p
  unfold lkA
  simp only [hN_sI, hK_sI, hL_sI, hR_sI, hA_sI, hQ_sI, hW_sI, hN_sR, hK_sR, hL_sR, hI_sR, hA_sR, hQ_sR, hW_sR, hN_sA, hK_sA, hL_sA, hI_sA, hR_sA, hQ_sA, hW_sA, hN_sQ, hK_sQ, hL_sQ, hI_sQ, hR_sQ, hA_sQ, hW_sQ, hN_sQf, hK_sQf, hL_sQf, hI_sQf, hR_sQf, hA_sQf, hW_sQf, hN_sW, hK_sW, hL_sW, hI_sW, hR_sW, hA_sW, hQ_sW, hI_nw, hR_nw, hA_nw, hQ_nw, hW_nw, hN_nw]
  rw [a1, a2, a3, a5, a6, a7]
  unfold lkC bgE
  simp only [hN_sI, hK_sI, hL_sI, hR_sI, hA_sI, hQ_sI, hW_sI, hN_sR, hK_sR, hL_sR, hI_sR, hA_sR, hQ_sR, hW_sR, hN_sA, hK_sA, hL_sA, hI_sA, hR_sA, hQ_sA, hW_sA, hN_sQ, hK_sQ, hL_sQ, hI_sQ, hR_sQ, hA_sQ, hW_sQ, hN_sQf, hK_sQf, hL_sQf, hI_sQf, hR_sQf, hA_sQf, hW_sQf, hN_sW, hK_sW, hL_sW, hI_sW, hR_sW, hA_sW, hQ_sW, hI_nw, hR_nw, hA_nw, hQ_nw, hW_nw, hN_nw]
  exact ⟨trivial, trivial, trivial, trivial, trivial, trivial⟩
theorem lkA_g {h : Hp} {t e kp p : Nat} {x1 x2 : Int32} (hg : Good h) (ht : t < hN h) (he : e < hN h) (hkp : kp < hN h) (hp : p < hN h) : Good (lkA h t e kp p x1 x2) := by
  have gC : Good (lkC h t e kp p x1 x2) := by
    unfold lkC bgE
    have g1 := gd_sI (f := fE_number) (v := hI h fT_nextNumber t) hg he
    have g2 := gd_sI (f := fE_tag) (a := e) (v := x1) g1 (by simp only [hN_sI, hK_sI, hL_sI, hR_sI, hA_sI, hQ_sI, hW_sI, hN_sR, hK_sR, hL_sR, hI_sR, hA_sR, hQ_sR, hW_sR, hN_sA, hK_sA, hL_sA, hI_sA, hR_sA, hQ_sA, hW_sA, hN_sQ, hK_sQ, hL_sQ, hI_sQ, hR_sQ, hA_sQ, hW_sQ, hN_sQf, hK_sQf, hL_sQf, hI_sQf, hR_sQf, hA_sQf, hW_sQf, hN_sW, hK_sW, hL_sW, hI_sW, hR_sW, hA_sW, hQ_sW, hI_nw, hR_nw, hA_nw, hQ_nw, hW_nw, hN_nw]; exact he)
    have g3 := gd_sI (f := fE_classes) (a := e) (v := x2) g2 (by simp only [hN_sI, hK_sI, hL_sI, hR_sI, hA_sI, hQ_sI, hW_sI, hN_sR, hK_sR, hL_sR, hI_sR, hA_sR, hQ_sR, hW_sR, hN_sA, hK_sA, hL_sA, hI_sA, hR_sA, hQ_sA, hW_sA, hN_sQ, hK_sQ, hL_sQ, hI_sQ, hR_sQ, hA_sQ, hW_sQ, hN_sQf, hK_sQf, hL_sQf, hI_sQf, hR_sQf, hA_sQf, hW_sQf, hN_sW, hK_sW, hL_sW, hI_sW, hR_sW, hA_sW, hQ_sW, hI_nw, hR_nw, hA_nw, hQ_nw, hW_nw, hN_nw]; exact he)
    have g4 := gd_sI (f := fE_words) (a := e) (v := 0) g3 (by simp only [hN_sI, hK_sI, hL_sI, hR_sI, hA_sI, hQ_sI, hW_sI, hN_sR, hK_sR, hL_sR, hI_sR, hA_sR, hQ_sR, hW_sR, hN_sA, hK_sA, hL_sA, hI_sA, hR_sA, hQ_sA, hW_sA, hN_sQ, hK_sQ, hL_sQ, hI_sQ, hR_sQ, hA_sQ, hW_sQ, hN_sQf, hK_sQf, hL_sQf, hI_sQf, hR_sQf, hA_sQf, hW_sQf, hN_sW, hK_sW, hL_sW, hI_sW, hR_sW, hA_sW, hQ_sW, hI_nw, hR_nw, hA_nw, hQ_nw, hW_nw, hN_nw]; exact he)
    have g5 := gd_sI (f := fE_isContainer) (a := e) (v := 0) g4 (by simp only [hN_sI, hK_sI, hL_sI, hR_sI, hA_sI, hQ_sI, hW_sI, hN_sR, hK_sR, hL_sR, hI_sR, hA_sR, hQ_sR, hW_sR, hN_sA, hK_sA, hL_sA, hI_sA, hR_sA, hQ_sA, hW_sA, hN_sQ, hK_sQ, hL_sQ, hI_sQ, hR_sQ, hA_sQ, hW_sQ, hN_sQf, hK_sQf, hL_sQf, hI_sQf, hR_sQf, hA_sQf, hW_sQf, hN_sW, hK_sW, hL_sW, hI_sW, hR_sW, hA_sW, hQ_sW, hI_nw, hR_nw, hA_nw, hQ_nw, hW_nw, hN_nw]; exact he)
    have g6 := gd_sR (f := fE_parent) (a := e) (v := none) g5 (by simp only [hN_sI, hK_sI, hL_sI, hR_sI, hA_sI, hQ_sI, hW_sI, hN_sR, hK_sR, hL_sR, hI_sR, hA_sR, hQ_sR, hW_sR, hN_sA, hK_sA, hL_sA, hI_sA, hR_sA, hQ_sA, hW_sA, hN_sQ, hK_sQ, hL_sQ, hI_sQ, hR_sQ, hA_sQ, hW_sQ, hN_sQf, hK_sQf, hL_sQf, hI_sQf, hR_sQf, hA_sQf, hW_sQf, hN_sW, hK_sW, hL_sW, hI_sW, hR_sW, hA_sW, hQ_sW, hI_nw, hR_nw, hA_nw, hQ_nw, hW_nw, hN_nw]; exact he) (fun b z => nomatch z)
    have g7 := gd_sR (f := fE_ahead) (a := e) (v := none) g6 (by simp only [hN_sI, hK_sI, hL_sI, hR_sI, hA_sI, hQ_sI, hW_sI, hN_sR, hK_sR, hL_sR, hI_sR, hA_sR, hQ_sR, hW_sR, hN_sA, hK_sA, hL_sA, hI_sA, hR_sA, hQ_sA, hW_sA, hN_sQ, hK_sQ, hL_sQ, hI_sQ, hR_sQ, hA_sQ, hW_sQ, hN_sQf, hK_sQf, hL_sQf, hI_sQf, hR_sQf, hA_sQf, hW_sQf, hN_sW, hK_sW, hL_sW, hI_sW, hR_sW, hA_sW, hQ_sW, hI_nw, hR_nw, hA_nw, hQ_nw, hW_nw, hN_nw]; exact he) (fun b z => nomatch z)
    have g8 := gd_sR (f := fE_next) (a := e) (v := none) g7 (by simp only [hN_sI, hK_sI, hL_sI, hR_sI, hA_sI, hQ_sI, hW_sI, hN_sR, hK_sR, hL_sR, hI_sR, hA_sR, hQ_sR, hW_sR, hN_sA, hK_sA, hL_sA, hI_sA, hR_sA, hQ_sA, hW_sA, hN_sQ, hK_sQ, hL_sQ, hI_sQ, hR_sQ, hA_sQ, hW_sQ, hN_sQf, hK_sQf, hL_sQf, hI_sQf, hR_sQf, hA_sQf, hW_sQf, hN_sW, hK_sW, hL_sW, hI_sW, hR_sW, hA_sW, hQ_sW, hI_nw, hR_nw, hA_nw, hQ_nw, hW_nw, hN_nw]; exact he) (fun b z => nomatch z)
    have g9 := gd_sR (f := fE_first) (a := e) (v := none) g8 (by simp only [hN_sI, hK_sI, hL_sI, hR_sI, hA_sI, hQ_sI, hW_sI, hN_sR, hK_sR, hL_sR, hI_sR, hA_sR, hQ_sR, hW_sR, hN_sA, hK_sA, hL_sA, hI_sA, hR_sA, hQ_sA, hW_sA, hN_sQ, hK_sQ, hL_sQ, hI_sQ, hR_sQ, hA_sQ, hW_sQ, hN_sQf, hK_sQf, hL_sQf, hI_sQf, hR_sQf, hA_sQf, hW_sQf, hN_sW, hK_sW, hL_sW, hI_sW, hR_sW, hA_sW, hQ_sW, hI_nw, hR_nw, hA_nw, hQ_nw, hW_nw, hN_nw]; exact he) (fun b z => nomatch z)
    have g10 := gd_sR (f := fE_last) (a := e) (v := none) g9 (by simp only [hN_sI, hK_sI, hL_sI, hR_sI, hA_sI, hQ_sI, hW_sI, hN_sR, hK_sR, hL_sR, hI_sR, hA_sR, hQ_sR, hW_sR, hN_sA, hK_sA, hL_sA, hI_sA, hR_sA, hQ_sA, hW_sA, hN_sQ, hK_sQ, hL_sQ, hI_sQ, hR_sQ, hA_sQ, hW_sQ, hN_sQf, hK_sQf, hL_sQf, hI_sQf, hR_sQf, hA_sQf, hW_sQf, hN_sW, hK_sW, hL_sW, hI_sW, hR_sW, hA_sW, hQ_sW, hI_nw, hR_nw, hA_nw, hQ_nw, hW_nw, hN_nw]; exact he) (fun b z => nomatch z)
    have g11 := gd_sI (f := fL_isKnown) (a := kp) (v := 0) g10 (by simp only [hN_sI, hK_sI, hL_sI, hR_sI, hA_sI, hQ_sI, hW_sI, hN_sR, hK_sR, hL_sR, hI_sR, hA_sR, hQ_sR, hW_sR, hN_sA, hK_sA, hL_sA, hI_sA, hR_sA, hQ_sA, hW_sA, hN_sQ, hK_sQ, hL_sQ, hI_sQ, hR_sQ, hA_sQ, hW_sQ, hN_sQf, hK_sQf, hL_sQf, hI_sQf, hR_sQf, hA_sQf, hW_sQf, hN_sW, hK_sW, hL_sW, hI_sW, hR_sW, hA_sW, hQ_sW, hI_nw, hR_nw, hA_nw, hQ_nw, hW_nw, hN_nw]; exact hkp)
    have g12 := gd_sI (f := fT_nextNumber) (a := t) (v := hI h fT_nextNumber t + 1) g11 (by simp only [hN_sI, hK_sI, hL_sI, hR_sI, hA_sI, hQ_sI, hW_sI, hN_sR, hK_sR, hL_sR, hI_sR, hA_sR, hQ_sR, hW_sR, hN_sA, hK_sA, hL_sA, hI_sA, hR_sA, hQ_sA, hW_sA, hN_sQ, hK_sQ, hL_sQ, hI_sQ, hR_sQ, hA_sQ, hW_sQ, hN_sQf, hK_sQf, hL_sQf, hI_sQf, hR_sQf, hA_sQf, hW_sQf, hN_sW, hK_sW, hL_sW, hI_sW, hR_sW, hA_sW, hQ_sW, hI_nw, hR_nw, hA_nw, hQ_nw, hW_nw, hN_nw]; exact ht)
    have g13 := gd_sR (f := fE_parent) (a := e) (v := some p) g12 (by simp only [hN_sI, hK_sI, hL_sI, hR_sI, hA_sI, hQ_sI, hW_sI, hN_sR, hK_sR, hL_sR, hI_sR, hA_sR, hQ_sR, hW_sR, hN_sA, hK_sA, hL_sA, hI_sA, hR_sA, hQ_sA, hW_sA, hN_sQ, hK_sQ, hL_sQ, hI_sQ, hR_sQ, hA_sQ, hW_sQ, hN_sQf, hK_sQf, hL_sQf, hI_sQf, hR_sQf, hA_sQf, hW_sQf, hN_sW, hK_sW, hL_sW, hI_sW, hR_sW, hA_sW, hQ_sW, hI_nw, hR_nw, hA_nw, hQ_nw, hW_nw, hN_nw]; exact he) (fun b z => by cases z; simp only [hN_sI, hK_sI, hL_sI, hR_sI, hA_sI, hQ_sI, hW_sI, hN_sR, hK_sR, hL_sR, hI_sR, hA_sR, hQ_sR, hW_sR, hN_sA, hK_sA, hL_sA, hI_sA, hR_sA, hQ_sA, hW_sA, hN_sQ, hK_sQ, hL_sQ, hI_sQ, hR_sQ, hA_sQ, hW_sQ, hN_sQf, hK_sQf, hL_sQf, hI_sQf, hR_sQf, hA_sQf, hW_sQf, hN_sW, hK_sW, hL_sW, hI_sW, hR_sW, hA_sW, hQ_sW, hI_nw, hR_nw, hA_nw, hQ_nw, hW_nw, hN_nw]; exact hp)
    exact gd_sR (f := fE_ahead) (a := e) (v := hR h fE_last p) g13 (by simp only [hN_sI, hK_sI, hL_sI, hR_sI, hA_sI, hQ_sI, hW_sI, hN_sR, hK_sR, hL_sR, hI_sR, hA_sR, hQ_sR, hW_sR, hN_sA, hK_sA, hL_sA, hI_sA, hR_sA, hQ_sA, hW_sA, hN_sQ, hK_sQ, hL_sQ, hI_sQ, hR_sQ, hA_sQ, hW_sQ, hN_sQf, hK_sQf, hL_sQf, hI_sQf, hR_sQf, hA_sQf, hW_sQf, hN_sW, hK_sW, hL_sW, hI_sW, hR_sW, hA_sW, hQ_sW, hI_nw, hR_nw, hA_nw, hQ_nw, hW_nw, hN_nw]; exact he) (fun b z => by simp only [hN_sI, hK_sI, hL_sI, hR_sI, hA_sI, hQ_sI, hW_sI, hN_sR, hK_sR, hL_sR, hI_sR, hA_sR, hQ_sR, hW_sR, hN_sA, hK_sA, hL_sA, hI_sA, hR_sA, hQ_sA, hW_sA, hN_sQ, hK_sQ, hL_sQ, hI_sQ, hR_sQ, hA_sQ, hW_sQ, hN_sQf, hK_sQf, hL_sQf, hI_sQf, hR_sQf, hA_sQf, hW_sQf, hN_sW, hK_sW, hL_sW, hI_sW, hR_sW, hA_sW, hQ_sW, hI_nw, hR_nw, hA_nw, hQ_nw, hW_nw, hN_nw]; exact hg.2.2.2.1 _ _ _ z)
  have hNC : hN (lkC h t e kp p x1 x2) = hN h := by unfold lkC bgE; simp only [hN_sI, hK_sI, hL_sI, hR_sI, hA_sI, hQ_sI, hW_sI, hN_sR, hK_sR, hL_sR, hI_sR, hA_sR, hQ_sR, hW_sR, hN_sA, hK_sA, hL_sA, hI_sA, hR_sA, hQ_sA, hW_sA, hN_sQ, hK_sQ, hL_sQ, hI_sQ, hR_sQ, hA_sQ, hW_sQ, hN_sQf, hK_sQf, hL_sQf, hI_sQf, hR_sQf, hA_sQf, hW_sQf, hN_sW, hK_sW, hL_sW, hI_sW, hR_sW, hA_sW, hQ_sW, hI_nw, hR_nw, hA_nw, hQ_nw, hW_nw, hN_nw]
  have gB : Good (lkB h (lkC h t e kp p x1 x2) e p) := by
    unfold lkB
    split
    · exact gd_sR gC (by rw [hNC]; exact hp) (fun b hb => by cases hb; rw [hNC]; exact he)
    · rename_i q hq
      exact gd_sR gC (by rw [hNC]; exact hg.2.2.2.1 _ _ _ hq) (fun b hb => by cases hb; rw [hNC]; exact he)
  have hNB : hN (lkB h (lkC h t e kp p x1 x2) e p) = hN h := (lkB_s h (lkC h t e kp p x1 x2) e p).1.trans hNC
  exact gd_sR gB (by rw [hNB]; exact hp) (fun b hb => by cases hb; rw [hNB]; exact he)
theorem app1 {h : Hp} {t e kp p mc ms k n : Nat} {x1 x2 : Int32} {v4 : Value} {X : Ctx} (C : Cx X yX10_append cX10_append 5 (some (.object "CascadeHouse$Element")) [] 7 mc ms) (hkc : k ≤ mc) (hnc : n ≤ ms) (hkt : hK h t = 8) (hke : hK h e = 3) (hkp : hK h p = 3) (hkk : hR h fE_kept e = some kp) (hk4 : hK h kp = 4) (hpe : p ≠ e) (hq : ∀ q, hR h fE_last p = some q → hK h q = 3)
    (K : wr X k n 110 [.ref t, .ref p, .int x1, .int x2, .ref e] [] (lkA h t e kp p x1 x2)) : wr X k n 39 [.ref t, .ref p, .int x1, .int x2, v4] [.ref e] h := by
  refine r_astore (i := 4) C dX10_append_39 (Nat.le_of_ble_eq_true rfl) (by first | rfl | exact isR_rf _) ?_
  refine r_aload (i := 4) C dX10_append_41 rfl (by first | rfl | exact isR_rf _) ?_
  refine r_aload_n (i := 0) C dX10_append_43 rfl rfl (by first | rfl | exact isR_rf _) ?_
  refine r_getI C f_X10_30 dX10_append_44 rfl (by assumption) ?_
  refine r_iload_n (i := 2) C dX10_append_47 rfl rfl ?_
  refine r_iload_n (i := 3) C dX10_append_48 rfl rfl ?_
  refine r_callVn C v_X10_22 (c_begin _ _ hke hkk hk4) dX10_append_49 (by assumption) (ci := 3) (by decide) rfl rfl (As := [_, _, _]) rfl rfl rfl (by first | exact Nat.le_refl _ | exact Nat.le_of_ble_eq_true rfl | omega) (Nat.le_of_ble_eq_true rfl) (by first | exact Nat.le_refl _ | exact Nat.le_of_ble_eq_true rfl | omega) (by first | exact Nat.le_refl _ | exact Nat.le_of_ble_eq_true rfl | omega) ?_
  obtain ⟨h2, e2⟩ : ∃ z, z = bgE h e kp (hI h fT_nextNumber t) x1 x2 := ⟨_, rfl⟩
  have s2 : hK h2 = hK h ∧ hI h2 fT_nextNumber = hI h fT_nextNumber ∧ hR h2 fE_last p = hR h fE_last p := by
    rw [e2]
    unfold bgE
    refine ⟨by simp only [hN_sI, hK_sI, hL_sI, hR_sI, hA_sI, hQ_sI, hW_sI, hN_sR, hK_sR, hL_sR, hI_sR, hA_sR, hQ_sR, hW_sR, hN_sA, hK_sA, hL_sA, hI_sA, hR_sA, hQ_sA, hW_sA, hN_sQ, hK_sQ, hL_sQ, hI_sQ, hR_sQ, hA_sQ, hW_sQ, hN_sQf, hK_sQf, hL_sQf, hI_sQf, hR_sQf, hA_sQf, hW_sQf, hN_sW, hK_sW, hL_sW, hI_sW, hR_sW, hA_sW, hQ_sW, hI_nw, hR_nw, hA_nw, hQ_nw, hW_nw, hN_nw], ?_, ?_⟩
    · rw [iI_ne (by decide)]
      simp only [hN_sI, hK_sI, hL_sI, hR_sI, hA_sI, hQ_sI, hW_sI, hN_sR, hK_sR, hL_sR, hI_sR, hA_sR, hQ_sR, hW_sR, hN_sA, hK_sA, hL_sA, hI_sA, hR_sA, hQ_sA, hW_sA, hN_sQ, hK_sQ, hL_sQ, hI_sQ, hR_sQ, hA_sQ, hW_sQ, hN_sQf, hK_sQf, hL_sQf, hI_sQf, hR_sQf, hA_sQf, hW_sQf, hN_sW, hK_sW, hL_sW, hI_sW, hR_sW, hA_sW, hQ_sW, hI_nw, hR_nw, hA_nw, hQ_nw, hW_nw, hN_nw]
      rw [iI_ne (by decide), iI_ne (by decide), iI_ne (by decide), iI_ne (by decide), iI_ne (by decide)]
    · rw [hR_sI, rR_nb hpe, rR_ne (by decide), rR_ne (by decide), rR_ne (by decide), rR_ne (by decide)]
      simp only [hN_sI, hK_sI, hL_sI, hR_sI, hA_sI, hQ_sI, hW_sI, hN_sR, hK_sR, hL_sR, hI_sR, hA_sR, hQ_sR, hW_sR, hN_sA, hK_sA, hL_sA, hI_sA, hR_sA, hQ_sA, hW_sA, hN_sQ, hK_sQ, hL_sQ, hI_sQ, hR_sQ, hA_sQ, hW_sQ, hN_sQf, hK_sQf, hL_sQf, hI_sQf, hR_sQf, hA_sQf, hW_sQf, hN_sW, hK_sW, hL_sW, hI_sW, hR_sW, hA_sW, hQ_sW, hI_nw, hR_nw, hA_nw, hQ_nw, hW_nw, hN_nw]
  rw [← e2]
  have hkt2 : hK h2 t = 8 := by rw [s2.1]; exact hkt
  refine r_aload_n (i := 0) C dX10_append_52 rfl rfl (by first | rfl | exact isR_rf _) ?_
  refine r_dup C (by first | rfl | exact isR_cat (isR_rf _)) dX10_append_53 ?_
  refine r_getI C f_X10_30 dX10_append_54 rfl (by assumption) ?_
  refine r_iconst (v := 1) C dX10_append_57 (by decide) ?_
  rw [s2.2.1]
  refine r_iadd C dX10_append_58 ?_
  refine r_putI C f_X10_30 dX10_append_59 rfl rfl rfl (by assumption) ?_
  have hke3 : hK (sI h2 fT_nextNumber t (hI h fT_nextNumber t + 1)) e = 3 := by rw [hK_sI, s2.1]; exact hke
  refine r_aload (i := 4) C dX10_append_62 rfl (by first | rfl | exact isR_rf _) ?_
  refine r_aload_n (i := 1) C dX10_append_64 rfl rfl (by first | rfl | exact isR_rf _) ?_
  first | refine r_putR (o := some _) C f_X10_52 dX10_append_65 rfl (by assumption) ?_ | refine r_putR (o := none) C f_X10_52 dX10_append_65 rfl (by assumption) ?_ | refine r_putR C f_X10_52 dX10_append_65 rfl (by assumption) ?_
  obtain ⟨h4, e4⟩ : ∃ z, z = sR (sI h2 fT_nextNumber t (hI h fT_nextNumber t + 1)) fE_parent e (some p) := ⟨_, rfl⟩
  rw [← e4]
  have k4 : hK h4 = hK h := by rw [e4, hK_sR, hK_sI, s2.1]
  have k4e : hK h4 e = 3 := by rw [k4]; exact hke
  have k4p : hK h4 p = 3 := by rw [k4]; exact hkp
  have l4 : hR h4 fE_last p = hR h fE_last p := by
    rw [e4, rR_ne (by decide), hR_sI, s2.2.2]
  refine r_aload (i := 4) C dX10_append_68 rfl (by first | rfl | exact isR_rf _) ?_
  refine r_aload_n (i := 1) C dX10_append_70 rfl rfl (by first | rfl | exact isR_rf _) ?_
  refine r_getR C f_X10_56 dX10_append_71 rfl (by assumption) ?_
  rw [l4]
  first | refine r_putR (o := some _) C f_X10_59 dX10_append_74 rfl (by assumption) ?_ | refine r_putR (o := none) C f_X10_59 dX10_append_74 rfl (by assumption) ?_ | refine r_putR C f_X10_59 dX10_append_74 rfl (by assumption) ?_
  obtain ⟨h5, e5⟩ : ∃ z, z = sR h4 fE_ahead e (hR h fE_last p) := ⟨_, rfl⟩
  have eC : h5 = lkC h t e kp p x1 x2 := by rw [e5, e4, e2]; unfold lkC; rfl
  rw [← e5]
  have k5 : hK h5 = hK h := by rw [e5, hK_sR, k4]
  have k5e : hK h5 e = 3 := by rw [k5]; exact hke
  have k5p : hK h5 p = 3 := by rw [k5]; exact hkp
  have a5 : hR h5 fE_ahead e = hR h fE_last p := by rw [e5]; exact rR_at
  refine r_aload (i := 4) C dX10_append_77 rfl (by first | rfl | exact isR_rf _) ?_
  refine r_getR C f_X10_59 dX10_append_79 rfl (by assumption) ?_
  rw [a5]
  have hend : ∀ h6, h6 = lkB h h5 e p → wr X k n 104 [.ref t, .ref p, .int x1, .int x2, .ref e] [] h6 := by
    intro h6 e6
    have k6p : hK h6 p = 3 := by rw [e6, (lkB_s h h5 e p).2.1]; exact k5p
    refine r_aload_n (i := 1) C dX10_append_104 rfl rfl (by first | rfl | exact isR_rf _) ?_
    refine r_aload (i := 4) C dX10_append_105 rfl (by first | rfl | exact isR_rf _) ?_
    refine r_putR (o := some e) C f_X10_56 dX10_append_107 rfl k6p ?_
    rw [e6, eC]
    exact K
  cases hl : hR h fE_last p with
  | none =>
    refine r_ifnonnull (o := none) (tgt := 94) C dX10_append_82 (by decide) (fun a c => nomatch c) (fun _ => ?_)
    refine r_aload_n (i := 1) C dX10_append_85 rfl rfl (by first | rfl | exact isR_rf _) ?_
    refine r_aload (i := 4) C dX10_append_86 rfl (by first | rfl | exact isR_rf _) ?_
    refine r_putR (o := some e) C f_X10_62 dX10_append_88 rfl k5p ?_
    refine r_goto (tgt := 104) C dX10_append_91 (by decide) ?_
    exact hend _ (by unfold lkB; rw [hl])
  | some q =>
    have k5q : hK h5 q = 3 := by rw [k5]; exact hq q hl
    refine r_ifnonnull (o := some q) (tgt := 94) C dX10_append_82 (by decide) (fun _ _ => ?_) (fun c => nomatch c)
    refine r_aload (i := 4) C dX10_append_94 rfl (by first | rfl | exact isR_rf _) ?_
    refine r_getR C f_X10_59 dX10_append_96 rfl (by assumption) ?_
    rw [a5, hl]
    refine r_aload (i := 4) C dX10_append_99 rfl (by first | rfl | exact isR_rf _) ?_
    refine r_putR (o := some e) C f_X10_65 dX10_append_101 rfl k5q ?_
    exact hend _ (by unfold lkB; rw [hl])
/-- a new element, as the constructor leaves it -/
def neE (h : Hp) : Hp := sR (nlk (sR (nlk (nw h 3 0)) fE_kept (hN h) (some (hN h + 1)))) fE_fresh (hN h) (some (hN h + 4))
theorem KP_sR {h h' : Hp} {f a : Nat} {v : Option Nat} (K : KP h h') : KP h (sR h' f a v) := by
  unfold KP; rw [hN_sR, hK_sR, hL_sR]; exact K
theorem KP_nlk (h : Hp) : KP h (nlk h) := KP_sR (KP_t (KP_sR (KP_t KP_nw KP_nw)) KP_nw)
theorem KP_neE (h : Hp) : KP h (neE h) := KP_sR (KP_t (KP_sR (KP_t KP_nw (KP_nlk _))) (KP_nlk _))
theorem hN_nlk (h : Hp) : hN (nlk h) = hN h + 3 := by unfold nlk; rw [hN_sR, hN_nw, hN_sR, hN_nw, hN_nw]
theorem gd_nlk {h : Hp} (hg : Good h) : Good (nlk h) := by
  have g1 := gd_nw (n := 14) (k := 100) (gd_nw (n := 0) (k := 4) hg rfl (by decide)) rfl (by decide)
  have g2 := gd_sR (f := fL_values) (a := hN h) (v := some (hN h + 1)) g1 (by rw [hN_nw, hN_nw]; omega) (fun b hb => by cases hb; rw [hN_nw, hN_nw]; omega)
  have g3 := gd_nw (n := 14) (k := 100) g2 rfl (by decide)
  exact gd_sR (f := fL_sources) (a := hN h) (v := some (hN h + 2)) g3 (by rw [hN_nw, hN_sR, hN_nw, hN_nw]; omega) (fun b hb => by cases hb; rw [hN_nw, hN_sR, hN_nw, hN_nw]; omega)
theorem gd_neE {h : Hp} (hg : Good h) : Good (neE h) := by
  have g1 := gd_nlk (gd_nw (n := 0) (k := 3) hg rfl (by decide))
  have g2 := gd_sR (f := fE_kept) (a := hN h) (v := some (hN h + 1)) g1 (by rw [hN_nlk, hN_nw]; omega) (fun b hb => by cases hb; rw [hN_nlk, hN_nw]; omega)
  have g3 := gd_nlk g2
  exact gd_sR (f := fE_fresh) (a := hN h) (v := some (hN h + 4)) g3 (by rw [hN_nlk, hN_sR, hN_nlk, hN_nw]; omega) (fun b hb => by cases hb; rw [hN_nlk, hN_sR, hN_nlk, hN_nw]; omega)
