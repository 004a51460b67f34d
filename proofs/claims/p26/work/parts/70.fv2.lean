/-! ===== Cascade.findValues ===== -/
theorem XF_cm {w : WZ} {h : Hp} {Z : MM} {l d K P N : Nat} : XF w h (cm w h Z) l d d K P N := by
  refine ⟨⟨Nat.le_refl _, fun _ _ => ⟨rfl, rfl⟩⟩, Or.inl rfl, fun f b _ _ z => ?_, fun f b _ z => ?_, fun _ _ => rfl, fun _ _ _ => rfl, fun b _ _ z => funext fun j => cm_An z, rfl, fun _ _ _ _ => rfl⟩
  · rcases z with z | z | z
    · exact cm_In (Or.inl z)
    · exact cm_In (Or.inr z)
    · show (if 258 ≤ f ∧ f ≤ 266 then (match fi (wn w) (wf w) b with | some e => Z e (f - 230) | none => hI h f b) else hI h f b) = _
      rw [fi_no z]
      by_cases q : 258 ≤ f ∧ f ≤ 266
      · rw [if_pos q]
      · rw [if_neg q]
  · rcases z with z | z | z
    · exact cm_In (Or.inl z)
    · exact cm_In (Or.inr z)
    · show (if 258 ≤ f ∧ f ≤ 266 then (match fi (wn w) (wf w) b with | some e => Z e (f - 230) | none => hI h f b) else hI h f b) = _
      rw [fi_no z]
      by_cases q : 258 ≤ f ∧ f ≤ 266
      · rw [if_pos q]
      · rw [if_neg q]
theorem XF_LF {w : WZ} {h h' : Hp} {l d d' K P N : Nat} (F : LF h h' l d d') : XF w h h' l d d' K P N := by
  obtain ⟨a0, a1, a2, a3, a4, a5, a6, a7, a8⟩ := F
  exact ⟨a0, a1, fun f b x y _ => congrFun (a2 f x y) b, fun f b hb _ => a3 f b hb, a4, a5, fun b _ _ _ => congrFun a6 b, a7, fun b hb hd _ => a8 b hb hd⟩
/-- the table holds what the looks hold -/
def ZR (w : WZ) (h : Hp) (Z : MM) : Prop := ∀ e, e < wn w → (∀ f, 258 ≤ f → f ≤ 266 → hI h f (wf w e) = Z e (f - 230)) ∧ ∀ j, j < 14 → hA h (wv w e) j = Z e j ∧ hA h (ws w e) j = Z e (14 + j)
theorem ZR_cm {w : WZ} {h : Hp} {Z : MM} (hZ : ZW w h) : ZR w (cm w h Z) Z := fun _ he => ⟨fun _ h1 h2 => cm_I hZ he h1 h2, fun _ hj => ⟨cm_v hZ he hj, cm_s hZ he hj⟩⟩
theorem cm_fix {w : WZ} {h : Hp} {Z : MM} (H : ZR w h Z) : cm w h Z = h := by
  have eI : hI (cm w h Z) = hI h := by
    funext f a
    show (if 258 ≤ f ∧ f ≤ 266 then (match fi (wn w) (wf w) a with | some e => Z e (f - 230) | none => hI h f a) else hI h f a) = _
    by_cases q : 258 ≤ f ∧ f ≤ 266
    · rw [if_pos q]
      cases z : fi (wn w) (wf w) a with
      | none => rfl
      | some e =>
        obtain ⟨z1, z2⟩ := fi_some z
        rw [← z2]
        exact ((H e z1).1 f q.1 q.2).symm
    · rw [if_neg q]
  have eA : hA (cm w h Z) = hA h := by
    funext a j
    show (if j < 14 then (match fi (wn w) (wv w) a with | some e => Z e j | none => match fi (wn w) (ws w) a with | some e => Z e (14 + j) | none => hA h a j) else hA h a j) = _
    by_cases q : j < 14
    · rw [if_pos q]
      cases z : fi (wn w) (wv w) a with
      | some e =>
        obtain ⟨z1, z2⟩ := fi_some z
        rw [← z2]
        exact ((H e z1).2 j q).1.symm
      | none =>
        cases y : fi (wn w) (ws w) a with
        | none => rfl
        | some e =>
          obtain ⟨z1, z2⟩ := fi_some y
          rw [← z2]
          exact ((H e z1).2 j q).2.symm
    · rw [if_neg q]
  show (hN h, hK h, hL h, hI (cm w h Z), hR h, hA (cm w h Z), hQ h, hW h) = h
  rw [eI, eA]
  rfl
/-- the width of the nearest container of a chain of places -/
def waZ (w : WZ) (Z : MM) : List Nat → Int32
  | [] => -1
  | q :: qs => if wi w 196 q = 0 then waZ w Z qs else Z q 32
theorem wAr_cm {w : WZ} {h : Hp} {Z : MM} (hZ : ZW w h) : ∀ (qs : List Nat), (∀ q, q ∈ qs → q < wn w) → wAr (cm w h Z) (qs.map (wE w)) = waZ w Z qs
  | [], _ => rfl
  | q :: qs, hq => by
    have hq0 := hq q List.mem_cons_self
    have ih := wAr_cm (Z := Z) hZ qs (fun a ha => hq a (List.mem_cons_of_mem _ ha))
    show (if hI (cm w h Z) fE_isContainer (wE w q) = 0 then wAr (cm w h Z) (qs.map (wE w)) else hI (cm w h Z) fL_width (frs (cm w h Z) (wE w q))) = (if wi w 196 q = 0 then waZ w Z qs else Z q 32)
    rw [cm_In (Or.inl (by decide)), show hI h fE_isContainer (wE w q) = wi w 196 q from hZ.2.2.2.2.2.2 196 q hq0 (by decide) (by decide), ih, (zw_fr (Z := Z) hZ hq0).1, show fL_width = 262 from rfl, cm_I hZ hq0 (by decide) (by decide)]
theorem ldA_mem {h : Hp} {r D p : Nat} {k : Option Nat} {g : Int32} {x : Nat} (e : (ldA h r D p k g).1 = some x) : k = some x ∨ x = r := by
  unfold ldA at e
  cases k with
  | some b => exact Or.inl e
  | none =>
    right
    cases hd : hQ h D p with
    | none => simp only [hd] at e; cases e
    | some d =>
      simp only [hd] at e
      by_cases q : hI h fU_group r = g
      · rw [if_pos q] at e; cases e
      · rw [if_neg q] at e
        by_cases z : hI h fD_kind d = 3
        · rw [if_pos z] at e; cases e
        · rw [if_neg z] at e
          exact (Option.some.inj e).symm
theorem ldF_mem {h : Hp} {Ds : Nat → Nat} {p x : Nat} : ∀ {xs : List Nat}, (ldF h Ds xs p).1 = some x → x ∈ xs := by
  intro xs
  unfold ldF
  have : ∀ (ys : List Nat) (s : Option Nat × Int32), (ys.foldl (fun s r => ldA h r (Ds r) p s.1 s.2) s).1 = some x → s.1 = some x ∨ x ∈ ys := by
    intro ys
    induction ys with
    | nil => exact fun s e => Or.inl e
    | cons y ys ih =>
      intro s e
      rcases ih _ e with z | z
      · rcases ldA_mem z with q | q
        · exact Or.inl q
        · exact Or.inr (by rw [q]; exact List.mem_cons_self)
      · exact Or.inr (List.mem_cons_of_mem _ z)
  intro e
  rcases this xs _ e with z | z
  · cases z
  · exact z
/-- the deciding declaration, by the rule that decides -/
def tellT (h : Hp) (Ds : Nat → Nat) (o : Option Nat) (p : Nat) : Option (Int32 × Int32 × Int32 × Int32) := match o with
  | none => none
  | some r => match hQ h (Ds r) p with
    | none => none
    | some d => some (hI h fD_kind d, hI h fD_number d, hI h fD_variable d, hI h fU_number r)
theorem ldF_eq {h h' : Hp} {Ds : Nat → Nat} {p : Nat} (e1 : hI h' fU_group = hI h fU_group) (e2 : hI h' fD_kind = hI h fD_kind) : ∀ {xs : List Nat}, (∀ r, r ∈ xs → hQ h' (Ds r) = hQ h (Ds r)) → ldF h' Ds xs p = ldF h Ds xs p := by
  intro xs
  unfold ldF
  have : ∀ (ys : List Nat) (s : Option Nat × Int32), (∀ r, r ∈ ys → hQ h' (Ds r) = hQ h (Ds r)) → ys.foldl (fun s r => ldA h' r (Ds r) p s.1 s.2) s = ys.foldl (fun s r => ldA h r (Ds r) p s.1 s.2) s := by
    intro ys
    induction ys with
    | nil => exact fun _ _ => rfl
    | cons y ys ih =>
      intro s hq
      rw [List.foldl_cons, List.foldl_cons, ih _ (fun r hr => hq r (List.mem_cons_of_mem _ hr))]
      congr 1
      unfold ldA
      rw [hq y List.mem_cons_self, e1, e2]
  exact this xs _
/-- all values of an element, by what decides them -/
def fvZ (w : WZ) (e : Nat) (T : Nat → Option (Int32 × Int32 × Int32 × Int32)) (Z : MM) : MM :=
  (List.range 10).foldl (fun Z p => pz Z e p (foZ w Z e p (T p))) ((List.range 4).foldl (fun Z _ => vRd w e T Z) Z)
/-- the walk of findValues over what it calls -/
theorem fval_walk (l : Launch) (G : Gl) {w : WZ} {h9 h2 h3 h4 : Hp} {c b L k e : Nat} {T : Nat → Option (Int32 × Int32 × Int32 × Int32)} {Z1 : MM}
    (M1 : MRw l G yX8_listFor (.code yX8_listFor cX8_listFor 7 none) 8 k (60 * k) [.ref b, .ref (wE w e), .ref L] h9 (.inl (none, h2)))
    (M2 : MRw l G yX0_findDeciding (.code yX0_findDeciding cX0_findDeciding 2 none) 3 0 0 [.ref c] h2 (.inl (none, h3)))
    (M3 : MRw l G yX0_findVariables (.code yX0_findVariables cX0_findVariables 4 none) 3 0 0 [.ref c, .ref (wE w e)] h3 (.inl (none, cm w h4 Z1)))
    (MF : ∀ (Y : MM) (p : Nat), p < 10 → MRw l G yX0_findOne (.code yX0_findOne cX0_findOne 7 none) 2 0 0 [.ref c, .ref (wE w e), .int (nI p)] (cm w h4 Y) (.inl (none, cm w h4 (pz Y e p (foZ w Y e p (T p))))))
    (e1 : hR h9 fC_book c = some b) (e2 : hR h9 fC_listed c = some L) (k1 : hK h9 c = 1) (k2 : hK h2 c = 1) (k3 : hK h3 c = 1) (k4 : ∀ Y, hK (cm w h4 Y) c = 1) (kb : hK h9 b = 7) :
    MRw l G yX0_findValues (.code yX0_findValues cX0_findValues 3 none) 9 k (60 * k) [.ref c, .ref (wE w e)] h9 (.inl (none, cm w h4 ((List.range 10).foldl (fun Z p => pz Z e p (foZ w Z e p (T p))) Z1))) := by
  refine mr_of (by decide +kernel) (Nat.le_of_ble_eq_true rfl) (ct2 (by first | rfl | exact isR_cat (isR_rf _)) (by first | rfl | exact isR_cat (isR_rf _))) (fun X hG hl C E => ?_)
  subst hG hl
  have hloop : ∀ (m p : Nat), p + m = 10 → wr X k (60 * k) 23 [.ref c, .ref (wE w e), .int (nI p)] [] (cm w h4 ((List.range p).foldl (fun Z p => pz Z e p (foZ w Z e p (T p))) Z1)) := by
    intro m
    induction m with
    | zero =>
      intro p hp
      have : p = 10 := by omega
      subst this
      refine r_iload_n (i := 2) C dX0_findValues_23 rfl rfl ?_
      refine r_bipush (v := 10) C dX0_findValues_24 (by decide) ?_
      refine rn_ic_ge C 10 10 rfl rfl (by decide) (by decide) (tgt := 41) dX0_findValues_26 (by decide) (fun _ => ?_) (fun q => absurd q (by omega))
      exact r_vret C E dX0_findValues_41 rfl (Nat.le_refl _) (Nat.le_refl _)
    | succ m ih =>
      intro p hp
      have ih' := ih (p + 1) (by omega)
      rw [rdF] at ih'
      generalize (List.range p).foldl (fun Z p => pz Z e p (foZ w Z e p (T p))) Z1 = Y at ih' ⊢
      have hkc := k4 Y
      refine r_iload_n (i := 2) C dX0_findValues_23 rfl rfl ?_
      refine r_bipush (v := 10) C dX0_findValues_24 (by decide) ?_
      refine rn_ic_ge C p 10 rfl rfl (by omega) (by decide) (tgt := 41) dX0_findValues_26 (by decide) (fun q => absurd q (by omega)) (fun _ => ?_)
      refine r_aload_n (i := 0) C dX0_findValues_29 rfl rfl (by first | rfl | exact isR_rf _) ?_
      refine r_aload_n (i := 1) C dX0_findValues_30 rfl rfl (by first | rfl | exact isR_rf _) ?_
      refine r_iload_n (i := 2) C dX0_findValues_31 rfl rfl ?_
      refine r_callVn C v_X0_48 (MF Y p (by omega)) dX0_findValues_32 (by assumption) (ci := 1) (by decide) rfl rfl (As := [_, _]) rfl rfl rfl (by first | exact Nat.le_refl _ | exact Nat.le_of_ble_eq_true rfl | omega) (Nat.le_of_ble_eq_true rfl) (by first | exact Nat.le_refl _ | exact Nat.le_of_ble_eq_true rfl | omega) (by first | exact Nat.le_refl _ | exact Nat.le_of_ble_eq_true rfl | omega) ?_
      refine r_iinc1 (i := 2) C dX0_findValues_35 rfl ?_
      rw [nI_1]
      refine r_goto (tgt := 23) C dX0_findValues_38 (by decide) ?_
      exact ih'
  refine r_aload_n (i := 0) C dX0_findValues_0 rfl rfl (by first | rfl | exact isR_rf _) ?_
  refine r_getR C f_X0_31 dX0_findValues_1 rfl (by assumption) ?_
  rw [e1]
  refine r_aload_n (i := 1) C dX0_findValues_4 rfl rfl (by first | rfl | exact isR_rf _) ?_
  refine r_aload_n (i := 0) C dX0_findValues_5 rfl rfl (by first | rfl | exact isR_rf _) ?_
  refine r_getR C f_X0_12 dX0_findValues_6 rfl (by assumption) ?_
  rw [e2]
  refine r_callVn C v_X0_35 M1 dX0_findValues_9 (by assumption) (ci := 7) (by decide) rfl rfl (As := [_, _]) rfl rfl rfl (by first | exact Nat.le_refl _ | exact Nat.le_of_ble_eq_true rfl | omega) (Nat.le_of_ble_eq_true rfl) (by first | exact Nat.le_refl _ | exact Nat.le_of_ble_eq_true rfl | omega) (by first | exact Nat.le_refl _ | exact Nat.le_of_ble_eq_true rfl | omega) ?_
  refine r_aload_n (i := 0) C dX0_findValues_12 rfl rfl (by first | rfl | exact isR_rf _) ?_
  refine r_callVn C v_X0_41 M2 dX0_findValues_13 (by assumption) (ci := 1) (by decide) rfl rfl (As := []) rfl rfl rfl (by first | exact Nat.le_refl _ | exact Nat.le_of_ble_eq_true rfl | omega) (Nat.le_of_ble_eq_true rfl) (by first | exact Nat.le_refl _ | exact Nat.le_of_ble_eq_true rfl | omega) (by first | exact Nat.le_refl _ | exact Nat.le_of_ble_eq_true rfl | omega) ?_
  refine r_aload_n (i := 0) C dX0_findValues_16 rfl rfl (by first | rfl | exact isR_rf _) ?_
  refine r_aload_n (i := 1) C dX0_findValues_17 rfl rfl (by first | rfl | exact isR_rf _) ?_
  refine r_callVn C v_X0_44 M3 dX0_findValues_18 (by assumption) (ci := 1) (by decide) rfl rfl (As := [_]) rfl rfl rfl (by first | exact Nat.le_refl _ | exact Nat.le_of_ble_eq_true rfl | omega) (Nat.le_of_ble_eq_true rfl) (by first | exact Nat.le_refl _ | exact Nat.le_of_ble_eq_true rfl | omega) (by first | exact Nat.le_refl _ | exact Nat.le_of_ble_eq_true rfl | omega) ?_
  refine r_iconst (v := 0) C dX0_findValues_21 (by decide) ?_
  refine r_istore_n (i := 2) C dX0_findValues_22 rfl (Nat.le_of_ble_eq_true rfl) ?_
  have h23 := hloop 10 0 rfl
  rw [List.range_zero, List.foldl_nil] at h23
  refine wr_wide ?_ ?_ h23
  · omega
  · omega
