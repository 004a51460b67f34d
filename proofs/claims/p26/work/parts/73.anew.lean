/-! ===== CascadeHouse.findAnew ===== -/
def chn (w : WZ) : Option Nat → List Nat → Prop
  | o, [] => o = none
  | o, c :: cs => o = some c ∧ chn w (wl w 199 c) cs
def itF (f : Nat → MM → Option MM) : Nat → Nat → MM → Option MM
  | 0, _, Z => some Z
  | m + 1, k, Z => (f k Z).bind (itF f m (k + 1))
def itB (f : Nat → MM → Option MM) : Nat → MM → Option MM
  | 0, Z => some Z
  | n + 1, Z => (f n Z).bind (itB f n)
def an1 (w : WZ) (V : Nat → MM → MM) (W : Int32) (cs : Nat → List Nat) (k : Nat) (Z : MM) : Option MM := match wl w 197 k with
  | none => (k_measureRoot w (V k Z) k W).bind (fun Z1 => k_measureChildren w ((cs k).foldl (fun Z c => V c Z) Z1) k)
  | some _ => k_measureChildren w ((cs k).foldl (fun Z c => V c Z) Z) k
/-- all values and boxes found anew -/
def anZ (w : WZ) (V : Nat → MM → MM) (W : Int32) (cs : Nat → List Nat) (Z : MM) : Option MM :=
  (itF (an1 w V W cs) (wn w) 0 Z).bind fun Z1 => (itB (fun k Z => k_findHeight w Z k) (wn w) Z1).bind fun Z2 => itF (fun k Z => k_placeChildren w Z k) (wn w) 0 Z2
/-- the house and its tree -/
def HW (w : WZ) (h : Hp) (H t c R dR L d : Nat) : Prop :=
  hK h H = 9 ∧ hR h fH_tree H = some t ∧ hR h fH_cascade H = some c ∧ hK h t = 8 ∧ hR h fT_row t = some R ∧ AL h R dR ((List.range (wn w)).map (wE w)) ∧ R ≠ L ∧ (dR = d → dR = 4)
theorem HW_X {w : WZ} {h h' : Hp} {H t c R dR L d d' K P N : Nat} (hg : Good h) (hK2 : hK h K = 104) (F : XF w h h' L d d' K P N) (A : HW w h H t c R dR L d) : HW w h' H t c R dR L d' := by
  obtain ⟨h1, h2, h3, h4, h5, h6, h7, h8⟩ := A
  have a4 := F.2.2.2.2.1
  refine ⟨KP_k hg F.1 h1 (by decide), by rw [a4 _ (by decide)]; exact h2, by rw [a4 _ (by decide)]; exact h3, KP_k hg F.1 h4 (by decide), by rw [a4 _ (by decide)]; exact h5, XF_AL hg F hK2 h6 h7 h8, h7, fun z => ?_⟩
  rcases F.2.1 with e | e
  · exact h8 (z.trans e)
  · rcases AL_d h6 with q | q
    · exact q
    · have := (kind_in hg q (by decide)).2
      omega
theorem AL_cm {w : WZ} {h : Hp} {Z : MM} {l d : Nat} {xs : List Nat} (H : AL h l d xs) : AL (cm w h Z) l d xs := by
  obtain ⟨q1, q2, q3, q4, q5⟩ := H
  exact ⟨q1, (cm_In (Or.inl (by decide))).trans q2, q3, q4, q5⟩
theorem es_at {w : WZ} {k : Nat} (hk : k < wn w) : ((List.range (wn w)).map (wE w))[k]? = some (wE w k) := by
  rw [List.getElem?_map, List.getElem?_range hk]
  rfl
theorem z_treeGet (l : Launch) (G : Gl) {w : WZ} {h : Hp} {H t c R dR L d k : Nat} (A : HW w h H t c R dR L d) (hZ : ZW w h) (hk : k < wn w) (Z : MM) : MRw l G yX10_get (.code yX10_get cX10_get 2 (Option.some (Jvm.ClassFile.FieldType.object "CascadeHouse$Element"))) 3 0 0 [.ref t, .int (nI k)] (cm w h Z) (.inl (some (.ref (wE w k)), cm w h Z)) :=
  c_treeGet l G (h := cm w h Z) A.2.2.2.1 A.2.2.2.2.1 (AL_cm A.2.2.2.2.2.1) (es_at hk) (hZ.1 k hk).1
theorem z_treeSize (l : Launch) (G : Gl) {w : WZ} {h : Hp} {H t c R dR L d : Nat} (A : HW w h H t c R dR L d) (Z : MM) : MRw l G yX10_size (.code yX10_size cX10_size 1 (Option.some Jvm.ClassFile.FieldType.int)) 1 0 0 [.ref t] (cm w h Z) (.inl (some (.int (nI (wn w))), cm w h Z)) := by
  have := c_treeSize l G (h := cm w h Z) A.2.2.2.1 A.2.2.2.2.1 A.2.2.2.2.2.1.1
  rw [(AL_cm (w := w) (Z := Z) A.2.2.2.2.2.1).2.1, List.length_map, List.length_range] at this
  exact this
/-- the loop over the children: their values -/
theorem fa_ch (l : Launch) (G : Gl) {w : WZ} {c b K P N S L dS H t R dR : Nat} {ss : List Nat} {pts : Nat → List Nat} {Ds : Nat → Nat} {U up : Nat → List Nat} {V : Nat → MM → MM}
    (hup : ∀ e, e < wn w → U (wE w e) = (up e).map (wE w) ∧ ∀ q, q ∈ up e → q < wn w) :
    ∀ (cs : List Nat) (o : Option Nat), chn w o cs → (∀ x, x ∈ cs → x < wn w) → ∀ (h : Hp) (d : Nat) (Z : MM), FW w h c b K P N S L dS d ss pts Ds U → HW w h H t c R dR L d → valZ w h Ds ss pts U up = V →
    ∃ (h' : Hp) (d' k : Nat), FW w h' c b K P N S L dS d' ss pts Ds U ∧ XF w h h' L d d' K P N ∧ k + Ph h' d' ≤ Ph h d ∧
      ∀ (X : Ctx), gOf X = G → lOf X = l → ∀ {mc ms : Nat}, Cx X yX11_findAnew cX11_findAnew 5 none [] 10 mc ms → ∀ (k0 : Nat), k0 + k ≤ mc → 60 * (k0 + k) ≤ ms → ∀ (a1 a2 : Int32) (e3 : Nat),
        (∀ v4 : Value, wr X (k0 + k) (60 * (k0 + k)) 80 [.ref H, .int a1, .int a2, .ref e3, v4] [] (cm w h' (cs.foldl (fun Z c => V c Z) Z))) →
        wr X k0 (60 * k0) 56 [.ref H, .int a1, .int a2, .ref e3, va_rf (o.map (wE w))] [] (cm w h Z) := by
  intro cs
  induction cs with
  | nil =>
    intro o ho _ h d Z H0 A0 hV
    have ho' : o = none := ho
    subst ho'
    refine ⟨h, d, 0, H0, XF_r w h L d K P N, by omega, fun X eG el mc ms C k0 hm1 hm2 a1 a2 e3 K80 => ?_⟩
    refine r_aload (i := 4) C dX11_findAnew_56 rfl (by first | rfl | exact isR_rf _) ?_
    refine r_ifnull (o := none) (tgt := 80) C dX11_findAnew_58 (by decide) (fun _ => ?_) (fun _ q => nomatch q)
    exact K80 _
  | cons x cs ih =>
    intro o ho hcs h d Z H0 A0 hV
    obtain ⟨rfl, ho2⟩ := ho
    have hx := hcs x List.mem_cons_self
    obtain ⟨h1, d1, k1, M1, H1, X1, c1⟩ := c_findValuesZ l G (Z := Z) H0 hx (hup x hx).1 (hup x hx).2
    have hV1 : valZ w h1 Ds ss pts U up = V := (valZ_XF H0.1 X1 H0.2.2.1.2.2.1 (AL_d H0.2.2.2.2.1.2.1.choose_spec) H0.2.2.2.2.2.2.1).trans hV
    have A1 := HW_X H0.1 H0.2.2.1.2.2.1 X1 A0
    obtain ⟨h2, d2, k2, H2, X2, c2, W2⟩ := ih (wl w 199 x) ho2 (fun y hy => hcs y (List.mem_cons_of_mem _ hy)) h1 d1 (V x Z) H1 A1 hV1
    refine ⟨h2, d2, k1 + k2, H2, XF_t X1 X2, by omega, fun X eG el mc ms C k0 hm1 hm2 a1 a2 e3 K80 => ?_⟩
    rw [hV] at M1
    subst eG el
    have kH : hK (cm w h Z) H = 9 := A0.1
    have kx : hK (cm w h1 (V x Z)) (wE w x) = 3 := (H1.2.1.1 x hx).1
    have kc : hK (cm w h Z) c = 1 := H0.2.2.1.1
    refine r_aload (i := 4) C dX11_findAnew_56 rfl (by first | rfl | exact isR_rf _) ?_
    refine r_ifnull (o := some (wE w x)) (tgt := 80) C dX11_findAnew_58 (by decide) (fun q => nomatch q) (fun _ _ => ?_)
    refine r_aload_n (i := 0) C dX11_findAnew_61 rfl rfl (by first | rfl | exact isR_rf _) ?_
    refine r_getR C f_X11_28 dX11_findAnew_62 rfl (by assumption) ?_
    rw [show hR (cm w h Z) fH_cascade H = some c from A0.2.2.1]
    refine r_aload (i := 4) C dX11_findAnew_65 rfl (by first | rfl | exact isR_rf _) ?_
    refine r_callVn C v_X11_236 M1 dX11_findAnew_67 (by assumption) (ci := 1) (by decide) rfl rfl (As := [_]) rfl rfl rfl (by first | exact Nat.le_refl _ | exact Nat.le_of_ble_eq_true rfl | omega) (Nat.le_of_ble_eq_true rfl) (by first | exact Nat.le_refl _ | exact Nat.le_of_ble_eq_true rfl | omega) (by first | exact Nat.le_refl _ | exact Nat.le_of_ble_eq_true rfl | omega) ?_
    rw [← Nat.mul_add]
    refine r_aload (i := 4) C dX11_findAnew_70 rfl (by first | rfl | exact isR_rf _) ?_
    refine rz_link C 199 f_X11_249 dX11_findAnew_72 rfl rfl (by decide) (by decide) H1.2.1 hx ?_
    refine r_astore (i := 4) C dX11_findAnew_75 (Nat.le_of_ble_eq_true rfl) (by first | rfl | exact isR_rf _) ?_
    refine r_goto (tgt := 56) C dX11_findAnew_77 (by decide) ?_
    refine W2 X rfl rfl C (k0 + k1) (by omega) (by omega) a1 a2 e3 (fun v4 => ?_)
    have := K80 v4
    rw [← Nat.add_assoc] at this
    exact this
