/-! ===== Cascade.findDeciding ===== -/
/-- who decides a property, by the rules listed, the strongest first -/
def ldF (h : Hp) (Ds : Nat → Nat) (xs : List Nat) (p : Nat) : Option Nat × Int32 := xs.foldl (fun s r => ldA h r (Ds r) p s.1 s.2) (none, -1)
theorem va_upi {α : Type} (f : Nat → α) (a : Nat) : va_up f a (f a) = f := funext fun j => by
  by_cases z : j = a
  · rw [z, va_up_self]
  · rw [va_up_ne _ _ z]
theorem stD_id (h : Hp) (K P : Nat) : stD h K P (hQ h K) (hA h P) = h := by
  show (hN h, hK h, hL h, hI h, hR h, va_up (hA h) P (hA h P), va_up (hQ h) K (hQ h K), hW h) = h
  rw [va_upi, va_upi]
  rfl
theorem AL_stD {h : Hp} {K P l d : Nat} {κ : Nat → Option Nat} {π : Nat → Int32} {xs : List Nat} (H : AL h l d xs) (q : d ≠ K) : AL (stD h K P κ π) l d xs := by
  obtain ⟨h1, h2, h3, h4, h5⟩ := H
  refine ⟨h1, h2, h3, h4, ?_⟩
  rcases h5 with z | ⟨z1, z2, z3, z4, z5⟩
  · exact Or.inl z
  · refine Or.inr ⟨z1, z2, z3, z4, fun i x hx => ?_⟩
    rw [stD_Qn q]
    exact z5 i x hx
theorem upto_upto {α : Type} {n : Nat} {f g k : Nat → α} (e : ∀ p, p < n → f p = g p) : upto n f (upto n g k) = upto n f k := funext fun p => by
  unfold upto
  by_cases y : p < n
  · rw [if_pos y, if_pos y]
  · rw [if_neg y, if_neg y, if_neg y]
theorem upto_c {α : Type} {n : Nat} {f f' g : Nat → α} (e : ∀ p, p < n → f p = f' p) : upto n f g = upto n f' g := funext fun p => by
  unfold upto
  by_cases y : p < n
  · rw [if_pos y, if_pos y, e p y]
  · rw [if_neg y, if_neg y]
theorem upto_lt {α : Type} {n p : Nat} {f g : Nat → α} (h : p < n) : upto n f g p = f p := if_pos h
theorem upto_ov {α : Type} {n : Nat} {f g k : Nat → α} : upto n f (upto n g k) = upto n f k := funext fun p => by
  unfold upto
  by_cases y : p < n
  · rw [if_pos y, if_pos y]
  · rw [if_neg y, if_neg y, if_neg y]
/-- the state behind i of the rules -/
def fdS (h : Hp) (K P : Nat) (Ds : Nat → Nat) (xs : List Nat) : Hp := stD h K P (upto 14 (fun p => (ldF h Ds xs p).1) (hQ h K)) (upto 14 (fun p => (ldF h Ds xs p).2) (hA h P))
theorem fdS_step {h : Hp} {K P r : Nat} {Ds : Nat → Nat} {xs : List Nat} :
    stD h K P (upto 14 (fun p => (ldA h r (Ds r) p (upto 14 (fun p => (ldF h Ds xs p).1) (hQ h K) p) (upto 14 (fun p => (ldF h Ds xs p).2) (hA h P) p)).1) (upto 14 (fun p => (ldF h Ds xs p).1) (hQ h K))) (upto 14 (fun p => (ldA h r (Ds r) p (upto 14 (fun p => (ldF h Ds xs p).1) (hQ h K) p) (upto 14 (fun p => (ldF h Ds xs p).2) (hA h P) p)).2) (upto 14 (fun p => (ldF h Ds xs p).2) (hA h P))) = fdS h K P Ds (xs ++ [r]) := by
  unfold fdS
  rw [upto_ov, upto_ov]
  congr 1
  · refine upto_c (fun p hp => ?_)
    show (ldA h r (Ds r) p _ _).1 = _
    rw [upto_lt hp, upto_lt hp]
    unfold ldF
    rw [List.foldl_append]
    rfl
  · refine upto_c (fun p hp => ?_)
    show (ldA h r (Ds r) p _ _).2 = _
    rw [upto_lt hp, upto_lt hp]
    unfold ldF
    rw [List.foldl_append]
    rfl
theorem c_findDeciding (l : Launch) (G : Gl) {h : Hp} {c K P L d : Nat} {Ds : Nat → Nat} {xs : List Nat} (hk : hK h c = 1) (hK1 : hR h fC_deciding c = some K) (hkK : hK h K = 104) (hlK : hL h K = 14) (hP1 : hR h fC_passed c = some P) (hkP : hK h P = 100) (hlP : hL h P = 14) (hL1 : hR h fC_listed c = some L) (hAL : AL h L d xs) (hdK : d ≠ K)
    (hU : ∀ r, r ∈ xs → UD h r (Ds r) ∧ (∀ p d, p < 14 → hQ h (Ds r) p = some d → hK h d = 2) ∧ Ds r ≠ K) :
    MRw l G yX0_findDeciding (.code yX0_findDeciding cX0_findDeciding 2 none) 3 0 0 [.ref c] h (.inl (none, fdS h K P Ds xs)) := by
  refine mr_of (by decide +kernel) (Nat.le_of_ble_eq_true rfl) (ct1 (by first | rfl | exact isR_cat (isR_rf _))) (fun X hG hl C E => ?_)
  subst hG hl
  -- the second loop
  have hloop2 : ∀ (m i : Nat), i + m = xs.length → wr X 0 0 42 [.ref c, .int (nI i)] [] (fdS h K P Ds (xs.take i)) := by
    intro m
    induction m with
    | zero =>
      intro i hi
      have : i = xs.length := by omega
      subst this
      rw [List.take_length]
      have hA9 : AL (fdS h K P Ds xs) L d xs := AL_stD hAL hdK
      have e9 : hR (fdS h K P Ds xs) fC_listed c = some L := hL1
      have hkc : hK (fdS h K P Ds xs) c = 1 := hk
      have hs9 : hI (fdS h K P Ds xs) fA_size L = nI xs.length := hA9.2.1
      have hkL := hA9.1
      generalize fdS h K P Ds xs = h9 at E hA9 e9 hkc hs9 hkL ⊢
      refine r_iload_n (i := 1) C dX0_findDeciding_42 rfl rfl ?_
      refine r_aload_n (i := 0) C dX0_findDeciding_43 rfl rfl (by first | rfl | exact isR_rf _) ?_
      refine r_getR C f_X0_12 dX0_findDeciding_44 rfl (by assumption) ?_
      rw [e9]
      refine r_callVs C v_X0_84 (c_size _ _ hkL) dX0_findDeciding_47 (by assumption) (ci := 0) (by decide) rfl rfl (As := []) rfl rfl rfl (by first | exact Nat.le_refl _ | exact Nat.le_of_ble_eq_true rfl | omega) (Nat.le_of_ble_eq_true rfl) (by first | exact Nat.le_refl _ | exact Nat.le_of_ble_eq_true rfl | omega) (by first | exact Nat.le_refl _ | exact Nat.le_of_ble_eq_true rfl | omega) ?_
      rw [hs9]
      refine rn_ic_ge C xs.length xs.length rfl rfl (AL_len hA9) (AL_len hA9) (tgt := 74) dX0_findDeciding_50 (by decide) (fun _ => ?_) (fun q => absurd q (by omega))
      exact r_vret C E dX0_findDeciding_74 rfl (by first | exact Nat.le_refl _ | exact Nat.le_of_ble_eq_true rfl | omega) (by first | exact Nat.le_refl _ | exact Nat.le_of_ble_eq_true rfl | omega)
    | succ m ih =>
      intro i hi
      have hii : i < xs.length := by omega
      have hx : xs[i]? = some xs[i] := List.getElem?_eq_getElem hii
      obtain ⟨r, er⟩ : ∃ z, z = xs[i] := ⟨_, rfl⟩
      rw [← er] at hx
      have hr : r ∈ xs := List.mem_of_getElem? hx
      obtain ⟨u1, u2, u3⟩ := hU r hr
      have ih' := ih (i + 1) (by omega)
      rw [List.take_add_one, hx, Option.toList_some, ← fdS_step] at ih'
      have hA9 : AL (fdS h K P Ds (xs.take i)) L d xs := AL_stD hAL hdK
      have e9 : hR (fdS h K P Ds (xs.take i)) fC_listed c = some L := hL1
      have hkc : hK (fdS h K P Ds (xs.take i)) c = 1 := hk
      have hkr : hK (fdS h K P Ds (xs.take i)) r = 6 := u1.1
      have hs9 : hI (fdS h K P Ds (xs.take i)) fA_size L = nI xs.length := hA9.2.1
      have hkL := hA9.1
      have M9 := c_letDecide (lOf X) (gOf X) (κ := upto 14 (fun p => (ldF h Ds (xs.take i) p).1) (hQ h K)) (π := upto 14 (fun p => (ldF h Ds (xs.take i) p).2) (hA h P)) hk hK1 hkK hlK hP1 hkP hlP u1 u2 u3
      rw [show stD h K P (upto 14 (fun p => (ldF h Ds (xs.take i) p).1) (hQ h K)) (upto 14 (fun p => (ldF h Ds (xs.take i) p).2) (hA h P)) = fdS h K P Ds (xs.take i) from rfl] at M9
      generalize fdS h K P Ds (xs.take i) = h9 at M9 hA9 e9 hkc hkr hs9 hkL ⊢
      refine r_iload_n (i := 1) C dX0_findDeciding_42 rfl rfl ?_
      refine r_aload_n (i := 0) C dX0_findDeciding_43 rfl rfl (by first | rfl | exact isR_rf _) ?_
      refine r_getR C f_X0_12 dX0_findDeciding_44 rfl (by assumption) ?_
      rw [e9]
      refine r_callVs C v_X0_84 (c_size _ _ hkL) dX0_findDeciding_47 (by assumption) (ci := 0) (by decide) rfl rfl (As := []) rfl rfl rfl (by first | exact Nat.le_refl _ | exact Nat.le_of_ble_eq_true rfl | omega) (Nat.le_of_ble_eq_true rfl) (by first | exact Nat.le_refl _ | exact Nat.le_of_ble_eq_true rfl | omega) (by first | exact Nat.le_refl _ | exact Nat.le_of_ble_eq_true rfl | omega) ?_
      rw [hs9]
      refine rn_ic_ge C i xs.length rfl rfl (Nat.lt_trans hii (AL_len hA9)) (AL_len hA9) (tgt := 74) dX0_findDeciding_50 (by decide) (fun q => absurd q (by omega)) (fun _ => ?_)
      refine r_aload_n (i := 0) C dX0_findDeciding_53 rfl rfl (by first | rfl | exact isR_rf _) ?_
      refine r_aload_n (i := 0) C dX0_findDeciding_54 rfl rfl (by first | rfl | exact isR_rf _) ?_
      refine r_getR C f_X0_12 dX0_findDeciding_55 rfl (by assumption) ?_
      rw [e9]
      refine r_iload_n (i := 1) C dX0_findDeciding_58 rfl rfl ?_
      refine r_callVs C v_X0_88 (c_get _ _ hA9 hx) dX0_findDeciding_59 (by assumption) (ci := 0) (by decide) rfl rfl (As := [_]) rfl rfl rfl (by first | exact Nat.le_refl _ | exact Nat.le_of_ble_eq_true rfl | omega) (Nat.le_of_ble_eq_true rfl) (by first | exact Nat.le_refl _ | exact Nat.le_of_ble_eq_true rfl | omega) (by first | exact Nat.le_refl _ | exact Nat.le_of_ble_eq_true rfl | omega) ?_
      refine r_cast (o := some _) (ci := 6) C dX0_findDeciding_62 c_X0_18 rfl (by decide) (by decide +kernel) (fun a q => by cases q; exact hkr) ?_
      refine r_callVn C v_X0_92 M9 dX0_findDeciding_65 (by assumption) (ci := 1) (by decide) rfl rfl (As := [_]) rfl rfl rfl (by first | exact Nat.le_refl _ | exact Nat.le_of_ble_eq_true rfl | omega) (Nat.le_of_ble_eq_true rfl) (by first | exact Nat.le_refl _ | exact Nat.le_of_ble_eq_true rfl | omega) (by first | exact Nat.le_refl _ | exact Nat.le_of_ble_eq_true rfl | omega) ?_
      refine r_iinc1 (i := 1) C dX0_findDeciding_68 rfl ?_
      rw [nI_1]
      refine r_goto (tgt := 42) C dX0_findDeciding_71 (by decide) ?_
      exact ih'
  -- the first one
  have hloop1 : ∀ (m p : Nat), p + m = 14 → wr X 0 0 2 [.ref c, .int (nI p)] [] (stD h K P (upto p (fun _ => none) (hQ h K)) (upto p (fun _ => -1) (hA h P))) := by
    intro m
    induction m with
    | zero =>
      intro p hp
      have : p = 14 := by omega
      subst this
      have h2 := hloop2 xs.length 0 (by omega)
      rw [show fdS h K P Ds (xs.take 0) = stD h K P (upto 14 (fun _ => none) (hQ h K)) (upto 14 (fun _ => -1) (hA h P)) from rfl] at h2
      have hkc : hK (stD h K P (upto 14 (fun _ => none) (hQ h K)) (upto 14 (fun _ => -1) (hA h P))) c = 1 := hk
      have e9 : hR (stD h K P (upto 14 (fun _ => none) (hQ h K)) (upto 14 (fun _ => -1) (hA h P))) fC_deciding c = some K := hK1
      have k9 : hK (stD h K P (upto 14 (fun _ => none) (hQ h K)) (upto 14 (fun _ => -1) (hA h P))) K = 104 := hkK
      have l9 : hL (stD h K P (upto 14 (fun _ => none) (hQ h K)) (upto 14 (fun _ => -1) (hA h P))) K = 14 := hlK
      generalize stD h K P (upto 14 (fun _ => none) (hQ h K)) (upto 14 (fun _ => -1) (hA h P)) = h9 at h2 hkc e9 k9 l9 ⊢
      refine r_iload_n (i := 1) C dX0_findDeciding_2 rfl rfl ?_
      refine r_aload_n (i := 0) C dX0_findDeciding_3 rfl rfl (by first | rfl | exact isR_rf _) ?_
      refine r_getR C f_X0_20 dX0_findDeciding_4 rfl (by assumption) ?_
      rw [e9]
      refine r_alen (a := K) C dX0_findDeciding_7 k9 (by decide) ?_
      rw [l9]
      refine rn_ic_ge C 14 14 rfl rfl (by decide) (by decide) (tgt := 40) dX0_findDeciding_8 (by decide) (fun _ => ?_) (fun q => absurd q (by omega))
      refine r_iconst (v := 0) C dX0_findDeciding_40 (by decide) ?_
      refine r_istore_n (i := 1) C dX0_findDeciding_41 rfl (Nat.le_of_ble_eq_true rfl) ?_
      exact h2
    | succ m ih =>
      intro p hp
      have ih' := ih (p + 1) (by omega)
      rw [← upto_s p (fun _ => (none : Option Nat)), ← upto_s p (fun _ => (-1 : Int32))] at ih'
      obtain ⟨κ9, e1⟩ : ∃ z, z = upto p (fun _ => (none : Option Nat)) (hQ h K) := ⟨_, rfl⟩
      obtain ⟨π9, e2⟩ : ∃ z, z = upto p (fun _ => (-1 : Int32)) (hA h P) := ⟨_, rfl⟩
      rw [← e1, ← e2] at ih' ⊢
      have hk9 : hK (stD h K P κ9 π9) c = 1 := hk
      have hkP9 : hK (stD h K P κ9 π9) P = 100 := hkP
      have eK : hR (stD h K P κ9 π9) fC_deciding c = some K := hK1
      have eP : hR (stD h K P κ9 π9) fC_passed c = some P := hP1
      refine r_iload_n (i := 1) C dX0_findDeciding_2 rfl rfl ?_
      refine r_aload_n (i := 0) C dX0_findDeciding_3 rfl rfl (by first | rfl | exact isR_rf _) ?_
      refine r_getR C f_X0_20 dX0_findDeciding_4 rfl (by assumption) ?_
      rw [eK]
      refine r_alen (a := K) C dX0_findDeciding_7 (show hK (stD h K P κ9 π9) K = 104 from hkK) (by decide) ?_
      rw [show hL (stD h K P κ9 π9) K = 14 from hlK]
      refine rn_ic_ge C p 14 rfl rfl (by omega) (by decide) (tgt := 40) dX0_findDeciding_8 (by decide) (fun q => absurd q (by omega)) (fun _ => ?_)
      refine r_iload_n (i := 1) C dX0_findDeciding_11 rfl rfl ?_
      refine r_aload_n (i := 0) C dX0_findDeciding_12 rfl rfl (by first | rfl | exact isR_rf _) ?_
      refine r_getR C f_X0_24 dX0_findDeciding_13 rfl (by assumption) ?_
      rw [eP]
      refine r_alen (a := P) C dX0_findDeciding_16 hkP9 (by decide) ?_
      rw [show hL (stD h K P κ9 π9) P = 14 from hlP]
      refine rn_ic_ge C p 14 rfl rfl (by omega) (by decide) (tgt := 40) dX0_findDeciding_17 (by decide) (fun q => absurd q (by omega)) (fun _ => ?_)
      refine r_aload_n (i := 0) C dX0_findDeciding_20 rfl rfl (by first | rfl | exact isR_rf _) ?_
      refine r_getR C f_X0_20 dX0_findDeciding_21 rfl (by assumption) ?_
      rw [eK]
      refine r_iload_n (i := 1) C dX0_findDeciding_24 rfl rfl ?_
      refine r_null C dX0_findDeciding_25 ?_
      refine r_aastN (a := K) (q := 1) (j := p) C dX0_findDeciding_26 (show hK (stD h K P κ9 π9) K = 103 + 1 from hkK) (by decide) rfl (by rw [show hL (stD h K P κ9 π9) K = 14 from hlK]; omega) ?_
      rw [stD_sQ]
      have hk8 : hK (stD h K P (va_up κ9 p none) π9) c = 1 := hk
      have eP8 : hR (stD h K P (va_up κ9 p none) π9) fC_passed c = some P := hP1
      refine r_aload_n (i := 0) C dX0_findDeciding_27 rfl rfl (by first | rfl | exact isR_rf _) ?_
      refine r_getR C f_X0_24 dX0_findDeciding_28 rfl (by assumption) ?_
      rw [eP8]
      refine r_iload_n (i := 1) C dX0_findDeciding_31 rfl rfl ?_
      refine r_iconst (v := (-1)) C dX0_findDeciding_32 (by decide) ?_
      refine r_iast (a := P) (j := p) C dX0_findDeciding_33 (show hK (stD h K P (va_up κ9 p none) π9) P = 100 from hkP) rfl (by rw [show hL (stD h K P (va_up κ9 p none) π9) P = 14 from hlP]; omega) ?_
      rw [stD_sA]
      refine r_iinc1 (i := 1) C dX0_findDeciding_34 rfl ?_
      rw [nI_1]
      refine r_goto (tgt := 2) C dX0_findDeciding_37 (by decide) ?_
      exact ih'
  refine r_iconst (v := 0) C dX0_findDeciding_0 (by decide) ?_
  refine r_istore_n (i := 1) C dX0_findDeciding_1 rfl (Nat.le_of_ble_eq_true rfl) ?_
  have := hloop1 14 0 rfl
  rw [upto_0, upto_0, stD_id] at this
  exact this
