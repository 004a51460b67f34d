/-! ===== one more element: its looks ===== -/
theorem nlk_Rn {h : Hp} {x f : Nat} (hx : x ≠ hN h) : hR (nlk h) f x = hR h f x := by
  unfold nlk
  rw [rR_nb hx, hR_nw, rR_nb hx, hR_nw, hR_nw]
theorem nlk_LW (h : Hp) : LW (nlk h) (hN h) ∧ vls (nlk h) (hN h) = hN h + 1 ∧ scs (nlk h) (hN h) = hN h + 2 := by
  have eK : hK (nlk h) = va_up (va_up (va_up (hK h) (hN h) 4) (hN h + 1) 100) (hN h + 2) 100 := rfl
  have eL : hL (nlk h) = va_up (va_up (va_up (hL h) (hN h) 0) (hN h + 1) 14) (hN h + 2) 14 := rfl
  have e1 : hR (nlk h) fL_values (hN h) = some (hN h + 1) := by
    unfold nlk
    rw [rR_ne (by decide), hR_nw, rR_at]
  have e2 : hR (nlk h) fL_sources (hN h) = some (hN h + 2) := by
    unfold nlk
    rw [rR_at]
  have v : vls (nlk h) (hN h) = hN h + 1 := by
    unfold vls
    rw [e1]
    rfl
  have s : scs (nlk h) (hN h) = hN h + 2 := by
    unfold scs
    rw [e2]
    rfl
  refine ⟨?_, v, s⟩
  unfold LW LO
  rw [v, s, e1, e2, eK, eL]
  refine ⟨?_, rfl, rfl, ?_, ?_, ?_, ?_⟩
  · rw [va_up_ne _ _ (by omega), va_up_ne _ _ (by omega), va_up_self]
  · rw [va_up_ne _ _ (by omega), va_up_self]
  · rw [va_up_ne _ _ (by omega), va_up_self]
  · rw [va_up_self]
  · rw [va_up_self]
theorem LW_p {h h' : Hp} {k : Nat} (hg : Good h) (K : KP h h') (e1 : hR h' fL_values k = hR h fL_values k) (e2 : hR h' fL_sources k = hR h fL_sources k) (H : LW h k) : LW h' k ∧ vls h' k = vls h k ∧ scs h' k = scs h k := by
  have v : vls h' k = vls h k := by unfold vls; rw [e1]
  have s : scs h' k = scs h k := by unfold scs; rw [e2]
  obtain ⟨a, b, c, d, e, f, g⟩ := H
  refine ⟨?_, v, s⟩
  unfold LW LO
  rw [v, s, e1, e2]
  exact ⟨KP_k hg K a (by decide), b, c, KP_k hg K d (by decide), by rw [KP_l hg K d (by decide)]; exact e, KP_k hg K f (by decide), by rw [KP_l hg K f (by decide)]; exact g⟩
theorem OLD_nlk {h0 h : Hp} (H : OLD h0 h) : OLD h0 (nlk h) := OLD_sR (f := fL_sources) (a := hN h) (v := some (hN h + 2)) H.1.1 (OLD_nw2 (OLD_sR (f := fL_values) (a := hN h) (v := some (hN h + 1)) H.1.1 (OLD_nw2 (OLD_nw2 H))))
theorem OLD_neE (h : Hp) : OLD h (neE h) := OLD_sR (f := fE_fresh) (a := hN h) (v := some (hN h + 4)) (Nat.le_refl _) (OLD_nlk (OLD_sR (f := fE_kept) (a := hN h) (v := some (hN h + 1)) (Nat.le_refl _) (OLD_nlk OLD_nw)))
theorem neE_l {h : Hp} (hg : Good h) : EW (neE h) (hN h) ∧ frs (neE h) (hN h) = hN h + 4 ∧ kpt (neE h) (hN h) = hN h + 1 ∧ vls (neE h) (hN h + 4) = hN h + 5 ∧ scs (neE h) (hN h + 4) = hN h + 6 ∧ vls (neE h) (hN h + 1) = hN h + 2 ∧ scs (neE h) (hN h + 1) = hN h + 3 := by
  obtain ⟨_, k3, k4, kk⟩ := K_neE h
  have N1 : hN (nw h 3 0) = hN h + 1 := hN_nw h 3 0
  obtain ⟨L1, eL1⟩ : ∃ w, w = nlk (nw h 3 0) := ⟨_, rfl⟩
  obtain ⟨L2, eL2⟩ : ∃ w, w = sR L1 fE_kept (hN h) (some (hN h + 1)) := ⟨_, rfl⟩
  obtain ⟨L3, eL3⟩ : ∃ w, w = nlk L2 := ⟨_, rfl⟩
  have en : neE h = sR L3 fE_fresh (hN h) (some (hN h + 4)) := by
    rw [eL3, eL2, eL1]
    rfl
  have gL1 : Good L1 := by rw [eL1]; exact gd_nlk (gd_nw (n := 0) (k := 3) hg rfl (by decide))
  have NL1 : hN L1 = hN h + 4 := by rw [eL1, hN_nlk, N1]
  have NL2 : hN L2 = hN h + 4 := by rw [eL2, hN_sR, NL1]
  have gL2 : Good L2 := by rw [eL2]; exact gd_sR gL1 (by omega) (fun b hb => by cases hb; omega)
  have gL3 : Good L3 := by rw [eL3]; exact gd_nlk gL2
  obtain ⟨w1, w2, w3⟩ := nlk_LW (nw h 3 0)
  rw [← eL1, N1] at w1 w2 w3
  obtain ⟨u1, u2, u3⟩ := nlk_LW L2
  rw [← eL3, NL2] at u1 u2 u3
  have K3 : KP L3 (neE h) := by rw [en]; exact KP_sR (KP_r L3)
  have K1 : KP L1 (neE h) := by
    rw [en, eL3, eL2]
    exact KP_sR (KP_t (KP_sR (KP_r L1)) (KP_nlk _))
  obtain ⟨x1, x2, x3⟩ := LW_p gL3 K3 (by rw [en, rR_ne (by decide)]) (by rw [en, rR_ne (by decide)]) u1
  have r1 : ∀ f, f ≠ fE_fresh → f ≠ fE_kept → hR (neE h) f (hN h + 1) = hR L1 f (hN h + 1) := fun f f1 f2 => by
    rw [en, rR_ne f1, eL3, nlk_Rn (by omega), eL2, rR_ne f2]
  obtain ⟨y1, y2, y3⟩ := LW_p gL1 K1 (r1 _ (by decide) (by decide)) (r1 _ (by decide) (by decide)) w1
  have ef : hR (neE h) fE_fresh (hN h) = some (hN h + 4) := by rw [en, rR_at]
  have hf : frs (neE h) (hN h) = hN h + 4 := by
    unfold frs
    rw [ef]
    rfl
  have hk : kpt (neE h) (hN h) = hN h + 1 := by
    unfold kpt
    rw [kk]
    rfl
  refine ⟨⟨k3, ?_, ?_, ?_, ?_⟩, hf, hk, by rw [x2, u2], by rw [x3, u3], by rw [y2, w2], by rw [y3, w3]⟩
  · rw [hf, ef]
  · rw [hf]
    exact x1
  · rw [hk, kk]
  · rw [hk]
    exact y1
theorem pm_2 {L1 L2 : List Nat} {a b : Nat} : List.Perm ((L1 ++ [a]) ++ (L2 ++ [b])) ([a] ++ ([b] ++ (L1 ++ L2))) := List.perm_iff_count.mpr (fun x => by
  simp only [List.count_append]
  omega)
theorem pm_3 {V W : List Nat} {p q v1 v2 s1 s2 : Nat} : List.Perm ([p] ++ ([q] ++ (([v1] ++ ([v2] ++ V)) ++ ([s1] ++ ([s2] ++ W))))) ([v1] ++ ([v2] ++ ([s1] ++ ([s2] ++ ([p] ++ ([q] ++ (V ++ W))))))) := List.perm_iff_count.mpr (fun x => by
  simp only [List.count_append]
  omega)
theorem pm_5 {L M : List Nat} {e : Nat} : List.Perm (L ++ (M ++ [e])) (L ++ [e] ++ M) := List.perm_iff_count.mpr (fun x => by
  simp only [List.count_append]
  omega)
theorem ELS_p {A : Nat → Nat} {m : Nat} {h : Hp} {El El' : List Nat} (P : List.Perm El El') (H : ELS A m h El) : ELS A m h El' := by
  obtain ⟨h1, h2, h3, h4, h5⟩ := H
  have pl : List.Perm (lks h El) (lks h El') := by
    unfold lks
    exact List.Perm.append (P.map _) (P.map _)
  have pa : List.Perm (ars A h El) (ars A h El') := by
    unfold ars
    exact List.Perm.cons _ (List.Perm.cons _ (List.Perm.append (pl.map _) (pl.map _)))
  exact ⟨P.nodup_iff.mp h1, fun e he => h2 e (P.mem_iff.mpr he), pl.nodup_iff.mp h3, pa.nodup_iff.mp h4, fun a ha => h5 a (pa.mem_iff.mpr ha)⟩
theorem ELS_ne {A : Nat → Nat} {m : Nat} {h : Hp} {El : List Nat} (hg : Good h) (hm : hN h + 7 ≤ m) (h56 : A 5 < hN h ∧ A 6 < hN h) (H : ELS A m h El) : ELS A m (neE h) (El ++ [hN h]) := by
  obtain ⟨w1, w2, w3, w4, w5, w6, w7⟩ := neE_l hg
  have F := OLD_neE h
  have Ho := ELS_old hg F H
  obtain ⟨o1, o2⟩ := lks_old hg F H.2.1
  have ea : ars A (neE h) El = ars A h El := by
    unfold ars
    rw [o1, List.map_congr_left (fun k hk => (LW_old hg F (o2 k hk)).2.1), List.map_congr_left (fun k hk => (LW_old hg F (o2 k hk)).2.2)]
  have b1 : ∀ e, e ∈ El → e < hN h := fun e he => (kind_in hg (H.2.1 e he).1 (by decide)).2
  have b2 : ∀ k, k ∈ lks (neE h) El → k < hN h := fun k hk => by
    rw [o1] at hk
    exact (kind_in hg (o2 k hk).1 (by decide)).2
  have b3 : ∀ a, a ∈ ars A (neE h) El → a < hN h := fun a ha => by
    rw [ea] at ha
    unfold ars at ha
    rcases List.mem_cons.mp ha with z | z
    · rw [z]
      exact h56.1
    · rcases List.mem_cons.mp z with z | z
      · rw [z]
        exact h56.2
      · rcases List.mem_append.mp z with z | z
        · obtain ⟨k, hk, rfl⟩ := List.mem_map.mp z
          exact (kind_in hg (o2 k hk).2.2.2.1 (by decide)).2
        · obtain ⟨k, hk, rfl⟩ := List.mem_map.mp z
          exact (kind_in hg (o2 k hk).2.2.2.2.2.1 (by decide)).2
  have pl : List.Perm (lks (neE h) (El ++ [hN h])) ((hN h + 4) :: (hN h + 1) :: lks (neE h) El) := by
    unfold lks
    rw [List.map_append, List.map_append]
    show List.Perm ((El.map (frs (neE h)) ++ [frs (neE h) (hN h)]) ++ (El.map (kpt (neE h)) ++ [kpt (neE h) (hN h)])) _
    rw [w2, w3]
    exact pm_2
  have pa : List.Perm (ars A (neE h) (El ++ [hN h])) ((hN h + 5) :: (hN h + 2) :: (hN h + 6) :: (hN h + 3) :: ars A (neE h) El) := by
    have q1 := pl.map (vls (neE h))
    have q2 := pl.map (scs (neE h))
    rw [List.map_cons, List.map_cons, w4, w6] at q1
    rw [List.map_cons, List.map_cons, w5, w7] at q2
    unfold ars
    exact (List.Perm.cons _ (List.Perm.cons _ (List.Perm.append q1 q2))).trans pm_3
  have nin : ∀ {L : List Nat} {a : Nat}, (∀ k, k ∈ L → k < hN h) → hN h ≤ a → a ∉ L := fun {L a} hL ha w => by
    have := hL a w
    omega
  refine ⟨?_, fun e he => ?_, pl.nodup_iff.mpr ?_, pa.nodup_iff.mpr ?_, fun a ha => ?_⟩
  · refine List.nodup_append.mpr ⟨H.1, List.nodup_cons.mpr ⟨fun w => (by cases w), List.nodup_nil⟩, fun x hx y hy z => ?_⟩
    have := b1 x hx
    have := List.mem_singleton.mp hy
    omega
  · rcases List.mem_append.mp he with z | z
    · exact Ho.2.1 e z
    · rw [List.mem_singleton.mp z]
      exact w1
  · refine List.nodup_cons.mpr ⟨fun w => ?_, List.nodup_cons.mpr ⟨nin b2 (by omega), Ho.2.2.1⟩⟩
    rcases List.mem_cons.mp w with w | w
    · omega
    · exact nin b2 (by omega) w
  · refine List.nodup_cons.mpr ⟨fun w => ?_, List.nodup_cons.mpr ⟨fun w => ?_, List.nodup_cons.mpr ⟨fun w => ?_, List.nodup_cons.mpr ⟨nin b3 (by omega), Ho.2.2.2.1⟩⟩⟩⟩
    · rcases List.mem_cons.mp w with w | w
      · omega
      · rcases List.mem_cons.mp w with w | w
        · omega
        · rcases List.mem_cons.mp w with w | w
          · omega
          · exact nin b3 (by omega) w
    · rcases List.mem_cons.mp w with w | w
      · omega
      · rcases List.mem_cons.mp w with w | w
        · omega
        · exact nin b3 (by omega) w
    · rcases List.mem_cons.mp w with w | w
      · omega
      · exact nin b3 (by omega) w
  · rcases List.mem_cons.mp (pa.mem_iff.mp ha) with w | w
    · omega
    · rcases List.mem_cons.mp w with w | w
      · omega
      · rcases List.mem_cons.mp w with w | w
        · omega
        · rcases List.mem_cons.mp w with w | w
          · omega
          · exact Ho.2.2.2.2 a w
theorem KO_ad {h1 h2 : Hp} {S : MM} {n e kp : Nat} {Ee : Nat → Nat} (H : KO h1 S n some Ee) (fI : ∀ f, 259 ≤ f → f ≤ 266 → hI h2 f = hI h1 f) (fK : ∀ x, x ≠ kp → hI h2 fL_isKnown x = hI h1 fL_isKnown x) (k0 : hI h2 fL_isKnown kp = 0) (eA : hA h2 = hA h1) (e1 : hR h2 fE_kept = hR h1 fE_kept) (e2 : hR h2 fL_values = hR h1 fL_values) (e3 : hR h2 fL_sources = hR h1 fL_sources) (hk : kp = kpt h1 e) (ne : ∀ i, i < n → kpt h1 (Ee i) ≠ kp) : KO h2 S (n + 1) (mtA n) (up Ee n e) := fun i hi => by
  have k1 : kpt h2 = kpt h1 := funext fun x => by unfold kpt; rw [e1]
  have v1 : vls h2 = vls h1 := funext fun x => by unfold vls; rw [e2]
  have s1 : scs h2 = scs h1 := funext fun x => by unfold scs; rw [e3]
  rw [k1]
  by_cases z : i = n
  · have em : mtA n i = none := by
      unfold mtA
      rw [if_neg (by omega)]
    rw [em, z, up_i]
    show hI h2 fL_isKnown (kpt h1 e) = 0
    rw [← hk]
    exact k0
  · have em : mtA n i = some i := by
      unfold mtA
      rw [if_pos (by omega)]
    have hk0 : LKo h1 (kpt h1 (Ee i)) S i := H i (by omega)
    rw [em, up_n z]
    show LKo h2 (kpt h1 (Ee i)) S i
    unfold LKo at *
    rw [v1, s1, eA, fK _ (ne i (by omega)), fI fL_hasBox (by decide) (by decide), fI fL_left (by decide) (by decide), fI fL_top (by decide) (by decide), fI fL_width (by decide) (by decide), fI fL_height (by decide) (by decide), fI fL_lineCount (by decide) (by decide)]
    exact hk0
/-- the element to be used, new or again -/
theorem ad_1 {A D : Nat → Nat} {m : Nat} {h : Hp} {S : MM} {n R : Nat} {Ee : Nat → Nat} {is ss : List Nat} {ra : Nat → Nat} {pa : Nat → Nat → Nat} {Dd Pl dP : Nat → Nat} (T : TLD A D m h S n R Ee is ss ra pa Dd Pl dP) (O : KO h S n some Ee) (m33 : hN h + 7 ≤ m) (len : n + is.length ≤ 24) (hn : n < 24) {h1 : Hp} {e kp : Nat}
    (C : (is = [] ∧ h1 = neE h ∧ e = hN h ∧ kp = hN h + 1) ∨ (∃ is' : List Nat, is = is' ++ [e] ∧ AL h1 (A 8) (D 8) is' ∧ LF h h1 (A 8) (D 8) (D 8) ∧ kp = kpt h e)) :
    ∃ is' : List Nat, n + 1 + is'.length ≤ 24 ∧ KP h h1 ∧ (∀ f, f ≠ fA_modCount → f ≠ fA_size → hI h1 f = hI h f) ∧ (∀ x, x ≠ A 8 → hI h1 fA_size x = hI h fA_size x) ∧ (∀ f, f ≠ fA_elementData → (f < 192 ∨ 257 < f) → hR h1 f = hR h f) ∧ (∀ x, x ≠ A 8 → hR h1 fA_elementData x = hR h fA_elementData x) ∧ (∀ x, x < hN h → x ≠ D 8 → hQ h1 x = hQ h x) ∧ hW h1 = hW h ∧
      AL h1 (A 8) (D 8) is' ∧ ELS A m h1 ((List.range n).map Ee ++ [e] ++ is') ∧ TEL S n h1 Ee ∧ KO h1 S n some Ee ∧ kp = kpt h1 e := by
  have hEn : ∀ e, e < n → Ee e < hN h := fun e he => Ee_n T he
  obtain ⟨hg, hX, ⟨l7, l8, _, _, _, _⟩, hE, hT, _⟩ := T
  rcases C with ⟨c1, c2, c3, c4⟩ | ⟨is', c1, c2, F, c4⟩
  · rw [c1] at l8 hE
    rw [List.append_nil] at hE
    have Fo := OLD_neE h
    have hEl := ELS_ne hg m33 ⟨(kind_in hg hX.2.2.2.2.2.2.1 (by decide)).2, (kind_in hg hX.2.2.2.2.2.2.2.2.1 (by decide)).2⟩ hE
    obtain ⟨s1, s2, s3, s4⟩ := neE_s h
    rw [c2, c3, c4]
    refine ⟨[], (show n + 1 + 0 ≤ 24 by omega), KP_neE h, fun f _ _ => by rw [s1], fun x _ => by rw [s1], fun f f1 f2 => neE_R ?_ ?_ ?_ ?_, fun x _ => by rw [neE_R (by decide) (by decide) (by decide) (by decide)], fun x _ _ => by rw [s3], s4, AL_old hg Fo l8, by rw [List.append_nil]; exact hEl, TEL_old Fo hEn hT, KO_old hg Fo (fun e he => hE.2.1 _ (List.mem_map.mpr ⟨e, List.mem_range.mpr he, rfl⟩)) O, (neE_l hg).2.2.1.symm⟩
    · exact fun y => by rw [y] at f2; exact absurd f2 (by decide)
    · exact fun y => by rw [y] at f2; exact absurd f2 (by decide)
    · exact fun y => by rw [y] at f2; exact absurd f2 (by decide)
    · exact fun y => by rw [y] at f2; exact absurd f2 (by decide)
  · rw [c1, List.length_append] at len
    rw [c1] at hE
    have len : n + (is'.length + 1) ≤ 24 := len
    obtain ⟨f0, f1, f2, f3, f4, f5, f6, f7, f8⟩ := F
    refine ⟨is', by omega, f0, f2, fun x hx => f3 _ x hx, fun f a _ => f4 f a, fun x hx => f5 _ x hx, fun x a b => f8 x a b, f7, c2, ELS_p pm_5 (ELS_f hg f0 (f4 _ (by decide)) (f4 _ (by decide)) (f4 _ (by decide)) (f4 _ (by decide)) hE), TEL_f (h := h) (fun f hf => ?_) (fun f hf => ?_) hT, KO_f (fun g b1 b2 => f2 g (fun y => by rw [y] at b1; exact absurd b1 (by decide)) (fun y => by rw [y] at b1; exact absurd b1 (by decide))) (f4 _ (by decide)) (f4 _ (by decide)) (f4 _ (by decide)) f6 O, ?_⟩
    · rcases hf with z | z | z | z | z <;> subst z <;> exact f2 _ (by decide) (by decide)
    · rcases hf with z | z | z | z | z <;> subst z <;> exact f4 _ (by decide)
    · rw [c4]
      unfold kpt
      rw [f4 _ (by decide)]
