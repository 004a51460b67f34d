/-! ===== the law's calls over the tables of what is told ===== -/
/-- what is told of a house: elements, rules, window, classes, texts, containers, questions, declarations -/
abbrev TT : Type := Nat × Nat × Int32 × (Nat → Int32) × (Nat → Int32) × (Nat → Int32) × (Nat → Int32) × (Nat → Int32)
/-- the law's rows -/
abbrev AR : Type := (Nat → Int32) × (Nat → Int32) × (Nat → Int32) × (Nat → Int32) × (Nat → Int32)
def CTT (G : Gl) (T : TT) : MM := CT G T.1 T.2.1 T.2.2.1 T.2.2.2.1 T.2.2.2.2.1 T.2.2.2.2.2.1 T.2.2.2.2.2.2.1 (D0 T.2.2.2.2.2.2.2) (D1 T.2.2.2.2.2.2.2) (D2 T.2.2.2.2.2.2.2)
def HT (G : Gl) (b : Hp) (H : Nat) (P : Nat → Prop) (T : TT) : Prop := ∃ S : MM, HS b H P S T.1 T.1 T.2.1 ∧ TG (CTT G T) S
def WO (G : Gl) (b : Hp) (Ho Hq a : Nat) (T T' : TT) (F : AR) : Prop := ∃ P Q : Nat → Prop, HT G b Ho P T ∧ HT G b Hq Q T' ∧ LA b a P Q F.1 F.2.1 F.2.2.1 F.2.2.2.1 F.2.2.2.2
/-- a step of one house -/
def ST1 (G : Gl) (b : Hp) (H : Nat) (P : Nat → Prop) (T2 : TT) (Rb : Hp → Prop) : Prop := ∃ (b' : Hp) (P' : Nat → Prop), Rb b' ∧ HT G b' H P' T2 ∧ FRM b b' P P'
theorem wo_o {G : Gl} {b : Hp} {Ho Hq a : Nat} {T T2 T' : TT} {F : AR} {Rb : Hp → Prop} (W : WO G b Ho Hq a T T' F) (h : ∀ P, Good b → HT G b Ho P T → ST1 G b Ho P T2 Rb) : ∃ b', Rb b' ∧ WO G b' Ho Hq a T2 T' F := by
  obtain ⟨P, Q, W1, ⟨Sq, W2, g2⟩, L⟩ := W
  obtain ⟨b', P', r, ⟨S', W1', g1'⟩, Fr⟩ := h P L.1 W1
  obtain ⟨P2, Q2, A1, A2, A3⟩ := wd_o W2 L W1' Fr
  exact ⟨b', r, P2, Q2, ⟨S', A1, g1'⟩, ⟨Sq, A2, g2⟩, A3⟩
theorem wo_q {G : Gl} {b : Hp} {Ho Hq a : Nat} {T T2 T' : TT} {F : AR} {Rb : Hp → Prop} (W : WO G b Ho Hq a T T' F) (h : ∀ P, Good b → HT G b Hq P T' → ST1 G b Hq P T2 Rb) : ∃ b', Rb b' ∧ WO G b' Ho Hq a T T2 F := by
  obtain ⟨P, Q, ⟨So, W1, g1⟩, W2, L⟩ := W
  obtain ⟨b', Q', r, ⟨S', W2', g2'⟩, Fr⟩ := h Q L.1 W2
  obtain ⟨P2, Q2, A1, A2, A3⟩ := wd_q W1 L W2' Fr
  exact ⟨b', r, P2, Q2, ⟨So, A1, g1⟩, ⟨S', A2, g2'⟩, A3⟩
theorem wo_ar {G : Gl} {b : Hp} {Ho Hq a : Nat} {T T' : TT} {F : AR} (W : WO G b Ho Hq a T T' F) : (hK b a = 100 ∧ hL b a = 10 ∧ hA b a = F.1) ∧ (hK b (a + 1) = 100 ∧ hL b (a + 1) = 10 ∧ hA b (a + 1) = F.2.1) ∧ (hK b (a + 2) = 100 ∧ hL b (a + 2) = 10 ∧ hA b (a + 2) = F.2.2.1) ∧ (hK b (a + 3) = 100 ∧ hL b (a + 3) = 6 ∧ hA b (a + 3) = F.2.2.2.1) ∧ hK b (a + 4) = 100 ∧ hL b (a + 4) = 60 ∧ hA b (a + 4) = F.2.2.2.2 := by
  obtain ⟨P, Q, _, _, g, k, ⟨l0, l1, l2, l3, l4⟩, ⟨d0, d1, d2, d3, d4⟩, dj⟩ := W
  exact ⟨⟨(k 0 (by decide)).1, l0, d0⟩, ⟨(k 1 (by decide)).1, l1, d1⟩, ⟨(k 2 (by decide)).1, l2, d2⟩, ⟨(k 3 (by decide)).1, l3, d3⟩, (k 4 (by decide)).1, l4, d4⟩
theorem wo_A {G : Gl} {b : Hp} {Ho Hq a i j : Nat} {v : Int32} {T T' : TT} {F : AR} (hi : i < 5) (W : WO G b Ho Hq a T T' F) : WO G (sA b (a + i) j v) Ho Hq a T T' (if i = 0 then va_up F.1 j v else F.1, if i = 1 then va_up F.2.1 j v else F.2.1, if i = 2 then va_up F.2.2.1 j v else F.2.2.1, if i = 3 then va_up F.2.2.2.1 j v else F.2.2.2.1, if i = 4 then va_up F.2.2.2.2 j v else F.2.2.2.2) := by
  obtain ⟨P, Q, ⟨So, W1, g1⟩, ⟨Sq, W2, g2⟩, L⟩ := W
  obtain ⟨P2, Q2, A1, A2, A3⟩ := wd_A (j := j) (v := v) hi ⟨P, Q, W1, W2, L⟩
  exact ⟨P2, Q2, ⟨So, A1, g1⟩, ⟨Sq, A2, g2⟩, A3⟩
section STs
variable {l : Launch} {G : Gl} {b : Hp} {H : Nat} {P : Nat → Prop} {n R : Nat} {w : Int32} {cl wo ho aq g : Nat → Int32}
theorem st_add {c : Nat} (gb : Good b) (W : HT G b H P (n, R, w, cl, wo, ho, aq, g)) (h1 : 1 ≤ n) (h24 : n < 24) (hw : wo n = 0) (hh : ho n = 0) (hc : c < 16) : ST1 G b H P (n + 1, R, w, va_up cl n (nI c), wo, ho, aq, g) (fun b' => MRw l G yL_does (.codeWith yL_does cL_does 8 (Option.some Jvm.ClassFile.FieldType.int) [(0, 265, 266, 69), (0, 265, 271, 71), (0, 265, 276, 73)]) 13 30 600 [.ref H, .int 0, .int (nI (drw G n % n)), .int (nI (drw G n / 9 % 6)), .int (nI c), .int 0, .int 0] b (.inl (some (.int (nI n)), b'))) := by
  obtain ⟨S, W, T⟩ := W
  obtain ⟨b', P', S', M, g', W', F⟩ := ds_add l G gb W (x3 := 0) (x4 := 0) (t := nI (drw G n / 9 % 6)) (c := nI c) (show n < 2 ^ 31 by omega) (ct_plc T (by omega) (Nat.mod_lt _ h1)) (c5 (Nat.mod_lt _ (by decide))) (c255 hc) h24
  have e2 : S 2 0 = nI n := by
    rw [T 2 (by decide) (by decide)]
    rfl
  rw [e2] at M
  exact ⟨b', P', M, ⟨S', W', ct_add h1 h24 hw hh T g'⟩, F⟩
theorem st_rule (gb : Good b) (W : HT G b H P (n, R, w, cl, wo, ho, aq, g)) (h16 : R < 16) : ST1 G b H P (n, R + 1, w, cl, wo, ho, va_up aq R (-1), g) (fun b' => MRw l G yL_rule (.codeWith yL_rule cL_rule 8 (Option.some Jvm.ClassFile.FieldType.int) [(0, 13, 14, 71), (0, 13, 19, 73)]) 13 30 600 [.ref H, .int (rt G R), .int (nI (drw G (10 + R) / 18 % 4)), .int (nI (drw G (10 + R) / 72 % 2 * 8)), .int (nI (drw G (10 + R) / 144 % 2)), .int (nI (drw G (10 + R) / 288 % 3)), .int (rb G R)] b (.inl (some (.int (nI R)), b'))) := by
  obtain ⟨S, W, T⟩ := W
  have q1 : ¬ (rt G R < -1 ∨ 5 < rt G R) := by
    unfold rt
    by_cases z : drw G (10 + R) % 3 = 0
    · rw [if_pos z]
      rintro (y | y)
      · exact nI_pos (n := drw G (10 + R) / 3 % 6) (by omega) (Int32.lt_trans y (by decide))
      · exact absurd (show nI 5 < nI (drw G (10 + R) / 3 % 6) from y) (nI_nlt (by omega) (by decide))
    · rw [if_neg z]
      decide
  have qi : rb G R = 0 ∨ rb G R = 1 := by
    unfold rb
    by_cases z : drw G (10 + R) / 864 % 3 = 0
    · exact Or.inr (if_pos z)
    · exact Or.inl (if_neg z)
  have n1 : ∀ x, x < 2 → ¬ (nI x < 0 ∨ 1 < nI x) := fun x h z => z.elim (nI_pos (by omega)) (fun y => absurd (show nI 1 < nI x from y) (nI_nlt (by omega) (by decide)))
  have n2 : ∀ x, x < 3 → ¬ (nI x < 0 ∨ 2 < nI x) := fun x h z => z.elim (nI_pos (by omega)) (fun y => absurd (show nI 2 < nI x from y) (nI_nlt (by omega) (by decide)))
  obtain ⟨b', P', S', M, g', W', F⟩ := ds_rule l G gb W (t := rt G R) (a := nI (drw G (10 + R) / 18 % 4)) (c := nI (drw G (10 + R) / 72 % 2 * 8)) (d := nI (drw G (10 + R) / 144 % 2)) (y := nI (drw G (10 + R) / 288 % 3)) (i := rb G R) qi ⟨q1, c255 (by omega), c255 (by omega)⟩ (n1 _ (by omega)) (n2 _ (by omega)) h16
  exact ⟨b', P', M, ⟨S', W', ct_rule h16 T g'⟩, F⟩
theorem st_dress {e c : Nat} (gb : Good b) (W : HT G b H P (n, R, w, cl, wo, ho, aq, g)) (h24 : n ≤ 24) (he : e < n) (hc : c < 16) : ST1 G b H P (n, R, w, va_up cl e (nI c), wo, ho, aq, g) (fun b' => MRw l G yL_does (.codeWith yL_does cL_does 8 (Option.some Jvm.ClassFile.FieldType.int) [(0, 265, 266, 69), (0, 265, 271, 71), (0, 265, 276, 73)]) 13 8 200 [.ref H, .int 2, .int (nI e), .int (nI c), .int 0, .int 0, .int 0] b (.inl (some (.int (cl e)), b'))) := by
  obtain ⟨S, W, T⟩ := W
  obtain ⟨b', P', S', M, g', W', F⟩ := ds_dress l G gb W (x2 := 0) (x3 := 0) (x4 := 0) (c := nI c) (ct_plc T h24 he) (c255 hc)
  have e7 : S 7 e = cl e := by
    rw [T 7 (by decide) (by decide)]
    rfl
  rw [e7] at M
  exact ⟨b', P', M, ⟨S', W', ct_7 T g'⟩, F⟩
theorem st_text {e wd : Nat} (gb : Good b) (W : HT G b H P (n, R, w, cl, wo, ho, aq, g)) (h24 : n ≤ 24) (he : e < n) (hw : wd < 100) (h0 : ¬ 0 ∈ dg 8 wd) : ST1 G b H P (n, R, w, cl, va_up wo e (nI wd), ho, aq, g) (fun b' => MRw l G yL_does (.codeWith yL_does cL_does 8 (Option.some Jvm.ClassFile.FieldType.int) [(0, 265, 266, 69), (0, 265, 271, 71), (0, 265, 276, 73)]) 13 8 200 [.ref H, .int 3, .int (nI e), .int (nI wd), .int 0, .int 0, .int 0] b (.inl (some (.int (nI (dg 8 wd).length)), b'))) := by
  obtain ⟨S, W, T⟩ := W
  obtain ⟨b', P', S', M, g', W', F⟩ := ds_text l G gb W (x2 := 0) (x3 := 0) (x4 := 0) (ct_plc T h24 he) (show wd < 100000000 by omega) h0
  exact ⟨b', P', M, ⟨S', W', ct_8 T g'⟩, F⟩
theorem st_is {e : Nat} {c : Int32} (gb : Good b) (W : HT G b H P (n, R, w, cl, wo, ho, aq, g)) (h24 : n ≤ 24) (he : e < n) (hc : c = 0 ∨ c = 1) (hh : ho e = 0 ∨ ho e = 1) : ST1 G b H P (n, R, w, cl, wo, va_up ho e c, aq, g) (fun b' => MRw l G yL_is (.codeWith yL_is cL_is 5 (Option.some Jvm.ClassFile.FieldType.int) [(0, 39, 40, 69)]) 13 8 200 [.ref H, .int 0, .int (nI e), .int c] b (.inl (some (.int (ho e)), b'))) := by
  obtain ⟨S, W, T⟩ := W
  have e9 : S 9 e = ho e := by
    rw [T 9 (by decide) (by decide)]
    rfl
  rcases hc with z | z
  · subst z
    obtain ⟨b', P', S', M, g', W', F⟩ := ds_is_0 l G gb W (ct_plc T h24 he) (by rw [e9]; exact hh)
    rw [e9] at M
    exact ⟨b', P', M, ⟨S', W', ct_9 T g'⟩, F⟩
  · subst z
    obtain ⟨b', P', S', M, g', W', F⟩ := ds_is_1 l G gb W (ct_plc T h24 he) (by rw [e9]; exact hh)
    rw [e9] at M
    exact ⟨b', P', M, ⟨S', W', ct_9 T g'⟩, F⟩
theorem st_window {c : Nat} (gb : Good b) (W : HT G b H P (n, R, w, cl, wo, ho, aq, g)) (hc : c ≤ 2000) : ST1 G b H P (n, R, nI c, cl, wo, ho, aq, g) (fun b' => MRw l G yL_does (.codeWith yL_does cL_does 8 (Option.some Jvm.ClassFile.FieldType.int) [(0, 265, 266, 69), (0, 265, 271, 71), (0, 265, 276, 73)]) 13 8 200 [.ref H, .int 4, .int (nI c), .int 0, .int 0, .int 0, .int 0] b (.inl (some (.int w), b'))) := by
  obtain ⟨S, W, T⟩ := W
  obtain ⟨b', P', S', M, g', W', F⟩ := ds_window l G gb W (x1 := 0) (x2 := 0) (x3 := 0) (x4 := 0) (c2000 hc)
  have e1 : S 1 0 = w := by
    rw [T 1 (by decide) (by decide)]
    rfl
  rw [e1] at M
  exact ⟨b', P', M, ⟨S', W', ct_1 T g'⟩, F⟩
theorem st_ask {r x : Nat} (gb : Good b) (W : HT G b H P (n, R, w, cl, wo, ho, aq, g)) (hr : r < R) (hx : x < 80) : ST1 G b H P (n, R, w, cl, wo, ho, va_up aq r (nI x - 1), g) (fun b' => MRw l G yL_does (.codeWith yL_does cL_does 8 (Option.some Jvm.ClassFile.FieldType.int) [(0, 265, 266, 69), (0, 265, 271, 71), (0, 265, 276, 73)]) 13 8 200 [.ref H, .int 6, .int (nI r), .int (nI x - 1), .int 0, .int 0, .int 0] b (.inl (some (.int (aq r)), b'))) := by
  obtain ⟨S, W, T⟩ := W
  obtain ⟨b', P', S', M, g', W', F⟩ := ds_ask l G gb W (x2 := 0) (x3 := 0) (x4 := 0) hr (xm1 hx)
  have e19 : S 19 r = aq r := by
    rw [T 19 (by decide) (by decide)]
    rfl
  rw [e19] at M
  exact ⟨b', P', M, ⟨S', W', ct_19 T g'⟩, F⟩
theorem st_decl {r p t : Nat} (gb : Good b) (W : HT G b H P (n, R, w, cl, wo, ho, aq, g)) (hr : r < R) (h6 : R ≤ 6) (hp : p < 10) (ht : t < 3000) (hc : cg g r p ≤ 6) : ST1 G b H P (n, R, w, cl, wo, ho, aq, va_up g (10 * r + p) (nI (t + 1))) (fun b' => MRw l G yL_declares (.code yL_declares cL_declares 6 (Option.some Jvm.ClassFile.FieldType.int)) 14 30 600 [.ref H, .int (nI r), .int (nI p), .int (nI t)] b (.inl (some (.int (nI (cg g r p))), b'))) := by
  obtain ⟨S, W, T⟩ := W
  have ec : cntD S r p = cg g r p := cntD_cg T (by omega) hp
  obtain ⟨b', P', S', M, g', W', F⟩ := ds_decl l G gb W hr hp ht (by rw [ec]; exact hc)
  rw [ec] at M
  obtain ⟨u0, u1, u2⟩ := D_up (g := g) (show r < 6 by omega) hp ht
  have T' := ct_d (show p < 14 by omega) T g'
  refine ⟨b', P', M, ⟨S', W', ?_⟩, F⟩
  unfold CTT at T' ⊢
  have T2 : TG (CT G n R w cl wo ho aq (va_up (D0 g) (14 * r + p) (dkk t)) (va_up (D1 g) (14 * r + p) (dvv p t)) (va_up (D2 g) (14 * r + p) (dff t))) S' := T'
  rw [u0, u1, u2] at T2
  exact T2
theorem st_declx {r p t : Nat} (gb : Good b) (W : HT G b H P (n, R, w, cl, wo, ho, aq, g)) (hr : r < R) (h6 : R ≤ 6) (hp : p < 10) (ht : t < 3000) (hc : 6 < cg g r p) : ST1 G b H P (n, R, w, cl, wo, ho, aq, g) (fun b' => MRw l G yL_declares (.code yL_declares cL_declares 6 (Option.some Jvm.ClassFile.FieldType.int)) 14 30 600 [.ref H, .int (nI r), .int (nI p), .int (nI t)] b (.inl (some (.int (-9)), b'))) := by
  obtain ⟨S, W, T⟩ := W
  have ec : cntD S r p = cg g r p := cntD_cg T (by omega) hp
  obtain ⟨b', P', M, W', F⟩ := ds_decl_x l G gb W hr hp ht (by rw [ec]; exact hc)
  exact ⟨b', P', M, ⟨S, W', T⟩, F⟩
end STs
/-! both houses at the end: the same is told, so the same is found -/
theorem ky_u {S S' : MM} {n R : Nat} (g : TG S S') (hT : TOLD S n R) (h1 : KY S n R) (h2 : KY S' n R) : ∀ e, e < n → (∀ p, p < 14 → S 23 (14 * e + p) = S' 23 (14 * e + p) ∧ S 24 (14 * e + p) = S' 24 (14 * e + p)) ∧ (∀ i, i < 4 → S 25 (4 * e + i) = S' 25 (4 * e + i)) ∧ S 26 e = S' 26 e := by
  obtain ⟨Y, hY, hV, k1⟩ := h1
  obtain ⟨Y', hY', hV', k2⟩ := h2
  obtain ⟨S1, e1, g1, _⟩ := finds_s hT hY hV
  obtain ⟨S2, e2, g2, _⟩ := finds_s hT (LE_c (TG_s g) hY') hV'
  rw [e1] at e2
  cases e2
  intro e he
  obtain ⟨v1, b1, c1⟩ := k1 e he
  obtain ⟨v2, b2, c2⟩ := k2 e he
  obtain ⟨v3, b3, c3⟩ := g1 e he
  obtain ⟨v4, b4, c4⟩ := g2 e he
  refine ⟨fun p hp => ⟨?_, ?_⟩, fun i hi => ?_, ?_⟩
  · rw [(v1 p hp).1, (v2 p hp).1, ← (v3 p hp).1, ← (v4 p hp).1]
  · rw [(v1 p hp).2, (v2 p hp).2, ← (v3 p hp).2, ← (v4 p hp).2]
  · rw [b1 i hi, b2 i hi, ← b3 i hi, ← b4 i hi]
  · rw [c1, c2, ← c3, ← c4]
theorem CJ_ky {A : Nat → Nat} {s : Hp} {S : MM} {k n R : Nat} (H : CJ A s S k n R) : TOLD S n R ∧ KY S n R := by
  obtain ⟨m, D, Ee, is, ss, ra, pa, Dd, Pl, dP, T, N, O, nu, z, len, ky⟩ := H
  exact ⟨N.1, ky⟩
/-- the two houses answer alike -/
def AL2 (b : Hp) (Ho Hq : Nat) (l : Launch) (G : Gl) : Prop := ∀ e, e < 10 → (∀ i, i < 14 → ∃ v u : Int32, MRw l G yL_does (.codeWith yL_does cL_does 8 (Option.some Jvm.ClassFile.FieldType.int) [(0, 265, 266, 69), (0, 265, 271, 71), (0, 265, 276, 73)]) 13 8 200 [.ref Ho, .int 12, .int (nI e), .int (nI i), .int 0, .int 0, .int 0] b (.inl (some (.int v), b)) ∧ MRw l G yL_does (.codeWith yL_does cL_does 8 (Option.some Jvm.ClassFile.FieldType.int) [(0, 265, 266, 69), (0, 265, 271, 71), (0, 265, 276, 73)]) 13 8 200 [.ref Hq, .int 12, .int (nI e), .int (nI i), .int 0, .int 0, .int 0] b (.inl (some (.int v), b)) ∧ MRw l G yL_does (.codeWith yL_does cL_does 8 (Option.some Jvm.ClassFile.FieldType.int) [(0, 265, 266, 69), (0, 265, 271, 71), (0, 265, 276, 73)]) 13 8 200 [.ref Ho, .int 14, .int (nI e), .int (nI i), .int 0, .int 0, .int 0] b (.inl (some (.int u), b)) ∧ MRw l G yL_does (.codeWith yL_does cL_does 8 (Option.some Jvm.ClassFile.FieldType.int) [(0, 265, 266, 69), (0, 265, 271, 71), (0, 265, 276, 73)]) 13 8 200 [.ref Hq, .int 14, .int (nI e), .int (nI i), .int 0, .int 0, .int 0] b (.inl (some (.int u), b))) ∧
  (∀ i, i < 4 → ∃ v : Int32, MRw l G yL_does (.codeWith yL_does cL_does 8 (Option.some Jvm.ClassFile.FieldType.int) [(0, 265, 266, 69), (0, 265, 271, 71), (0, 265, 276, 73)]) 13 8 200 [.ref Ho, .int 15, .int (nI e), .int (nI i), .int 0, .int 0, .int 0] b (.inl (some (.int v), b)) ∧ MRw l G yL_does (.codeWith yL_does cL_does 8 (Option.some Jvm.ClassFile.FieldType.int) [(0, 265, 266, 69), (0, 265, 271, 71), (0, 265, 276, 73)]) 13 8 200 [.ref Hq, .int 15, .int (nI e), .int (nI i), .int 0, .int 0, .int 0] b (.inl (some (.int v), b))) ∧
  ∃ v : Int32, MRw l G yL_does (.codeWith yL_does cL_does 8 (Option.some Jvm.ClassFile.FieldType.int) [(0, 265, 266, 69), (0, 265, 271, 71), (0, 265, 276, 73)]) 13 8 200 [.ref Ho, .int 17, .int (nI e), .int 0, .int 0, .int 0, .int 0] b (.inl (some (.int v), b)) ∧ MRw l G yL_does (.codeWith yL_does cL_does 8 (Option.some Jvm.ClassFile.FieldType.int) [(0, 265, 266, 69), (0, 265, 271, 71), (0, 265, 276, 73)]) 13 8 200 [.ref Hq, .int 17, .int (nI e), .int 0, .int 0, .int 0, .int 0] b (.inl (some (.int v), b))
theorem wo_al {l : Launch} {G : Gl} {b : Hp} {Ho Hq a R : Nat} {w : Int32} {cl wo ho aq g g' : Nat → Int32} {F : AR} (W : WO G b Ho Hq a (10, R, w, cl, wo, ho, aq, g) (10, R, w, cl, wo, ho, aq, g') F) (hg : D0 g' = D0 g ∧ D1 g' = D1 g ∧ D2 g' = D2 g) : AL2 b Ho Hq l G := by
  obtain ⟨P, Q, ⟨So, W1, T1⟩, ⟨Sq, W2, T2⟩, L⟩ := W
  have gb := L.1
  have T2' : TG (CTT G (10, R, w, cl, wo, ho, aq, g)) Sq := by
    have t : TG (CT G 10 R w cl wo ho aq (D0 g') (D1 g') (D2 g')) Sq := T2
    rw [hg.1, hg.2.1, hg.2.2] at t
    exact t
  have gg : TG So Sq := TG_t (TG_s T1) T2'
  have k1 : TOLD So 10 R ∧ KY So 10 R := by
    obtain ⟨s, σ, A, E, Cc, e, hP⟩ := id W1
    exact CJ_ky Cc
  have k2 : TOLD Sq 10 R ∧ KY Sq 10 R := by
    obtain ⟨s, σ, A, E, Cc, e, hP⟩ := id W2
    exact CJ_ky Cc
  have u := ky_u gg k1.1 k1.2 k2.2
  intro e he
  have p1 := ct_plc T1 (show 10 ≤ 24 by decide) he
  have p2 := ct_plc T2' (show 10 ≤ 24 by decide) he
  obtain ⟨u1, u2, u3⟩ := u e he
  refine ⟨fun i hi => ⟨_, _, ds_value l G gb W1 p1 hi, ?_, ds_from l G gb W1 p1 hi, ?_⟩, fun i hi => ⟨_, ds_box l G gb W1 p1 hi, ?_⟩, _, ds_lines l G gb W1 p1, ?_⟩
  · rw [(u1 i hi).1]
    exact ds_value l G gb W2 p2 hi
  · rw [(u1 i hi).2]
    exact ds_from l G gb W2 p2 hi
  · rw [u2 i hi]
    exact ds_box l G gb W2 p2 hi
  · rw [u3]
    exact ds_lines l G gb W2 p2
