/-! ===== the law's calls on a house in the big heap (by gends.py) ===== -/
def isI (v : Value) : Bool := match v with
  | .int _ => true
  | _ => false
theorem upi {as : List Value} (h : as.all isI = true) : ∀ (τ : Nat → Nat) (u : Value), u ∈ as → upv τ u = u := fun τ u hu => by
  have := List.all_eq_true.mp h u hu
  cases u <;> first | rfl | (cases this)
theorem vli {n : Nat} {as : List Value} (h : as.all isI = true) : vl n as := fun u hu => by
  have := List.all_eq_true.mp h u hu
  cases u <;> first | trivial | (cases this)

theorem ds_dress (l : Launch) (G : Gl) {b : Hp} {H : Nat} {P : Nat → Prop} {S : MM} {k n R : Nat} (gb : Good b) (W : HS b H P S k n R) {x2 x3 x4 : Int32} {x c : Int32} {p : Nat} (hp : plc S n x = some p) (q : ¬ (c < 0 ∨ 255 < c)) : ∃ (b' : Hp) (P' : Nat → Prop) (S' : MM), MRw l G yL_does (.codeWith yL_does cL_does 8 (Option.some Jvm.ClassFile.FieldType.int) [(0, 265, 266, 69), (0, 265, 271, 71), (0, 265, 276, 73)]) 13 8 200 [.ref H, .int 2, .int x, .int c, .int x2, .int x3, .int x4] b (.inl (some (.int (S 7 p)), b')) ∧ TG (u2 S 7 p c) S' ∧ HS b' H P' S' k n R ∧ FRM b b' P P' := by
  have hk := HS_k W
  obtain ⟨s, σ, A, E, C, e, hP⟩ := W
  obtain ⟨s', S', M, g, C', K⟩ := cj_dress l G C hp q
  obtain ⟨b', P', M2, W', F⟩ := hs_op gb E C e hP M C' K (upi rfl) (fun _ => rfl) (vli rfl)
  exact ⟨b', P', S', wd_dress l G M2 hk.1, g, W', F⟩

theorem ds_text (l : Launch) (G : Gl) {b : Hp} {H : Nat} {P : Nat → Prop} {S : MM} {k n R : Nat} (gb : Good b) (W : HS b H P S k n R) {x2 x3 x4 : Int32} {x : Int32} {p wd : Nat} (hp : plc S n x = some p) (hw : wd < 100000000) (h0 : ¬ 0 ∈ dg 8 wd) : ∃ (b' : Hp) (P' : Nat → Prop) (S' : MM), MRw l G yL_does (.codeWith yL_does cL_does 8 (Option.some Jvm.ClassFile.FieldType.int) [(0, 265, 266, 69), (0, 265, 271, 71), (0, 265, 276, 73)]) 13 8 200 [.ref H, .int 3, .int x, .int (nI wd), .int x2, .int x3, .int x4] b (.inl (some (.int (nI (dg 8 wd).length)), b')) ∧ TG (u2 S 8 p (nI wd)) S' ∧ HS b' H P' S' k n R ∧ FRM b b' P P' := by
  have hk := HS_k W
  obtain ⟨s, σ, A, E, C, e, hP⟩ := W
  obtain ⟨s', S', M, g, C', K⟩ := cj_text l G C hp hw h0
  obtain ⟨b', P', M2, W', F⟩ := hs_op gb E C e hP M C' K (upi rfl) (fun _ => rfl) (vli rfl)
  exact ⟨b', P', S', wd_text l G M2 hk.1, g, W', F⟩

theorem ds_window (l : Launch) (G : Gl) {b : Hp} {H : Nat} {P : Nat → Prop} {S : MM} {k n R : Nat} (gb : Good b) (W : HS b H P S k n R) {x1 x2 x3 x4 : Int32} {c : Int32} (q : ¬ (c < 0 ∨ 2000 < c)) : ∃ (b' : Hp) (P' : Nat → Prop) (S' : MM), MRw l G yL_does (.codeWith yL_does cL_does 8 (Option.some Jvm.ClassFile.FieldType.int) [(0, 265, 266, 69), (0, 265, 271, 71), (0, 265, 276, 73)]) 13 8 200 [.ref H, .int 4, .int c, .int x1, .int x2, .int x3, .int x4] b (.inl (some (.int (S 1 0)), b')) ∧ TG (u2 S 1 0 c) S' ∧ HS b' H P' S' k n R ∧ FRM b b' P P' := by
  have hk := HS_k W
  obtain ⟨s, σ, A, E, C, e, hP⟩ := W
  obtain ⟨s', S', M, g, C', K⟩ := cj_window l G C q
  obtain ⟨b', P', M2, W', F⟩ := hs_op gb E C e hP M C' K (upi rfl) (fun _ => rfl) (vli rfl)
  exact ⟨b', P', S', wd_window l G M2 hk.1, g, W', F⟩

theorem ds_ask (l : Launch) (G : Gl) {b : Hp} {H : Nat} {P : Nat → Prop} {S : MM} {k n R : Nat} (gb : Good b) (W : HS b H P S k n R) {x2 x3 x4 : Int32} {c : Int32} {r : Nat} (hr : r < R) (q : ¬ (c < -1 ∨ 2000 < c)) : ∃ (b' : Hp) (P' : Nat → Prop) (S' : MM), MRw l G yL_does (.codeWith yL_does cL_does 8 (Option.some Jvm.ClassFile.FieldType.int) [(0, 265, 266, 69), (0, 265, 271, 71), (0, 265, 276, 73)]) 13 8 200 [.ref H, .int 6, .int (nI r), .int c, .int x2, .int x3, .int x4] b (.inl (some (.int (S 19 r)), b')) ∧ TG (u2 S 19 r c) S' ∧ HS b' H P' S' k n R ∧ FRM b b' P P' := by
  have hk := HS_k W
  obtain ⟨s, σ, A, E, C, e, hP⟩ := W
  obtain ⟨s', S', M, g, C', K⟩ := cj_ask l G C hr q
  obtain ⟨b', P', M2, W', F⟩ := hs_op gb E C e hP M C' K (upi rfl) (fun _ => rfl) (vli rfl)
  exact ⟨b', P', S', wd_ask l G M2 hk.1, g, W', F⟩

theorem ds_add (l : Launch) (G : Gl) {b : Hp} {H : Nat} {P : Nat → Prop} {S : MM} {k n R : Nat} (gb : Good b) (W : HS b H P S k n R) {x3 x4 : Int32} {x t c : Int32} {p : Nat} (hb : k < 2 ^ 31) (hp : plc S n x = some p) (q1 : ¬ (t < 0 ∨ 5 < t)) (q2 : ¬ (c < 0 ∨ 255 < c)) (h24 : n < 24) : ∃ (b' : Hp) (P' : Nat → Prop) (S' : MM), MRw l G yL_does (.codeWith yL_does cL_does 8 (Option.some Jvm.ClassFile.FieldType.int) [(0, 265, 266, 69), (0, 265, 271, 71), (0, 265, 276, 73)]) 13 30 600 [.ref H, .int 0, .int x, .int t, .int c, .int x3, .int x4] b (.inl (some (.int (S 2 0)), b')) ∧ TG (tAdd S n p t c) S' ∧ HS b' H P' S' (k + 1) (n + 1) R ∧ FRM b b' P P' := by
  have hk := HS_k W
  obtain ⟨s, σ, A, E, C, e, hP⟩ := W
  obtain ⟨s', S', M, g, C', K⟩ := cj_add l G C hb hp q1 q2 h24
  obtain ⟨b', P', M2, W', F⟩ := hs_op gb E C e hP M C' K (upi rfl) (fun _ => rfl) (vli rfl)
  exact ⟨b', P', S', wd_add l G M2 hk.1, g, W', F⟩

theorem ds_rule (l : Launch) (G : Gl) {b : Hp} {H : Nat} {P : Nat → Prop} {S : MM} {k n R : Nat} (gb : Good b) (W : HS b H P S k n R) {t a c d y i : Int32} (qi : i = 0 ∨ i = 1) (qp : ptOk t a c) (qo : ¬ (d < 0 ∨ 1 < d)) (qy : ¬ (y < 0 ∨ 2 < y)) (h16 : R < 16) : ∃ (b' : Hp) (P' : Nat → Prop) (S' : MM), MRw l G yL_rule (.codeWith yL_rule cL_rule 8 (Option.some Jvm.ClassFile.FieldType.int) [(0, 13, 14, 71), (0, 13, 19, 73)]) 13 30 600 [.ref H, .int t, .int a, .int c, .int d, .int y, .int i] b (.inl (some (.int (nI R)), b')) ∧ TG (tRule S R t a c d y i) S' ∧ HS b' H P' S' k n (R + 1) ∧ FRM b b' P P' := by
  have hk := HS_k W
  obtain ⟨s, σ, A, E, C, e, hP⟩ := W
  obtain ⟨s', S', M, g, C', K⟩ := cj_rule l G C qi qp qo qy h16
  obtain ⟨b', P', M2, W', F⟩ := hs_op gb E C e hP M C' K (upi rfl) (fun _ => rfl) (vli rfl)
  exact ⟨b', P', S', wd_rule l G M2 hk.1, g, W', F⟩

theorem ds_is_0 (l : Launch) (G : Gl) {b : Hp} {H : Nat} {P : Nat → Prop} {S : MM} {k n R : Nat} (gb : Good b) (W : HS b H P S k n R) {x : Int32} {p : Nat} (hp : plc S n x = some p) (h9 : S 9 p = 0 ∨ S 9 p = 1) : ∃ (b' : Hp) (P' : Nat → Prop) (S' : MM), MRw l G yL_is (.codeWith yL_is cL_is 5 (Option.some Jvm.ClassFile.FieldType.int) [(0, 39, 40, 69)]) 13 8 200 [.ref H, .int 0, .int x, .int 0] b (.inl (some (.int (S 9 p)), b')) ∧ TG (u2 S 9 p 0) S' ∧ HS b' H P' S' k n R ∧ FRM b b' P P' := by
  have hk := HS_k W
  obtain ⟨s, σ, A, E, C, e, hP⟩ := W
  obtain ⟨s', S', M, g, C', K⟩ := cj_contain l G C (c := 0) hp (by decide)
  obtain ⟨b', P', M2, W', F⟩ := hs_op gb E C e hP M C' K (upi rfl) (fun _ => rfl) (vli rfl)
  exact ⟨b', P', S', wd_is_0 l G M2 h9 hk.1, g, W', F⟩

theorem ds_is_1 (l : Launch) (G : Gl) {b : Hp} {H : Nat} {P : Nat → Prop} {S : MM} {k n R : Nat} (gb : Good b) (W : HS b H P S k n R) {x : Int32} {p : Nat} (hp : plc S n x = some p) (h9 : S 9 p = 0 ∨ S 9 p = 1) : ∃ (b' : Hp) (P' : Nat → Prop) (S' : MM), MRw l G yL_is (.codeWith yL_is cL_is 5 (Option.some Jvm.ClassFile.FieldType.int) [(0, 39, 40, 69)]) 13 8 200 [.ref H, .int 0, .int x, .int 1] b (.inl (some (.int (S 9 p)), b')) ∧ TG (u2 S 9 p 1) S' ∧ HS b' H P' S' k n R ∧ FRM b b' P P' := by
  have hk := HS_k W
  obtain ⟨s, σ, A, E, C, e, hP⟩ := W
  obtain ⟨s', S', M, g, C', K⟩ := cj_contain l G C (c := 1) hp (by decide)
  obtain ⟨b', P', M2, W', F⟩ := hs_op gb E C e hP M C' K (upi rfl) (fun _ => rfl) (vli rfl)
  exact ⟨b', P', S', wd_is_1 l G M2 h9 hk.1, g, W', F⟩

theorem ds_declare (l : Launch) (G : Gl) {b : Hp} {H : Nat} {P : Nat → Prop} {S : MM} {k n R : Nat} (gb : Good b) (W : HS b H P S k n R) {x3 x4 : Int32} {r p : Nat} {v : Int32} (qv : m_canBe (nI p) v = 1 ∨ v = -2 ∧ p < 3) (hr : r < R) (hp : p ≤ 14) (h6 : cntD S r p ≤ 6) : ∃ (b' : Hp) (P' : Nat → Prop) (S' : MM), MRw l G yL_does (.codeWith yL_does cL_does 8 (Option.some Jvm.ClassFile.FieldType.int) [(0, 265, 266, 69), (0, 265, 271, 71), (0, 265, 276, 73)]) 13 30 600 [.ref H, .int 7, .int (nI r), .int (nI p), .int v, .int x3, .int x4] b (.inl (some (.int (nI (cntD S r p))), b')) ∧ TG (tDec S r p 1 v (-1)) S' ∧ HS b' H P' S' k n R ∧ FRM b b' P P' := by
  have hk := HS_k W
  obtain ⟨s, σ, A, E, C, e, hP⟩ := W
  obtain ⟨s', S', M, g, C', K⟩ := cj_declare l G C qv hr hp h6
  obtain ⟨b', P', M2, W', F⟩ := hs_op gb E C e hP M C' K (upi rfl) (fun _ => rfl) (vli rfl)
  exact ⟨b', P', S', wd_declare l G M2 hk.1, g, W', F⟩

theorem ds_declare_x (l : Launch) (G : Gl) {b : Hp} {H : Nat} {P : Nat → Prop} {S : MM} {k n R : Nat} (gb : Good b) (W : HS b H P S k n R) {x3 x4 : Int32} {r p : Nat} {v : Int32} (qv : m_canBe (nI p) v = 1 ∨ v = -2 ∧ p < 3) (hr : r < R) (hp : p ≤ 14) (h6 : 6 < cntD S r p) : ∃ (b' : Hp) (P' : Nat → Prop), MRw l G yL_does (.codeWith yL_does cL_does 8 (Option.some Jvm.ClassFile.FieldType.int) [(0, 265, 266, 69), (0, 265, 271, 71), (0, 265, 276, 73)]) 13 30 600 [.ref H, .int 7, .int (nI r), .int (nI p), .int v, .int x3, .int x4] b (.inl (some (.int (-9)), b')) ∧ HS b' H P' S k n R ∧ FRM b b' P P' := by
  have hk := HS_k W
  obtain ⟨s, σ, A, E, C, e, hP⟩ := W
  obtain ⟨s', M, C', K⟩ := cj_declare_x l G C qv hr hp h6
  obtain ⟨b', P', M2, W', F⟩ := hs_ox gb E C e hP M C' K (upi rfl) (vli rfl)
  exact ⟨b', P', wd_declare_x l G M2 hk.1, W', F⟩

theorem ds_say (l : Launch) (G : Gl) {b : Hp} {H : Nat} {P : Nat → Prop} {S : MM} {k n R : Nat} (gb : Good b) (W : HS b H P S k n R) {x3 x4 : Int32} {r p : Nat} {v : Int32} (qv : ¬ (v < 0 ∨ 3 < v)) (hr : r < R) (hp : p ≤ 14) (h6 : cntD S r p ≤ 6) : ∃ (b' : Hp) (P' : Nat → Prop) (S' : MM), MRw l G yL_does (.codeWith yL_does cL_does 8 (Option.some Jvm.ClassFile.FieldType.int) [(0, 265, 266, 69), (0, 265, 271, 71), (0, 265, 276, 73)]) 13 30 600 [.ref H, .int 8, .int (nI r), .int (nI p), .int v, .int x3, .int x4] b (.inl (some (.int (nI (cntD S r p))), b')) ∧ TG (tDec S r p 2 v (-1)) S' ∧ HS b' H P' S' k n R ∧ FRM b b' P P' := by
  have hk := HS_k W
  obtain ⟨s, σ, A, E, C, e, hP⟩ := W
  obtain ⟨s', S', M, g, C', K⟩ := cj_say l G C qv hr hp h6
  obtain ⟨b', P', M2, W', F⟩ := hs_op gb E C e hP M C' K (upi rfl) (fun _ => rfl) (vli rfl)
  exact ⟨b', P', S', wd_say l G M2 hk.1, g, W', F⟩

theorem ds_say_x (l : Launch) (G : Gl) {b : Hp} {H : Nat} {P : Nat → Prop} {S : MM} {k n R : Nat} (gb : Good b) (W : HS b H P S k n R) {x3 x4 : Int32} {r p : Nat} {v : Int32} (qv : ¬ (v < 0 ∨ 3 < v)) (hr : r < R) (hp : p ≤ 14) (h6 : 6 < cntD S r p) : ∃ (b' : Hp) (P' : Nat → Prop), MRw l G yL_does (.codeWith yL_does cL_does 8 (Option.some Jvm.ClassFile.FieldType.int) [(0, 265, 266, 69), (0, 265, 271, 71), (0, 265, 276, 73)]) 13 30 600 [.ref H, .int 8, .int (nI r), .int (nI p), .int v, .int x3, .int x4] b (.inl (some (.int (-9)), b')) ∧ HS b' H P' S k n R ∧ FRM b b' P P' := by
  have hk := HS_k W
  obtain ⟨s, σ, A, E, C, e, hP⟩ := W
  obtain ⟨s', M, C', K⟩ := cj_say_x l G C qv hr hp h6
  obtain ⟨b', P', M2, W', F⟩ := hs_ox gb E C e hP M C' K (upi rfl) (vli rfl)
  exact ⟨b', P', wd_say_x l G M2 hk.1, W', F⟩

theorem ds_refer (l : Launch) (G : Gl) {b : Hp} {H : Nat} {P : Nat → Prop} {S : MM} {k n R : Nat} (gb : Good b) (W : HS b H P S k n R) {x4 : Int32} {r p : Nat} {u f : Int32} (qu : ¬ (u < 0 ∨ 3 < u)) (qf : f = -1 ∨ m_canBe (nI p) f = 1) (hr : r < R) (hp : p ≤ 14) (h6 : cntD S r p ≤ 6) : ∃ (b' : Hp) (P' : Nat → Prop) (S' : MM), MRw l G yL_does (.codeWith yL_does cL_does 8 (Option.some Jvm.ClassFile.FieldType.int) [(0, 265, 266, 69), (0, 265, 271, 71), (0, 265, 276, 73)]) 13 30 600 [.ref H, .int 9, .int (nI r), .int (nI p), .int u, .int f, .int x4] b (.inl (some (.int (nI (cntD S r p))), b')) ∧ TG (tDec S r p 3 u f) S' ∧ HS b' H P' S' k n R ∧ FRM b b' P P' := by
  have hk := HS_k W
  obtain ⟨s, σ, A, E, C, e, hP⟩ := W
  obtain ⟨s', S', M, g, C', K⟩ := cj_refer l G C qu qf hr hp h6
  obtain ⟨b', P', M2, W', F⟩ := hs_op gb E C e hP M C' K (upi rfl) (fun _ => rfl) (vli rfl)
  exact ⟨b', P', S', wd_refer l G M2 hk.1, g, W', F⟩

theorem ds_refer_x (l : Launch) (G : Gl) {b : Hp} {H : Nat} {P : Nat → Prop} {S : MM} {k n R : Nat} (gb : Good b) (W : HS b H P S k n R) {x4 : Int32} {r p : Nat} {u f : Int32} (qu : ¬ (u < 0 ∨ 3 < u)) (qf : f = -1 ∨ m_canBe (nI p) f = 1) (hr : r < R) (hp : p ≤ 14) (h6 : 6 < cntD S r p) : ∃ (b' : Hp) (P' : Nat → Prop), MRw l G yL_does (.codeWith yL_does cL_does 8 (Option.some Jvm.ClassFile.FieldType.int) [(0, 265, 266, 69), (0, 265, 271, 71), (0, 265, 276, 73)]) 13 30 600 [.ref H, .int 9, .int (nI r), .int (nI p), .int u, .int f, .int x4] b (.inl (some (.int (-9)), b')) ∧ HS b' H P' S k n R ∧ FRM b b' P P' := by
  have hk := HS_k W
  obtain ⟨s, σ, A, E, C, e, hP⟩ := W
  obtain ⟨s', M, C', K⟩ := cj_refer_x l G C qu qf hr hp h6
  obtain ⟨b', P', M2, W', F⟩ := hs_ox gb E C e hP M C' K (upi rfl) (vli rfl)
  exact ⟨b', P', wd_refer_x l G M2 hk.1, W', F⟩

theorem ds_value (l : Launch) (G : Gl) {b : Hp} {H : Nat} {P : Nat → Prop} {S : MM} {k n R : Nat} (gb : Good b) (W : HS b H P S k n R) {x2 x3 x4 : Int32} {x : Int32} {p i : Nat} (hp : plc S n x = some p) (hi : i < 14) : MRw l G yL_does (.codeWith yL_does cL_does 8 (Option.some Jvm.ClassFile.FieldType.int) [(0, 265, 266, 69), (0, 265, 271, 71), (0, 265, 276, 73)]) 13 8 200 [.ref H, .int 12, .int x, .int (nI i), .int x2, .int x3, .int x4] b (.inl (some (.int (S 23 (14 * p + i))), b)) := by
  have hk := HS_k W
  obtain ⟨s, σ, A, E, C, e, hP⟩ := W
  exact wd_value l G (hs_rd gb E C e (cj_value l G C hp hi) (upi rfl) (fun _ => rfl) (vli rfl)) hk.1

theorem ds_from (l : Launch) (G : Gl) {b : Hp} {H : Nat} {P : Nat → Prop} {S : MM} {k n R : Nat} (gb : Good b) (W : HS b H P S k n R) {x2 x3 x4 : Int32} {x : Int32} {p i : Nat} (hp : plc S n x = some p) (hi : i < 14) : MRw l G yL_does (.codeWith yL_does cL_does 8 (Option.some Jvm.ClassFile.FieldType.int) [(0, 265, 266, 69), (0, 265, 271, 71), (0, 265, 276, 73)]) 13 8 200 [.ref H, .int 14, .int x, .int (nI i), .int x2, .int x3, .int x4] b (.inl (some (.int (S 24 (14 * p + i))), b)) := by
  have hk := HS_k W
  obtain ⟨s, σ, A, E, C, e, hP⟩ := W
  exact wd_from l G (hs_rd gb E C e (cj_from l G C hp hi) (upi rfl) (fun _ => rfl) (vli rfl)) hk.1

theorem ds_box (l : Launch) (G : Gl) {b : Hp} {H : Nat} {P : Nat → Prop} {S : MM} {k n R : Nat} (gb : Good b) (W : HS b H P S k n R) {x2 x3 x4 : Int32} {x : Int32} {p i : Nat} (hp : plc S n x = some p) (hi : i < 4) : MRw l G yL_does (.codeWith yL_does cL_does 8 (Option.some Jvm.ClassFile.FieldType.int) [(0, 265, 266, 69), (0, 265, 271, 71), (0, 265, 276, 73)]) 13 8 200 [.ref H, .int 15, .int x, .int (nI i), .int x2, .int x3, .int x4] b (.inl (some (.int (S 25 (4 * p + i))), b)) := by
  have hk := HS_k W
  obtain ⟨s, σ, A, E, C, e, hP⟩ := W
  exact wd_box l G (hs_rd gb E C e (cj_box l G C hp hi) (upi rfl) (fun _ => rfl) (vli rfl)) hk.1

theorem ds_lines (l : Launch) (G : Gl) {b : Hp} {H : Nat} {P : Nat → Prop} {S : MM} {k n R : Nat} (gb : Good b) (W : HS b H P S k n R) {x1 x2 x3 x4 : Int32} {x : Int32} {p : Nat} (hp : plc S n x = some p) : MRw l G yL_does (.codeWith yL_does cL_does 8 (Option.some Jvm.ClassFile.FieldType.int) [(0, 265, 266, 69), (0, 265, 271, 71), (0, 265, 276, 73)]) 13 8 200 [.ref H, .int 17, .int x, .int x1, .int x2, .int x3, .int x4] b (.inl (some (.int (S 26 p)), b)) := by
  have hk := HS_k W
  obtain ⟨s, σ, A, E, C, e, hP⟩ := W
  exact wd_lines l G (hs_rd gb E C e (cj_lines l G C hp) (upi rfl) (fun _ => rfl) (vli rfl)) hk.1

/-! the rows over naturals -/
theorem r_divN {X : Ctx} {y : MethodName} {cc : ByteArray} {nL : Nat} {ret : Option FieldType} {hh : List (Nat × Nat × Nat × Nat)} {f mc ms : Nat} (C : Cx X y cc nL ret hh f mc ms) {k n pc : Nat} {LS st : List Value} {h : Hp} {a c : Nat} (hd : decode cc pc = .ok (.idiv, 1)) (h0 : 0 < c) (hc : c < 2 ^ 31) (ha : a < 2 ^ 31) (K : wr X k n (pc + 1) LS (.int (nI (a / c)) :: st) h) : wr X k n pc LS (.int (nI c) :: .int (nI a) :: st) h := by
  refine r_idiv C hd (fun z => ?_) ?_
  · have := (nI_eq hc (by decide : 0 < 2 ^ 31)).mp z
    omega
  · rw [pk_div ha h0 hc]
    exact K
theorem r_remN {X : Ctx} {y : MethodName} {cc : ByteArray} {nL : Nat} {ret : Option FieldType} {hh : List (Nat × Nat × Nat × Nat)} {f mc ms : Nat} (C : Cx X y cc nL ret hh f mc ms) {k n pc : Nat} {LS st : List Value} {h : Hp} {a c : Nat} (hd : decode cc pc = .ok (.irem, 1)) (h0 : 0 < c) (hc : c < 2 ^ 31) (ha : a < 2 ^ 31) (K : wr X k n (pc + 1) LS (.int (nI (a % c)) :: st) h) : wr X k n pc LS (.int (nI c) :: .int (nI a) :: st) h := by
  refine r_irem C hd (fun z => ?_) ?_
  · have := (nI_eq hc (by decide : 0 < 2 ^ 31)).mp z
    omega
  · rw [pk_rem ha h0 hc]
    exact K
theorem r_addN {X : Ctx} {y : MethodName} {cc : ByteArray} {nL : Nat} {ret : Option FieldType} {hh : List (Nat × Nat × Nat × Nat)} {f mc ms : Nat} (C : Cx X y cc nL ret hh f mc ms) {k n pc : Nat} {LS st : List Value} {h : Hp} {a c : Nat} (hd : decode cc pc = .ok (.iadd, 1)) (K : wr X k n (pc + 1) LS (.int (nI (a + c)) :: st) h) : wr X k n pc LS (.int (nI c) :: .int (nI a) :: st) h := by
  refine r_iadd C hd ?_
  rw [nI_add]
  exact K
theorem r_mulN {X : Ctx} {y : MethodName} {cc : ByteArray} {nL : Nat} {ret : Option FieldType} {hh : List (Nat × Nat × Nat × Nat)} {f mc ms : Nat} (C : Cx X y cc nL ret hh f mc ms) {k n pc : Nat} {LS st : List Value} {h : Hp} {a c : Nat} (hd : decode cc pc = .ok (.imul, 1)) (K : wr X k n (pc + 1) LS (.int (nI (a * c)) :: st) h) : wr X k n pc LS (.int (nI c) :: .int (nI a) :: st) h := by
  refine r_imul C hd ?_
  rw [pk_mul]
  exact K
/-! drawn -/
def drI (G : Gl) (k : Nat) : Int32 := (if k < gL0 G then gX0 G k else 13469 * nI k + 7207) &&& 1073741823
def drw (G : Gl) (k : Nat) : Nat := (if k < gL0 G then gX0 G k else 13469 * nI k + 7207).toBitVec.toNat % 2 ^ 30
theorem drw_lt (G : Gl) (k : Nat) : drw G k < 2 ^ 30 := Nat.mod_lt _ (by decide)
theorem drI_w (G : Gl) (k : Nat) : drI G k = nI (drw G k) := pk_and _ 30 (by decide)
