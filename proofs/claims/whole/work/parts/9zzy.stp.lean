/-! ===== the law: each call, both sides (by genw.py) ===== -/
theorem sx_add (l : Launch) (G : Gl) {A : Nat → Nat} {m bb o : Nat} {h : Hp} {S : MM} (H : CI A m h S bb) (hb : bb < 2 ^ 31) (ho : hK h o = 102) (hl : 0 < hL h o) (a0 a1 a2 : Int32) : ∃ (kk v : Int32) (h1 h2 : Hp) (S' : MM), MRw l G yL_add (.codeWith yL_add cL_add 6 (Option.some Jvm.ClassFile.FieldType.int) [(0, 12, 15, 13), (0, 12, 19, 15), (0, 12, 23, 17)]) 13 30 600 [.ref (A 0), .int a0, .int a1, .int a2, .ref o] h (.inl (some (.int kk), h1)) ∧ MRw l G yX12_add (.code yX12_add cX12_add 5 (Option.some Jvm.ClassFile.FieldType.int)) 7 0 0 [.ref m, .int a0, .int a1, .int a2] h1 (.inl (some (.int v), h2)) ∧ MRw l G yX12_thrown (.code yX12_thrown cX12_thrown 1 (Option.some Jvm.ClassFile.FieldType.int)) 0 0 0 [.ref m] h2 (.inl (some (.int kk), h2)) ∧ FIN A m o S' (bb + 1) h1 h2 kk v.toInt64 := by
  have hk9 := (CI_g H).2
  rcases op_add l G H hb a0 a1 a2 with ⟨hc, S', v, M, E, O⟩ | ⟨M, E⟩ | ⟨M, E⟩ | ⟨M, E⟩
  · obtain ⟨e1, e2, e3, e4, e5, e6⟩ := fin_ok v.toInt64 H O ho hl
    have Mz := z_add l G e1 E
    rw [e2] at Mz
    have Mt := z_thrown l G e1 (S := S')
    unfold m_thrown at Mt
    rw [e5] at Mt
    exact ⟨0, v, _, _, S', w_add_v l G M hk9 e3 e4, Mz, Mt, e6⟩
  · obtain ⟨e1, e2, e5, e6⟩ := fin_x (0 : Int32).toInt64 H (show (1 : Int32) ≠ 0 by decide) (Nat.le_succ bb) (XKr_0 H) ho hl
    have Mz := z_add l G e1 E
    rw [e2] at Mz
    have Mt := z_thrown l G e1 (S := u2 S 0 0 1)
    unfold m_thrown at Mt
    rw [e5] at Mt
    exact ⟨1, 0, _, _, _, w_add_x1 l G M hk9, Mz, Mt, e6⟩
  · obtain ⟨e1, e2, e5, e6⟩ := fin_x (0 : Int32).toInt64 H (show (2 : Int32) ≠ 0 by decide) (Nat.le_succ bb) (XKr_0 H) ho hl
    have Mz := z_add l G e1 E
    rw [e2] at Mz
    have Mt := z_thrown l G e1 (S := u2 S 0 0 2)
    unfold m_thrown at Mt
    rw [e5] at Mt
    exact ⟨2, 0, _, _, _, w_add_x2 l G M hk9, Mz, Mt, e6⟩
  · obtain ⟨e1, e2, e5, e6⟩ := fin_x (0 : Int32).toInt64 H (show (3 : Int32) ≠ 0 by decide) (Nat.le_succ bb) (XKr_0 H) ho hl
    have Mz := z_add l G e1 E
    rw [e2] at Mz
    have Mt := z_thrown l G e1 (S := u2 S 0 0 3)
    unfold m_thrown at Mt
    rw [e5] at Mt
    exact ⟨3, 0, _, _, _, w_add_x3 l G M hk9, Mz, Mt, e6⟩
theorem sx_remove (l : Launch) (G : Gl) {A : Nat → Nat} {m bb o : Nat} {h : Hp} {S : MM} (H : CI A m h S bb) (ho : hK h o = 102) (hl : 0 < hL h o) (a0 : Int32) : ∃ (kk v : Int32) (h1 h2 : Hp) (S' : MM), MRw l G yL_remove (.codeWith yL_remove cL_remove 4 (Option.some Jvm.ClassFile.FieldType.int) [(0, 9, 12, 13), (0, 9, 15, 17)]) 13 30 1700 [.ref (A 0), .int a0, .ref o] h (.inl (some (.int kk), h1)) ∧ MRw l G yX12_remove (.code yX12_remove cX12_remove 8 (Option.some Jvm.ClassFile.FieldType.int)) 7 0 0 [.ref m, .int a0] h1 (.inl (some (.int v), h2)) ∧ MRw l G yX12_thrown (.code yX12_thrown cX12_thrown 1 (Option.some Jvm.ClassFile.FieldType.int)) 0 0 0 [.ref m] h2 (.inl (some (.int kk), h2)) ∧ FIN A m o S' (bb) h1 h2 kk v.toInt64 := by
  have hk9 := (CI_g H).2
  rcases op_remove l G H a0 with ⟨hc, S', v, M, E, O⟩ | ⟨M, E⟩ | ⟨M, E⟩
  · obtain ⟨e1, e2, e3, e4, e5, e6⟩ := fin_ok v.toInt64 H O ho hl
    have Mz := z_remove l G e1 E
    rw [e2] at Mz
    have Mt := z_thrown l G e1 (S := S')
    unfold m_thrown at Mt
    rw [e5] at Mt
    exact ⟨0, v, _, _, S', w_remove_v l G M hk9 e3 e4, Mz, Mt, e6⟩
  · obtain ⟨e1, e2, e5, e6⟩ := fin_x (0 : Int32).toInt64 H (show (1 : Int32) ≠ 0 by decide) (Nat.le_refl bb) (XKr_0 H) ho hl
    have Mz := z_remove l G e1 E
    rw [e2] at Mz
    have Mt := z_thrown l G e1 (S := u2 S 0 0 1)
    unfold m_thrown at Mt
    rw [e5] at Mt
    exact ⟨1, 0, _, _, _, w_remove_x1 l G M hk9, Mz, Mt, e6⟩
  · obtain ⟨e1, e2, e5, e6⟩ := fin_x (0 : Int32).toInt64 H (show (2 : Int32) ≠ 0 by decide) (Nat.le_refl bb) (XKr_0 H) ho hl
    have Mz := z_remove l G e1 E
    rw [e2] at Mz
    have Mt := z_thrown l G e1 (S := u2 S 0 0 2)
    unfold m_thrown at Mt
    rw [e5] at Mt
    exact ⟨2, 0, _, _, _, w_remove_x2 l G M hk9, Mz, Mt, e6⟩
theorem sx_dress (l : Launch) (G : Gl) {A : Nat → Nat} {m bb o : Nat} {h : Hp} {S : MM} (H : CI A m h S bb) (ho : hK h o = 102) (hl : 0 < hL h o) (a0 a1 : Int32) : ∃ (kk v : Int32) (h1 h2 : Hp) (S' : MM), MRw l G yL_dress (.codeWith yL_dress cL_dress 5 (Option.some Jvm.ClassFile.FieldType.int) [(0, 10, 13, 13), (0, 10, 17, 15)]) 13 8 200 [.ref (A 0), .int a0, .int a1, .ref o] h (.inl (some (.int kk), h1)) ∧ MRw l G yX12_dress (.code yX12_dress cX12_dress 5 (Option.some Jvm.ClassFile.FieldType.int)) 7 0 0 [.ref m, .int a0, .int a1] h1 (.inl (some (.int v), h2)) ∧ MRw l G yX12_thrown (.code yX12_thrown cX12_thrown 1 (Option.some Jvm.ClassFile.FieldType.int)) 0 0 0 [.ref m] h2 (.inl (some (.int kk), h2)) ∧ FIN A m o S' (bb) h1 h2 kk v.toInt64 := by
  have hk9 := (CI_g H).2
  rcases op_dress l G H a0 a1 with ⟨hc, S', v, M, E, O⟩ | ⟨M, E⟩ | ⟨M, E⟩
  · obtain ⟨e1, e2, e3, e4, e5, e6⟩ := fin_ok v.toInt64 H O ho hl
    have Mz := z_dress l G e1 E
    rw [e2] at Mz
    have Mt := z_thrown l G e1 (S := S')
    unfold m_thrown at Mt
    rw [e5] at Mt
    exact ⟨0, v, _, _, S', w_dress_v l G M hk9 e3 e4, Mz, Mt, e6⟩
  · obtain ⟨e1, e2, e5, e6⟩ := fin_x (0 : Int32).toInt64 H (show (1 : Int32) ≠ 0 by decide) (Nat.le_refl bb) (XKr_0 H) ho hl
    have Mz := z_dress l G e1 E
    rw [e2] at Mz
    have Mt := z_thrown l G e1 (S := u2 S 0 0 1)
    unfold m_thrown at Mt
    rw [e5] at Mt
    exact ⟨1, 0, _, _, _, w_dress_x1 l G M hk9, Mz, Mt, e6⟩
  · obtain ⟨e1, e2, e5, e6⟩ := fin_x (0 : Int32).toInt64 H (show (2 : Int32) ≠ 0 by decide) (Nat.le_refl bb) (XKr_0 H) ho hl
    have Mz := z_dress l G e1 E
    rw [e2] at Mz
    have Mt := z_thrown l G e1 (S := u2 S 0 0 2)
    unfold m_thrown at Mt
    rw [e5] at Mt
    exact ⟨2, 0, _, _, _, w_dress_x2 l G M hk9, Mz, Mt, e6⟩
theorem sx_text (l : Launch) (G : Gl) {A : Nat → Nat} {m bb o : Nat} {h : Hp} {S : MM} (H : CI A m h S bb) (ho : hK h o = 102) (hl : 0 < hL h o) (a0 a1 : Int32) : ∃ (kk v : Int32) (h1 h2 : Hp) (S' : MM), MRw l G yL_text (.codeWith yL_text cL_text 5 (Option.some Jvm.ClassFile.FieldType.int) [(0, 10, 13, 13), (0, 10, 17, 15)]) 13 8 200 [.ref (A 0), .int a0, .int a1, .ref o] h (.inl (some (.int kk), h1)) ∧ MRw l G yX12_text (.code yX12_text cX12_text 7 (Option.some Jvm.ClassFile.FieldType.int)) 7 0 0 [.ref m, .int a0, .int a1] h1 (.inl (some (.int v), h2)) ∧ MRw l G yX12_thrown (.code yX12_thrown cX12_thrown 1 (Option.some Jvm.ClassFile.FieldType.int)) 0 0 0 [.ref m] h2 (.inl (some (.int kk), h2)) ∧ FIN A m o S' (bb) h1 h2 kk v.toInt64 := by
  have hk9 := (CI_g H).2
  rcases op_text l G H a0 a1 with ⟨hc, S', v, M, E, O⟩ | ⟨M, E⟩ | ⟨M, E⟩
  · obtain ⟨e1, e2, e3, e4, e5, e6⟩ := fin_ok v.toInt64 H O ho hl
    have Mz := z_text l G e1 E
    rw [e2] at Mz
    have Mt := z_thrown l G e1 (S := S')
    unfold m_thrown at Mt
    rw [e5] at Mt
    exact ⟨0, v, _, _, S', w_text_v l G M hk9 e3 e4, Mz, Mt, e6⟩
  · obtain ⟨e1, e2, e5, e6⟩ := fin_x (0 : Int32).toInt64 H (show (1 : Int32) ≠ 0 by decide) (Nat.le_refl bb) (XKr_0 H) ho hl
    have Mz := z_text l G e1 E
    rw [e2] at Mz
    have Mt := z_thrown l G e1 (S := u2 S 0 0 1)
    unfold m_thrown at Mt
    rw [e5] at Mt
    exact ⟨1, 0, _, _, _, w_text_x1 l G M hk9, Mz, Mt, e6⟩
  · obtain ⟨e1, e2, e5, e6⟩ := fin_x (0 : Int32).toInt64 H (show (2 : Int32) ≠ 0 by decide) (Nat.le_refl bb) (XKr_0 H) ho hl
    have Mz := z_text l G e1 E
    rw [e2] at Mz
    have Mt := z_thrown l G e1 (S := u2 S 0 0 2)
    unfold m_thrown at Mt
    rw [e5] at Mt
    exact ⟨2, 0, _, _, _, w_text_x2 l G M hk9, Mz, Mt, e6⟩
theorem sx_contain (l : Launch) (G : Gl) {A : Nat → Nat} {m bb o : Nat} {h : Hp} {S : MM} (H : CI A m h S bb) (ho : hK h o = 102) (hl : 0 < hL h o) (a0 a1 : Int32) (hz : a1 = 0 ∨ a1 = 1) : ∃ (kk v : Int32) (h1 h2 : Hp) (S' : MM), MRw l G yL_contain (.codeWith yL_contain cL_contain 5 (Option.some Jvm.ClassFile.FieldType.int) [(0, 17, 20, 13)]) 13 8 200 [.ref (A 0), .int a0, .int a1, .ref o] h (.inl (some (.int kk), h1)) ∧ MRw l G yX12_contain (.code yX12_contain cX12_contain 5 (Option.some Jvm.ClassFile.FieldType.boolean)) 7 0 0 [.ref m, .int a0, .int a1] h1 (.inl (some (.int v), h2)) ∧ MRw l G yX12_thrown (.code yX12_thrown cX12_thrown 1 (Option.some Jvm.ClassFile.FieldType.int)) 0 0 0 [.ref m] h2 (.inl (some (.int kk), h2)) ∧ FIN A m o S' (bb) h1 h2 kk (if v = 0 then 0 else 1) := by
  have hk9 := (CI_g H).2
  rcases op_contain l G H a0 hz with ⟨hc, S', v, M, E, _, O⟩ | ⟨M, E⟩
  · obtain ⟨e1, e2, e3, e4, e5, e6⟩ := fin_ok (if v = 0 then 0 else 1) H O ho hl
    have Mz := z_contain l G e1 E
    rw [e2] at Mz
    have Mt := z_thrown l G e1 (S := S')
    unfold m_thrown at Mt
    rw [e5] at Mt
    exact ⟨0, v, _, _, S', w_contain_v l G M hk9 e3 e4, Mz, Mt, e6⟩
  · obtain ⟨e1, e2, e5, e6⟩ := fin_x (if (0 : Int32) = 0 then 0 else 1) H (show (1 : Int32) ≠ 0 by decide) (Nat.le_refl bb) (XKr_0 H) ho hl
    have Mz := z_contain l G e1 E
    rw [e2] at Mz
    have Mt := z_thrown l G e1 (S := u2 S 0 0 1)
    unfold m_thrown at Mt
    rw [e5] at Mt
    exact ⟨1, 0, _, _, _, w_contain_x1 l G M hk9, Mz, Mt, e6⟩
theorem sx_window (l : Launch) (G : Gl) {A : Nat → Nat} {m bb o : Nat} {h : Hp} {S : MM} (H : CI A m h S bb) (ho : hK h o = 102) (hl : 0 < hL h o) (a0 : Int32) : ∃ (kk v : Int32) (h1 h2 : Hp) (S' : MM), MRw l G yL_window (.codeWith yL_window cL_window 4 (Option.some Jvm.ClassFile.FieldType.int) [(0, 9, 12, 15)]) 13 8 200 [.ref (A 0), .int a0, .ref o] h (.inl (some (.int kk), h1)) ∧ MRw l G yX12_window (.code yX12_window cX12_window 3 (Option.some Jvm.ClassFile.FieldType.int)) 7 0 0 [.ref m, .int a0] h1 (.inl (some (.int v), h2)) ∧ MRw l G yX12_thrown (.code yX12_thrown cX12_thrown 1 (Option.some Jvm.ClassFile.FieldType.int)) 0 0 0 [.ref m] h2 (.inl (some (.int kk), h2)) ∧ FIN A m o S' (bb) h1 h2 kk v.toInt64 := by
  have hk9 := (CI_g H).2
  rcases op_window l G H a0 with ⟨hc, S', v, M, E, O⟩ | ⟨M, E⟩
  · obtain ⟨e1, e2, e3, e4, e5, e6⟩ := fin_ok v.toInt64 H O ho hl
    have Mz := z_window l G e1 E
    rw [e2] at Mz
    have Mt := z_thrown l G e1 (S := S')
    unfold m_thrown at Mt
    rw [e5] at Mt
    exact ⟨0, v, _, _, S', w_window_v l G M hk9 e3 e4, Mz, Mt, e6⟩
  · obtain ⟨e1, e2, e5, e6⟩ := fin_x (0 : Int32).toInt64 H (show (1 : Int32) ≠ 0 by decide) (Nat.le_refl bb) (XKr_0 H) ho hl
    have Mz := z_window l G e1 E
    rw [e2] at Mz
    have Mt := z_thrown l G e1 (S := u2 S 0 0 1)
    unfold m_thrown at Mt
    rw [e5] at Mt
    exact ⟨1, 0, _, _, _, w_window_x1 l G M hk9, Mz, Mt, e6⟩
theorem sx_rule (l : Launch) (G : Gl) {A : Nat → Nat} {m bb o : Nat} {h : Hp} {S : MM} (H : CI A m h S bb) (ho : hK h o = 102) (hl : 0 < hL h o) (a0 a1 a2 a3 a4 a5 : Int32) (hz : a5 = 0 ∨ a5 = 1) : ∃ (kk v : Int32) (h1 h2 : Hp) (S' : MM), MRw l G yL_rule (.codeWith yL_rule cL_rule 9 (Option.some Jvm.ClassFile.FieldType.int) [(0, 18, 21, 15), (0, 18, 25, 17)]) 13 30 600 [.ref (A 0), .int a0, .int a1, .int a2, .int a3, .int a4, .int a5, .ref o] h (.inl (some (.int kk), h1)) ∧ MRw l G yX12_rule (.code yX12_rule cX12_rule 8 (Option.some Jvm.ClassFile.FieldType.int)) 7 0 0 [.ref m, .int a0, .int a1, .int a2, .int a3, .int a4, .int a5] h1 (.inl (some (.int v), h2)) ∧ MRw l G yX12_thrown (.code yX12_thrown cX12_thrown 1 (Option.some Jvm.ClassFile.FieldType.int)) 0 0 0 [.ref m] h2 (.inl (some (.int kk), h2)) ∧ FIN A m o S' (bb) h1 h2 kk v.toInt64 := by
  have hk9 := (CI_g H).2
  rcases op_rule l G H a0 a1 a2 a3 a4 hz with ⟨hc, S', v, M, E, O⟩ | ⟨M, E⟩ | ⟨M, E⟩
  · obtain ⟨e1, e2, e3, e4, e5, e6⟩ := fin_ok v.toInt64 H O ho hl
    have Mz := z_rule l G e1 E
    rw [e2] at Mz
    have Mt := z_thrown l G e1 (S := S')
    unfold m_thrown at Mt
    rw [e5] at Mt
    exact ⟨0, v, _, _, S', w_rule_v l G M hk9 e3 e4, Mz, Mt, e6⟩
  · obtain ⟨e1, e2, e5, e6⟩ := fin_x (0 : Int32).toInt64 H (show (1 : Int32) ≠ 0 by decide) (Nat.le_refl bb) (XKr_0 H) ho hl
    have Mz := z_rule l G e1 E
    rw [e2] at Mz
    have Mt := z_thrown l G e1 (S := u2 S 0 0 1)
    unfold m_thrown at Mt
    rw [e5] at Mt
    exact ⟨1, 0, _, _, _, w_rule_x1 l G M hk9, Mz, Mt, e6⟩
  · obtain ⟨e1, e2, e5, e6⟩ := fin_x (0 : Int32).toInt64 H (show (2 : Int32) ≠ 0 by decide) (Nat.le_refl bb) (XKr_0 H) ho hl
    have Mz := z_rule l G e1 E
    rw [e2] at Mz
    have Mt := z_thrown l G e1 (S := u2 S 0 0 2)
    unfold m_thrown at Mt
    rw [e5] at Mt
    exact ⟨2, 0, _, _, _, w_rule_x2 l G M hk9, Mz, Mt, e6⟩
theorem sx_part (l : Launch) (G : Gl) {A : Nat → Nat} {m bb o : Nat} {h : Hp} {S : MM} (H : CI A m h S bb) (ho : hK h o = 102) (hl : 0 < hL h o) (a0 a1 a2 a3 a4 : Int32) : ∃ (kk v : Int32) (h1 h2 : Hp) (S' : MM), MRw l G yL_part (.codeWith yL_part cL_part 8 (Option.some Jvm.ClassFile.FieldType.int) [(0, 16, 19, 13), (0, 16, 23, 15), (0, 16, 27, 17)]) 13 30 600 [.ref (A 0), .int a0, .int a1, .int a2, .int a3, .int a4, .ref o] h (.inl (some (.int kk), h1)) ∧ MRw l G yX12_part (.code yX12_part cX12_part 6 (Option.some Jvm.ClassFile.FieldType.int)) 7 0 0 [.ref m, .int a0, .int a1, .int a2, .int a3, .int a4] h1 (.inl (some (.int v), h2)) ∧ MRw l G yX12_thrown (.code yX12_thrown cX12_thrown 1 (Option.some Jvm.ClassFile.FieldType.int)) 0 0 0 [.ref m] h2 (.inl (some (.int kk), h2)) ∧ FIN A m o S' (bb) h1 h2 kk v.toInt64 := by
  have hk9 := (CI_g H).2
  rcases op_part l G H a0 a1 a2 a3 a4 with ⟨hc, S', v, M, E, O⟩ | ⟨M, E⟩ | ⟨M, E⟩ | ⟨M, E⟩
  · obtain ⟨e1, e2, e3, e4, e5, e6⟩ := fin_ok v.toInt64 H O ho hl
    have Mz := z_part l G e1 E
    rw [e2] at Mz
    have Mt := z_thrown l G e1 (S := S')
    unfold m_thrown at Mt
    rw [e5] at Mt
    exact ⟨0, v, _, _, S', w_part_v l G M hk9 e3 e4, Mz, Mt, e6⟩
  · obtain ⟨e1, e2, e5, e6⟩ := fin_x (0 : Int32).toInt64 H (show (1 : Int32) ≠ 0 by decide) (Nat.le_refl bb) (XKr_0 H) ho hl
    have Mz := z_part l G e1 E
    rw [e2] at Mz
    have Mt := z_thrown l G e1 (S := u2 S 0 0 1)
    unfold m_thrown at Mt
    rw [e5] at Mt
    exact ⟨1, 0, _, _, _, w_part_x1 l G M hk9, Mz, Mt, e6⟩
  · obtain ⟨e1, e2, e5, e6⟩ := fin_x (0 : Int32).toInt64 H (show (2 : Int32) ≠ 0 by decide) (Nat.le_refl bb) (XKr_0 H) ho hl
    have Mz := z_part l G e1 E
    rw [e2] at Mz
    have Mt := z_thrown l G e1 (S := u2 S 0 0 2)
    unfold m_thrown at Mt
    rw [e5] at Mt
    exact ⟨2, 0, _, _, _, w_part_x2 l G M hk9, Mz, Mt, e6⟩
  · obtain ⟨e1, e2, e5, e6⟩ := fin_x (0 : Int32).toInt64 H (show (3 : Int32) ≠ 0 by decide) (Nat.le_refl bb) (XKr_0 H) ho hl
    have Mz := z_part l G e1 E
    rw [e2] at Mz
    have Mt := z_thrown l G e1 (S := u2 S 0 0 3)
    unfold m_thrown at Mt
    rw [e5] at Mt
    exact ⟨3, 0, _, _, _, w_part_x3 l G M hk9, Mz, Mt, e6⟩
theorem sx_ask (l : Launch) (G : Gl) {A : Nat → Nat} {m bb o : Nat} {h : Hp} {S : MM} (H : CI A m h S bb) (ho : hK h o = 102) (hl : 0 < hL h o) (a0 a1 : Int32) : ∃ (kk v : Int32) (h1 h2 : Hp) (S' : MM), MRw l G yL_ask (.codeWith yL_ask cL_ask 5 (Option.some Jvm.ClassFile.FieldType.int) [(0, 10, 13, 13), (0, 10, 17, 15)]) 13 8 200 [.ref (A 0), .int a0, .int a1, .ref o] h (.inl (some (.int kk), h1)) ∧ MRw l G yX12_ask (.code yX12_ask cX12_ask 4 (Option.some Jvm.ClassFile.FieldType.int)) 7 0 0 [.ref m, .int a0, .int a1] h1 (.inl (some (.int v), h2)) ∧ MRw l G yX12_thrown (.code yX12_thrown cX12_thrown 1 (Option.some Jvm.ClassFile.FieldType.int)) 0 0 0 [.ref m] h2 (.inl (some (.int kk), h2)) ∧ FIN A m o S' (bb) h1 h2 kk v.toInt64 := by
  have hk9 := (CI_g H).2
  rcases op_ask l G H a0 a1 with ⟨hc, S', v, M, E, O⟩ | ⟨M, E⟩ | ⟨M, E⟩
  · obtain ⟨e1, e2, e3, e4, e5, e6⟩ := fin_ok v.toInt64 H O ho hl
    have Mz := z_ask l G e1 E
    rw [e2] at Mz
    have Mt := z_thrown l G e1 (S := S')
    unfold m_thrown at Mt
    rw [e5] at Mt
    exact ⟨0, v, _, _, S', w_ask_v l G M hk9 e3 e4, Mz, Mt, e6⟩
  · obtain ⟨e1, e2, e5, e6⟩ := fin_x (0 : Int32).toInt64 H (show (1 : Int32) ≠ 0 by decide) (Nat.le_refl bb) (XKr_0 H) ho hl
    have Mz := z_ask l G e1 E
    rw [e2] at Mz
    have Mt := z_thrown l G e1 (S := u2 S 0 0 1)
    unfold m_thrown at Mt
    rw [e5] at Mt
    exact ⟨1, 0, _, _, _, w_ask_x1 l G M hk9, Mz, Mt, e6⟩
  · obtain ⟨e1, e2, e5, e6⟩ := fin_x (0 : Int32).toInt64 H (show (2 : Int32) ≠ 0 by decide) (Nat.le_refl bb) (XKr_0 H) ho hl
    have Mz := z_ask l G e1 E
    rw [e2] at Mz
    have Mt := z_thrown l G e1 (S := u2 S 0 0 2)
    unfold m_thrown at Mt
    rw [e5] at Mt
    exact ⟨2, 0, _, _, _, w_ask_x2 l G M hk9, Mz, Mt, e6⟩
theorem sx_declare (l : Launch) (G : Gl) {A : Nat → Nat} {m bb o : Nat} {h : Hp} {S : MM} (H : CI A m h S bb) (ho : hK h o = 102) (hl : 0 < hL h o) (a0 a1 a2 : Int32) : ∃ (kk v : Int32) (h1 h2 : Hp) (S' : MM), MRw l G yL_declare (.codeWith yL_declare cL_declare 6 (Option.some Jvm.ClassFile.FieldType.int) [(0, 12, 15, 13), (0, 12, 19, 15), (0, 12, 23, 17)]) 13 30 600 [.ref (A 0), .int a0, .int a1, .int a2, .ref o] h (.inl (some (.int kk), h1)) ∧ MRw l G yX12_declare (.code yX12_declare cX12_declare 4 (Option.some Jvm.ClassFile.FieldType.int)) 8 0 0 [.ref m, .int a0, .int a1, .int a2] h1 (.inl (some (.int v), h2)) ∧ MRw l G yX12_thrown (.code yX12_thrown cX12_thrown 1 (Option.some Jvm.ClassFile.FieldType.int)) 0 0 0 [.ref m] h2 (.inl (some (.int kk), h2)) ∧ FIN A m o S' (bb) h1 h2 kk v.toInt64 := by
  have hk9 := (CI_g H).2
  rcases op_declare l G H a0 a1 a2 with ⟨hc, S', v, M, E, O⟩ | ⟨M, E⟩ | ⟨M, E⟩ | ⟨hc, M, E, O⟩
  · obtain ⟨e1, e2, e3, e4, e5, e6⟩ := fin_ok v.toInt64 H O ho hl
    have Mz := z_declare l G e1 E
    rw [e2] at Mz
    have Mt := z_thrown l G e1 (S := S')
    unfold m_thrown at Mt
    rw [e5] at Mt
    exact ⟨0, v, _, _, S', w_declare_v l G M hk9 e3 e4, Mz, Mt, e6⟩
  · obtain ⟨e1, e2, e5, e6⟩ := fin_x (0 : Int32).toInt64 H (show (1 : Int32) ≠ 0 by decide) (Nat.le_refl bb) (XKr_0 H) ho hl
    have Mz := z_declare l G e1 E
    rw [e2] at Mz
    have Mt := z_thrown l G e1 (S := u2 S 0 0 1)
    unfold m_thrown at Mt
    rw [e5] at Mt
    exact ⟨1, 0, _, _, _, w_declare_x1 l G M hk9, Mz, Mt, e6⟩
  · obtain ⟨e1, e2, e5, e6⟩ := fin_x (0 : Int32).toInt64 H (show (2 : Int32) ≠ 0 by decide) (Nat.le_refl bb) (XKr_0 H) ho hl
    have Mz := z_declare l G e1 E
    rw [e2] at Mz
    have Mt := z_thrown l G e1 (S := u2 S 0 0 2)
    unfold m_thrown at Mt
    rw [e5] at Mt
    exact ⟨2, 0, _, _, _, w_declare_x2 l G M hk9, Mz, Mt, e6⟩
  · obtain ⟨e1, e2, e5, e6⟩ := fin_x (0 : Int32).toInt64 H (show (3 : Int32) ≠ 0 by decide) (Nat.le_refl bb) O ho hl
    have Mz := z_declare l G e1 E
    rw [e2] at Mz
    have Mt := z_thrown l G e1 (S := u2 S 0 0 3)
    unfold m_thrown at Mt
    rw [e5] at Mt
    exact ⟨3, 0, _, _, _, w_declare_x3 l G M hk9, Mz, Mt, e6⟩
theorem sx_say (l : Launch) (G : Gl) {A : Nat → Nat} {m bb o : Nat} {h : Hp} {S : MM} (H : CI A m h S bb) (ho : hK h o = 102) (hl : 0 < hL h o) (a0 a1 a2 : Int32) : ∃ (kk v : Int32) (h1 h2 : Hp) (S' : MM), MRw l G yL_say (.codeWith yL_say cL_say 6 (Option.some Jvm.ClassFile.FieldType.int) [(0, 12, 15, 13), (0, 12, 19, 15), (0, 12, 23, 17)]) 13 30 600 [.ref (A 0), .int a0, .int a1, .int a2, .ref o] h (.inl (some (.int kk), h1)) ∧ MRw l G yX12_say (.code yX12_say cX12_say 4 (Option.some Jvm.ClassFile.FieldType.int)) 8 0 0 [.ref m, .int a0, .int a1, .int a2] h1 (.inl (some (.int v), h2)) ∧ MRw l G yX12_thrown (.code yX12_thrown cX12_thrown 1 (Option.some Jvm.ClassFile.FieldType.int)) 0 0 0 [.ref m] h2 (.inl (some (.int kk), h2)) ∧ FIN A m o S' (bb) h1 h2 kk v.toInt64 := by
  have hk9 := (CI_g H).2
  rcases op_say l G H a0 a1 a2 with ⟨hc, S', v, M, E, O⟩ | ⟨M, E⟩ | ⟨M, E⟩ | ⟨hc, M, E, O⟩
  · obtain ⟨e1, e2, e3, e4, e5, e6⟩ := fin_ok v.toInt64 H O ho hl
    have Mz := z_say l G e1 E
    rw [e2] at Mz
    have Mt := z_thrown l G e1 (S := S')
    unfold m_thrown at Mt
    rw [e5] at Mt
    exact ⟨0, v, _, _, S', w_say_v l G M hk9 e3 e4, Mz, Mt, e6⟩
  · obtain ⟨e1, e2, e5, e6⟩ := fin_x (0 : Int32).toInt64 H (show (1 : Int32) ≠ 0 by decide) (Nat.le_refl bb) (XKr_0 H) ho hl
    have Mz := z_say l G e1 E
    rw [e2] at Mz
    have Mt := z_thrown l G e1 (S := u2 S 0 0 1)
    unfold m_thrown at Mt
    rw [e5] at Mt
    exact ⟨1, 0, _, _, _, w_say_x1 l G M hk9, Mz, Mt, e6⟩
  · obtain ⟨e1, e2, e5, e6⟩ := fin_x (0 : Int32).toInt64 H (show (2 : Int32) ≠ 0 by decide) (Nat.le_refl bb) (XKr_0 H) ho hl
    have Mz := z_say l G e1 E
    rw [e2] at Mz
    have Mt := z_thrown l G e1 (S := u2 S 0 0 2)
    unfold m_thrown at Mt
    rw [e5] at Mt
    exact ⟨2, 0, _, _, _, w_say_x2 l G M hk9, Mz, Mt, e6⟩
  · obtain ⟨e1, e2, e5, e6⟩ := fin_x (0 : Int32).toInt64 H (show (3 : Int32) ≠ 0 by decide) (Nat.le_refl bb) O ho hl
    have Mz := z_say l G e1 E
    rw [e2] at Mz
    have Mt := z_thrown l G e1 (S := u2 S 0 0 3)
    unfold m_thrown at Mt
    rw [e5] at Mt
    exact ⟨3, 0, _, _, _, w_say_x3 l G M hk9, Mz, Mt, e6⟩
theorem sx_refer (l : Launch) (G : Gl) {A : Nat → Nat} {m bb o : Nat} {h : Hp} {S : MM} (H : CI A m h S bb) (ho : hK h o = 102) (hl : 0 < hL h o) (a0 a1 a2 a3 : Int32) : ∃ (kk v : Int32) (h1 h2 : Hp) (S' : MM), MRw l G yL_refer (.codeWith yL_refer cL_refer 7 (Option.some Jvm.ClassFile.FieldType.int) [(0, 14, 17, 13), (0, 14, 21, 15), (0, 14, 25, 17)]) 13 30 600 [.ref (A 0), .int a0, .int a1, .int a2, .int a3, .ref o] h (.inl (some (.int kk), h1)) ∧ MRw l G yX12_refer (.code yX12_refer cX12_refer 5 (Option.some Jvm.ClassFile.FieldType.int)) 8 0 0 [.ref m, .int a0, .int a1, .int a2, .int a3] h1 (.inl (some (.int v), h2)) ∧ MRw l G yX12_thrown (.code yX12_thrown cX12_thrown 1 (Option.some Jvm.ClassFile.FieldType.int)) 0 0 0 [.ref m] h2 (.inl (some (.int kk), h2)) ∧ FIN A m o S' (bb) h1 h2 kk v.toInt64 := by
  have hk9 := (CI_g H).2
  rcases op_refer l G H a0 a1 a2 a3 with ⟨hc, S', v, M, E, O⟩ | ⟨M, E⟩ | ⟨M, E⟩ | ⟨hc, M, E, O⟩
  · obtain ⟨e1, e2, e3, e4, e5, e6⟩ := fin_ok v.toInt64 H O ho hl
    have Mz := z_refer l G e1 E
    rw [e2] at Mz
    have Mt := z_thrown l G e1 (S := S')
    unfold m_thrown at Mt
    rw [e5] at Mt
    exact ⟨0, v, _, _, S', w_refer_v l G M hk9 e3 e4, Mz, Mt, e6⟩
  · obtain ⟨e1, e2, e5, e6⟩ := fin_x (0 : Int32).toInt64 H (show (1 : Int32) ≠ 0 by decide) (Nat.le_refl bb) (XKr_0 H) ho hl
    have Mz := z_refer l G e1 E
    rw [e2] at Mz
    have Mt := z_thrown l G e1 (S := u2 S 0 0 1)
    unfold m_thrown at Mt
    rw [e5] at Mt
    exact ⟨1, 0, _, _, _, w_refer_x1 l G M hk9, Mz, Mt, e6⟩
  · obtain ⟨e1, e2, e5, e6⟩ := fin_x (0 : Int32).toInt64 H (show (2 : Int32) ≠ 0 by decide) (Nat.le_refl bb) (XKr_0 H) ho hl
    have Mz := z_refer l G e1 E
    rw [e2] at Mz
    have Mt := z_thrown l G e1 (S := u2 S 0 0 2)
    unfold m_thrown at Mt
    rw [e5] at Mt
    exact ⟨2, 0, _, _, _, w_refer_x2 l G M hk9, Mz, Mt, e6⟩
  · obtain ⟨e1, e2, e5, e6⟩ := fin_x (0 : Int32).toInt64 H (show (3 : Int32) ≠ 0 by decide) (Nat.le_refl bb) O ho hl
    have Mz := z_refer l G e1 E
    rw [e2] at Mz
    have Mt := z_thrown l G e1 (S := u2 S 0 0 3)
    unfold m_thrown at Mt
    rw [e5] at Mt
    exact ⟨3, 0, _, _, _, w_refer_x3 l G M hk9, Mz, Mt, e6⟩
theorem sx_empty (l : Launch) (G : Gl) {A : Nat → Nat} {m bb o : Nat} {h : Hp} {S : MM} (H : CI A m h S bb) (ho : hK h o = 102) (hl : 0 < hL h o) (a0 : Int32) : ∃ (kk v : Int32) (h1 h2 : Hp) (S' : MM), MRw l G yL_empty (.codeWith yL_empty cL_empty 4 (Option.some Jvm.ClassFile.FieldType.int) [(0, 9, 12, 13)]) 13 30 600 [.ref (A 0), .int a0, .ref o] h (.inl (some (.int kk), h1)) ∧ MRw l G yX12_empty (.code yX12_empty cX12_empty 4 (Option.some Jvm.ClassFile.FieldType.int)) 7 0 0 [.ref m, .int a0] h1 (.inl (some (.int v), h2)) ∧ MRw l G yX12_thrown (.code yX12_thrown cX12_thrown 1 (Option.some Jvm.ClassFile.FieldType.int)) 0 0 0 [.ref m] h2 (.inl (some (.int kk), h2)) ∧ FIN A m o S' (bb) h1 h2 kk v.toInt64 := by
  have hk9 := (CI_g H).2
  rcases op_empty l G H a0 with ⟨hc, S', v, M, E, O⟩ | ⟨M, E⟩
  · obtain ⟨e1, e2, e3, e4, e5, e6⟩ := fin_ok v.toInt64 H O ho hl
    have Mz := z_empty l G e1 E
    rw [e2] at Mz
    have Mt := z_thrown l G e1 (S := S')
    unfold m_thrown at Mt
    rw [e5] at Mt
    exact ⟨0, v, _, _, S', w_empty_v l G M hk9 e3 e4, Mz, Mt, e6⟩
  · obtain ⟨e1, e2, e5, e6⟩ := fin_x (0 : Int32).toInt64 H (show (1 : Int32) ≠ 0 by decide) (Nat.le_refl bb) (XKr_0 H) ho hl
    have Mz := z_empty l G e1 E
    rw [e2] at Mz
    have Mt := z_thrown l G e1 (S := u2 S 0 0 1)
    unfold m_thrown at Mt
    rw [e5] at Mt
    exact ⟨1, 0, _, _, _, w_empty_x1 l G M hk9, Mz, Mt, e6⟩
theorem sx_fits (l : Launch) (G : Gl) {A : Nat → Nat} {m bb o : Nat} {h : Hp} {S : MM} (H : CI A m h S bb) (ho : hK h o = 102) (hl : 0 < hL h o) (a0 a1 : Int32) : ∃ (kk v : Int32) (h1 h2 : Hp) (S' : MM), MRw l G yL_fits (.codeWith yL_fits cL_fits 5 (Option.some Jvm.ClassFile.FieldType.int) [(0, 17, 20, 13)]) 13 8 200 [.ref (A 0), .int a0, .int a1, .ref o] h (.inl (some (.int kk), h1)) ∧ MRw l G yX12_fits (.code yX12_fits cX12_fits 4 (Option.some Jvm.ClassFile.FieldType.boolean)) 3 0 0 [.ref m, .int a0, .int a1] h1 (.inl (some (.int v), h2)) ∧ MRw l G yX12_thrown (.code yX12_thrown cX12_thrown 1 (Option.some Jvm.ClassFile.FieldType.int)) 0 0 0 [.ref m] h2 (.inl (some (.int kk), h2)) ∧ FIN A m o S' (bb) h1 h2 kk (if v = 0 then 0 else 1) := by
  have hk9 := (CI_g H).2
  rcases op_fits l G H a0 a1 with ⟨hc, S', v, M, E, _, O⟩ | ⟨M, E⟩
  · obtain ⟨e1, e2, e3, e4, e5, e6⟩ := fin_ok (if v = 0 then 0 else 1) H O ho hl
    have Mz := z_fits l G e1 E
    rw [e2] at Mz
    have Mt := z_thrown l G e1 (S := S')
    unfold m_thrown at Mt
    rw [e5] at Mt
    exact ⟨0, v, _, _, S', w_fits_v l G M hk9 e3 e4, Mz, Mt, e6⟩
  · obtain ⟨e1, e2, e5, e6⟩ := fin_x (if (0 : Int32) = 0 then 0 else 1) H (show (1 : Int32) ≠ 0 by decide) (Nat.le_refl bb) (XKr_0 H) ho hl
    have Mz := z_fits l G e1 E
    rw [e2] at Mz
    have Mt := z_thrown l G e1 (S := u2 S 0 0 1)
    unfold m_thrown at Mt
    rw [e5] at Mt
    exact ⟨1, 0, _, _, _, w_fits_x1 l G M hk9, Mz, Mt, e6⟩
theorem sx_weight (l : Launch) (G : Gl) {A : Nat → Nat} {m bb o : Nat} {h : Hp} {S : MM} (H : CI A m h S bb) (ho : hK h o = 102) (hl : 0 < hL h o) (a0 : Int32) : ∃ (kk v : Int32) (h1 h2 : Hp) (S' : MM), MRw l G yL_weight (.codeWith yL_weight cL_weight 4 (Option.some Jvm.ClassFile.FieldType.int) [(0, 9, 12, 13)]) 13 8 200 [.ref (A 0), .int a0, .ref o] h (.inl (some (.int kk), h1)) ∧ MRw l G yX12_weight (.code yX12_weight cX12_weight 2 (Option.some Jvm.ClassFile.FieldType.int)) 2 0 0 [.ref m, .int a0] h1 (.inl (some (.int v), h2)) ∧ MRw l G yX12_thrown (.code yX12_thrown cX12_thrown 1 (Option.some Jvm.ClassFile.FieldType.int)) 0 0 0 [.ref m] h2 (.inl (some (.int kk), h2)) ∧ FIN A m o S' (bb) h1 h2 kk v.toInt64 := by
  have hk9 := (CI_g H).2
  rcases op_weight l G H a0 with ⟨hc, S', v, M, E, O⟩ | ⟨M, E⟩
  · obtain ⟨e1, e2, e3, e4, e5, e6⟩ := fin_ok v.toInt64 H O ho hl
    have Mz := z_weight l G e1 E
    rw [e2] at Mz
    have Mt := z_thrown l G e1 (S := S')
    unfold m_thrown at Mt
    rw [e5] at Mt
    exact ⟨0, v, _, _, S', w_weight_v l G M hk9 e3 e4, Mz, Mt, e6⟩
  · obtain ⟨e1, e2, e5, e6⟩ := fin_x (0 : Int32).toInt64 H (show (1 : Int32) ≠ 0 by decide) (Nat.le_refl bb) (XKr_0 H) ho hl
    have Mz := z_weight l G e1 E
    rw [e2] at Mz
    have Mt := z_thrown l G e1 (S := u2 S 0 0 1)
    unfold m_thrown at Mt
    rw [e5] at Mt
    exact ⟨1, 0, _, _, _, w_weight_x1 l G M hk9, Mz, Mt, e6⟩
theorem sx_value (l : Launch) (G : Gl) {A : Nat → Nat} {m bb o : Nat} {h : Hp} {S : MM} (H : CI A m h S bb) (ho : hK h o = 102) (hl : 0 < hL h o) (a0 a1 : Int32) : ∃ (kk v : Int32) (h1 h2 : Hp) (S' : MM), MRw l G yL_value (.codeWith yL_value cL_value 5 (Option.some Jvm.ClassFile.FieldType.int) [(0, 10, 13, 13)]) 13 8 200 [.ref (A 0), .int a0, .int a1, .ref o] h (.inl (some (.int kk), h1)) ∧ MRw l G yX12_value (.code yX12_value cX12_value 3 (Option.some Jvm.ClassFile.FieldType.int)) 2 0 0 [.ref m, .int a0, .int a1] h1 (.inl (some (.int v), h2)) ∧ MRw l G yX12_thrown (.code yX12_thrown cX12_thrown 1 (Option.some Jvm.ClassFile.FieldType.int)) 0 0 0 [.ref m] h2 (.inl (some (.int kk), h2)) ∧ FIN A m o S' (bb) h1 h2 kk v.toInt64 := by
  have hk9 := (CI_g H).2
  rcases op_value l G H a0 a1 with ⟨hc, S', v, M, E, O⟩ | ⟨M, E⟩
  · obtain ⟨e1, e2, e3, e4, e5, e6⟩ := fin_ok v.toInt64 H O ho hl
    have Mz := z_value l G e1 E
    rw [e2] at Mz
    have Mt := z_thrown l G e1 (S := S')
    unfold m_thrown at Mt
    rw [e5] at Mt
    exact ⟨0, v, _, _, S', w_value_v l G M hk9 e3 e4, Mz, Mt, e6⟩
  · obtain ⟨e1, e2, e5, e6⟩ := fin_x (0 : Int32).toInt64 H (show (1 : Int32) ≠ 0 by decide) (Nat.le_refl bb) (XKr_0 H) ho hl
    have Mz := z_value l G e1 E
    rw [e2] at Mz
    have Mt := z_thrown l G e1 (S := u2 S 0 0 1)
    unfold m_thrown at Mt
    rw [e5] at Mt
    exact ⟨1, 0, _, _, _, w_value_x1 l G M hk9, Mz, Mt, e6⟩
theorem sx_valueAnew (l : Launch) (G : Gl) {A : Nat → Nat} {m bb o : Nat} {h : Hp} {S : MM} (H : CI A m h S bb) (ho : hK h o = 102) (hl : 0 < hL h o) (a0 a1 : Int32) : ∃ (kk v : Int32) (h1 h2 : Hp) (S' : MM), MRw l G yL_valueAnew (.codeWith yL_valueAnew cL_valueAnew 5 (Option.some Jvm.ClassFile.FieldType.int) [(0, 10, 13, 13)]) 13 8 200 [.ref (A 0), .int a0, .int a1, .ref o] h (.inl (some (.int kk), h1)) ∧ MRw l G yX12_valueAnew (.code yX12_valueAnew cX12_valueAnew 3 (Option.some Jvm.ClassFile.FieldType.int)) 2 0 0 [.ref m, .int a0, .int a1] h1 (.inl (some (.int v), h2)) ∧ MRw l G yX12_thrown (.code yX12_thrown cX12_thrown 1 (Option.some Jvm.ClassFile.FieldType.int)) 0 0 0 [.ref m] h2 (.inl (some (.int kk), h2)) ∧ FIN A m o S' (bb) h1 h2 kk v.toInt64 := by
  have hk9 := (CI_g H).2
  rcases op_valueAnew l G H a0 a1 with ⟨hc, S', v, M, E, O⟩ | ⟨M, E⟩
  · obtain ⟨e1, e2, e3, e4, e5, e6⟩ := fin_ok v.toInt64 H O ho hl
    have Mz := z_valueAnew l G e1 E
    rw [e2] at Mz
    have Mt := z_thrown l G e1 (S := S')
    unfold m_thrown at Mt
    rw [e5] at Mt
    exact ⟨0, v, _, _, S', w_valueAnew_v l G M hk9 e3 e4, Mz, Mt, e6⟩
  · obtain ⟨e1, e2, e5, e6⟩ := fin_x (0 : Int32).toInt64 H (show (1 : Int32) ≠ 0 by decide) (Nat.le_refl bb) (XKr_0 H) ho hl
    have Mz := z_valueAnew l G e1 E
    rw [e2] at Mz
    have Mt := z_thrown l G e1 (S := u2 S 0 0 1)
    unfold m_thrown at Mt
    rw [e5] at Mt
    exact ⟨1, 0, _, _, _, w_valueAnew_x1 l G M hk9, Mz, Mt, e6⟩
theorem sx_from (l : Launch) (G : Gl) {A : Nat → Nat} {m bb o : Nat} {h : Hp} {S : MM} (H : CI A m h S bb) (ho : hK h o = 102) (hl : 0 < hL h o) (a0 a1 : Int32) : ∃ (kk v : Int32) (h1 h2 : Hp) (S' : MM), MRw l G yL_from (.codeWith yL_from cL_from 5 (Option.some Jvm.ClassFile.FieldType.int) [(0, 10, 13, 13)]) 13 8 200 [.ref (A 0), .int a0, .int a1, .ref o] h (.inl (some (.int kk), h1)) ∧ MRw l G yX12_from (.code yX12_from cX12_from 4 (Option.some Jvm.ClassFile.FieldType.int)) 1 0 0 [.ref m, .int a0, .int a1] h1 (.inl (some (.int v), h2)) ∧ MRw l G yX12_thrown (.code yX12_thrown cX12_thrown 1 (Option.some Jvm.ClassFile.FieldType.int)) 0 0 0 [.ref m] h2 (.inl (some (.int kk), h2)) ∧ FIN A m o S' (bb) h1 h2 kk v.toInt64 := by
  have hk9 := (CI_g H).2
  rcases op_from l G H a0 a1 with ⟨hc, S', v, M, E, O⟩ | ⟨M, E⟩
  · obtain ⟨e1, e2, e3, e4, e5, e6⟩ := fin_ok v.toInt64 H O ho hl
    have Mz := z_from l G e1 E
    rw [e2] at Mz
    have Mt := z_thrown l G e1 (S := S')
    unfold m_thrown at Mt
    rw [e5] at Mt
    exact ⟨0, v, _, _, S', w_from_v l G M hk9 e3 e4, Mz, Mt, e6⟩
  · obtain ⟨e1, e2, e5, e6⟩ := fin_x (0 : Int32).toInt64 H (show (1 : Int32) ≠ 0 by decide) (Nat.le_refl bb) (XKr_0 H) ho hl
    have Mz := z_from l G e1 E
    rw [e2] at Mz
    have Mt := z_thrown l G e1 (S := u2 S 0 0 1)
    unfold m_thrown at Mt
    rw [e5] at Mt
    exact ⟨1, 0, _, _, _, w_from_x1 l G M hk9, Mz, Mt, e6⟩
theorem sx_box (l : Launch) (G : Gl) {A : Nat → Nat} {m bb o : Nat} {h : Hp} {S : MM} (H : CI A m h S bb) (ho : hK h o = 102) (hl : 0 < hL h o) (a0 a1 : Int32) : ∃ (kk v : Int32) (h1 h2 : Hp) (S' : MM), MRw l G yL_box (.codeWith yL_box cL_box 5 (Option.some Jvm.ClassFile.FieldType.int) [(0, 10, 13, 13), (0, 10, 17, 15)]) 13 8 200 [.ref (A 0), .int a0, .int a1, .ref o] h (.inl (some (.int kk), h1)) ∧ MRw l G yX12_box (.code yX12_box cX12_box 3 (Option.some Jvm.ClassFile.FieldType.int)) 2 0 0 [.ref m, .int a0, .int a1] h1 (.inl (some (.int v), h2)) ∧ MRw l G yX12_thrown (.code yX12_thrown cX12_thrown 1 (Option.some Jvm.ClassFile.FieldType.int)) 0 0 0 [.ref m] h2 (.inl (some (.int kk), h2)) ∧ FIN A m o S' (bb) h1 h2 kk v.toInt64 := by
  have hk9 := (CI_g H).2
  rcases op_box l G H a0 a1 with ⟨hc, S', v, M, E, O⟩ | ⟨M, E⟩ | ⟨M, E⟩
  · obtain ⟨e1, e2, e3, e4, e5, e6⟩ := fin_ok v.toInt64 H O ho hl
    have Mz := z_box l G e1 E
    rw [e2] at Mz
    have Mt := z_thrown l G e1 (S := S')
    unfold m_thrown at Mt
    rw [e5] at Mt
    exact ⟨0, v, _, _, S', w_box_v l G M hk9 e3 e4, Mz, Mt, e6⟩
  · obtain ⟨e1, e2, e5, e6⟩ := fin_x (0 : Int32).toInt64 H (show (1 : Int32) ≠ 0 by decide) (Nat.le_refl bb) (XKr_0 H) ho hl
    have Mz := z_box l G e1 E
    rw [e2] at Mz
    have Mt := z_thrown l G e1 (S := u2 S 0 0 1)
    unfold m_thrown at Mt
    rw [e5] at Mt
    exact ⟨1, 0, _, _, _, w_box_x1 l G M hk9, Mz, Mt, e6⟩
  · obtain ⟨e1, e2, e5, e6⟩ := fin_x (0 : Int32).toInt64 H (show (2 : Int32) ≠ 0 by decide) (Nat.le_refl bb) (XKr_0 H) ho hl
    have Mz := z_box l G e1 E
    rw [e2] at Mz
    have Mt := z_thrown l G e1 (S := u2 S 0 0 2)
    unfold m_thrown at Mt
    rw [e5] at Mt
    exact ⟨2, 0, _, _, _, w_box_x2 l G M hk9, Mz, Mt, e6⟩
theorem sx_boxAnew (l : Launch) (G : Gl) {A : Nat → Nat} {m bb o : Nat} {h : Hp} {S : MM} (H : CI A m h S bb) (ho : hK h o = 102) (hl : 0 < hL h o) (a0 a1 : Int32) : ∃ (kk v : Int32) (h1 h2 : Hp) (S' : MM), MRw l G yL_boxAnew (.codeWith yL_boxAnew cL_boxAnew 5 (Option.some Jvm.ClassFile.FieldType.int) [(0, 10, 13, 13), (0, 10, 17, 15)]) 13 8 200 [.ref (A 0), .int a0, .int a1, .ref o] h (.inl (some (.int kk), h1)) ∧ MRw l G yX12_boxAnew (.code yX12_boxAnew cX12_boxAnew 3 (Option.some Jvm.ClassFile.FieldType.int)) 2 0 0 [.ref m, .int a0, .int a1] h1 (.inl (some (.int v), h2)) ∧ MRw l G yX12_thrown (.code yX12_thrown cX12_thrown 1 (Option.some Jvm.ClassFile.FieldType.int)) 0 0 0 [.ref m] h2 (.inl (some (.int kk), h2)) ∧ FIN A m o S' (bb) h1 h2 kk v.toInt64 := by
  have hk9 := (CI_g H).2
  rcases op_boxAnew l G H a0 a1 with ⟨hc, S', v, M, E, O⟩ | ⟨M, E⟩ | ⟨M, E⟩
  · obtain ⟨e1, e2, e3, e4, e5, e6⟩ := fin_ok v.toInt64 H O ho hl
    have Mz := z_boxAnew l G e1 E
    rw [e2] at Mz
    have Mt := z_thrown l G e1 (S := S')
    unfold m_thrown at Mt
    rw [e5] at Mt
    exact ⟨0, v, _, _, S', w_boxAnew_v l G M hk9 e3 e4, Mz, Mt, e6⟩
  · obtain ⟨e1, e2, e5, e6⟩ := fin_x (0 : Int32).toInt64 H (show (1 : Int32) ≠ 0 by decide) (Nat.le_refl bb) (XKr_0 H) ho hl
    have Mz := z_boxAnew l G e1 E
    rw [e2] at Mz
    have Mt := z_thrown l G e1 (S := u2 S 0 0 1)
    unfold m_thrown at Mt
    rw [e5] at Mt
    exact ⟨1, 0, _, _, _, w_boxAnew_x1 l G M hk9, Mz, Mt, e6⟩
  · obtain ⟨e1, e2, e5, e6⟩ := fin_x (0 : Int32).toInt64 H (show (2 : Int32) ≠ 0 by decide) (Nat.le_refl bb) (XKr_0 H) ho hl
    have Mz := z_boxAnew l G e1 E
    rw [e2] at Mz
    have Mt := z_thrown l G e1 (S := u2 S 0 0 2)
    unfold m_thrown at Mt
    rw [e5] at Mt
    exact ⟨2, 0, _, _, _, w_boxAnew_x2 l G M hk9, Mz, Mt, e6⟩
theorem sx_lines (l : Launch) (G : Gl) {A : Nat → Nat} {m bb o : Nat} {h : Hp} {S : MM} (H : CI A m h S bb) (ho : hK h o = 102) (hl : 0 < hL h o) (a0 : Int32) : ∃ (kk v : Int32) (h1 h2 : Hp) (S' : MM), MRw l G yL_lines (.codeWith yL_lines cL_lines 4 (Option.some Jvm.ClassFile.FieldType.int) [(0, 9, 12, 13)]) 13 8 200 [.ref (A 0), .int a0, .ref o] h (.inl (some (.int kk), h1)) ∧ MRw l G yX12_lines (.code yX12_lines cX12_lines 3 (Option.some Jvm.ClassFile.FieldType.int)) 1 0 0 [.ref m, .int a0] h1 (.inl (some (.int v), h2)) ∧ MRw l G yX12_thrown (.code yX12_thrown cX12_thrown 1 (Option.some Jvm.ClassFile.FieldType.int)) 0 0 0 [.ref m] h2 (.inl (some (.int kk), h2)) ∧ FIN A m o S' (bb) h1 h2 kk v.toInt64 := by
  have hk9 := (CI_g H).2
  rcases op_lines l G H a0 with ⟨hc, S', v, M, E, O⟩ | ⟨M, E⟩
  · obtain ⟨e1, e2, e3, e4, e5, e6⟩ := fin_ok v.toInt64 H O ho hl
    have Mz := z_lines l G e1 E
    rw [e2] at Mz
    have Mt := z_thrown l G e1 (S := S')
    unfold m_thrown at Mt
    rw [e5] at Mt
    exact ⟨0, v, _, _, S', w_lines_v l G M hk9 e3 e4, Mz, Mt, e6⟩
  · obtain ⟨e1, e2, e5, e6⟩ := fin_x (0 : Int32).toInt64 H (show (1 : Int32) ≠ 0 by decide) (Nat.le_refl bb) (XKr_0 H) ho hl
    have Mz := z_lines l G e1 E
    rw [e2] at Mz
    have Mt := z_thrown l G e1 (S := u2 S 0 0 1)
    unfold m_thrown at Mt
    rw [e5] at Mt
    exact ⟨1, 0, _, _, _, w_lines_x1 l G M hk9, Mz, Mt, e6⟩
