/-! ===== the law: drawn, declares (by gendec.py) ===== -/
theorem cx_L {X : Ctx} {y : MethodName} {cc : ByteArray} {nL : Nat} {ret : Option FieldType} {hh : List (Nat × Nat × Nat × Nat)} {f mc ms : Nat} (C : Cx X y cc nL ret hh f mc ms) : gL (fOf X) < 2 ^ 31 := by
  obtain ⟨p, l, e, R, s, m, args, below, meth, c, G, ρ0, n0, Q⟩ := X
  obtain ⟨hx, hb, hml, hret, hown, hlk, hnm, htb, htr, hE, hsz, hf, hmc, hms, hlo⟩ := C
  exact hE.2.2.2
theorem c_drawn (l : Launch) (G : Gl) {b : Hp} {k : Nat} (hk : k < 2 ^ 30) : MRw l G yL_drawn (.code yL_drawn cL_drawn 3 (Option.some Jvm.ClassFile.FieldType.int)) 0 0 0 [.ref 0, .int (nI k)] b (.inl (some (.int (nI (drw G k))), b)) := by
  refine mr_of (by decide +kernel) (Nat.le_of_ble_eq_true rfl) (ct2 (by first | rfl | exact isR_cat (isR_rf _)) (by first | rfl | exact isR_cat (isR_rf _))) (fun X hG hl C E => ?_)
  subst hG hl
  have hL := cx_L C
  rw [← drI_w] at E
  unfold drI at E
  refine r_iload_n (i := 1) C dL_drawn_0 rfl rfl ?_
  refine r_aload_n (i := 0) C dL_drawn_1 rfl rfl (by first | rfl | exact isR_rf _) ?_
  refine r_slen C dL_drawn_2 ?_
  refine r_ic_ge (tgt := 12) C dL_drawn_3 (by decide) (fun c => ?_) (fun c => ?_)
  · have c : gL0 (gOf X) ≤ k := (nI_leI hL (by omega)).mp c
    rw [if_neg (by omega)] at E
    refine r_sipush (v := 13469) C dL_drawn_12 (by decide) ?_
    refine r_iload_n (i := 1) C dL_drawn_15 rfl rfl ?_
    refine r_imul C dL_drawn_16 ?_
    refine r_sipush (v := 7207) C dL_drawn_17 (by decide) ?_
    refine r_iadd C dL_drawn_20 ?_
    refine r_istore_n (i := 2) C dL_drawn_21 rfl (Nat.le_of_ble_eq_true rfl) ?_
    refine r_iload_n (i := 2) C dL_drawn_22 rfl rfl ?_
    refine r_ldcI C dL_drawn_23 q_L_7 ?_
    refine r_iand C dL_drawn_25 ?_
    exact r_iret C E dL_drawn_26 rfl rfl (by first | exact Nat.le_refl _ | exact Nat.le_of_ble_eq_true rfl | omega) (by first | exact Nat.le_refl _ | exact Nat.le_of_ble_eq_true rfl | omega)
  · have c : k < gL (fOf X) := Nat.lt_of_not_le fun z => c ((nI_leI hL (by omega)).mpr z)
    rw [if_pos (show k < gL0 (gOf X) from c)] at E
    refine r_aload_n (i := 0) C dL_drawn_6 rfl rfl (by first | rfl | exact isR_rf _) ?_
    refine r_iload_n (i := 1) C dL_drawn_7 rfl rfl ?_
    refine r_sald (j := k) C dL_drawn_8 rfl c ?_
    refine r_goto (tgt := 21) C dL_drawn_9 (by decide) ?_
    refine r_istore_n (i := 2) C dL_drawn_21 rfl (Nat.le_of_ble_eq_true rfl) ?_
    refine r_iload_n (i := 2) C dL_drawn_22 rfl rfl ?_
    refine r_ldcI C dL_drawn_23 q_L_7 ?_
    refine r_iand C dL_drawn_25 ?_
    exact r_iret C E dL_drawn_26 rfl rfl (by first | exact Nat.le_refl _ | exact Nat.le_of_ble_eq_true rfl | omega) (by first | exact Nat.le_refl _ | exact Nat.le_of_ble_eq_true rfl | omega)
/-! what a told number declares -/
def itsN (p w : Nat) : Nat := if p < 3 then w % 90 else if p = 5 then w % 4 else if p = 7 then 1 + w % 6 else 1 + w % 9
def dkk (t : Nat) : Int32 := if t % 8 < 2 then 2 else if t % 8 = 2 then 3 else 1
def dvv (p t : Nat) : Int32 := if t % 8 < 2 then nI (t / 8 % 4) else if t % 8 = 2 then nI (t / 8 % 4) else nI (itsN p (t / 8))
def dff (t : Nat) : Int32 := if t % 8 = 2 then (if t / 8 / 4 % 3 = 0 then -1 else 1) else -1
theorem wdec (l : Launch) (G : Gl) {h h1 : Hp} {b r p t mc ms : Nat} {v : Int32} (hp : p < 10) (ht : t < 3000)
    (Ms : t % 8 < 2 → MRw l G yL_does (.codeWith yL_does cL_does 8 (Option.some Jvm.ClassFile.FieldType.int) [(0, 265, 266, 69), (0, 265, 271, 71), (0, 265, 276, 73)]) 13 mc ms [.ref b, .int 8, .int (nI r), .int (nI p), .int (nI (t / 8 % 4)), .int 0, .int 0] h (.inl (some (.int v), h1)))
    (Mr : t % 8 = 2 → MRw l G yL_does (.codeWith yL_does cL_does 8 (Option.some Jvm.ClassFile.FieldType.int) [(0, 265, 266, 69), (0, 265, 271, 71), (0, 265, 276, 73)]) 13 mc ms [.ref b, .int 9, .int (nI r), .int (nI p), .int (nI (t / 8 % 4)), .int (if t / 8 / 4 % 3 = 0 then -1 else 1), .int 0] h (.inl (some (.int v), h1)))
    (Md : 2 < t % 8 → MRw l G yL_does (.codeWith yL_does cL_does 8 (Option.some Jvm.ClassFile.FieldType.int) [(0, 265, 266, 69), (0, 265, 271, 71), (0, 265, 276, 73)]) 13 mc ms [.ref b, .int 7, .int (nI r), .int (nI p), .int (nI (itsN p (t / 8))), .int 0, .int 0] h (.inl (some (.int v), h1))) :
    MRw l G yL_declares (.code yL_declares cL_declares 6 (Option.some Jvm.ClassFile.FieldType.int)) 14 mc ms [.ref b, .int (nI r), .int (nI p), .int (nI t)] h (.inl (some (.int v), h1)) := by
  refine mr_of (by decide +kernel) (Nat.le_of_ble_eq_true rfl) (ct4 (by first | rfl | exact isR_cat (isR_rf _)) (by first | rfl | exact isR_cat (isR_rf _)) (by first | rfl | exact isR_cat (isR_rf _)) (by first | rfl | exact isR_cat (isR_rf _))) (fun X hG hl C E => ?_)
  subst hG hl
  refine r_iload_n (i := 3) C dL_declares_0 rfl rfl ?_
  refine r_bipush (v := nI 8) C dL_declares_1 (by decide) ?_
  refine r_divN C dL_declares_3 (by omega) (by omega) (by omega) ?_
  refine r_istore (i := 4) C dL_declares_4 (Nat.le_of_ble_eq_true rfl) ?_
  refine r_iload_n (i := 3) C dL_declares_6 rfl rfl ?_
  refine r_bipush (v := nI 8) C dL_declares_7 (by decide) ?_
  refine r_remN C dL_declares_9 (by omega) (by omega) (by omega) ?_
  refine r_iconst (v := nI 2) C dL_declares_10 (by decide) ?_
  refine r_ic_ge (tgt := 29) C dL_declares_11 (by decide) (fun c => ?_) (fun c => ?_)
  · have c : 2 ≤ t % 8 := (nI_leI (by omega) (by omega)).mp c
    refine r_iload_n (i := 3) C dL_declares_29 rfl rfl ?_
    refine r_bipush (v := nI 8) C dL_declares_30 (by decide) ?_
    refine r_remN C dL_declares_32 (by omega) (by omega) (by omega) ?_
    refine r_iconst (v := nI 2) C dL_declares_33 (by decide) ?_
    refine r_ic_ne (tgt := 65) C dL_declares_34 (by decide) (fun c2 => ?_) (fun c2 => ?_)
    · have c2 : ¬ t % 8 = 2 := fun z => c2 (by rw [z])
      have M := Md (by omega)
      have J : ∀ x : Nat, x = itsN p (t / 8) → wr X 0 0 113 [.ref b, .int (nI r), .int (nI p), .int (nI t), .int (nI (t / 8)), .long 0] [.int (nI x)] h := fun x hx => by
        rw [hx]
        refine r_istore (i := 5) C dL_declares_113 (Nat.le_of_ble_eq_true rfl) ?_
        refine r_aload_n (i := 0) C dL_declares_115 rfl rfl (by first | rfl | exact isR_rf _) ?_
        refine r_bipush (v := 7) C dL_declares_116 (by decide) ?_
        refine r_iload_n (i := 1) C dL_declares_118 rfl rfl ?_
        refine r_iload_n (i := 2) C dL_declares_119 rfl rfl ?_
        refine r_iload (i := 5) C dL_declares_120 rfl ?_
        refine r_iconst (v := 0) C dL_declares_122 (by decide) ?_
        refine r_iconst (v := 0) C dL_declares_123 (by decide) ?_
        refine r_callHs C s_L_87 M dL_declares_124 (As := [_, _, _, _, _, _, _]) rfl rfl rfl (by first | exact Nat.le_refl _ | exact Nat.le_of_ble_eq_true rfl | omega) (Nat.le_of_ble_eq_true rfl) (by first | exact Nat.le_refl _ | exact Nat.le_of_ble_eq_true rfl | omega) (by first | exact Nat.le_refl _ | exact Nat.le_of_ble_eq_true rfl | omega) ?_
        exact r_iret C E dL_declares_127 rfl rfl (by first | exact Nat.le_refl _ | exact Nat.le_of_ble_eq_true rfl | omega) (by first | exact Nat.le_refl _ | exact Nat.le_of_ble_eq_true rfl | omega)
      refine r_iload_n (i := 2) C dL_declares_65 rfl rfl ?_
      refine r_iconst (v := nI 3) C dL_declares_66 (by decide) ?_
      refine r_ic_ge (tgt := 78) C dL_declares_67 (by decide) (fun c3 => ?_) (fun c3 => ?_)
      · have c3 : 3 ≤ p := (nI_leI (by omega) (by omega)).mp c3
        refine r_iload_n (i := 2) C dL_declares_78 rfl rfl ?_
        refine r_iconst (v := nI 5) C dL_declares_79 (by decide) ?_
        refine r_ic_ne (tgt := 90) C dL_declares_80 (by decide) (fun c4 => ?_) (fun c4 => ?_)
        · have c4 : ¬ p = 5 := fun z => c4 (by rw [z])
          refine r_iload_n (i := 2) C dL_declares_90 rfl rfl ?_
          refine r_bipush (v := nI 7) C dL_declares_91 (by decide) ?_
          refine r_ic_ne (tgt := 106) C dL_declares_93 (by decide) (fun c5 => ?_) (fun c5 => ?_)
          · have c5 : ¬ p = 7 := fun z => c5 (by rw [z])
            refine r_iconst (v := nI 1) C dL_declares_106 (by decide) ?_
            refine r_iload (i := 4) C dL_declares_107 rfl ?_
            refine r_bipush (v := nI 9) C dL_declares_109 (by decide) ?_
            refine r_remN C dL_declares_111 (by omega) (by omega) (by omega) ?_
            refine r_addN C dL_declares_112 ?_
            exact J _ (by unfold itsN; rw [if_neg (by omega), if_neg c4, if_neg c5])
          · have c5 : p = 7 := (nI_eq (by omega) (by decide)).mp c5
            refine r_iconst (v := nI 1) C dL_declares_96 (by decide) ?_
            refine r_iload (i := 4) C dL_declares_97 rfl ?_
            refine r_bipush (v := nI 6) C dL_declares_99 (by decide) ?_
            refine r_remN C dL_declares_101 (by omega) (by omega) (by omega) ?_
            refine r_addN C dL_declares_102 ?_
            refine r_goto (tgt := 113) C dL_declares_103 (by decide) ?_
            exact J _ (by unfold itsN; rw [if_neg (by omega), if_neg c4, if_pos c5])
        · have c4 : p = 5 := (nI_eq (by omega) (by decide)).mp c4
          refine r_iload (i := 4) C dL_declares_83 rfl ?_
          refine r_iconst (v := nI 4) C dL_declares_85 (by decide) ?_
          refine r_remN C dL_declares_86 (by omega) (by omega) (by omega) ?_
          refine r_goto (tgt := 113) C dL_declares_87 (by decide) ?_
          exact J _ (by unfold itsN; rw [if_neg (by omega), if_pos c4])
      · have c3 : p < 3 := Nat.lt_of_not_le fun z => c3 (nI_le (a := 3) z (by omega))
        refine r_iload (i := 4) C dL_declares_70 rfl ?_
        refine r_bipush (v := nI 90) C dL_declares_72 (by decide) ?_
        refine r_remN C dL_declares_74 (by omega) (by omega) (by omega) ?_
        refine r_goto (tgt := 113) C dL_declares_75 (by decide) ?_
        exact J _ (by unfold itsN; rw [if_pos c3])
    · have c2 : t % 8 = 2 := (nI_eq (by omega) (by decide)).mp c2
      have M := Mr c2
      refine r_aload_n (i := 0) C dL_declares_37 rfl rfl (by first | rfl | exact isR_rf _) ?_
      refine r_bipush (v := 9) C dL_declares_38 (by decide) ?_
      refine r_iload_n (i := 1) C dL_declares_40 rfl rfl ?_
      refine r_iload_n (i := 2) C dL_declares_41 rfl rfl ?_
      refine r_iload (i := 4) C dL_declares_42 rfl ?_
      refine r_iconst (v := nI 4) C dL_declares_44 (by decide) ?_
      refine r_remN C dL_declares_45 (by omega) (by omega) (by omega) ?_
      refine r_iload (i := 4) C dL_declares_46 rfl ?_
      refine r_iconst (v := nI 4) C dL_declares_48 (by decide) ?_
      refine r_divN C dL_declares_49 (by omega) (by omega) (by omega) ?_
      refine r_iconst (v := nI 3) C dL_declares_50 (by decide) ?_
      refine r_remN C dL_declares_51 (by omega) (by omega) (by omega) ?_
      refine r_if_ne (tgt := 59) C dL_declares_52 (by decide) (fun c3 => ?_) (fun c3 => ?_)
      · have c3 : ¬ t / 8 / 4 % 3 = 0 := fun z => c3 (by rw [z]; rfl)
        rw [if_neg c3] at M
        refine r_iconst (v := 1) C dL_declares_59 (by decide) ?_
        refine r_iconst (v := 0) C dL_declares_60 (by decide) ?_
        refine r_callHs C s_L_87 M dL_declares_61 (As := [_, _, _, _, _, _, _]) rfl rfl rfl (by first | exact Nat.le_refl _ | exact Nat.le_of_ble_eq_true rfl | omega) (Nat.le_of_ble_eq_true rfl) (by first | exact Nat.le_refl _ | exact Nat.le_of_ble_eq_true rfl | omega) (by first | exact Nat.le_refl _ | exact Nat.le_of_ble_eq_true rfl | omega) ?_
        exact r_iret C E dL_declares_64 rfl rfl (by first | exact Nat.le_refl _ | exact Nat.le_of_ble_eq_true rfl | omega) (by first | exact Nat.le_refl _ | exact Nat.le_of_ble_eq_true rfl | omega)
      · have c3 : t / 8 / 4 % 3 = 0 := (nI_eq (b := 0) (by omega) (by decide)).mp c3
        rw [if_pos c3] at M
        refine r_iconst (v := (-1)) C dL_declares_55 (by decide) ?_
        refine r_goto (tgt := 60) C dL_declares_56 (by decide) ?_
        refine r_iconst (v := 0) C dL_declares_60 (by decide) ?_
        refine r_callHs C s_L_87 M dL_declares_61 (As := [_, _, _, _, _, _, _]) rfl rfl rfl (by first | exact Nat.le_refl _ | exact Nat.le_of_ble_eq_true rfl | omega) (Nat.le_of_ble_eq_true rfl) (by first | exact Nat.le_refl _ | exact Nat.le_of_ble_eq_true rfl | omega) (by first | exact Nat.le_refl _ | exact Nat.le_of_ble_eq_true rfl | omega) ?_
        exact r_iret C E dL_declares_64 rfl rfl (by first | exact Nat.le_refl _ | exact Nat.le_of_ble_eq_true rfl | omega) (by first | exact Nat.le_refl _ | exact Nat.le_of_ble_eq_true rfl | omega)
  · have c : t % 8 < 2 := Nat.lt_of_not_le fun z => c (nI_le (a := 2) z (by omega))
    have M := Ms c
    refine r_aload_n (i := 0) C dL_declares_14 rfl rfl (by first | rfl | exact isR_rf _) ?_
    refine r_bipush (v := 8) C dL_declares_15 (by decide) ?_
    refine r_iload_n (i := 1) C dL_declares_17 rfl rfl ?_
    refine r_iload_n (i := 2) C dL_declares_18 rfl rfl ?_
    refine r_iload (i := 4) C dL_declares_19 rfl ?_
    refine r_iconst (v := nI 4) C dL_declares_21 (by decide) ?_
    refine r_remN C dL_declares_22 (by omega) (by omega) (by omega) ?_
    refine r_iconst (v := 0) C dL_declares_23 (by decide) ?_
    refine r_iconst (v := 0) C dL_declares_24 (by decide) ?_
    refine r_callHs C s_L_87 M dL_declares_25 (As := [_, _, _, _, _, _, _]) rfl rfl rfl (by first | exact Nat.le_refl _ | exact Nat.le_of_ble_eq_true rfl | omega) (Nat.le_of_ble_eq_true rfl) (by first | exact Nat.le_refl _ | exact Nat.le_of_ble_eq_true rfl | omega) (by first | exact Nat.le_refl _ | exact Nat.le_of_ble_eq_true rfl | omega) ?_
    exact r_iret C E dL_declares_28 rfl rfl (by first | exact Nat.le_refl _ | exact Nat.le_of_ble_eq_true rfl | omega) (by first | exact Nat.le_refl _ | exact Nat.le_of_ble_eq_true rfl | omega)
theorem rg {lo hi x : Nat} (h1 : lo ≤ x) (h2 : x ≤ hi) (hh : hi < 2 ^ 31) : nI lo ≤ nI x ∧ nI x ≤ nI hi := ⟨nI_le h1 (by omega), nI_le h2 hh⟩
theorem its_ok {p w : Nat} (hp : p < 10) : m_canBe (nI p) (nI (itsN p w)) = 1 := by
  rw [canBe_c (by omega)]
  have : p = 0 ∨ p = 1 ∨ p = 2 ∨ p = 3 ∨ p = 4 ∨ p = 5 ∨ p = 6 ∨ p = 7 ∨ p = 8 ∨ p = 9 := by omega
  rcases this with z | z | z | z | z | z | z | z | z | z <;> subst z
  · show nI 0 ≤ nI (w % 90) ∧ nI (w % 90) ≤ nI 2000
    exact rg (by omega) (by omega) (by decide)
  · show nI 0 ≤ nI (w % 90) ∧ nI (w % 90) ≤ nI 2000
    exact rg (by omega) (by omega) (by decide)
  · show nI 0 ≤ nI (w % 90) ∧ nI (w % 90) ≤ nI 2000
    exact rg (by omega) (by omega) (by decide)
  · show nI 0 ≤ nI (1 + w % 9) ∧ nI (1 + w % 9) ≤ nI 100
    exact rg (by omega) (by omega) (by decide)
  · show nI 0 ≤ nI (1 + w % 9) ∧ nI (1 + w % 9) ≤ nI 100
    exact rg (by omega) (by omega) (by decide)
  · show nI 0 ≤ nI (w % 4) ∧ nI (w % 4) ≤ nI 3
    exact rg (by omega) (by omega) (by decide)
  · show nI 0 ≤ nI (1 + w % 9) ∧ nI (1 + w % 9) ≤ nI 9
    exact rg (by omega) (by omega) (by decide)
  · show nI 1 ≤ nI (1 + w % 6) ∧ nI (1 + w % 6) ≤ nI 6
    exact rg (by omega) (by omega) (by decide)
  · show nI 0 ≤ nI (1 + w % 9) ∧ nI (1 + w % 9) ≤ nI 99
    exact rg (by omega) (by omega) (by decide)
  · show nI 1 ≤ nI (1 + w % 9) ∧ nI (1 + w % 9) ≤ nI 20
    exact rg (by omega) (by omega) (by decide)
theorem fb_ok {p : Nat} (hp : p < 10) : m_canBe (nI p) 1 = 1 := by
  rw [canBe_c (by omega)]
  have : p = 0 ∨ p = 1 ∨ p = 2 ∨ p = 3 ∨ p = 4 ∨ p = 5 ∨ p = 6 ∨ p = 7 ∨ p = 8 ∨ p = 9 := by omega
  rcases this with z | z | z | z | z | z | z | z | z | z <;> subst z <;> decide
theorem n3 {x : Nat} (h : x < 4) : ¬ (nI x < 0 ∨ 3 < nI x) := nI3 h
/-- declares on a house -/
theorem ds_decl (l : Launch) (G : Gl) {b : Hp} {H : Nat} {P : Nat → Prop} {S : MM} {k n R : Nat} (gb : Good b) (W : HS b H P S k n R) {r p t : Nat} (hr : r < R) (hp : p < 10) (ht : t < 3000) (h6 : cntD S r p ≤ 6) : ∃ (b' : Hp) (P' : Nat → Prop) (S' : MM), MRw l G yL_declares (.code yL_declares cL_declares 6 (Option.some Jvm.ClassFile.FieldType.int)) 14 30 600 [.ref H, .int (nI r), .int (nI p), .int (nI t)] b (.inl (some (.int (nI (cntD S r p))), b')) ∧ TG (tDec S r p (dkk t) (dvv p t) (dff t)) S' ∧ HS b' H P' S' k n R ∧ FRM b b' P P' := by
  by_cases c : t % 8 < 2
  · obtain ⟨b', P', S', M, g, W', F⟩ := ds_say l G gb W (x3 := 0) (x4 := 0) (v := nI (t / 8 % 4)) (n3 (by omega)) hr (show p ≤ 14 by omega) h6
    refine ⟨b', P', S', wdec l G hp ht (fun _ => M) (fun z => absurd z (by omega)) (fun z => absurd z (by omega)), ?_, W', F⟩
    unfold dkk dvv dff
    rw [if_pos c, if_pos c, if_neg (by omega)]
    exact g
  · by_cases c2 : t % 8 = 2
    · obtain ⟨b', P', S', M, g, W', F⟩ := ds_refer l G gb W (x4 := 0) (u := nI (t / 8 % 4)) (f := if t / 8 / 4 % 3 = 0 then -1 else 1) (n3 (by omega)) (by
        by_cases q : t / 8 / 4 % 3 = 0
        · rw [if_pos q]
          exact Or.inl rfl
        · rw [if_neg q]
          exact Or.inr (fb_ok hp)) hr (show p ≤ 14 by omega) h6
      refine ⟨b', P', S', wdec l G hp ht (fun z => absurd z c) (fun _ => M) (fun z => absurd z (by omega)), ?_, W', F⟩
      unfold dkk dvv dff
      rw [if_neg c, if_neg c, if_pos c2, if_pos c2, if_pos c2]
      exact g
    · obtain ⟨b', P', S', M, g, W', F⟩ := ds_declare l G gb W (x3 := 0) (x4 := 0) (v := nI (itsN p (t / 8))) (Or.inl (its_ok hp)) hr (show p ≤ 14 by omega) h6
      refine ⟨b', P', S', wdec l G hp ht (fun z => absurd z c) (fun z => absurd z c2) (fun _ => M), ?_, W', F⟩
      unfold dkk dvv dff
      rw [if_neg c, if_neg c, if_neg c2, if_neg c2, if_neg c2]
      exact g
theorem ds_decl_x (l : Launch) (G : Gl) {b : Hp} {H : Nat} {P : Nat → Prop} {S : MM} {k n R : Nat} (gb : Good b) (W : HS b H P S k n R) {r p t : Nat} (hr : r < R) (hp : p < 10) (ht : t < 3000) (h6 : 6 < cntD S r p) : ∃ (b' : Hp) (P' : Nat → Prop), MRw l G yL_declares (.code yL_declares cL_declares 6 (Option.some Jvm.ClassFile.FieldType.int)) 14 30 600 [.ref H, .int (nI r), .int (nI p), .int (nI t)] b (.inl (some (.int (-9)), b')) ∧ HS b' H P' S k n R ∧ FRM b b' P P' := by
  by_cases c : t % 8 < 2
  · obtain ⟨b', P', M, W', F⟩ := ds_say_x l G gb W (x3 := 0) (x4 := 0) (v := nI (t / 8 % 4)) (n3 (by omega)) hr (show p ≤ 14 by omega) h6
    exact ⟨b', P', wdec l G hp ht (fun _ => M) (fun z => absurd z (by omega)) (fun z => absurd z (by omega)), W', F⟩
  · by_cases c2 : t % 8 = 2
    · obtain ⟨b', P', M, W', F⟩ := ds_refer_x l G gb W (x4 := 0) (u := nI (t / 8 % 4)) (f := if t / 8 / 4 % 3 = 0 then -1 else 1) (n3 (by omega)) (by
        by_cases q : t / 8 / 4 % 3 = 0
        · rw [if_pos q]
          exact Or.inl rfl
        · rw [if_neg q]
          exact Or.inr (fb_ok hp)) hr (show p ≤ 14 by omega) h6
      exact ⟨b', P', wdec l G hp ht (fun z => absurd z c) (fun _ => M) (fun z => absurd z (by omega)), W', F⟩
    · obtain ⟨b', P', M, W', F⟩ := ds_declare_x l G gb W (x3 := 0) (x4 := 0) (v := nI (itsN p (t / 8))) (Or.inl (its_ok hp)) hr (show p ≤ 14 by omega) h6
      exact ⟨b', P', wdec l G hp ht (fun z => absurd z c) (fun z => absurd z c2) (fun _ => M), W', F⟩
