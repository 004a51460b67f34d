/-! ===== the model: canBe, bits, weightOf, declared, isPartOf, leads (by gen.py) ===== -/
def m_canBe (a0 : Int32) (a1 : Int32) : Int32 := if a0 = 3 ∨ a0 = 4 ∨ a0 = 14 then m_in a1 0 100 else if a0 = 5 then m_in a1 0 3 else if a0 = 6 then m_in a1 0 9 else if a0 = 7 then m_in a1 1 6 else if a0 = 8 then m_in a1 0 99 else if a0 = 9 then m_in a1 1 20 else m_in a1 0 2000
theorem b_canBe {a0 a1 : Int32} : m_canBe a0 a1 = 0 ∨ m_canBe a0 a1 = 1 := by
  unfold m_canBe
  repeat' split
  all_goals exact b_in
theorem sw_out {x : Int32} (h : ∀ v : Int32, 3 ≤ v.toInt → v.toInt ≤ 14 → ¬ x = v) : x.toInt < 3 ∨ 14 < x.toInt := by
  rcases Int.lt_or_le x.toInt 3 with q | q
  · exact Or.inl q
  · rcases Int.lt_or_le 14 x.toInt with z | z
    · exact Or.inr z
    · exact absurd rfl (h x q z)
theorem z_canBe (l : Launch) (G : Gl) {h : Hp} {a0 a1 : Int32} : MRw l G yX12_canBe (.code yX12_canBe cX12_canBe 2 (Option.some Jvm.ClassFile.FieldType.boolean)) 1 0 0 [.int a0, .int a1] h (.inl (some (.int (m_canBe a0 a1)), h)) := by
  refine mr_of (by decide +kernel) (Nat.le_of_ble_eq_true rfl) (ct2 rfl rfl) (fun X hG hl C E0 => ?_)
  subst hG hl
  rw [m_canBe] at E0
  refine r_iload_n (i := 0) C dX12_canBe_0 rfl rfl ?_
  by_cases e3 : a0 = 3
  · refine r_tsw (tgt := 64) C dX12_canBe_1 (by rw [e3]; decide) (by rw [e3]; decide) (by rw [e3]; rfl) (by decide) ?_
    subst e3
    refine r_iload_n (i := 1) C dX12_canBe_64 rfl rfl ?_
    refine r_iconst (v := 0) C dX12_canBe_65 (by decide) ?_
    refine r_bipush (v := 100) C dX12_canBe_66 (by decide) ?_
    refine r_callSs C s_X12_129 (z_in _ _) dX12_canBe_68 (As := [_, _, _]) rfl rfl rfl (by first | exact Nat.le_refl _ | exact Nat.le_of_ble_eq_true rfl | omega) (Nat.le_of_ble_eq_true rfl) (by first | exact Nat.le_refl _ | exact Nat.le_of_ble_eq_true rfl | omega) (by first | exact Nat.le_refl _ | exact Nat.le_of_ble_eq_true rfl | omega) ?_
    exact r_iret C E0 dX12_canBe_71 rfl (bo_nar b_in).1 (Nat.le_refl _) (Nat.le_refl _)
  by_cases e4 : a0 = 4
  · refine r_tsw (tgt := 64) C dX12_canBe_1 (by rw [e4]; decide) (by rw [e4]; decide) (by rw [e4]; rfl) (by decide) ?_
    subst e4
    refine r_iload_n (i := 1) C dX12_canBe_64 rfl rfl ?_
    refine r_iconst (v := 0) C dX12_canBe_65 (by decide) ?_
    refine r_bipush (v := 100) C dX12_canBe_66 (by decide) ?_
    refine r_callSs C s_X12_129 (z_in _ _) dX12_canBe_68 (As := [_, _, _]) rfl rfl rfl (by first | exact Nat.le_refl _ | exact Nat.le_of_ble_eq_true rfl | omega) (Nat.le_of_ble_eq_true rfl) (by first | exact Nat.le_refl _ | exact Nat.le_of_ble_eq_true rfl | omega) (by first | exact Nat.le_refl _ | exact Nat.le_of_ble_eq_true rfl | omega) ?_
    exact r_iret C E0 dX12_canBe_71 rfl (bo_nar b_in).1 (Nat.le_refl _) (Nat.le_refl _)
  by_cases e5 : a0 = 5
  · refine r_tsw (tgt := 72) C dX12_canBe_1 (by rw [e5]; decide) (by rw [e5]; decide) (by rw [e5]; rfl) (by decide) ?_
    subst e5
    refine r_iload_n (i := 1) C dX12_canBe_72 rfl rfl ?_
    refine r_iconst (v := 0) C dX12_canBe_73 (by decide) ?_
    refine r_iconst (v := 3) C dX12_canBe_74 (by decide) ?_
    refine r_callSs C s_X12_129 (z_in _ _) dX12_canBe_75 (As := [_, _, _]) rfl rfl rfl (by first | exact Nat.le_refl _ | exact Nat.le_of_ble_eq_true rfl | omega) (Nat.le_of_ble_eq_true rfl) (by first | exact Nat.le_refl _ | exact Nat.le_of_ble_eq_true rfl | omega) (by first | exact Nat.le_refl _ | exact Nat.le_of_ble_eq_true rfl | omega) ?_
    exact r_iret C E0 dX12_canBe_78 rfl (bo_nar b_in).1 (Nat.le_refl _) (Nat.le_refl _)
  by_cases e6 : a0 = 6
  · refine r_tsw (tgt := 79) C dX12_canBe_1 (by rw [e6]; decide) (by rw [e6]; decide) (by rw [e6]; rfl) (by decide) ?_
    subst e6
    refine r_iload_n (i := 1) C dX12_canBe_79 rfl rfl ?_
    refine r_iconst (v := 0) C dX12_canBe_80 (by decide) ?_
    refine r_bipush (v := 9) C dX12_canBe_81 (by decide) ?_
    refine r_callSs C s_X12_129 (z_in _ _) dX12_canBe_83 (As := [_, _, _]) rfl rfl rfl (by first | exact Nat.le_refl _ | exact Nat.le_of_ble_eq_true rfl | omega) (Nat.le_of_ble_eq_true rfl) (by first | exact Nat.le_refl _ | exact Nat.le_of_ble_eq_true rfl | omega) (by first | exact Nat.le_refl _ | exact Nat.le_of_ble_eq_true rfl | omega) ?_
    exact r_iret C E0 dX12_canBe_86 rfl (bo_nar b_in).1 (Nat.le_refl _) (Nat.le_refl _)
  by_cases e7 : a0 = 7
  · refine r_tsw (tgt := 87) C dX12_canBe_1 (by rw [e7]; decide) (by rw [e7]; decide) (by rw [e7]; rfl) (by decide) ?_
    subst e7
    refine r_iload_n (i := 1) C dX12_canBe_87 rfl rfl ?_
    refine r_iconst (v := 1) C dX12_canBe_88 (by decide) ?_
    refine r_bipush (v := 6) C dX12_canBe_89 (by decide) ?_
    refine r_callSs C s_X12_129 (z_in _ _) dX12_canBe_91 (As := [_, _, _]) rfl rfl rfl (by first | exact Nat.le_refl _ | exact Nat.le_of_ble_eq_true rfl | omega) (Nat.le_of_ble_eq_true rfl) (by first | exact Nat.le_refl _ | exact Nat.le_of_ble_eq_true rfl | omega) (by first | exact Nat.le_refl _ | exact Nat.le_of_ble_eq_true rfl | omega) ?_
    exact r_iret C E0 dX12_canBe_94 rfl (bo_nar b_in).1 (Nat.le_refl _) (Nat.le_refl _)
  by_cases e8 : a0 = 8
  · refine r_tsw (tgt := 95) C dX12_canBe_1 (by rw [e8]; decide) (by rw [e8]; decide) (by rw [e8]; rfl) (by decide) ?_
    subst e8
    refine r_iload_n (i := 1) C dX12_canBe_95 rfl rfl ?_
    refine r_iconst (v := 0) C dX12_canBe_96 (by decide) ?_
    refine r_bipush (v := 99) C dX12_canBe_97 (by decide) ?_
    refine r_callSs C s_X12_129 (z_in _ _) dX12_canBe_99 (As := [_, _, _]) rfl rfl rfl (by first | exact Nat.le_refl _ | exact Nat.le_of_ble_eq_true rfl | omega) (Nat.le_of_ble_eq_true rfl) (by first | exact Nat.le_refl _ | exact Nat.le_of_ble_eq_true rfl | omega) (by first | exact Nat.le_refl _ | exact Nat.le_of_ble_eq_true rfl | omega) ?_
    exact r_iret C E0 dX12_canBe_102 rfl (bo_nar b_in).1 (Nat.le_refl _) (Nat.le_refl _)
  by_cases e9 : a0 = 9
  · refine r_tsw (tgt := 103) C dX12_canBe_1 (by rw [e9]; decide) (by rw [e9]; decide) (by rw [e9]; rfl) (by decide) ?_
    subst e9
    refine r_iload_n (i := 1) C dX12_canBe_103 rfl rfl ?_
    refine r_iconst (v := 1) C dX12_canBe_104 (by decide) ?_
    refine r_bipush (v := 20) C dX12_canBe_105 (by decide) ?_
    refine r_callSs C s_X12_129 (z_in _ _) dX12_canBe_107 (As := [_, _, _]) rfl rfl rfl (by first | exact Nat.le_refl _ | exact Nat.le_of_ble_eq_true rfl | omega) (Nat.le_of_ble_eq_true rfl) (by first | exact Nat.le_refl _ | exact Nat.le_of_ble_eq_true rfl | omega) (by first | exact Nat.le_refl _ | exact Nat.le_of_ble_eq_true rfl | omega) ?_
    exact r_iret C E0 dX12_canBe_110 rfl (bo_nar b_in).1 (Nat.le_refl _) (Nat.le_refl _)
  by_cases e10 : a0 = 10
  · refine r_tsw (tgt := 111) C dX12_canBe_1 (by rw [e10]; decide) (by rw [e10]; decide) (by rw [e10]; rfl) (by decide) ?_
    subst e10
    refine r_iload_n (i := 1) C dX12_canBe_111 rfl rfl ?_
    refine r_iconst (v := 0) C dX12_canBe_112 (by decide) ?_
    refine r_sipush (v := 2000) C dX12_canBe_113 (by decide) ?_
    refine r_callSs C s_X12_129 (z_in _ _) dX12_canBe_116 (As := [_, _, _]) rfl rfl rfl (by first | exact Nat.le_refl _ | exact Nat.le_of_ble_eq_true rfl | omega) (Nat.le_of_ble_eq_true rfl) (by first | exact Nat.le_refl _ | exact Nat.le_of_ble_eq_true rfl | omega) (by first | exact Nat.le_refl _ | exact Nat.le_of_ble_eq_true rfl | omega) ?_
    exact r_iret C E0 dX12_canBe_119 rfl (bo_nar b_in).1 (Nat.le_refl _) (Nat.le_refl _)
  by_cases e11 : a0 = 11
  · refine r_tsw (tgt := 111) C dX12_canBe_1 (by rw [e11]; decide) (by rw [e11]; decide) (by rw [e11]; rfl) (by decide) ?_
    subst e11
    refine r_iload_n (i := 1) C dX12_canBe_111 rfl rfl ?_
    refine r_iconst (v := 0) C dX12_canBe_112 (by decide) ?_
    refine r_sipush (v := 2000) C dX12_canBe_113 (by decide) ?_
    refine r_callSs C s_X12_129 (z_in _ _) dX12_canBe_116 (As := [_, _, _]) rfl rfl rfl (by first | exact Nat.le_refl _ | exact Nat.le_of_ble_eq_true rfl | omega) (Nat.le_of_ble_eq_true rfl) (by first | exact Nat.le_refl _ | exact Nat.le_of_ble_eq_true rfl | omega) (by first | exact Nat.le_refl _ | exact Nat.le_of_ble_eq_true rfl | omega) ?_
    exact r_iret C E0 dX12_canBe_119 rfl (bo_nar b_in).1 (Nat.le_refl _) (Nat.le_refl _)
  by_cases e12 : a0 = 12
  · refine r_tsw (tgt := 111) C dX12_canBe_1 (by rw [e12]; decide) (by rw [e12]; decide) (by rw [e12]; rfl) (by decide) ?_
    subst e12
    refine r_iload_n (i := 1) C dX12_canBe_111 rfl rfl ?_
    refine r_iconst (v := 0) C dX12_canBe_112 (by decide) ?_
    refine r_sipush (v := 2000) C dX12_canBe_113 (by decide) ?_
    refine r_callSs C s_X12_129 (z_in _ _) dX12_canBe_116 (As := [_, _, _]) rfl rfl rfl (by first | exact Nat.le_refl _ | exact Nat.le_of_ble_eq_true rfl | omega) (Nat.le_of_ble_eq_true rfl) (by first | exact Nat.le_refl _ | exact Nat.le_of_ble_eq_true rfl | omega) (by first | exact Nat.le_refl _ | exact Nat.le_of_ble_eq_true rfl | omega) ?_
    exact r_iret C E0 dX12_canBe_119 rfl (bo_nar b_in).1 (Nat.le_refl _) (Nat.le_refl _)
  by_cases e13 : a0 = 13
  · refine r_tsw (tgt := 111) C dX12_canBe_1 (by rw [e13]; decide) (by rw [e13]; decide) (by rw [e13]; rfl) (by decide) ?_
    subst e13
    refine r_iload_n (i := 1) C dX12_canBe_111 rfl rfl ?_
    refine r_iconst (v := 0) C dX12_canBe_112 (by decide) ?_
    refine r_sipush (v := 2000) C dX12_canBe_113 (by decide) ?_
    refine r_callSs C s_X12_129 (z_in _ _) dX12_canBe_116 (As := [_, _, _]) rfl rfl rfl (by first | exact Nat.le_refl _ | exact Nat.le_of_ble_eq_true rfl | omega) (Nat.le_of_ble_eq_true rfl) (by first | exact Nat.le_refl _ | exact Nat.le_of_ble_eq_true rfl | omega) (by first | exact Nat.le_refl _ | exact Nat.le_of_ble_eq_true rfl | omega) ?_
    exact r_iret C E0 dX12_canBe_119 rfl (bo_nar b_in).1 (Nat.le_refl _) (Nat.le_refl _)
  by_cases e14 : a0 = 14
  · refine r_tsw (tgt := 64) C dX12_canBe_1 (by rw [e14]; decide) (by rw [e14]; decide) (by rw [e14]; rfl) (by decide) ?_
    subst e14
    refine r_iload_n (i := 1) C dX12_canBe_64 rfl rfl ?_
    refine r_iconst (v := 0) C dX12_canBe_65 (by decide) ?_
    refine r_bipush (v := 100) C dX12_canBe_66 (by decide) ?_
    refine r_callSs C s_X12_129 (z_in _ _) dX12_canBe_68 (As := [_, _, _]) rfl rfl rfl (by first | exact Nat.le_refl _ | exact Nat.le_of_ble_eq_true rfl | omega) (Nat.le_of_ble_eq_true rfl) (by first | exact Nat.le_refl _ | exact Nat.le_of_ble_eq_true rfl | omega) (by first | exact Nat.le_refl _ | exact Nat.le_of_ble_eq_true rfl | omega) ?_
    exact r_iret C E0 dX12_canBe_71 rfl (bo_nar b_in).1 (Nat.le_refl _) (Nat.le_refl _)
  have o : a0.toInt < 3 ∨ 14 < a0.toInt := by
    refine sw_out (fun v h1 h2 z => ?_)
    subst z
    have hz : ∀ k : Int32, (a0.toInt = k.toInt) → a0 = k := fun k q => Int32.toInt_inj.mp q
    have : a0.toInt = 3 ∨ a0.toInt = 4 ∨ a0.toInt = 5 ∨ a0.toInt = 6 ∨ a0.toInt = 7 ∨ a0.toInt = 8 ∨ a0.toInt = 9 ∨ a0.toInt = 10 ∨ a0.toInt = 11 ∨ a0.toInt = 12 ∨ a0.toInt = 13 ∨ a0.toInt = 14 := by omega
    rcases this with q | q | q | q | q | q | q | q | q | q | q | q
    · exact e3 (hz 3 q)
    · exact e4 (hz 4 q)
    · exact e5 (hz 5 q)
    · exact e6 (hz 6 q)
    · exact e7 (hz 7 q)
    · exact e8 (hz 8 q)
    · exact e9 (hz 9 q)
    · exact e10 (hz 10 q)
    · exact e11 (hz 11 q)
    · exact e12 (hz 12 q)
    · exact e13 (hz 13 q)
    · exact e14 (hz 14 q)
  refine r_tswo (tgt := 111) C dX12_canBe_1 o (by decide) ?_
  rw [if_neg (fun z => z.elim e3 (fun z => z.elim e4 e14)), if_neg e5, if_neg e6, if_neg e7, if_neg e8, if_neg e9] at E0
  refine r_iload_n (i := 1) C dX12_canBe_111 rfl rfl ?_
  refine r_iconst (v := 0) C dX12_canBe_112 (by decide) ?_
  refine r_sipush (v := 2000) C dX12_canBe_113 (by decide) ?_
  refine r_callSs C s_X12_129 (z_in _ _) dX12_canBe_116 (As := [_, _, _]) rfl rfl rfl (by first | exact Nat.le_refl _ | exact Nat.le_of_ble_eq_true rfl | omega) (Nat.le_of_ble_eq_true rfl) (by first | exact Nat.le_refl _ | exact Nat.le_of_ble_eq_true rfl | omega) (by first | exact Nat.le_refl _ | exact Nat.le_of_ble_eq_true rfl | omega) ?_
  exact r_iret C E0 dX12_canBe_119 rfl (bo_nar b_in).1 (Nat.le_refl _) (Nat.le_refl _)

def m_bits_4 (x0 : Int32) : Nat → Int32 → Int32 → Option (Int32)
  | 0, _, _ => none
  | fu + 1, x1, x2 => if (8 : Int32) ≤ x2 then (some x1) else (bnd (x1 + ((x0 >>> (x2 &&& 31)) &&& (1 : Int32))) fun p2 => (m_bits_4 x0 fu p2 (x2 + 1)))
theorem z_bits_4 {X : Ctx} {h : Hp} (C : Cx X yX12_bits cX12_bits 3 (Option.some Jvm.ClassFile.FieldType.int) [] 0 0 0) {x0 : Int32} {r : Int32} (E0 : Ex X 0 0 (.inl (some (.int r), h))) : ∀ (fu : Nat) (x1 x2 : Int32) , m_bits_4 x0 fu x1 x2 = some r → wr X 0 0 4 [.int x0, .int x1, .int x2] [] h := by
  intro fu
  induction fu with
  | zero =>
    intro x1 x2 E 
    rw [m_bits_4] at E
    cases E
  | succ fu ih =>
    intro x1 x2 E 
    rw [m_bits_4] at E
    refine r_iload_n (i := 2) C dX12_bits_4 rfl rfl ?_
    refine r_bipush (v := 8) C dX12_bits_5 (by decide) ?_
    refine r_ic_ge (tgt := 24) C dX12_bits_7 (by decide) (fun c_7 => ?_) (fun c_7 => ?_)
    · have E := ite_t E c_7
      refine r_iload_n (i := 1) C dX12_bits_24 rfl rfl ?_
      obtain rfl := Option.some.inj E
      exact r_iret C E0 dX12_bits_25 rfl rfl (Nat.le_refl _) (Nat.le_refl _)
    · have E := ite_f E c_7
      refine r_iload_n (i := 1) C dX12_bits_10 rfl rfl ?_
      refine r_iload_n (i := 0) C dX12_bits_11 rfl rfl ?_
      refine r_iload_n (i := 2) C dX12_bits_12 rfl rfl ?_
      refine r_ishr C dX12_bits_13 ?_
      refine r_iconst (v := 1) C dX12_bits_14 (by decide) ?_
      refine r_iand C dX12_bits_15 ?_
      refine r_iadd C dX12_bits_16 ?_
      refine bnd_elim (P := fun (z : Int32) => wr X 0 0 17 [.int x0, .int x1, .int x2] [.int z] h) E (fun p2 E => ?_)
      refine r_istore_n (i := 1) C dX12_bits_17 rfl (Nat.le_of_ble_eq_true rfl) ?_
      refine r_iinc1 (i := 2) C dX12_bits_18 rfl ?_
      refine r_goto (tgt := 4) C dX12_bits_21 (by decide) ?_
      exact ih _ _ E
def m_bits (a0 : Int32) : Option (Int32) := m_bits_4 a0 1000 (0 : Int32) (0 : Int32)
theorem z_bits (l : Launch) (G : Gl) {h : Hp} {a0 : Int32} {r : Int32} (E : m_bits a0 = some r) : MRw l G yX12_bits (.code yX12_bits cX12_bits 3 (Option.some Jvm.ClassFile.FieldType.int)) 0 0 0 [.int a0] h (.inl (some (.int r), h)) := by
  refine mr_of (by decide +kernel) (Nat.le_of_ble_eq_true rfl) (ct1 rfl) (fun X hG hl C E0 => ?_)
  subst hG hl
  rw [m_bits] at E
  refine r_iconst (v := 0) C dX12_bits_0 (by decide) ?_
  refine r_istore_n (i := 1) C dX12_bits_1 rfl (Nat.le_of_ble_eq_true rfl) ?_
  refine r_iconst (v := 0) C dX12_bits_2 (by decide) ?_
  refine r_istore_n (i := 2) C dX12_bits_3 rfl (Nat.le_of_ble_eq_true rfl) ?_
  refine z_bits_4 C E0 _ _ _ E

def m_weightOf_4 (S : MM) (x1 : Int32) : Nat → Int32 → Int32 → Option (Int32)
  | 0, _, _ => none
  | fu + 1, x2, x3 => if ix x1 16 then if (S 11 (tn x1)) ≤ x3 then (some x2) else (bnd (((3 : Int32) * x1) + x3) fun p5 => (if ix p5 48 then bd (m_bits (S 14 (tn p5))) fun p8 => (bd (m_bits (S 15 (tn p5))) fun p9 => (bnd (if (S 13 (tn p5)) = ((-1) : Int32) then (0 : Int32) else (1 : Int32)) fun p12 => bnd (x2 + (((10 : Int32) * (p8 + p9)) + p12)) fun p13 => (m_weightOf_4 S x1 fu p13 (x3 + 1)))) else none)) else none
theorem z_weightOf_4 {X : Ctx} {m : Nat} {h : Hp} (C : Cx X yX12_weightOf cX12_weightOf 5 (Option.some Jvm.ClassFile.FieldType.int) [] 1 0 0) (hM : MW m h) {S : MM} {x1 : Int32} {r : Int32} (E0 : Ex X 0 0 (.inl (some (.int r), (pm m h S)))) : ∀ (fu : Nat) (x2 x3 : Int32) (u4 : Value) , m_weightOf_4 S x1 fu x2 x3 = some r → wr X 0 0 4 [.ref m, .int x1, .int x2, .int x3, u4] [] (pm m h S) := by
  intro fu
  induction fu with
  | zero =>
    intro x2 x3 u4 E 
    rw [m_weightOf_4] at E
    cases E
  | succ fu ih =>
    intro x2 x3 u4 E 
    rw [m_weightOf_4] at E
    refine r_iload_n (i := 3) C dX12_weightOf_4 rfl rfl ?_
    refine r_aload_n (i := 0) C dX12_weightOf_5 rfl rfl (by first | rfl | exact isR_rf _) ?_
    refine rm_ref (k := 11) C f_X12_39 dX12_weightOf_6 rfl rfl hM rfl ?_
    refine r_iload_n (i := 1) C dX12_weightOf_9 rfl rfl ?_
    obtain ⟨g2, E⟩ := gd_elim E
    refine rm_iald (k := 11) C dX12_weightOf_10 hM rfl rfl g2 ?_
    refine r_ic_ge (tgt := 71) C dX12_weightOf_11 (by decide) (fun c_11 => ?_) (fun c_11 => ?_)
    · have E := ite_t E c_11
      refine r_iload_n (i := 2) C dX12_weightOf_71 rfl rfl ?_
      obtain rfl := Option.some.inj E
      exact r_iret C E0 dX12_weightOf_72 rfl rfl (Nat.le_refl _) (Nat.le_refl _)
    · have E := ite_f E c_11
      refine r_iconst (v := 3) C dX12_weightOf_14 (by decide) ?_
      refine r_iload_n (i := 1) C dX12_weightOf_15 rfl rfl ?_
      refine r_imul C dX12_weightOf_16 ?_
      refine r_iload_n (i := 3) C dX12_weightOf_17 rfl rfl ?_
      refine r_iadd C dX12_weightOf_18 ?_
      refine bnd_elim (P := fun (z : Int32) => wr X 0 0 19 [.ref m, .int x1, .int x2, .int x3, u4] [.int z] (pm m h S)) E (fun p5 E => ?_)
      refine r_istore (i := 4) C dX12_weightOf_19 (Nat.le_of_ble_eq_true rfl) ?_
      refine r_iload_n (i := 2) C dX12_weightOf_21 rfl rfl ?_
      refine r_bipush (v := 10) C dX12_weightOf_22 (by decide) ?_
      refine r_aload_n (i := 0) C dX12_weightOf_24 rfl rfl (by first | rfl | exact isR_rf _) ?_
      refine rm_ref (k := 14) C f_X12_48 dX12_weightOf_25 rfl rfl hM rfl ?_
      refine r_iload (i := 4) C dX12_weightOf_28 rfl ?_
      obtain ⟨g7, E⟩ := gd_elim E
      refine rm_iald (k := 14) C dX12_weightOf_30 hM rfl rfl g7 ?_
      obtain ⟨p8, q, E⟩ := bd_elim E
      refine r_callSs C s_X12_171 (z_bits _ _ q) dX12_weightOf_31 (As := [_]) rfl rfl rfl (by first | exact Nat.le_refl _ | exact Nat.le_of_ble_eq_true rfl | omega) (Nat.le_of_ble_eq_true rfl) (by first | exact Nat.le_refl _ | exact Nat.le_of_ble_eq_true rfl | omega) (by first | exact Nat.le_refl _ | exact Nat.le_of_ble_eq_true rfl | omega) ?_
      refine r_aload_n (i := 0) C dX12_weightOf_34 rfl rfl (by first | rfl | exact isR_rf _) ?_
      refine rm_ref (k := 15) C f_X12_51 dX12_weightOf_35 rfl rfl hM rfl ?_
      refine r_iload (i := 4) C dX12_weightOf_38 rfl ?_
      refine rm_iald (k := 15) C dX12_weightOf_40 hM rfl rfl g7 ?_
      obtain ⟨p9, q, E⟩ := bd_elim E
      refine r_callSs C s_X12_171 (z_bits _ _ q) dX12_weightOf_41 (As := [_]) rfl rfl rfl (by first | exact Nat.le_refl _ | exact Nat.le_of_ble_eq_true rfl | omega) (Nat.le_of_ble_eq_true rfl) (by first | exact Nat.le_refl _ | exact Nat.le_of_ble_eq_true rfl | omega) (by first | exact Nat.le_refl _ | exact Nat.le_of_ble_eq_true rfl | omega) ?_
      refine r_iadd C dX12_weightOf_44 ?_
      refine r_imul C dX12_weightOf_45 ?_
      refine r_aload_n (i := 0) C dX12_weightOf_46 rfl rfl (by first | rfl | exact isR_rf _) ?_
      refine rm_ref (k := 13) C f_X12_45 dX12_weightOf_47 rfl rfl hM rfl ?_
      refine r_iload (i := 4) C dX12_weightOf_50 rfl ?_
      refine rm_iald (k := 13) C dX12_weightOf_52 hM rfl rfl g7 ?_
      refine r_iconst (v := (-1)) C dX12_weightOf_53 (by decide) ?_
      have J11 : ∀ (u : Unit), wr X 0 0 62 [.ref m, .int x1, .int x2, .int x3, .int p5] [.int (if (S 13 (tn p5)) = ((-1) : Int32) then (0 : Int32) else (1 : Int32)), .int ((10 : Int32) * (p8 + p9)), .int x2] (pm m h S) := by
        intro u
        refine bnd_elim (P := fun (z : Int32) => wr X 0 0 62 [.ref m, .int x1, .int x2, .int x3, .int p5] [.int z, .int ((10 : Int32) * (p8 + p9)), .int x2] (pm m h S)) E (fun p12 E => ?_)
        refine r_iadd C dX12_weightOf_62 ?_
        refine r_iadd C dX12_weightOf_63 ?_
        refine bnd_elim (P := fun (z : Int32) => wr X 0 0 64 [.ref m, .int x1, .int x2, .int x3, .int p5] [.int z] (pm m h S)) E (fun p13 E => ?_)
        refine r_istore_n (i := 2) C dX12_weightOf_64 rfl (Nat.le_of_ble_eq_true rfl) ?_
        refine r_iinc1 (i := 3) C dX12_weightOf_65 rfl ?_
        refine r_goto (tgt := 4) C dX12_weightOf_68 (by decide) ?_
        exact ih _ _ _ E
      refine r_ic_ne (tgt := 61) C dX12_weightOf_54 (by decide) (fun c_54_k10 => ?_) (fun c_54_k10 => ?_)
      · refine r_iconst (v := 1) C dX12_weightOf_61 (by decide) ?_
        first | exact (J11  ()) | (simp only [if_neg c_54_k10] at J11; exact (J11  ()))
      · refine r_iconst (v := 0) C dX12_weightOf_57 (by decide) ?_
        refine r_goto (tgt := 62) C dX12_weightOf_58 (by decide) ?_
        first | exact (J11  ()) | (simp only [if_pos c_54_k10] at J11; exact (J11  ()))
def m_weightOf (S : MM) (a0 : Int32) : Option (Int32) := m_weightOf_4 S a0 1000 (0 : Int32) (0 : Int32)
theorem z_weightOf (l : Launch) (G : Gl) {m : Nat} {h : Hp} (hM : MW m h) {S : MM} {a0 : Int32} {r : Int32} (E : m_weightOf S a0 = some r) : MRw l G yX12_weightOf (.code yX12_weightOf cX12_weightOf 5 (Option.some Jvm.ClassFile.FieldType.int)) 1 0 0 [.ref m, .int a0] (pm m h S) (.inl (some (.int r), (pm m h S))) := by
  refine mr_of (by decide +kernel) (Nat.le_of_ble_eq_true rfl) (ct2 rfl rfl) (fun X hG hl C E0 => ?_)
  subst hG hl
  rw [m_weightOf] at E
  refine r_iconst (v := 0) C dX12_weightOf_0 (by decide) ?_
  refine r_istore_n (i := 2) C dX12_weightOf_1 rfl (Nat.le_of_ble_eq_true rfl) ?_
  refine r_iconst (v := 0) C dX12_weightOf_2 (by decide) ?_
  refine r_istore_n (i := 3) C dX12_weightOf_3 rfl (Nat.le_of_ble_eq_true rfl) ?_
  refine z_weightOf_4 C hM E0 _ _ _ _ E

def m_declared_4 (S : MM) (x1 : Int32) : Nat → Int32 → Int32 → Option (Int32)
  | 0, _, _ => none
  | fu + 1, x2, x3 => if (14 : Int32) ≤ x3 then (some x2) else (if ix (((14 : Int32) * x1) + x3) 224 then bnd (if (S 20 (tn (((14 : Int32) * x1) + x3))) = (0 : Int32) then (0 : Int32) else (1 : Int32)) fun p9 => bnd (x2 + p9) fun p10 => (m_declared_4 S x1 fu p10 (x3 + 1)) else none)
theorem z_declared_4 {X : Ctx} {m : Nat} {h : Hp} (C : Cx X yX12_declared cX12_declared 4 (Option.some Jvm.ClassFile.FieldType.int) [] 0 0 0) (hM : MW m h) {S : MM} {x1 : Int32} {r : Int32} (E0 : Ex X 0 0 (.inl (some (.int r), (pm m h S)))) : ∀ (fu : Nat) (x2 x3 : Int32) , m_declared_4 S x1 fu x2 x3 = some r → wr X 0 0 4 [.ref m, .int x1, .int x2, .int x3] [] (pm m h S) := by
  intro fu
  induction fu with
  | zero =>
    intro x2 x3 E 
    rw [m_declared_4] at E
    cases E
  | succ fu ih =>
    intro x2 x3 E 
    rw [m_declared_4] at E
    refine r_iload_n (i := 3) C dX12_declared_4 rfl rfl ?_
    refine r_bipush (v := 14) C dX12_declared_5 (by decide) ?_
    refine r_ic_ge (tgt := 38) C dX12_declared_7 (by decide) (fun c_7 => ?_) (fun c_7 => ?_)
    · have E := ite_t E c_7
      refine r_iload_n (i := 2) C dX12_declared_38 rfl rfl ?_
      obtain rfl := Option.some.inj E
      exact r_iret C E0 dX12_declared_39 rfl rfl (Nat.le_refl _) (Nat.le_refl _)
    · have E := ite_f E c_7
      refine r_iload_n (i := 2) C dX12_declared_10 rfl rfl ?_
      refine r_aload_n (i := 0) C dX12_declared_11 rfl rfl (by first | rfl | exact isR_rf _) ?_
      refine rm_ref (k := 20) C f_X12_66 dX12_declared_12 rfl rfl hM rfl ?_
      refine r_bipush (v := 14) C dX12_declared_15 (by decide) ?_
      refine r_iload_n (i := 1) C dX12_declared_17 rfl rfl ?_
      refine r_imul C dX12_declared_18 ?_
      refine r_iload_n (i := 3) C dX12_declared_19 rfl rfl ?_
      refine r_iadd C dX12_declared_20 ?_
      obtain ⟨g6, E⟩ := gd_elim E
      refine rm_iald (k := 20) C dX12_declared_21 hM rfl rfl g6 ?_
      have J8 : ∀ (u : Unit), wr X 0 0 30 [.ref m, .int x1, .int x2, .int x3] [.int (if (S 20 (tn (((14 : Int32) * x1) + x3))) = (0 : Int32) then (0 : Int32) else (1 : Int32)), .int x2] (pm m h S) := by
        intro u
        refine bnd_elim (P := fun (z : Int32) => wr X 0 0 30 [.ref m, .int x1, .int x2, .int x3] [.int z, .int x2] (pm m h S)) E (fun p9 E => ?_)
        refine r_iadd C dX12_declared_30 ?_
        refine bnd_elim (P := fun (z : Int32) => wr X 0 0 31 [.ref m, .int x1, .int x2, .int x3] [.int z] (pm m h S)) E (fun p10 E => ?_)
        refine r_istore_n (i := 2) C dX12_declared_31 rfl (Nat.le_of_ble_eq_true rfl) ?_
        refine r_iinc1 (i := 3) C dX12_declared_32 rfl ?_
        refine r_goto (tgt := 4) C dX12_declared_35 (by decide) ?_
        exact ih _ _ E
      refine r_if_ne (tgt := 29) C dX12_declared_22 (by decide) (fun c_22_k7 => ?_) (fun c_22_k7 => ?_)
      · refine r_iconst (v := 1) C dX12_declared_29 (by decide) ?_
        first | exact (J8  ()) | (simp only [if_neg c_22_k7] at J8; exact (J8  ()))
      · refine r_iconst (v := 0) C dX12_declared_25 (by decide) ?_
        refine r_goto (tgt := 30) C dX12_declared_26 (by decide) ?_
        first | exact (J8  ()) | (simp only [if_pos c_22_k7] at J8; exact (J8  ()))
def m_declared (S : MM) (a0 : Int32) : Option (Int32) := m_declared_4 S a0 1000 (0 : Int32) (0 : Int32)
theorem z_declared (l : Launch) (G : Gl) {m : Nat} {h : Hp} (hM : MW m h) {S : MM} {a0 : Int32} {r : Int32} (E : m_declared S a0 = some r) : MRw l G yX12_declared (.code yX12_declared cX12_declared 4 (Option.some Jvm.ClassFile.FieldType.int)) 0 0 0 [.ref m, .int a0] (pm m h S) (.inl (some (.int r), (pm m h S))) := by
  refine mr_of (by decide +kernel) (Nat.le_of_ble_eq_true rfl) (ct2 rfl rfl) (fun X hG hl C E0 => ?_)
  subst hG hl
  rw [m_declared] at E
  refine r_iconst (v := 0) C dX12_declared_0 (by decide) ?_
  refine r_istore_n (i := 2) C dX12_declared_1 rfl (Nat.le_of_ble_eq_true rfl) ?_
  refine r_iconst (v := 0) C dX12_declared_2 (by decide) ?_
  refine r_istore_n (i := 3) C dX12_declared_3 rfl (Nat.le_of_ble_eq_true rfl) ?_
  refine z_declared_4 C hM E0 _ _ _ E

def m_isPartOf (S : MM) (a0 : Int32) (a1 : Int32) : Int32 := if (S 13 (tn a0)) = ((-1) : Int32) then if ((S 7 (tn a1)) &&& (S 14 (tn a0))) = (S 14 (tn a0)) then if ((S 7 (tn a1)) &&& (S 15 (tn a0))) = (0 : Int32) then (1 : Int32) else (0 : Int32) else (0 : Int32) else if (S 13 (tn a0)) = (S 6 (tn a1)) then if ((S 7 (tn a1)) &&& (S 14 (tn a0))) = (S 14 (tn a0)) then if ((S 7 (tn a1)) &&& (S 15 (tn a0))) = (0 : Int32) then (1 : Int32) else (0 : Int32) else (0 : Int32) else (0 : Int32)
abbrev m_isPartOf_g (S : MM) (a0 : Int32) (a1 : Int32) : Prop := (ix a0 48 ∧ ((S 13 (tn a0)) = ((-1) : Int32) → ix a1 24) ∧ (¬ ((S 13 (tn a0)) = ((-1) : Int32)) → ix a1 24))
theorem z_isPartOf (l : Launch) (G : Gl) {m : Nat} {h : Hp} (hM : MW m h) {S : MM} {a0 a1 : Int32} (g : m_isPartOf_g S a0 a1) : MRw l G yX12_isPartOf (.code yX12_isPartOf cX12_isPartOf 3 (Option.some Jvm.ClassFile.FieldType.boolean)) 0 0 0 [.ref m, .int a0, .int a1] (pm m h S) (.inl (some (.int (m_isPartOf S a0 a1)), (pm m h S))) := by
  refine mr_of (by decide +kernel) (Nat.le_of_ble_eq_true rfl) (ct3 rfl rfl rfl) (fun X hG hl C E0 => ?_)
  subst hG hl
  unfold m_isPartOf_g at g
  rw [m_isPartOf] at E0
  refine r_aload_n (i := 0) C dX12_isPartOf_0 rfl rfl (by first | rfl | exact isR_rf _) ?_
  refine rm_ref (k := 13) C f_X12_45 dX12_isPartOf_1 rfl rfl hM rfl ?_
  refine r_iload_n (i := 1) C dX12_isPartOf_4 rfl rfl ?_
  refine rm_iald (k := 13) C dX12_isPartOf_5 hM rfl rfl g.1 ?_
  refine r_iconst (v := (-1)) C dX12_isPartOf_6 (by decide) ?_
  have J10 : ∀ (u : Unit), wr X 0 0 68 [.ref m, .int a0, .int a1] [.int (if (S 13 (tn a0)) = ((-1) : Int32) then if ((S 7 (tn a1)) &&& (S 14 (tn a0))) = (S 14 (tn a0)) then if ((S 7 (tn a1)) &&& (S 15 (tn a0))) = (0 : Int32) then (1 : Int32) else (0 : Int32) else (0 : Int32) else if (S 13 (tn a0)) = (S 6 (tn a1)) then if ((S 7 (tn a1)) &&& (S 14 (tn a0))) = (S 14 (tn a0)) then if ((S 7 (tn a1)) &&& (S 15 (tn a0))) = (0 : Int32) then (1 : Int32) else (0 : Int32) else (0 : Int32) else (0 : Int32))] (pm m h S) := by
    intro u
    exact r_iret C E0 dX12_isPartOf_68 rfl (bo_nar (by first | exact Or.inl rfl | exact Or.inr rfl | assumption | exact b_canBe | exact b_in | exact b_isRule | exact b_isPart | (repeat' split) <;> first | exact Or.inl rfl | exact Or.inr rfl | assumption | exact b_canBe | exact b_in | exact b_isRule | exact b_isPart)).1 (Nat.le_refl _) (Nat.le_refl _)
  refine r_ic_eq (tgt := 25) C dX12_isPartOf_7 (by decide) (fun c_7_k2 => ?_) (fun c_7_k2 => ?_)
  · refine r_aload_n (i := 0) C dX12_isPartOf_25 rfl rfl (by first | rfl | exact isR_rf _) ?_
    refine rm_ref (k := 7) C f_X12_29 dX12_isPartOf_26 rfl rfl hM rfl ?_
    refine r_iload_n (i := 2) C dX12_isPartOf_29 rfl rfl ?_
    refine rm_iald (k := 7) C dX12_isPartOf_30 hM rfl rfl (g.2.1 c_7_k2) ?_
    refine r_aload_n (i := 0) C dX12_isPartOf_31 rfl rfl (by first | rfl | exact isR_rf _) ?_
    refine rm_ref (k := 14) C f_X12_48 dX12_isPartOf_32 rfl rfl hM rfl ?_
    refine r_iload_n (i := 1) C dX12_isPartOf_35 rfl rfl ?_
    refine rm_iald (k := 14) C dX12_isPartOf_36 hM rfl rfl g.1 ?_
    refine r_iand C dX12_isPartOf_37 ?_
    refine r_aload_n (i := 0) C dX12_isPartOf_38 rfl rfl (by first | rfl | exact isR_rf _) ?_
    refine rm_ref (k := 14) C f_X12_48 dX12_isPartOf_39 rfl rfl hM rfl ?_
    refine r_iload_n (i := 1) C dX12_isPartOf_42 rfl rfl ?_
    refine rm_iald (k := 14) C dX12_isPartOf_43 hM rfl rfl g.1 ?_
    refine r_ic_ne (tgt := 67) C dX12_isPartOf_44 (by decide) (fun c_44_k4 => ?_) (fun c_44_k4 => ?_)
    · refine r_iconst (v := 0) C dX12_isPartOf_67 (by decide) ?_
      first | exact (J10  ()) | (simp only [if_pos c_7_k2, if_neg c_44_k4] at J10; exact (J10  ()))
    · refine r_aload_n (i := 0) C dX12_isPartOf_47 rfl rfl (by first | rfl | exact isR_rf _) ?_
      refine rm_ref (k := 7) C f_X12_29 dX12_isPartOf_48 rfl rfl hM rfl ?_
      refine r_iload_n (i := 2) C dX12_isPartOf_51 rfl rfl ?_
      refine rm_iald (k := 7) C dX12_isPartOf_52 hM rfl rfl (g.2.1 c_7_k2) ?_
      refine r_aload_n (i := 0) C dX12_isPartOf_53 rfl rfl (by first | rfl | exact isR_rf _) ?_
      refine rm_ref (k := 15) C f_X12_51 dX12_isPartOf_54 rfl rfl hM rfl ?_
      refine r_iload_n (i := 1) C dX12_isPartOf_57 rfl rfl ?_
      refine rm_iald (k := 15) C dX12_isPartOf_58 hM rfl rfl g.1 ?_
      refine r_iand C dX12_isPartOf_59 ?_
      refine r_if_ne (tgt := 67) C dX12_isPartOf_60 (by decide) (fun c_60_k5 => ?_) (fun c_60_k5 => ?_)
      · refine r_iconst (v := 0) C dX12_isPartOf_67 (by decide) ?_
        first | exact (J10  ()) | (simp only [if_pos c_7_k2, if_pos c_44_k4, if_neg c_60_k5] at J10; exact (J10  ()))
      · refine r_iconst (v := 1) C dX12_isPartOf_63 (by decide) ?_
        refine r_goto (tgt := 68) C dX12_isPartOf_64 (by decide) ?_
        first | exact (J10  ()) | (simp only [if_pos c_7_k2, if_pos c_44_k4, if_pos c_60_k5] at J10; exact (J10  ()))
  · refine r_aload_n (i := 0) C dX12_isPartOf_10 rfl rfl (by first | rfl | exact isR_rf _) ?_
    refine rm_ref (k := 13) C f_X12_45 dX12_isPartOf_11 rfl rfl hM rfl ?_
    refine r_iload_n (i := 1) C dX12_isPartOf_14 rfl rfl ?_
    refine rm_iald (k := 13) C dX12_isPartOf_15 hM rfl rfl g.1 ?_
    refine r_aload_n (i := 0) C dX12_isPartOf_16 rfl rfl (by first | rfl | exact isR_rf _) ?_
    refine rm_ref (k := 6) C f_X12_26 dX12_isPartOf_17 rfl rfl hM rfl ?_
    refine r_iload_n (i := 2) C dX12_isPartOf_20 rfl rfl ?_
    refine rm_iald (k := 6) C dX12_isPartOf_21 hM rfl rfl (g.2.2 c_7_k2) ?_
    refine r_ic_ne (tgt := 67) C dX12_isPartOf_22 (by decide) (fun c_22_k7 => ?_) (fun c_22_k7 => ?_)
    · refine r_iconst (v := 0) C dX12_isPartOf_67 (by decide) ?_
      first | exact (J10  ()) | (simp only [if_neg c_7_k2, if_neg c_22_k7] at J10; exact (J10  ()))
    · refine r_aload_n (i := 0) C dX12_isPartOf_25 rfl rfl (by first | rfl | exact isR_rf _) ?_
      refine rm_ref (k := 7) C f_X12_29 dX12_isPartOf_26 rfl rfl hM rfl ?_
      refine r_iload_n (i := 2) C dX12_isPartOf_29 rfl rfl ?_
      refine rm_iald (k := 7) C dX12_isPartOf_30 hM rfl rfl (g.2.2 c_7_k2) ?_
      refine r_aload_n (i := 0) C dX12_isPartOf_31 rfl rfl (by first | rfl | exact isR_rf _) ?_
      refine rm_ref (k := 14) C f_X12_48 dX12_isPartOf_32 rfl rfl hM rfl ?_
      refine r_iload_n (i := 1) C dX12_isPartOf_35 rfl rfl ?_
      refine rm_iald (k := 14) C dX12_isPartOf_36 hM rfl rfl g.1 ?_
      refine r_iand C dX12_isPartOf_37 ?_
      refine r_aload_n (i := 0) C dX12_isPartOf_38 rfl rfl (by first | rfl | exact isR_rf _) ?_
      refine rm_ref (k := 14) C f_X12_48 dX12_isPartOf_39 rfl rfl hM rfl ?_
      refine r_iload_n (i := 1) C dX12_isPartOf_42 rfl rfl ?_
      refine rm_iald (k := 14) C dX12_isPartOf_43 hM rfl rfl g.1 ?_
      refine r_ic_ne (tgt := 67) C dX12_isPartOf_44 (by decide) (fun c_44_k8 => ?_) (fun c_44_k8 => ?_)
      · refine r_iconst (v := 0) C dX12_isPartOf_67 (by decide) ?_
        first | exact (J10  ()) | (simp only [if_neg c_7_k2, if_pos c_22_k7, if_neg c_44_k8] at J10; exact (J10  ()))
      · refine r_aload_n (i := 0) C dX12_isPartOf_47 rfl rfl (by first | rfl | exact isR_rf _) ?_
        refine rm_ref (k := 7) C f_X12_29 dX12_isPartOf_48 rfl rfl hM rfl ?_
        refine r_iload_n (i := 2) C dX12_isPartOf_51 rfl rfl ?_
        refine rm_iald (k := 7) C dX12_isPartOf_52 hM rfl rfl (g.2.2 c_7_k2) ?_
        refine r_aload_n (i := 0) C dX12_isPartOf_53 rfl rfl (by first | rfl | exact isR_rf _) ?_
        refine rm_ref (k := 15) C f_X12_51 dX12_isPartOf_54 rfl rfl hM rfl ?_
        refine r_iload_n (i := 1) C dX12_isPartOf_57 rfl rfl ?_
        refine rm_iald (k := 15) C dX12_isPartOf_58 hM rfl rfl g.1 ?_
        refine r_iand C dX12_isPartOf_59 ?_
        refine r_if_ne (tgt := 67) C dX12_isPartOf_60 (by decide) (fun c_60_k9 => ?_) (fun c_60_k9 => ?_)
        · refine r_iconst (v := 0) C dX12_isPartOf_67 (by decide) ?_
          first | exact (J10  ()) | (simp only [if_neg c_7_k2, if_pos c_22_k7, if_pos c_44_k8, if_neg c_60_k9] at J10; exact (J10  ()))
        · refine r_iconst (v := 1) C dX12_isPartOf_63 (by decide) ?_
          refine r_goto (tgt := 68) C dX12_isPartOf_64 (by decide) ?_
          first | exact (J10  ()) | (simp only [if_neg c_7_k2, if_pos c_22_k7, if_pos c_44_k8, if_pos c_60_k9] at J10; exact (J10  ()))
theorem b_isPartOf {S : MM} {a0 a1 : Int32} : m_isPartOf S a0 a1 = 0 ∨ m_isPartOf S a0 a1 = 1 := by
  unfold m_isPartOf
  exact (by first | exact Or.inl rfl | exact Or.inr rfl | assumption | exact b_canBe | exact b_in | exact b_isRule | exact b_isPart | (repeat' split) <;> first | exact Or.inl rfl | exact Or.inr rfl | assumption | exact b_canBe | exact b_in | exact b_isRule | exact b_isPart)

def m_leads_51 (K0 : Int32 → Option (Int32)) (S : MM) (x2 : Int32) : Nat → Int32 → Int32 → Option (Int32)
  | 0, _, _ => none
  | fu + 1, x4, x5 => if x2 ≤ x5 then (K0 x4) else (if ix x5 24 then if ix x2 24 then bnd (if (S 5 (tn x5)) = (S 5 (tn x2)) then x5 else x4) fun p18 => (m_leads_51 K0 S x2 fu p18 (x5 + 1)) else none else none)
theorem z_leads_51 {X : Ctx} {m : Nat} {h : Hp} (C : Cx X yX12_leads cX12_leads 6 (Option.some Jvm.ClassFile.FieldType.boolean) [] 1 0 0) (hM : MW m h) {K0 : Int32 → Option (Int32)} {S : MM} {x2 : Int32} {v3 : Value} {r : Int32} (E0 : Ex X 0 0 (.inl (some (.int r), (pm m h S)))) : ∀ (fu : Nat) (x4 x5 : Int32) (u1 : Value) , m_leads_51 K0 S x2 fu x4 x5 = some r → (∀ (y4 : Int32) (u0 u1 u2 u5 : Value) , K0 y4 = some r → wr X 0 0 88 [u0, u1, u2, v3, .int y4, u5] [] (pm m h S)) → wr X 0 0 51 [.ref m, u1, .int x2, v3, .int x4, .int x5] [] (pm m h S) := by
  intro fu
  induction fu with
  | zero =>
    intro x4 x5 u1 E hK0
    rw [m_leads_51] at E
    cases E
  | succ fu ih =>
    intro x4 x5 u1 E hK0
    rw [m_leads_51] at E
    refine r_iload (i := 5) C dX12_leads_51 rfl ?_
    refine r_iload_n (i := 2) C dX12_leads_53 rfl rfl ?_
    refine r_ic_ge (tgt := 88) C dX12_leads_54 (by decide) (fun c_54 => ?_) (fun c_54 => ?_)
    · have E := ite_t E c_54
      exact hK0 _ _ _ _ _ E
    · have E := ite_f E c_54
      refine r_aload_n (i := 0) C dX12_leads_57 rfl rfl (by first | rfl | exact isR_rf _) ?_
      refine rm_ref (k := 5) C f_X12_23 dX12_leads_58 rfl rfl hM rfl ?_
      refine r_iload (i := 5) C dX12_leads_61 rfl ?_
      obtain ⟨g13, E⟩ := gd_elim E
      refine rm_iald (k := 5) C dX12_leads_63 hM rfl rfl g13 ?_
      refine r_aload_n (i := 0) C dX12_leads_64 rfl rfl (by first | rfl | exact isR_rf _) ?_
      refine rm_ref (k := 5) C f_X12_23 dX12_leads_65 rfl rfl hM rfl ?_
      refine r_iload_n (i := 2) C dX12_leads_68 rfl rfl ?_
      obtain ⟨g15, E⟩ := gd_elim E
      refine rm_iald (k := 5) C dX12_leads_69 hM rfl rfl g15 ?_
      have J17 : ∀ (u : Unit), wr X 0 0 80 [.ref m, u1, .int x2, v3, .int x4, .int x5] [.int (if (S 5 (tn x5)) = (S 5 (tn x2)) then x5 else x4)] (pm m h S) := by
        intro u
        refine bnd_elim (P := fun (z : Int32) => wr X 0 0 80 [.ref m, u1, .int x2, v3, .int x4, .int x5] [.int z] (pm m h S)) E (fun p18 E => ?_)
        refine r_istore (i := 4) C dX12_leads_80 (Nat.le_of_ble_eq_true rfl) ?_
        refine r_iinc1 (i := 5) C dX12_leads_82 rfl ?_
        refine r_goto (tgt := 51) C dX12_leads_85 (by decide) ?_
        exact ih _ _ _ E hK0
      refine r_ic_ne (tgt := 78) C dX12_leads_70 (by decide) (fun c_70_k16 => ?_) (fun c_70_k16 => ?_)
      · refine r_iload (i := 4) C dX12_leads_78 rfl ?_
        first | exact (J17  ()) | (simp only [if_neg c_70_k16] at J17; exact (J17  ()))
      · refine r_iload (i := 5) C dX12_leads_73 rfl ?_
        refine r_goto (tgt := 80) C dX12_leads_75 (by decide) ?_
        first | exact (J17  ()) | (simp only [if_pos c_70_k16] at J17; exact (J17  ()))
def m_leads (S : MM) (a0 : Int32) (a1 : Int32) (a2 : Int32) : Option (Int32) := if a0 = (0 : Int32) then (if ix a1 24 then some (if (S 5 (tn a1)) = a2 then (1 : Int32) else (0 : Int32)) else none) else (if a0 = (1 : Int32) then (if a1 = a2 then (some (0 : Int32)) else (bd (m_isBelow S a1 a2) fun p28 => (some (if p28 = (0 : Int32) then (0 : Int32) else (1 : Int32))))) else (m_leads_51 (fun p19 => some (if p19 = ((-1) : Int32) then (0 : Int32) else if p19 = a2 then (1 : Int32) else (0 : Int32))) S a1 1000 ((-1) : Int32) (0 : Int32)))
theorem z_leads (l : Launch) (G : Gl) {m : Nat} {h : Hp} (hM : MW m h) {S : MM} {a0 a1 a2 : Int32} {r : Int32} (E : m_leads S a0 a1 a2 = some r) : MRw l G yX12_leads (.code yX12_leads cX12_leads 6 (Option.some Jvm.ClassFile.FieldType.boolean)) 1 0 0 [.ref m, .int a0, .int a1, .int a2] (pm m h S) (.inl (some (.int r), (pm m h S))) := by
  refine mr_of (by decide +kernel) (Nat.le_of_ble_eq_true rfl) (ct4 rfl rfl rfl rfl) (fun X hG hl C E0 => ?_)
  subst hG hl
  rw [m_leads] at E
  refine r_iload_n (i := 1) C dX12_leads_0 rfl rfl ?_
  refine r_if_ne (tgt := 20) C dX12_leads_1 (by decide) (fun c_1 => ?_) (fun c_1 => ?_)
  · have E := ite_f E c_1
    refine r_iload_n (i := 1) C dX12_leads_20 rfl rfl ?_
    refine r_iconst (v := 1) C dX12_leads_21 (by decide) ?_
    refine r_ic_ne (tgt := 45) C dX12_leads_22 (by decide) (fun c_22 => ?_) (fun c_22 => ?_)
    · have E := ite_f E c_22
      refine r_iconst (v := (-1)) C dX12_leads_45 (by decide) ?_
      refine r_istore (i := 4) C dX12_leads_46 (Nat.le_of_ble_eq_true rfl) ?_
      refine r_iconst (v := 0) C dX12_leads_48 (by decide) ?_
      refine r_istore (i := 5) C dX12_leads_49 (Nat.le_of_ble_eq_true rfl) ?_
      refine z_leads_51 C hM E0 _ _ _ _ E (fun p19 w20 w21 w22 w23 E => ?_)
      refine r_iload (i := 4) C dX12_leads_88 rfl ?_
      refine r_iconst (v := (-1)) C dX12_leads_90 (by decide) ?_
      have J26 : ∀ (u : Unit), wr X 0 0 105 [w20, w21, w22, .int a2, .int p19, w23] [.int (if p19 = ((-1) : Int32) then (0 : Int32) else if p19 = a2 then (1 : Int32) else (0 : Int32))] (pm m h S) := by
        intro u
        obtain rfl := Option.some.inj E
        exact r_iret C E0 dX12_leads_105 rfl (bo_nar (by first | exact Or.inl rfl | exact Or.inr rfl | assumption | exact b_canBe | exact b_in | exact b_isRule | exact b_isPart | exact b_isPartOf | (repeat' split) <;> first | exact Or.inl rfl | exact Or.inr rfl | assumption | exact b_canBe | exact b_in | exact b_isRule | exact b_isPart | exact b_isPartOf)).1 (Nat.le_refl _) (Nat.le_refl _)
      refine r_ic_eq (tgt := 104) C dX12_leads_91 (by decide) (fun c_91_k24 => ?_) (fun c_91_k24 => ?_)
      · refine r_iconst (v := 0) C dX12_leads_104 (by decide) ?_
        first | exact (J26  ()) | (simp only [if_pos c_91_k24] at J26; exact (J26  ()))
      · refine r_iload (i := 4) C dX12_leads_94 rfl ?_
        refine r_iload_n (i := 3) C dX12_leads_96 rfl rfl ?_
        refine r_ic_ne (tgt := 104) C dX12_leads_97 (by decide) (fun c_97_k25 => ?_) (fun c_97_k25 => ?_)
        · refine r_iconst (v := 0) C dX12_leads_104 (by decide) ?_
          first | exact (J26  ()) | (simp only [if_neg c_91_k24, if_neg c_97_k25] at J26; exact (J26  ()))
        · refine r_iconst (v := 1) C dX12_leads_100 (by decide) ?_
          refine r_goto (tgt := 105) C dX12_leads_101 (by decide) ?_
          first | exact (J26  ()) | (simp only [if_neg c_91_k24, if_pos c_97_k25] at J26; exact (J26  ()))
    · have E := ite_t E c_22
      refine r_iload_n (i := 2) C dX12_leads_25 rfl rfl ?_
      refine r_iload_n (i := 3) C dX12_leads_26 rfl rfl ?_
      refine r_ic_eq (tgt := 43) C dX12_leads_27 (by decide) (fun c_27 => ?_) (fun c_27 => ?_)
      · have E := ite_t E c_27
        refine r_iconst (v := 0) C dX12_leads_43 (by decide) ?_
        obtain rfl := Option.some.inj E
        exact r_iret C E0 dX12_leads_44 rfl (bo_nar (by first | exact Or.inl rfl | exact Or.inr rfl | assumption | exact b_canBe | exact b_in | exact b_isRule | exact b_isPart | exact b_isPartOf | (repeat' split) <;> first | exact Or.inl rfl | exact Or.inr rfl | assumption | exact b_canBe | exact b_in | exact b_isRule | exact b_isPart | exact b_isPartOf)).1 (Nat.le_refl _) (Nat.le_refl _)
      · have E := ite_f E c_27
        refine r_aload_n (i := 0) C dX12_leads_30 rfl rfl (by first | rfl | exact isR_rf _) ?_
        refine r_iload_n (i := 2) C dX12_leads_31 rfl rfl ?_
        refine r_iload_n (i := 3) C dX12_leads_32 rfl rfl ?_
        obtain ⟨p28, q, E⟩ := bd_elim E
        refine r_callVs C v_X12_156 (z_isBelow _ _ hM q) dX12_leads_33 hM.1 (ci := 10) (by decide) rfl rfl (As := [_, _]) rfl rfl rfl (by first | exact Nat.le_refl _ | exact Nat.le_of_ble_eq_true rfl | omega) (Nat.le_of_ble_eq_true rfl) (by first | exact Nat.le_refl _ | exact Nat.le_of_ble_eq_true rfl | omega) (by first | exact Nat.le_refl _ | exact Nat.le_of_ble_eq_true rfl | omega) ?_
        have J30 : ∀ (u : Unit), wr X 0 0 44 [.ref m, .int a0, .int a1, .int a2, (.long 0), (.long 0)] [.int (if p28 = (0 : Int32) then (0 : Int32) else (1 : Int32))] (pm m h S) := by
          intro u
          obtain rfl := Option.some.inj E
          exact r_iret C E0 dX12_leads_44 rfl (bo_nar (by first | exact Or.inl rfl | exact Or.inr rfl | assumption | exact b_canBe | exact b_in | exact b_isRule | exact b_isPart | exact b_isPartOf | (repeat' split) <;> first | exact Or.inl rfl | exact Or.inr rfl | assumption | exact b_canBe | exact b_in | exact b_isRule | exact b_isPart | exact b_isPartOf)).1 (Nat.le_refl _) (Nat.le_refl _)
        refine r_if_eq (tgt := 43) C dX12_leads_36 (by decide) (fun c_36_k29 => ?_) (fun c_36_k29 => ?_)
        · refine r_iconst (v := 0) C dX12_leads_43 (by decide) ?_
          first | exact (J30  ()) | (simp only [if_pos c_36_k29] at J30; exact (J30  ()))
        · refine r_iconst (v := 1) C dX12_leads_39 (by decide) ?_
          refine r_goto (tgt := 44) C dX12_leads_40 (by decide) ?_
          first | exact (J30  ()) | (simp only [if_neg c_36_k29] at J30; exact (J30  ()))
  · have E := ite_t E c_1
    refine r_aload_n (i := 0) C dX12_leads_4 rfl rfl (by first | rfl | exact isR_rf _) ?_
    refine rm_ref (k := 5) C f_X12_23 dX12_leads_5 rfl rfl hM rfl ?_
    refine r_iload_n (i := 2) C dX12_leads_8 rfl rfl ?_
    obtain ⟨g32, E⟩ := gd_elim E
    refine rm_iald (k := 5) C dX12_leads_9 hM rfl rfl g32 ?_
    refine r_iload_n (i := 3) C dX12_leads_10 rfl rfl ?_
    have J34 : ∀ (u : Unit), wr X 0 0 19 [.ref m, .int a0, .int a1, .int a2, (.long 0), (.long 0)] [.int (if (S 5 (tn a1)) = a2 then (1 : Int32) else (0 : Int32))] (pm m h S) := by
      intro u
      obtain rfl := Option.some.inj E
      exact r_iret C E0 dX12_leads_19 rfl (bo_nar (by first | exact Or.inl rfl | exact Or.inr rfl | assumption | exact b_canBe | exact b_in | exact b_isRule | exact b_isPart | exact b_isPartOf | (repeat' split) <;> first | exact Or.inl rfl | exact Or.inr rfl | assumption | exact b_canBe | exact b_in | exact b_isRule | exact b_isPart | exact b_isPartOf)).1 (Nat.le_refl _) (Nat.le_refl _)
    refine r_ic_ne (tgt := 18) C dX12_leads_11 (by decide) (fun c_11_k33 => ?_) (fun c_11_k33 => ?_)
    · refine r_iconst (v := 0) C dX12_leads_18 (by decide) ?_
      first | exact (J34  ()) | (simp only [if_neg c_11_k33] at J34; exact (J34  ()))
    · refine r_iconst (v := 1) C dX12_leads_14 (by decide) ?_
      refine r_goto (tgt := 19) C dX12_leads_15 (by decide) ?_
      first | exact (J34  ()) | (simp only [if_pos c_11_k33] at J34; exact (J34  ()))

