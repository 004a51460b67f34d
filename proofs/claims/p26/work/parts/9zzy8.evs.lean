/-! ===== what is given of the start, for the small machine (by genev.py) ===== -/
theorem nar_LEAST : ∀ j, j < 14 → (flatC (Jvm.Cond.and given_1 narrow_1))[11 + j]? = some (.eq (.elem (.static RX6 "LEAST" "[I") (.int (Int32.ofNat j))) (.int (pLe j))) := by decide +kernel
theorem nar_GREATEST : ∀ j, j < 14 → (flatC (Jvm.Cond.and given_1 narrow_1))[28 + j]? = some (.eq (.elem (.static RX6 "GREATEST" "[I") (.int (Int32.ofNat j))) (.int (pGr j))) := by decide +kernel
theorem nar_AT_FIRST : ∀ j, j < 14 → (flatC (Jvm.Cond.and given_1 narrow_1))[45 + j]? = some (.eq (.elem (.static RX6 "AT_FIRST" "[I") (.int (Int32.ofNat j))) (.int (pAf j))) := by decide +kernel
theorem na_LEAST : (flatC (Jvm.Cond.and given_1 narrow_1))[9]? = some (.arrayOf (.static RX6 "LEAST" "[I") .int) := by decide +kernel
theorem nl_LEAST : (flatC (Jvm.Cond.and given_1 narrow_1))[10]? = some (.eq (.length (.static RX6 "LEAST" "[I")) (.int (Int32.ofNat 14))) := by decide +kernel
theorem tl_LEAST : lw_tbl[452]? = some (.laysStatic RX6 "LEAST" "[I") := by decide +kernel
theorem na_GREATEST : (flatC (Jvm.Cond.and given_1 narrow_1))[26]? = some (.arrayOf (.static RX6 "GREATEST" "[I") .int) := by decide +kernel
theorem nl_GREATEST : (flatC (Jvm.Cond.and given_1 narrow_1))[27]? = some (.eq (.length (.static RX6 "GREATEST" "[I")) (.int (Int32.ofNat 14))) := by decide +kernel
theorem tl_GREATEST : lw_tbl[454]? = some (.laysStatic RX6 "GREATEST" "[I") := by decide +kernel
theorem na_AT_FIRST : (flatC (Jvm.Cond.and given_1 narrow_1))[43]? = some (.arrayOf (.static RX6 "AT_FIRST" "[I") .int) := by decide +kernel
theorem nl_AT_FIRST : (flatC (Jvm.Cond.and given_1 narrow_1))[44]? = some (.eq (.length (.static RX6 "AT_FIRST" "[I")) (.int (Int32.ofNat 14))) := by decide +kernel
theorem tl_AT_FIRST : lw_tbl[464]? = some (.laysStatic RX6 "AT_FIRST" "[I") := by decide +kernel
theorem ti_RX6 : lw_tbl[36]? = some (.initialized RX6) := by decide +kernel
theorem na_DE : (flatC (Jvm.Cond.and given_1 narrow_1))[5]? = some (.arrayOf (.static RJx4a65c "DEFAULTCAPACITY_EMPTY_ELEMENTDATA" "[Ljava/lang/Object;") (.object "java/lang/Object")) := by decide +kernel
theorem nl_DE : (flatC (Jvm.Cond.and given_1 narrow_1))[7]? = some (.eq (.length (.static RJx4a65c "DEFAULTCAPACITY_EMPTY_ELEMENTDATA" "[Ljava/lang/Object;")) (.int (Int32.ofNat 0))) := by decide +kernel
theorem tl_DE : lw_tbl[81]? = some (.laysStatic RJx4a65c "DEFAULTCAPACITY_EMPTY_ELEMENTDATA" "[Ljava/lang/Object;") := by decide +kernel
theorem ti_AL : lw_tbl[24]? = some (.initialized RJx4a65c) := by decide +kernel
theorem nr_US : (flatC (Jvm.Cond.and given_1 narrow_1))[59]? = some (.isRef (.static Bundle.tN "UNASSIGNED_STACK" Bundle.steD)) := by decide +kernel
theorem nr_SS : (flatC (Jvm.Cond.and given_1 narrow_1))[60]? = some (.isRef (.static Bundle.tN "SUPPRESSED_SENTINEL" Bundle.listD)) := by decide +kernel
theorem tl_US : lw_tbl[600]? = some (.laysStatic Bundle.tN "UNASSIGNED_STACK" Bundle.steD) := by decide +kernel
theorem tl_SS : lw_tbl[602]? = some (.laysStatic Bundle.tN "SUPPRESSED_SENTINEL" Bundle.listD) := by decide +kernel
theorem ti_T : lw_tbl[39]? = some (.initialized Bundle.tN) := by decide +kernel
theorem nr_mi : (flatC (Jvm.Cond.and given_1 narrow_1))[344]? = some (.isRef (.mirror "[Ljava/lang/Object;")) := by decide +kernel
theorem nw_self {s : State} {C : String} {c : ClassId} (h : s.vm.findClass C = some c) : va_Nw (.castable C C) s := by
  unfold va_Nw
  simp [Cond.before, Cond.holds, Cond.value, h, va_asg]
theorem ar_ob {s : State} {C : String} (h : va_AO C s) : ∃ cA : ClassId, ArrOfT s cA (.object C) ∧ va_RA s cA (.object C) := by
  obtain ⟨comp, c, k, h1, h2, h3, h4, h5⟩ := Cond.arrayOver_spec h
  exact ⟨c, fun n z => ⟨(fun k h => by cases h), k, h3, comp, h4⟩, k, comp, h3, h4, h1, h5⟩
theorem ar_i {s : State} {A : Array Value} (h : (Cond.arrayClass .int).before A s = true) : ∃ cA : ClassId, ArrOfT s cA .int ∧ va_RA s cA .int := by
  obtain ⟨c, k, comp, h1, h2, h3⟩ := Cond.arrayClass_spec h
  exact ⟨c, fun n z => ⟨(fun k h => by cases h), k, h2, comp, h3⟩, h1⟩
theorem ar_z {s : State} {A : Array Value} (h : (Cond.arrayClass .boolean).before A s = true) : ∃ cA : ClassId, ArrOfT s cA .boolean ∧ va_RA s cA .boolean := by
  obtain ⟨c, k, comp, h1, h2, h3⟩ := Cond.arrayClass_spec h
  exact ⟨c, fun n z => ⟨(fun k h => by cases h), k, h2, comp, h3⟩, h1⟩
theorem ar_j {s : State} {A : Array Value} (h : (Cond.arrayClass .long).before A s = true) : ∃ cA : ClassId, ArrOfT s cA .long ∧ va_RA s cA .long := by
  obtain ⟨c, k, comp, h1, h2, h3⟩ := Cond.arrayClass_spec h
  exact ⟨c, fun n z => ⟨(fun k h => by cases h), k, h2, comp, h3⟩, h1⟩
theorem tc_RX2 : lw_tbl[1229]? = some (.castable RX2 "java/lang/Object") := by decide +kernel
theorem tc_RX7 : lw_tbl[1224]? = some (.castable RX7 "java/lang/Object") := by decide +kernel
theorem tc_RX5 : lw_tbl[1236]? = some (.castable RX5 "java/lang/Object") := by decide +kernel
theorem tc_xI : lw_tbl[575]? = some (.castable xI xI) := by decide +kernel
theorem tc_xA : lw_tbl[646]? = some (.castable xA xA) := by decide +kernel
theorem tc_xS : lw_tbl[662]? = some (.castable xS xS) := by decide +kernel
theorem nn_xIxA : (flatC (Jvm.Cond.and given_1 narrow_1))[293]? = some (.not (.castable xI xA)) := by decide +kernel
theorem nn_xIxS : (flatC (Jvm.Cond.and given_1 narrow_1))[307]? = some (.not (.castable xI xS)) := by decide +kernel
theorem nn_xAxI : (flatC (Jvm.Cond.and given_1 narrow_1))[279]? = some (.not (.castable xA xI)) := by decide +kernel
theorem nn_xAxS : (flatC (Jvm.Cond.and given_1 narrow_1))[308]? = some (.not (.castable xA xS)) := by decide +kernel
theorem nn_xSxI : (flatC (Jvm.Cond.and given_1 narrow_1))[280]? = some (.not (.castable xS xI)) := by decide +kernel
theorem nn_xSxA : (flatC (Jvm.Cond.and given_1 narrow_1))[294]? = some (.not (.castable xS xA)) := by decide +kernel
theorem tn_RX10 : lw_tbl[96]? = some (.methodLinkNest RX10 21 yX2_init "CascadeHouse") := by decide +kernel
theorem tn_RX2 : lw_tbl[102]? = some (.methodLinkNest RX2 11 yX4_init "CascadeHouse") := by decide +kernel
theorem tn_RX11 : lw_tbl[292]? = some (.methodLinkNest RX11 18 yX8_init "CascadeHouse") := by decide +kernel
theorem to_O : lw_tbl[270]? = some (.arrayOver (.object "java/lang/Object")) := by decide +kernel
theorem to_U : lw_tbl[314]? = some (.arrayOver (.object RX7)) := by decide +kernel
theorem to_D : lw_tbl[1162]? = some (.arrayOver (.object RX1)) := by decide +kernel
theorem td_g : lw_tbl[1242]? = some (.declares ⟨"java/lang/Object", "getClass", "()Ljava/lang/Class;"⟩) := by decide +kernel
theorem td_0 : lw_tbl[577]? = some (.declares ⟨"java/lang/RuntimeException", "<init>", "(Ljava/lang/String;)V"⟩) := by decide +kernel
theorem td_1 : lw_tbl[579]? = some (.declares ⟨"java/lang/Exception", "<init>", "(Ljava/lang/String;)V"⟩) := by decide +kernel
theorem td_2 : lw_tbl[581]? = some (.declares ⟨"java/lang/Throwable", "<init>", "(Ljava/lang/String;)V"⟩) := by decide +kernel
theorem ts_107 : lw_tbl[1153]? = some (.stringRef RX11 107 "16 rules are there") := by decide +kernel
theorem ns_107 : (flatC (Jvm.Cond.and given_1 narrow_1))[786]? = some (.exactly (.string RX11 107) "java/lang/String") := by decide +kernel
theorem ts_133 : lw_tbl[743]? = some (.stringRef RX11 133 "the rule has 3 parts") := by decide +kernel
theorem ns_133 : (flatC (Jvm.Cond.and given_1 narrow_1))[520]? = some (.exactly (.string RX11 133) "java/lang/String") := by decide +kernel
theorem ts_158 : lw_tbl[1049]? = some (.stringRef RX11 158 "the property cannot be that") := by decide +kernel
theorem ns_158 : (flatC (Jvm.Cond.and given_1 narrow_1))[643]? = some (.exactly (.string RX11 158) "java/lang/String") := by decide +kernel
theorem ts_171 : lw_tbl[1099]? = some (.stringRef RX11 171 "the property cannot be the fallback") := by decide +kernel
theorem ns_171 : (flatC (Jvm.Cond.and given_1 narrow_1))[734]? = some (.exactly (.string RX11 171) "java/lang/String") := by decide +kernel
theorem ts_209 : lw_tbl[614]? = some (.stringRef RX11 209 "there is no such element") := by decide +kernel
theorem ns_209 : (flatC (Jvm.Cond.and given_1 narrow_1))[345]? = some (.exactly (.string RX11 209) "java/lang/String") := by decide +kernel
theorem ts_214 : lw_tbl[735]? = some (.stringRef RX11 214 "there is no such rule") := by decide +kernel
theorem ns_214 : (flatC (Jvm.Cond.and given_1 narrow_1))[490]? = some (.exactly (.string RX11 214) "java/lang/String") := by decide +kernel
theorem ts_216 : lw_tbl[1044]? = some (.stringRef RX11 216 "there is no such property") := by decide +kernel
theorem ns_216 : (flatC (Jvm.Cond.and given_1 narrow_1))[604]? = some (.exactly (.string RX11 216) "java/lang/String") := by decide +kernel
theorem ts_218 : lw_tbl[653]? = some (.stringRef RX11 218 "an argument is out of its range") := by decide +kernel
theorem ns_218 : (flatC (Jvm.Cond.and given_1 narrow_1))[373]? = some (.exactly (.string RX11 218) "java/lang/String") := by decide +kernel
theorem ts_223 : lw_tbl[1082]? = some (.stringRef RX11 223 "a rule has at most 6 declarations") := by decide +kernel
theorem ns_223 : (flatC (Jvm.Cond.and given_1 narrow_1))[685]? = some (.exactly (.string RX11 223) "java/lang/String") := by decide +kernel
theorem ts_57 : lw_tbl[669]? = some (.stringRef RX11 57 "24 elements are there") := by decide +kernel
theorem ns_57 : (flatC (Jvm.Cond.and given_1 narrow_1))[409]? = some (.exactly (.string RX11 57) "java/lang/String") := by decide +kernel
theorem ts_75 : lw_tbl[694]? = some (.stringRef RX11 75 "the root stays") := by decide +kernel
theorem ns_75 : (flatC (Jvm.Cond.and given_1 narrow_1))[436]? = some (.exactly (.string RX11 75) "java/lang/String") := by decide +kernel
theorem ts_93 : lw_tbl[718]? = some (.stringRef RX11 93 "a word has 1 to 9 letters") := by decide +kernel
theorem ns_93 : (flatC (Jvm.Cond.and given_1 narrow_1))[457]? = some (.exactly (.string RX11 93) "java/lang/String") := by decide +kernel
theorem st_FxV {s : State} {A : Array Value} (hts : ∀ w ∈ lw_tbl, w.before A s = true) (hgv : (Jvm.Cond.and given_1 narrow_1).before A s = true) : FxV s := by
  have hs := flat_of_before _ hgv
  have tb : ∀ {i : Nat} {w : Cond}, lw_tbl[i]? = some w → w.before A s = true := fun h => hts _ (List.mem_of_getElem? h)
  have nb : ∀ {i : Nat} {w : Cond}, (flatC (Jvm.Cond.and given_1 narrow_1))[i]? = some w → w.before A s = true := fun h => hs _ (List.mem_of_getElem? h)
  have sr : ∀ {k : Nat} {tx : String}, (Cond.stringRef RX11 k tx).before A s = true → (Cond.exactly (.string RX11 k) "java/lang/String").before A s = true → ∃ sa : Nat, vk_R RX11 k tx sa s := fun {k tx} h1 h2 => by
    obtain ⟨a, c, cell, kk, he, _⟩ := Cond.exactly_spec h2
    exact ⟨a, vk_R.of h1 he⟩
  obtain ⟨c2, _, f2, _, _⟩ := Cond.castable_spec (tb tc_RX2)
  obtain ⟨c7, _, f7, _, _⟩ := Cond.castable_spec (tb tc_RX7)
  obtain ⟨c5, _, f5, _, _⟩ := Cond.castable_spec (tb tc_RX5)
  refine ⟨fun w hw args => word_at (State.WarmedH.refl s) (good_of_word hw.2) (hts w hw.1), ?_, ?_, ?_, ?_, ⟨va_Dc.of (tb td_g), ?_⟩, ?_⟩
  · exact List.forall_mem_cons.mpr ⟨nw_self f2, List.forall_mem_cons.mpr ⟨nw_self f7, List.forall_mem_cons.mpr ⟨nw_self f5, List.forall_mem_cons.mpr ⟨va_Nw.of rfl (tb tc_RX2), List.forall_mem_cons.mpr ⟨va_Nw.of rfl (tb tc_RX7), List.forall_mem_cons.mpr ⟨va_Nw.of rfl (tb tc_RX5), List.forall_mem_cons.mpr ⟨va_Nw.of rfl (tb tc_xI), List.forall_mem_cons.mpr ⟨va_Nw.of rfl (tb tc_xA), List.forall_mem_cons.mpr ⟨va_Nw.of rfl (tb tc_xS), (fun _ z => nomatch z)⟩⟩⟩⟩⟩⟩⟩⟩⟩
  · exact List.forall_mem_cons.mpr ⟨va_Nc.of (nb nn_xIxA), List.forall_mem_cons.mpr ⟨va_Nc.of (nb nn_xIxS), List.forall_mem_cons.mpr ⟨va_Nc.of (nb nn_xAxI), List.forall_mem_cons.mpr ⟨va_Nc.of (nb nn_xAxS), List.forall_mem_cons.mpr ⟨va_Nc.of (nb nn_xSxI), List.forall_mem_cons.mpr ⟨va_Nc.of (nb nn_xSxA), (fun _ z => nomatch z)⟩⟩⟩⟩⟩⟩
  · exact List.forall_mem_cons.mpr ⟨va_Nw.of rfl (tb tn_RX10), List.forall_mem_cons.mpr ⟨va_Nw.of rfl (tb tn_RX2), List.forall_mem_cons.mpr ⟨va_Nw.of rfl (tb tn_RX11), (fun _ z => nomatch z)⟩⟩⟩
  · exact List.forall_mem_cons.mpr ⟨va_AO.of (tb to_O), List.forall_mem_cons.mpr ⟨va_AO.of (tb to_U), List.forall_mem_cons.mpr ⟨va_AO.of (tb to_D), (fun _ z => nomatch z)⟩⟩⟩
  · exact List.forall_mem_cons.mpr ⟨va_any rfl (tb td_0), List.forall_mem_cons.mpr ⟨va_any rfl (tb td_1), List.forall_mem_cons.mpr ⟨va_any rfl (tb td_2), (fun _ z => nomatch z)⟩⟩⟩
  · exact List.forall_mem_cons.mpr ⟨sr (tb ts_107) (nb ns_107), List.forall_mem_cons.mpr ⟨sr (tb ts_133) (nb ns_133), List.forall_mem_cons.mpr ⟨sr (tb ts_158) (nb ns_158), List.forall_mem_cons.mpr ⟨sr (tb ts_171) (nb ns_171), List.forall_mem_cons.mpr ⟨sr (tb ts_209) (nb ns_209), List.forall_mem_cons.mpr ⟨sr (tb ts_214) (nb ns_214), List.forall_mem_cons.mpr ⟨sr (tb ts_216) (nb ns_216), List.forall_mem_cons.mpr ⟨sr (tb ts_218) (nb ns_218), List.forall_mem_cons.mpr ⟨sr (tb ts_223) (nb ns_223), List.forall_mem_cons.mpr ⟨sr (tb ts_57) (nb ns_57), List.forall_mem_cons.mpr ⟨sr (tb ts_75) (nb ns_75), List.forall_mem_cons.mpr ⟨sr (tb ts_93) (nb ns_93), (fun _ z => nomatch z)⟩⟩⟩⟩⟩⟩⟩⟩⟩⟩⟩⟩
theorem tk_0 : lw_tbl[69]? = some (.instantiable RJx4a65c 3) := by decide +kernel
theorem tk_1 : lw_tbl[306]? = some (.instantiable RX0 5) := by decide +kernel
theorem tk_2 : lw_tbl[1051]? = some (.instantiable RX1 3) := by decide +kernel
theorem tk_3 : lw_tbl[95]? = some (.instantiable RX2 12) := by decide +kernel
theorem tk_4 : lw_tbl[101]? = some (.instantiable RX4 11) := by decide +kernel
theorem tk_5 : lw_tbl[745]? = some (.instantiable RX5 4) := by decide +kernel
theorem tk_6 : lw_tbl[1079]? = some (.instantiable RX7 7) := by decide +kernel
theorem tk_7 : lw_tbl[291]? = some (.instantiable RX8 2) := by decide +kernel
theorem tk_8 : lw_tbl[63]? = some (.instantiable RX10 3) := by decide +kernel
theorem tk_9 : lw_tbl[55]? = some (.instantiable RX11 5) := by decide +kernel
theorem tk_10 : lw_tbl[55]? = some (.instantiable RX11 5) := by decide +kernel
theorem st_Ev {s : State} {b L : Nat} {xs : Nat → Int32} (hL : L ≤ 260) (hts : ∀ w ∈ lw_tbl, w.before #[Value.ref b] s = true) (hgv : (Jvm.Cond.and given_1 narrow_1).before #[Value.ref b] s = true) (hX : va_X b L xs s s.heap) (hbl : b < s.heap.size) : ∃ G : Gl, Ev (gW G (fun q : Nat => s.heap.size ≤ q)) s ∧ gF0 G 0 = b ∧ gL0 G = L := by
  have hV := st_FxV hts hgv
  have hs := flat_of_before _ hgv
  have tb : ∀ {i : Nat} {w : Cond}, lw_tbl[i]? = some w → w.before #[Value.ref b] s = true := fun h => hts _ (List.mem_of_getElem? h)
  have nb : ∀ {i : Nat} {w : Cond}, (flatC (Jvm.Cond.and given_1 narrow_1))[i]? = some w → w.before #[Value.ref b] s = true := fun h => hs _ (List.mem_of_getElem? h)
  have hA : ∀ a : Nat, a < s.heap.size → ¬ (fun q : Nat => s.heap.size ≤ q) a := fun a ha z => absurd z (Nat.not_le.mpr ha)
  obtain ⟨c0, i0, K0⟩ := u_known (C := RJx4a65c) (T := TJx4a65c) (N := 3) (n := 3) hts (fun w hw => (uk_0 w hw).1) (tb tk_0)
  obtain ⟨c1, i1, K1⟩ := u_known (C := RX0) (T := TX0) (N := 5) (n := 5) hts (fun w hw => (uk_1 w hw).1) (tb tk_1)
  obtain ⟨c2, i2, K2⟩ := u_known (C := RX1) (T := TX1) (N := 3) (n := 3) hts (fun w hw => (uk_2 w hw).1) (tb tk_2)
  obtain ⟨c3, i3, K3⟩ := u_known (C := RX2) (T := TX2) (N := 12) (n := 12) hts (fun w hw => (uk_3 w hw).1) (tb tk_3)
  obtain ⟨c4, i4, K4⟩ := u_known (C := RX4) (T := TX4) (N := 11) (n := 11) hts (fun w hw => (uk_4 w hw).1) (tb tk_4)
  obtain ⟨c5, i5, K5⟩ := u_known (C := RX5) (T := TX5) (N := 4) (n := 4) hts (fun w hw => (uk_5 w hw).1) (tb tk_5)
  obtain ⟨c6, i6, K6⟩ := u_known (C := RX7) (T := TX7) (N := 7) (n := 7) hts (fun w hw => (uk_6 w hw).1) (tb tk_6)
  obtain ⟨c7, i7, K7⟩ := u_known (C := RX8) (T := TX8) (N := 2) (n := 2) hts (fun w hw => (uk_7 w hw).1) (tb tk_7)
  obtain ⟨c8, i8, K8⟩ := u_known (C := RX10) (T := TX10) (N := 3) (n := 3) hts (fun w hw => (uk_8 w hw).1) (tb tk_8)
  obtain ⟨c9, i9, K9⟩ := u_known (C := RX11) (T := TX11) (N := 5) (n := 5) hts (fun w hw => (uk_9 w hw).1) (tb tk_9)
  obtain ⟨c10, i10, K10⟩ := u_known (C := RX11) (T := TX11) (N := 5) (n := 5) hts (fun w hw => (uk_10 w hw).1) (tb tk_10)
  obtain ⟨a0, A0, B0⟩ := ar_i (hts _ w_arI.1)
  obtain ⟨a1, A1, B1⟩ := ar_i (hts _ w_arI.1)
  obtain ⟨a2, A2, B2⟩ := ar_i (hts _ w_arI.1)
  obtain ⟨a3, A3, B3⟩ := ar_ob (va_AO.of (tb to_O))
  obtain ⟨a4, A4, B4⟩ := ar_ob (va_AO.of (tb to_U))
  obtain ⟨a5, A5, B5⟩ := ar_ob (va_AO.of (tb to_D))
  obtain ⟨t1, e1, T1⟩ := va_Tof (tm := .static RX6 "LEAST" "[I") (ty := .int) (N := 14) (f := fun j => .int (pLe j)) (A := fun q : Nat => s.heap.size ≤ q) (by decide) (nb na_LEAST) (va_eqt (nb nl_LEAST)) (fun j hj => va_eqt (nb (nar_LEAST j hj))) hA
  obtain ⟨t2, e2, T2⟩ := va_Tof (tm := .static RX6 "GREATEST" "[I") (ty := .int) (N := 14) (f := fun j => .int (pGr j)) (A := fun q : Nat => s.heap.size ≤ q) (by decide) (nb na_GREATEST) (va_eqt (nb nl_GREATEST)) (fun j hj => va_eqt (nb (nar_GREATEST j hj))) hA
  obtain ⟨t3, e3, T3⟩ := va_Tof (tm := .static RX6 "AT_FIRST" "[I") (ty := .int) (N := 14) (f := fun j => .int (pAf j)) (A := fun q : Nat => s.heap.size ≤ q) (by decide) (nb na_AT_FIRST) (va_eqt (nb nl_AT_FIRST)) (fun j hj => va_eqt (nb (nar_AT_FIRST j hj))) hA
  obtain ⟨t4, e4, T4⟩ := va_Tof (tm := .static RJx4a65c "DEFAULTCAPACITY_EMPTY_ELEMENTDATA" "[Ljava/lang/Object;") (ty := .object "java/lang/Object") (N := 0) (f := fun _ => .null) (A := fun q : Nat => s.heap.size ≤ q) (by decide) (nb na_DE) (va_eqt (nb nl_DE)) (fun j hj => absurd hj (Nat.not_lt_zero j)) hA
  obtain ⟨mi, hmi⟩ := va_Mi.of (nb nr_mi)
  have hT0 : va_T .int b L (fun j => .int (xs j)) (fun q : Nat => s.heap.size ≤ q) s s.heap := by
    obtain ⟨scr, h1, h2, h3, h4, h5⟩ := hX
    exact ⟨scr, h1, h2, h3, by omega, by rw [h4] <;> rfl, h5, hA b hbl⟩
  refine ⟨(((fun k => ([c0, c1, c2, c3, c4, c5, c6, c7, c8, c9, c10] : List ClassId).getD k c0, fun k => ([i0, i1, i2, i3, i4, i5, i6, i7, i8, i9, i10] : List (Nat → Nat)).getD k i0) : va_G), fun k => ([a0, a1, a2, a3, a4, a5] : List ClassId).getD k a0, fun k => ([b, t1, t2, t3, t4, mi] : List Nat).getD k 0, L, xs), ⟨⟨fun k q hq => ?_, fun k q hq => ?_⟩, hV, ⟨hT0, ⟨va_Zof (tb tl_LEAST) (tb ti_RX6) e1 hA, T1⟩, ⟨va_Zof (tb tl_GREATEST) (tb ti_RX6) e2 hA, T2⟩, ⟨va_Zof (tb tl_AT_FIRST) (tb ti_RX6) e3 hA, T3⟩, ⟨va_Zof (tb tl_DE) (tb ti_AL) e4 hA, T4⟩, hmi, vx_Zqof (tb tl_US) (tb ti_T) (nb nr_US) hA, vx_Zqof (tb tl_SS) (tb ti_T) (nb nr_SS) hA⟩, Nat.lt_of_le_of_lt hL (Nat.le_of_ble_eq_true rfl)⟩, rfl, rfl⟩
  · match k, hq with
    | 0, hq => cases hq; exact K0
    | 1, hq => cases hq; exact K1
    | 2, hq => cases hq; exact K2
    | 3, hq => cases hq; exact K3
    | 4, hq => cases hq; exact K4
    | 5, hq => cases hq; exact K5
    | 6, hq => cases hq; exact K6
    | 7, hq => cases hq; exact K7
    | 8, hq => cases hq; exact K8
    | 9, hq => cases hq; exact K9
    | 10, hq => cases hq; exact K10
    | k + 11, hq => simp at hq
  · match k, hq with
    | 0, hq => cases hq; exact ⟨A0, B0⟩
    | 1, hq => cases hq; exact ⟨A1, B1⟩
    | 2, hq => cases hq; exact ⟨A2, B2⟩
    | 3, hq => cases hq; exact ⟨A3, B3⟩
    | 4, hq => cases hq; exact ⟨A4, B4⟩
    | 5, hq => cases hq; exact ⟨A5, B5⟩
    | k + 6, hq => simp [aty] at hq
