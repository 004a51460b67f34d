/-! ===== a rule takes its place by strength ===== -/
/-- what a heap says of the strength of rules is what is told -/
theorem sTr_s {T : MM} {h : Hp} {ra : Nat → Nat} {a r : Nat} (ha31 : a < 2 ^ 31) (hr31 : r < 2 ^ 31) (ga : hI h fU_group (ra a) = gS T a ∧ hI h fU_weightInAll (ra a) = wS T a ∧ hI h fU_number (ra a) = nI a) (gr : hI h fU_group (ra r) = gS T r ∧ hI h fU_weightInAll (ra r) = wS T r ∧ hI h fU_number (ra r) = nI r) : sTr h (ra a) (ra r) ↔ stB T a r = true := by
  unfold sTr
  rw [ga.1, ga.2.1, ga.2.2, gr.1, gr.2.1, gr.2.2, stB_iff]
  by_cases q : gS T a = gS T r
  · rw [if_pos q]
    by_cases w : wS T a = wS T r
    · rw [if_pos w, nI_ltI hr31 ha31, q, w]
      constructor
      · intro z
        exact Or.inr ⟨rfl, Or.inr ⟨rfl, z⟩⟩
      · rintro (z | ⟨_, z | ⟨_, z⟩⟩)
        · omega
        · omega
        · exact z
    · rw [if_neg w, q, i_lt]
      have : ¬ (wS T r).toInt = (wS T a).toInt := fun y => w (Int32.toInt_inj.mp y.symm)
      constructor
      · intro z
        exact Or.inr ⟨rfl, Or.inl z⟩
      · rintro (z | ⟨_, z | ⟨y, _⟩⟩)
        · omega
        · exact z
        · exact absurd y this
  · rw [if_neg q, i_lt]
    have : ¬ (gS T r).toInt = (gS T a).toInt := fun y => q (Int32.toInt_inj.mp y.symm)
    constructor
    · intro z
      exact Or.inl z
    · rintro (z | ⟨y, _⟩)
      · exact z
      · exact absurd y this
/-- put in at its place, the row is sorted again -/
theorem ins_s {T : MM} {R r i : Nat} {xs : List Nat} (hx : ∀ a, a ∈ xs ↔ a < R ∧ a ≠ r) (hr : r < R) (hs : xs.Pairwise (fun a b => stB T a b = true)) (hi : i ≤ xs.length) (h1 : ∀ j a, j < i → xs[j]? = some a → stB T a r = true) (h2 : ∀ a, xs[i]? = some a → ¬ stB T a r = true) :
    (∀ a, a ∈ xs.take i ++ r :: xs.drop i ↔ a < R) ∧ (xs.take i ++ r :: xs.drop i).Pairwise (fun a b => stB T a b = true) ∧ (xs.take i ++ r :: xs.drop i).length = xs.length + 1 := by
  have hsplit : ∀ a, a ∈ xs ↔ a ∈ xs.take i ∨ a ∈ xs.drop i := fun a => by
    conv => lhs; rw [← List.take_append_drop i xs]
    exact List.mem_append
  have hs2 : (xs.take i ++ xs.drop i).Pairwise (fun a b => stB T a b = true) := by rw [List.take_append_drop]; exact hs
  obtain ⟨p1, p2, p3⟩ := List.pairwise_append.mp hs2
  have before : ∀ a, a ∈ xs.take i → stB T a r = true := fun a ha => by
    obtain ⟨j, hj⟩ := List.mem_iff_getElem?.mp ha
    have hji : j < i := by
      rcases Nat.lt_or_ge j i with q | q
      · exact q
      · rw [List.getElem?_eq_none (by rw [List.length_take]; omega)] at hj
        cases hj
    rw [List.getElem?_take_of_lt hji] at hj
    exact h1 j a hji hj
  have after : ∀ a, a ∈ xs.drop i → stB T r a = true := fun a ha => by
    have hlt : i < xs.length := by
      rcases Nat.lt_or_ge i xs.length with q | q
      · exact q
      · rw [List.drop_eq_nil_of_le q] at ha
        cases ha
    have hd : xs.drop i = xs[i] :: xs.drop (i + 1) := List.drop_eq_getElem_cons hlt
    have m0 : xs[i] ∈ xs := List.getElem_mem hlt
    have s0 : stB T r xs[i] = true := stB_tot (h2 xs[i] (List.getElem?_eq_getElem hlt)) ((hx _).mp m0).2
    rw [hd] at ha p2
    rcases List.mem_cons.mp ha with q | q
    · rw [q]
      exact s0
    · exact stB_tr s0 ((List.pairwise_cons.mp p2).1 a q)
  refine ⟨fun a => ?_, ?_, ?_⟩
  · rw [List.mem_append, List.mem_cons]
    constructor
    · rintro (q | q | q)
      · exact ((hx a).mp ((hsplit a).mpr (Or.inl q))).1
      · rw [q]; exact hr
      · exact ((hx a).mp ((hsplit a).mpr (Or.inr q))).1
    · intro q
      by_cases z : a = r
      · exact Or.inr (Or.inl z)
      · rcases (hsplit a).mp ((hx a).mpr ⟨q, z⟩) with y | y
        · exact Or.inl y
        · exact Or.inr (Or.inr y)
  · refine List.pairwise_append.mpr ⟨p1, List.pairwise_cons.mpr ⟨after, p2⟩, fun a ha b hb => ?_⟩
    rcases List.mem_cons.mp hb with q | q
    · rw [q]
      exact before a ha
    · exact p3 a ha b q
  · rw [List.length_append, List.length_cons, List.length_take, List.length_drop]
    omega
/-- the weights, but for the parts of one rule -/
theorem wtS_p {S T : MM} {r : Nat} : ∀ k, (∀ j, j < k → T 13 (3 * r + j) = S 13 (3 * r + j) ∧ T 14 (3 * r + j) = S 14 (3 * r + j) ∧ T 15 (3 * r + j) = S 15 (3 * r + j)) → wtS T r k = wtS S r k
  | 0, _ => rfl
  | k + 1, h => by
    show wtS T r k + ptW T (3 * r + k) = wtS S r k + ptW S (3 * r + k)
    obtain ⟨a, b, c⟩ := h k (by omega)
    unfold ptW
    rw [wtS_p k (fun j hj => h j (by omega)), a, b, c]
theorem wei_p {S : MM} {h : Hp} {q i : Nat} (h1 : hI h fP_tag q = S 13 i) (h2 : hI h fP_has q = S 14 i) (h3 : hI h fP_lacks q = S 15 i) : wei h q = ptW S i := by
  unfold wei ptW
  rw [h1, h2, h3]
