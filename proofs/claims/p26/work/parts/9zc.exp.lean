/-! ===== the class at rest: what the calls want of it ===== -/
theorem nd_inj {f : Nat → Nat} : ∀ {l : List Nat}, (l.map f).Nodup → ∀ x y, x ∈ l → y ∈ l → f x = f y → x = y
  | [], _, x, _, hx, _, _ => by cases hx
  | a :: l, h, x, y, hx, hy, e => by
    rw [List.map_cons] at h
    obtain ⟨h1, h2⟩ := List.nodup_cons.mp h
    rcases List.mem_cons.mp hx with p | p
    · rcases List.mem_cons.mp hy with q | q
      · rw [p, q]
      · exact absurd (List.mem_map.mpr ⟨y, q, by rw [← e, p]⟩) h1
    · rcases List.mem_cons.mp hy with q | q
      · exact absurd (List.mem_map.mpr ⟨x, p, by rw [e, q]⟩) h1
      · exact nd_inj h2 x y p q e
theorem nd_app {l1 l2 : List Nat} (h : (l1 ++ l2).Nodup) : l1.Nodup ∧ l2.Nodup ∧ ∀ x, x ∈ l1 → ∀ y, y ∈ l2 → x ≠ y := by
  rw [List.nodup_append] at h
  exact h
theorem lk_d {A : Nat → Nat} {m : Nat} {h : Hp} {El : List Nat} (H : ELS A m h El) : (∀ x y, x ∈ El → y ∈ El → frs h x = frs h y → x = y) ∧ (∀ x y, x ∈ El → y ∈ El → kpt h x = kpt h y → x = y) ∧ ∀ x y, x ∈ El → y ∈ El → frs h x ≠ kpt h y := by
  obtain ⟨a, b, c⟩ := nd_app H.2.2.1
  exact ⟨nd_inj a, nd_inj b, fun x y hx hy => c _ (List.mem_map.mpr ⟨x, hx, rfl⟩) _ (List.mem_map.mpr ⟨y, hy, rfl⟩)⟩
theorem fr_lk {h : Hp} {El : List Nat} {x : Nat} (hx : x ∈ El) : frs h x ∈ lks h El := List.mem_append_left _ (List.mem_map.mpr ⟨x, hx, rfl⟩)
theorem kp_lk {h : Hp} {El : List Nat} {x : Nat} (hx : x ∈ El) : kpt h x ∈ lks h El := List.mem_append_right _ (List.mem_map.mpr ⟨x, hx, rfl⟩)
theorem ar_d {A : Nat → Nat} {m : Nat} {h : Hp} {El : List Nat} (H : ELS A m h El) : A 5 ≠ A 6 ∧ (∀ x y, x ∈ lks h El → y ∈ lks h El → vls h x = vls h y → x = y) ∧ (∀ x y, x ∈ lks h El → y ∈ lks h El → scs h x = scs h y → x = y) ∧ (∀ x y, x ∈ lks h El → y ∈ lks h El → vls h x ≠ scs h y) ∧ ∀ x, x ∈ lks h El → vls h x ≠ A 5 ∧ scs h x ≠ A 5 ∧ vls h x ≠ A 6 ∧ scs h x ≠ A 6 := by
  obtain ⟨h1, h2⟩ := List.nodup_cons.mp H.2.2.2.1
  obtain ⟨h3, h4⟩ := List.nodup_cons.mp h2
  obtain ⟨a, b, c⟩ := nd_app h4
  refine ⟨fun z => h1 (z ▸ List.mem_cons_self), nd_inj a, nd_inj b, fun x y hx hy => c _ (List.mem_map.mpr ⟨x, hx, rfl⟩) _ (List.mem_map.mpr ⟨y, hy, rfl⟩), fun x hx => ?_⟩
  have v : vls h x ∈ (lks h El).map (vls h) ++ (lks h El).map (scs h) := List.mem_append_left _ (List.mem_map.mpr ⟨x, hx, rfl⟩)
  have s : scs h x ∈ (lks h El).map (vls h) ++ (lks h El).map (scs h) := List.mem_append_right _ (List.mem_map.mpr ⟨x, hx, rfl⟩)
  exact ⟨fun z => h1 (z ▸ List.mem_cons_of_mem _ v), fun z => h1 (z ▸ List.mem_cons_of_mem _ s), fun z => h3 (z ▸ v), fun z => h3 (z ▸ s)⟩
theorem Ee_m {n e : Nat} {Ee : Nat → Nat} {is : List Nat} (he : e < n) : Ee e ∈ (List.range n).map Ee ++ is := List.mem_append_left _ (List.mem_map.mpr ⟨e, List.mem_range.mpr he, rfl⟩)
theorem nx_lt {S : MM} {n e c : Nat} (h : nxS S n e = some c) : c < n := by
  unfold nxS at h
  cases hp : par S e with
  | none => rw [hp] at h; cases h
  | some p =>
    rw [hp] at h
    have := List.mem_range'_1.mp (List.mem_of_find?_eq_some h)
    omega
theorem hd_lt {S : MM} {n e c : Nat} (h : (chl S n e).head? = some c) : c < n := (chl_m.mp (List.mem_of_head? h)).1
theorem gl_lt {S : MM} {n e c : Nat} (h : (chl S n e).getLast? = some c) : c < n := (chl_m.mp (List.mem_of_getLast? h)).1
theorem ex_ZW {A D : Nat → Nat} {m : Nat} {h : Hp} {S : MM} {n R : Nat} {Ee : Nat → Nat} {is ss : List Nat} {ra : Nat → Nat} {pa : Nat → Nat → Nat} {Dd Pl dP : Nat → Nat} (T : TLD A D m h S n R Ee is ss ra pa Dd Pl dP) (hS : TS S n) : ZW (wO S n h Ee) h := by
  obtain ⟨_, _, _, hE, ⟨hi, hT⟩, _⟩ := T
  obtain ⟨l1, l2, l3⟩ := lk_d hE
  obtain ⟨r0, r1, r2, r3, r4⟩ := ar_d hE
  refine ⟨fun e he => ?_, fun e he e' he' z => ?_, fun e he e' he' z => ?_, fun e he e' he' z => ?_, fun e he e' he' => ?_, fun f e he h1 h2 => ?_, fun f e he h1 h2 => ?_⟩
  · obtain ⟨a, b, c, _, _⟩ := hE.2.1 _ (Ee_m (is := is) he)
    exact ⟨a, b, c⟩
  · exact hi e he e' he' (l1 _ _ (Ee_m he) (Ee_m he') z)
  · exact hi e he e' he' (l1 _ _ (Ee_m he) (Ee_m he') (r1 _ _ (fr_lk (Ee_m he)) (fr_lk (Ee_m he')) z))
  · exact hi e he e' he' (l1 _ _ (Ee_m he) (Ee_m he') (r2 _ _ (fr_lk (Ee_m he)) (fr_lk (Ee_m he')) z))
  · exact r3 _ _ (fr_lk (Ee_m he)) (fr_lk (Ee_m he'))
  · have he : e < n := he
    obtain ⟨_, t1, t2, t3, t4, t5⟩ := hT e he
    have : f = 197 ∨ f = 198 ∨ f = 199 ∨ f = 200 ∨ f = 201 := by omega
    rcases this with z | z | z | z | z
    · subst z
      exact ⟨t1, fun c hc => ((par_S hS he).2 c hc).2⟩
    · subst z
      exact ⟨t2, fun c hc => Nat.lt_trans (ahS_lt hc) he⟩
    · subst z
      exact ⟨t3, fun c hc => nx_lt hc⟩
    · subst z
      exact ⟨t4, fun c hc => hd_lt hc⟩
    · subst z
      exact ⟨t5, fun c hc => gl_lt hc⟩
  · have he : e < n := he
    obtain ⟨⟨t1, t2, t3, t4, t5⟩, _⟩ := hT e he
    have : f = 192 ∨ f = 193 ∨ f = 194 ∨ f = 195 ∨ f = 196 := by omega
    rcases this with z | z | z | z | z
    · subst z
      exact t1
    · subst z
      exact t2
    · subst z
      exact t3
    · subst z
      exact t4
    · subst z
      exact t5
/-- the elements above, and the parts, by address -/
def upO (S : MM) (e : Nat) : List Nat := (ach S 25 e).tail
def uO (S : MM) (n : Nat) (Ee : Nat → Nat) (x : Nat) : List Nat := match fi n Ee x with
  | some e => (upO S e).map Ee
  | none => []
def pO (S : MM) (R : Nat) (ra : Nat → Nat) (pa : Nat → Nat → Nat) (x : Nat) : List Nat := match fi R ra x with
  | some r => (List.range (tn (S 11 r))).map (pa r)
  | none => []
def dO (h : Hp) (x : Nat) : Nat := (hR h fU_declarations x).getD 0
theorem uO_e {S : MM} {n e : Nat} {Ee : Nat → Nat} (hi : inj n Ee) (he : e < n) : uO S n Ee (Ee e) = (upO S e).map Ee := by
  unfold uO
  rw [fi_at hi he]
theorem pO_r {S : MM} {R r : Nat} {ra : Nat → Nat} {pa : Nat → Nat → Nat} (hi : inj R ra) (hr : r < R) : pO S R ra pa (ra r) = (List.range (tn (S 11 r))).map (pa r) := by
  unfold pO
  rw [fi_at hi hr]
theorem ach_lt {S : MM} {n : Nat} (h : TS S n) : ∀ f e, e < n → ∀ x, x ∈ ach S f e → x < n
  | 0, _, _, x, hx => by cases hx
  | f + 1, e, he, x, hx => by
    unfold ach at hx
    rcases List.mem_cons.mp hx with q | q
    · rw [q]
      exact he
    · cases hp : par S e with
      | none => rw [hp] at q; cases q
      | some p =>
        rw [hp] at q
        exact ach_lt h f p ((par_S h he).2 p hp).2 x q
theorem up_lt {S : MM} {n e x : Nat} (h : TS S n) (he : e < n) (hx : x ∈ upO S e) : x < n := ach_lt h 25 e he x (List.mem_of_mem_tail hx)
theorem LN_up {S : MM} {n : Nat} {h : Hp} {Ee : Nat → Nat} (hS : TS S n) (h3 : ∀ e, e < n → hK h (Ee e) = 3 ∧ 6 ≤ Ee e ∧ hR h fE_parent (Ee e) = (par S e).map Ee) : ∀ e, e < n → ∀ f, e < f → LN fE_parent h ((par S e).map Ee) ((ach S f e).tail.map Ee) := by
  intro e
  induction e using Nat.strongRecOn with
  | ind e ih =>
    intro he f hf
    obtain ⟨f, rfl⟩ : ∃ z, f = z + 1 := ⟨f - 1, by omega⟩
    unfold ach
    rw [List.tail_cons]
    cases hp : par S e with
    | none => exact rfl
    | some q =>
      obtain ⟨q1, q2⟩ := (par_S hS he).2 q hp
      obtain ⟨f, rfl⟩ : ∃ z, f = z + 1 := ⟨f - 1, by omega⟩
      have := ih q q1 q2 (f + 1) (by omega)
      unfold ach at this ⊢
      rw [List.tail_cons] at this
      refine ⟨rfl, (h3 q q2).1, (h3 q q2).2.1, ?_⟩
      rw [(h3 q q2).2.2]
      exact this
theorem ex_TW {A D : Nat → Nat} {m : Nat} {h : Hp} {S : MM} {n R : Nat} {Ee : Nat → Nat} {is ss : List Nat} {ra : Nat → Nat} {pa : Nat → Nat → Nat} {Dd Pl dP : Nat → Nat} (T : TLD A D m h S n R Ee is ss ra pa Dd Pl dP) (hS : TS S n) : TW h ((List.range n).map Ee) (uO S n Ee) := by
  obtain ⟨hg, _, _, hE, ⟨hi, hT⟩, _⟩ := T
  intro x hx
  obtain ⟨e, he, rfl⟩ := List.mem_map.mp hx
  have he := List.mem_range.mp he
  have k6 : ∀ e, e < n → 6 ≤ Ee e := fun e he => (kind_in hg (hE.2.1 _ (Ee_m (is := is) he)).1 (by decide)).1
  refine ⟨hE.2.1 _ (Ee_m (is := is) he), k6 e he, ?_, fun a ha => ?_, fun a ha => ?_⟩
  · rw [(hT e he).2.1, uO_e hi he]
    exact LN_up hS (fun e he => ⟨(hE.2.1 _ (Ee_m (is := is) he)).1, k6 e he, (hT e he).2.1⟩) e he 25 (by have := hS.2.2.1; omega)
  · rw [uO_e hi he] at ha
    obtain ⟨q, hq, rfl⟩ := List.mem_map.mp ha
    exact List.mem_map.mpr ⟨q, List.mem_range.mpr (up_lt hS he hq), rfl⟩
  · rw [(hT e he).2.2.1] at ha
    cases hq : ahS S e e with
    | none => rw [hq] at ha; cases ha
    | some q =>
      rw [hq] at ha
      cases ha
      exact List.mem_map.mpr ⟨q, List.mem_range.mpr (Nat.lt_trans (ahS_lt hq) he), rfl⟩
