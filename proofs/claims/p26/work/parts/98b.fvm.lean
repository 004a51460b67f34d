/-! ===== the model's functions: findsValues ===== -/
theorem n4 {k : Nat} (h : k < 4) : ¬ (4 : Int32) ≤ nI k := nI_ge (b := 4) h (by decide)
theorem n10 {k : Nat} (h : k < 10) : ¬ (10 : Int32) ≤ nI k := nI_ge (b := 10) h (by decide)
theorem n14 {k : Nat} (h : k < 14) : ¬ (14 : Int32) ≤ nI k := nI_ge (b := 14) h (by decide)
theorem cl_mem {S : MM} {p r : Nat} : ∀ {xs : List Nat} {g : Int32}, cl S p xs g = some r → r ∈ xs ∧ S 20 (14 * r + p) ≠ 0
  | [], g, h => by cases h
  | x :: xs, g, h => by
    unfold cl at h
    by_cases a : S 20 (14 * x + p) = 0 ∨ gS S x = g
    · rw [if_pos a] at h
      exact ⟨List.mem_cons_of_mem _ (cl_mem h).1, (cl_mem h).2⟩
    · rw [if_neg a] at h
      by_cases b : S 20 (14 * x + p) = 2 ∧ S 21 (14 * x + p) = 3
      · rw [if_pos b] at h
        exact ⟨List.mem_cons_of_mem _ (cl_mem h).1, (cl_mem h).2⟩
      · rw [if_neg b] at h
        cases h
        exact ⟨List.mem_cons_self, fun z => a (Or.inl z)⟩
theorem needs_s {S : MM} {R u : Nat} {T : Nat → Option Nat} (hR : R ≤ 16) (hu : u < 4) (hT : ∀ v, v < 4 → S 37 v = eo (T (10 + v))) (ht : ∀ v r, v < 4 → T (10 + v) = some r → r < R) (hD : TDo S R) :
    m_needs S (nI u) = some (eo (ndS S T u)) ∧ ∀ w, ndS S T u = some w → w < 4 := by
  unfold m_needs ndS
  rw [if_pos (ix_nI hu (by omega)), tn_nI (by omega), hT u hu, bnd_s]
  cases h : T (10 + u) with
  | none => exact ⟨rfl, fun w z => nomatch z⟩
  | some r =>
    have hr := ht u r hu h
    have hi : 14 * r + (10 + u) < 224 := by omega
    have eI : (14 : Int32) * nI r + 10 + nI u = nI (14 * r + (10 + u)) := by rw [nx14, np10, nI_add, Nat.add_assoc]
    show bnd (if nI r = -1 then (0 : Int32) else nI r) (fun p9 => bnd ((14 : Int32) * p9 + 10 + nI u) fun p10 => if (¬ (nI r = -1) → ix p10 224) then some (if nI r = -1 then (-1 : Int32) else if S 20 (tn p10) = 3 then S 21 (tn p10) else -1) else none) = some (eo (if S 20 (14 * r + (10 + u)) = 3 then some (tn (S 21 (14 * r + (10 + u)))) else none)) ∧ ∀ w, (if S 20 (14 * r + (10 + u)) = 3 then some (tn (S 21 (14 * r + (10 + u)))) else none) = some w → w < 4
    rw [if_neg (nI_ne1 (by omega)), bnd_s, bnd_s, eI, if_pos (fun _ => ix_nI hi (by omega)), if_neg (nI_ne1 (by omega)), tn_nI (by omega)]
    by_cases q : S 20 (14 * r + (10 + u)) = 3
    · rw [if_pos q, if_pos q]
      rcases hD r (10 + u) hr (by omega) with z | ⟨z, -⟩ | ⟨z, -⟩ | ⟨-, x, x1, x2, -⟩
      · rw [q] at z; exact absurd z (by decide)
      · rw [q] at z; exact absurd z (by decide)
      · rw [q] at z; exact absurd z (by decide)
      · rw [x2, tn_nI (by omega)]
        exact ⟨rfl, fun w z => by cases z; exact x1⟩
    · rw [if_neg q, if_neg q]
      exact ⟨rfl, fun w z => nomatch z⟩
theorem fv75 {S : MM} {R v : Nat} {T : Nat → Option Nat} {K : Int32 → Option MM} (hR : R ≤ 16) (hv : v < 4) (hT : ∀ v, v < 4 → S 37 v = eo (T (10 + v))) (ht : ∀ v r, v < 4 → T (10 + v) = some r → r < R) (hD : TDo S R) :
    ∀ (m k : Nat), k + m = 4 → ∀ fu, m + 1 ≤ fu → ∀ o : Option Nat, (∀ u, o = some u → u < 4) → m_findsValues_75 K S (nI v) fu (eo o) (nI k) = K (eo (wk (ndS S T) v m o)) := by
  intro m
  induction m with
  | zero =>
    intro k hk fu hf o ho
    obtain ⟨fu, rfl⟩ : ∃ z, fu = z + 1 := ⟨fu - 1, by omega⟩
    have : k = 4 := by omega
    subst this
    rw [m_findsValues_75, if_pos (by decide)]
    rfl
  | succ m ih =>
    intro k hk fu hf o ho
    obtain ⟨fu, rfl⟩ : ∃ z, fu = z + 1 := ⟨fu - 1, by omega⟩
    rw [m_findsValues_75, if_neg (n4 (by omega))]
    cases o with
    | none => rfl
    | some u =>
      have hu := ho u rfl
      show (if nI u = -1 then _ else if nI u = nI v then K (nI u) else _) = K (eo (if u = v then some u else wk (ndS S T) v m (ndS S T u)))
      rw [if_neg (nI_ne1 (by omega))]
      by_cases q : u = v
      · rw [if_pos q, if_pos (by rw [q])]
        rfl
      · obtain ⟨n1, n2⟩ := needs_s hR hu hT ht hD
        rw [if_neg q, if_neg (fun z => q ((nI_eq (by omega) (by omega)).mp z)), show eo (some u) = nI u from rfl, n1, bd_s, nI_1]
        exact ih (k + 1) (by omega) fu (by omega) _ n2
/-- the variables of m are found -/
def VI (S Y : MM) (e m : Nat) (S' : MM) : Prop := (∀ v, v < 4 → m.testBit v = true → S' 23 (14 * e + (10 + v)) = Y e (10 + v) ∧ S' 24 (14 * e + (10 + v)) = Y e (24 + v)) ∧
  (∀ j, (∀ v, v < 4 → j ≠ 14 * e + (10 + v)) → S' 23 j = S 23 j ∧ S' 24 j = S 24 j) ∧ ∀ k, k ≠ 23 → k ≠ 24 → S' k = S k
theorem VI_s {S Y : MM} {e m v : Nat} {S1 S2 : MM} (hm : m < 16) (hv : v < 4) (h : VI S Y e m S1) (w : Wr S1 S2 (14 * e + (10 + v)) (Y e (10 + v), Y e (24 + v))) : VI S Y e (m ||| 2 ^ v) S2 := by
  obtain ⟨h1, h2, h3⟩ := h
  obtain ⟨w1, w2, w3⟩ := w
  refine ⟨fun u hu hb => ?_, fun j hj => ?_, fun k a b => (w3 k a b).trans (h3 k a b)⟩
  · rw [w1, w2]
    by_cases q : u = v
    · rw [q, if_pos rfl, if_pos rfl]
      exact ⟨rfl, rfl⟩
    · rw [if_neg (by omega), if_neg (by omega)]
      exact h1 u hu (((fb3 m hm v hv u hu).mp hb).resolve_right q)
  · rw [w1, w2, if_neg (hj v hv), if_neg (hj v hv)]
    exact h2 j hj
theorem VI_TG {S Y : MM} {e m : Nat} {S' : MM} (h : VI S Y e m S') : TG S S' := fun k _ b => h.2.2 k (by omega) (by omega)
theorem wk_lt {f : Nat → Option Nat} {v : Nat} (hb : ∀ a u, a < 4 → f a = some u → u < 4) : ∀ (n : Nat) (o : Option Nat), (∀ u, o = some u → u < 4) → ∀ u, wk f v n o = some u → u < 4
  | 0, o, ho, u, hu => ho u hu
  | n + 1, none, _, u, hu => by cases hu
  | n + 1, some w, ho, u, hu => by
    have hu' : (if w = v then some w else wk f v n (f w)) = some u := hu
    by_cases q : w = v
    · rw [if_pos q] at hu'
      cases hu'
      exact ho w rfl
    · rw [if_neg q] at hu'
      exact wk_lt hb n (f w) (fun x hx => hb w x (ho w rfl) hx) u hu'
theorem ring_c {f : Nat → Option Nat} {k : Nat} (hk : k < 4) (hb : ∀ a u, a < 4 → f a = some u → u < 4) (h54 : rgA f k 5 k = rgA f k 4 k) : eo (wk f k 4 (f k)) = nI k ↔ rgA f k 4 k = true := by
  have w2 : eo (wk f k 4 (f k)) = nI k ↔ wk f k 4 (f k) = some k := by
    constructor
    · intro z
      cases hw : wk f k 4 (f k) with
      | none =>
        rw [hw] at z
        exact absurd z.symm (nI_ne1 (by omega))
      | some u =>
        have hu : u < 4 := wk_lt hb 4 (f k) (fun x hx => hb k x hk hx) u hw
        rw [hw] at z
        rw [(nI_eq (a := u) (b := k) (by omega) (by omega)).mp z]
    · intro z
      rw [z]
      rfl
  rw [w2, wk_rg, ← h54]
  constructor
  · rintro ⟨u, z, y⟩
    unfold rgA
    rw [z]
    show (if u = k then true else rgA f k 4 u) = true
    rcases y with y | y
    · rw [if_pos y]
    · by_cases q : u = k
      · rw [if_pos q]
      · rw [if_neg q]; exact y
  · intro z
    unfold rgA at z
    cases hf : f k with
    | none => rw [hf] at z; cases z
    | some u =>
      rw [hf] at z
      have z' : (if u = k then true else rgA f k 4 u) = true := z
      refine ⟨u, rfl, ?_⟩
      by_cases q : u = k
      · exact Or.inl q
      · rw [if_neg q] at z'
        exact Or.inr z'
theorem tb0 : ∀ v, v < 4 → ¬ (0 : Nat).testBit v = true := by decide
theorem fv60 {S Y : MM} {n R e : Nat} {T : Nat → Option Nat} (h : TS S n) (he : e < n) (hR : R ≤ 16) (hT : ∀ v, v < 4 → S 37 v = eo (T (10 + v))) (ht : ∀ v r, v < 4 → T (10 + v) = some r → r < R) (hD : TDo S R)
    (hY : ∀ v, v < 4 → rgA (ndS S T) v 4 v = true → Y e (10 + v) = -1 ∧ Y e (24 + v) = -1) :
    ∃ S' : MM, VI S Y e (r4 (stR (ndS S T)) 0) S' ∧ ∀ K, m_findsValues_60 K (nI e) 1000 0 0 S = K (nI (r4 (stR (ndS S T)) 0)) S' := by
  have h24 := h.2.2.1
  have hb : ∀ a u, a < 4 → ndS S T a = some u → u < 4 := fun a u ha => (needs_s hR ha hT ht hD).2 u
  obtain ⟨h54, -, -⟩ := dc_f hb
  obtain ⟨s, ⟨m, m1, m2, m3, m4⟩, e1⟩ := lp_0 (σ := Int32 × MM) (L := fun K fu k s => m_findsValues_60 (fun a S => K (a, S)) (nI e) fu s.1 (nI k) s.2) (n := 4)
    (Inv := fun k s => ∃ m, m < 16 ∧ s.1 = nI m ∧ m = (List.range k).foldl (stR (ndS S T)) 0 ∧ VI S Y e m s.2)
    (fun K fu s _ => by
      show m_findsValues_60 (fun a S => K (a, S)) (nI e) (fu + 1) s.1 (nI 4) s.2 = K s
      rw [m_findsValues_60, if_pos (by decide)])
    (fun fu k s hk hi => by
      obtain ⟨x, S1⟩ := s
      obtain ⟨m, m1, m2, m3, m4⟩ : ∃ m, m < 16 ∧ x = nI m ∧ m = (List.range k).foldl (stR (ndS S T)) 0 ∧ VI S Y e m S1 := hi
      subst m2
      have g := VI_TG m4
      have T37 : ∀ v, v < 4 → S1 37 v = eo (T (10 + v)) := fun v hv => by rw [m4.2.2 37 (by decide) (by decide)]; exact hT v hv
      have eN : ndS S1 T = ndS S T := ndS_c g T
      obtain ⟨n1, n2⟩ := needs_s hR hk T37 ht (TDo_c g hD)
      rw [eN] at n1 n2
      have e75 : ∀ K, m_findsValues_75 K S1 (nI k) 1000 (eo (ndS S T k)) 0 = K (eo (wk (ndS S T) k 4 (ndS S T k))) := fun K => by
        have := fv75 (K := K) hR hk T37 ht (TDo_c g hD) 4 0 rfl 1000 (by decide) (ndS S T k) n2
        rw [eN, nI_0] at this
        exact this
      have hc := ring_c hk hb (h54 k hk)
      have hi : 14 * e + (10 + k) < 336 := by omega
      have eI : (14 : Int32) * nI e + 10 + nI k = nI (14 * e + (10 + k)) := by rw [nx14, np10, nI_add, Nat.add_assoc]
      have e0 : ∀ K : Int32 × MM → Option MM, m_findsValues_60 (fun a S => K (a, S)) (nI e) (fu + 1) (nI m) (nI k) S1 = if rgA (ndS S T) k 4 k = true then m_findsValues_60 (fun a S => K (a, S)) (nI e) fu (nI (m ||| 2 ^ k)) (nI (k + 1)) (u2 (u2 S1 23 (14 * e + (10 + k)) (-1)) 24 (14 * e + (10 + k)) (-1)) else m_findsValues_60 (fun a S => K (a, S)) (nI e) fu (nI m) (nI (k + 1)) S1 := fun K => by
        rw [m_findsValues_60, if_neg (n4 (by omega)), n1, bd_s, e75]
        by_cases q : rgA (ndS S T) k 4 k = true
        · rw [if_pos q, if_pos (hc.mpr q), eI, if_pos (ix_nI hi (by omega)), tn_nI (by omega), bnd_s, bnd_s, bnd_s, (fb2 m m1 k hk).1, nI_1]
        · rw [if_neg q, if_neg (fun z => q (hc.mp z)), nI_1]
      have eR : (List.range (k + 1)).foldl (stR (ndS S T)) 0 = stR (ndS S T) m k := by
        rw [List.range_succ, List.foldl_append, ← m3]
        rfl
      by_cases q : rgA (ndS S T) k 4 k = true
      · obtain ⟨y1, y2⟩ := hY k hk q
        refine ⟨(nI (m ||| 2 ^ k), u2 (u2 S1 23 (14 * e + (10 + k)) (-1)) 24 (14 * e + (10 + k)) (-1)), ⟨m ||| 2 ^ k, (fb2 m m1 k hk).2, rfl, ?_, ?_⟩, fun K => (e0 K).trans (if_pos q)⟩
        · rw [eR]
          unfold stR
          rw [if_pos q]
        · refine VI_s m1 hk m4 ?_
          rw [y1, y2]
          exact Wr_u _ _ _ _
      · refine ⟨(nI m, S1), ⟨m, m1, rfl, ?_, m4⟩, fun K => (e0 K).trans (if_neg q)⟩
        rw [eR]
        unfold stR
        rw [if_neg q])
    (fu := 1000) (s := (0, S)) (by decide) ⟨0, by decide, rfl, rfl, fun v hv z => absurd z (tb0 v hv), fun _ _ => ⟨rfl, rfl⟩, fun _ _ _ => rfl⟩
  obtain ⟨x, S'⟩ := s
  have m2' : x = nI (r4 (stR (ndS S T)) 0) := by rw [show x = nI m from m2, m3]; rfl
  rw [m3] at m4
  subst m2'
  refine ⟨S', m4, fun K => ?_⟩
  have := e1 (fun s => K s.1 s.2)
  rw [nI_0] at this
  exact this
