/-! ===== what is told, as one table of what the law's rows hold ===== -/
def rt (G : Gl) (r : Nat) : Int32 := if drw G (10 + r) % 3 = 0 then nI (drw G (10 + r) / 3 % 6) else -1
def rb (G : Gl) (r : Nat) : Int32 := if drw G (10 + r) / 864 % 3 = 0 then 1 else 0
def CT (G : Gl) (n R : Nat) (w : Int32) (cl wo ho aq d0 d1 d2 : Nat → Int32) : MM := fun k j =>
  if k = 1 then (if j = 0 then w else 0) else
  if k = 2 then (if j = 0 then nI n else 0) else
  if k = 3 then (if j = 0 then nI n else 0) else
  if k = 4 then (if j < n then nI j else 0) else
  if k = 5 then (if j = 0 then -1 else if j < n then nI (drw G j % j) else 0) else
  if k = 6 then (if j = 0 then 0 else if j < n then nI (drw G j / 9 % 6) else 0) else
  if k = 7 then cl j else
  if k = 8 then wo j else
  if k = 9 then ho j else
  if k = 10 then (if j = 0 then nI R else 0) else
  if k = 11 then (if j < R then 1 else 0) else
  if k = 12 then (if j % 3 = 0 ∧ j / 3 < R then -1 else 0) else
  if k = 13 then (if j % 3 = 0 ∧ j / 3 < R then rt G (j / 3) else 0) else
  if k = 14 then (if j % 3 = 0 ∧ j / 3 < R then nI (drw G (10 + j / 3) / 18 % 4) else 0) else
  if k = 15 then (if j % 3 = 0 ∧ j / 3 < R then nI (drw G (10 + j / 3) / 72 % 2 * 8) else 0) else
  if k = 16 then (if j < R then nI (drw G (10 + j) / 144 % 2) else 0) else
  if k = 17 then (if j < R then nI (drw G (10 + j) / 288 % 3) else 0) else
  if k = 18 then (if j < R then rb G j else 0) else
  if k = 19 then aq j else
  if k = 20 then d0 j else
  if k = 21 then d1 j else d2 j
/-- row by row -/
theorem k22 {P : Nat → Prop} (h : P 1 ∧ P 2 ∧ P 3 ∧ P 4 ∧ P 5 ∧ P 6 ∧ P 7 ∧ P 8 ∧ P 9 ∧ P 10 ∧ P 11 ∧ P 12 ∧ P 13 ∧ P 14 ∧ P 15 ∧ P 16 ∧ P 17 ∧ P 18 ∧ P 19 ∧ P 20 ∧ P 21 ∧ P 22) : ∀ k, 1 ≤ k → k ≤ 22 → P k := fun k h1 h2 => by
  obtain ⟨a1, a2, a3, a4, a5, a6, a7, a8, a9, a10, a11, a12, a13, a14, a15, a16, a17, a18, a19, a20, a21, a22⟩ := h
  have : k = 1 ∨ k = 2 ∨ k = 3 ∨ k = 4 ∨ k = 5 ∨ k = 6 ∨ k = 7 ∨ k = 8 ∨ k = 9 ∨ k = 10 ∨ k = 11 ∨ k = 12 ∨ k = 13 ∨ k = 14 ∨ k = 15 ∨ k = 16 ∨ k = 17 ∨ k = 18 ∨ k = 19 ∨ k = 20 ∨ k = 21 ∨ k = 22 := by omega
  rcases this with z | z | z | z | z | z | z | z | z | z | z | z | z | z | z | z | z | z | z | z | z | z <;> subst z <;> assumption
theorem TG_e {A B : MM} (h : ∀ k, 1 ≤ k → k ≤ 22 → ∀ j, B k j = A k j) : TG A B := fun k a b => funext fun j => h k a b j
theorem TG_u2 {C S : MM} (g : TG C S) (k0 j0 : Nat) (v : Int32) : TG (u2 C k0 j0 v) (u2 S k0 j0 v) := fun k a b => funext fun j => by
  unfold u2
  rw [g k a b]
theorem TG_add {C S : MM} (g : TG C S) (n p : Nat) (t c : Int32) : TG (tAdd C n p t c) (tAdd S n p t c) := by
  rw [tAdd_e, tAdd_e, g 2 (by decide) (by decide)]
  exact TG_u2 (TG_u2 (TG_u2 (TG_u2 (TG_u2 (TG_u2 (TG_u2 (TG_u2 g _ _ _) _ _ _) _ _ _) _ _ _) _ _ _) _ _ _) _ _ _) _ _ _
theorem TG_rule {C S : MM} (g : TG C S) (R : Nat) (t a b o y i : Int32) : TG (tRule C R t a b o y i) (tRule S R t a b o y i) := by
  rw [tRule_e, tRule_e]
  exact TG_u2 (TG_u2 (TG_u2 (TG_u2 (TG_u2 (TG_u2 (TG_u2 (TG_u2 (TG_u2 (TG_u2 g _ _ _) _ _ _) _ _ _) _ _ _) _ _ _) _ _ _) _ _ _) _ _ _) _ _ _) _ _ _
theorem TG_dec {C S : MM} (g : TG C S) (r : Nat) {p : Nat} (hp : p < 14) (k v f : Int32) : TG (t3 C (14 * r + p) k v f) (tDec S r p k v f) := by
  rw [tDec_1 (by omega)]
  unfold t3
  exact TG_u2 (TG_u2 (TG_u2 g _ _ _) _ _ _) _ _ _
theorem up_if {f : Nat → Int32} {i j : Nat} {v : Int32} : (if j = i then v else f j) = va_up f i v j := by
  by_cases q : j = i
  · rw [if_pos q, q, va_up_self]
  · rw [if_neg q, va_up_ne _ _ q]
section CTs
variable {G : Gl} {n R : Nat} {w : Int32} {cl wo ho aq d0 d1 d2 : Nat → Int32} {S S' : MM}
theorem ct_1 {v : Int32} (g : TG (CT G n R w cl wo ho aq d0 d1 d2) S) (g' : TG (u2 S 1 0 v) S') : TG (CT G n R v cl wo ho aq d0 d1 d2) S' := by
  refine TG_t (TG_e (k22 ⟨?_, ?_, ?_, ?_, ?_, ?_, ?_, ?_, ?_, ?_, ?_, ?_, ?_, ?_, ?_, ?_, ?_, ?_, ?_, ?_, ?_, ?_⟩)) (TG_t (TG_u2 g 1 0 v) g') <;> intro j <;> first | rfl | skip
  show (if 1 = 1 ∧ j = 0 then v else (if j = 0 then w else 0)) = (if j = 0 then v else 0)
  by_cases q : j = 0
  · rw [if_pos ⟨rfl, q⟩, if_pos q]
  · rw [if_neg (fun z => q z.2), if_neg q, if_neg q]
theorem ct_7 {i : Nat} {v : Int32} (g : TG (CT G n R w cl wo ho aq d0 d1 d2) S) (g' : TG (u2 S 7 i v) S') : TG (CT G n R w (va_up cl i v) wo ho aq d0 d1 d2) S' := by
  refine TG_t (TG_e (k22 ⟨?_, ?_, ?_, ?_, ?_, ?_, ?_, ?_, ?_, ?_, ?_, ?_, ?_, ?_, ?_, ?_, ?_, ?_, ?_, ?_, ?_, ?_⟩)) (TG_t (TG_u2 g 7 i v) g') <;> intro j <;> first | rfl | skip
  show (if 7 = 7 ∧ j = i then v else cl j) = va_up cl i v j
  rw [← up_if]
  by_cases q : j = i
  · rw [if_pos ⟨rfl, q⟩, if_pos q]
  · rw [if_neg (fun z => q z.2), if_neg q]
theorem ct_8 {i : Nat} {v : Int32} (g : TG (CT G n R w cl wo ho aq d0 d1 d2) S) (g' : TG (u2 S 8 i v) S') : TG (CT G n R w cl (va_up wo i v) ho aq d0 d1 d2) S' := by
  refine TG_t (TG_e (k22 ⟨?_, ?_, ?_, ?_, ?_, ?_, ?_, ?_, ?_, ?_, ?_, ?_, ?_, ?_, ?_, ?_, ?_, ?_, ?_, ?_, ?_, ?_⟩)) (TG_t (TG_u2 g 8 i v) g') <;> intro j <;> first | rfl | skip
  show (if 8 = 8 ∧ j = i then v else wo j) = va_up wo i v j
  rw [← up_if]
  by_cases q : j = i
  · rw [if_pos ⟨rfl, q⟩, if_pos q]
  · rw [if_neg (fun z => q z.2), if_neg q]
theorem ct_9 {i : Nat} {v : Int32} (g : TG (CT G n R w cl wo ho aq d0 d1 d2) S) (g' : TG (u2 S 9 i v) S') : TG (CT G n R w cl wo (va_up ho i v) aq d0 d1 d2) S' := by
  refine TG_t (TG_e (k22 ⟨?_, ?_, ?_, ?_, ?_, ?_, ?_, ?_, ?_, ?_, ?_, ?_, ?_, ?_, ?_, ?_, ?_, ?_, ?_, ?_, ?_, ?_⟩)) (TG_t (TG_u2 g 9 i v) g') <;> intro j <;> first | rfl | skip
  show (if 9 = 9 ∧ j = i then v else ho j) = va_up ho i v j
  rw [← up_if]
  by_cases q : j = i
  · rw [if_pos ⟨rfl, q⟩, if_pos q]
  · rw [if_neg (fun z => q z.2), if_neg q]
theorem ct_19 {i : Nat} {v : Int32} (g : TG (CT G n R w cl wo ho aq d0 d1 d2) S) (g' : TG (u2 S 19 i v) S') : TG (CT G n R w cl wo ho (va_up aq i v) d0 d1 d2) S' := by
  refine TG_t (TG_e (k22 ⟨?_, ?_, ?_, ?_, ?_, ?_, ?_, ?_, ?_, ?_, ?_, ?_, ?_, ?_, ?_, ?_, ?_, ?_, ?_, ?_, ?_, ?_⟩)) (TG_t (TG_u2 g 19 i v) g') <;> intro j <;> first | rfl | skip
  show (if 19 = 19 ∧ j = i then v else aq j) = va_up aq i v j
  rw [← up_if]
  by_cases q : j = i
  · rw [if_pos ⟨rfl, q⟩, if_pos q]
  · rw [if_neg (fun z => q z.2), if_neg q]
theorem ct_d {r p : Nat} {k v f : Int32} (hp : p < 14) (g : TG (CT G n R w cl wo ho aq d0 d1 d2) S) (g' : TG (tDec S r p k v f) S') : TG (CT G n R w cl wo ho aq (va_up d0 (14 * r + p) k) (va_up d1 (14 * r + p) v) (va_up d2 (14 * r + p) f)) S' := by
  obtain ⟨i, ei⟩ : ∃ i, i = 14 * r + p := ⟨_, rfl⟩
  have h := TG_dec g r hp k v f
  rw [← ei] at h ⊢
  refine TG_t (TG_e (k22 ⟨?_, ?_, ?_, ?_, ?_, ?_, ?_, ?_, ?_, ?_, ?_, ?_, ?_, ?_, ?_, ?_, ?_, ?_, ?_, ?_, ?_, ?_⟩)) (TG_t h g') <;> intro j <;> first | rfl | skip
  · show (if 20 = 20 ∧ j = i then k else d0 j) = va_up d0 i k j
    rw [← up_if]
    by_cases q : j = i
    · rw [if_pos ⟨rfl, q⟩, if_pos q]
    · rw [if_neg (fun z => q z.2), if_neg q]
  · show (if 21 = 21 ∧ j = i then v else d1 j) = va_up d1 i v j
    rw [← up_if]
    by_cases q : j = i
    · rw [if_pos ⟨rfl, q⟩, if_pos q]
    · rw [if_neg (fun z => q z.2), if_neg q]
  · show (if 22 = 22 ∧ j = i then f else d2 j) = va_up d2 i f j
    rw [← up_if]
    by_cases q : j = i
    · rw [if_pos ⟨rfl, q⟩, if_pos q]
    · rw [if_neg (fun z => q z.2), if_neg q]
theorem ct_add {c : Int32} (h1 : 1 ≤ n) (h24 : n < 24) (hw : wo n = 0) (hh : ho n = 0) (g : TG (CT G n R w cl wo ho aq d0 d1 d2) S) (g' : TG (tAdd S n (drw G n % n) (nI (drw G n / 9 % 6)) c) S') : TG (CT G (n + 1) R w (va_up cl n c) wo ho aq d0 d1 d2) S' := by
  have h := TG_add g n (drw G n % n) (nI (drw G n / 9 % 6)) c
  rw [tAdd_e] at h
  refine TG_t (TG_e (k22 ⟨?_, ?_, ?_, ?_, ?_, ?_, ?_, ?_, ?_, ?_, ?_, ?_, ?_, ?_, ?_, ?_, ?_, ?_, ?_, ?_, ?_, ?_⟩)) (TG_t h g') <;> intro j <;> first | rfl | skip
  · show (if 2 = 2 ∧ j = 0 then nI n + 1 else (if j = 0 then nI n else 0)) = (if j = 0 then nI (n + 1) else 0)
    by_cases q : j = 0
    · rw [if_pos ⟨rfl, q⟩, if_pos q, nI_1]
    · rw [if_neg (fun z => q z.2), if_neg q, if_neg q]
  · show (if 3 = 3 ∧ j = 0 then nI n + 1 else (if j = 0 then nI n else 0)) = (if j = 0 then nI (n + 1) else 0)
    by_cases q : j = 0
    · rw [if_pos ⟨rfl, q⟩, if_pos q, nI_1]
    · rw [if_neg (fun z => q z.2), if_neg q, if_neg q]
  · show (if 4 = 4 ∧ j = n then nI n else (if j < n then nI j else 0)) = (if j < n + 1 then nI j else 0)
    by_cases q : j = n
    · rw [if_pos ⟨rfl, q⟩, if_pos (by omega), q]
    · rw [if_neg (fun z => q z.2)]
      by_cases z : j < n
      · rw [if_pos z, if_pos (by omega)]
      · rw [if_neg z, if_neg (by omega)]
  · show (if 5 = 5 ∧ j = n then nI (drw G n % n) else (if j = 0 then -1 else if j < n then nI (drw G j % j) else 0)) = (if j = 0 then -1 else if j < n + 1 then nI (drw G j % j) else 0)
    by_cases q : j = n
    · rw [if_pos ⟨rfl, q⟩, if_neg (by omega), if_pos (by omega), q]
    · rw [if_neg (fun z => q z.2)]
      by_cases z0 : j = 0
      · rw [if_pos z0, if_pos z0]
      · rw [if_neg z0, if_neg z0]
        by_cases z : j < n
        · rw [if_pos z, if_pos (by omega)]
        · rw [if_neg z, if_neg (by omega)]
  · show (if 6 = 6 ∧ j = n then nI (drw G n / 9 % 6) else (if j = 0 then 0 else if j < n then nI (drw G j / 9 % 6) else 0)) = (if j = 0 then 0 else if j < n + 1 then nI (drw G j / 9 % 6) else 0)
    by_cases q : j = n
    · rw [if_pos ⟨rfl, q⟩, if_neg (by omega), if_pos (by omega), q]
    · rw [if_neg (fun z => q z.2)]
      by_cases z0 : j = 0
      · rw [if_pos z0, if_pos z0]
      · rw [if_neg z0, if_neg z0]
        by_cases z : j < n
        · rw [if_pos z, if_pos (by omega)]
        · rw [if_neg z, if_neg (by omega)]
  · show (if 7 = 7 ∧ j = n then c else cl j) = va_up cl n c j
    rw [← up_if]
    by_cases q : j = n
    · rw [if_pos ⟨rfl, q⟩, if_pos q]
    · rw [if_neg (fun z => q z.2), if_neg q]
  · show (if 8 = 8 ∧ j = n then 0 else wo j) = wo j
    by_cases q : j = n
    · rw [if_pos ⟨rfl, q⟩, q, hw]
    · rw [if_neg (fun z => q z.2)]
  · show (if 9 = 9 ∧ j = n then 0 else ho j) = ho j
    by_cases q : j = n
    · rw [if_pos ⟨rfl, q⟩, q, hh]
    · rw [if_neg (fun z => q z.2)]
theorem m3 {j R : Nat} : (j % 3 = 0 ∧ j / 3 < R + 1) ↔ (j = 3 * R ∨ (j % 3 = 0 ∧ j / 3 < R)) := by omega
theorem ct_r3 {x : Int32} {f : Nat → Int32} (hx : f R = x) (j : Nat) : (if j = 3 * R then x else (if j % 3 = 0 ∧ j / 3 < R then f (j / 3) else 0)) = (if j % 3 = 0 ∧ j / 3 < R + 1 then f (j / 3) else 0) := by
  by_cases q : j = 3 * R
  · rw [if_pos q, if_pos (by omega), q, show 3 * R / 3 = R by omega, hx]
  · rw [if_neg q]
    by_cases z : j % 3 = 0 ∧ j / 3 < R
    · rw [if_pos z, if_pos (by omega)]
    · rw [if_neg z, if_neg (by omega)]
theorem ct_r1 {x : Int32} {f : Nat → Int32} (hx : f R = x) (j : Nat) : (if j = R then x else (if j < R then f j else 0)) = (if j < R + 1 then f j else 0) := by
  by_cases q : j = R
  · rw [if_pos q, if_pos (by omega), q, hx]
  · rw [if_neg q]
    by_cases z : j < R
    · rw [if_pos z, if_pos (by omega)]
    · rw [if_neg z, if_neg (by omega)]
theorem ct_rule (h16 : R < 16) (g : TG (CT G n R w cl wo ho aq d0 d1 d2) S) (g' : TG (tRule S R (rt G R) (nI (drw G (10 + R) / 18 % 4)) (nI (drw G (10 + R) / 72 % 2 * 8)) (nI (drw G (10 + R) / 144 % 2)) (nI (drw G (10 + R) / 288 % 3)) (rb G R)) S') : TG (CT G n (R + 1) w cl wo ho (va_up aq R (-1)) d0 d1 d2) S' := by
  have h := TG_rule g R (rt G R) (nI (drw G (10 + R) / 18 % 4)) (nI (drw G (10 + R) / 72 % 2 * 8)) (nI (drw G (10 + R) / 144 % 2)) (nI (drw G (10 + R) / 288 % 3)) (rb G R)
  rw [tRule_e] at h
  have one : ∀ (i j : Nat) (x y : Int32), (if i = i ∧ j = R then x else y) = (if j = R then x else y) := fun i j x y => by
    by_cases q : j = R
    · rw [if_pos ⟨rfl, q⟩, if_pos q]
    · rw [if_neg (fun z => q z.2), if_neg q]
  have thr : ∀ (i j : Nat) (x y : Int32), (if i = i ∧ j = 3 * R then x else y) = (if j = 3 * R then x else y) := fun i j x y => by
    by_cases q : j = 3 * R
    · rw [if_pos ⟨rfl, q⟩, if_pos q]
    · rw [if_neg (fun z => q z.2), if_neg q]
  refine TG_t (TG_e (k22 ⟨?_, ?_, ?_, ?_, ?_, ?_, ?_, ?_, ?_, ?_, ?_, ?_, ?_, ?_, ?_, ?_, ?_, ?_, ?_, ?_, ?_, ?_⟩)) (TG_t h g') <;> intro j <;> first | rfl | skip
  · show (if 10 = 10 ∧ j = 0 then nI R + 1 else (if j = 0 then nI R else 0)) = (if j = 0 then nI (R + 1) else 0)
    by_cases q : j = 0
    · rw [if_pos ⟨rfl, q⟩, if_pos q, nI_1]
    · rw [if_neg (fun z => q z.2), if_neg q, if_neg q]
  · show (if 11 = 11 ∧ j = R then 1 else (if j < R then 1 else 0)) = (if j < R + 1 then 1 else 0)
    rw [one]
    exact ct_r1 (f := fun _ => 1) rfl j
  · show (if 12 = 12 ∧ j = 3 * R then -1 else (if j % 3 = 0 ∧ j / 3 < R then -1 else 0)) = (if j % 3 = 0 ∧ j / 3 < R + 1 then -1 else 0)
    rw [thr]
    exact ct_r3 (f := fun _ => -1) rfl j
  · show (if 13 = 13 ∧ j = 3 * R then rt G R else (if j % 3 = 0 ∧ j / 3 < R then rt G (j / 3) else 0)) = (if j % 3 = 0 ∧ j / 3 < R + 1 then rt G (j / 3) else 0)
    rw [thr]
    exact ct_r3 (f := fun q => rt G q) rfl j
  · show (if 14 = 14 ∧ j = 3 * R then nI (drw G (10 + R) / 18 % 4) else (if j % 3 = 0 ∧ j / 3 < R then nI (drw G (10 + j / 3) / 18 % 4) else 0)) = (if j % 3 = 0 ∧ j / 3 < R + 1 then nI (drw G (10 + j / 3) / 18 % 4) else 0)
    rw [thr]
    exact ct_r3 (f := fun q => nI (drw G (10 + q) / 18 % 4)) rfl j
  · show (if 15 = 15 ∧ j = 3 * R then nI (drw G (10 + R) / 72 % 2 * 8) else (if j % 3 = 0 ∧ j / 3 < R then nI (drw G (10 + j / 3) / 72 % 2 * 8) else 0)) = (if j % 3 = 0 ∧ j / 3 < R + 1 then nI (drw G (10 + j / 3) / 72 % 2 * 8) else 0)
    rw [thr]
    exact ct_r3 (f := fun q => nI (drw G (10 + q) / 72 % 2 * 8)) rfl j
  · show (if 16 = 16 ∧ j = R then nI (drw G (10 + R) / 144 % 2) else (if j < R then nI (drw G (10 + j) / 144 % 2) else 0)) = (if j < R + 1 then nI (drw G (10 + j) / 144 % 2) else 0)
    rw [one]
    exact ct_r1 (f := fun q => nI (drw G (10 + q) / 144 % 2)) rfl j
  · show (if 17 = 17 ∧ j = R then nI (drw G (10 + R) / 288 % 3) else (if j < R then nI (drw G (10 + j) / 288 % 3) else 0)) = (if j < R + 1 then nI (drw G (10 + j) / 288 % 3) else 0)
    rw [one]
    exact ct_r1 (f := fun q => nI (drw G (10 + q) / 288 % 3)) rfl j
  · show (if 18 = 18 ∧ j = R then rb G R else (if j < R then rb G j else 0)) = (if j < R + 1 then rb G j else 0)
    rw [one]
    exact ct_r1 (f := fun q => rb G q) rfl j
  · show (if 19 = 19 ∧ j = R then -1 else aq j) = va_up aq R (-1) j
    rw [one]
    exact up_if
theorem ct_0 (g : TG mmT S) : TG (CT G 1 0 100 (fun _ => 0) (fun _ => 0) (fun _ => 0) (fun _ => 0) (fun _ => 0) (fun _ => 0) (fun _ => 0)) S := by
  refine TG_t (TG_e (k22 ⟨?_, ?_, ?_, ?_, ?_, ?_, ?_, ?_, ?_, ?_, ?_, ?_, ?_, ?_, ?_, ?_, ?_, ?_, ?_, ?_, ?_, ?_⟩)) g <;> intro j <;> first | rfl | skip
  · show (if 1 = 1 ∧ j = 0 then 100 else 0) = (if j = 0 then 100 else (0 : Int32))
    by_cases q : j = 0
    · rw [if_pos ⟨rfl, q⟩, if_pos q]
    · rw [if_neg (fun z => q z.2), if_neg q]
  · show (if 2 = 2 ∧ j = 0 then 1 else 0) = (if j = 0 then nI 1 else (0 : Int32))
    by_cases q : j = 0
    · rw [if_pos ⟨rfl, q⟩, if_pos q]
      rfl
    · rw [if_neg (fun z => q z.2), if_neg q]
  · show (if 3 = 3 ∧ j = 0 then 1 else 0) = (if j = 0 then nI 1 else (0 : Int32))
    by_cases q : j = 0
    · rw [if_pos ⟨rfl, q⟩, if_pos q]
      rfl
    · rw [if_neg (fun z => q z.2), if_neg q]
  · show (0 : Int32) = (if j < 1 then nI j else 0)
    by_cases q : j < 1
    · rw [if_pos q, show j = 0 by omega]
      rfl
    · rw [if_neg q]
  · show (if 5 = 5 ∧ j = 0 then -1 else 0) = (if j = 0 then -1 else if j < 1 then nI (drw G j % j) else (0 : Int32))
    by_cases q : j = 0
    · rw [if_pos ⟨rfl, q⟩, if_pos q]
    · rw [if_neg (fun z => q z.2), if_neg q, if_neg (by omega)]
  · show (0 : Int32) = (if j = 0 then 0 else if j < 1 then nI (drw G j / 9 % 6) else 0)
    by_cases q : j = 0
    · rw [if_pos q]
    · rw [if_neg q, if_neg (by omega)]
  · show (0 : Int32) = (if j = 0 then nI 0 else 0)
    by_cases q : j = 0
    · rw [if_pos q]
      rfl
    · rw [if_neg q]
  · show (0 : Int32) = (if j % 3 = 0 ∧ j / 3 < 0 then -1 else 0)
    rw [if_neg (by omega)]
  · show (0 : Int32) = (if j % 3 = 0 ∧ j / 3 < 0 then rt G (j / 3) else 0)
    rw [if_neg (by omega)]
  · show (0 : Int32) = (if j % 3 = 0 ∧ j / 3 < 0 then nI (drw G (10 + j / 3) / 18 % 4) else 0)
    rw [if_neg (by omega)]
  · show (0 : Int32) = (if j % 3 = 0 ∧ j / 3 < 0 then nI (drw G (10 + j / 3) / 72 % 2 * 8) else 0)
    rw [if_neg (by omega)]
theorem ct_plc {e : Nat} (g : TG (CT G n R w cl wo ho aq d0 d1 d2) S) (hn : n ≤ 24) (he : e < n) : plc S n (nI e) = some e := by
  have r4 : ∀ j, j < n → S 4 j = nI j := fun j hj => by
    rw [g 4 (by decide) (by decide)]
    show (if j < n then nI j else 0) = _
    rw [if_pos hj]
  cases hp : plc S n (nI e) with
  | none =>
    unfold plc at hp
    have := List.find?_eq_none.mp hp e (List.mem_range.mpr he)
    rw [r4 e he] at this
    exact absurd (by simp) this
  | some p =>
    obtain ⟨a1, a2⟩ := plc_lt hp
    rw [r4 p a1] at a2
    rw [(nI_eq (by omega) (by omega)).mp a2]
end CTs
