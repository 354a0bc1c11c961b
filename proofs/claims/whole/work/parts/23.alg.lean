/-! Elimination without fractions: the divisions come out even (five rows). -/
def D2 (A : Nat → Nat → Int) (x y : Nat) : Int := A 0 x * A 1 y - A 0 y * A 1 x
def D3 (A : Nat → Nat → Int) (x y z : Nat) : Int := A 0 x * (A 1 y * A 2 z - A 1 z * A 2 y) - A 0 y * (A 1 x * A 2 z - A 1 z * A 2 x) + A 0 z * (A 1 x * A 2 y - A 1 y * A 2 x)
def D4 (A : Nat → Nat → Int) (x y z w : Nat) : Int := A 3 w * D3 A x y z - A 3 z * D3 A x y w + A 3 y * D3 A x z w - A 3 x * D3 A y z w
set_option maxRecDepth 100000 in
theorem pl4 (A : Nat → Nat → Int) (e f u w b c : Nat) : D4 A b f u w * D4 A e c u w - D4 A e b u w * D4 A c f u w = D4 A e f u w * D4 A b c u w := by
  unfold D4 D3
  grind
theorem D4_12 (A : Nat → Nat → Int) (x y z w : Nat) : D4 A x y z w = -D4 A x z y w := by unfold D4 D3; grind
theorem D4_13 (A : Nat → Nat → Int) (x y z w : Nat) : D4 A x y z w = -D4 A x w z y := by unfold D4 D3; grind
theorem D4_c (A : Nat → Nat → Int) (x y z w : Nat) : D4 A x y z w = D4 A y z x w := by unfold D4 D3; grind
theorem D4_d (A : Nat → Nat → Int) (x y z w : Nat) : D4 A x y z w = -D4 A y w x z := by unfold D4 D3; grind
theorem D4_e (A : Nat → Nat → Int) (x y z w : Nat) : D4 A x y z w = D4 A z w x y := by unfold D4 D3; grind
/-- one step: row k clears column k of the others -/
def bs (k : Nat) (d : Int) (T : Nat → Nat → Int) : Nat → Nat → Int := fun r c => if r = k then T r c else (T k k * T r c - T r k * T k c).tdiv d
def bT (A : Nat → Nat → Int) : Nat → (Nat → Nat → Int) × Int
  | 0 => (A, 1)
  | k + 1 => (bs k (bT A k).2 (bT A k).1, (bT A k).1 k k)
theorem bs_k {k : Nat} {d : Int} {T : Nat → Nat → Int} {c : Nat} : bs k d T k c = T k c := if_pos rfl
theorem bs_e {k : Nat} {d : Int} {T : Nat → Nat → Int} {r c : Nat} {x : Int} (hd : d ≠ 0) (hr : r ≠ k) (h : T k k * T r c - T r k * T k c = d * x) : bs k d T r c = x := by
  unfold bs
  rw [if_neg hr, h]
  exact Int.mul_tdiv_cancel_left _ hd
section ALG
variable {A : Nat → Nat → Int}
theorem S1 (r c : Nat) : (bT A 1).1 r c = if r = 0 then A 0 c else A 0 0 * A r c - A r 0 * A 0 c := by
  show bs 0 1 A r c = _
  by_cases h : r = 0
  · subst h; rw [if_pos rfl]; exact bs_k
  · rw [if_neg h]
    exact bs_e (by decide) h (by rw [Int.one_mul])
theorem S1d : (bT A 1).2 = A 0 0 := rfl
theorem S2 (h1 : A 0 0 ≠ 0) (r c : Nat) : (bT A 2).1 r c = if r = 0 then D2 A c 1 else if r = 1 then D2 A 0 c else D2 A 0 1 * A r c - A r 0 * D2 A c 1 - A r 1 * D2 A 0 c := by
  show bs 1 (A 0 0) (bT A 1).1 r c = _
  by_cases e1 : r = 1
  · subst e1
    rw [bs_k, S1]
    simp only [if_neg (show ¬ 1 = 0 by omega), if_true]
    unfold D2; grind
  · refine bs_e h1 e1 ?_
    simp only [S1, if_neg (show ¬ 1 = 0 by omega)]
    by_cases e0 : r = 0
    · subst e0
      simp only [if_true]
      unfold D2; grind
    · simp only [if_neg e0, if_neg e1]
      unfold D2; grind
theorem S2d : (bT A 2).2 = D2 A 0 1 := by
  show (bT A 1).1 1 1 = _
  rw [S1, if_neg (by omega)]
  unfold D2; grind
theorem S3 (h1 : A 0 0 ≠ 0) (h2 : D2 A 0 1 ≠ 0) (r c : Nat) : (bT A 3).1 r c = if r = 0 then D3 A c 1 2 else if r = 1 then D3 A 0 c 2 else if r = 2 then D3 A 0 1 c else D3 A 0 1 2 * A r c - A r 0 * D3 A c 1 2 - A r 1 * D3 A 0 c 2 - A r 2 * D3 A 0 1 c := by
  show bs 2 (bT A 2).2 (bT A 2).1 r c = _
  rw [S2d]
  by_cases e2 : r = 2
  · subst e2
    rw [bs_k, S2 h1]
    simp only [if_neg (show ¬ 2 = 0 by omega), if_neg (show ¬ 2 = 1 by omega), if_true]
    unfold D2 D3; grind
  · refine bs_e h2 e2 ?_
    simp only [S2 h1, if_neg (show ¬ 2 = 0 by omega), if_neg (show ¬ 2 = 1 by omega)]
    by_cases e0 : r = 0
    · subst e0
      simp only [if_true]
      unfold D2 D3; grind
    · by_cases e1 : r = 1
      · subst e1
        simp only [if_neg (show ¬ 1 = 0 by omega), if_true]
        unfold D2 D3; grind
      · simp only [if_neg e0, if_neg e1, if_neg e2]
        unfold D2 D3; grind
theorem S3d (h1 : A 0 0 ≠ 0) : (bT A 3).2 = D3 A 0 1 2 := by
  show (bT A 2).1 2 2 = _
  rw [S2 h1, if_neg (by omega), if_neg (by omega)]
  unfold D2 D3; grind
theorem q30 (c : Nat) : D3 A 0 1 2 * D4 A c 1 2 3 = D4 A 0 1 2 3 * D3 A c 1 2 - D3 A 3 1 2 * D4 A 0 1 2 c := by unfold D4 D3; grind
theorem q31 (c : Nat) : D3 A 0 1 2 * D4 A 0 c 2 3 = D4 A 0 1 2 3 * D3 A 0 c 2 - D3 A 0 3 2 * D4 A 0 1 2 c := by unfold D4 D3; grind
theorem q32 (c : Nat) : D3 A 0 1 2 * D4 A 0 1 c 3 = D4 A 0 1 2 3 * D3 A 0 1 c - D3 A 0 1 3 * D4 A 0 1 2 c := by unfold D4 D3; grind
theorem q33 (c : Nat) : D3 A 0 1 2 * A 3 c - A 3 0 * D3 A c 1 2 - A 3 1 * D3 A 0 c 2 - A 3 2 * D3 A 0 1 c = D4 A 0 1 2 c := by unfold D4 D3; grind
theorem tr3 {p d a b t x0 x1 x2 n0 n1 n2 m0 m1 m2 y0 y1 y2 : Int} (h0 : d * y0 = p * n0 - m0 * t) (h1 : d * y1 = p * n1 - m1 * t) (h2 : d * y2 = p * n2 - m2 * t) : p * (d * a - x0 * n0 - x1 * n1 - x2 * n2) - (d * b - x0 * m0 - x1 * m1 - x2 * m2) * t = d * (p * a - x0 * y0 - x1 * y1 - x2 * y2 - b * t) := by grind
theorem S4 (h1 : A 0 0 ≠ 0) (h2 : D2 A 0 1 ≠ 0) (h3 : D3 A 0 1 2 ≠ 0) (r c : Nat) : (bT A 4).1 r c = if r = 0 then D4 A c 1 2 3 else if r = 1 then D4 A 0 c 2 3 else if r = 2 then D4 A 0 1 c 3 else if r = 3 then D4 A 0 1 2 c else D4 A 0 1 2 3 * A r c - A r 0 * D4 A c 1 2 3 - A r 1 * D4 A 0 c 2 3 - A r 2 * D4 A 0 1 c 3 - A r 3 * D4 A 0 1 2 c := by
  show bs 3 (bT A 3).2 (bT A 3).1 r c = _
  rw [S3d h1]
  by_cases e3 : r = 3
  · subst e3
    rw [bs_k, S3 h1 h2]
    simp only [if_neg (show ¬ 3 = 0 by omega), if_neg (show ¬ 3 = 1 by omega), if_neg (show ¬ 3 = 2 by omega), if_true]
    exact q33 c
  · refine bs_e h3 e3 ?_
    simp only [S3 h1 h2, if_neg (show ¬ 3 = 0 by omega), if_neg (show ¬ 3 = 1 by omega), if_neg (show ¬ 3 = 2 by omega), q33]
    by_cases e0 : r = 0
    · subst e0
      simp only [if_true]
      exact (q30 c).symm
    · by_cases e1 : r = 1
      · subst e1
        simp only [if_neg (show ¬ 1 = 0 by omega), if_true]
        exact (q31 c).symm
      · by_cases e2 : r = 2
        · subst e2
          simp only [if_neg (show ¬ 2 = 0 by omega), if_neg (show ¬ 2 = 1 by omega), if_true]
          exact (q32 c).symm
        · simp only [if_neg e0, if_neg e1, if_neg e2, if_neg e3]
          exact tr3 (q30 c) (q31 c) (q32 c)
theorem S4d (h1 : A 0 0 ≠ 0) (h2 : D2 A 0 1 ≠ 0) : (bT A 4).2 = D4 A 0 1 2 3 := by
  show (bT A 3).1 3 3 = _
  rw [S3 h1 h2, if_neg (by omega), if_neg (by omega), if_neg (by omega)]
  exact q33 3
theorem pk01 (b c : Nat) : D4 A b 1 2 3 * D4 A 0 c 2 3 - D4 A 0 b 2 3 * D4 A c 1 2 3 = D4 A 0 1 2 3 * D4 A b c 2 3 := pl4 A 0 1 2 3 b c
theorem pk02 (b c : Nat) : D4 A b 1 2 3 * D4 A 0 1 c 3 - D4 A 0 1 b 3 * D4 A c 1 2 3 = D4 A 0 1 2 3 * -D4 A b c 1 3 := by
  have := pl4 A 0 2 1 3 b c
  rw [D4_12 A b 1 2 3, D4_12 A 0 1 c 3, D4_12 A 0 1 b 3, D4_12 A c 1 2 3, D4_12 A 0 1 2 3]
  grind
theorem pk03 (b c : Nat) : D4 A b 1 2 3 * D4 A 0 1 2 c - D4 A 0 1 2 b * D4 A c 1 2 3 = D4 A 0 1 2 3 * -D4 A b c 2 1 := by
  have := pl4 A 0 3 2 1 b c
  rw [D4_13 A b 1 2 3, D4_13 A 0 1 2 c, D4_13 A 0 1 2 b, D4_13 A c 1 2 3, D4_13 A 0 1 2 3]
  grind
theorem pk12 (b c : Nat) : D4 A 0 b 2 3 * D4 A 0 1 c 3 - D4 A 0 1 b 3 * D4 A 0 c 2 3 = D4 A 0 1 2 3 * D4 A b c 0 3 := by
  have := pl4 A 1 2 0 3 b c
  rw [D4_c A 0 b 2 3, D4_c A 0 1 c 3, D4_c A 0 1 b 3, D4_c A 0 c 2 3, D4_c A 0 1 2 3]
  exact this
theorem pk13 (b c : Nat) : D4 A 0 b 2 3 * D4 A 0 1 2 c - D4 A 0 1 2 b * D4 A 0 c 2 3 = D4 A 0 1 2 3 * -D4 A b c 0 2 := by
  have := pl4 A 1 3 0 2 b c
  rw [D4_d A 0 b 2 3, D4_d A 0 1 2 c, D4_d A 0 1 2 b, D4_d A 0 c 2 3, D4_d A 0 1 2 3]
  grind
theorem pk23 (b c : Nat) : D4 A 0 1 b 3 * D4 A 0 1 2 c - D4 A 0 1 2 b * D4 A 0 1 c 3 = D4 A 0 1 2 3 * D4 A b c 0 1 := by
  have := pl4 A 2 3 0 1 b c
  rw [D4_e A 0 1 b 3, D4_e A 0 1 2 c, D4_e A 0 1 2 b, D4_e A 0 1 c 3, D4_e A 0 1 2 3]
  exact this
theorem tr4 {d a b x0 x1 x2 x3 n0 n1 n2 n3 m0 m1 m2 m3 w1 w2 w3 : Int} (h1 : m0 * n1 - m1 * n0 = d * w1) (h2 : m0 * n2 - m2 * n0 = d * w2) (h3 : m0 * n3 - m3 * n0 = d * w3) : (d * a - x0 * m0 - x1 * m1 - x2 * m2 - x3 * m3) * n0 - m0 * (d * b - x0 * n0 - x1 * n1 - x2 * n2 - x3 * n3) = d * (a * n0 - b * m0 + x1 * w1 + x2 * w2 + x3 * w3) := by grind
theorem tr4b {d a b x0 x1 x2 x3 n0 n1 n2 n3 m0 m1 m2 m3 w0 w2 w3 : Int} (h0 : m0 * n1 - m1 * n0 = d * w0) (h2 : m1 * n2 - m2 * n1 = d * w2) (h3 : m1 * n3 - m3 * n1 = d * w3) : (d * a - x0 * m0 - x1 * m1 - x2 * m2 - x3 * m3) * n1 - m1 * (d * b - x0 * n0 - x1 * n1 - x2 * n2 - x3 * n3) = d * (a * n1 - b * m1 - x0 * w0 + x2 * w2 + x3 * w3) := by grind
theorem tr4c {d a b x0 x1 x2 x3 n0 n1 n2 n3 m0 m1 m2 m3 w0 w1 w3 : Int} (h0 : m0 * n2 - m2 * n0 = d * w0) (h1 : m1 * n2 - m2 * n1 = d * w1) (h3 : m2 * n3 - m3 * n2 = d * w3) : (d * a - x0 * m0 - x1 * m1 - x2 * m2 - x3 * m3) * n2 - m2 * (d * b - x0 * n0 - x1 * n1 - x2 * n2 - x3 * n3) = d * (a * n2 - b * m2 - x0 * w0 - x1 * w1 + x3 * w3) := by grind
theorem tr4d {d a b x0 x1 x2 x3 n0 n1 n2 n3 m0 m1 m2 m3 w0 w1 w2 : Int} (h0 : m0 * n3 - m3 * n0 = d * w0) (h1 : m1 * n3 - m3 * n1 = d * w1) (h2 : m2 * n3 - m3 * n2 = d * w2) : (d * a - x0 * m0 - x1 * m1 - x2 * m2 - x3 * m3) * n3 - m3 * (d * b - x0 * n0 - x1 * n1 - x2 * n2 - x3 * n3) = d * (a * n3 - b * m3 - x0 * w0 - x1 * w1 - x2 * w2) := by grind
/-- each step's division is even -/
theorem bex {k : Nat} (hk : k < 5) (hd : ∀ i, i ≤ k → (bT A i).2 ≠ 0) {r c : Nat} (hr : r ≠ k) (hr5 : r < 5) : (bT A k).2 * (bT A (k + 1)).1 r c = (bT A k).1 k k * (bT A k).1 r c - (bT A k).1 r k * (bT A k).1 k c := by
  have key : ∀ x, (bT A k).1 k k * (bT A k).1 r c - (bT A k).1 r k * (bT A k).1 k c = (bT A k).2 * x → (bT A k).2 * (bT A (k + 1)).1 r c = (bT A k).1 k k * (bT A k).1 r c - (bT A k).1 r k * (bT A k).1 k c := fun x hx => by
    rw [show (bT A (k + 1)).1 r c = x from bs_e (hd k (Nat.le_refl k)) hr hx]
    exact hx.symm
  rcases (by omega : k = 0 ∨ k = 1 ∨ k = 2 ∨ k = 3 ∨ k = 4) with rfl | rfl | rfl | rfl | rfl
  · exact key _ (by rw [show (bT A 0).2 = 1 from rfl, Int.one_mul])
  · have h1 : A 0 0 ≠ 0 := hd 1 (by omega)
    have e := S2 h1 r c
    by_cases e0 : r = 0
    · subst e0
      refine key (D2 A c 1) ?_
      rw [S1d]
      simp only [S1, if_neg (show ¬ 1 = 0 by omega), if_true]
      unfold D2; grind
    · refine key (D2 A 0 1 * A r c - A r 0 * D2 A c 1 - A r 1 * D2 A 0 c) ?_
      rw [S1d]
      simp only [S1, if_neg (show ¬ 1 = 0 by omega), if_neg e0]
      unfold D2; grind
  · have h1 : A 0 0 ≠ 0 := hd 1 (by omega)
    have h2 : D2 A 0 1 ≠ 0 := S2d (A := A) ▸ hd 2 (by omega)
    by_cases e0 : r = 0
    · subst e0
      refine key (D3 A c 1 2) ?_
      rw [S2d]
      simp only [S2 h1, if_neg (show ¬ 2 = 0 by omega), if_neg (show ¬ 2 = 1 by omega), if_true]
      unfold D2 D3; grind
    · by_cases e1 : r = 1
      · subst e1
        refine key (D3 A 0 c 2) ?_
        rw [S2d]
        simp only [S2 h1, if_neg (show ¬ 2 = 0 by omega), if_neg (show ¬ 2 = 1 by omega), if_neg (show ¬ 1 = 0 by omega), if_true]
        unfold D2 D3; grind
      · refine key (D3 A 0 1 2 * A r c - A r 0 * D3 A c 1 2 - A r 1 * D3 A 0 c 2 - A r 2 * D3 A 0 1 c) ?_
        rw [S2d]
        simp only [S2 h1, if_neg (show ¬ 2 = 0 by omega), if_neg (show ¬ 2 = 1 by omega), if_neg e0, if_neg e1]
        unfold D2 D3; grind
  · have h1 : A 0 0 ≠ 0 := hd 1 (by omega)
    have h2 : D2 A 0 1 ≠ 0 := S2d (A := A) ▸ hd 2 (by omega)
    have hs := fun r c => S3 h1 h2 r c
    rw [S3d h1] at key ⊢
    simp only [hs, if_neg (show ¬ 3 = 0 by omega), if_neg (show ¬ 3 = 1 by omega), if_neg (show ¬ 3 = 2 by omega), q33] at key ⊢
    by_cases e0 : r = 0
    · subst e0
      exact key _ (by simp only [if_true]; exact (q30 c).symm)
    · by_cases e1 : r = 1
      · subst e1
        exact key _ (by simp only [if_neg (show ¬ 1 = 0 by omega), if_true]; exact (q31 c).symm)
      · by_cases e2 : r = 2
        · subst e2
          exact key _ (by simp only [if_neg (show ¬ 2 = 0 by omega), if_neg (show ¬ 2 = 1 by omega), if_true]; exact (q32 c).symm)
        · exact key _ (by simp only [if_neg e0, if_neg e1, if_neg e2]; exact tr3 (q30 c) (q31 c) (q32 c))
  · have h1 : A 0 0 ≠ 0 := hd 1 (by omega)
    have h2 : D2 A 0 1 ≠ 0 := S2d (A := A) ▸ hd 2 (by omega)
    have h3 : D3 A 0 1 2 ≠ 0 := S3d (A := A) h1 ▸ hd 3 (by omega)
    have hs := fun r c => S4 h1 h2 h3 r c
    rw [S4d h1 h2] at key ⊢
    simp only [hs, if_neg (show ¬ 4 = 0 by omega), if_neg (show ¬ 4 = 1 by omega), if_neg (show ¬ 4 = 2 by omega), if_neg (show ¬ 4 = 3 by omega)] at key ⊢
    rcases (by omega : r = 0 ∨ r = 1 ∨ r = 2 ∨ r = 3) with rfl | rfl | rfl | rfl
    · refine key (A 4 4 * D4 A c 1 2 3 - A 4 c * D4 A 4 1 2 3 + A 4 1 * D4 A 4 c 2 3 + A 4 2 * -D4 A 4 c 1 3 + A 4 3 * -D4 A 4 c 2 1) ?_
      simp only [if_true]
      exact tr4 (pk01 4 c) (pk02 4 c) (pk03 4 c)
    · refine key (A 4 4 * D4 A 0 c 2 3 - A 4 c * D4 A 0 4 2 3 - A 4 0 * D4 A 4 c 2 3 + A 4 2 * D4 A 4 c 0 3 + A 4 3 * -D4 A 4 c 0 2) ?_
      simp only [if_neg (show ¬ 1 = 0 by omega), if_true]
      exact tr4b (pk01 4 c) (pk12 4 c) (pk13 4 c)
    · refine key (A 4 4 * D4 A 0 1 c 3 - A 4 c * D4 A 0 1 4 3 - A 4 0 * -D4 A 4 c 1 3 - A 4 1 * D4 A 4 c 0 3 + A 4 3 * D4 A 4 c 0 1) ?_
      simp only [if_neg (show ¬ 2 = 0 by omega), if_neg (show ¬ 2 = 1 by omega), if_true]
      exact tr4c (pk02 4 c) (pk12 4 c) (pk23 4 c)
    · refine key (A 4 4 * D4 A 0 1 2 c - A 4 c * D4 A 0 1 2 4 - A 4 0 * -D4 A 4 c 2 1 - A 4 1 * -D4 A 4 c 0 2 - A 4 2 * D4 A 4 c 0 1) ?_
      simp only [if_neg (show ¬ 3 = 0 by omega), if_neg (show ¬ 3 = 1 by omega), if_neg (show ¬ 3 = 2 by omega), if_true]
      exact tr4d (pk03 4 c) (pk13 4 c) (pk23 4 c)
end ALG
