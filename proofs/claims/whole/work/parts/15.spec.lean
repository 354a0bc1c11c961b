/-! Views of a net: what class and model have in common. -/
abbrev Nv : Type := Nat × Nat × (Nat → Bool) × (Nat → Nat → Int) × (Nat → Int) × (Nat → Nat) × (Nat → Nat) × (Nat → Int) × (Nat → Int) × (Nat → Bool) × Int × Int
abbrev vJ (v : Nv) : Nat := v.1
abbrev vS (v : Nv) : Nat := v.2.1
abbrev vF (v : Nv) : Nat → Bool := v.2.2.1
abbrev vP (v : Nv) : Nat → Nat → Int := v.2.2.2.1
abbrev vLd (v : Nv) : Nat → Int := v.2.2.2.2.1
abbrev vA (v : Nv) : Nat → Nat := v.2.2.2.2.2.1
abbrev vB (v : Nv) : Nat → Nat := v.2.2.2.2.2.2.1
abbrev vQ (v : Nv) : Nat → Int := v.2.2.2.2.2.2.2.1
abbrev vW (v : Nv) : Nat → Int := v.2.2.2.2.2.2.2.2.1
abbrev vH (v : Nv) : Nat → Bool := v.2.2.2.2.2.2.2.2.2.1
abbrev vR (v : Nv) : Int := v.2.2.2.2.2.2.2.2.2.2.1
abbrev vE (v : Nv) : Int := v.2.2.2.2.2.2.2.2.2.2.2
/-- of the first k, how many are so -/
def cnt (f : Nat → Bool) : Nat → Nat
  | 0 => 0
  | k + 1 => cnt f k + (if f k then 1 else 0)
theorem cnt_le (f : Nat → Bool) : ∀ k, cnt f k ≤ k
  | 0 => Nat.le_refl _
  | k + 1 => by have := cnt_le f k; simp only [cnt]; split <;> omega
theorem cnt_mono {f g : Nat → Bool} : ∀ k, (∀ j, j < k → f j = true → g j = true) → cnt f k ≤ cnt g k
  | 0, _ => Nat.le_refl _
  | k + 1, h => by
    have ih := cnt_mono k (fun j hj => h j (by omega))
    have := h k (by omega)
    simp only [cnt]
    by_cases hf : f k = true
    · rw [if_pos hf, if_pos (this hf)]; omega
    · rw [if_neg hf]; omega
theorem cnt_lt {f g : Nat → Bool} : ∀ k, (∀ j, j < k → f j = true → g j = true) → (∃ j, j < k ∧ f j = false ∧ g j = true) → cnt f k < cnt g k
  | 0, _, h2 => by obtain ⟨j, h, _⟩ := h2; omega
  | k + 1, h, h2 => by
    obtain ⟨j, hj, hf, hg⟩ := h2
    by_cases e : j = k
    · subst e
      have ih := cnt_mono (f := f) (g := g) j (fun i hi => h i (by omega))
      simp only [cnt, hf, hg, if_true]
      simp
      omega
    · have ih := cnt_lt k (fun i hi => h i (by omega)) ⟨j, by omega, hf, hg⟩
      have := h k (by omega)
      simp only [cnt]
      by_cases hf : f k = true
      · rw [if_pos hf, if_pos (this hf)]; omega
      · rw [if_neg hf]; omega
theorem cnt_all {f : Nat → Bool} : ∀ k, cnt f k = k → ∀ j, j < k → f j = true
  | 0, _, j, hj => by omega
  | k + 1, h, j, hj => by
    have hl := cnt_le f k
    simp only [cnt] at h
    by_cases hf : f k = true
    · by_cases e : j = k
      · rw [e]; exact hf
      · rw [if_pos hf] at h
        exact cnt_all k (by omega) j (by omega)
    · rw [if_neg hf] at h; omega
theorem cnt_congr {f g : Nat → Bool} : ∀ k, (∀ j, j < k → f j = g j) → cnt f k = cnt g k
  | 0, _ => rfl
  | k + 1, h => by simp only [cnt]; rw [cnt_congr k (fun j hj => h j (by omega)), h k (by omega)]
/-- a net as it may be -/
def VOk (v : Nv) : Prop := vJ v ≤ 10 ∧ vS v ≤ 14 ∧ cnt (vF v) (vJ v) ≤ 5 ∧ (∀ s, s < vS v → vA v s < vJ v ∧ vB v s < vJ v ∧ vA v s ≠ vB v s ∧ 1 ≤ vQ v s ∧ vQ v s ≤ 5 ∧ 0 ≤ vW v s ∧ vW v s ≤ 99) ∧ (∀ j, j < vJ v → -9 ≤ vLd v j ∧ vLd v j ≤ 9) ∧ (∀ j a, 0 ≤ vP v j a ∧ vP v j a ≤ 60) ∧ (∀ j, j < vJ v → vF v j = true → cnt (fun s => decide (vA v s = j ∨ vB v s = j)) (vS v) ≤ 4) ∧ 1 ≤ vR v ∧ vR v ≤ 99 ∧ 0 ≤ vE v ∧ vE v ≤ 50
/-- closed sets of joints; hung: in each of them -/
def Cl (v : Nv) (G Y : Nat → Prop) : Prop := (∀ j, j < vJ v → vF v j = false → Y j) ∧ ∀ s, s < vS v → G s → (Y (vA v s) ↔ Y (vB v s))
def hg (v : Nv) (G : Nat → Prop) (j : Nat) : Prop := ∀ Y, Cl v G Y → Y j
/-- all free joints are hung by the strands that hang -/
def aH (v : Nv) (G : Nat → Prop) : Prop := ∀ j, j < vJ v → vF v j = true → hg v G j
def hgV (v : Nv) : Nat → Prop := fun s => vH v s = true
/-- the class's net n -/
def cV (h : Hp) (n : Nat) : Nv :=
  ((h.1 n 0).toNat, (h.1 n 2).toNat, fun j => decide ((j : Int) < h.1 n 0 ∧ tb (h.1 n 1) j), fun j a => if (j : Int) < h.1 n 0 ∧ ¬ tb (h.1 n 1) j ∧ a < 3 then h.1 (n + 1) (j * 3 + a) else 0, fun j => if (j : Int) < h.1 n 0 then h.1 (n + 2) j else 0,
   fun s => if (s : Int) < h.1 n 2 then (h.1 (n + 3) s).toNat else 0, fun s => if (s : Int) < h.1 n 2 then (h.1 (n + 4) s).toNat else 0, fun s => if (s : Int) < h.1 n 2 then h.1 (n + 5) s else 0, fun s => if (s : Int) < h.1 n 2 then h.1 (n + 6) s else 0, fun s => decide ((s : Int) < h.1 n 2 ∧ tb (h.1 n 3) s), h.1 n 4, h.1 n 5)
def NOk (h : Hp) (n : Nat) : Prop :=
  (0 ≤ h.1 n 0 ∧ h.1 n 0 ≤ 10) ∧ (0 ≤ h.1 n 1 ∧ h.1 n 1 < 2 ^ (h.1 n 0).toNat) ∧ (0 ≤ h.1 n 2 ∧ h.1 n 2 ≤ 14) ∧ (0 ≤ h.1 n 3 ∧ h.1 n 3 < 2 ^ (h.1 n 2).toNat) ∧
  (∀ s : Nat, (s : Int) < h.1 n 2 → 0 ≤ h.1 (n + 3) s ∧ h.1 (n + 3) s < h.1 n 0 ∧ 0 ≤ h.1 (n + 4) s ∧ h.1 (n + 4) s < h.1 n 0) ∧ VOk (cV h n)
theorem NOk.f1 {h : Hp} {n : Nat} (k : NOk h n) : h.1 n 1 < 1024 := Int.lt_of_lt_of_le k.2.1.2 (by have := p2le (show (h.1 n 0).toNat ≤ 10 by have := k.1; omega); omega)
theorem NOk.f3 {h : Hp} {n : Nat} (k : NOk h n) : h.1 n 3 < 16384 := Int.lt_of_lt_of_le k.2.2.2.1.2 (by have := p2le (show (h.1 n 2).toNat ≤ 14 by have := k.2.2.1; omega); omega)
theorem cV_A {h : Hp} {n s : Nat} (k : NOk h n) (hs : (s : Int) < h.1 n 2) : h.1 (n + 3) s = (vA (cV h n) s : Int) := by
  show h.1 (n + 3) s = ((if (s : Int) < h.1 n 2 then (h.1 (n + 3) s).toNat else 0 : Nat) : Int)
  rw [if_pos hs]
  have := (k.2.2.2.2.1 s hs).1
  omega
theorem cV_B {h : Hp} {n s : Nat} (k : NOk h n) (hs : (s : Int) < h.1 n 2) : h.1 (n + 4) s = (vB (cV h n) s : Int) := by
  show h.1 (n + 4) s = ((if (s : Int) < h.1 n 2 then (h.1 (n + 4) s).toNat else 0 : Nat) : Int)
  rw [if_pos hs]
  have := (k.2.2.2.2.1 s hs).2.2.1
  omega
theorem cV_Q {h : Hp} {n s : Nat} (hs : (s : Int) < h.1 n 2) : h.1 (n + 5) s = vQ (cV h n) s := (if_pos hs).symm
theorem cV_W {h : Hp} {n s : Nat} (hs : (s : Int) < h.1 n 2) : h.1 (n + 6) s = vW (cV h n) s := (if_pos hs).symm
theorem cV_L {h : Hp} {n j : Nat} (hs : (j : Int) < h.1 n 0) : h.1 (n + 2) j = vLd (cV h n) j := (if_pos hs).symm
theorem cV_F {h : Hp} {n j : Nat} (k : NOk h n) : tb (h.1 n 1) j ↔ vF (cV h n) j = true := by
  show _ ↔ decide ((j : Int) < h.1 n 0 ∧ tb (h.1 n 1) j) = true
  rw [decide_eq_true_iff]
  constructor
  · intro q
    refine ⟨?_, q⟩
    rcases Int.lt_or_le (j : Int) (h.1 n 0) with z | z
    · exact z
    · exact absurd q (tb_lt k.2.1.2 (by have := k.1; omega) k.2.1.1)
  · exact fun q => q.2
theorem cV_H {h : Hp} {n s : Nat} (k : NOk h n) : tb (h.1 n 3) s ↔ vH (cV h n) s = true := by
  show _ ↔ decide ((s : Int) < h.1 n 2 ∧ tb (h.1 n 3) s) = true
  rw [decide_eq_true_iff]
  constructor
  · intro q
    refine ⟨?_, q⟩
    rcases Int.lt_or_le (s : Int) (h.1 n 2) with z | z
    · exact z
    · exact absurd q (tb_lt k.2.2.2.1.2 (by have := k.2.2.1; omega) k.2.2.2.1.1)
  · exact fun q => q.2
theorem cV_P {h : Hp} {n j a : Nat} (k : NOk h n) (hj : (j : Int) < h.1 n 0) (hf : vF (cV h n) j = false) (ha : a < 3) : h.1 (n + 1) (j * 3 + a) = vP (cV h n) j a := by
  refine (if_pos ⟨hj, fun q => ?_, ha⟩).symm
  rw [(cV_F k).mp q] at hf
  cases hf
theorem cV_J {h : Hp} {n : Nat} (k : NOk h n) : h.1 n 0 = (vJ (cV h n) : Int) := by
  show h.1 n 0 = ((h.1 n 0).toNat : Int)
  have := k.1
  omega
theorem cV_S {h : Hp} {n : Nat} (k : NOk h n) : h.1 n 2 = (vS (cV h n) : Int) := by
  show h.1 n 2 = ((h.1 n 2).toNat : Int)
  have := k.2.2.1
  omega
-- bits, more
theorem tb_ext {x y : Int} (hx : 0 ≤ x) (hy : 0 ≤ y) (h : ∀ j, tb x j ↔ tb y j) : x = y := by
  have : x.toNat = y.toNat := Nat.eq_of_testBit_eq (fun i => by
    have := h i
    unfold tb at this
    cases e1 : x.toNat.testBit i <;> cases e2 : y.toNat.testBit i <;> simp_all)
  omega
theorem tb_ne {x y : Int} (hx : 0 ≤ x) (hy : 0 ≤ y) (h : x ≠ y) : ∃ j, ¬ (tb x j ↔ tb y j) := Classical.byContradiction fun q => h (tb_ext hx hy (fun j => Classical.byContradiction fun z => q ⟨j, z⟩))
theorem tb_and0 {x y : Int} : ((x.toNat &&& y.toNat : Nat) : Int) = 0 ↔ ∀ j, ¬ (tb x j ∧ tb y j) := by
  constructor
  · intro e j q
    have := tb_and.mpr q
    rw [e] at this
    simp [tb] at this
  · intro q
    refine tb_ext (Int.natCast_nonneg _) (Int.le_refl 0) (fun j => ?_)
    rw [tb_and]
    constructor
    · intro z; exact absurd z (q j)
    · intro z; simp [tb] at z
theorem tb_2 {a b i : Nat} : tb (((1 * (2 : Int) ^ a).toNat ||| (1 * (2 : Int) ^ b).toNat : Nat) : Int) i ↔ i = a ∨ i = b := by rw [tb_or, tb_one, tb_one]
theorem tb_sub {x : Int} {k : Nat} (h0 : 0 ≤ x) (h : ∀ j, tb x j → j < k) : x < 2 ^ k := by
  rw [p2n]
  have : x.toNat < 2 ^ k := Nat.lt_pow_two_of_testBit _ (fun i hi => by
    cases e : x.toNat.testBit i
    · rfl
    · exact absurd (h i e) (by omega))
  omega
theorem tb_pm1 {k i : Nat} : tb (1 * 2 ^ k - 1) i ↔ i < k := by
  have : ((1 : Int) * 2 ^ k - 1).toNat = 2 ^ k - 1 := by rw [p2n]; omega
  unfold tb
  rw [this, Nat.testBit_two_pow_sub_one]
  simp
