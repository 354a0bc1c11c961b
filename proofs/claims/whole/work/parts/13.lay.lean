/-! The cells by their places: nets, shapes; what the references are. -/
abbrev isNet (n : Nat) : Prop := 24 ≤ n ∧ n ≤ 80 ∧ n % 7 = 3
abbrev isShp (s : Nat) : Prop := s = 7 ∨ s = 87
theorem lyNet_all : ∀ j, j < 9 → ∀ k, k < 7 → cLy.2[24 + 7 * j + k]? = netC[k]? := by
  have h : (List.range 9).all (fun j => (List.range 7).all (fun k => decide (cLy.2[24 + 7 * j + k]? = netC[k]?))) = true := by decide +kernel
  intro j hj k hk
  have h1 := List.all_eq_true.mp h j (List.mem_range.mpr hj)
  have h2 := List.all_eq_true.mp h1 k (List.mem_range.mpr hk)
  exact of_decide_eq_true h2
theorem lyNet {n : Nat} (hn : isNet n) (k : Nat) (hk : k < 7) : cLy.2[n + k]? = netC[k]? := by
  have e : n = 24 + 7 * ((n - 24) / 7) := by omega
  have := lyNet_all ((n - 24) / 7) (by omega) k hk
  rwa [← e] at this
theorem lyN0 {n : Nat} (hn : isNet n) : cLy.2[n]? = some (.inl (2, netK)) := lyNet hn 0 (by decide)
theorem lyN1 {n : Nat} (hn : isNet n) : cLy.2[n + 1]? = some (.inr (0, 30)) := lyNet hn 1 (by decide)
theorem lyN2 {n : Nat} (hn : isNet n) : cLy.2[n + 2]? = some (.inr (0, 10)) := lyNet hn 2 (by decide)
theorem lyN3 {n : Nat} (hn : isNet n) : cLy.2[n + 3]? = some (.inr (0, 14)) := lyNet hn 3 (by decide)
theorem lyN4 {n : Nat} (hn : isNet n) : cLy.2[n + 4]? = some (.inr (0, 14)) := lyNet hn 4 (by decide)
theorem lyN5 {n : Nat} (hn : isNet n) : cLy.2[n + 5]? = some (.inr (0, 14)) := lyNet hn 5 (by decide)
theorem lyN6 {n : Nat} (hn : isNet n) : cLy.2[n + 6]? = some (.inr (0, 14)) := lyNet hn 6 (by decide)
theorem lyShp {s : Nat} (hs : isShp s) (k : Nat) (hk : k < 10) : cLy.2[s + k]? = shpC[k]? := by
  have h : ∀ k, k < 10 → cLy.2[7 + k]? = shpC[k]? := by decide +kernel
  have h2 : ∀ k, k < 10 → cLy.2[87 + k]? = shpC[k]? := by decide +kernel
  rcases hs with rfl | rfl
  · exact h k hk
  · exact h2 k hk
theorem lyS0 {s : Nat} (hs : isShp s) : cLy.2[s]? = some (.inl (4, shpK)) := lyShp hs 0 (by decide)
theorem lyS1 {s : Nat} (hs : isShp s) : cLy.2[s + 1]? = some (.inr (0, 10)) := lyShp hs 1 (by decide)
theorem lyS2 {s : Nat} (hs : isShp s) : cLy.2[s + 2]? = some (.inr (4, 5)) := lyShp hs 2 (by decide)
theorem lyS3 {s : Nat} (hs : isShp s) : cLy.2[s + 3]? = some (.inr (0, 30)) := lyShp hs 3 (by decide)
theorem lyS4 {s : Nat} (hs : isShp s) : cLy.2[s + 4]? = some (.inr (0, 14)) := lyShp hs 4 (by decide)
theorem lyRow {s i : Nat} (hs : isShp s) (hi : i < 5) : cLy.2[s + 5 + i]? = some (.inr (1, 8)) := by
  rw [Nat.add_assoc, lyShp hs (5 + i) (by omega)]
  match i, hi with
  | 0, _ => rfl
  | 1, _ => rfl
  | 2, _ => rfl
  | 3, _ => rfl
  | 4, _ => rfl
  | i + 5, hi => exact absurd hi (by omega)
/-- where the references of the class's region lead (net and draft apart) -/
def ROk (R : Nat → Nat → Nat) : Prop :=
  (∀ n, isNet n → R n 6 = n + 1 ∧ R n 7 = n + 2 ∧ R n 8 = n + 3 ∧ R n 9 = n + 4 ∧ R n 10 = n + 5 ∧ R n 11 = n + 6) ∧
  (∀ s, isShp s → R s 0 = s + 1 ∧ R s 1 = s + 2 ∧ R s 2 = s + 3 ∧ R s 3 = s + 4 ∧ ∀ i, i < 5 → R (s + 2) i = s + 5 + i) ∧
  (R 0 0 = 1 ∧ R 0 1 = 3 ∧ R 0 2 = 5 ∧ R 0 3 = 7 ∧ R 0 4 = 17 ∧ R 0 5 = 18) ∧ (R 1 0 = 2 ∧ R 3 0 = 4 ∧ R 5 0 = 6 ∧ ∀ i, i < 6 → R 6 i = 45 + 7 * i) ∧
  (R 17 0 = 38 ∧ R 17 1 = 87) ∧ (R 18 0 = 19 ∧ R 18 1 = 20 ∧ R 18 2 = 21 ∧ R 18 3 = 22 ∧ R 18 7 = 23)
section ROKS
variable {R : Nat → Nat → Nat} {n s : Nat}
theorem rN6 (h : ROk R) (hn : isNet n) : R n 6 = n + 1 := (h.1 n hn).1
theorem rN7 (h : ROk R) (hn : isNet n) : R n 7 = n + 2 := (h.1 n hn).2.1
theorem rN8 (h : ROk R) (hn : isNet n) : R n 8 = n + 3 := (h.1 n hn).2.2.1
theorem rN9 (h : ROk R) (hn : isNet n) : R n 9 = n + 4 := (h.1 n hn).2.2.2.1
theorem rN10 (h : ROk R) (hn : isNet n) : R n 10 = n + 5 := (h.1 n hn).2.2.2.2.1
theorem rN11 (h : ROk R) (hn : isNet n) : R n 11 = n + 6 := (h.1 n hn).2.2.2.2.2
theorem rS0 (h : ROk R) (hs : isShp s) : R s 0 = s + 1 := (h.2.1 s hs).1
theorem rS1 (h : ROk R) (hs : isShp s) : R s 1 = s + 2 := (h.2.1 s hs).2.1
theorem rS2 (h : ROk R) (hs : isShp s) : R s 2 = s + 3 := (h.2.1 s hs).2.2.1
theorem rS3 (h : ROk R) (hs : isShp s) : R s 3 = s + 4 := (h.2.1 s hs).2.2.2.1
theorem rSr (h : ROk R) (hs : isShp s) {i : Nat} (hi : i < 5) : R (s + 2) i = s + 5 + i := (h.2.1 s hs).2.2.2.2 i hi
theorem rX7_0 (h : ROk R) : R 0 0 = 1 := h.2.2.1.1
theorem rX7_1 (h : ROk R) : R 0 1 = 3 := h.2.2.1.2.1
theorem rX7_2 (h : ROk R) : R 0 2 = 5 := h.2.2.1.2.2.1
theorem rX7_3 (h : ROk R) : R 0 3 = 7 := h.2.2.1.2.2.2.1
theorem rX7_4 (h : ROk R) : R 0 4 = 17 := h.2.2.1.2.2.2.2.1
theorem rX7_5 (h : ROk R) : R 0 5 = 18 := h.2.2.1.2.2.2.2.2
theorem rX1_0 (h : ROk R) : R 1 0 = 2 := h.2.2.2.1.1
theorem rX5_0 (h : ROk R) : R 3 0 = 4 := h.2.2.2.1.2.1
theorem rX3_0 (h : ROk R) : R 5 0 = 6 := h.2.2.2.1.2.2.1
theorem rX3_i (h : ROk R) {i : Nat} (hi : i < 6) : R 6 i = 45 + 7 * i := h.2.2.2.1.2.2.2 i hi
theorem rX6_0 (h : ROk R) : R 17 0 = 38 := h.2.2.2.2.1.1
theorem rX6_1 (h : ROk R) : R 17 1 = 87 := h.2.2.2.2.1.2
theorem rX0_0 (h : ROk R) : R 18 0 = 19 := h.2.2.2.2.2.1
theorem rX0_1 (h : ROk R) : R 18 1 = 20 := h.2.2.2.2.2.2.1
theorem rX0_2 (h : ROk R) : R 18 2 = 21 := h.2.2.2.2.2.2.2.1
theorem rX0_3 (h : ROk R) : R 18 3 = 22 := h.2.2.2.2.2.2.2.2.1
theorem rX0_7 (h : ROk R) : R 18 7 = 23 := h.2.2.2.2.2.2.2.2.2
end ROKS
/-- the model's -/
def MOk (R : Nat → Nat → Nat) : Prop := R 0 1 = 1 ∧ R 0 3 = 2 ∧ R 0 4 = 3 ∧ R 0 5 = 4 ∧ R 0 7 = 5 ∧ R 0 10 = 6 ∧ R 0 11 = 7 ∧ R 0 12 = 8 ∧ R 0 13 = 9 ∧ R 0 16 = 10 ∧ R 0 17 = 11 ∧ R 0 18 = 12 ∧ R 0 19 = 13 ∧ R 0 20 = 14 ∧ R 0 22 = 15 ∧ R 0 23 = 16
section MOKS
variable {R : Nat → Nat → Nat}
theorem rX8_1 (h : MOk R) : R 0 1 = 1 := h.1
theorem rX8_3 (h : MOk R) : R 0 3 = 2 := h.2.1
theorem rX8_4 (h : MOk R) : R 0 4 = 3 := h.2.2.1
theorem rX8_5 (h : MOk R) : R 0 5 = 4 := h.2.2.2.1
theorem rX8_7 (h : MOk R) : R 0 7 = 5 := h.2.2.2.2.1
theorem rX8_10 (h : MOk R) : R 0 10 = 6 := h.2.2.2.2.2.1
theorem rX8_11 (h : MOk R) : R 0 11 = 7 := h.2.2.2.2.2.2.1
theorem rX8_12 (h : MOk R) : R 0 12 = 8 := h.2.2.2.2.2.2.2.1
theorem rX8_13 (h : MOk R) : R 0 13 = 9 := h.2.2.2.2.2.2.2.2.1
theorem rX8_16 (h : MOk R) : R 0 16 = 10 := h.2.2.2.2.2.2.2.2.2.1
theorem rX8_17 (h : MOk R) : R 0 17 = 11 := h.2.2.2.2.2.2.2.2.2.2.1
theorem rX8_18 (h : MOk R) : R 0 18 = 12 := h.2.2.2.2.2.2.2.2.2.2.2.1
theorem rX8_19 (h : MOk R) : R 0 19 = 13 := h.2.2.2.2.2.2.2.2.2.2.2.2.1
theorem rX8_20 (h : MOk R) : R 0 20 = 14 := h.2.2.2.2.2.2.2.2.2.2.2.2.2.1
theorem rX8_22 (h : MOk R) : R 0 22 = 15 := h.2.2.2.2.2.2.2.2.2.2.2.2.2.2.1
theorem rX8_23 (h : MOk R) : R 0 23 = 16 := h.2.2.2.2.2.2.2.2.2.2.2.2.2.2.2
end MOKS
-- reads behind writes
section HRD
variable {h : Hp} {i k a b src dst n : Nat} {x : Int} {y : Nat}
theorem hI_eq : (hI h i k x).1 i k = x := if_pos ⟨rfl, rfl⟩
theorem hI_ni (q : a ≠ i) : (hI h i k x).1 a b = h.1 a b := if_neg (fun z => q z.1)
theorem hI_nk (q : b ≠ k) : (hI h i k x).1 a b = h.1 a b := if_neg (fun z => q z.2)
theorem hI_L : (hI h i k x).2.1 = h.2.1 := rfl
theorem hI_R : (hI h i k x).2.2 = h.2.2 := rfl
theorem hL_eq : (hL h i k x).2.1 i k = x := if_pos ⟨rfl, rfl⟩
theorem hL_ni (q : a ≠ i) : (hL h i k x).2.1 a b = h.2.1 a b := if_neg (fun z => q z.1)
theorem hL_nk (q : b ≠ k) : (hL h i k x).2.1 a b = h.2.1 a b := if_neg (fun z => q z.2)
theorem hL_I : (hL h i k x).1 = h.1 := rfl
theorem hL_R : (hL h i k x).2.2 = h.2.2 := rfl
theorem hI_rd : (hI h i k x).1 a b = if a = i ∧ b = k then x else h.1 a b := rfl
theorem hL_rd : (hL h i k x).2.1 a b = if a = i ∧ b = k then x else h.2.1 a b := rfl
theorem hC_rd : (hC h src dst n).1 a b = if a = dst ∧ b < n then h.1 src b else h.1 a b := rfl
theorem hC_L : (hC h src dst n).2.1 = h.2.1 := rfl
theorem hC_R : (hC h src dst n).2.2 = h.2.2 := rfl
theorem hp_ext {h g : Hp} (h1 : ∀ a b, h.1 a b = g.1 a b) (h2 : ∀ a b, h.2.1 a b = g.2.1 a b) (h3 : h.2.2 = g.2.2) : h = g := by
  obtain ⟨a, b, c⟩ := h
  obtain ⟨a', b', c'⟩ := g
  have e1 : a = a' := by funext i j; exact h1 i j
  have e2 : b = b' := by funext i j; exact h2 i j
  have e3 : c = c' := h3
  rw [e1, e2, e3]
end HRD
