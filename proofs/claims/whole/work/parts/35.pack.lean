/-! Rolls: first fit, ways to place. -/
def up (L : Nat → Int) (r : Nat) (x : Int) : Nat → Int := fun i => if i = r then x else L i
theorem up_eq {L : Nat → Int} {r : Nat} {x : Int} : up L r x r = x := if_pos rfl
theorem up_ne {L : Nat → Int} {r i : Nat} {x : Int} (h : i ≠ r) : up L r x i = L i := if_neg h
def lsf (L : Nat → Int) (x : Int) : Nat → Nat
  | 0 => 0
  | n + 1 => if lsf L x n < n then lsf L x n else if x ≤ L n then n else n + 1
theorem lsf_n {L : Nat → Int} {x : Int} : ∀ n, (∀ i, i < n → L i < x) → lsf L x n = n
  | 0, _ => rfl
  | n + 1, h => by
    have ih := lsf_n n (fun i hi => h i (by omega))
    have := h n (by omega)
    simp only [lsf]
    rw [ih, if_neg (by omega), if_neg (by omega)]
theorem lsf_of {L : Nat → Int} {x : Int} {r : Nat} : ∀ n, r < n → (∀ i, i < r → L i < x) → x ≤ L r → lsf L x n = r
  | 0, h, _, _ => by omega
  | n + 1, h, h1, h2 => by
    simp only [lsf]
    by_cases e : r = n
    · subst e
      rw [lsf_n r h1, if_neg (by omega), if_pos h2]
    · rw [lsf_of n (by omega) h1 h2, if_pos (by omega)]
/-- the order of first fit: longest first, of two as long the one with the smaller number -/
def bef (v : Nv) (a b : Nat) : Prop := len v b < len v a ∨ (len v a = len v b ∧ a < b)
def isOrd (v : Nv) (P : Nat) (o : Nat → Nat) : Prop := (∀ k, k < P → o k < vS v ∧ vH v (o k) = true) ∧ (∀ i j, i < j → j < P → bef v (o i) (o j)) ∧ ∀ s, s < vS v → vH v s = true → ∃ k, k < P ∧ o k = s
theorem bef_ne {v : Nv} {a b : Nat} (h : bef v a b) : a ≠ b := by rintro rfl; unfold bef at h; omega
theorem bef_as {v : Nv} {a b : Nat} (h : bef v a b) (g : bef v b a) : False := by unfold bef at *; omega
theorem isOrd_inj {v : Nv} {P : Nat} {o : Nat → Nat} (h : isOrd v P o) {i j : Nat} (hi : i < P) (hj : j < P) (e : o i = o j) : i = j := by
  rcases Nat.lt_trichotomy i j with l | l | l
  · exact absurd e (bef_ne (h.2.1 i j l hj))
  · exact l
  · exact absurd e.symm (bef_ne (h.2.1 j i l hi))
theorem isOrd_le {v : Nv} {P Q : Nat} {o p : Nat → Nat} (h : isOrd v P o) (g : isOrd v Q p) : ∀ k, k < P → k < Q → o k = p k := by
  intro k
  induction k using Nat.strongRecOn with
  | ind k ih =>
    intro hk hq
    obtain ⟨i, hi, ei⟩ := g.2.2 (o k) (h.1 k hk).1 (h.1 k hk).2
    obtain ⟨j, hj, ej⟩ := h.2.2 (p k) (g.1 k hq).1 (g.1 k hq).2
    have i1 : k ≤ i := Nat.le_of_not_lt fun l => by
      have := ih i l (by omega) hi
      have := isOrd_inj h (i := i) (j := k) (by omega) hk (this.trans ei)
      omega
    have j1 : k ≤ j := Nat.le_of_not_lt fun l => by
      have := ih j l hj (by omega)
      have := isOrd_inj g (i := j) (j := k) (by omega) hq (this.symm.trans ej)
      omega
    by_cases e : i = k
    · rw [← ei, e]
    · by_cases e2 : j = k
      · rw [← ej, e2]
      · have b1 := g.2.1 k i (by omega) hi
        have b2 := h.2.1 k j (by omega) hj
        rw [ei] at b1
        rw [ej] at b2
        exact absurd b2 (fun z => bef_as b1 z)
theorem isOrd_P {v : Nv} {P Q : Nat} {o p : Nat → Nat} (h : isOrd v P o) (g : isOrd v Q p) : P = Q := by
  have key : ∀ {P Q : Nat} {o p : Nat → Nat}, isOrd v P o → isOrd v Q p → ¬ P < Q := fun {P Q o p} h g l => by
    obtain ⟨i, hi, ei⟩ := h.2.2 (p P) (g.1 P l).1 (g.1 P l).2
    have := isOrd_le h g i hi (by omega)
    have := isOrd_inj g (i := i) (j := P) (by omega) l (this.symm.trans ei)
    omega
  have a := key h g
  have b := key g h
  omega
theorem isOrd_cnt {v : Nv} {P : Nat} {o : Nat → Nat} (h : isOrd v P o) (g : Nat → Int) : sm (fun k => g (o k)) P = sm (fun s => if vH v s = true then g s else 0) (vS v) := by
  rw [sm_congr (g := fun k => sm (fun s => if s = o k then g s else 0) (vS v)) P (fun k hk => by
    rw [sm_congr (g := fun s => if s = o k then g (o k) else 0) (vS v) (fun s _ => by grind), sm_one, if_pos (h.1 k hk).1]), sm_swap]
  refine sm_congr (vS v) (fun s hs => ?_)
  by_cases q : vH v s = true
  · obtain ⟨k, hk, ek⟩ := h.2.2 s hs q
    rw [if_pos q, sm_congr (g := fun i => if i = k then g s else 0) P (fun i hi => by
      by_cases e : i = k
      · rw [if_pos e, if_pos (by rw [e, ek])]
      · rw [if_neg e, if_neg (fun z => e (isOrd_inj h hi hk (z.symm.trans ek.symm)))]), sm_one, if_pos hk]
  · rw [if_neg q, sm_congr (g := fun _ => 0) P (fun i hi => if_neg (fun z => q (by rw [z]; exact (h.1 i hi).2))), sm_z]
noncomputable def szV (v : Nv) (s : Nat) : Int := len v s + vE v
/-- first fit over the sizes x -/
def ff (Z : Int) (x : Nat → Int) : Nat → (Nat → Int) × Nat
  | 0 => (fun _ => Z, 0)
  | k + 1 => (up (ff Z x k).1 (lsf (ff Z x k).1 (x k) 14) ((ff Z x k).1 (lsf (ff Z x k).1 (x k) 14) - x k), if (ff Z x k).2 < lsf (ff Z x k).1 (x k) 14 + 1 then lsf (ff Z x k).1 (x k) 14 + 1 else (ff Z x k).2)
abbrev ffr (Z : Int) (x : Nat → Int) (k : Nat) : Nat := lsf (ff Z x k).1 (x k) 14
theorem ff_c {Z : Int} {x y : Nat → Int} : ∀ k, (∀ i, i < k → x i = y i) → ff Z x k = ff Z y k
  | 0, _ => rfl
  | k + 1, h => by
    simp only [ff]
    rw [ff_c k (fun i hi => h i (by omega)), h k (by omega)]
/-- what holds along first fit -/
theorem ff_inv {Z : Int} {x : Nat → Int} : ∀ k, k ≤ 14 → (∀ i, i < k → 0 ≤ x i ∧ x i ≤ Z) → (ff Z x k).2 ≤ k ∧ (∀ r, (ff Z x k).2 ≤ r → (ff Z x k).1 r = Z) ∧ (∀ r, 0 ≤ Z → 0 ≤ (ff Z x k).1 r ∧ (ff Z x k).1 r ≤ Z) ∧ sm (ff Z x k).1 (ff Z x k).2 = (ff Z x k).2 * Z - sm x k
  | 0, _, _ => by
    refine ⟨Nat.le_refl 0, fun _ _ => rfl, fun r hz => ⟨hz, Int.le_refl _⟩, ?_⟩
    show (0 : Int) = (0 : Nat) * Z - 0
    simp
  | k + 1, hk, h => by
    obtain ⟨i1, i2, i3, i4⟩ := ff_inv k (by omega) (fun i hi => h i (by omega))
    have hx := h k (by omega)
    generalize hL : (ff Z x k).1 = L at *
    generalize hu : (ff Z x k).2 = u at *
    have hle : lsf L (x k) 14 ≤ u := by
      by_cases q : ∃ r, r < u ∧ x k ≤ L r
      · have hex : ∃ r, r < u ∧ x k ≤ L r ∧ ∀ i, i < r → L i < x k := by
          obtain ⟨r, h1, h2⟩ := q
          induction r using Nat.strongRecOn with
          | ind r ih =>
            by_cases z : ∃ i, i < r ∧ x k ≤ L i
            · obtain ⟨i, hi, hi2⟩ := z
              exact ih i hi (by omega) hi2
            · exact ⟨r, h1, h2, fun i hi => by
                have : ¬ x k ≤ L i := fun w => z ⟨i, hi, w⟩
                omega⟩
        obtain ⟨r, h1, h2, h3⟩ := hex
        rw [lsf_of 14 (by omega) h3 h2]; omega
      · rw [lsf_of (r := u) 14 (by omega) (fun i hi => by have : ¬ x k ≤ L i := fun w => q ⟨i, hi, w⟩; omega) (by rw [i2 u (Nat.le_refl u)]; exact hx.2)]
        exact Nat.le_refl _
    have hfit : x k ≤ L (lsf L (x k) 14) := by
      by_cases q : ∃ r, r < 14 ∧ x k ≤ L r ∧ ∀ i, i < r → L i < x k
      · obtain ⟨r, h1, h2, h3⟩ := q
        rw [lsf_of 14 h1 h3 h2]; exact h2
      · exfalso
        have hall : ∀ r, r < 14 → L r < x k := by
          intro r
          induction r using Nat.strongRecOn with
          | ind r ih =>
            intro hr
            refine Classical.byContradiction fun z => q ⟨r, hr, by omega, fun i hi => ih i hi (by omega)⟩
        have := hall u (by omega)
        rw [i2 u (Nat.le_refl u)] at this
        omega
    have e1 : (ff Z x (k + 1)).1 = up L (lsf L (x k) 14) (L (lsf L (x k) 14) - x k) := by simp only [ff]; rw [hL]
    have e2 : (ff Z x (k + 1)).2 = if u < lsf L (x k) 14 + 1 then lsf L (x k) 14 + 1 else u := by simp only [ff]; rw [hL, hu]
    rw [e1, e2]
    generalize lsf L (x k) 14 = r at *
    refine ⟨by split <;> omega, fun i hi => ?_, fun i hz => ?_, ?_⟩
    · rw [up_ne (by split at hi <;> omega)]
      exact i2 i (by split at hi <;> omega)
    · by_cases e : i = r
      · rw [e, up_eq]; have := i3 r hz; omega
      · rw [up_ne e]; exact i3 i hz
    · have hs : ∀ n, sm (up L r (L r - x k)) n = sm L n - (if r < n then x k else 0) := by
        intro n
        rw [← sm_one (x := r) (q := x k) n, ← sm_sub]
        refine sm_congr n (fun i _ => ?_)
        by_cases e : i = r
        · rw [e, up_eq, if_pos rfl]
        · rw [up_ne e, if_neg e]; omega
      rw [hs]
      have hx1 : sm x (k + 1) = sm x k + x k := rfl
      by_cases q : u < r + 1
      · have : r = u := by omega
        subst this
        rw [if_pos q, if_pos (by omega)]
        have e3 : sm L (r + 1) = sm L r + L r := rfl
        rw [e3, i4, i2 r (Nat.le_refl r), hx1]
        push_cast
        rw [Int.add_mul]; omega
      · rw [if_neg q, if_pos (by omega), i4, hx1]; omega
theorem ffr_le {Z : Int} {x : Nat → Int} {k : Nat} (hk : k < 14) (h : ∀ i, i < k + 1 → 0 ≤ x i ∧ x i ≤ Z) : x k ≤ (ff Z x k).1 (ffr Z x k) ∧ ffr Z x k ≤ (ff Z x k).2 ∧ ffr Z x k < (ff Z x (k + 1)).2 := by
  obtain ⟨i1, i2, i3, i4⟩ := ff_inv (Z := Z) (x := x) k (by omega) (fun i hi => h i (by omega))
  have hx := h k (by omega)
  have hz : 0 ≤ Z := by omega
  have hpos := i3
  have hex : ∃ r, r ≤ (ff Z x k).2 ∧ x k ≤ (ff Z x k).1 r ∧ ∀ i, i < r → (ff Z x k).1 i < x k := by
    have : ∀ r, r ≤ (ff Z x k).2 → x k ≤ (ff Z x k).1 r → ∃ r, r ≤ (ff Z x k).2 ∧ x k ≤ (ff Z x k).1 r ∧ ∀ i, i < r → (ff Z x k).1 i < x k := by
      intro r
      induction r using Nat.strongRecOn with
      | ind r ih =>
        intro h1 h2
        by_cases z : ∃ i, i < r ∧ x k ≤ (ff Z x k).1 i
        · obtain ⟨i, hi, hi2⟩ := z
          exact ih i hi (by omega) hi2
        · exact ⟨r, h1, h2, fun i hi => by have : ¬ x k ≤ (ff Z x k).1 i := fun w => z ⟨i, hi, w⟩; omega⟩
    exact this _ (Nat.le_refl _) (by rw [i2 _ (Nat.le_refl _)]; exact hx.2)
  obtain ⟨r, h1, h2, h3⟩ := hex
  have e : ffr Z x k = r := lsf_of 14 (by omega) h3 h2
  refine ⟨by rw [e]; exact h2, by omega, ?_⟩
  show _ < if (ff Z x k).2 < ffr Z x k + 1 then ffr Z x k + 1 else (ff Z x k).2
  split <;> omega
/-! Placing the pieces from some on. m: how many are left to place. -/
def cp (t : Nat) (x : Nat → Int) (P : Nat) : Nat → (Nat → Int) → Prop
  | 0, _ => True
  | m + 1, L => ∃ r, r < t ∧ x (P - (m + 1)) ≤ L r ∧ cp t x P m (up L r (L r - x (P - (m + 1))))
section CP
variable {t P : Nat} {x : Nat → Int}
def swp (a b i : Nat) : Nat := if i = a then b else if i = b then a else i
theorem swp_lt {a b i : Nat} (ha : a < t) (hb : b < t) (hi : i < t) : swp a b i < t := by unfold swp; grind
theorem swp_swp {a b i : Nat} : swp a b (swp a b i) = i := by unfold swp; grind
theorem cp_swp {a b : Nat} (ha : a < t) (hb : b < t) : ∀ m L, cp t x P m L → cp t x P m (fun i => L (swp a b i))
  | 0, _, _ => trivial
  | m + 1, L, h => by
    obtain ⟨r, h1, h2, h3⟩ := h
    refine ⟨swp a b r, swp_lt ha hb h1, by show _ ≤ L (swp a b (swp a b r)); rw [swp_swp]; exact h2, ?_⟩
    have := cp_swp ha hb m _ h3
    rw [show up (fun i => L (swp a b i)) (swp a b r) ((fun i => L (swp a b i)) (swp a b r) - x (P - (m + 1))) = fun i => up L r (L r - x (P - (m + 1))) (swp a b i) from funext fun i => by
      unfold up
      simp only [swp_swp]
      by_cases e : i = swp a b r
      · rw [if_pos e, if_pos (by rw [e, swp_swp])]
      · rw [if_neg e, if_neg (fun z => e (by rw [← z, swp_swp]))]]
    exact this
/-- of two rolls with as much left either serves -/
theorem cp_like {a b m : Nat} {L : Nat → Int} {y : Int} (ha : a < t) (hb : b < t) (e : L a = L b) (h : cp t x P m (up L a (L a - y))) : cp t x P m (up L b (L b - y)) := by
  have := cp_swp ha hb m _ h
  rwa [show (fun i => up L a (L a - y) (swp a b i)) = up L b (L b - y) from funext fun i => by
    unfold up swp
    by_cases q : i = a
    · by_cases q2 : b = a
      · rw [if_pos q, if_pos q2, if_pos (by omega), e]
      · rw [if_pos q, if_neg q2, if_neg (by omega), q, e]
    · by_cases q2 : i = b
      · rw [if_neg q, if_pos q2, if_pos rfl, if_pos q2, e]
      · rw [if_neg q, if_neg q2, if_neg q, if_neg q2]] at this
/-- what is left on two rolls serves better on one -/
theorem cp_merge {a b : Nat} (ha : a < t) (hb : b < t) (hab : a ≠ b) : ∀ m L, (∀ i, 0 ≤ L i) → (∀ k, 0 ≤ x k) → cp t x P m L → cp t x P m (up (up L a 0) b (L a + L b))
  | 0, _, _, _, _ => trivial
  | m + 1, L, hL, hx, h => by
    obtain ⟨r, h1, h2, h3⟩ := h
    have hxk := hx (P - (m + 1))
    generalize hy : x (P - (m + 1)) = y at *
    have hL' : ∀ i, 0 ≤ up L r (L r - y) i := fun i => by
      unfold up; split
      · omega
      · exact hL i
    have ih := cp_merge ha hb hab m _ hL' hx h3
    have la := hL a
    have lb := hL b
    by_cases ea : r = a
    · refine ⟨b, hb, by rw [up_eq, hy]; subst ea; omega, ?_⟩
      rw [hy, show up (up (up L a 0) b (L a + L b)) b (up (up L a 0) b (L a + L b) b - y) = up (up (up L r (L r - y)) a 0) b (up L r (L r - y) a + up L r (L r - y) b) from funext fun i => by
        subst ea
        unfold up
        grind]
      exact ih
    · by_cases eb : r = b
      · refine ⟨b, hb, by rw [up_eq, hy]; subst eb; omega, ?_⟩
        rw [hy, show up (up (up L a 0) b (L a + L b)) b (up (up L a 0) b (L a + L b) b - y) = up (up (up L r (L r - y)) a 0) b (up L r (L r - y) a + up L r (L r - y) b) from funext fun i => by
          subst eb
          unfold up
          grind]
        exact ih
      · refine ⟨r, h1, by rw [up_ne eb, up_ne ea, hy]; exact h2, ?_⟩
        rw [hy, show up (up (up L a 0) b (L a + L b)) r (up (up L a 0) b (L a + L b) r - y) = up (up (up L r (L r - y)) a 0) b (up L r (L r - y) a + up L r (L r - y) b) from funext fun i => by
          unfold up
          grind]
        exact ih
/-- where a piece uses up a roll, no other place for it does better -/
theorem cp_exact {a b m : Nat} {L : Nat → Int} {y : Int} (ha : a < t) (hb : b < t) (hL : ∀ i, 0 ≤ L i) (hx : ∀ k, 0 ≤ x k) (e : L a = y) (h2 : y ≤ L b) (h : cp t x P m (up L b (L b - y))) : cp t x P m (up L a (L a - y)) := by
  by_cases q : a = b
  · subst q; exact h
  · have ly := hL a
    have hL' : ∀ i, 0 ≤ up L b (L b - y) i := fun i => by
      unfold up; split
      · omega
      · exact hL i
    have := cp_merge ha hb q m _ hL' hx h
    rwa [show up (up (up L b (L b - y)) a 0) b (up L b (L b - y) a + up L b (L b - y) b) = up L a (L a - y) from funext fun i => by
      unfold up
      grind] at this
def lostS (t : Nat) (sh : Int) (L : Nat → Int) : Int := sm (fun r => if L r < sh then L r else 0) t
theorem sm_up {L : Nat → Int} {r n : Nat} {y : Int} (hr : r < n) : sm (up L r (L r - y)) n = sm L n - y := by
  have : sm (up L r (L r - y)) n = sm (fun i => L i - if i = r then y else 0) n := sm_congr n (fun i _ => by
    by_cases e : i = r
    · rw [e, up_eq, if_pos rfl]
    · rw [up_ne e, if_neg e]; omega)
  rw [this, sm_sub, sm_one, if_pos hr]
/-- what can't serve is lost -/
theorem cp_lost {sh : Int} (h0 : 0 ≤ sh) : ∀ m L, m ≤ P → (∀ i, 0 ≤ L i) → (∀ k, k < P → sh ≤ x k) → cp t x P m L → lostS t sh L + (sm x P - sm x (P - m)) ≤ sm L t
  | 0, L, _, hL, _, _ => by
    rw [Nat.sub_zero]
    have : lostS t sh L ≤ sm L t := sm_le t (fun i _ => by have := hL i; split <;> omega)
    omega
  | m + 1, L, hm, hL, hx, h => by
    obtain ⟨r, h1, h2, h3⟩ := h
    have hxk := hx (P - (m + 1)) (by omega)
    have hL' : ∀ i, 0 ≤ up L r (L r - x (P - (m + 1))) i := fun i => by
      unfold up; split
      · omega
      · exact hL i
    have ih := cp_lost h0 m _ (by omega) hL' hx h3
    rw [sm_up h1] at ih
    have hs : sm x (P - m) = sm x (P - (m + 1)) + x (P - (m + 1)) := by
      rw [show P - m = P - (m + 1) + 1 by omega]; rfl
    have hl : lostS t sh L ≤ lostS t sh (up L r (L r - x (P - (m + 1)))) := sm_le t (fun i _ => by
      by_cases e : i = r
      · rw [e, if_neg (by omega)]
        have := hL' r
        split <;> omega
      · rw [up_ne e]; exact Int.le_refl _)
    omega
end CP
