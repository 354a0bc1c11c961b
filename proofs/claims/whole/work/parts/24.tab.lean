/-! Sums; the table of a net; its pivots are above 0, its answers bounded. -/
def sm (f : Nat → Int) : Nat → Int
  | 0 => 0
  | k + 1 => sm f k + f k
theorem sm_congr {f g : Nat → Int} : ∀ n, (∀ i, i < n → f i = g i) → sm f n = sm g n
  | 0, _ => rfl
  | n + 1, h => by simp only [sm]; rw [sm_congr n (fun i hi => h i (by omega)), h n (by omega)]
theorem sm_add (f g : Nat → Int) : ∀ n, sm (fun i => f i + g i) n = sm f n + sm g n
  | 0 => rfl
  | n + 1 => by simp only [sm]; rw [sm_add f g n]; omega
theorem sm_sub (f g : Nat → Int) : ∀ n, sm (fun i => f i - g i) n = sm f n - sm g n
  | 0 => rfl
  | n + 1 => by simp only [sm]; rw [sm_sub f g n]; omega
theorem sm_neg (f : Nat → Int) : ∀ n, sm (fun i => -f i) n = -sm f n
  | 0 => rfl
  | n + 1 => by simp only [sm]; rw [sm_neg f n]; omega
theorem sm_mul (a : Int) (f : Nat → Int) : ∀ n, sm (fun i => a * f i) n = a * sm f n
  | 0 => by simp [sm]
  | n + 1 => by simp only [sm]; rw [sm_mul a f n, Int.mul_add]
theorem sm_le {f g : Nat → Int} : ∀ n, (∀ i, i < n → f i ≤ g i) → sm f n ≤ sm g n
  | 0, _ => Int.le_refl _
  | n + 1, h => by
    have a := sm_le n (fun i hi => h i (by omega))
    have b := h n (by omega)
    simp only [sm]; omega
theorem sm_z : ∀ n, sm (fun _ => 0) n = 0
  | 0 => rfl
  | n + 1 => by simp only [sm]; rw [sm_z n]; rfl
theorem sm_c (a : Int) : ∀ n : Nat, sm (fun _ => a) n = a * n
  | 0 => by simp [sm]
  | n + 1 => by simp only [sm]; rw [sm_c a n]; push_cast; rw [Int.mul_add]; omega
theorem sm_nn {f : Nat → Int} (n : Nat) (h : ∀ i, i < n → 0 ≤ f i) : 0 ≤ sm f n := by
  have := sm_le (f := fun _ => 0) (g := f) n h
  rw [sm_z] at this; exact this
theorem sm_one {x : Nat} {q : Int} : ∀ n, sm (fun c => if c = x then q else 0) n = if x < n then q else 0
  | 0 => by simp [sm]
  | n + 1 => by
    simp only [sm]
    rw [sm_one n]
    by_cases e : n = x
    · subst e; rw [if_neg (by omega), if_pos rfl, if_pos (by omega)]; omega
    · rw [if_neg e]
      by_cases l : x < n
      · rw [if_pos l, if_pos (by omega)]; omega
      · rw [if_neg l, if_neg (by omega)]; omega
theorem sm_swap (f : Nat → Nat → Int) (m : Nat) : ∀ n, sm (fun i => sm (fun j => f i j) m) n = sm (fun j => sm (fun i => f i j) n) m
  | 0 => by simp only [sm]; rw [sm_z]
  | n + 1 => by simp only [sm]; rw [sm_swap f m n, ← sm_add]
theorem sm_gt {f g : Nat → Int} {x : Int} : ∀ n, (∀ i, i < n → f i ≤ g i) → (∃ i, i < n ∧ f i + x ≤ g i) → sm f n + x ≤ sm g n
  | 0, _, h => by obtain ⟨i, hi, _⟩ := h; omega
  | n + 1, h, h2 => by
    obtain ⟨i, hi, hx⟩ := h2
    simp only [sm]
    by_cases e : i = n
    · subst e
      have := sm_le (f := f) (g := g) i (fun j hj => h j (by omega))
      omega
    · have := sm_gt n (fun j hj => h j (by omega)) ⟨i, by omega, hx⟩
      have := h n (by omega)
      omega
theorem sm_has {f : Nat → Int} {x : Int} {n i : Nat} (h : ∀ i, i < n → 0 ≤ f i) (hi : i < n) (hx : x ≤ f i) : x ≤ sm f n := by
  have := sm_gt (f := fun _ => 0) (g := f) (x := x) n h ⟨i, hi, by omega⟩
  rw [sm_z] at this; omega
theorem sm_ab {f : Nat → Int} {x : Int} (n : Nat) (h : ∀ i, i < n → -x ≤ f i ∧ f i ≤ x) : -(x * n) ≤ sm f n ∧ sm f n ≤ x * n := by
  have a := sm_le (f := f) (g := fun _ => x) n (fun i hi => (h i hi).2)
  have b := sm_le (f := fun _ => -x) (g := f) n (fun i hi => (h i hi).1)
  rw [sm_c] at a b
  rw [Int.neg_mul] at b
  exact ⟨b, a⟩
-- products
theorem ab_mul {a b A B : Int} (ha : -A ≤ a ∧ a ≤ A) (hb : -B ≤ b ∧ b ≤ B) : -(A * B) ≤ a * b ∧ a * b ≤ A * B := by
  have hA : 0 ≤ A := by omega
  have hB : 0 ≤ B := by omega
  have h : ∀ x : Int, -B ≤ x → x ≤ B → ∀ y : Int, 0 ≤ y → y ≤ A → -(A * B) ≤ y * x ∧ y * x ≤ A * B := fun x h1 h2 y y0 yA => by
    have q1 : y * x ≤ y * B := Int.mul_le_mul_of_nonneg_left h2 y0
    have q2 : y * B ≤ A * B := Int.mul_le_mul_of_nonneg_right yA hB
    have q3 : y * -B ≤ y * x := Int.mul_le_mul_of_nonneg_left h1 y0
    rw [Int.mul_neg] at q3
    omega
  rcases Int.le_total 0 a with z | z
  · exact h b hb.1 hb.2 a z ha.2
  · have := h (-b) (by omega) (by omega) (-a) (by omega) (by omega)
    rw [Int.neg_mul_neg] at this
    exact this
theorem mul_np {a b : Int} (ha : 0 ≤ a) (hb : b ≤ 0) : a * b ≤ 0 := Int.mul_nonpos_of_nonneg_of_nonpos ha hb
theorem mul_nn {a b : Int} (ha : a ≤ 0) (hb : b ≤ 0) : 0 ≤ a * b := Int.mul_nonneg_of_nonpos_of_nonpos ha hb
theorem pos_of {d x : Int} (hd : 0 < d) (h : 0 < d * x) : 0 < x := by
  rcases Int.lt_or_le 0 x with z | z
  · exact z
  · have := mul_np (Int.le_of_lt hd) z; omega
theorem nn_of {d x : Int} (hd : 0 < d) (h : 0 ≤ d * x) : 0 ≤ x := by
  rcases Int.lt_or_le x 0 with z | z
  · have : 0 < d * -x := Int.mul_pos hd (by omega)
    rw [Int.mul_neg] at this; omega
  · exact z
theorem eq_of {d x y : Int} (hd : 0 < d) (h : d * x = d * y) : x = y := Int.eq_of_mul_eq_mul_left (by omega) h
/-! The step of elimination. -/
def Gd (N k : Nat) (d : Int) (T : Nat → Nat → Int) : Prop :=
  0 < d ∧ (∀ r c, r < N → c < k → T r c = if r = c then d else 0) ∧ (∀ r c, k ≤ r → r < N → k ≤ c → c < N → r ≠ c → T r c ≤ 0) ∧ (∀ r, k ≤ r → r < N → 0 ≤ sm (T r) N) ∧
  ∀ S : Nat → Prop, (∃ r, S r) → (∀ r, S r → k ≤ r ∧ r < N) → ∃ r, S r ∧ (0 < sm (T r) N ∨ ∃ c, k ≤ c ∧ c < N ∧ ¬ S c ∧ T r c < 0)
theorem Gd.piv {N k : Nat} {d : Int} {T : Nat → Nat → Int} (g : Gd N k d T) (hk : k < N) : 0 < T k k := by
  obtain ⟨hd, hJ, hO, hR, hC⟩ := g
  have hs : sm (T k) N ≤ sm (fun c => if c = k then T k k else 0) N := sm_le N (fun c hc => by
    by_cases e : c = k
    · subst e; rw [if_pos rfl]; exact Int.le_refl _
    · rw [if_neg e]
      by_cases l : c < k
      · rw [hJ k c hk l, if_neg (by omega)]; exact Int.le_refl _
      · exact hO k c (Nat.le_refl k) hk (by omega) hc (by omega))
  rw [sm_one, if_pos hk] at hs
  obtain ⟨r, hr, h⟩ := hC (fun r => r = k) ⟨k, rfl⟩ (fun r hr => by omega)
  subst hr
  rcases h with h | ⟨c, c1, c2, c3, c4⟩
  · omega
  · have := sm_gt (f := T r) (g := fun x => if x = r then T r r else 0) (x := - T r c) N (fun x hx => by
      by_cases e : x = r
      · subst e; rw [if_pos rfl]; exact Int.le_refl _
      · rw [if_neg e]
        by_cases l : x < r
        · rw [hJ r x hk l, if_neg (by omega)]; exact Int.le_refl _
        · exact hO r x (Nat.le_refl r) hk (by omega) hx (by omega)) ⟨c, c2, by rw [if_neg c3]; omega⟩
    rw [sm_one, if_pos hk] at this
    have := hR r (Nat.le_refl r) hk
    omega
theorem Gd.step {N k : Nat} {d : Int} {T T' : Nat → Nat → Int} (g : Gd N k d T) (hk : k < N) (hT : ∀ r c, r < N → r ≠ k → d * T' r c = T k k * T r c - T r k * T k c) (hT2 : ∀ c, T' k c = T k c) : Gd N (k + 1) (T k k) T' := by
  have hp := g.piv hk
  obtain ⟨hd, hJ, hO, hR, hC⟩ := g
  have hsum : ∀ r, r < N → r ≠ k → d * sm (T' r) N = T k k * sm (T r) N - T r k * sm (T k) N := fun r hr hn => by
    rw [← sm_mul, ← sm_mul, ← sm_mul, ← sm_sub]
    exact sm_congr N (fun c _ => hT r c hr hn)
  have hRs : ∀ r, k + 1 ≤ r → r < N → 0 ≤ T k k * sm (T r) N ∧ 0 ≤ -(T r k * sm (T k) N) := fun r h1 h2 => by
    have a := Int.mul_nonneg (Int.le_of_lt hp) (hR r (by omega) h2)
    have b : sm (T k) N * T r k ≤ 0 := mul_np (hR k (Nat.le_refl k) hk) (hO r k (by omega) h2 (Nat.le_refl k) hk (by omega))
    rw [Int.mul_comm] at b
    exact ⟨a, by omega⟩
  have hOs : ∀ r c, k + 1 ≤ r → r < N → k + 1 ≤ c → c < N → r ≠ c → T k k * T r c ≤ 0 ∧ 0 ≤ T r k * T k c := fun r c r1 r2 c1 c2 e => ⟨mul_np (Int.le_of_lt hp) (hO r c (by omega) r2 (by omega) c2 e), mul_nn (hO r k (by omega) r2 (Nat.le_refl k) hk (by omega)) (hO k c (Nat.le_refl k) hk (by omega) c2 (by omega))⟩
  refine ⟨hp, fun r c hr hc => ?_, fun r c r1 r2 c1 c2 e => ?_, fun r h1 h2 => ?_, fun S hS hSb => ?_⟩
  · by_cases er : r = k
    · subst er
      rw [hT2]
      by_cases ec : r = c
      · subst ec; rw [if_pos rfl]
      · rw [hJ r c hr (by omega), if_neg ec, if_neg ec]
    · have h := hT r c hr er
      by_cases ec : c = k
      · subst ec
        rw [if_neg er]
        refine eq_of hd ?_
        rw [h, Int.mul_comm, Int.mul_zero]; omega
      · rw [hJ r c hr (by omega), hJ k c hk (by omega), if_neg (fun q : k = c => ec q.symm), Int.mul_zero] at h
        refine eq_of hd ?_
        rw [h]
        by_cases e : r = c
        · rw [if_pos e, if_pos e, Int.sub_zero, Int.mul_comm]
        · rw [if_neg e, if_neg e]; simp
  · have h := hT r c r2 (by omega)
    have := hOs r c r1 r2 c1 c2 e
    have : 0 ≤ d * - T' r c := by rw [Int.mul_neg]; omega
    have := nn_of hd this
    omega
  · have h := hsum r h2 (by omega)
    have := hRs r h1 h2
    exact nn_of hd (by omega)
  · have good1 : ∀ r, S r → 0 < sm (T r) N → 0 < sm (T' r) N := fun r hr h => by
      have b := hSb r hr
      have h1 := hsum r b.2 (by omega)
      have h2 := hRs r b.1 b.2
      have := Int.mul_pos hp h
      exact pos_of hd (by omega)
    have good2 : ∀ r c, S r → k + 1 ≤ c → c < N → ¬ S c → T r c < 0 → T' r c < 0 := fun r c hr c1 c2 c3 h => by
      have b := hSb r hr
      have e : r ≠ c := fun q => c3 (q ▸ hr)
      have h1 := hT r c b.2 (by omega)
      have h2 := hOs r c b.1 b.2 c1 c2 e
      have : 0 < T k k * - T r c := Int.mul_pos hp (by omega)
      rw [Int.mul_neg] at this
      have : 0 < d * - T' r c := by rw [Int.mul_neg]; omega
      have := pos_of hd this
      omega
    obtain ⟨r, hr, h⟩ := hC S hS (fun r hr => by have := hSb r hr; omega)
    rcases h with h | ⟨c, c1, c2, c3, c4⟩
    · exact ⟨r, hr, .inl (good1 r hr h)⟩
    · by_cases ec : c = k
      · subst ec
        have br := hSb r hr
        obtain ⟨x, hx, h⟩ := hC (fun x => S x ∨ x = c) ⟨r, .inl hr⟩ (fun x hx => by rcases hx with hx | hx; have := hSb x hx; omega; omega)
        rcases h with h | ⟨y, y1, y2, y3, y4⟩
        · rcases hx with hx | hx
          · exact ⟨x, hx, .inl (good1 x hx h)⟩
          · subst hx
            refine ⟨r, hr, .inl ?_⟩
            have h1 := hsum r br.2 (by omega)
            have h2 := hRs r br.1 br.2
            have : 0 < - T r x * sm (T x) N := Int.mul_pos (by omega) h
            rw [Int.neg_mul] at this
            exact pos_of hd (by omega)
        · have yn : ¬ S y := fun q => y3 (.inl q)
          have ye : y ≠ c := fun q => y3 (.inr q)
          rcases hx with hx | hx
          · exact ⟨x, hx, .inr ⟨y, by omega, y2, yn, good2 x y hx (by omega) y2 yn y4⟩⟩
          · subst hx
            refine ⟨r, hr, .inr ⟨y, by omega, y2, yn, ?_⟩⟩
            have e : r ≠ y := fun q => yn (q ▸ hr)
            have h1 := hT r y br.2 (by omega)
            have h2 := hOs r y br.1 br.2 (by omega) y2 e
            have : 0 < - T r x * - T x y := Int.mul_pos (by omega) (by omega)
            rw [Int.neg_mul_neg] at this
            have : 0 < d * - T' r y := by rw [Int.mul_neg]; omega
            have := pos_of hd this
            omega
      · exact ⟨r, hr, .inr ⟨c, by omega, c2, c3, good2 r c hr (by omega) c2 c3 c4⟩⟩
/-- all steps -/
theorem Gd.all {A : Nat → Nat → Int} {N : Nat} (hN : N ≤ 5) (g : Gd N 0 1 A) : ∀ k, k ≤ N → (∀ i, i ≤ k → Gd N i (bT A i).2 (bT A i).1)
  | 0, _, i, hi => by
    have : i = 0 := by omega
    subst this; exact g
  | k + 1, hk, i, hi => by
    have ih := Gd.all hN g k (by omega)
    by_cases e : i = k + 1
    · subst e
      refine Gd.step (ih k (Nat.le_refl k)) (by omega) (fun r c hr hn => ?_) (fun c => bs_k)
      exact bex (by omega) (fun i hi => by have := (ih i hi).1; omega) hn (by omega)
    · exact ih i (by omega)
/-- what the last table says, said of the first -/
theorem bsol {A : Nat → Nat → Int} {N : Nat} (hN : N ≤ 5) (g : Gd N 0 1 A) {c : Nat} : ∀ m k, m + k = N → ∀ r, r < N → sm (fun i => (bT A k).1 r i * (bT A N).1 i c) N = (bT A k).1 r c * (bT A N).2
  | 0, k, hk, r, hr => by
    have e : k = N := by omega
    subst e
    have := (Gd.all hN g k (Nat.le_refl k) k (Nat.le_refl k)).2.1
    rw [sm_congr (g := fun i => if i = r then (bT A k).2 * (bT A k).1 r c else 0) k (fun i hi => by
      rw [this r i hr hi]
      by_cases e : r = i
      · subst e; rw [if_pos rfl, if_pos rfl]
      · rw [if_neg e, if_neg (fun q : i = r => e q.symm)]; simp), sm_one, if_pos hr, Int.mul_comm]
  | m + 1, k, hk, r, hr => by
    have ih := bsol hN g (c := c) m (k + 1) (by omega)
    have gk := Gd.all hN g N (Nat.le_refl N) k (by omega)
    have hp := gk.piv (by omega)
    have hkk : sm (fun i => (bT A k).1 k i * (bT A N).1 i c) N = (bT A k).1 k c * (bT A N).2 := by
      have := ih k (by omega)
      rw [show (bT A (k + 1)).1 k c = (bT A k).1 k c from bs_k] at this
      rw [← this]
      exact sm_congr N (fun i _ => by rw [show (bT A (k + 1)).1 k i = (bT A k).1 k i from bs_k])
    by_cases e : r = k
    · subst e; exact hkk
    · have hex := fun c => bex (A := A) (k := k) (r := r) (c := c) (by omega) (fun i hi => by have := (Gd.all hN g N (Nat.le_refl N) i (by omega)).1; omega) e (by omega)
      have h := ih r hr
      have h2 : (bT A k).2 * sm (fun i => (bT A (k + 1)).1 r i * (bT A N).1 i c) N = (bT A k).1 k k * sm (fun i => (bT A k).1 r i * (bT A N).1 i c) N - (bT A k).1 r k * sm (fun i => (bT A k).1 k i * (bT A N).1 i c) N := by
        rw [← sm_mul, ← sm_mul, ← sm_mul, ← sm_sub]
        refine sm_congr N (fun i _ => ?_)
        rw [← Int.mul_assoc, hex]
        grind
      rw [h, hkk] at h2
      have h3 := hex c
      refine eq_of hp ?_
      grind
/-! Bounded answers. -/
theorem gap {A : Nat → Nat → Int} {N : Nat} (hN : N ≤ 5) (g : Gd N 0 1 A) (hsy : ∀ r c, r < N → c < N → A r c = A c r) {d : Int} (hd : 0 < d) {y : Nat → Int} (hy : ∀ r, r < N → sm (fun c => A r c * y c) N ≤ 9 * d) : ∀ r, r < N → y r ≤ 225 * d := by
  intro r0 hr0
  refine Classical.byContradiction fun hc => ?_
  obtain ⟨_, _, hO, hR, hC⟩ := g
  have hj : ∃ j : Nat, j < 5 ∧ ∀ r, r < N → 45 * d * j < y r → 45 * d * (j + 1) < y r := by
    refine Classical.byContradiction fun hn => ?_
    have hs : ∀ j : Nat, j < 5 → cnt (fun r => decide (45 * d * ((j + 1 : Nat) : Int) < y r)) N < cnt (fun r => decide (45 * d * (j : Int) < y r)) N := fun j hj => by
      refine cnt_lt N (fun r _ hr => ?_) (Classical.byContradiction fun q => hn ⟨j, hj, fun r hr h1 => Classical.byContradiction fun h2 => q ⟨r, hr, ?_, ?_⟩⟩)
      · have := of_decide_eq_true hr
        refine decide_eq_true ?_
        have e : 45 * d * ((j + 1 : Nat) : Int) = 45 * d * (j : Int) + 45 * d := by push_cast; rw [Int.mul_add]; omega
        omega
      · exact decide_eq_false (by push_cast; exact h2)
      · exact decide_eq_true h1
    have h0 := hs 0 (by omega)
    have h1 := hs 1 (by omega)
    have h2 := hs 2 (by omega)
    have h3 := hs 3 (by omega)
    have h4 := hs 4 (by omega)
    have h5 : 0 < cnt (fun r => decide (45 * d * ((5 : Nat) : Int) < y r)) N := by
      refine Nat.lt_of_le_of_lt (Nat.zero_le (cnt (fun _ => false) N)) (cnt_lt N (fun r _ hr => by cases hr) ⟨r0, hr0, rfl, decide_eq_true (by push_cast; omega)⟩)
    have := cnt_le (fun r => decide (45 * d * ((0 : Nat) : Int) < y r)) N
    simp only [Nat.zero_add, Nat.reduceAdd] at h0 h1 h2 h3 h4
    omega
  obtain ⟨j, hj5, hj⟩ := hj
  let S : Nat → Prop := fun r => r < N ∧ 45 * d * j < y r
  have e1 : 45 * d * ((j : Int) + 1) = 45 * d * j + 45 * d := by rw [Int.mul_add]; omega
  have jd : 0 ≤ 45 * d * (j : Int) := Int.mul_nonneg (by omega) (by omega)
  have j5 : 45 * d * (j : Int) ≤ 45 * d * 5 := Int.mul_le_mul_of_nonneg_left (by omega) (by omega)
  have hS0 : S r0 := ⟨hr0, by omega⟩
  classical
  let X : Nat → Nat → Int := fun r c => if S r ∧ S c then A r c * (y c - y r) else 0
  have hX : sm (fun r => sm (fun c => X r c) N) N = 0 := by
    have h1 := sm_swap X N N
    have h2 : sm (fun j => sm (fun i => X i j) N) N = sm (fun j => -sm (fun i => X j i) N) N := sm_congr N (fun a ha => by
      rw [← sm_neg]
      refine sm_congr N (fun b hb => ?_)
      show (if S b ∧ S a then A b a * (y a - y b) else 0) = -(if S a ∧ S b then A a b * (y b - y a) else 0)
      by_cases q : S a ∧ S b
      · rw [if_pos q, if_pos q.symm, hsy b a hb ha, ← Int.mul_neg]
        congr 1; omega
      · rw [if_neg q, if_neg (fun z => q z.symm)]; rfl)
    rw [h2, sm_neg] at h1
    omega
  let Y : Nat → Nat → Int := fun r c => if S r ∧ ¬ S c then A r c * (y c - y r) else 0
  have hY : ∀ r c, r < N → c < N → 0 ≤ Y r c := fun r c hr hc => by
    show 0 ≤ if S r ∧ ¬ S c then A r c * (y c - y r) else 0
    by_cases q : S r ∧ ¬ S c
    · rw [if_pos q]
      refine mul_nn (hO r c (Nat.zero_le _) hr (Nat.zero_le _) hc (fun e => q.2 (e ▸ q.1))) ?_
      have a := q.1.2
      have b : ¬ 45 * d * j < y c := fun z => q.2 ⟨hc, z⟩
      omega
    · rw [if_neg q]; exact Int.le_refl _
  let Z : Nat → Int := fun r => if S r then sm (A r) N * y r else 0
  have hZ : ∀ r, r < N → 0 ≤ Z r := fun r hr => by
    show 0 ≤ if S r then sm (A r) N * y r else 0
    by_cases q : S r
    · rw [if_pos q]
      exact Int.mul_nonneg (hR r (Nat.zero_le _) hr) (by have := q.2; omega)
    · rw [if_neg q]; exact Int.le_refl _
  have hE : ∀ r, r < N → (if S r then sm (fun c => A r c * y c) N else 0) = Z r + sm (fun c => X r c) N + sm (fun c => Y r c) N := fun r hr => by
    show _ = (if S r then sm (A r) N * y r else 0) + sm (fun c => if S r ∧ S c then A r c * (y c - y r) else 0) N + sm (fun c => if S r ∧ ¬ S c then A r c * (y c - y r) else 0) N
    rw [Int.add_assoc, ← sm_add]
    by_cases q : S r
    · rw [if_pos q, if_pos q, Int.mul_comm, ← sm_mul, ← sm_add]
      refine sm_congr N (fun c _ => ?_)
      by_cases z : S c
      · rw [if_pos ⟨q, z⟩, if_neg (fun w => w.2 z)]; grind
      · rw [if_neg (fun w => z w.2), if_pos ⟨q, z⟩]; grind
    · rw [if_neg q, if_neg q]
      rw [sm_congr (g := fun _ => 0) N (fun c _ => by rw [if_neg (fun w => q w.1), if_neg (fun w => q w.1)]; rfl), sm_z]
      rfl
  have hT : sm (fun r => if S r then sm (fun c => A r c * y c) N else 0) N = sm (fun r => Z r + sm (fun c => Y r c) N) N := by
    rw [sm_congr N hE, sm_add, sm_add, hX, sm_add]
    omega
  have hU : sm (fun r => if S r then sm (fun c => A r c * y c) N else 0) N ≤ 9 * d * N := by
    rw [← sm_c (9 * d) N]
    refine sm_le N (fun r hr => ?_)
    by_cases q : S r
    · rw [if_pos q]; exact hy r hr
    · rw [if_neg q]; omega
  have hU2 : 9 * d * (N : Int) ≤ 9 * d * 5 := Int.mul_le_mul_of_nonneg_left (by omega) (by omega)
  have hV : 45 * d + 1 ≤ sm (fun r => Z r + sm (fun c => Y r c) N) N := by
    obtain ⟨r, hr, h⟩ := hC S ⟨r0, hS0⟩ (fun r hr => ⟨Nat.zero_le _, hr.1⟩)
    have hy1 := hj r hr.1 hr.2
    refine sm_has (fun i hi => Int.add_nonneg (hZ i hi) (sm_nn N (fun c hc => hY i c hi hc))) hr.1 ?_
    rcases h with h | ⟨c, _, c2, c3, c4⟩
    · have : 1 * y r ≤ Z r := by
        show 1 * y r ≤ if S r then sm (A r) N * y r else 0
        rw [if_pos hr]
        exact Int.mul_le_mul_of_nonneg_right (by omega) (by omega)
      have : 0 ≤ sm (fun c => Y r c) N := sm_nn N (fun c hc => hY r c hr.1 hc)
      omega
    · have h1 : 45 * d + 1 ≤ sm (fun c => Y r c) N := by
        refine sm_has (fun c hc => hY r c hr.1 hc) c2 ?_
        show _ ≤ if S r ∧ ¬ S c then A r c * (y c - y r) else 0
        rw [if_pos ⟨hr, c3⟩]
        have b : ¬ 45 * d * j < y c := fun z => c3 ⟨c2, z⟩
        have : 1 * (y r - y c) ≤ (-A r c) * (y r - y c) := Int.mul_le_mul_of_nonneg_right (by omega) (by omega)
        have e : A r c * (y c - y r) = (-A r c) * (y r - y c) := by grind
        omega
      have := hZ r hr.1
      omega
  omega
/-- an answer column -/
theorem bnd {A : Nat → Nat → Int} {N : Nat} (hN : N ≤ 5) (g : Gd N 0 1 A) (hsy : ∀ r c, r < N → c < N → A r c = A c r) {c : Nat} (hb : ∀ r, r < N → -9 ≤ A r c ∧ A r c ≤ 60 * sm (A r) N + 9) : ∀ r, r < N → -(225 * (bT A N).2) ≤ (bT A N).1 r c ∧ (bT A N).1 r c ≤ 285 * (bT A N).2 := by
  intro r hr
  have hd := (Gd.all hN g N (Nat.le_refl N) N (Nat.le_refl N)).1
  have hs := fun r hr => bsol hN g (c := c) N 0 (by omega) r hr
  have up := gap hN g hsy hd (y := fun i => (bT A N).1 i c - 60 * (bT A N).2) (fun r hr => by
    rw [sm_congr (g := fun i => A r i * (bT A N).1 i c - (60 * (bT A N).2) * A r i) N (fun i _ => by grind), sm_sub, sm_mul]
    have := hs r hr
    rw [show (bT A 0).1 = A from rfl] at this
    rw [this]
    have h1 := (hb r hr).2
    have h2 : A r c * (bT A N).2 ≤ (60 * sm (A r) N + 9) * (bT A N).2 := Int.mul_le_mul_of_nonneg_right h1 (Int.le_of_lt hd)
    have e : (60 * sm (A r) N + 9) * (bT A N).2 = 60 * (bT A N).2 * sm (A r) N + 9 * (bT A N).2 := by grind
    omega) r hr
  have lo := gap hN g hsy hd (y := fun i => -(bT A N).1 i c) (fun r hr => by
    rw [sm_congr (g := fun i => -(A r i * (bT A N).1 i c)) N (fun i _ => by rw [Int.mul_neg]), sm_neg]
    have := hs r hr
    rw [show (bT A 0).1 = A from rfl] at this
    rw [this]
    have h2 : -9 * (bT A N).2 ≤ A r c * (bT A N).2 := Int.mul_le_mul_of_nonneg_right (hb r hr).1 (Int.le_of_lt hd)
    omega) r hr
  omega
