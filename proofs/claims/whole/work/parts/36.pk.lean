/-! Ways to place, as assignments; bounds from below. -/
section PK
variable {t P : Nat} {x : Nat → Int}
theorem cp_c : ∀ m (L L' : Nat → Int), (∀ r, r < t → L r = L' r) → cp t x P m L → cp t x P m L'
  | 0, _, _, _, _ => trivial
  | m + 1, L, L', e, h => by
    obtain ⟨r, h1, h2, h3⟩ := h
    refine ⟨r, h1, by rw [← e r h1]; exact h2, cp_c m _ _ (fun i hi => ?_) h3⟩
    unfold up
    rw [e r h1]
    split
    · rfl
    · exact e i hi
def asg (t : Nat) (x : Nat → Int) (P m : Nat) (L : Nat → Int) : Prop := ∃ f : Nat → Nat, (∀ k, P - m ≤ k → k < P → f k < t) ∧ ∀ r, r < t → sm (fun k => if P - m ≤ k ∧ f k = r then x k else 0) P ≤ L r
theorem sm_k {P k : Nat} {c : Prop} [Decidable c] {y : Int} (hk : k < P) : sm (fun i => if i = k ∧ c then y else 0) P = if c then y else 0 := by
  by_cases q : c
  · rw [if_pos q, sm_congr (g := fun i => if i = k then y else 0) P (fun i _ => by simp [q]), sm_one, if_pos hk]
  · rw [if_neg q, sm_congr (g := fun _ => 0) P (fun i _ => by simp [q]), sm_z]
theorem asg_cp : ∀ m L, m ≤ P → (∀ r, r < t → 0 ≤ L r) → cp t x P m L → asg t x P m L
  | 0, L, _, hL, _ => ⟨fun _ => 0, fun k h1 h2 => by omega, fun r hr => by
      rw [sm_congr (g := fun _ => 0) P (fun k hk => if_neg (by omega)), sm_z]; exact hL r hr⟩
  | m + 1, L, hm, hL, h => by
    obtain ⟨r, h1, h2, h3⟩ := h
    have hL' : ∀ i, i < t → 0 ≤ up L r (L r - x (P - (m + 1))) i := fun i hi => by
      unfold up; split
      · omega
      · exact hL i hi
    obtain ⟨f, f1, f2⟩ := asg_cp m _ (by omega) hL' h3
    refine ⟨fun k => if k = P - (m + 1) then r else f k, fun k k1 k2 => ?_, fun q hq => ?_⟩
    · show (if k = P - (m + 1) then r else f k) < t
      split
      · exact h1
      · exact f1 k (by omega) k2
    · have h4 := f2 q hq
      rw [sm_congr (g := fun k => (if P - m ≤ k ∧ f k = q then x k else 0) + (if k = P - (m + 1) ∧ r = q then x (P - (m + 1)) else 0)) P (fun k hk => by
        by_cases e : k = P - (m + 1)
        · subst e; grind
        · grind), sm_add, sm_k (by omega)]
      unfold up at h4
      by_cases e : r = q
      · subst e; rw [if_pos rfl] at h4 ⊢; omega
      · rw [if_neg (fun z : q = r => e z.symm)] at h4; rw [if_neg e]; omega
theorem cp_asg (hx : ∀ k, 0 ≤ x k) : ∀ m L, m ≤ P → asg t x P m L → cp t x P m L
  | 0, _, _, _ => trivial
  | m + 1, L, hm, h => by
    obtain ⟨f, f1, f2⟩ := h
    have hr := f1 (P - (m + 1)) (Nat.le_refl _) (by omega)
    have key : ∀ q, sm (fun k => if P - (m + 1) ≤ k ∧ f k = q then x k else 0) P = sm (fun k => if P - m ≤ k ∧ f k = q then x k else 0) P + (if f (P - (m + 1)) = q then x (P - (m + 1)) else 0) := fun q => by
      rw [← sm_k (P := P) (k := P - (m + 1)) (c := f (P - (m + 1)) = q) (y := x (P - (m + 1))) (by omega), ← sm_add]
      refine sm_congr P (fun k hk => ?_)
      by_cases e : k = P - (m + 1)
      · subst e; grind
      · grind
    have nn : ∀ q, 0 ≤ sm (fun k => if P - m ≤ k ∧ f k = q then x k else 0) P := fun q => sm_nn P (fun k _ => by have := hx k; split <;> omega)
    refine ⟨f (P - (m + 1)), hr, ?_, cp_asg hx m _ (by omega) ⟨f, fun k h1 h2 => f1 k (by omega) h2, fun q hq => ?_⟩⟩
    · have := f2 _ hr
      rw [key, if_pos rfl] at this
      have := nn (f (P - (m + 1)))
      omega
    · have h1 := f2 q hq
      rw [key] at h1
      by_cases e : f (P - (m + 1)) = q
      · subst e; rw [if_pos rfl] at h1; rw [up_eq]; omega
      · rw [if_neg e] at h1; rw [up_ne (fun z => e z.symm)]; omega
theorem pk_sum {Z : Int} (h0 : ∀ k, k < P → 0 ≤ x k) (hZ : 0 ≤ Z) (h : cp t x P P (fun _ => Z)) : sm x P ≤ t * Z := by
  have := cp_lost (t := t) (P := P) (x := x) (sh := 0) (Int.le_refl 0) P _ (Nat.le_refl P) (fun _ => hZ) h0 h
  rw [Nat.sub_self, sm_c] at this
  have e : lostS t 0 (fun _ => Z) = 0 := by
    unfold lostS
    rw [sm_congr (g := fun _ => 0) t (fun i _ => if_neg (show ¬ Z < 0 by omega)), sm_z]
  rw [e, show sm x 0 = 0 from rfl, Int.mul_comm] at this
  omega
theorem pk_one {L : Nat → Int} (hP : 0 < P) (h : cp t x P P L) : 1 ≤ t := by
  obtain ⟨P, rfl⟩ : ∃ Q, P = Q + 1 := ⟨P - 1, by omega⟩
  obtain ⟨r, hr, _⟩ := h
  omega
theorem pk_many {Z : Int} {k : Nat} (hk : k < P) (hZ : 0 ≤ Z) (h0 : ∀ i, 0 ≤ x i) (hs : ∀ i, i ≤ k → x k ≤ x i) (hp : 0 < x k) (h : cp t x P P (fun _ => Z)) : (k : Int) + 1 ≤ t * (Z / x k) := by
  obtain ⟨f, f1, f2⟩ := asg_cp P _ (Nat.le_refl P) (fun _ _ => hZ) h
  have h1 : sm (fun r => sm (fun i => if r = f i then (1 : Int) else 0) (k + 1)) t = (k : Int) + 1 := by
    rw [sm_swap, sm_congr (g := fun _ => 1) (k + 1) (fun i hi => by rw [sm_one, if_pos (f1 i (by omega) (by omega))]), sm_c]
    push_cast; omega
  have h2 : ∀ r, r < t → sm (fun i => if r = f i then (1 : Int) else 0) (k + 1) ≤ Z / x k := fun r hr => by
    refine (Int.le_ediv_iff_mul_le hp).mpr ?_
    have e1 : sm (fun i => if r = f i then (1 : Int) else 0) (k + 1) * x k = sm (fun i => if r = f i then x k else 0) (k + 1) := by
      rw [Int.mul_comm, ← sm_mul]
      refine sm_congr _ (fun i _ => ?_)
      split <;> simp
    have e2 : sm (fun i => if r = f i then x k else 0) (k + 1) ≤ sm (fun i => if r = f i then x i else 0) (k + 1) := sm_le _ (fun i hi => by
      have := hs i (by omega)
      split <;> omega)
    have e3 : ∀ n m, n ≤ m → sm (fun i => if r = f i then x i else 0) n ≤ sm (fun i => if r = f i then x i else 0) m := by
      intro n m
      induction m with
      | zero => intro h; rw [show n = 0 by omega]; exact Int.le_refl _
      | succ m ih =>
        intro h
        by_cases q : n = m + 1
        · rw [q]; exact Int.le_refl _
        · have a := ih (by omega)
          have b := h0 m
          show _ ≤ sm _ m + (if r = f m then x m else 0)
          have : 0 ≤ (if r = f m then x m else 0) := by split <;> omega
          omega
    have e4 := e3 (k + 1) P (by omega)
    have e5 : _ ≤ Z := f2 r hr
    rw [sm_congr (g := fun i => if r = f i then x i else 0) P (fun i hi => by
      by_cases q : r = f i
      · rw [if_pos q, if_pos ⟨by omega, q.symm⟩]
      · rw [if_neg q, if_neg (fun z => q z.2.symm)])] at e5
    omega
  have h3 := sm_le t h2
  rw [h1, sm_c, Int.mul_comm] at h3
  exact h3
theorem pk_ceil {k : Nat} {t : Nat} {w : Int} (hw : 0 < w) (h : (k : Int) + 1 ≤ t * w) : ((k : Int) + w) / w ≤ t := by
  have : ((k : Int) + w) / w < (t : Int) + 1 := (Int.ediv_lt_iff_lt_mul hw).mpr (by rw [Int.add_mul, Int.one_mul]; omega)
  omega
end PK
/-! Of a net. -/
def pkV (v : Nv) (sz : Nat → Int) (t : Nat) : Prop := ∃ f : Nat → Nat, (∀ s, s < vS v → vH v s = true → f s < t) ∧ ∀ r, r < t → sm (fun s => if vH v s = true ∧ f s = r then sz s else 0) (vS v) ≤ 100 * vR v
def isMin (v : Nv) (sz : Nat → Int) (y : Int) : Prop := ∃ c : Nat, y = (c : Int) ∧ pkV v sz c ∧ ∀ t, t < c → ¬ pkV v sz t
theorem isMin_un {v : Nv} {sz : Nat → Int} {x y : Int} (h : isMin v sz x) (g : isMin v sz y) : x = y := by
  obtain ⟨a, rfl, a1, a2⟩ := h
  obtain ⟨b, rfl, b1, b2⟩ := g
  rcases Nat.lt_trichotomy a b with l | l | l
  · exact absurd a1 (b2 a l)
  · rw [l]
  · exact absurd b1 (a2 b l)
noncomputable def xs (v : Nv) (P : Nat) (o : Nat → Nat) (k : Nat) : Int := if k < P then szV v (o k) else 0
theorem szV_b {v : Nv} (hv : VOk v) (ha : aH v (hgV v)) {s : Nat} (hs : s < vS v) : 0 ≤ szV v s ∧ szV v s < 91000 := by
  have := len_b hv ha hs
  have := hv.2.2.2.2.2.2.2.2.2
  unfold szV; omega
theorem xs_0 {v : Nv} {P : Nat} {o : Nat → Nat} (hv : VOk v) (ha : aH v (hgV v)) (h : isOrd v P o) (k : Nat) : 0 ≤ xs v P o k := by
  unfold xs
  split
  · next q => exact (szV_b hv ha (h.1 k q).1).1
  · omega
theorem xs_sort {v : Nv} {P : Nat} {o : Nat → Nat} (h : isOrd v P o) {i k : Nat} (hk : k < P) (hi : i ≤ k) : xs v P o k ≤ xs v P o i := by
  unfold xs
  rw [if_pos hk, if_pos (by omega)]
  by_cases e : i = k
  · rw [e]; exact Int.le_refl _
  · have := h.2.1 i k (by omega) hk
    unfold bef at this
    unfold szV; omega
theorem pkV_cp {v : Nv} {P t : Nat} {o : Nat → Nat} (hv : VOk v) (ha : aH v (hgV v)) (h : isOrd v P o) : pkV v (szV v) t ↔ cp t (xs v P o) P P (fun _ => 100 * vR v) := by
  have hR := hv.2.2.2.2.2.2.2.1
  have hR1 := hv.2.2.2.2.2.2.2.2.1
  constructor
  · rintro ⟨f, f1, f2⟩
    refine cp_asg (xs_0 hv ha h) P _ (Nat.le_refl P) ⟨fun k => f (o k), fun k _ hk => f1 _ (h.1 k hk).1 (h.1 k hk).2, fun r hr => ?_⟩
    rw [sm_congr (g := fun k => (fun s => if f s = r then szV v s else 0) (o k)) P (fun k hk => by show _ = (if f (o k) = r then szV v (o k) else 0); unfold xs; grind), isOrd_cnt h (fun s => if f s = r then szV v s else 0)]
    have := f2 r hr
    rwa [sm_congr (vS v) (fun s _ => show (if vH v s = true ∧ f s = r then szV v s else 0) = if vH v s = true then (if f s = r then szV v s else 0) else 0 by grind)] at this
  · intro hc
    obtain ⟨f, f1, f2⟩ := asg_cp P _ (Nat.le_refl P) (fun _ _ => by omega) hc
    have ix : ∀ s, s < vS v → vH v s = true → Classical.epsilon (fun k => k < P ∧ o k = s) < P ∧ o (Classical.epsilon (fun k => k < P ∧ o k = s)) = s := fun s hs hh => Classical.epsilon_spec (h.2.2 s hs hh)
    have io : ∀ k, k < P → Classical.epsilon (fun i => i < P ∧ o i = o k) = k := fun k hk => by
      have := ix (o k) (h.1 k hk).1 (h.1 k hk).2
      exact isOrd_inj h this.1 hk this.2
    refine ⟨fun s => f (Classical.epsilon (fun k => k < P ∧ o k = s)), fun s hs hh => f1 _ (by omega) (ix s hs hh).1, fun r hr => ?_⟩
    have := f2 r hr
    rw [sm_congr (vS v) (fun s _ => show (if vH v s = true ∧ f (Classical.epsilon (fun k => k < P ∧ o k = s)) = r then szV v s else 0) = if vH v s = true then (if f (Classical.epsilon (fun k => k < P ∧ o k = s)) = r then szV v s else 0) else 0 by grind), ← isOrd_cnt h (fun s => if f (Classical.epsilon (fun k => k < P ∧ o k = s)) = r then szV v s else 0)]
    rwa [sm_congr P (fun k hk => show (if P - P ≤ k ∧ f k = r then xs v P o k else 0) = if f (Classical.epsilon (fun i => i < P ∧ o i = o k)) = r then szV v (o k) else 0 by
      rw [io k hk]; unfold xs; grind)] at this
/-- first fit is a way -/
theorem ff_L {Z : Int} {x : Nat → Int} : ∀ k r, (ff Z x k).1 r = Z - sm (fun i => if ffr Z x i = r then x i else 0) k
  | 0, r => by show Z = Z - 0; omega
  | k + 1, r => by
    show up (ff Z x k).1 (ffr Z x k) ((ff Z x k).1 (ffr Z x k) - x k) r = Z - (sm (fun i => if ffr Z x i = r then x i else 0) k + if ffr Z x k = r then x k else 0)
    by_cases e : r = ffr Z x k
    · rw [if_pos e.symm, e, up_eq, ff_L k]; omega
    · rw [up_ne e, if_neg (fun z => e z.symm), ff_L k]; omega
theorem ff_mono {Z : Int} {x : Nat → Int} {i : Nat} : ∀ k, i ≤ k → (ff Z x i).2 ≤ (ff Z x k).2
  | 0, h => by rw [show i = 0 by omega]; exact Nat.le_refl _
  | k + 1, h => by
    by_cases e : i = k + 1
    · rw [e]; exact Nat.le_refl _
    · have := ff_mono (Z := Z) (x := x) (i := i) k (by omega)
      show _ ≤ if (ff Z x k).2 < _ then _ else _
      split <;> omega
theorem ff_cp {Z : Int} {x : Nat → Int} {P : Nat} (hP : P ≤ 14) (h : ∀ i, 0 ≤ x i ∧ x i ≤ Z) : cp (ff Z x P).2 x P P (fun _ => Z) := by
  have hz := h 0
  refine cp_asg (fun i => (h i).1) P _ (Nat.le_refl P) ⟨ffr Z x, fun k _ hk => ?_, fun r hr => ?_⟩
  · have a := (ffr_le (Z := Z) (x := x) (k := k) (by omega) (fun i _ => h i)).2.2
    have b := ff_mono (Z := Z) (x := x) (i := k + 1) P (by omega)
    omega
  · have a := ff_L (Z := Z) (x := x) P r
    have b := (ff_inv (Z := Z) (x := x) P hP (fun i _ => h i)).2.2.1 r (by omega)
    rw [sm_congr (g := fun i => if ffr Z x i = r then x i else 0) P (fun k hk => by grind)]
    show _ ≤ Z
    omega
