/-! The table of a net. -/
theorem cnt_up (f : Nat → Bool) {i : Nat} : ∀ {j}, i ≤ j → cnt f i ≤ cnt f j
  | 0, h => by have : i = 0 := by omega
               subst this; exact Nat.le_refl _
  | j + 1, h => by
    by_cases e : i = j + 1
    · subst e; exact Nat.le_refl _
    · have := cnt_up f (i := i) (j := j) (by omega)
      simp only [cnt]; omega
theorem cnt_s {f : Nat → Bool} {k : Nat} (h : f k = true) : cnt f (k + 1) = cnt f k + 1 := by simp only [cnt]; rw [if_pos h]
theorem cnt_n {f : Nat → Bool} {k : Nat} (h : f k = false) : cnt f (k + 1) = cnt f k := by simp only [cnt]; rw [h]; rfl
theorem cnt_slt {f : Nat → Bool} {i j : Nat} (h : f i = true) (l : i < j) : cnt f i < cnt f j := by
  have := cnt_up f (show i + 1 ≤ j from l)
  rw [cnt_s h] at this; omega
theorem cnt_inj {f : Nat → Bool} {i j : Nat} (hi : f i = true) (hj : f j = true) (e : cnt f i = cnt f j) : i = j := by
  rcases Nat.lt_trichotomy i j with l | l | l
  · have := cnt_slt hi l; omega
  · exact l
  · have := cnt_slt hj l; omega
theorem cnt_sur {f : Nat → Bool} : ∀ n {r}, r < cnt f n → ∃ j, j < n ∧ f j = true ∧ cnt f j = r
  | 0, r, h => by simp only [cnt] at h; omega
  | n + 1, r, h => by
    by_cases l : r < cnt f n
    · obtain ⟨j, a, b⟩ := cnt_sur n l; exact ⟨j, by omega, b⟩
    · cases q : f n
      · rw [cnt_n q] at h; omega
      · rw [cnt_s q] at h; exact ⟨n, by omega, q, by omega⟩
abbrev vN (v : Nv) : Nat := cnt (vF v) (vJ v)
abbrev rwo (v : Nv) (j : Nat) : Nat := cnt (vF v) j
/-- what strand s brings to the row of its end j, o being the other -/
def eE (v : Nv) (s j o c : Nat) : Int := (if c = rwo v j then vQ v s else 0) - (if vF v o = true ∧ c = rwo v o then vQ v s else 0) + (if vF v o = false ∧ 5 ≤ c ∧ c < 8 then vQ v s * vP v o (c - 5) else 0)
def eS (v : Nv) (s r c : Nat) : Int := if vH v s = true then (if vF v (vA v s) = true ∧ r = rwo v (vA v s) then eE v s (vA v s) (vB v s) c else 0) + (if vF v (vB v s) = true ∧ r = rwo v (vB v s) then eE v s (vB v s) (vA v s) c else 0) else 0
def lD (v : Nv) : Nat → Nat → Int
  | 0 => fun _ => 0
  | m + 1 => fun r => if vF v m = true ∧ r = rwo v m then vLd v m else lD v m r
def T0 (v : Nv) (r c : Nat) : Int := (if c = 7 then lD v (vJ v) r else 0) + sm (fun s => eS v s r c) (vS v)
section T0
variable {v : Nv}
theorem lD_b (k : VOk v) : ∀ m, m ≤ vJ v → ∀ r, -9 ≤ lD v m r ∧ lD v m r ≤ 9
  | 0, _, r => by show -9 ≤ (0 : Int) ∧ (0 : Int) ≤ 9; omega
  | m + 1, h, r => by
    show -9 ≤ (if vF v m = true ∧ r = rwo v m then vLd v m else lD v m r) ∧ (if vF v m = true ∧ r = rwo v m then vLd v m else lD v m r) ≤ 9
    by_cases q : vF v m = true ∧ r = rwo v m
    · rw [if_pos q]; exact k.2.2.2.2.1 m (by omega)
    · rw [if_neg q]; exact lD_b k m (by omega) r
theorem rwo_lt {j : Nat} (hj : j < vJ v) (hf : vF v j = true) : rwo v j < vN v := cnt_slt hf hj
theorem eS_a {s r c : Nat} (k : VOk v) (hs : s < vS v) (hh : vH v s = true) (hf : vF v (vA v s) = true) (hr : r = rwo v (vA v s)) : eS v s r c = eE v s (vA v s) (vB v s) c := by
  unfold eS
  rw [if_pos hh, if_pos ⟨hf, hr⟩, if_neg, Int.add_zero]
  intro q
  exact (k.2.2.2.1 s hs).2.2.1 (cnt_inj hf q.1 (hr.symm.trans q.2))
theorem eS_b {s r c : Nat} (k : VOk v) (hs : s < vS v) (hh : vH v s = true) (hf : vF v (vB v s) = true) (hr : r = rwo v (vB v s)) : eS v s r c = eE v s (vB v s) (vA v s) c := by
  unfold eS
  rw [if_pos hh, if_neg, if_pos ⟨hf, hr⟩, Int.zero_add]
  intro q
  exact (k.2.2.2.1 s hs).2.2.1 (cnt_inj q.1 hf (q.2.symm.trans hr))
theorem eS_0 {s r c : Nat} (h : ¬ (vH v s = true ∧ (vF v (vA v s) = true ∧ r = rwo v (vA v s) ∨ vF v (vB v s) = true ∧ r = rwo v (vB v s)))) : eS v s r c = 0 := by
  unfold eS
  by_cases hh : vH v s = true
  · rw [if_pos hh, if_neg (fun q => h ⟨hh, .inl q⟩), if_neg (fun q => h ⟨hh, .inr q⟩)]; rfl
  · rw [if_neg hh]
theorem eS_case {P : Int → Prop} {s r c : Nat} (k : VOk v) (hs : s < vS v) (h0 : P 0) (h1 : ∀ j o, vH v s = true → j < vJ v → o < vJ v → j ≠ o → vF v j = true → r = rwo v j → (vA v s = j ∧ vB v s = o ∨ vA v s = o ∧ vB v s = j) → P (eE v s j o c)) : P (eS v s r c) := by
  have b := k.2.2.2.1 s hs
  by_cases q : vH v s = true ∧ (vF v (vA v s) = true ∧ r = rwo v (vA v s) ∨ vF v (vB v s) = true ∧ r = rwo v (vB v s))
  · rcases q with ⟨hh, q | q⟩
    · rw [eS_a k hs hh q.1 q.2]; exact h1 _ _ hh b.1 b.2.1 b.2.2.1 q.1 q.2 (.inl ⟨rfl, rfl⟩)
    · rw [eS_b k hs hh q.1 q.2]; exact h1 _ _ hh b.2.1 b.1 (fun e => b.2.2.1 e.symm) q.1 q.2 (.inr ⟨rfl, rfl⟩)
  · rw [eS_0 q]; exact h0
theorem eE_sq {s j o c : Nat} (hc : c < 5) : eE v s j o c = (if c = rwo v j then vQ v s else 0) - (if vF v o = true ∧ c = rwo v o then vQ v s else 0) := by
  unfold eE
  rw [if_neg (c := vF v o = false ∧ 5 ≤ c ∧ c < 8) (fun q => by omega), Int.add_zero]
theorem vN5 (k : VOk v) : vN v ≤ 5 := k.2.2.1
theorem eE_sum {s j o : Nat} (k : VOk v) (hj : j < vJ v) (ho : o < vJ v) (hf : vF v j = true) : sm (fun c => eE v s j o c) (vN v) = if vF v o = true then 0 else vQ v s := by
  have hN := vN5 k
  rw [sm_congr (g := fun c => (if c = rwo v j then vQ v s else 0) - (if c = rwo v o then (if vF v o = true then vQ v s else 0) else 0)) (vN v) (fun c hc => by
    rw [eE_sq (by omega)]
    congr 1
    by_cases q : vF v o = true
    · simp only [q, true_and, if_true]
    · simp only [q, false_and, if_false]; simp), sm_sub, sm_one, sm_one, if_pos (rwo_lt hj hf)]
  by_cases q : vF v o = true
  · rw [if_pos q, if_pos q, if_pos (rwo_lt ho q)]; omega
  · rw [if_neg q, if_neg q]; simp
theorem T0_sum (k : VOk v) (r : Nat) : sm (T0 v r) (vN v) = sm (fun s => sm (fun c => eS v s r c) (vN v)) (vS v) := by
  have hN := vN5 k
  rw [sm_swap, sm_congr (vN v) (fun c hc => ?_)]
  show T0 v r c = _
  unfold T0
  rw [if_neg (by omega), Int.zero_add]
theorem eS_sum {s r : Nat} (k : VOk v) (hs : s < vS v) : 0 ≤ sm (fun c => eS v s r c) (vN v) := by
  have b := k.2.2.2.1 s hs
  by_cases q : vH v s = true ∧ (vF v (vA v s) = true ∧ r = rwo v (vA v s) ∨ vF v (vB v s) = true ∧ r = rwo v (vB v s))
  · rcases q with ⟨hh, q | q⟩
    · rw [sm_congr (vN v) (fun c _ => eS_a k hs hh q.1 q.2), eE_sum k b.1 b.2.1 q.1]; split <;> omega
    · rw [sm_congr (vN v) (fun c _ => eS_b k hs hh q.1 q.2), eE_sum k b.2.1 b.1 q.1]; split <;> omega
  · rw [sm_congr (vN v) (fun c _ => eS_0 q), sm_z]; omega
theorem T0_rs (k : VOk v) (r : Nat) : 0 ≤ sm (T0 v r) (vN v) := by
  rw [T0_sum k]
  exact sm_nn _ (fun s hs => eS_sum k hs)
theorem eS_off {s r c : Nat} (k : VOk v) (hs : s < vS v) (hc : c < 5) (e : r ≠ c) : eS v s r c ≤ 0 := by
  refine eS_case (P := fun x => x ≤ 0) k hs (Int.le_refl 0) (fun j o _ _ _ _ _ hr _ => ?_)
  have b := k.2.2.2.1 s hs
  rw [eE_sq hc, if_neg (fun q => e (hr.trans q.symm))]
  split <;> omega
theorem T0_off {r c : Nat} (k : VOk v) (hc : c < 5) (e : r ≠ c) : T0 v r c ≤ 0 := by
  unfold T0
  rw [if_neg (by omega), Int.zero_add]
  have := sm_le (f := fun s => eS v s r c) (g := fun _ => 0) (vS v) (fun s hs => eS_off k hs hc e)
  rw [sm_z] at this; exact this
theorem eS_sym {s r c : Nat} (k : VOk v) (hs : s < vS v) (hr : r < 5) (hc : c < 5) : eS v s r c = eS v s c r := by
  have b := k.2.2.2.1 s hs
  unfold eS
  by_cases hh : vH v s = true
  · rw [if_pos hh, if_pos hh]
    rw [eE_sq hr, eE_sq hr, eE_sq hc, eE_sq hc]
    cases fa : vF v (vA v s) <;> cases fb : vF v (vB v s) <;> simp only [true_and, false_and, Bool.false_eq_true, if_false, Int.zero_add, Int.add_zero, Int.sub_zero]
    · by_cases e1 : r = rwo v (vB v s) <;> by_cases e2 : c = rwo v (vB v s) <;> simp [e1, e2]
    · by_cases e1 : r = rwo v (vA v s) <;> by_cases e2 : c = rwo v (vA v s) <;> simp [e1, e2]
    · have e : rwo v (vA v s) ≠ rwo v (vB v s) := fun e => b.2.2.1 (cnt_inj fa fb e)
      by_cases e1 : r = rwo v (vA v s)
      · by_cases e3 : c = rwo v (vA v s)
        · rw [← e3] at e e1; subst e1; rfl
        · have n1 : r ≠ rwo v (vB v s) := fun q => e (e1.symm.trans q)
          simp only [if_neg n1, if_pos e1, if_neg e3]
          by_cases e4 : c = rwo v (vB v s)
          · simp [e4]
          · simp [e4]
      · by_cases e2 : r = rwo v (vB v s)
        · simp only [if_neg e1, if_pos e2]
          by_cases e3 : c = rwo v (vA v s)
          · have n1 : c ≠ rwo v (vB v s) := fun q => e (e3.symm.trans q)
            simp [e3, e, if_neg n1]
          · by_cases e4 : c = rwo v (vB v s)
            · subst e4; rw [if_neg e3, if_neg e3, if_pos rfl, if_pos rfl]
            · simp [e3, e4]
        · simp only [if_neg e1, if_neg e2]; simp
  · rw [if_neg hh, if_neg hh]
theorem T0_sym {r c : Nat} (k : VOk v) (hr : r < 5) (hc : c < 5) : T0 v r c = T0 v c r := by
  unfold T0
  rw [if_neg (by omega), if_neg (by omega)]
  congr 1
  exact sm_congr _ (fun s hs => eS_sym k hs hr hc)
/-- the cut -/
theorem T0_cut (k : VOk v) (ha : aH v (hgV v)) (S : Nat → Prop) (h1 : ∃ r, S r) (h2 : ∀ r, S r → 0 ≤ r ∧ r < vN v) : ∃ r, S r ∧ (0 < sm (T0 v r) (vN v) ∨ ∃ c, 0 ≤ c ∧ c < vN v ∧ ¬ S c ∧ T0 v r c < 0) := by
  have hN := vN5 k
  obtain ⟨r0, hr0⟩ := h1
  obtain ⟨j0, a0, b0, c0⟩ := cnt_sur (vJ v) (h2 r0 hr0).2
  have hn : ¬ Cl v (hgV v) (fun j => ¬ (vF v j = true ∧ S (rwo v j))) := fun hc => ha j0 a0 b0 _ hc ⟨b0, (show rwo v j0 = r0 from c0) ▸ hr0⟩
  have hs : ∃ s, s < vS v ∧ vH v s = true ∧ ∃ j o, (vA v s = j ∧ vB v s = o ∨ vA v s = o ∧ vB v s = j) ∧ (vF v j = true ∧ S (rwo v j)) ∧ ¬ (vF v o = true ∧ S (rwo v o)) := by
    refine Classical.byContradiction fun q => hn ⟨fun j _ hf z => absurd z.1 (by rw [hf]; decide), fun s hs hh => ?_⟩
    constructor
    · intro na nb
      exact q ⟨s, hs, hh, vB v s, vA v s, .inr ⟨rfl, rfl⟩, nb, na⟩
    · intro nb na
      exact q ⟨s, hs, hh, vA v s, vB v s, .inl ⟨rfl, rfl⟩, na, nb⟩
  obtain ⟨s, hs, hh, j, o, he, ⟨hj, hSj⟩, ho⟩ := hs
  have b := k.2.2.2.1 s hs
  have hjo : j < vJ v ∧ o < vJ v := by
    rcases he with ⟨rfl, rfl⟩ | ⟨rfl, rfl⟩
    · exact ⟨b.1, b.2.1⟩
    · exact ⟨b.2.1, b.1⟩
  have hE : ∀ c, eS v s (rwo v j) c = eE v s j o c := fun c => by
    rcases he with ⟨rfl, rfl⟩ | ⟨rfl, rfl⟩
    · exact eS_a k hs hh hj rfl
    · exact eS_b k hs hh hj rfl
  refine ⟨rwo v j, hSj, ?_⟩
  by_cases fo : vF v o = true
  · refine .inr ⟨rwo v o, Nat.zero_le _, rwo_lt hjo.2 fo, fun z => ho ⟨fo, z⟩, ?_⟩
    have ne : rwo v j ≠ rwo v o := fun e => ho ⟨fo, e ▸ hSj⟩
    have l5 : rwo v o < 5 := by have := rwo_lt hjo.2 fo; omega
    unfold T0
    rw [if_neg (by omega), Int.zero_add]
    have := sm_gt (f := fun s => eS v s (rwo v j) (rwo v o)) (g := fun _ => 0) (x := vQ v s) (vS v) (fun s hs => eS_off k hs l5 ne) ⟨s, hs, by
      rw [hE, eE_sq l5, if_neg (fun q => ne q.symm), if_pos ⟨fo, rfl⟩]; omega⟩
    rw [sm_z] at this
    omega
  · refine .inl ?_
    rw [T0_sum k]
    have := sm_has (f := fun s => sm (fun c => eS v s (rwo v j) c) (vN v)) (x := vQ v s) (n := vS v) (fun s hs => eS_sum k hs) hs (by
      rw [sm_congr (vN v) (fun c _ => hE c), eE_sum k hjo.1 hjo.2 hj, if_neg fo]; exact Int.le_refl _)
    omega
theorem T0_Gd (k : VOk v) (ha : aH v (hgV v)) : Gd (vN v) 0 1 (T0 v) :=
  ⟨by decide, fun _ _ _ h => by omega, fun r c _ _ _ hc e => T0_off k (by have := vN5 k; omega) e, fun r _ _ => T0_rs k r, T0_cut k ha⟩
/-- columns of places -/
theorem eS_col {s r c : Nat} (k : VOk v) (hs : s < vS v) (hc : 5 ≤ c ∧ c < 8) : 0 ≤ eS v s r c ∧ eS v s r c ≤ 60 * sm (fun c => eS v s r c) (vN v) := by
  have b := k.2.2.2.1 s hs
  have hN := vN5 k
  have key : ∀ j o, j < vJ v → o < vJ v → vF v j = true → 0 ≤ eE v s j o c ∧ eE v s j o c ≤ 60 * sm (fun c => eE v s j o c) (vN v) := fun j o hj ho hf => by
    have rj := rwo_lt hj hf
    rw [eE_sum k hj ho hf]
    unfold eE
    rw [if_neg (by omega)]
    cases fo : vF v o
    · rw [if_neg (by simp), if_pos ⟨rfl, hc⟩, if_neg (by simp)]
      have p := k.2.2.2.2.2.1 o (c - 5)
      have h1 := Int.mul_nonneg (show 0 ≤ vQ v s by omega) p.1
      have h2 : vQ v s * vP v o (c - 5) ≤ vQ v s * 60 := Int.mul_le_mul_of_nonneg_left p.2 (by omega)
      omega
    · have ro := rwo_lt ho fo
      rw [if_neg (by intro q; omega), if_neg (by simp), if_pos rfl]
      omega
  by_cases q : vH v s = true ∧ (vF v (vA v s) = true ∧ r = rwo v (vA v s) ∨ vF v (vB v s) = true ∧ r = rwo v (vB v s))
  · rcases q with ⟨hh, q | q⟩
    · rw [sm_congr (vN v) (fun c _ => eS_a k hs hh q.1 q.2), eS_a k hs hh q.1 q.2]; exact key _ _ b.1 b.2.1 q.1
    · rw [sm_congr (vN v) (fun c _ => eS_b k hs hh q.1 q.2), eS_b k hs hh q.1 q.2]; exact key _ _ b.2.1 b.1 q.1
  · rw [sm_congr (vN v) (fun c _ => eS_0 q), eS_0 q, sm_z]; omega
theorem T0_col {r c : Nat} (k : VOk v) (hc : 5 ≤ c ∧ c < 8) : -9 ≤ T0 v r c ∧ T0 v r c ≤ 60 * sm (T0 v r) (vN v) + 9 := by
  have h1 := sm_nn (f := fun s => eS v s r c) (vS v) (fun s hs => (eS_col k hs hc).1)
  have h2 := sm_le (f := fun s => eS v s r c) (g := fun s => 60 * sm (fun c => eS v s r c) (vN v)) (vS v) (fun s hs => (eS_col k hs hc).2)
  rw [sm_mul, ← T0_sum k] at h2
  have hl := lD_b k (vJ v) (Nat.le_refl _) r
  show -9 ≤ (if c = 7 then lD v (vJ v) r else 0) + sm (fun s => eS v s r c) (vS v) ∧ (if c = 7 then lD v (vJ v) r else 0) + sm (fun s => eS v s r c) (vS v) ≤ _
  split <;> omega
theorem sm_cnt (f : Nat → Bool) (x : Int) : ∀ n, sm (fun s => if f s = true then x else 0) n = x * cnt f n
  | 0 => by simp [sm, cnt]
  | n + 1 => by
    simp only [sm, cnt]
    rw [sm_cnt f x n]
    by_cases q : f n = true
    · rw [if_pos q, if_pos q]; push_cast; rw [Int.mul_add]; omega
    · rw [if_neg q, if_neg q]; simp
theorem T0_sq {r c : Nat} (k : VOk v) (hr : r < vN v) (hc : c < 5) : -20 ≤ T0 v r c ∧ T0 v r c ≤ 20 := by
  obtain ⟨i, hi, fi, ri⟩ := cnt_sur (vJ v) hr
  have d4 := k.2.2.2.2.2.2.1 i hi fi
  have key : ∀ s, s < vS v → -(if decide (vA v s = i ∨ vB v s = i) = true then 5 else 0) ≤ eS v s r c ∧ eS v s r c ≤ (if decide (vA v s = i ∨ vB v s = i) = true then 5 else 0) := fun s hs => by
    refine eS_case (P := fun x => -(if decide (vA v s = i ∨ vB v s = i) = true then 5 else 0) ≤ x ∧ x ≤ (if decide (vA v s = i ∨ vB v s = i) = true then 5 else 0)) k hs (by split <;> omega) (fun j o _ hj ho ne fj rj he => ?_)
    have b := k.2.2.2.1 s hs
    have ji : j = i := cnt_inj fj fi (by rw [ri]; exact rj.symm)
    subst ji
    rw [if_pos (by rcases he with ⟨h, _⟩ | ⟨_, h⟩ <;> simp [h]), eE_sq hc]
    by_cases e1 : c = rwo v j
    · rw [if_pos e1, if_neg (fun q => ne (cnt_inj fj q.1 (e1.symm.trans q.2)))]; omega
    · rw [if_neg e1]; split <;> omega
  have a := sm_le (vS v) (fun s hs => (key s hs).2)
  have b := sm_le (vS v) (fun s hs => (key s hs).1)
  rw [sm_neg] at b
  rw [sm_cnt] at a b
  show -20 ≤ (if c = 7 then lD v (vJ v) r else 0) + sm (fun s => eS v s r c) (vS v) ∧ (if c = 7 then lD v (vJ v) r else 0) + sm (fun s => eS v s r c) (vS v) ≤ 20
  rw [if_neg (by omega)]
  omega
theorem T0_rs20 {r : Nat} (k : VOk v) (hr : r < vN v) : sm (T0 v r) (vN v) ≤ 20 := by
  have hN := vN5 k
  have := sm_le (f := T0 v r) (g := fun c => if c = r then 20 else 0) (vN v) (fun c hc => by
    by_cases e : c = r
    · rw [if_pos e]; exact (T0_sq k hr (by omega)).2
    · rw [if_neg e]; exact T0_off k (by omega) (fun q => e q.symm))
  rw [sm_one, if_pos hr] at this
  exact this
theorem T0_cl {r c : Nat} (k : VOk v) (hr : r < vN v) (hc : 5 ≤ c ∧ c < 8) : -1209 ≤ T0 v r c ∧ T0 v r c ≤ 1209 := by
  have := T0_col (r := r) k hc
  have := T0_rs20 k hr
  omega
theorem T0_z {r c : Nat} (k : VOk v) (hc : vN v ≤ c) (h5 : c < 5) : T0 v r c = 0 := by
  unfold T0
  rw [if_neg (by omega), sm_congr (g := fun _ => 0) (vS v) (fun s hs => ?_), sm_z]; rfl
  refine eS_case (P := fun x => x = 0) k hs rfl (fun j o _ hj ho _ fj rj _ => ?_)
  have := rwo_lt hj fj
  rw [eE_sq h5, if_neg (by omega), if_neg (fun q => by have := rwo_lt ho q.1; omega)]; rfl
end T0
