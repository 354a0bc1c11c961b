/-! The model: one number becomes another -/
theorem VOk_W1 {v : Nv} {k : Nat} {x : Int} (hv : VOk v) (hx : 0 ≤ x ∧ x ≤ 99) : VOk (vW1 v k x) := by
  obtain ⟨v1, v2, v3, v4, v5, v6, v7, v8, v9, v10, v11⟩ := hv
  refine ⟨v1, v2, v3, fun s hs => ?_, v5, v6, v7, v8, v9, v10, v11⟩
  have q := v4 s hs
  exact ⟨q.1, q.2.1, q.2.2.1, q.2.2.2.1, q.2.2.2.2.1, by show 0 ≤ (if s = k then x else vW v s); split <;> omega, by show (if s = k then x else vW v s) ≤ 99; split <;> omega⟩
theorem VOk_L1 {v : Nv} {k : Nat} {x : Int} (hv : VOk v) (hx : -9 ≤ x ∧ x ≤ 9) : VOk (vL1 v k x) := by
  obtain ⟨v1, v2, v3, v4, v5, v6, v7, v8, v9, v10, v11⟩ := hv
  refine ⟨v1, v2, v3, v4, fun s hs => ?_, v6, v7, v8, v9, v10, v11⟩
  have q := v5 s hs
  exact ⟨by show -9 ≤ (if s = k then x else vLd v s); split <;> omega, by show (if s = k then x else vLd v s) ≤ 9; split <;> omega⟩
theorem VOk_P1 {v : Nv} {k b : Nat} {x : Int} (hv : VOk v) (hx : 0 ≤ x ∧ x ≤ 60) : VOk (vP1 v k b x) := by
  obtain ⟨v1, v2, v3, v4, v5, v6, v7, v8, v9, v10, v11⟩ := hv
  refine ⟨v1, v2, v3, v4, v5, fun j a => ?_, v7, v8, v9, v10, v11⟩
  have q := v6 j a
  exact ⟨by show 0 ≤ (if j = k ∧ a = b then x else vP v j a); split <;> omega, by show (if j = k ∧ a = b then x else vP v j a) ≤ 60; split <;> omega⟩
theorem VOk_H1 {v : Nv} {k : Nat} {x : Bool} (hv : VOk v) : VOk (vH1 v k x) := hv
theorem gQ1 {f : Nat → Int} {k : Nat} {x : Int} (ok : GOk f) (hk : k < vS (gV f)) (hx : 1 ≤ x ∧ x ≤ 5) : gV (up f (54 + 5 * k + 2) x) = vQ1 (gV f) k x ∧ GOk (up f (54 + 5 * k + 2) x) := by
  have hv := ok.2.2.2.2
  have eJ := gJ ok
  have eS := gS ok
  have bJ := ok.1
  have bS := ok.2.1
  obtain ⟨g, hg⟩ : ∃ g, g = up f (54 + 5 * k + 2) x := ⟨_, rfl⟩
  have u : ∀ i, i ≠ 54 + 5 * k + 2 → g i = f i := fun i q => by rw [hg]; exact up_ne q
  have ug : g (54 + 5 * k + 2) = x := by rw [hg]; exact up_eq
  rw [← hg]
  have hV : gV g = vQ1 (gV f) k x := by
    refine nv_ext ?_ ?_ (fun j => ?_) (fun j a => ?_) (fun j => ?_) (fun s => ?_) (fun s => ?_) (fun s => ?_) (fun s => ?_) (fun s => ?_) (u 2 (by omega)) (u 3 (by omega))
    · show (g 0).toNat = (f 0).toNat; rw [u 0 (by omega)]
    · show (g 1).toNat = (f 1).toNat; rw [u 1 (by omega)]
    · show decide ((j : Int) < g 0 ∧ g (4 + j) = 1) = decide ((j : Int) < f 0 ∧ f (4 + j) = 1)
      rw [u 0 (by omega)]
      by_cases l : (j : Int) < f 0
      · rw [u (4 + j) (by omega)]
      · rw [decide_eq_false (fun z => l z.1), decide_eq_false (fun z => l z.1)]
    · show (if (j : Int) < g 0 ∧ ¬ g (4 + j) = 1 ∧ a < 3 then g (14 + 3 * j + a) else 0) = (if (j : Int) < f 0 ∧ ¬ f (4 + j) = 1 ∧ a < 3 then f (14 + 3 * j + a) else 0)
      rw [u 0 (by omega)]
      by_cases l : (j : Int) < f 0 ∧ a < 3
      · rw [u (4 + j) (by omega), u (14 + 3 * j + a) (by omega)]
      · rw [if_neg (fun z => l ⟨z.1, z.2.2⟩), if_neg (fun z => l ⟨z.1, z.2.2⟩)]
    · show (if (j : Int) < g 0 then g (44 + j) else 0) = (if (j : Int) < f 0 then f (44 + j) else 0)
      rw [u 0 (by omega)]
      by_cases l : (j : Int) < f 0
      · rw [u (44 + j) (by omega)]
      · rw [if_neg l, if_neg l]
    · show (if (s : Int) < g 1 then (g (54 + 5 * s)).toNat else 0) = (if (s : Int) < f 1 then (f (54 + 5 * s)).toNat else 0)
      rw [u 1 (by omega)]
      by_cases l : (s : Int) < f 1
      · rw [u (54 + 5 * s) (by omega)]
      · rw [if_neg l, if_neg l]
    · show (if (s : Int) < g 1 then (g (54 + 5 * s + 1)).toNat else 0) = (if (s : Int) < f 1 then (f (54 + 5 * s + 1)).toNat else 0)
      rw [u 1 (by omega)]
      by_cases l : (s : Int) < f 1
      · rw [u (54 + 5 * s + 1) (by omega)]
      · rw [if_neg l, if_neg l]
    · show (if (s : Int) < g 1 then g (54 + 5 * s + 2) else 0) = if s = k then x else (if (s : Int) < f 1 then f (54 + 5 * s + 2) else 0)
      rw [u 1 (by omega)]
      by_cases e : s = k
      · rw [if_pos e, e, if_pos (by omega)]; exact ug
      · rw [if_neg e]
        by_cases l : (s : Int) < f 1
        · rw [u (54 + 5 * s + 2) (by omega)]
        · rw [if_neg l, if_neg l]
    · show (if (s : Int) < g 1 then g (54 + 5 * s + 3) else 0) = (if (s : Int) < f 1 then f (54 + 5 * s + 3) else 0)
      rw [u 1 (by omega)]
      by_cases l : (s : Int) < f 1
      · rw [u (54 + 5 * s + 3) (by omega)]
      · rw [if_neg l, if_neg l]
    · show decide ((s : Int) < g 1 ∧ g (54 + 5 * s + 4) = 0) = decide ((s : Int) < f 1 ∧ f (54 + 5 * s + 4) = 0)
      rw [u 1 (by omega)]
      by_cases l : (s : Int) < f 1
      · rw [u (54 + 5 * s + 4) (by omega)]
      · rw [decide_eq_false (fun z => l z.1), decide_eq_false (fun z => l z.1)]
  refine ⟨hV, by rw [u 0 (by omega)]; exact bJ, by rw [u 1 (by omega)]; exact bS, fun j hj => ?_, fun s hs => ?_, by rw [hV]; exact VOk_Q1 hv hx⟩
  · rw [u 0 (by omega)] at hj; rw [u (4 + j) (by omega)]; exact ok.2.2.1 j hj
  · rw [u 1 (by omega)] at hs; rw [u (54 + 5 * s) (by omega), u (54 + 5 * s + 1) (by omega), u (54 + 5 * s + 4) (by omega), u 0 (by omega)]; exact ok.2.2.2.1 s hs
theorem gW1 {f : Nat → Int} {k : Nat} {x : Int} (ok : GOk f) (hk : k < vS (gV f)) (hx : 0 ≤ x ∧ x ≤ 99) : gV (up f (54 + 5 * k + 3) x) = vW1 (gV f) k x ∧ GOk (up f (54 + 5 * k + 3) x) := by
  have hv := ok.2.2.2.2
  have eJ := gJ ok
  have eS := gS ok
  have bJ := ok.1
  have bS := ok.2.1
  obtain ⟨g, hg⟩ : ∃ g, g = up f (54 + 5 * k + 3) x := ⟨_, rfl⟩
  have u : ∀ i, i ≠ 54 + 5 * k + 3 → g i = f i := fun i q => by rw [hg]; exact up_ne q
  have ug : g (54 + 5 * k + 3) = x := by rw [hg]; exact up_eq
  rw [← hg]
  have hV : gV g = vW1 (gV f) k x := by
    refine nv_ext ?_ ?_ (fun j => ?_) (fun j a => ?_) (fun j => ?_) (fun s => ?_) (fun s => ?_) (fun s => ?_) (fun s => ?_) (fun s => ?_) (u 2 (by omega)) (u 3 (by omega))
    · show (g 0).toNat = (f 0).toNat; rw [u 0 (by omega)]
    · show (g 1).toNat = (f 1).toNat; rw [u 1 (by omega)]
    · show decide ((j : Int) < g 0 ∧ g (4 + j) = 1) = decide ((j : Int) < f 0 ∧ f (4 + j) = 1)
      rw [u 0 (by omega)]
      by_cases l : (j : Int) < f 0
      · rw [u (4 + j) (by omega)]
      · rw [decide_eq_false (fun z => l z.1), decide_eq_false (fun z => l z.1)]
    · show (if (j : Int) < g 0 ∧ ¬ g (4 + j) = 1 ∧ a < 3 then g (14 + 3 * j + a) else 0) = (if (j : Int) < f 0 ∧ ¬ f (4 + j) = 1 ∧ a < 3 then f (14 + 3 * j + a) else 0)
      rw [u 0 (by omega)]
      by_cases l : (j : Int) < f 0 ∧ a < 3
      · rw [u (4 + j) (by omega), u (14 + 3 * j + a) (by omega)]
      · rw [if_neg (fun z => l ⟨z.1, z.2.2⟩), if_neg (fun z => l ⟨z.1, z.2.2⟩)]
    · show (if (j : Int) < g 0 then g (44 + j) else 0) = (if (j : Int) < f 0 then f (44 + j) else 0)
      rw [u 0 (by omega)]
      by_cases l : (j : Int) < f 0
      · rw [u (44 + j) (by omega)]
      · rw [if_neg l, if_neg l]
    · show (if (s : Int) < g 1 then (g (54 + 5 * s)).toNat else 0) = (if (s : Int) < f 1 then (f (54 + 5 * s)).toNat else 0)
      rw [u 1 (by omega)]
      by_cases l : (s : Int) < f 1
      · rw [u (54 + 5 * s) (by omega)]
      · rw [if_neg l, if_neg l]
    · show (if (s : Int) < g 1 then (g (54 + 5 * s + 1)).toNat else 0) = (if (s : Int) < f 1 then (f (54 + 5 * s + 1)).toNat else 0)
      rw [u 1 (by omega)]
      by_cases l : (s : Int) < f 1
      · rw [u (54 + 5 * s + 1) (by omega)]
      · rw [if_neg l, if_neg l]
    · show (if (s : Int) < g 1 then g (54 + 5 * s + 2) else 0) = (if (s : Int) < f 1 then f (54 + 5 * s + 2) else 0)
      rw [u 1 (by omega)]
      by_cases l : (s : Int) < f 1
      · rw [u (54 + 5 * s + 2) (by omega)]
      · rw [if_neg l, if_neg l]
    · show (if (s : Int) < g 1 then g (54 + 5 * s + 3) else 0) = if s = k then x else (if (s : Int) < f 1 then f (54 + 5 * s + 3) else 0)
      rw [u 1 (by omega)]
      by_cases e : s = k
      · rw [if_pos e, e, if_pos (by omega)]; exact ug
      · rw [if_neg e]
        by_cases l : (s : Int) < f 1
        · rw [u (54 + 5 * s + 3) (by omega)]
        · rw [if_neg l, if_neg l]
    · show decide ((s : Int) < g 1 ∧ g (54 + 5 * s + 4) = 0) = decide ((s : Int) < f 1 ∧ f (54 + 5 * s + 4) = 0)
      rw [u 1 (by omega)]
      by_cases l : (s : Int) < f 1
      · rw [u (54 + 5 * s + 4) (by omega)]
      · rw [decide_eq_false (fun z => l z.1), decide_eq_false (fun z => l z.1)]
  refine ⟨hV, by rw [u 0 (by omega)]; exact bJ, by rw [u 1 (by omega)]; exact bS, fun j hj => ?_, fun s hs => ?_, by rw [hV]; exact VOk_W1 hv hx⟩
  · rw [u 0 (by omega)] at hj; rw [u (4 + j) (by omega)]; exact ok.2.2.1 j hj
  · rw [u 1 (by omega)] at hs; rw [u (54 + 5 * s) (by omega), u (54 + 5 * s + 1) (by omega), u (54 + 5 * s + 4) (by omega), u 0 (by omega)]; exact ok.2.2.2.1 s hs
theorem gL1 {f : Nat → Int} {k : Nat} {x : Int} (ok : GOk f) (hk : k < vJ (gV f)) (hx : -9 ≤ x ∧ x ≤ 9) : gV (up f (44 + k) x) = vL1 (gV f) k x ∧ GOk (up f (44 + k) x) := by
  have hv := ok.2.2.2.2
  have eJ := gJ ok
  have eS := gS ok
  have bJ := ok.1
  have bS := ok.2.1
  obtain ⟨g, hg⟩ : ∃ g, g = up f (44 + k) x := ⟨_, rfl⟩
  have u : ∀ i, i ≠ 44 + k → g i = f i := fun i q => by rw [hg]; exact up_ne q
  have ug : g (44 + k) = x := by rw [hg]; exact up_eq
  rw [← hg]
  have hV : gV g = vL1 (gV f) k x := by
    refine nv_ext ?_ ?_ (fun j => ?_) (fun j a => ?_) (fun j => ?_) (fun s => ?_) (fun s => ?_) (fun s => ?_) (fun s => ?_) (fun s => ?_) (u 2 (by omega)) (u 3 (by omega))
    · show (g 0).toNat = (f 0).toNat; rw [u 0 (by omega)]
    · show (g 1).toNat = (f 1).toNat; rw [u 1 (by omega)]
    · show decide ((j : Int) < g 0 ∧ g (4 + j) = 1) = decide ((j : Int) < f 0 ∧ f (4 + j) = 1)
      rw [u 0 (by omega)]
      by_cases l : (j : Int) < f 0
      · rw [u (4 + j) (by omega)]
      · rw [decide_eq_false (fun z => l z.1), decide_eq_false (fun z => l z.1)]
    · show (if (j : Int) < g 0 ∧ ¬ g (4 + j) = 1 ∧ a < 3 then g (14 + 3 * j + a) else 0) = (if (j : Int) < f 0 ∧ ¬ f (4 + j) = 1 ∧ a < 3 then f (14 + 3 * j + a) else 0)
      rw [u 0 (by omega)]
      by_cases l : (j : Int) < f 0 ∧ a < 3
      · rw [u (4 + j) (by omega), u (14 + 3 * j + a) (by omega)]
      · rw [if_neg (fun z => l ⟨z.1, z.2.2⟩), if_neg (fun z => l ⟨z.1, z.2.2⟩)]
    · show (if (j : Int) < g 0 then g (44 + j) else 0) = if j = k then x else (if (j : Int) < f 0 then f (44 + j) else 0)
      rw [u 0 (by omega)]
      by_cases e : j = k
      · rw [if_pos e, e, if_pos (by omega)]; exact ug
      · rw [if_neg e]
        by_cases l : (j : Int) < f 0
        · rw [u (44 + j) (by omega)]
        · rw [if_neg l, if_neg l]
    · show (if (s : Int) < g 1 then (g (54 + 5 * s)).toNat else 0) = (if (s : Int) < f 1 then (f (54 + 5 * s)).toNat else 0)
      rw [u 1 (by omega)]
      by_cases l : (s : Int) < f 1
      · rw [u (54 + 5 * s) (by omega)]
      · rw [if_neg l, if_neg l]
    · show (if (s : Int) < g 1 then (g (54 + 5 * s + 1)).toNat else 0) = (if (s : Int) < f 1 then (f (54 + 5 * s + 1)).toNat else 0)
      rw [u 1 (by omega)]
      by_cases l : (s : Int) < f 1
      · rw [u (54 + 5 * s + 1) (by omega)]
      · rw [if_neg l, if_neg l]
    · show (if (s : Int) < g 1 then g (54 + 5 * s + 2) else 0) = (if (s : Int) < f 1 then f (54 + 5 * s + 2) else 0)
      rw [u 1 (by omega)]
      by_cases l : (s : Int) < f 1
      · rw [u (54 + 5 * s + 2) (by omega)]
      · rw [if_neg l, if_neg l]
    · show (if (s : Int) < g 1 then g (54 + 5 * s + 3) else 0) = (if (s : Int) < f 1 then f (54 + 5 * s + 3) else 0)
      rw [u 1 (by omega)]
      by_cases l : (s : Int) < f 1
      · rw [u (54 + 5 * s + 3) (by omega)]
      · rw [if_neg l, if_neg l]
    · show decide ((s : Int) < g 1 ∧ g (54 + 5 * s + 4) = 0) = decide ((s : Int) < f 1 ∧ f (54 + 5 * s + 4) = 0)
      rw [u 1 (by omega)]
      by_cases l : (s : Int) < f 1
      · rw [u (54 + 5 * s + 4) (by omega)]
      · rw [decide_eq_false (fun z => l z.1), decide_eq_false (fun z => l z.1)]
  refine ⟨hV, by rw [u 0 (by omega)]; exact bJ, by rw [u 1 (by omega)]; exact bS, fun j hj => ?_, fun s hs => ?_, by rw [hV]; exact VOk_L1 hv hx⟩
  · rw [u 0 (by omega)] at hj; rw [u (4 + j) (by omega)]; exact ok.2.2.1 j hj
  · rw [u 1 (by omega)] at hs; rw [u (54 + 5 * s) (by omega), u (54 + 5 * s + 1) (by omega), u (54 + 5 * s + 4) (by omega), u 0 (by omega)]; exact ok.2.2.2.1 s hs
theorem gP1 {f : Nat → Int} {k b : Nat} {x : Int} (ok : GOk f) (hk : k < vJ (gV f)) (hf : vF (gV f) k = false) (hb : b < 3) (hx : 0 ≤ x ∧ x ≤ 60) : gV (up f (14 + 3 * k + b) x) = vP1 (gV f) k b x ∧ GOk (up f (14 + 3 * k + b) x) := by
  have hv := ok.2.2.2.2
  have eJ := gJ ok
  have eS := gS ok
  have bJ := ok.1
  have bS := ok.2.1
  have hf1 : ¬ f (4 + k) = 1 := fun z => by rw [(gF (by omega)).mp z] at hf; cases hf
  obtain ⟨g, hg⟩ : ∃ g, g = up f (14 + 3 * k + b) x := ⟨_, rfl⟩
  have u : ∀ i, i ≠ 14 + 3 * k + b → g i = f i := fun i q => by rw [hg]; exact up_ne q
  have ug : g (14 + 3 * k + b) = x := by rw [hg]; exact up_eq
  rw [← hg]
  have hV : gV g = vP1 (gV f) k b x := by
    refine nv_ext ?_ ?_ (fun j => ?_) (fun j a => ?_) (fun j => ?_) (fun s => ?_) (fun s => ?_) (fun s => ?_) (fun s => ?_) (fun s => ?_) (u 2 (by omega)) (u 3 (by omega))
    · show (g 0).toNat = (f 0).toNat; rw [u 0 (by omega)]
    · show (g 1).toNat = (f 1).toNat; rw [u 1 (by omega)]
    · show decide ((j : Int) < g 0 ∧ g (4 + j) = 1) = decide ((j : Int) < f 0 ∧ f (4 + j) = 1)
      rw [u 0 (by omega)]
      by_cases l : (j : Int) < f 0
      · rw [u (4 + j) (by omega)]
      · rw [decide_eq_false (fun z => l z.1), decide_eq_false (fun z => l z.1)]
    · show (if (j : Int) < g 0 ∧ ¬ g (4 + j) = 1 ∧ a < 3 then g (14 + 3 * j + a) else 0) = if j = k ∧ a = b then x else (if (j : Int) < f 0 ∧ ¬ f (4 + j) = 1 ∧ a < 3 then f (14 + 3 * j + a) else 0)
      rw [u 0 (by omega)]
      by_cases e : j = k ∧ a = b
      · obtain ⟨e1, e2⟩ := e
        rw [if_pos (c := j = k ∧ a = b) ⟨e1, e2⟩, e1, e2, u (4 + k) (by omega), if_pos ⟨by omega, hf1, hb⟩]; exact ug
      · rw [if_neg e]
        by_cases l : (j : Int) < f 0 ∧ a < 3
        · rw [u (4 + j) (by omega), u (14 + 3 * j + a) (by omega)]
        · rw [if_neg (fun z => l ⟨z.1, z.2.2⟩), if_neg (fun z => l ⟨z.1, z.2.2⟩)]
    · show (if (j : Int) < g 0 then g (44 + j) else 0) = (if (j : Int) < f 0 then f (44 + j) else 0)
      rw [u 0 (by omega)]
      by_cases l : (j : Int) < f 0
      · rw [u (44 + j) (by omega)]
      · rw [if_neg l, if_neg l]
    · show (if (s : Int) < g 1 then (g (54 + 5 * s)).toNat else 0) = (if (s : Int) < f 1 then (f (54 + 5 * s)).toNat else 0)
      rw [u 1 (by omega)]
      by_cases l : (s : Int) < f 1
      · rw [u (54 + 5 * s) (by omega)]
      · rw [if_neg l, if_neg l]
    · show (if (s : Int) < g 1 then (g (54 + 5 * s + 1)).toNat else 0) = (if (s : Int) < f 1 then (f (54 + 5 * s + 1)).toNat else 0)
      rw [u 1 (by omega)]
      by_cases l : (s : Int) < f 1
      · rw [u (54 + 5 * s + 1) (by omega)]
      · rw [if_neg l, if_neg l]
    · show (if (s : Int) < g 1 then g (54 + 5 * s + 2) else 0) = (if (s : Int) < f 1 then f (54 + 5 * s + 2) else 0)
      rw [u 1 (by omega)]
      by_cases l : (s : Int) < f 1
      · rw [u (54 + 5 * s + 2) (by omega)]
      · rw [if_neg l, if_neg l]
    · show (if (s : Int) < g 1 then g (54 + 5 * s + 3) else 0) = (if (s : Int) < f 1 then f (54 + 5 * s + 3) else 0)
      rw [u 1 (by omega)]
      by_cases l : (s : Int) < f 1
      · rw [u (54 + 5 * s + 3) (by omega)]
      · rw [if_neg l, if_neg l]
    · show decide ((s : Int) < g 1 ∧ g (54 + 5 * s + 4) = 0) = decide ((s : Int) < f 1 ∧ f (54 + 5 * s + 4) = 0)
      rw [u 1 (by omega)]
      by_cases l : (s : Int) < f 1
      · rw [u (54 + 5 * s + 4) (by omega)]
      · rw [decide_eq_false (fun z => l z.1), decide_eq_false (fun z => l z.1)]
  refine ⟨hV, by rw [u 0 (by omega)]; exact bJ, by rw [u 1 (by omega)]; exact bS, fun j hj => ?_, fun s hs => ?_, by rw [hV]; exact VOk_P1 hv hx⟩
  · rw [u 0 (by omega)] at hj; rw [u (4 + j) (by omega)]; exact ok.2.2.1 j hj
  · rw [u 1 (by omega)] at hs; rw [u (54 + 5 * s) (by omega), u (54 + 5 * s + 1) (by omega), u (54 + 5 * s + 4) (by omega), u 0 (by omega)]; exact ok.2.2.2.1 s hs
theorem gH1 {f : Nat → Int} {k : Nat} {x : Int} (ok : GOk f) (hk : k < vS (gV f)) (hx : 0 ≤ x ∧ x ≤ 1) : gV (up f (54 + 5 * k + 4) x) = vH1 (gV f) k (decide (x = 0)) ∧ GOk (up f (54 + 5 * k + 4) x) := by
  have hv := ok.2.2.2.2
  have eJ := gJ ok
  have eS := gS ok
  have bJ := ok.1
  have bS := ok.2.1
  obtain ⟨g, hg⟩ : ∃ g, g = up f (54 + 5 * k + 4) x := ⟨_, rfl⟩
  have u : ∀ i, i ≠ 54 + 5 * k + 4 → g i = f i := fun i q => by rw [hg]; exact up_ne q
  have ug : g (54 + 5 * k + 4) = x := by rw [hg]; exact up_eq
  rw [← hg]
  have hV : gV g = vH1 (gV f) k (decide (x = 0)) := by
    refine nv_ext ?_ ?_ (fun j => ?_) (fun j a => ?_) (fun j => ?_) (fun s => ?_) (fun s => ?_) (fun s => ?_) (fun s => ?_) (fun s => ?_) (u 2 (by omega)) (u 3 (by omega))
    · show (g 0).toNat = (f 0).toNat; rw [u 0 (by omega)]
    · show (g 1).toNat = (f 1).toNat; rw [u 1 (by omega)]
    · show decide ((j : Int) < g 0 ∧ g (4 + j) = 1) = decide ((j : Int) < f 0 ∧ f (4 + j) = 1)
      rw [u 0 (by omega)]
      by_cases l : (j : Int) < f 0
      · rw [u (4 + j) (by omega)]
      · rw [decide_eq_false (fun z => l z.1), decide_eq_false (fun z => l z.1)]
    · show (if (j : Int) < g 0 ∧ ¬ g (4 + j) = 1 ∧ a < 3 then g (14 + 3 * j + a) else 0) = (if (j : Int) < f 0 ∧ ¬ f (4 + j) = 1 ∧ a < 3 then f (14 + 3 * j + a) else 0)
      rw [u 0 (by omega)]
      by_cases l : (j : Int) < f 0 ∧ a < 3
      · rw [u (4 + j) (by omega), u (14 + 3 * j + a) (by omega)]
      · rw [if_neg (fun z => l ⟨z.1, z.2.2⟩), if_neg (fun z => l ⟨z.1, z.2.2⟩)]
    · show (if (j : Int) < g 0 then g (44 + j) else 0) = (if (j : Int) < f 0 then f (44 + j) else 0)
      rw [u 0 (by omega)]
      by_cases l : (j : Int) < f 0
      · rw [u (44 + j) (by omega)]
      · rw [if_neg l, if_neg l]
    · show (if (s : Int) < g 1 then (g (54 + 5 * s)).toNat else 0) = (if (s : Int) < f 1 then (f (54 + 5 * s)).toNat else 0)
      rw [u 1 (by omega)]
      by_cases l : (s : Int) < f 1
      · rw [u (54 + 5 * s) (by omega)]
      · rw [if_neg l, if_neg l]
    · show (if (s : Int) < g 1 then (g (54 + 5 * s + 1)).toNat else 0) = (if (s : Int) < f 1 then (f (54 + 5 * s + 1)).toNat else 0)
      rw [u 1 (by omega)]
      by_cases l : (s : Int) < f 1
      · rw [u (54 + 5 * s + 1) (by omega)]
      · rw [if_neg l, if_neg l]
    · show (if (s : Int) < g 1 then g (54 + 5 * s + 2) else 0) = (if (s : Int) < f 1 then f (54 + 5 * s + 2) else 0)
      rw [u 1 (by omega)]
      by_cases l : (s : Int) < f 1
      · rw [u (54 + 5 * s + 2) (by omega)]
      · rw [if_neg l, if_neg l]
    · show (if (s : Int) < g 1 then g (54 + 5 * s + 3) else 0) = (if (s : Int) < f 1 then f (54 + 5 * s + 3) else 0)
      rw [u 1 (by omega)]
      by_cases l : (s : Int) < f 1
      · rw [u (54 + 5 * s + 3) (by omega)]
      · rw [if_neg l, if_neg l]
    · show decide ((s : Int) < g 1 ∧ g (54 + 5 * s + 4) = 0) = if s = k then decide (x = 0) else decide ((s : Int) < f 1 ∧ f (54 + 5 * s + 4) = 0)
      rw [u 1 (by omega)]
      by_cases e : s = k
      · rw [if_pos e, e, ug, decide_eq_decide]; exact ⟨fun z => z.2, fun z => ⟨by omega, z⟩⟩
      · rw [if_neg e]
        by_cases l : (s : Int) < f 1
        · rw [u (54 + 5 * s + 4) (by omega)]
        · rw [decide_eq_false (fun z => l z.1), decide_eq_false (fun z => l z.1)]
  refine ⟨hV, by rw [u 0 (by omega)]; exact bJ, by rw [u 1 (by omega)]; exact bS, fun j hj => ?_, fun s hs => ?_, by rw [hV]; exact VOk_H1 hv⟩
  · rw [u 0 (by omega)] at hj; rw [u (4 + j) (by omega)]; exact ok.2.2.1 j hj
  · rw [u 1 (by omega)] at hs
    have q := ok.2.2.2.1 s hs
    rw [u (54 + 5 * s) (by omega), u (54 + 5 * s + 1) (by omega), u 0 (by omega)]
    refine ⟨q.1, q.2.1, ?_⟩
    by_cases e : s = k
    · rw [e, ug]; omega
    · rw [u (54 + 5 * s + 4) (by omega)]; exact q.2.2
