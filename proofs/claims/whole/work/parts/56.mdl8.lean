/-! The model: takesStrand -/
theorem gStr {f g : Nat → Int} {a b : Nat} {q w : Int} (k : GOk f) (hk : okStr (gV f) a b q w) (hw : 0 ≤ w) (e1 : g 1 = f 1 + 1) (xa : g (54 + 5 * vS (gV f)) = (a : Int)) (xb : g (54 + 5 * vS (gV f) + 1) = (b : Int)) (xq : g (54 + 5 * vS (gV f) + 2) = q) (xw : g (54 + 5 * vS (gV f) + 3) = w) (xd : g (54 + 5 * vS (gV f) + 4) = 0) (e : ∀ i, i ≠ 1 → (i < 54 + 5 * vS (gV f) ∨ 54 + 5 * vS (gV f) + 4 < i) → g i = f i) : gV g = vStr (gV f) a b q w ∧ GOk g := by
  have eS := gS k
  have bS := k.2.1
  have eJ := gJ k
  have hS : vS (gV f) < 14 := hk.1
  have hFv := VOk_str k.2.2.2.2 hk hw
  have ha : (a : Int) < vJ (gV f) := hk.2.1
  have hb : (b : Int) < vJ (gV f) := hk.2.2.1
  generalize hSS : vS (gV f) = S at *
  have hSS2 : (f 1).toNat = S := hSS
  have a0 : g 0 = f 0 := e 0 (by omega) (by omega)
  have a2 : g 2 = f 2 := e 2 (by omega) (by omega)
  have a3 : g 3 = f 3 := e 3 (by omega) (by omega)
  have ej : ∀ j : Nat, 2 ≤ j → j < 54 → g j = f j := fun j h1 h2 => e _ (by omega) (by omega)
  have es : ∀ s i : Nat, s < S → i < 5 → g (54 + 5 * s + i) = f (54 + 5 * s + i) := fun s i hs hi => e _ (by omega) (by omega)
  have bJ := k.1
  have hV : gV g = vStr (gV f) a b q w := by
    refine nv_ext ?_ ?_ (fun j => ?_) (fun j a => ?_) (fun j => ?_) (fun s => ?_) (fun s => ?_) (fun s => ?_) (fun s => ?_) (fun s => ?_) a2 a3
    · show (g 0).toNat = (f 0).toNat; rw [a0]
    · show (g 1).toNat = (f 1).toNat + 1; omega
    · show decide ((j : Int) < g 0 ∧ g (4 + j) = 1) = decide ((j : Int) < f 0 ∧ f (4 + j) = 1)
      rw [a0]
      by_cases l : (j : Int) < f 0
      · rw [ej (4 + j) (by omega) (by omega)]
      · rw [decide_eq_false (fun z => l z.1), decide_eq_false (fun z => l z.1)]
    · show (if (j : Int) < g 0 ∧ ¬ g (4 + j) = 1 ∧ a < 3 then g (14 + 3 * j + a) else 0) = if (j : Int) < f 0 ∧ ¬ f (4 + j) = 1 ∧ a < 3 then f (14 + 3 * j + a) else 0
      rw [a0]
      by_cases l : (j : Int) < f 0 ∧ a < 3
      · rw [ej (4 + j) (by omega) (by omega), ej (14 + 3 * j + a) (by omega) (by omega)]
      · rw [if_neg (fun z => l ⟨z.1, z.2.2⟩), if_neg (fun z => l ⟨z.1, z.2.2⟩)]
    · show (if (j : Int) < g 0 then g (44 + j) else 0) = if (j : Int) < f 0 then f (44 + j) else 0
      rw [a0]
      by_cases l : (j : Int) < f 0
      · rw [ej (44 + j) (by omega) (by omega)]
      · rw [if_neg l, if_neg l]
    · show (if (s : Int) < g 1 then (g (54 + 5 * s)).toNat else 0) = if s = (f 1).toNat then a else if (s : Int) < f 1 then (f (54 + 5 * s)).toNat else 0
      have q0 := es s 0
      rw [Nat.add_zero] at q0
      clear e ej es
      grind
    · show (if (s : Int) < g 1 then (g (54 + 5 * s + 1)).toNat else 0) = if s = (f 1).toNat then b else if (s : Int) < f 1 then (f (54 + 5 * s + 1)).toNat else 0
      have q0 := es s 1
      clear e ej es
      grind
    · show (if (s : Int) < g 1 then g (54 + 5 * s + 2) else 0) = if s = (f 1).toNat then q else if (s : Int) < f 1 then f (54 + 5 * s + 2) else 0
      have q0 := es s 2
      clear e ej es
      grind
    · show (if (s : Int) < g 1 then g (54 + 5 * s + 3) else 0) = if s = (f 1).toNat then w else if (s : Int) < f 1 then f (54 + 5 * s + 3) else 0
      have q0 := es s 3
      clear e ej es
      grind
    · show decide ((s : Int) < g 1 ∧ g (54 + 5 * s + 4) = 0) = if s = (f 1).toNat then true else decide ((s : Int) < f 1 ∧ f (54 + 5 * s + 4) = 0)
      have q0 := es s 4
      clear e ej es
      grind
  refine ⟨hV, by rw [a0]; exact k.1, by omega, fun j hj => ?_, fun s hs => ?_, by rw [hV]; exact hFv⟩
  · rw [ej (4 + j) (by omega) (by omega)]; exact k.2.2.1 j (by omega)
  · by_cases l : s = S
    · subst l
      rw [xa, xb, xd, a0]
      exact ⟨⟨by omega, by omega⟩, ⟨by omega, by omega⟩, Or.inl rfl⟩
    · have q0 := es s 0 (by omega) (by omega)
      rw [Nat.add_zero] at q0
      rw [q0, es s 1 (by omega) (by omega), es s 4 (by omega) (by omega), a0]
      exact k.2.2.2.1 s (by omega)
