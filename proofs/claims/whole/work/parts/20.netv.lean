/-! What the changes of a net do to its view. -/
theorem nv_ext {v w : Nv} (h1 : vJ v = vJ w) (h2 : vS v = vS w) (h3 : ∀ j, vF v j = vF w j) (h4 : ∀ j a, vP v j a = vP w j a) (h5 : ∀ j, vLd v j = vLd w j) (h6 : ∀ s, vA v s = vA w s) (h7 : ∀ s, vB v s = vB w s) (h8 : ∀ s, vQ v s = vQ w s) (h9 : ∀ s, vW v s = vW w s) (h10 : ∀ s, vH v s = vH w s) (h11 : vR v = vR w) (h12 : vE v = vE w) : v = w := by
  obtain ⟨a1, a2, a3, a4, a5, a6, a7, a8, a9, a10, a11, a12⟩ := v
  obtain ⟨b1, b2, b3, b4, b5, b6, b7, b8, b9, b10, b11, b12⟩ := w
  have e1 : a1 = b1 := h1
  have e2 : a2 = b2 := h2
  have e3 : a3 = b3 := funext h3
  have e4 : a4 = b4 := funext fun j => funext fun a => h4 j a
  have e5 : a5 = b5 := funext h5
  have e6 : a6 = b6 := funext h6
  have e7 : a7 = b7 := funext h7
  have e8 : a8 = b8 := funext h8
  have e9 : a9 = b9 := funext h9
  have e10 : a10 = b10 := funext h10
  have e11 : a11 = b11 := h11
  have e12 : a12 = b12 := h12
  rw [e1, e2, e3, e4, e5, e6, e7, e8, e9, e10, e11, e12]
/-- a class's net, field by field, by another heap's -/
theorem cV_ext {h g : Hp} {n o : Nat} (hf : ∀ k, k < 6 → h.1 n k = g.1 o k) (h1 : ∀ j a : Nat, (j : Int) < g.1 o 0 → a < 3 → h.1 (n + 1) (j * 3 + a) = g.1 (o + 1) (j * 3 + a)) (h2 : ∀ j : Nat, (j : Int) < g.1 o 0 → h.1 (n + 2) j = g.1 (o + 2) j) (h3 : ∀ s : Nat, (s : Int) < g.1 o 2 → h.1 (n + 3) s = g.1 (o + 3) s ∧ h.1 (n + 4) s = g.1 (o + 4) s ∧ h.1 (n + 5) s = g.1 (o + 5) s ∧ h.1 (n + 6) s = g.1 (o + 6) s) : cV h n = cV g o := by
  have f0 := hf 0 (by omega)
  have f1 := hf 1 (by omega)
  have f2 := hf 2 (by omega)
  have f3 := hf 3 (by omega)
  have f4 := hf 4 (by omega)
  have f5 := hf 5 (by omega)
  refine nv_ext ?_ ?_ (fun j => ?_) (fun j a => ?_) (fun j => ?_) (fun s => ?_) (fun s => ?_) (fun s => ?_) (fun s => ?_) (fun s => ?_) f4 f5
  · show (h.1 n 0).toNat = (g.1 o 0).toNat
    rw [f0]
  · show (h.1 n 2).toNat = (g.1 o 2).toNat
    rw [f2]
  · show decide ((j : Int) < h.1 n 0 ∧ tb (h.1 n 1) j) = decide ((j : Int) < g.1 o 0 ∧ tb (g.1 o 1) j)
    rw [f0, f1]
  · show (if (j : Int) < h.1 n 0 ∧ ¬ tb (h.1 n 1) j ∧ a < 3 then h.1 (n + 1) (j * 3 + a) else 0) = if (j : Int) < g.1 o 0 ∧ ¬ tb (g.1 o 1) j ∧ a < 3 then g.1 (o + 1) (j * 3 + a) else 0
    rw [f0, f1]
    split
    · next q => exact h1 j a q.1 q.2.2
    · rfl
  · show (if (j : Int) < h.1 n 0 then h.1 (n + 2) j else 0) = if (j : Int) < g.1 o 0 then g.1 (o + 2) j else 0
    rw [f0]
    split
    · next q => exact h2 j q
    · rfl
  · show (if (s : Int) < h.1 n 2 then (h.1 (n + 3) s).toNat else 0) = if (s : Int) < g.1 o 2 then (g.1 (o + 3) s).toNat else 0
    rw [f2]
    split
    · next q => rw [(h3 s q).1]
    · rfl
  · show (if (s : Int) < h.1 n 2 then (h.1 (n + 4) s).toNat else 0) = if (s : Int) < g.1 o 2 then (g.1 (o + 4) s).toNat else 0
    rw [f2]
    split
    · next q => rw [(h3 s q).2.1]
    · rfl
  · show (if (s : Int) < h.1 n 2 then h.1 (n + 5) s else 0) = if (s : Int) < g.1 o 2 then g.1 (o + 5) s else 0
    rw [f2]
    split
    · next q => exact (h3 s q).2.2.1
    · rfl
  · show (if (s : Int) < h.1 n 2 then h.1 (n + 6) s else 0) = if (s : Int) < g.1 o 2 then g.1 (o + 6) s else 0
    rw [f2]
    split
    · next q => exact (h3 s q).2.2.2
    · rfl
  · show decide ((s : Int) < h.1 n 2 ∧ tb (h.1 n 3) s) = decide ((s : Int) < g.1 o 2 ∧ tb (g.1 o 3) s)
    rw [f2, f3]
theorem NOk_ext {h g : Hp} {n o : Nat} (hf : ∀ k, k < 6 → h.1 n k = g.1 o k) (h1 : ∀ j a : Nat, (j : Int) < g.1 o 0 → a < 3 → h.1 (n + 1) (j * 3 + a) = g.1 (o + 1) (j * 3 + a)) (h2 : ∀ j : Nat, (j : Int) < g.1 o 0 → h.1 (n + 2) j = g.1 (o + 2) j) (h3 : ∀ s : Nat, (s : Int) < g.1 o 2 → h.1 (n + 3) s = g.1 (o + 3) s ∧ h.1 (n + 4) s = g.1 (o + 4) s ∧ h.1 (n + 5) s = g.1 (o + 5) s ∧ h.1 (n + 6) s = g.1 (o + 6) s) (ok : NOk g o) : NOk h n := by
  unfold NOk
  rw [cV_ext hf h1 h2 h3, hf 0 (by omega), hf 1 (by omega), hf 2 (by omega), hf 3 (by omega)]
  refine ⟨ok.1, ok.2.1, ok.2.2.1, ok.2.2.2.1, fun s hs => ?_, ok.2.2.2.2.2⟩
  obtain ⟨e1, e2, -, -⟩ := h3 s hs
  rw [e1, e2]
  exact ok.2.2.2.2.1 s hs
/-- a heap that is the same in a net's cells -/
def sameN (h g : Hp) (n : Nat) : Prop := ∀ i, i < 7 → ∀ j, h.1 (n + i) j = g.1 (n + i) j
theorem sameN.V {h g : Hp} {n : Nat} (e : sameN h g n) : cV h n = cV g n := cV_ext (fun k _ => e 0 (by omega) k) (fun j a _ _ => e 1 (by omega) _) (fun j _ => e 2 (by omega) j) (fun s _ => ⟨e 3 (by omega) s, e 4 (by omega) s, e 5 (by omega) s, e 6 (by omega) s⟩)
theorem sameN.ok {h g : Hp} {n : Nat} (e : sameN h g n) (k : NOk g n) : NOk h n := NOk_ext (fun k _ => e 0 (by omega) k) (fun j a _ _ => e 1 (by omega) _) (fun j _ => e 2 (by omega) j) (fun s _ => ⟨e 3 (by omega) s, e 4 (by omega) s, e 5 (by omega) s, e 6 (by omega) s⟩) k
-- a copy
theorem cCpy_f {h : Hp} {n o k : Nat} (hn : isNet n) (ho : isNet o) (hno : o ≠ n) (hk : k < 6) : (cCpy h n o).1 n k = h.1 o k := by
  simp only [cCpy, cC0, hC_rd, hI_rd]
  rw [if_neg (by omega), if_neg (by omega), if_neg (by omega), if_neg (by omega), if_neg (by omega), if_neg (by omega)]
  rcases (by omega : k = 0 ∨ k = 1 ∨ k = 2 ∨ k = 3 ∨ k = 4 ∨ k = 5) with rfl | rfl | rfl | rfl | rfl | rfl <;> simp
theorem cC0_o {h : Hp} {n o a b : Nat} (q : a ≠ n) : (cC0 h n o).1 a b = h.1 a b := by
  simp only [cC0, hI_rd]
  rw [if_neg (by omega), if_neg (by omega), if_neg (by omega), if_neg (by omega), if_neg (by omega), if_neg (by omega)]
theorem cCpy_o {h : Hp} {n o a b : Nat} (q : a < n ∨ n + 6 < a) : (cCpy h n o).1 a b = h.1 a b := by
  simp only [cCpy, hC_rd]
  rw [if_neg (by omega), if_neg (by omega), if_neg (by omega), if_neg (by omega), if_neg (by omega), if_neg (by omega), cC0_o (by omega)]
theorem cCpy_a {h : Hp} {n o i b : Nat} (hn : isNet n) (ho : isNet o) (hno : o ≠ n) (hi : 1 ≤ i ∧ i ≤ 6) (hb : b < (if i = 1 then 30 else if i = 2 then 10 else 14)) : (cCpy h n o).1 (n + i) b = h.1 (o + i) b := by
  simp only [cCpy, hC_rd]
  rcases (by omega : i = 1 ∨ i = 2 ∨ i = 3 ∨ i = 4 ∨ i = 5 ∨ i = 6) with rfl | rfl | rfl | rfl | rfl | rfl <;> simp only [if_true, Nat.reduceEqDiff, if_false] at hb <;> repeat (first | rw [if_neg (by omega)] | rw [if_pos (by omega)])
  all_goals exact cC0_o (by omega)
theorem cCpy_VN {h : Hp} {n o : Nat} (hn : isNet n) (ho : isNet o) (hno : o ≠ n) (ok : NOk h o) : cV (cCpy h n o) n = cV h o ∧ NOk (cCpy h n o) n := by
  have hJ := ok.1
  have hS := ok.2.2.1
  have a1 : ∀ k, k < 6 → (cCpy h n o).1 n k = h.1 o k := fun k hk => cCpy_f hn ho hno hk
  have a2 : ∀ j a : Nat, (j : Int) < h.1 o 0 → a < 3 → (cCpy h n o).1 (n + 1) (j * 3 + a) = h.1 (o + 1) (j * 3 + a) := fun j a h1 h2 => cCpy_a hn ho hno (by omega) (by simp; omega)
  have a3 : ∀ j : Nat, (j : Int) < h.1 o 0 → (cCpy h n o).1 (n + 2) j = h.1 (o + 2) j := fun j h1 => cCpy_a hn ho hno (by omega) (by simp; omega)
  have a4 : ∀ s : Nat, (s : Int) < h.1 o 2 → (cCpy h n o).1 (n + 3) s = h.1 (o + 3) s ∧ (cCpy h n o).1 (n + 4) s = h.1 (o + 4) s ∧ (cCpy h n o).1 (n + 5) s = h.1 (o + 5) s ∧ (cCpy h n o).1 (n + 6) s = h.1 (o + 6) s := fun s h1 => ⟨cCpy_a hn ho hno (by omega) (by simp; omega), cCpy_a hn ho hno (by omega) (by simp; omega), cCpy_a hn ho hno (by omega) (by simp; omega), cCpy_a hn ho hno (by omega) (by simp; omega)⟩
  exact ⟨cV_ext a1 a2 a3 a4, NOk_ext a1 a2 a3 a4 ok⟩
-- a cleared net
theorem cClr_o {h : Hp} {n a b : Nat} (q : a ≠ n) : (cClr h n).1 a b = h.1 a b := by
  simp only [cClr, hI_rd]
  rw [if_neg (by omega), if_neg (by omega), if_neg (by omega), if_neg (by omega), if_neg (by omega), if_neg (by omega)]
theorem cClr_VN {h : Hp} {n : Nat} : cV (cClr h n) n = v0 ∧ NOk (cClr h n) n := by
  have e0 : (cClr h n).1 n 0 = 0 := by simp [cClr, hI_rd]
  have e1 : (cClr h n).1 n 1 = 0 := by simp [cClr, hI_rd]
  have e2 : (cClr h n).1 n 2 = 0 := by simp [cClr, hI_rd]
  have e3 : (cClr h n).1 n 3 = 0 := by simp [cClr, hI_rd]
  have e4 : (cClr h n).1 n 4 = 40 := by simp [cClr, hI_rd]
  have e5 : (cClr h n).1 n 5 = 10 := by simp [cClr, hI_rd]
  have hv : cV (cClr h n) n = v0 := by
    unfold cV v0
    rw [e0, e1, e2, e3, e4, e5]
    refine nv_ext rfl rfl (fun j => ?_) (fun j a => ?_) (fun j => ?_) (fun s => ?_) (fun s => ?_) (fun s => ?_) (fun s => ?_) (fun s => ?_) rfl rfl
    · exact decide_eq_false (fun q => by omega)
    · show (if (j : Int) < 0 ∧ ¬ tb 0 j ∧ a < 3 then (cClr h n).1 (n + 1) (j * 3 + a) else 0) = 0
      exact if_neg (fun q => by omega)
    · show (if (j : Int) < 0 then (cClr h n).1 (n + 2) j else 0) = 0
      exact if_neg (fun q => by omega)
    · show (if (s : Int) < 0 then ((cClr h n).1 (n + 3) s).toNat else 0) = 0
      exact if_neg (fun q => by omega)
    · show (if (s : Int) < 0 then ((cClr h n).1 (n + 4) s).toNat else 0) = 0
      exact if_neg (fun q => by omega)
    · show (if (s : Int) < 0 then (cClr h n).1 (n + 5) s else 0) = 0
      exact if_neg (fun q => by omega)
    · show (if (s : Int) < 0 then (cClr h n).1 (n + 6) s else 0) = 0
      exact if_neg (fun q => by omega)
    · exact decide_eq_false (fun q => by omega)
  refine ⟨hv, ?_⟩
  unfold NOk
  rw [hv, e0, e1, e2, e3]
  refine ⟨by omega, ⟨by omega, by decide⟩, by omega, ⟨by omega, by decide⟩, fun s hs => by omega, ?_⟩
  refine ⟨by decide, by decide, by decide, fun s hs => absurd hs (Nat.not_lt_zero s), fun j hj => absurd hj (Nat.not_lt_zero j), fun j a => ⟨show (0 : Int) ≤ 0 by decide, show (0 : Int) ≤ 60 by decide⟩, fun j hj => absurd hj (Nat.not_lt_zero j), by decide, by decide, by decide, by decide⟩
-- a fixed joint more
theorem vDeg_le (v : Nv) (j : Nat) : vDeg v j ≤ vS v := cnt_le _ _
theorem VOk_fix {v : Nv} {x y z : Int} (hv : VOk v) (hF : vF v (vJ v) = false) (hk : okFix v x y z) (hx : 0 ≤ x) (hy : 0 ≤ y) (hz : 0 ≤ z) : VOk (vFix v x y z) := by
  obtain ⟨a1, a2, a3, a4, a5, a6, a7, a8⟩ := hv
  obtain ⟨k1, k2, k3, k4⟩ := hk
  refine ⟨?_, a2, ?_, fun s hs => ?_, fun j hj => ?_, fun j a => ?_, fun j hj hf => ?_, a8⟩
  · show vJ v + 1 ≤ 10
    omega
  · show cnt (vF v) (vJ v + 1) ≤ 5
    rw [cnt, hF]
    simpa using a3
  · have := a4 s hs
    exact ⟨Nat.lt_succ_of_lt this.1, Nat.lt_succ_of_lt this.2.1, this.2.2⟩
  · have hj : j < vJ v + 1 := hj
    show -9 ≤ (if j = vJ v then 0 else vLd v j) ∧ (if j = vJ v then 0 else vLd v j) ≤ 9
    split
    · omega
    · exact a5 j (by omega)
  · show 0 ≤ (if j = vJ v then (if a = 0 then x else if a = 1 then y else if a = 2 then z else 0) else vP v j a) ∧ (if j = vJ v then (if a = 0 then x else if a = 1 then y else if a = 2 then z else 0) else vP v j a) ≤ 60
    split
    · repeat' split
      all_goals omega
    · exact a6 j a
  · have hj : j < vJ v + 1 := hj
    have hf : vF v j = true := hf
    refine a7 j ?_ hf
    by_cases e : j = vJ v
    · rw [e, hF] at hf; cases hf
    · omega
theorem cV_F0 {h : Hp} {n j : Nat} (q : h.1 n 0 ≤ j) : vF (cV h n) j = false := decide_eq_false (fun z => by omega)
theorem cV_H0 {h : Hp} {n j : Nat} (q : h.1 n 2 ≤ j) : vH (cV h n) j = false := decide_eq_false (fun z => by omega)
theorem cFix_VN {h : Hp} {n : Nat} {x y z : Int} (ok : NOk h n) (hk : okFix (cV h n) x y z) (hx : 0 ≤ x) (hy : 0 ≤ y) (hz : 0 ≤ z) : cV (cFix h n x y z) n = vFix (cV h n) x y z ∧ NOk (cFix h n x y z) n := by
  have hJ := ok.1
  have eJ := cV_J ok
  have f0 : (cFix h n x y z).1 n 0 = h.1 n 0 + 1 := by simp [cFix, hI_rd]
  have fk : ∀ k, k ≠ 0 → (cFix h n x y z).1 n k = h.1 n k := fun k q => by
    simp only [cFix, hI_rd]
    rw [if_neg (by omega), if_neg (by omega), if_neg (by omega), if_neg (by omega), if_neg (by omega)]
  have fa : ∀ i b, 3 ≤ i → (cFix h n x y z).1 (n + i) b = h.1 (n + i) b := fun i b q => by
    simp only [cFix, hI_rd]
    rw [if_neg (by omega), if_neg (by omega), if_neg (by omega), if_neg (by omega), if_neg (by omega)]
  have fl : ∀ b, (cFix h n x y z).1 (n + 2) b = if b = (h.1 n 0).toNat then 0 else h.1 (n + 2) b := fun b => by
    simp only [cFix, hI_rd]
    rw [if_neg (by omega)]
    by_cases e : b = (h.1 n 0).toNat
    · rw [if_pos ⟨trivial, e⟩, if_pos e]
    · rw [if_neg (fun q => e q.2), if_neg (by omega), if_neg (by omega), if_neg (by omega), if_neg e]
  have ft : ∀ b, (cFix h n x y z).1 (n + 1) b = if b = (h.1 n 0).toNat * 3 + 2 then z else if b = (h.1 n 0).toNat * 3 + 1 then y else if b = (h.1 n 0).toNat * 3 then x else h.1 (n + 1) b := fun b => by
    simp only [cFix, hI_rd]
    rw [if_neg (by omega), if_neg (by omega)]
    simp only [true_and]
  have hv : cV (cFix h n x y z) n = vFix (cV h n) x y z := by
    refine nv_ext ?_ ?_ (fun j => ?_) (fun j a => ?_) (fun j => ?_) (fun s => ?_) (fun s => ?_) (fun s => ?_) (fun s => ?_) (fun s => ?_) (fk 4 (by omega)) (fk 5 (by omega))
    · show ((cFix h n x y z).1 n 0).toNat = (h.1 n 0).toNat + 1
      rw [f0]; omega
    · show ((cFix h n x y z).1 n 2).toNat = _
      rw [fk 2 (by omega)]; rfl
    · show decide ((j : Int) < (cFix h n x y z).1 n 0 ∧ tb ((cFix h n x y z).1 n 1) j) = decide ((j : Int) < h.1 n 0 ∧ tb (h.1 n 1) j)
      rw [f0, fk 1 (by omega), decide_eq_decide]
      constructor
      · rintro ⟨q1, q2⟩
        refine ⟨?_, q2⟩
        rcases Int.lt_or_le (j : Int) (h.1 n 0) with w | w
        · exact w
        · exact absurd q2 (tb_lt ok.2.1.2 (by omega) ok.2.1.1)
      · rintro ⟨q1, q2⟩
        exact ⟨by omega, q2⟩
    · show (if (j : Int) < (cFix h n x y z).1 n 0 ∧ ¬ tb ((cFix h n x y z).1 n 1) j ∧ a < 3 then (cFix h n x y z).1 (n + 1) (j * 3 + a) else 0) = if j = (h.1 n 0).toNat then (if a = 0 then x else if a = 1 then y else if a = 2 then z else 0) else if (j : Int) < h.1 n 0 ∧ ¬ tb (h.1 n 1) j ∧ a < 3 then h.1 (n + 1) (j * 3 + a) else 0
      rw [f0, fk 1 (by omega), ft]
      by_cases e : j = (h.1 n 0).toNat
      · have nt : ¬ tb (h.1 n 1) j := tb_lt ok.2.1.2 (by omega) ok.2.1.1
        rw [if_pos e]
        by_cases ha : a < 3
        · rw [if_pos ⟨by omega, nt, ha⟩]
          rcases (by omega : a = 0 ∨ a = 1 ∨ a = 2) with rfl | rfl | rfl
          · rw [if_neg (by omega), if_neg (by omega), if_pos (by omega)]; rfl
          · rw [if_neg (by omega), if_pos (by omega)]; rfl
          · rw [if_pos (by omega)]; rfl
        · rw [if_neg (by omega), if_neg (by omega), if_neg (by omega), if_neg (by omega)]
      · rw [if_neg e]
        by_cases q : (j : Int) < h.1 n 0 ∧ ¬ tb (h.1 n 1) j ∧ a < 3
        · rw [if_pos q, if_pos ⟨by omega, q.2.1, q.2.2⟩, if_neg (by omega), if_neg (by omega), if_neg (by omega)]
        · rw [if_neg q, if_neg (fun w => q ⟨by omega, w.2.1, w.2.2⟩)]
    · show (if (j : Int) < (cFix h n x y z).1 n 0 then (cFix h n x y z).1 (n + 2) j else 0) = if j = (h.1 n 0).toNat then 0 else if (j : Int) < h.1 n 0 then h.1 (n + 2) j else 0
      rw [f0, fl]
      by_cases e : j = (h.1 n 0).toNat
      · rw [if_pos e, if_pos e]; split <;> rfl
      · rw [if_neg e, if_neg e]
        by_cases q : (j : Int) < h.1 n 0
        · rw [if_pos q, if_pos (by omega)]
        · rw [if_neg q, if_neg (by omega)]
    · show (if (s : Int) < (cFix h n x y z).1 n 2 then ((cFix h n x y z).1 (n + 3) s).toNat else 0) = _
      rw [fk 2 (by omega), fa 3 s (by omega)]; rfl
    · show (if (s : Int) < (cFix h n x y z).1 n 2 then ((cFix h n x y z).1 (n + 4) s).toNat else 0) = _
      rw [fk 2 (by omega), fa 4 s (by omega)]; rfl
    · show (if (s : Int) < (cFix h n x y z).1 n 2 then ((cFix h n x y z).1 (n + 5) s) else 0) = _
      rw [fk 2 (by omega), fa 5 s (by omega)]; rfl
    · show (if (s : Int) < (cFix h n x y z).1 n 2 then ((cFix h n x y z).1 (n + 6) s) else 0) = _
      rw [fk 2 (by omega), fa 6 s (by omega)]; rfl
    · show decide ((s : Int) < (cFix h n x y z).1 n 2 ∧ tb ((cFix h n x y z).1 n 3) s) = _
      rw [fk 2 (by omega), fk 3 (by omega)]; rfl
  refine ⟨hv, ?_⟩
  unfold NOk
  rw [hv, f0, fk 1 (by omega), fk 2 (by omega), fk 3 (by omega)]
  have hk1 := hk.1
  refine ⟨by omega, ⟨ok.2.1.1, Int.lt_of_lt_of_le ok.2.1.2 (p2le (by omega))⟩, ok.2.2.1, ok.2.2.2.1, fun s hs => ?_, VOk_fix ok.2.2.2.2.2 (cV_F0 (by omega)) hk hx hy hz⟩
  rw [fa 3 s (by omega), fa 4 s (by omega)]
  have := ok.2.2.2.2.1 s hs
  omega
theorem cRol_VN {h : Hp} {n : Nat} {r e : Int} (ok : NOk h n) (hk : okRol r e) (he : 0 ≤ e) : cV (cRol h n r e) n = vRol (cV h n) r e ∧ NOk (cRol h n r e) n := by
  have f4 : (cRol h n r e).1 n 4 = r := by simp [cRol, hI_rd]
  have f5 : (cRol h n r e).1 n 5 = e := by simp [cRol, hI_rd]
  have fk : ∀ k, k < 4 → (cRol h n r e).1 n k = h.1 n k := fun k q => by
    simp only [cRol, hI_rd]
    rw [if_neg (by omega), if_neg (by omega)]
  have fa : ∀ i b, 1 ≤ i → (cRol h n r e).1 (n + i) b = h.1 (n + i) b := fun i b q => by
    simp only [cRol, hI_rd]
    rw [if_neg (by omega), if_neg (by omega)]
  have hv : cV (cRol h n r e) n = vRol (cV h n) r e := by
    unfold cV vRol
    rw [fk 0 (by omega), fk 1 (by omega), fk 2 (by omega), fk 3 (by omega), f4, f5]
    simp only [fa _ _ (show 1 ≤ 1 by omega), fa _ _ (show 1 ≤ 2 by omega), fa _ _ (show 1 ≤ 3 by omega), fa _ _ (show 1 ≤ 4 by omega), fa _ _ (show 1 ≤ 5 by omega), fa _ _ (show 1 ≤ 6 by omega)]
  refine ⟨hv, ?_⟩
  unfold NOk
  rw [hv, fk 0 (by omega), fk 1 (by omega), fk 2 (by omega), fk 3 (by omega)]
  obtain ⟨a1, a2, a3, a4, a5, a6, a7, a8⟩ := ok.2.2.2.2.2
  refine ⟨ok.1, ok.2.1, ok.2.2.1, ok.2.2.2.1, fun s hs => ?_, ⟨a1, a2, a3, a4, a5, a6, a7, hk.1.1, hk.1.2, he, hk.2⟩⟩
  rw [fa 3 s (by omega), fa 4 s (by omega)]
  exact ok.2.2.2.2.1 s hs
-- a free joint more
theorem cnt_z {f : Nat → Bool} : ∀ k, (∀ s, s < k → f s = false) → cnt f k = 0
  | 0, _ => rfl
  | k + 1, h => by rw [cnt, cnt_z k (fun s hs => h s (by omega)), h k (by omega)]; simp
theorem VOk_fre {v : Nv} {w : Int} (hv : VOk v) (hF : vF v (vJ v) = false) (hk : okFre v w) (hw : -9 ≤ w) : VOk (vFre v w) := by
  obtain ⟨a1, a2, a3, a4, a5, a6, a7, a8⟩ := hv
  obtain ⟨k1, k2, k3⟩ := hk
  refine ⟨?_, a2, ?_, fun s hs => ?_, fun j hj => ?_, fun j a => a6 j a, fun j hj hf => ?_, a8⟩
  · show vJ v + 1 ≤ 10
    omega
  · show cnt (fun j => if j = vJ v then true else vF v j) (vJ v + 1) ≤ 5
    rw [cnt, cnt_congr (g := vF v) (vJ v) (fun j hj => if_neg (by omega))]
    simp
    omega
  · have := a4 s hs
    exact ⟨Nat.lt_succ_of_lt this.1, Nat.lt_succ_of_lt this.2.1, this.2.2⟩
  · have hj : j < vJ v + 1 := hj
    show -9 ≤ (if j = vJ v then w else vLd v j) ∧ (if j = vJ v then w else vLd v j) ≤ 9
    split
    · omega
    · exact a5 j (by omega)
  · have hj : j < vJ v + 1 := hj
    have hf : (if j = vJ v then true else vF v j) = true := hf
    show vDeg v j ≤ 4
    by_cases e : j = vJ v
    · have : vDeg v j = 0 := cnt_z _ (fun s hs => decide_eq_false (fun q => by have := a4 s hs; omega))
      omega
    · rw [if_neg e] at hf
      exact a7 j (by omega) hf
theorem cFre_VN {h : Hp} {n : Nat} {w : Int} (ok : NOk h n) (hk : okFre (cV h n) w) (hw : -9 ≤ w) : cV (cFre h n w) n = vFre (cV h n) w ∧ NOk (cFre h n w) n := by
  have hJ := ok.1
  have eJ := cV_J ok
  have f0 : (cFre h n w).1 n 0 = h.1 n 0 + 1 := by simp [cFre, hI_rd]
  have f1 : (cFre h n w).1 n 1 = (((h.1 n 1).toNat ||| (1 * (2 : Int) ^ (h.1 n 0).toNat).toNat : Nat) : Int) := by
    simp only [cFre, hI_rd]
    rw [if_neg (by omega), if_neg (by omega), if_pos ⟨trivial, trivial⟩]
  have fk : ∀ k, 2 ≤ k → (cFre h n w).1 n k = h.1 n k := fun k q => by
    simp only [cFre, hI_rd]
    rw [if_neg (by omega), if_neg (by omega), if_neg (by omega)]
  have fa : ∀ i b, 1 ≤ i → i ≠ 2 → (cFre h n w).1 (n + i) b = h.1 (n + i) b := fun i b q q2 => by
    simp only [cFre, hI_rd]
    rw [if_neg (by omega), if_neg (by omega), if_neg (by omega)]
  have fl : ∀ b, (cFre h n w).1 (n + 2) b = if b = (h.1 n 0).toNat then w else h.1 (n + 2) b := fun b => by
    simp only [cFre, hI_rd]
    rw [if_neg (by omega)]
    by_cases e : b = (h.1 n 0).toNat
    · rw [if_pos ⟨trivial, e⟩, if_pos e]
    · rw [if_neg (fun q => e q.2), if_neg (by omega), if_neg e]
  have t1 : ∀ j, tb ((cFre h n w).1 n 1) j ↔ tb (h.1 n 1) j ∨ j = (h.1 n 0).toNat := fun j => by rw [f1, tb_or, tb_one]
  have hv : cV (cFre h n w) n = vFre (cV h n) w := by
    refine nv_ext ?_ ?_ (fun j => ?_) (fun j a => ?_) (fun j => ?_) (fun s => ?_) (fun s => ?_) (fun s => ?_) (fun s => ?_) (fun s => ?_) (fk 4 (by omega)) (fk 5 (by omega))
    · show ((cFre h n w).1 n 0).toNat = (h.1 n 0).toNat + 1
      rw [f0]; omega
    · show ((cFre h n w).1 n 2).toNat = _
      rw [fk 2 (by omega)]; rfl
    · show decide ((j : Int) < (cFre h n w).1 n 0 ∧ tb ((cFre h n w).1 n 1) j) = if j = (h.1 n 0).toNat then true else decide ((j : Int) < h.1 n 0 ∧ tb (h.1 n 1) j)
      by_cases e : j = (h.1 n 0).toNat
      · rw [if_pos e]
        exact decide_eq_true ⟨by omega, (t1 j).mpr (Or.inr e)⟩
      · rw [if_neg e, decide_eq_decide, t1]
        constructor
        · rintro ⟨q1, q2 | q2⟩
          · exact ⟨by omega, q2⟩
          · exact absurd q2 e
        · rintro ⟨q1, q2⟩
          exact ⟨by omega, Or.inl q2⟩
    · show (if (j : Int) < (cFre h n w).1 n 0 ∧ ¬ tb ((cFre h n w).1 n 1) j ∧ a < 3 then (cFre h n w).1 (n + 1) (j * 3 + a) else 0) = if (j : Int) < h.1 n 0 ∧ ¬ tb (h.1 n 1) j ∧ a < 3 then h.1 (n + 1) (j * 3 + a) else 0
      rw [fa 1 _ (by omega) (by omega)]
      by_cases q : (j : Int) < h.1 n 0 ∧ ¬ tb (h.1 n 1) j ∧ a < 3
      · rw [if_pos q, if_pos ⟨by omega, fun z => by rcases (t1 j).mp z with z | z; exact q.2.1 z; omega, q.2.2⟩]
      · rw [if_neg q, if_neg (fun z => q ⟨by
          have : ¬ j = (h.1 n 0).toNat := fun y => z.2.1 ((t1 j).mpr (Or.inr y))
          omega, fun y => z.2.1 ((t1 j).mpr (Or.inl y)), z.2.2⟩)]
    · show (if (j : Int) < (cFre h n w).1 n 0 then (cFre h n w).1 (n + 2) j else 0) = if j = (h.1 n 0).toNat then w else if (j : Int) < h.1 n 0 then h.1 (n + 2) j else 0
      rw [f0, fl]
      by_cases e : j = (h.1 n 0).toNat
      · rw [if_pos e, if_pos e, if_pos (by omega)]
      · rw [if_neg e, if_neg e]
        by_cases q : (j : Int) < h.1 n 0
        · rw [if_pos q, if_pos (by omega)]
        · rw [if_neg q, if_neg (by omega)]
    · show (if (s : Int) < (cFre h n w).1 n 2 then ((cFre h n w).1 (n + 3) s).toNat else 0) = _
      rw [fk 2 (by omega), fa 3 s (by omega) (by omega)]; rfl
    · show (if (s : Int) < (cFre h n w).1 n 2 then ((cFre h n w).1 (n + 4) s).toNat else 0) = _
      rw [fk 2 (by omega), fa 4 s (by omega) (by omega)]; rfl
    · show (if (s : Int) < (cFre h n w).1 n 2 then ((cFre h n w).1 (n + 5) s) else 0) = _
      rw [fk 2 (by omega), fa 5 s (by omega) (by omega)]; rfl
    · show (if (s : Int) < (cFre h n w).1 n 2 then ((cFre h n w).1 (n + 6) s) else 0) = _
      rw [fk 2 (by omega), fa 6 s (by omega) (by omega)]; rfl
    · show decide ((s : Int) < (cFre h n w).1 n 2 ∧ tb ((cFre h n w).1 n 3) s) = _
      rw [fk 2 (by omega), fk 3 (by omega)]; rfl
  refine ⟨hv, ?_⟩
  unfold NOk
  rw [hv, f0, f1, fk 2 (by omega), fk 3 (by omega)]
  have hk1 := hk.1
  refine ⟨by omega, ⟨Int.natCast_nonneg _, ?_⟩, ok.2.2.1, ok.2.2.2.1, fun s hs => ?_, VOk_fre ok.2.2.2.2.2 (cV_F0 (by omega)) hk hw⟩
  · rw [show (h.1 n 0 + 1).toNat = (h.1 n 0).toNat + 1 by omega]
    exact orLt ok.2.1.1 ok.2.1.2
  · rw [fa 3 s (by omega) (by omega), fa 4 s (by omega) (by omega)]
    have := ok.2.2.2.2.1 s hs
    omega
-- a strand more
theorem VOk_str {v : Nv} {a b : Nat} {q w : Int} (hv : VOk v) (hk : okStr v a b q w) (hw : 0 ≤ w) : VOk (vStr v a b q w) := by
  obtain ⟨a1, a2, a3, a4, a5, a6, a7, a8⟩ := hv
  obtain ⟨k1, k2, k3, k4, k5, k6, k7, k8, k9⟩ := hk
  simp only [Int.toNat_natCast] at k7 k8 k9
  refine ⟨a1, ?_, a3, fun s hs => ?_, a5, a6, fun j hj hf => ?_, a8⟩
  · show vS v + 1 ≤ 14
    omega
  · have hs : s < vS v + 1 := hs
    show (if s = vS v then a else vA v s) < vJ v ∧ (if s = vS v then b else vB v s) < vJ v ∧ (if s = vS v then a else vA v s) ≠ (if s = vS v then b else vB v s) ∧ 1 ≤ (if s = vS v then q else vQ v s) ∧ (if s = vS v then q else vQ v s) ≤ 5 ∧ 0 ≤ (if s = vS v then w else vW v s) ∧ (if s = vS v then w else vW v s) ≤ 99
    by_cases e : s = vS v
    · simp only [if_pos e]
      omega
    · simp only [if_neg e]
      exact a4 s (by omega)
  · have hf : vF v j = true := hf
    show cnt (fun s => decide ((if s = vS v then a else vA v s) = j ∨ (if s = vS v then b else vB v s) = j)) (vS v + 1) ≤ 4
    rw [cnt, cnt_congr (g := fun s => decide (vA v s = j ∨ vB v s = j)) (vS v) (fun s hs => by simp only [if_neg (show ¬ s = vS v by omega)])]
    simp only [if_true]
    have h7 := a7 j hj hf
    by_cases e : a = j ∨ b = j
    · have h3 : ¬ 4 ≤ vDeg v j := fun z => by
        rcases e with rfl | rfl
        · exact k8 ⟨hf, z⟩
        · exact k9 ⟨hf, z⟩
      unfold vDeg at h3
      rw [if_pos (decide_eq_true e)]
      omega
    · rw [if_neg (by simp [e])]
      exact h7
theorem cStr_VN {h : Hp} {n a b : Nat} {q w : Int} (ok : NOk h n) (hk : okStr (cV h n) a b q w) (hw : 0 ≤ w) : cV (cStr h n a b q w) n = vStr (cV h n) a b q w ∧ NOk (cStr h n a b q w) n := by
  have hS := ok.2.2.1
  have eS := cV_S ok
  have eJ := cV_J ok
  have f2 : (cStr h n a b q w).1 n 2 = h.1 n 2 + 1 := by simp [cStr, hI_rd]
  have f3 : (cStr h n a b q w).1 n 3 = (((h.1 n 3).toNat ||| (1 * (2 : Int) ^ (h.1 n 2).toNat).toNat : Nat) : Int) := by
    simp only [cStr, hI_rd]
    rw [if_neg (by omega), if_pos ⟨trivial, trivial⟩]
  have fk : ∀ k, k ≠ 2 → k ≠ 3 → (cStr h n a b q w).1 n k = h.1 n k := fun k q q2 => by
    simp only [cStr, hI_rd]
    rw [if_neg (by omega), if_neg (by omega), if_neg (by omega), if_neg (by omega), if_neg (by omega), if_neg (by omega)]
  have fa : ∀ i s, (i = 1 ∨ i = 2) → (cStr h n a b q w).1 (n + i) s = h.1 (n + i) s := fun i s q2 => by
    simp only [cStr, hI_rd]
    rw [if_neg (by omega), if_neg (by omega), if_neg (by omega), if_neg (by omega), if_neg (by omega), if_neg (by omega)]
  have g3 : ∀ s, (cStr h n a b q w).1 (n + 3) s = if s = (h.1 n 2).toNat then (a : Int) else h.1 (n + 3) s := fun s => by
    simp only [cStr, hI_rd]
    rw [if_neg (by omega), if_neg (by omega), if_neg (by omega), if_neg (by omega), if_neg (by omega)]
    simp only [true_and]
  have g4 : ∀ s, (cStr h n a b q w).1 (n + 4) s = if s = (h.1 n 2).toNat then (b : Int) else h.1 (n + 4) s := fun s => by
    simp only [cStr, hI_rd]
    rw [if_neg (by omega), if_neg (by omega), if_neg (by omega), if_neg (by omega)]
    simp only [true_and]
    split
    · rfl
    · rw [if_neg (by omega)]
  have g5 : ∀ s, (cStr h n a b q w).1 (n + 5) s = if s = (h.1 n 2).toNat then q else h.1 (n + 5) s := fun s => by
    simp only [cStr, hI_rd]
    rw [if_neg (by omega), if_neg (by omega), if_neg (by omega)]
    simp only [true_and]
    split
    · rfl
    · rw [if_neg (by omega), if_neg (by omega)]
  have g6 : ∀ s, (cStr h n a b q w).1 (n + 6) s = if s = (h.1 n 2).toNat then w else h.1 (n + 6) s := fun s => by
    simp only [cStr, hI_rd]
    rw [if_neg (by omega), if_neg (by omega)]
    simp only [true_and]
    split
    · rfl
    · rw [if_neg (by omega), if_neg (by omega), if_neg (by omega)]
  have t3 : ∀ s, tb ((cStr h n a b q w).1 n 3) s ↔ tb (h.1 n 3) s ∨ s = (h.1 n 2).toNat := fun s => by rw [f3, tb_or, tb_one]
  have arr : ∀ {α : Type} (s : Nat) (x y z : α), (if (s : Int) < h.1 n 2 + 1 then (if s = (h.1 n 2).toNat then x else y) else z) = if s = (h.1 n 2).toNat then x else if (s : Int) < h.1 n 2 then y else z := fun s x y z => by
    by_cases e : s = (h.1 n 2).toNat
    · rw [if_pos (by omega), if_pos e, if_pos e]
    · rw [if_neg e, if_neg e]
      by_cases e2 : (s : Int) < h.1 n 2
      · rw [if_pos e2, if_pos (by omega)]
      · rw [if_neg e2, if_neg (by omega)]
  have hv : cV (cStr h n a b q w) n = vStr (cV h n) a b q w := by
    refine nv_ext ?_ ?_ (fun j => ?_) (fun j a => ?_) (fun j => ?_) (fun s => ?_) (fun s => ?_) (fun s => ?_) (fun s => ?_) (fun s => ?_) (fk 4 (by omega) (by omega)) (fk 5 (by omega) (by omega))
    · show ((cStr h n a b q w).1 n 0).toNat = (h.1 n 0).toNat
      rw [fk 0 (by omega) (by omega)]
    · show ((cStr h n a b q w).1 n 2).toNat = (h.1 n 2).toNat + 1
      rw [f2]; omega
    · show decide ((j : Int) < (cStr h n a b q w).1 n 0 ∧ tb ((cStr h n a b q w).1 n 1) j) = _
      rw [fk 0 (by omega) (by omega), fk 1 (by omega) (by omega)]; rfl
    · show (if (j : Int) < (cStr h n _ b q w).1 n 0 ∧ ¬ tb ((cStr h n _ b q w).1 n 1) j ∧ a < 3 then (cStr h n _ b q w).1 (n + 1) (j * 3 + a) else 0) = _
      rw [fk 0 (by omega) (by omega), fk 1 (by omega) (by omega), fa 1 _ (by omega)]; rfl
    · show (if (j : Int) < (cStr h n a b q w).1 n 0 then (cStr h n a b q w).1 (n + 2) j else 0) = _
      rw [fk 0 (by omega) (by omega), fa 2 _ (by omega)]; rfl
    · show (if (s : Int) < (cStr h n a b q w).1 n 2 then ((cStr h n a b q w).1 (n + 3) s).toNat else 0) = if s = (h.1 n 2).toNat then a else if (s : Int) < h.1 n 2 then (h.1 (n + 3) s).toNat else 0
      rw [f2, g3, ← arr, apply_ite Int.toNat, Int.toNat_natCast]
    · show (if (s : Int) < (cStr h n a b q w).1 n 2 then ((cStr h n a b q w).1 (n + 4) s).toNat else 0) = if s = (h.1 n 2).toNat then b else if (s : Int) < h.1 n 2 then (h.1 (n + 4) s).toNat else 0
      rw [f2, g4, ← arr, apply_ite Int.toNat, Int.toNat_natCast]
    · show (if (s : Int) < (cStr h n a b q w).1 n 2 then ((cStr h n a b q w).1 (n + 5) s) else 0) = if s = (h.1 n 2).toNat then q else if (s : Int) < h.1 n 2 then h.1 (n + 5) s else 0
      rw [f2, g5, ← arr]
    · show (if (s : Int) < (cStr h n a b q w).1 n 2 then ((cStr h n a b q w).1 (n + 6) s) else 0) = if s = (h.1 n 2).toNat then w else if (s : Int) < h.1 n 2 then h.1 (n + 6) s else 0
      rw [f2, g6, ← arr]
    · show decide ((s : Int) < (cStr h n a b q w).1 n 2 ∧ tb ((cStr h n a b q w).1 n 3) s) = if s = (h.1 n 2).toNat then true else decide ((s : Int) < h.1 n 2 ∧ tb (h.1 n 3) s)
      by_cases e : s = (h.1 n 2).toNat
      · rw [if_pos e]
        exact decide_eq_true ⟨by omega, (t3 s).mpr (Or.inr e)⟩
      · rw [if_neg e, decide_eq_decide, t3]
        constructor
        · rintro ⟨q1, q2 | q2⟩
          · exact ⟨by omega, q2⟩
          · exact absurd q2 e
        · rintro ⟨q1, q2⟩
          exact ⟨by omega, Or.inl q2⟩
  refine ⟨hv, ?_⟩
  unfold NOk
  rw [hv, f2, f3, fk 0 (by omega) (by omega), fk 1 (by omega) (by omega)]
  have hk1 := hk.1
  have hk2 := hk.2.1
  have hk3 := hk.2.2.1
  refine ⟨ok.1, ok.2.1, by omega, ⟨Int.natCast_nonneg _, ?_⟩, fun s hs => ?_, VOk_str ok.2.2.2.2.2 hk hw⟩
  · rw [show (h.1 n 2 + 1).toNat = (h.1 n 2).toNat + 1 by omega]
    exact orLt ok.2.2.2.1.1 ok.2.2.2.1.2
  · rw [g3, g4]
    by_cases e : s = (h.1 n 2).toNat
    · rw [if_pos e, if_pos e]
      omega
    · rw [if_neg e, if_neg e]
      exact ok.2.2.2.2.1 s (by omega)
