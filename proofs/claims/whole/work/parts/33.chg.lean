/-! What one changed number does to a view. -/
def vQs (v : Nv) (f : Nat → Int) : Nv := (v.1, v.2.1, v.2.2.1, v.2.2.2.1, v.2.2.2.2.1, v.2.2.2.2.2.1, v.2.2.2.2.2.2.1, fun s => if s < vS v then f s else 0, v.2.2.2.2.2.2.2.2.1, v.2.2.2.2.2.2.2.2.2.1, v.2.2.2.2.2.2.2.2.2.2.1, v.2.2.2.2.2.2.2.2.2.2.2)
def vQ1 (v : Nv) (k : Nat) (x : Int) : Nv := (v.1, v.2.1, v.2.2.1, v.2.2.2.1, v.2.2.2.2.1, v.2.2.2.2.2.1, v.2.2.2.2.2.2.1, fun s => if s = k then x else vQ v s, v.2.2.2.2.2.2.2.2.1, v.2.2.2.2.2.2.2.2.2.1, v.2.2.2.2.2.2.2.2.2.2.1, v.2.2.2.2.2.2.2.2.2.2.2)
def vW1 (v : Nv) (k : Nat) (x : Int) : Nv := (v.1, v.2.1, v.2.2.1, v.2.2.2.1, v.2.2.2.2.1, v.2.2.2.2.2.1, v.2.2.2.2.2.2.1, v.2.2.2.2.2.2.2.1, fun s => if s = k then x else vW v s, v.2.2.2.2.2.2.2.2.2.1, v.2.2.2.2.2.2.2.2.2.2.1, v.2.2.2.2.2.2.2.2.2.2.2)
def vL1 (v : Nv) (k : Nat) (x : Int) : Nv := (v.1, v.2.1, v.2.2.1, v.2.2.2.1, fun j => if j = k then x else vLd v j, v.2.2.2.2.2.1, v.2.2.2.2.2.2.1, v.2.2.2.2.2.2.2.1, v.2.2.2.2.2.2.2.2.1, v.2.2.2.2.2.2.2.2.2.1, v.2.2.2.2.2.2.2.2.2.2.1, v.2.2.2.2.2.2.2.2.2.2.2)
def vP1 (v : Nv) (k b : Nat) (x : Int) : Nv := (v.1, v.2.1, v.2.2.1, fun j a => if j = k ∧ a = b then x else vP v j a, v.2.2.2.2.1, v.2.2.2.2.2.1, v.2.2.2.2.2.2.1, v.2.2.2.2.2.2.2.1, v.2.2.2.2.2.2.2.2.1, v.2.2.2.2.2.2.2.2.2.1, v.2.2.2.2.2.2.2.2.2.2.1, v.2.2.2.2.2.2.2.2.2.2.2)
def vH1 (v : Nv) (k : Nat) (x : Bool) : Nv := (v.1, v.2.1, v.2.2.1, v.2.2.2.1, v.2.2.2.2.1, v.2.2.2.2.2.1, v.2.2.2.2.2.2.1, v.2.2.2.2.2.2.2.1, v.2.2.2.2.2.2.2.2.1, fun s => if s = k then x else vH v s, v.2.2.2.2.2.2.2.2.2.2.1, v.2.2.2.2.2.2.2.2.2.2.2)
theorem cQ1_VN {h : Hp} {n : Nat} {k : Nat} {x : Int} (ok : NOk h n) (hk : k < vS (cV h n)) (hx : 1 ≤ x ∧ x ≤ 5) : cV (hI h (n + 5) k x) n = vQ1 (cV h n) k x ∧ NOk (hI h (n + 5) k x) n := by
  have hv := ok.2.2.2.2.2
  have eJ := cV_J ok
  have eSt := cV_S ok
  have bJ := ok.1
  have bS := ok.2.2.1
  have f0 : (hI h (n + 5) k x).1 n 0 = h.1 n 0 := hI_ni (by omega)
  have f1 : (hI h (n + 5) k x).1 n 1 = h.1 n 1 := hI_ni (by omega)
  have f2 : (hI h (n + 5) k x).1 n 2 = h.1 n 2 := hI_ni (by omega)
  have f3 : (hI h (n + 5) k x).1 n 3 = h.1 n 3 := hI_ni (by omega)
  have f4 : (hI h (n + 5) k x).1 n 4 = h.1 n 4 := hI_ni (by omega)
  have f5 : (hI h (n + 5) k x).1 n 5 = h.1 n 5 := hI_ni (by omega)
  have e1 : ∀ z, (hI h (n + 5) k x).1 (n + 1) z = h.1 (n + 1) z := fun z => hI_ni (by omega)
  have e2 : ∀ z, (hI h (n + 5) k x).1 (n + 2) z = h.1 (n + 2) z := fun z => hI_ni (by omega)
  have e3 : ∀ z, (hI h (n + 5) k x).1 (n + 3) z = h.1 (n + 3) z := fun z => hI_ni (by omega)
  have e4 : ∀ z, (hI h (n + 5) k x).1 (n + 4) z = h.1 (n + 4) z := fun z => hI_ni (by omega)
  have e6 : ∀ z, (hI h (n + 5) k x).1 (n + 6) z = h.1 (n + 6) z := fun z => hI_ni (by omega)
  have hV : cV (hI h (n + 5) k x) n = vQ1 (cV h n) k x := by
    refine nv_ext ?_ ?_ (fun j => ?_) (fun j a => ?_) (fun j => ?_) (fun s => ?_) (fun s => ?_) (fun s => ?_) (fun s => ?_) (fun s => ?_) ?_ ?_
    · show (((hI h (n + 5) k x).1 n 0).toNat) = ((h.1 n 0).toNat)
      simp only [f0, f1, f2, f3, f4, f5, e1, e2, e3, e4, e6]
    · show (((hI h (n + 5) k x).1 n 2).toNat) = ((h.1 n 2).toNat)
      simp only [f0, f1, f2, f3, f4, f5, e1, e2, e3, e4, e6]
    · show (decide ((j : Int) < (hI h (n + 5) k x).1 n 0 ∧ tb ((hI h (n + 5) k x).1 n 1) j)) = (decide ((j : Int) < h.1 n 0 ∧ tb (h.1 n 1) j))
      simp only [f0, f1, f2, f3, f4, f5, e1, e2, e3, e4, e6]
    · show (if (j : Int) < (hI h (n + 5) k x).1 n 0 ∧ ¬ tb ((hI h (n + 5) k x).1 n 1) j ∧ a < 3 then (hI h (n + 5) k x).1 (n + 1) (j * 3 + a) else 0) = (if (j : Int) < h.1 n 0 ∧ ¬ tb (h.1 n 1) j ∧ a < 3 then h.1 (n + 1) (j * 3 + a) else 0)
      simp only [f0, f1, f2, f3, f4, f5, e1, e2, e3, e4, e6]
    · show (if (j : Int) < (hI h (n + 5) k x).1 n 0 then (hI h (n + 5) k x).1 (n + 2) j else 0) = (if (j : Int) < h.1 n 0 then h.1 (n + 2) j else 0)
      simp only [f0, f1, f2, f3, f4, f5, e1, e2, e3, e4, e6]
    · show (if (s : Int) < (hI h (n + 5) k x).1 n 2 then ((hI h (n + 5) k x).1 (n + 3) s).toNat else 0) = (if (s : Int) < h.1 n 2 then (h.1 (n + 3) s).toNat else 0)
      simp only [f0, f1, f2, f3, f4, f5, e1, e2, e3, e4, e6]
    · show (if (s : Int) < (hI h (n + 5) k x).1 n 2 then ((hI h (n + 5) k x).1 (n + 4) s).toNat else 0) = (if (s : Int) < h.1 n 2 then (h.1 (n + 4) s).toNat else 0)
      simp only [f0, f1, f2, f3, f4, f5, e1, e2, e3, e4, e6]
    · show (if (s : Int) < (hI h (n + 5) k x).1 n 2 then (hI h (n + 5) k x).1 (n + 5) s else 0) = if s = k then x else if (s : Int) < h.1 n 2 then h.1 (n + 5) s else 0
      rw [f2, hI_rd]
      grind
    · show (if (s : Int) < (hI h (n + 5) k x).1 n 2 then (hI h (n + 5) k x).1 (n + 6) s else 0) = (if (s : Int) < h.1 n 2 then h.1 (n + 6) s else 0)
      simp only [f0, f1, f2, f3, f4, f5, e1, e2, e3, e4, e6]
    · show (decide ((s : Int) < (hI h (n + 5) k x).1 n 2 ∧ tb ((hI h (n + 5) k x).1 n 3) s)) = (decide ((s : Int) < h.1 n 2 ∧ tb (h.1 n 3) s))
      simp only [f0, f1, f2, f3, f4, f5, e1, e2, e3, e4, e6]
    · show ((hI h (n + 5) k x).1 n 4) = (h.1 n 4)
      simp only [f0, f1, f2, f3, f4, f5, e1, e2, e3, e4, e6]
    · show ((hI h (n + 5) k x).1 n 5) = (h.1 n 5)
      simp only [f0, f1, f2, f3, f4, f5, e1, e2, e3, e4, e6]
  refine ⟨hV, ?_⟩
  unfold NOk
  rw [hV, f0, f1, f2, f3]
  simp only [e3, e4]
  refine ⟨ok.1, ok.2.1, ok.2.2.1, ok.2.2.2.1, ok.2.2.2.2.1, ?_⟩
  obtain ⟨v1, v2, v3, v4, v5, v6, v7, v8, v9, v10, v11⟩ := hv
  refine ⟨v1, v2, v3, fun s hs => ?_, v5, v6, v7, v8, v9, v10, v11⟩
  have q := v4 s hs
  exact ⟨q.1, q.2.1, q.2.2.1, by show 1 ≤ (if s = k then x else vQ (cV h n) s); split <;> omega, by show (if s = k then x else vQ (cV h n) s) ≤ 5; split <;> omega, q.2.2.2.2.2⟩
theorem cW1_VN {h : Hp} {n : Nat} {k : Nat} {x : Int} (ok : NOk h n) (hk : k < vS (cV h n)) (hx : 0 ≤ x ∧ x ≤ 99) : cV (hI h (n + 6) k x) n = vW1 (cV h n) k x ∧ NOk (hI h (n + 6) k x) n := by
  have hv := ok.2.2.2.2.2
  have eJ := cV_J ok
  have eSt := cV_S ok
  have bJ := ok.1
  have bS := ok.2.2.1
  have f0 : (hI h (n + 6) k x).1 n 0 = h.1 n 0 := hI_ni (by omega)
  have f1 : (hI h (n + 6) k x).1 n 1 = h.1 n 1 := hI_ni (by omega)
  have f2 : (hI h (n + 6) k x).1 n 2 = h.1 n 2 := hI_ni (by omega)
  have f3 : (hI h (n + 6) k x).1 n 3 = h.1 n 3 := hI_ni (by omega)
  have f4 : (hI h (n + 6) k x).1 n 4 = h.1 n 4 := hI_ni (by omega)
  have f5 : (hI h (n + 6) k x).1 n 5 = h.1 n 5 := hI_ni (by omega)
  have e1 : ∀ z, (hI h (n + 6) k x).1 (n + 1) z = h.1 (n + 1) z := fun z => hI_ni (by omega)
  have e2 : ∀ z, (hI h (n + 6) k x).1 (n + 2) z = h.1 (n + 2) z := fun z => hI_ni (by omega)
  have e3 : ∀ z, (hI h (n + 6) k x).1 (n + 3) z = h.1 (n + 3) z := fun z => hI_ni (by omega)
  have e4 : ∀ z, (hI h (n + 6) k x).1 (n + 4) z = h.1 (n + 4) z := fun z => hI_ni (by omega)
  have e5 : ∀ z, (hI h (n + 6) k x).1 (n + 5) z = h.1 (n + 5) z := fun z => hI_ni (by omega)
  have hV : cV (hI h (n + 6) k x) n = vW1 (cV h n) k x := by
    refine nv_ext ?_ ?_ (fun j => ?_) (fun j a => ?_) (fun j => ?_) (fun s => ?_) (fun s => ?_) (fun s => ?_) (fun s => ?_) (fun s => ?_) ?_ ?_
    · show (((hI h (n + 6) k x).1 n 0).toNat) = ((h.1 n 0).toNat)
      simp only [f0, f1, f2, f3, f4, f5, e1, e2, e3, e4, e5]
    · show (((hI h (n + 6) k x).1 n 2).toNat) = ((h.1 n 2).toNat)
      simp only [f0, f1, f2, f3, f4, f5, e1, e2, e3, e4, e5]
    · show (decide ((j : Int) < (hI h (n + 6) k x).1 n 0 ∧ tb ((hI h (n + 6) k x).1 n 1) j)) = (decide ((j : Int) < h.1 n 0 ∧ tb (h.1 n 1) j))
      simp only [f0, f1, f2, f3, f4, f5, e1, e2, e3, e4, e5]
    · show (if (j : Int) < (hI h (n + 6) k x).1 n 0 ∧ ¬ tb ((hI h (n + 6) k x).1 n 1) j ∧ a < 3 then (hI h (n + 6) k x).1 (n + 1) (j * 3 + a) else 0) = (if (j : Int) < h.1 n 0 ∧ ¬ tb (h.1 n 1) j ∧ a < 3 then h.1 (n + 1) (j * 3 + a) else 0)
      simp only [f0, f1, f2, f3, f4, f5, e1, e2, e3, e4, e5]
    · show (if (j : Int) < (hI h (n + 6) k x).1 n 0 then (hI h (n + 6) k x).1 (n + 2) j else 0) = (if (j : Int) < h.1 n 0 then h.1 (n + 2) j else 0)
      simp only [f0, f1, f2, f3, f4, f5, e1, e2, e3, e4, e5]
    · show (if (s : Int) < (hI h (n + 6) k x).1 n 2 then ((hI h (n + 6) k x).1 (n + 3) s).toNat else 0) = (if (s : Int) < h.1 n 2 then (h.1 (n + 3) s).toNat else 0)
      simp only [f0, f1, f2, f3, f4, f5, e1, e2, e3, e4, e5]
    · show (if (s : Int) < (hI h (n + 6) k x).1 n 2 then ((hI h (n + 6) k x).1 (n + 4) s).toNat else 0) = (if (s : Int) < h.1 n 2 then (h.1 (n + 4) s).toNat else 0)
      simp only [f0, f1, f2, f3, f4, f5, e1, e2, e3, e4, e5]
    · show (if (s : Int) < (hI h (n + 6) k x).1 n 2 then (hI h (n + 6) k x).1 (n + 5) s else 0) = (if (s : Int) < h.1 n 2 then h.1 (n + 5) s else 0)
      simp only [f0, f1, f2, f3, f4, f5, e1, e2, e3, e4, e5]
    · show (if (s : Int) < (hI h (n + 6) k x).1 n 2 then (hI h (n + 6) k x).1 (n + 6) s else 0) = if s = k then x else if (s : Int) < h.1 n 2 then h.1 (n + 6) s else 0
      rw [f2, hI_rd]
      grind
    · show (decide ((s : Int) < (hI h (n + 6) k x).1 n 2 ∧ tb ((hI h (n + 6) k x).1 n 3) s)) = (decide ((s : Int) < h.1 n 2 ∧ tb (h.1 n 3) s))
      simp only [f0, f1, f2, f3, f4, f5, e1, e2, e3, e4, e5]
    · show ((hI h (n + 6) k x).1 n 4) = (h.1 n 4)
      simp only [f0, f1, f2, f3, f4, f5, e1, e2, e3, e4, e5]
    · show ((hI h (n + 6) k x).1 n 5) = (h.1 n 5)
      simp only [f0, f1, f2, f3, f4, f5, e1, e2, e3, e4, e5]
  refine ⟨hV, ?_⟩
  unfold NOk
  rw [hV, f0, f1, f2, f3]
  simp only [e3, e4]
  refine ⟨ok.1, ok.2.1, ok.2.2.1, ok.2.2.2.1, ok.2.2.2.2.1, ?_⟩
  obtain ⟨v1, v2, v3, v4, v5, v6, v7, v8, v9, v10, v11⟩ := hv
  refine ⟨v1, v2, v3, fun s hs => ?_, v5, v6, v7, v8, v9, v10, v11⟩
  have q := v4 s hs
  exact ⟨q.1, q.2.1, q.2.2.1, q.2.2.2.1, q.2.2.2.2.1, by show 0 ≤ (if s = k then x else vW (cV h n) s); split <;> omega, by show (if s = k then x else vW (cV h n) s) ≤ 99; split <;> omega⟩
theorem cL1_VN {h : Hp} {n : Nat} {k : Nat} {x : Int} (ok : NOk h n) (hk : k < vJ (cV h n)) (hx : -9 ≤ x ∧ x ≤ 9) : cV (hI h (n + 2) k x) n = vL1 (cV h n) k x ∧ NOk (hI h (n + 2) k x) n := by
  have hv := ok.2.2.2.2.2
  have eJ := cV_J ok
  have eSt := cV_S ok
  have bJ := ok.1
  have bS := ok.2.2.1
  have f0 : (hI h (n + 2) k x).1 n 0 = h.1 n 0 := hI_ni (by omega)
  have f1 : (hI h (n + 2) k x).1 n 1 = h.1 n 1 := hI_ni (by omega)
  have f2 : (hI h (n + 2) k x).1 n 2 = h.1 n 2 := hI_ni (by omega)
  have f3 : (hI h (n + 2) k x).1 n 3 = h.1 n 3 := hI_ni (by omega)
  have f4 : (hI h (n + 2) k x).1 n 4 = h.1 n 4 := hI_ni (by omega)
  have f5 : (hI h (n + 2) k x).1 n 5 = h.1 n 5 := hI_ni (by omega)
  have e1 : ∀ z, (hI h (n + 2) k x).1 (n + 1) z = h.1 (n + 1) z := fun z => hI_ni (by omega)
  have e3 : ∀ z, (hI h (n + 2) k x).1 (n + 3) z = h.1 (n + 3) z := fun z => hI_ni (by omega)
  have e4 : ∀ z, (hI h (n + 2) k x).1 (n + 4) z = h.1 (n + 4) z := fun z => hI_ni (by omega)
  have e5 : ∀ z, (hI h (n + 2) k x).1 (n + 5) z = h.1 (n + 5) z := fun z => hI_ni (by omega)
  have e6 : ∀ z, (hI h (n + 2) k x).1 (n + 6) z = h.1 (n + 6) z := fun z => hI_ni (by omega)
  have hV : cV (hI h (n + 2) k x) n = vL1 (cV h n) k x := by
    refine nv_ext ?_ ?_ (fun j => ?_) (fun j a => ?_) (fun j => ?_) (fun s => ?_) (fun s => ?_) (fun s => ?_) (fun s => ?_) (fun s => ?_) ?_ ?_
    · show (((hI h (n + 2) k x).1 n 0).toNat) = ((h.1 n 0).toNat)
      simp only [f0, f1, f2, f3, f4, f5, e1, e3, e4, e5, e6]
    · show (((hI h (n + 2) k x).1 n 2).toNat) = ((h.1 n 2).toNat)
      simp only [f0, f1, f2, f3, f4, f5, e1, e3, e4, e5, e6]
    · show (decide ((j : Int) < (hI h (n + 2) k x).1 n 0 ∧ tb ((hI h (n + 2) k x).1 n 1) j)) = (decide ((j : Int) < h.1 n 0 ∧ tb (h.1 n 1) j))
      simp only [f0, f1, f2, f3, f4, f5, e1, e3, e4, e5, e6]
    · show (if (j : Int) < (hI h (n + 2) k x).1 n 0 ∧ ¬ tb ((hI h (n + 2) k x).1 n 1) j ∧ a < 3 then (hI h (n + 2) k x).1 (n + 1) (j * 3 + a) else 0) = (if (j : Int) < h.1 n 0 ∧ ¬ tb (h.1 n 1) j ∧ a < 3 then h.1 (n + 1) (j * 3 + a) else 0)
      simp only [f0, f1, f2, f3, f4, f5, e1, e3, e4, e5, e6]
    · show (if (j : Int) < (hI h (n + 2) k x).1 n 0 then (hI h (n + 2) k x).1 (n + 2) j else 0) = if j = k then x else if (j : Int) < h.1 n 0 then h.1 (n + 2) j else 0
      rw [f0, hI_rd]
      grind
    · show (if (s : Int) < (hI h (n + 2) k x).1 n 2 then ((hI h (n + 2) k x).1 (n + 3) s).toNat else 0) = (if (s : Int) < h.1 n 2 then (h.1 (n + 3) s).toNat else 0)
      simp only [f0, f1, f2, f3, f4, f5, e1, e3, e4, e5, e6]
    · show (if (s : Int) < (hI h (n + 2) k x).1 n 2 then ((hI h (n + 2) k x).1 (n + 4) s).toNat else 0) = (if (s : Int) < h.1 n 2 then (h.1 (n + 4) s).toNat else 0)
      simp only [f0, f1, f2, f3, f4, f5, e1, e3, e4, e5, e6]
    · show (if (s : Int) < (hI h (n + 2) k x).1 n 2 then (hI h (n + 2) k x).1 (n + 5) s else 0) = (if (s : Int) < h.1 n 2 then h.1 (n + 5) s else 0)
      simp only [f0, f1, f2, f3, f4, f5, e1, e3, e4, e5, e6]
    · show (if (s : Int) < (hI h (n + 2) k x).1 n 2 then (hI h (n + 2) k x).1 (n + 6) s else 0) = (if (s : Int) < h.1 n 2 then h.1 (n + 6) s else 0)
      simp only [f0, f1, f2, f3, f4, f5, e1, e3, e4, e5, e6]
    · show (decide ((s : Int) < (hI h (n + 2) k x).1 n 2 ∧ tb ((hI h (n + 2) k x).1 n 3) s)) = (decide ((s : Int) < h.1 n 2 ∧ tb (h.1 n 3) s))
      simp only [f0, f1, f2, f3, f4, f5, e1, e3, e4, e5, e6]
    · show ((hI h (n + 2) k x).1 n 4) = (h.1 n 4)
      simp only [f0, f1, f2, f3, f4, f5, e1, e3, e4, e5, e6]
    · show ((hI h (n + 2) k x).1 n 5) = (h.1 n 5)
      simp only [f0, f1, f2, f3, f4, f5, e1, e3, e4, e5, e6]
  refine ⟨hV, ?_⟩
  unfold NOk
  rw [hV, f0, f1, f2, f3]
  simp only [e3, e4]
  refine ⟨ok.1, ok.2.1, ok.2.2.1, ok.2.2.2.1, ok.2.2.2.2.1, ?_⟩
  obtain ⟨v1, v2, v3, v4, v5, v6, v7, v8, v9, v10, v11⟩ := hv
  refine ⟨v1, v2, v3, v4, fun j hj => ?_, v6, v7, v8, v9, v10, v11⟩
  have q := v5 j hj
  show -9 ≤ (if j = k then x else vLd (cV h n) j) ∧ (if j = k then x else vLd (cV h n) j) ≤ 9
  split <;> omega
theorem cP1_VN {h : Hp} {n : Nat} {k b : Nat} {x : Int} (ok : NOk h n) (hk : k < vJ (cV h n)) (hf : vF (cV h n) k = false) (hb : b < 3) (hx : 0 ≤ x ∧ x ≤ 60) : cV (hI h (n + 1) (k * 3 + b) x) n = vP1 (cV h n) k b x ∧ NOk (hI h (n + 1) (k * 3 + b) x) n := by
  have hv := ok.2.2.2.2.2
  have eJ := cV_J ok
  have eSt := cV_S ok
  have bJ := ok.1
  have bS := ok.2.2.1
  have f0 : (hI h (n + 1) (k * 3 + b) x).1 n 0 = h.1 n 0 := hI_ni (by omega)
  have f1 : (hI h (n + 1) (k * 3 + b) x).1 n 1 = h.1 n 1 := hI_ni (by omega)
  have f2 : (hI h (n + 1) (k * 3 + b) x).1 n 2 = h.1 n 2 := hI_ni (by omega)
  have f3 : (hI h (n + 1) (k * 3 + b) x).1 n 3 = h.1 n 3 := hI_ni (by omega)
  have f4 : (hI h (n + 1) (k * 3 + b) x).1 n 4 = h.1 n 4 := hI_ni (by omega)
  have f5 : (hI h (n + 1) (k * 3 + b) x).1 n 5 = h.1 n 5 := hI_ni (by omega)
  have e2 : ∀ z, (hI h (n + 1) (k * 3 + b) x).1 (n + 2) z = h.1 (n + 2) z := fun z => hI_ni (by omega)
  have e3 : ∀ z, (hI h (n + 1) (k * 3 + b) x).1 (n + 3) z = h.1 (n + 3) z := fun z => hI_ni (by omega)
  have e4 : ∀ z, (hI h (n + 1) (k * 3 + b) x).1 (n + 4) z = h.1 (n + 4) z := fun z => hI_ni (by omega)
  have e5 : ∀ z, (hI h (n + 1) (k * 3 + b) x).1 (n + 5) z = h.1 (n + 5) z := fun z => hI_ni (by omega)
  have e6 : ∀ z, (hI h (n + 1) (k * 3 + b) x).1 (n + 6) z = h.1 (n + 6) z := fun z => hI_ni (by omega)
  have hV : cV (hI h (n + 1) (k * 3 + b) x) n = vP1 (cV h n) k b x := by
    refine nv_ext ?_ ?_ (fun j => ?_) (fun j a => ?_) (fun j => ?_) (fun s => ?_) (fun s => ?_) (fun s => ?_) (fun s => ?_) (fun s => ?_) ?_ ?_
    · show (((hI h (n + 1) (k * 3 + b) x).1 n 0).toNat) = ((h.1 n 0).toNat)
      simp only [f0, f1, f2, f3, f4, f5, e2, e3, e4, e5, e6]
    · show (((hI h (n + 1) (k * 3 + b) x).1 n 2).toNat) = ((h.1 n 2).toNat)
      simp only [f0, f1, f2, f3, f4, f5, e2, e3, e4, e5, e6]
    · show (decide ((j : Int) < (hI h (n + 1) (k * 3 + b) x).1 n 0 ∧ tb ((hI h (n + 1) (k * 3 + b) x).1 n 1) j)) = (decide ((j : Int) < h.1 n 0 ∧ tb (h.1 n 1) j))
      simp only [f0, f1, f2, f3, f4, f5, e2, e3, e4, e5, e6]
    · show (if (j : Int) < (hI h (n + 1) (k * 3 + b) x).1 n 0 ∧ ¬ tb ((hI h (n + 1) (k * 3 + b) x).1 n 1) j ∧ a < 3 then (hI h (n + 1) (k * 3 + b) x).1 (n + 1) (j * 3 + a) else 0) = if j = k ∧ a = b then x else if (j : Int) < h.1 n 0 ∧ ¬ tb (h.1 n 1) j ∧ a < 3 then h.1 (n + 1) (j * 3 + a) else 0
      rw [f0, f1, hI_rd]
      have hfk := cV_F (j := k) ok
      grind
    · show (if (j : Int) < (hI h (n + 1) (k * 3 + b) x).1 n 0 then (hI h (n + 1) (k * 3 + b) x).1 (n + 2) j else 0) = (if (j : Int) < h.1 n 0 then h.1 (n + 2) j else 0)
      simp only [f0, f1, f2, f3, f4, f5, e2, e3, e4, e5, e6]
    · show (if (s : Int) < (hI h (n + 1) (k * 3 + b) x).1 n 2 then ((hI h (n + 1) (k * 3 + b) x).1 (n + 3) s).toNat else 0) = (if (s : Int) < h.1 n 2 then (h.1 (n + 3) s).toNat else 0)
      simp only [f0, f1, f2, f3, f4, f5, e2, e3, e4, e5, e6]
    · show (if (s : Int) < (hI h (n + 1) (k * 3 + b) x).1 n 2 then ((hI h (n + 1) (k * 3 + b) x).1 (n + 4) s).toNat else 0) = (if (s : Int) < h.1 n 2 then (h.1 (n + 4) s).toNat else 0)
      simp only [f0, f1, f2, f3, f4, f5, e2, e3, e4, e5, e6]
    · show (if (s : Int) < (hI h (n + 1) (k * 3 + b) x).1 n 2 then (hI h (n + 1) (k * 3 + b) x).1 (n + 5) s else 0) = (if (s : Int) < h.1 n 2 then h.1 (n + 5) s else 0)
      simp only [f0, f1, f2, f3, f4, f5, e2, e3, e4, e5, e6]
    · show (if (s : Int) < (hI h (n + 1) (k * 3 + b) x).1 n 2 then (hI h (n + 1) (k * 3 + b) x).1 (n + 6) s else 0) = (if (s : Int) < h.1 n 2 then h.1 (n + 6) s else 0)
      simp only [f0, f1, f2, f3, f4, f5, e2, e3, e4, e5, e6]
    · show (decide ((s : Int) < (hI h (n + 1) (k * 3 + b) x).1 n 2 ∧ tb ((hI h (n + 1) (k * 3 + b) x).1 n 3) s)) = (decide ((s : Int) < h.1 n 2 ∧ tb (h.1 n 3) s))
      simp only [f0, f1, f2, f3, f4, f5, e2, e3, e4, e5, e6]
    · show ((hI h (n + 1) (k * 3 + b) x).1 n 4) = (h.1 n 4)
      simp only [f0, f1, f2, f3, f4, f5, e2, e3, e4, e5, e6]
    · show ((hI h (n + 1) (k * 3 + b) x).1 n 5) = (h.1 n 5)
      simp only [f0, f1, f2, f3, f4, f5, e2, e3, e4, e5, e6]
  refine ⟨hV, ?_⟩
  unfold NOk
  rw [hV, f0, f1, f2, f3]
  simp only [e3, e4]
  refine ⟨ok.1, ok.2.1, ok.2.2.1, ok.2.2.2.1, ok.2.2.2.2.1, ?_⟩
  obtain ⟨v1, v2, v3, v4, v5, v6, v7, v8, v9, v10, v11⟩ := hv
  refine ⟨v1, v2, v3, v4, v5, fun j a => ?_, v7, v8, v9, v10, v11⟩
  have q := v6 j a
  show 0 ≤ (if j = k ∧ a = b then x else vP (cV h n) j a) ∧ (if j = k ∧ a = b then x else vP (cV h n) j a) ≤ 60
  split <;> omega
theorem cH1_VN {h : Hp} {n : Nat} {k : Nat} {x : Int} {c : Bool} (ok : NOk h n) (hk : k < vS (cV h n)) (hx : 0 ≤ x) (ht : ∀ s, tb x s ↔ if s = k then c = true else tb (h.1 n 3) s) : cV (hI h n 3 x) n = vH1 (cV h n) k c ∧ NOk (hI h n 3 x) n := by
  have hv := ok.2.2.2.2.2
  have eJ := cV_J ok
  have eSt := cV_S ok
  have bJ := ok.1
  have bS := ok.2.2.1
  have f0 : (hI h n 3 x).1 n 0 = h.1 n 0 := hI_nk (by omega)
  have f1 : (hI h n 3 x).1 n 1 = h.1 n 1 := hI_nk (by omega)
  have f2 : (hI h n 3 x).1 n 2 = h.1 n 2 := hI_nk (by omega)
  have f4 : (hI h n 3 x).1 n 4 = h.1 n 4 := hI_nk (by omega)
  have f5 : (hI h n 3 x).1 n 5 = h.1 n 5 := hI_nk (by omega)
  have e1 : ∀ z, (hI h n 3 x).1 (n + 1) z = h.1 (n + 1) z := fun z => hI_ni (by omega)
  have e2 : ∀ z, (hI h n 3 x).1 (n + 2) z = h.1 (n + 2) z := fun z => hI_ni (by omega)
  have e3 : ∀ z, (hI h n 3 x).1 (n + 3) z = h.1 (n + 3) z := fun z => hI_ni (by omega)
  have e4 : ∀ z, (hI h n 3 x).1 (n + 4) z = h.1 (n + 4) z := fun z => hI_ni (by omega)
  have e5 : ∀ z, (hI h n 3 x).1 (n + 5) z = h.1 (n + 5) z := fun z => hI_ni (by omega)
  have e6 : ∀ z, (hI h n 3 x).1 (n + 6) z = h.1 (n + 6) z := fun z => hI_ni (by omega)
  have hV : cV (hI h n 3 x) n = vH1 (cV h n) k c := by
    refine nv_ext ?_ ?_ (fun j => ?_) (fun j a => ?_) (fun j => ?_) (fun s => ?_) (fun s => ?_) (fun s => ?_) (fun s => ?_) (fun s => ?_) ?_ ?_
    · show (((hI h n 3 x).1 n 0).toNat) = ((h.1 n 0).toNat)
      simp only [f0, f1, f2, f4, f5, e1, e2, e3, e4, e5, e6]
    · show (((hI h n 3 x).1 n 2).toNat) = ((h.1 n 2).toNat)
      simp only [f0, f1, f2, f4, f5, e1, e2, e3, e4, e5, e6]
    · show (decide ((j : Int) < (hI h n 3 x).1 n 0 ∧ tb ((hI h n 3 x).1 n 1) j)) = (decide ((j : Int) < h.1 n 0 ∧ tb (h.1 n 1) j))
      simp only [f0, f1, f2, f4, f5, e1, e2, e3, e4, e5, e6]
    · show (if (j : Int) < (hI h n 3 x).1 n 0 ∧ ¬ tb ((hI h n 3 x).1 n 1) j ∧ a < 3 then (hI h n 3 x).1 (n + 1) (j * 3 + a) else 0) = (if (j : Int) < h.1 n 0 ∧ ¬ tb (h.1 n 1) j ∧ a < 3 then h.1 (n + 1) (j * 3 + a) else 0)
      simp only [f0, f1, f2, f4, f5, e1, e2, e3, e4, e5, e6]
    · show (if (j : Int) < (hI h n 3 x).1 n 0 then (hI h n 3 x).1 (n + 2) j else 0) = (if (j : Int) < h.1 n 0 then h.1 (n + 2) j else 0)
      simp only [f0, f1, f2, f4, f5, e1, e2, e3, e4, e5, e6]
    · show (if (s : Int) < (hI h n 3 x).1 n 2 then ((hI h n 3 x).1 (n + 3) s).toNat else 0) = (if (s : Int) < h.1 n 2 then (h.1 (n + 3) s).toNat else 0)
      simp only [f0, f1, f2, f4, f5, e1, e2, e3, e4, e5, e6]
    · show (if (s : Int) < (hI h n 3 x).1 n 2 then ((hI h n 3 x).1 (n + 4) s).toNat else 0) = (if (s : Int) < h.1 n 2 then (h.1 (n + 4) s).toNat else 0)
      simp only [f0, f1, f2, f4, f5, e1, e2, e3, e4, e5, e6]
    · show (if (s : Int) < (hI h n 3 x).1 n 2 then (hI h n 3 x).1 (n + 5) s else 0) = (if (s : Int) < h.1 n 2 then h.1 (n + 5) s else 0)
      simp only [f0, f1, f2, f4, f5, e1, e2, e3, e4, e5, e6]
    · show (if (s : Int) < (hI h n 3 x).1 n 2 then (hI h n 3 x).1 (n + 6) s else 0) = (if (s : Int) < h.1 n 2 then h.1 (n + 6) s else 0)
      simp only [f0, f1, f2, f4, f5, e1, e2, e3, e4, e5, e6]
    · show decide ((s : Int) < (hI h n 3 x).1 n 2 ∧ tb ((hI h n 3 x).1 n 3) s) = if s = k then c else decide ((s : Int) < h.1 n 2 ∧ tb (h.1 n 3) s)
      rw [f2, hI_eq]
      have q := ht s
      by_cases e : s = k
      · rw [if_pos e] at q ⊢
        rw [Bool.eq_iff_iff, decide_eq_true_iff, q]
        exact ⟨fun z => z.2, fun z => ⟨by omega, z⟩⟩
      · rw [if_neg e] at q ⊢
        exact decide_eq_decide.mpr (and_congr_right fun _ => q)
    · show ((hI h n 3 x).1 n 4) = (h.1 n 4)
      simp only [f0, f1, f2, f4, f5, e1, e2, e3, e4, e5, e6]
    · show ((hI h n 3 x).1 n 5) = (h.1 n 5)
      simp only [f0, f1, f2, f4, f5, e1, e2, e3, e4, e5, e6]
  refine ⟨hV, ?_⟩
  unfold NOk
  rw [hV, f0, f1, f2]
  simp only [e3, e4]
  refine ⟨ok.1, ok.2.1, ok.2.2.1, ?_, ok.2.2.2.2.1, hv⟩
  rw [hI_eq]
  refine ⟨hx, tb_sub hx (fun s q => ?_)⟩
  have q2 := (ht s).mp q
  by_cases e : s = k
  · rw [e]; exact hk
  · rw [if_neg e] at q2
    have := (decide_eq_true_iff.mp (show decide ((s : Int) < h.1 n 2 ∧ tb (h.1 n 3) s) = true from (cV_H ok).mp q2)).1
    omega
theorem cQs_VN {h : Hp} {n : Nat} {f : Nat → Int} (ok : NOk h n) (hf : ∀ s, s < vS (cV h n) → 1 ≤ f s ∧ f s ≤ 5) : cV (hDen h n f (vS (cV h n))) n = vQs (cV h n) f ∧ NOk (hDen h n f (vS (cV h n))) n := by
  have hv := ok.2.2.2.2.2
  have eJ := cV_J ok
  have eSt := cV_S ok
  have bJ := ok.1
  have bS := ok.2.2.1
  have f0 : (hDen h n f (vS (cV h n))).1 n 0 = h.1 n 0 := hDen_ni (by omega)
  have f1 : (hDen h n f (vS (cV h n))).1 n 1 = h.1 n 1 := hDen_ni (by omega)
  have f2 : (hDen h n f (vS (cV h n))).1 n 2 = h.1 n 2 := hDen_ni (by omega)
  have f3 : (hDen h n f (vS (cV h n))).1 n 3 = h.1 n 3 := hDen_ni (by omega)
  have f4 : (hDen h n f (vS (cV h n))).1 n 4 = h.1 n 4 := hDen_ni (by omega)
  have f5 : (hDen h n f (vS (cV h n))).1 n 5 = h.1 n 5 := hDen_ni (by omega)
  have e1 : ∀ z, (hDen h n f (vS (cV h n))).1 (n + 1) z = h.1 (n + 1) z := fun z => hDen_ni (by omega)
  have e2 : ∀ z, (hDen h n f (vS (cV h n))).1 (n + 2) z = h.1 (n + 2) z := fun z => hDen_ni (by omega)
  have e3 : ∀ z, (hDen h n f (vS (cV h n))).1 (n + 3) z = h.1 (n + 3) z := fun z => hDen_ni (by omega)
  have e4 : ∀ z, (hDen h n f (vS (cV h n))).1 (n + 4) z = h.1 (n + 4) z := fun z => hDen_ni (by omega)
  have e6 : ∀ z, (hDen h n f (vS (cV h n))).1 (n + 6) z = h.1 (n + 6) z := fun z => hDen_ni (by omega)
  have hV : cV (hDen h n f (vS (cV h n))) n = vQs (cV h n) f := by
    refine nv_ext ?_ ?_ (fun j => ?_) (fun j a => ?_) (fun j => ?_) (fun s => ?_) (fun s => ?_) (fun s => ?_) (fun s => ?_) (fun s => ?_) ?_ ?_
    · show (((hDen h n f (vS (cV h n))).1 n 0).toNat) = ((h.1 n 0).toNat)
      simp only [f0, f1, f2, f3, f4, f5, e1, e2, e3, e4, e6]
    · show (((hDen h n f (vS (cV h n))).1 n 2).toNat) = ((h.1 n 2).toNat)
      simp only [f0, f1, f2, f3, f4, f5, e1, e2, e3, e4, e6]
    · show (decide ((j : Int) < (hDen h n f (vS (cV h n))).1 n 0 ∧ tb ((hDen h n f (vS (cV h n))).1 n 1) j)) = (decide ((j : Int) < h.1 n 0 ∧ tb (h.1 n 1) j))
      simp only [f0, f1, f2, f3, f4, f5, e1, e2, e3, e4, e6]
    · show (if (j : Int) < (hDen h n f (vS (cV h n))).1 n 0 ∧ ¬ tb ((hDen h n f (vS (cV h n))).1 n 1) j ∧ a < 3 then (hDen h n f (vS (cV h n))).1 (n + 1) (j * 3 + a) else 0) = (if (j : Int) < h.1 n 0 ∧ ¬ tb (h.1 n 1) j ∧ a < 3 then h.1 (n + 1) (j * 3 + a) else 0)
      simp only [f0, f1, f2, f3, f4, f5, e1, e2, e3, e4, e6]
    · show (if (j : Int) < (hDen h n f (vS (cV h n))).1 n 0 then (hDen h n f (vS (cV h n))).1 (n + 2) j else 0) = (if (j : Int) < h.1 n 0 then h.1 (n + 2) j else 0)
      simp only [f0, f1, f2, f3, f4, f5, e1, e2, e3, e4, e6]
    · show (if (s : Int) < (hDen h n f (vS (cV h n))).1 n 2 then ((hDen h n f (vS (cV h n))).1 (n + 3) s).toNat else 0) = (if (s : Int) < h.1 n 2 then (h.1 (n + 3) s).toNat else 0)
      simp only [f0, f1, f2, f3, f4, f5, e1, e2, e3, e4, e6]
    · show (if (s : Int) < (hDen h n f (vS (cV h n))).1 n 2 then ((hDen h n f (vS (cV h n))).1 (n + 4) s).toNat else 0) = (if (s : Int) < h.1 n 2 then (h.1 (n + 4) s).toNat else 0)
      simp only [f0, f1, f2, f3, f4, f5, e1, e2, e3, e4, e6]
    · show (if (s : Int) < (hDen h n f (vS (cV h n))).1 n 2 then (hDen h n f (vS (cV h n))).1 (n + 5) s else 0) = if s < vS (cV h n) then f s else 0
      rw [f2, hDen_rd]
      grind
    · show (if (s : Int) < (hDen h n f (vS (cV h n))).1 n 2 then (hDen h n f (vS (cV h n))).1 (n + 6) s else 0) = (if (s : Int) < h.1 n 2 then h.1 (n + 6) s else 0)
      simp only [f0, f1, f2, f3, f4, f5, e1, e2, e3, e4, e6]
    · show (decide ((s : Int) < (hDen h n f (vS (cV h n))).1 n 2 ∧ tb ((hDen h n f (vS (cV h n))).1 n 3) s)) = (decide ((s : Int) < h.1 n 2 ∧ tb (h.1 n 3) s))
      simp only [f0, f1, f2, f3, f4, f5, e1, e2, e3, e4, e6]
    · show ((hDen h n f (vS (cV h n))).1 n 4) = (h.1 n 4)
      simp only [f0, f1, f2, f3, f4, f5, e1, e2, e3, e4, e6]
    · show ((hDen h n f (vS (cV h n))).1 n 5) = (h.1 n 5)
      simp only [f0, f1, f2, f3, f4, f5, e1, e2, e3, e4, e6]
  refine ⟨hV, ?_⟩
  unfold NOk
  rw [hV, f0, f1, f2, f3]
  simp only [e3, e4]
  refine ⟨ok.1, ok.2.1, ok.2.2.1, ok.2.2.2.1, ok.2.2.2.2.1, ?_⟩
  obtain ⟨v1, v2, v3, v4, v5, v6, v7, v8, v9, v10, v11⟩ := hv
  refine ⟨v1, v2, v3, fun s hs => ?_, v5, v6, v7, v8, v9, v10, v11⟩
  have q := v4 s hs
  have q2 := hf s hs
  exact ⟨q.1, q.2.1, q.2.2.1, by show 1 ≤ (if s < vS (cV h n) then f s else 0); rw [if_pos (show s < vS (cV h n) from hs)]; exact q2.1, by show (if s < vS (cV h n) then f s else 0) ≤ 5; rw [if_pos (show s < vS (cV h n) from hs)]; exact q2.2, q.2.2.2.2.2⟩
