/-! Both start with the same net: by program (wip/whole/mk_start.py). -/
def fL (L : List Int) : Nat → Int := fun i => L.getD i 0
theorem gDn {L : List Int} {i : Nat} (h : L.length ≤ i) : L.getD i 0 = 0 := by
  rw [List.getD_eq_getElem?_getD, List.getElem?_eq_none h]
  rfl
theorem v0_ok : VOk v0 := ⟨by decide, by decide, by decide, fun s h => absurd h (Nat.not_lt_zero s), fun j h => absurd h (Nat.not_lt_zero j), fun j a => ⟨Int.le_refl 0, by show (0 : Int) ≤ 60; decide⟩, fun j h => absurd h (Nat.not_lt_zero j), by decide, by decide, by decide, by decide⟩
theorem eR {L L' : List Int} {S : List Nat} (h1 : L.length ≤ 124) (h2 : L'.length ≤ 124) (hc : ((List.range 124).all (fun i => decide (i ∈ S) || decide (L'.getD i 0 = L.getD i 0))) = true) (i : Nat) (hi : i ∉ S) : fL L' i = fL L i := by
  by_cases q : i < 124
  · have h := List.all_eq_true.mp hc i (List.mem_range.mpr q)
    simp only [Bool.or_eq_true, decide_eq_true_eq] at h
    rcases h with h | h
    · exact absurd h hi
    · exact h
  · unfold fL
    rw [gDn (by omega), gDn (by omega)]
theorem pA_step {k p p' : Nat} {v w : Nv} {c : Int} {m : Nat} {ns : List Int} (hp : p < 96) (hc : tA tF 96 p = c) (hm : nOf c = m) (hn : pNs tF 96 m (p + 1) = some (ns, p')) (hi : item c (fun i => ns.getD i 0) v = some w) : pAll tF 96 (k + 1) p v = pAll tF 96 k p' w := by
  have e : pItem tF 96 p v = some (p', w) := by
    unfold pItem
    rw [hc, hm, hn]
    show (match item c (fun i => ns.getD i 0) v with | none => none | some w => some (p', w)) = _
    rw [hi]
  show (if p < 96 then (match pItem tF 96 p v with | none => ((p : Int), v) | some q => pAll tF 96 k q.1 q.2) else (-4, v)) = _
  rw [if_pos hp, e]
def L0 : List Int := [0, 0, 40, 10, 0, 0, 0, 0, 0, 0, 0, 0, 0, 0, 0, 0, 0, 0, 0, 0, 0, 0, 0, 0, 0, 0, 0, 0, 0, 0, 0, 0, 0, 0, 0, 0, 0, 0, 0, 0, 0, 0, 0, 0, 0, 0, 0, 0, 0, 0, 0, 0, 0, 0, 0, 0, 0, 0, 0, 0, 0, 0, 0, 0, 0, 0, 0, 0, 0, 0, 0, 0, 0, 0, 0, 0, 0, 0, 0, 0, 0, 0, 0, 0, 0, 0, 0, 0, 0, 0, 0, 0, 0, 0, 0, 0, 0, 0, 0, 0, 0, 0, 0, 0, 0, 0, 0, 0, 0, 0, 0, 0, 0, 0, 0, 0, 0, 0, 0, 0, 0, 0, 0, 0]
def L1 : List Int := [1, 0, 40, 10, 0, 0, 0, 0, 0, 0, 0, 0, 0, 0, 0, 0, 10, 0, 0, 0, 0, 0, 0, 0, 0, 0, 0, 0, 0, 0, 0, 0, 0, 0, 0, 0, 0, 0, 0, 0, 0, 0, 0, 0, 0, 0, 0, 0, 0, 0, 0, 0, 0, 0, 0, 0, 0, 0, 0, 0, 0, 0, 0, 0, 0, 0, 0, 0, 0, 0, 0, 0, 0, 0, 0, 0, 0, 0, 0, 0, 0, 0, 0, 0, 0, 0, 0, 0, 0, 0, 0, 0, 0, 0, 0, 0, 0, 0, 0, 0, 0, 0, 0, 0, 0, 0, 0, 0, 0, 0, 0, 0, 0, 0, 0, 0, 0, 0, 0, 0, 0, 0, 0, 0]
def L2 : List Int := [2, 0, 40, 10, 0, 0, 0, 0, 0, 0, 0, 0, 0, 0, 0, 0, 10, 40, 0, 30, 0, 0, 0, 0, 0, 0, 0, 0, 0, 0, 0, 0, 0, 0, 0, 0, 0, 0, 0, 0, 0, 0, 0, 0, 0, 0, 0, 0, 0, 0, 0, 0, 0, 0, 0, 0, 0, 0, 0, 0, 0, 0, 0, 0, 0, 0, 0, 0, 0, 0, 0, 0, 0, 0, 0, 0, 0, 0, 0, 0, 0, 0, 0, 0, 0, 0, 0, 0, 0, 0, 0, 0, 0, 0, 0, 0, 0, 0, 0, 0, 0, 0, 0, 0, 0, 0, 0, 0, 0, 0, 0, 0, 0, 0, 0, 0, 0, 0, 0, 0, 0, 0, 0, 0]
def L3 : List Int := [3, 0, 40, 10, 0, 0, 0, 0, 0, 0, 0, 0, 0, 0, 0, 0, 10, 40, 0, 30, 0, 40, 20, 0, 0, 0, 0, 0, 0, 0, 0, 0, 0, 0, 0, 0, 0, 0, 0, 0, 0, 0, 0, 0, 0, 0, 0, 0, 0, 0, 0, 0, 0, 0, 0, 0, 0, 0, 0, 0, 0, 0, 0, 0, 0, 0, 0, 0, 0, 0, 0, 0, 0, 0, 0, 0, 0, 0, 0, 0, 0, 0, 0, 0, 0, 0, 0, 0, 0, 0, 0, 0, 0, 0, 0, 0, 0, 0, 0, 0, 0, 0, 0, 0, 0, 0, 0, 0, 0, 0, 0, 0, 0, 0, 0, 0, 0, 0, 0, 0, 0, 0, 0, 0]
def L4 : List Int := [4, 0, 40, 10, 0, 0, 0, 0, 0, 0, 0, 0, 0, 0, 0, 0, 10, 40, 0, 30, 0, 40, 20, 40, 40, 5, 0, 0, 0, 0, 0, 0, 0, 0, 0, 0, 0, 0, 0, 0, 0, 0, 0, 0, 0, 0, 0, 0, 0, 0, 0, 0, 0, 0, 0, 0, 0, 0, 0, 0, 0, 0, 0, 0, 0, 0, 0, 0, 0, 0, 0, 0, 0, 0, 0, 0, 0, 0, 0, 0, 0, 0, 0, 0, 0, 0, 0, 0, 0, 0, 0, 0, 0, 0, 0, 0, 0, 0, 0, 0, 0, 0, 0, 0, 0, 0, 0, 0, 0, 0, 0, 0, 0, 0, 0, 0, 0, 0, 0, 0, 0, 0, 0, 0]
def L5 : List Int := [5, 0, 40, 10, 0, 0, 0, 0, 1, 0, 0, 0, 0, 0, 0, 0, 10, 40, 0, 30, 0, 40, 20, 40, 40, 5, 0, 0, 0, 0, 0, 0, 0, 0, 0, 0, 0, 0, 0, 0, 0, 0, 0, 0, 0, 0, 0, 0, 0, 0, 0, 0, 0, 0, 0, 0, 0, 0, 0, 0, 0, 0, 0, 0, 0, 0, 0, 0, 0, 0, 0, 0, 0, 0, 0, 0, 0, 0, 0, 0, 0, 0, 0, 0, 0, 0, 0, 0, 0, 0, 0, 0, 0, 0, 0, 0, 0, 0, 0, 0, 0, 0, 0, 0, 0, 0, 0, 0, 0, 0, 0, 0, 0, 0, 0, 0, 0, 0, 0, 0, 0, 0, 0, 0]
def L6 : List Int := [6, 0, 40, 10, 0, 0, 0, 0, 1, 1, 0, 0, 0, 0, 0, 0, 10, 40, 0, 30, 0, 40, 20, 40, 40, 5, 0, 0, 0, 0, 0, 0, 0, 0, 0, 0, 0, 0, 0, 0, 0, 0, 0, 0, 0, 0, 0, 0, 0, (-5), 0, 0, 0, 0, 0, 0, 0, 0, 0, 0, 0, 0, 0, 0, 0, 0, 0, 0, 0, 0, 0, 0, 0, 0, 0, 0, 0, 0, 0, 0, 0, 0, 0, 0, 0, 0, 0, 0, 0, 0, 0, 0, 0, 0, 0, 0, 0, 0, 0, 0, 0, 0, 0, 0, 0, 0, 0, 0, 0, 0, 0, 0, 0, 0, 0, 0, 0, 0, 0, 0, 0, 0, 0, 0]
def L7 : List Int := [6, 1, 40, 10, 0, 0, 0, 0, 1, 1, 0, 0, 0, 0, 0, 0, 10, 40, 0, 30, 0, 40, 20, 40, 40, 5, 0, 0, 0, 0, 0, 0, 0, 0, 0, 0, 0, 0, 0, 0, 0, 0, 0, 0, 0, 0, 0, 0, 0, (-5), 0, 0, 0, 0, 0, 4, 1, 30, 0, 0, 0, 0, 0, 0, 0, 0, 0, 0, 0, 0, 0, 0, 0, 0, 0, 0, 0, 0, 0, 0, 0, 0, 0, 0, 0, 0, 0, 0, 0, 0, 0, 0, 0, 0, 0, 0, 0, 0, 0, 0, 0, 0, 0, 0, 0, 0, 0, 0, 0, 0, 0, 0, 0, 0, 0, 0, 0, 0, 0, 0, 0, 0, 0, 0]
def L8 : List Int := [6, 2, 40, 10, 0, 0, 0, 0, 1, 1, 0, 0, 0, 0, 0, 0, 10, 40, 0, 30, 0, 40, 20, 40, 40, 5, 0, 0, 0, 0, 0, 0, 0, 0, 0, 0, 0, 0, 0, 0, 0, 0, 0, 0, 0, 0, 0, 0, 0, (-5), 0, 0, 0, 0, 0, 4, 1, 30, 0, 1, 4, 2, 0, 0, 0, 0, 0, 0, 0, 0, 0, 0, 0, 0, 0, 0, 0, 0, 0, 0, 0, 0, 0, 0, 0, 0, 0, 0, 0, 0, 0, 0, 0, 0, 0, 0, 0, 0, 0, 0, 0, 0, 0, 0, 0, 0, 0, 0, 0, 0, 0, 0, 0, 0, 0, 0, 0, 0, 0, 0, 0, 0, 0, 0]
def L9 : List Int := [6, 3, 40, 10, 0, 0, 0, 0, 1, 1, 0, 0, 0, 0, 0, 0, 10, 40, 0, 30, 0, 40, 20, 40, 40, 5, 0, 0, 0, 0, 0, 0, 0, 0, 0, 0, 0, 0, 0, 0, 0, 0, 0, 0, 0, 0, 0, 0, 0, (-5), 0, 0, 0, 0, 0, 4, 1, 30, 0, 1, 4, 2, 0, 0, 4, 5, 3, 18, 0, 0, 0, 0, 0, 0, 0, 0, 0, 0, 0, 0, 0, 0, 0, 0, 0, 0, 0, 0, 0, 0, 0, 0, 0, 0, 0, 0, 0, 0, 0, 0, 0, 0, 0, 0, 0, 0, 0, 0, 0, 0, 0, 0, 0, 0, 0, 0, 0, 0, 0, 0, 0, 0, 0, 0]
def L10 : List Int := [6, 4, 40, 10, 0, 0, 0, 0, 1, 1, 0, 0, 0, 0, 0, 0, 10, 40, 0, 30, 0, 40, 20, 40, 40, 5, 0, 0, 0, 0, 0, 0, 0, 0, 0, 0, 0, 0, 0, 0, 0, 0, 0, 0, 0, 0, 0, 0, 0, (-5), 0, 0, 0, 0, 0, 4, 1, 30, 0, 1, 4, 2, 0, 0, 4, 5, 3, 18, 0, 2, 5, 1, 25, 0, 0, 0, 0, 0, 0, 0, 0, 0, 0, 0, 0, 0, 0, 0, 0, 0, 0, 0, 0, 0, 0, 0, 0, 0, 0, 0, 0, 0, 0, 0, 0, 0, 0, 0, 0, 0, 0, 0, 0, 0, 0, 0, 0, 0, 0, 0, 0, 0, 0, 0]
def L11 : List Int := [6, 5, 40, 10, 0, 0, 0, 0, 1, 1, 0, 0, 0, 0, 0, 0, 10, 40, 0, 30, 0, 40, 20, 40, 40, 5, 0, 0, 0, 0, 0, 0, 0, 0, 0, 0, 0, 0, 0, 0, 0, 0, 0, 0, 0, 0, 0, 0, 0, (-5), 0, 0, 0, 0, 0, 4, 1, 30, 0, 1, 4, 2, 0, 0, 4, 5, 3, 18, 0, 2, 5, 1, 25, 0, 3, 5, 2, 30, 0, 0, 0, 0, 0, 0, 0, 0, 0, 0, 0, 0, 0, 0, 0, 0, 0, 0, 0, 0, 0, 0, 0, 0, 0, 0, 0, 0, 0, 0, 0, 0, 0, 0, 0, 0, 0, 0, 0, 0, 0, 0, 0, 0, 0, 0]
def L12 : List Int := [6, 5, 60, 5, 0, 0, 0, 0, 1, 1, 0, 0, 0, 0, 0, 0, 10, 40, 0, 30, 0, 40, 20, 40, 40, 5, 0, 0, 0, 0, 0, 0, 0, 0, 0, 0, 0, 0, 0, 0, 0, 0, 0, 0, 0, 0, 0, 0, 0, (-5), 0, 0, 0, 0, 0, 4, 1, 30, 0, 1, 4, 2, 0, 0, 4, 5, 3, 18, 0, 2, 5, 1, 25, 0, 3, 5, 2, 30, 0, 0, 0, 0, 0, 0, 0, 0, 0, 0, 0, 0, 0, 0, 0, 0, 0, 0, 0, 0, 0, 0, 0, 0, 0, 0, 0, 0, 0, 0, 0, 0, 0, 0, 0, 0, 0, 0, 0, 0, 0, 0, 0, 0, 0, 0]
theorem r0_V : gV (fL L0) = v0 := by
  unfold gV v0
  have e0 : fL L0 0 = 0 := rfl
  have e1 : fL L0 1 = 0 := rfl
  have e2 : fL L0 2 = 40 := rfl
  have e3 : fL L0 3 = 10 := rfl
  have z : ∀ j : Nat, ¬ (j : Int) < 0 := fun j => by omega
  simp only [e0, e1, e2, e3, z, false_and, if_false, decide_false]
  rfl
theorem r0_ok : GOk (fL L0) := by
  refine ⟨by decide, by decide, fun j h => absurd h (by show ¬ (j : Int) < 0; omega), fun j h => absurd h (by show ¬ (j : Int) < 0; omega), ?_⟩
  rw [r0_V]
  exact v0_ok
theorem r1 : gV (fL L1) = vFix (gV (fL L0)) 0 0 10 ∧ GOk (fL L1) ∧ okFix (gV (fL L0)) 0 0 10 := by
  have hJ : vJ (gV (fL L0)) = 0 := rfl
  have hk : okFix (gV (fL L0)) 0 0 10 := ⟨by rw [hJ]; decide, by decide, by decide, by decide⟩
  have q := gFix (g := fL L1) r0_ok hk (by decide) (by decide) (by decide) rfl rfl rfl rfl rfl rfl (fun i a0 a1 a2 a3 a4 a5 => eR (L := L0) (L' := L1) (S := [0, 4, 44, 14, 15, 16]) (by decide +kernel) (by decide +kernel) (by decide +kernel) i (by simp only [List.mem_cons, List.not_mem_nil, or_false]; omega))
  exact ⟨q.1, q.2, hk⟩
theorem i1 : item 102 (fun i => ([0, 0, 10] : List Int).getD i 0) (gV (fL L0)) = some (gV (fL L1)) := by
  rw [r1.1]; unfold item; rw [if_pos rfl]; exact cif_t r1.2.2
theorem r2 : gV (fL L2) = vFix (gV (fL L1)) 40 0 30 ∧ GOk (fL L2) ∧ okFix (gV (fL L1)) 40 0 30 := by
  have hJ : vJ (gV (fL L1)) = 1 := rfl
  have hk : okFix (gV (fL L1)) 40 0 30 := ⟨by rw [hJ]; decide, by decide, by decide, by decide⟩
  have q := gFix (g := fL L2) r1.2.1 hk (by decide) (by decide) (by decide) rfl rfl rfl rfl rfl rfl (fun i a0 a1 a2 a3 a4 a5 => eR (L := L1) (L' := L2) (S := [0, 5, 45, 17, 18, 19]) (by decide +kernel) (by decide +kernel) (by decide +kernel) i (by simp only [List.mem_cons, List.not_mem_nil, or_false]; omega))
  exact ⟨q.1, q.2, hk⟩
theorem i2 : item 102 (fun i => ([40, 0, 30] : List Int).getD i 0) (gV (fL L1)) = some (gV (fL L2)) := by
  rw [r2.1]; unfold item; rw [if_pos rfl]; exact cif_t r2.2.2
theorem r3 : gV (fL L3) = vFix (gV (fL L2)) 0 40 20 ∧ GOk (fL L3) ∧ okFix (gV (fL L2)) 0 40 20 := by
  have hJ : vJ (gV (fL L2)) = 2 := rfl
  have hk : okFix (gV (fL L2)) 0 40 20 := ⟨by rw [hJ]; decide, by decide, by decide, by decide⟩
  have q := gFix (g := fL L3) r2.2.1 hk (by decide) (by decide) (by decide) rfl rfl rfl rfl rfl rfl (fun i a0 a1 a2 a3 a4 a5 => eR (L := L2) (L' := L3) (S := [0, 6, 46, 20, 21, 22]) (by decide +kernel) (by decide +kernel) (by decide +kernel) i (by simp only [List.mem_cons, List.not_mem_nil, or_false]; omega))
  exact ⟨q.1, q.2, hk⟩
theorem i3 : item 102 (fun i => ([0, 40, 20] : List Int).getD i 0) (gV (fL L2)) = some (gV (fL L3)) := by
  rw [r3.1]; unfold item; rw [if_pos rfl]; exact cif_t r3.2.2
theorem r4 : gV (fL L4) = vFix (gV (fL L3)) 40 40 5 ∧ GOk (fL L4) ∧ okFix (gV (fL L3)) 40 40 5 := by
  have hJ : vJ (gV (fL L3)) = 3 := rfl
  have hk : okFix (gV (fL L3)) 40 40 5 := ⟨by rw [hJ]; decide, by decide, by decide, by decide⟩
  have q := gFix (g := fL L4) r3.2.1 hk (by decide) (by decide) (by decide) rfl rfl rfl rfl rfl rfl (fun i a0 a1 a2 a3 a4 a5 => eR (L := L3) (L' := L4) (S := [0, 7, 47, 23, 24, 25]) (by decide +kernel) (by decide +kernel) (by decide +kernel) i (by simp only [List.mem_cons, List.not_mem_nil, or_false]; omega))
  exact ⟨q.1, q.2, hk⟩
theorem i4 : item 102 (fun i => ([40, 40, 5] : List Int).getD i 0) (gV (fL L3)) = some (gV (fL L4)) := by
  rw [r4.1]; unfold item; rw [if_pos rfl]; exact cif_t r4.2.2
theorem r5 : gV (fL L5) = vFre (gV (fL L4)) (0) ∧ GOk (fL L5) ∧ okFre (gV (fL L4)) (0) := by
  have hJ : vJ (gV (fL L4)) = 4 := rfl
  have hk : okFre (gV (fL L4)) (0) := ⟨by rw [hJ]; decide, by decide +kernel, by decide⟩
  have q := gFre (g := fL L5) r4.2.1 hk (by decide) rfl rfl rfl (fun i a0 a1 a2 a3 a4 a5 => eR (L := L4) (L' := L5) (S := [0, 8, 48]) (by decide +kernel) (by decide +kernel) (by decide +kernel) i (by simp only [List.mem_cons, List.not_mem_nil, or_false]; omega))
  exact ⟨q.1, q.2, hk⟩
theorem i5 : item 117 (fun i => ([9] : List Int).getD i 0) (gV (fL L4)) = some (gV (fL L5)) := by
  rw [r5.1]; unfold item; rw [if_neg (by decide), if_pos rfl]; exact cif_t r5.2.2
theorem r6 : gV (fL L6) = vFre (gV (fL L5)) (-5) ∧ GOk (fL L6) ∧ okFre (gV (fL L5)) (-5) := by
  have hJ : vJ (gV (fL L5)) = 5 := rfl
  have hk : okFre (gV (fL L5)) (-5) := ⟨by rw [hJ]; decide, by decide +kernel, by decide⟩
  have q := gFre (g := fL L6) r5.2.1 hk (by decide) rfl rfl rfl (fun i a0 a1 a2 a3 a4 a5 => eR (L := L5) (L' := L6) (S := [0, 9, 49]) (by decide +kernel) (by decide +kernel) (by decide +kernel) i (by simp only [List.mem_cons, List.not_mem_nil, or_false]; omega))
  exact ⟨q.1, q.2, hk⟩
theorem i6 : item 117 (fun i => ([4] : List Int).getD i 0) (gV (fL L5)) = some (gV (fL L6)) := by
  rw [r6.1]; unfold item; rw [if_neg (by decide), if_pos rfl]; exact cif_t r6.2.2
theorem r7 : gV (fL L7) = vStr (gV (fL L6)) 0 4 1 30 ∧ GOk (fL L7) ∧ okStr (gV (fL L6)) ((0 : Nat) : Int) ((4 : Nat) : Int) 1 30 := by
  have hJ : vJ (gV (fL L6)) = 6 := rfl
  have hS : vS (gV (fL L6)) = 0 := rfl
  have hk : okStr (gV (fL L6)) ((0 : Nat) : Int) ((4 : Nat) : Int) 1 30 := by
    refine ⟨by rw [hS]; decide, by rw [hJ]; decide, by rw [hJ]; decide, by decide, by decide, by decide, fun ⟨s, hs, z⟩ => ?_, by unfold vFull; decide +kernel, by unfold vFull; decide +kernel⟩
    have k : ∀ s, s < vS (gV (fL L6)) → ¬ ((vA (gV (fL L6)) s = 0 ∨ vB (gV (fL L6)) s = 0) ∧ (vA (gV (fL L6)) s = 4 ∨ vB (gV (fL L6)) s = 4)) := by decide +kernel
    exact k s hs z
  have q := gStr (g := fL L7) r6.2.1 hk (by decide) rfl rfl rfl rfl rfl rfl (fun i a0 a1 => eR (L := L6) (L' := L7) (S := [1, 54, 55, 56, 57, 58]) (by decide +kernel) (by decide +kernel) (by decide +kernel) i (by simp only [List.mem_cons, List.not_mem_nil, or_false]; omega))
  exact ⟨q.1, q.2, hk⟩
theorem i7 : item 115 (fun i => ([0, 4, 1, 30] : List Int).getD i 0) (gV (fL L6)) = some (gV (fL L7)) := by
  rw [r7.1]; unfold item; rw [if_neg (by decide), if_neg (by decide), if_pos rfl]; exact cif_t r7.2.2
theorem r8 : gV (fL L8) = vStr (gV (fL L7)) 1 4 2 0 ∧ GOk (fL L8) ∧ okStr (gV (fL L7)) ((1 : Nat) : Int) ((4 : Nat) : Int) 2 0 := by
  have hJ : vJ (gV (fL L7)) = 6 := rfl
  have hS : vS (gV (fL L7)) = 1 := rfl
  have hk : okStr (gV (fL L7)) ((1 : Nat) : Int) ((4 : Nat) : Int) 2 0 := by
    refine ⟨by rw [hS]; decide, by rw [hJ]; decide, by rw [hJ]; decide, by decide, by decide, by decide, fun ⟨s, hs, z⟩ => ?_, by unfold vFull; decide +kernel, by unfold vFull; decide +kernel⟩
    have k : ∀ s, s < vS (gV (fL L7)) → ¬ ((vA (gV (fL L7)) s = 1 ∨ vB (gV (fL L7)) s = 1) ∧ (vA (gV (fL L7)) s = 4 ∨ vB (gV (fL L7)) s = 4)) := by decide +kernel
    exact k s hs z
  have q := gStr (g := fL L8) r7.2.1 hk (by decide) rfl rfl rfl rfl rfl rfl (fun i a0 a1 => eR (L := L7) (L' := L8) (S := [1, 59, 60, 61, 62, 63]) (by decide +kernel) (by decide +kernel) (by decide +kernel) i (by simp only [List.mem_cons, List.not_mem_nil, or_false]; omega))
  exact ⟨q.1, q.2, hk⟩
theorem i8 : item 115 (fun i => ([1, 4, 2, 0] : List Int).getD i 0) (gV (fL L7)) = some (gV (fL L8)) := by
  rw [r8.1]; unfold item; rw [if_neg (by decide), if_neg (by decide), if_pos rfl]; exact cif_t r8.2.2
theorem r9 : gV (fL L9) = vStr (gV (fL L8)) 4 5 3 18 ∧ GOk (fL L9) ∧ okStr (gV (fL L8)) ((4 : Nat) : Int) ((5 : Nat) : Int) 3 18 := by
  have hJ : vJ (gV (fL L8)) = 6 := rfl
  have hS : vS (gV (fL L8)) = 2 := rfl
  have hk : okStr (gV (fL L8)) ((4 : Nat) : Int) ((5 : Nat) : Int) 3 18 := by
    refine ⟨by rw [hS]; decide, by rw [hJ]; decide, by rw [hJ]; decide, by decide, by decide, by decide, fun ⟨s, hs, z⟩ => ?_, by unfold vFull; decide +kernel, by unfold vFull; decide +kernel⟩
    have k : ∀ s, s < vS (gV (fL L8)) → ¬ ((vA (gV (fL L8)) s = 4 ∨ vB (gV (fL L8)) s = 4) ∧ (vA (gV (fL L8)) s = 5 ∨ vB (gV (fL L8)) s = 5)) := by decide +kernel
    exact k s hs z
  have q := gStr (g := fL L9) r8.2.1 hk (by decide) rfl rfl rfl rfl rfl rfl (fun i a0 a1 => eR (L := L8) (L' := L9) (S := [1, 64, 65, 66, 67, 68]) (by decide +kernel) (by decide +kernel) (by decide +kernel) i (by simp only [List.mem_cons, List.not_mem_nil, or_false]; omega))
  exact ⟨q.1, q.2, hk⟩
theorem i9 : item 115 (fun i => ([4, 5, 3, 18] : List Int).getD i 0) (gV (fL L8)) = some (gV (fL L9)) := by
  rw [r9.1]; unfold item; rw [if_neg (by decide), if_neg (by decide), if_pos rfl]; exact cif_t r9.2.2
theorem r10 : gV (fL L10) = vStr (gV (fL L9)) 2 5 1 25 ∧ GOk (fL L10) ∧ okStr (gV (fL L9)) ((2 : Nat) : Int) ((5 : Nat) : Int) 1 25 := by
  have hJ : vJ (gV (fL L9)) = 6 := rfl
  have hS : vS (gV (fL L9)) = 3 := rfl
  have hk : okStr (gV (fL L9)) ((2 : Nat) : Int) ((5 : Nat) : Int) 1 25 := by
    refine ⟨by rw [hS]; decide, by rw [hJ]; decide, by rw [hJ]; decide, by decide, by decide, by decide, fun ⟨s, hs, z⟩ => ?_, by unfold vFull; decide +kernel, by unfold vFull; decide +kernel⟩
    have k : ∀ s, s < vS (gV (fL L9)) → ¬ ((vA (gV (fL L9)) s = 2 ∨ vB (gV (fL L9)) s = 2) ∧ (vA (gV (fL L9)) s = 5 ∨ vB (gV (fL L9)) s = 5)) := by decide +kernel
    exact k s hs z
  have q := gStr (g := fL L10) r9.2.1 hk (by decide) rfl rfl rfl rfl rfl rfl (fun i a0 a1 => eR (L := L9) (L' := L10) (S := [1, 69, 70, 71, 72, 73]) (by decide +kernel) (by decide +kernel) (by decide +kernel) i (by simp only [List.mem_cons, List.not_mem_nil, or_false]; omega))
  exact ⟨q.1, q.2, hk⟩
theorem i10 : item 115 (fun i => ([2, 5, 1, 25] : List Int).getD i 0) (gV (fL L9)) = some (gV (fL L10)) := by
  rw [r10.1]; unfold item; rw [if_neg (by decide), if_neg (by decide), if_pos rfl]; exact cif_t r10.2.2
theorem r11 : gV (fL L11) = vStr (gV (fL L10)) 3 5 2 30 ∧ GOk (fL L11) ∧ okStr (gV (fL L10)) ((3 : Nat) : Int) ((5 : Nat) : Int) 2 30 := by
  have hJ : vJ (gV (fL L10)) = 6 := rfl
  have hS : vS (gV (fL L10)) = 4 := rfl
  have hk : okStr (gV (fL L10)) ((3 : Nat) : Int) ((5 : Nat) : Int) 2 30 := by
    refine ⟨by rw [hS]; decide, by rw [hJ]; decide, by rw [hJ]; decide, by decide, by decide, by decide, fun ⟨s, hs, z⟩ => ?_, by unfold vFull; decide +kernel, by unfold vFull; decide +kernel⟩
    have k : ∀ s, s < vS (gV (fL L10)) → ¬ ((vA (gV (fL L10)) s = 3 ∨ vB (gV (fL L10)) s = 3) ∧ (vA (gV (fL L10)) s = 5 ∨ vB (gV (fL L10)) s = 5)) := by decide +kernel
    exact k s hs z
  have q := gStr (g := fL L11) r10.2.1 hk (by decide) rfl rfl rfl rfl rfl rfl (fun i a0 a1 => eR (L := L10) (L' := L11) (S := [1, 74, 75, 76, 77, 78]) (by decide +kernel) (by decide +kernel) (by decide +kernel) i (by simp only [List.mem_cons, List.not_mem_nil, or_false]; omega))
  exact ⟨q.1, q.2, hk⟩
theorem i11 : item 115 (fun i => ([3, 5, 2, 30] : List Int).getD i 0) (gV (fL L10)) = some (gV (fL L11)) := by
  rw [r11.1]; unfold item; rw [if_neg (by decide), if_neg (by decide), if_pos rfl]; exact cif_t r11.2.2
theorem r12 : gV (fL L12) = vRol (gV (fL L11)) 60 5 ∧ GOk (fL L12) ∧ okRol 60 5 := by
  have hk : okRol 60 5 := by unfold okRol; decide
  have q := gRol (g := fL L12) r11.2.1 hk (by decide) rfl rfl (fun i a0 a1 => eR (L := L11) (L' := L12) (S := [2, 3]) (by decide +kernel) (by decide +kernel) (by decide +kernel) i (by simp only [List.mem_cons, List.not_mem_nil, or_false]; omega))
  exact ⟨q.1, q.2, hk⟩
theorem i12 : item 114 (fun i => ([60, 5] : List Int).getD i 0) (gV (fL L11)) = some (gV (fL L12)) := by
  rw [r12.1]; unfold item; rw [if_neg (by decide), if_neg (by decide), if_neg (by decide), if_pos rfl]; exact cif_t r12.2.2
theorem pAll_F : pAll tF 96 97 0 v0 = (-4, gV (fL L12)) := by
  rw [← r0_V]
  rw [show pAll tF 96 97 0 (gV (fL L0)) = pAll tF 96 96 8 (gV (fL L1)) from pA_step (c := 102) (m := 3) (ns := [0, 0, 10]) (p' := 8) (by decide) (by decide +kernel) (by decide) (by decide +kernel) i1]
  rw [show pAll tF 96 96 8 (gV (fL L1)) = pAll tF 96 95 17 (gV (fL L2)) from pA_step (c := 102) (m := 3) (ns := [40, 0, 30]) (p' := 17) (by decide) (by decide +kernel) (by decide) (by decide +kernel) i2]
  rw [show pAll tF 96 95 17 (gV (fL L2)) = pAll tF 96 94 26 (gV (fL L3)) from pA_step (c := 102) (m := 3) (ns := [0, 40, 20]) (p' := 26) (by decide) (by decide +kernel) (by decide) (by decide +kernel) i3]
  rw [show pAll tF 96 94 26 (gV (fL L3)) = pAll tF 96 93 35 (gV (fL L4)) from pA_step (c := 102) (m := 3) (ns := [40, 40, 5]) (p' := 35) (by decide) (by decide +kernel) (by decide) (by decide +kernel) i4]
  rw [show pAll tF 96 93 35 (gV (fL L4)) = pAll tF 96 92 38 (gV (fL L5)) from pA_step (c := 117) (m := 1) (ns := [9]) (p' := 38) (by decide) (by decide +kernel) (by decide) (by decide +kernel) i5]
  rw [show pAll tF 96 92 38 (gV (fL L5)) = pAll tF 96 91 41 (gV (fL L6)) from pA_step (c := 117) (m := 1) (ns := [4]) (p' := 41) (by decide) (by decide +kernel) (by decide) (by decide +kernel) i6]
  rw [show pAll tF 96 91 41 (gV (fL L6)) = pAll tF 96 90 51 (gV (fL L7)) from pA_step (c := 115) (m := 4) (ns := [0, 4, 1, 30]) (p' := 51) (by decide) (by decide +kernel) (by decide) (by decide +kernel) i7]
  rw [show pAll tF 96 90 51 (gV (fL L7)) = pAll tF 96 89 60 (gV (fL L8)) from pA_step (c := 115) (m := 4) (ns := [1, 4, 2, 0]) (p' := 60) (by decide) (by decide +kernel) (by decide) (by decide +kernel) i8]
  rw [show pAll tF 96 89 60 (gV (fL L8)) = pAll tF 96 88 70 (gV (fL L9)) from pA_step (c := 115) (m := 4) (ns := [4, 5, 3, 18]) (p' := 70) (by decide) (by decide +kernel) (by decide) (by decide +kernel) i9]
  rw [show pAll tF 96 88 70 (gV (fL L9)) = pAll tF 96 87 80 (gV (fL L10)) from pA_step (c := 115) (m := 4) (ns := [2, 5, 1, 25]) (p' := 80) (by decide) (by decide +kernel) (by decide) (by decide +kernel) i10]
  rw [show pAll tF 96 87 80 (gV (fL L10)) = pAll tF 96 86 90 (gV (fL L11)) from pA_step (c := 115) (m := 4) (ns := [3, 5, 2, 30]) (p' := 90) (by decide) (by decide +kernel) (by decide) (by decide +kernel) i11]
  rw [show pAll tF 96 86 90 (gV (fL L11)) = pAll tF 96 85 96 (gV (fL L12)) from pA_step (c := 114) (m := 2) (ns := [60, 5]) (p' := 96) (by decide) (by decide +kernel) (by decide) (by decide +kernel) i12]
  show (if 96 < 96 then _ else _) = _
  rw [if_neg (by decide)]
theorem upL_big : ∀ (W : List (Nat × Int)), (∀ q ∈ W, q.1 < 124) → ∀ j, 124 ≤ j → upL W j = 0
  | [], _, _, _ => rfl
  | q :: W, h, j, hj => by
    show (if j = q.1 then q.2 else upL W j) = 0
    have := h q List.mem_cons_self
    rw [if_neg (by omega)]
    exact upL_big W (fun x hx => h x (List.mem_cons_of_mem _ hx)) j hj
theorem wM_L : upL wM = fL L12 := by
  funext j
  by_cases q : j < 124
  · exact (by decide +kernel : ∀ j, j < 124 → upL wM j = fL L12 j) j q
  · rw [upL_big wM (by decide +kernel) j (by omega)]
    unfold fL
    rw [gDn (by show 124 ≤ j; omega)]
noncomputable def s0 : St := (fun _ => 0, 0, gV (fL L12), 0, fun _ => v0)
theorem c_start {h : Hp} (g : GoodC h) : CInv h s0 := by
  obtain ⟨g1, g2, g3, g4, g5, g6, g7⟩ := g
  rw [pAll_F] at g4
  have g4 := g4 rfl
  exact ⟨g1, ⟨24, 31, Or.inl ⟨rfl, rfl⟩, g2, g3, g4.2, g4.1⟩, ⟨g5, by decide, fun k hk => absurd hk (Nat.not_lt_zero k)⟩, ⟨0, by decide, g6, g7, by decide, fun t ht => absurd ht (Nat.not_lt_zero t)⟩⟩
theorem m_start {h : Hp} (g : GoodM h) : MInv h s0 := by
  obtain ⟨g1, g2, g3, g4⟩ := g
  rw [wM_L] at g2
  exact ⟨g1, ⟨by rw [g2]; exact r12.2.1, by rw [g2]; rfl⟩, ⟨g3, by decide, fun k hk => absurd hk (Nat.not_lt_zero k)⟩, ⟨g4, by decide, fun t ht => absurd ht (Nat.not_lt_zero t)⟩⟩
