/-! The model: its row of numbers as a view; text. -/
def gV (f : Nat → Int) : Nv :=
  ((f 0).toNat, (f 1).toNat, fun j => decide ((j : Int) < f 0 ∧ f (4 + j) = 1), fun j a => if (j : Int) < f 0 ∧ ¬ f (4 + j) = 1 ∧ a < 3 then f (14 + 3 * j + a) else 0, fun j => if (j : Int) < f 0 then f (44 + j) else 0,
   fun s => if (s : Int) < f 1 then (f (54 + 5 * s)).toNat else 0, fun s => if (s : Int) < f 1 then (f (54 + 5 * s + 1)).toNat else 0, fun s => if (s : Int) < f 1 then f (54 + 5 * s + 2) else 0, fun s => if (s : Int) < f 1 then f (54 + 5 * s + 3) else 0, fun s => decide ((s : Int) < f 1 ∧ f (54 + 5 * s + 4) = 0), f 2, f 3)
def GOk (f : Nat → Int) : Prop := (0 ≤ f 0 ∧ f 0 ≤ 10) ∧ (0 ≤ f 1 ∧ f 1 ≤ 14) ∧ (∀ j : Nat, (j : Int) < f 0 → f (4 + j) = 0 ∨ f (4 + j) = 1) ∧ (∀ s : Nat, (s : Int) < f 1 → (0 ≤ f (54 + 5 * s) ∧ f (54 + 5 * s) < f 0) ∧ (0 ≤ f (54 + 5 * s + 1) ∧ f (54 + 5 * s + 1) < f 0) ∧ (f (54 + 5 * s + 4) = 0 ∨ f (54 + 5 * s + 4) = 1)) ∧ VOk (gV f)
section GV
variable {f : Nat → Int}
theorem gJ (k : GOk f) : f 0 = (vJ (gV f) : Int) := by show f 0 = ((f 0).toNat : Int); have := k.1; omega
theorem gS (k : GOk f) : f 1 = (vS (gV f) : Int) := by show f 1 = ((f 1).toNat : Int); have := k.2.1; omega
theorem gF {j : Nat} (hj : (j : Int) < f 0) : f (4 + j) = 1 ↔ vF (gV f) j = true := by
  show _ ↔ decide ((j : Int) < f 0 ∧ f (4 + j) = 1) = true
  rw [decide_eq_true_iff]
  exact ⟨fun q => ⟨hj, q⟩, fun q => q.2⟩
theorem gH {s : Nat} (hs : (s : Int) < f 1) : f (54 + 5 * s + 4) = 0 ↔ vH (gV f) s = true := by
  show _ ↔ decide ((s : Int) < f 1 ∧ f (54 + 5 * s + 4) = 0) = true
  rw [decide_eq_true_iff]
  exact ⟨fun q => ⟨hs, q⟩, fun q => q.2⟩
theorem gP {j a : Nat} (hj : (j : Int) < f 0) (hf : ¬ f (4 + j) = 1) (ha : a < 3) : f (14 + 3 * j + a) = vP (gV f) j a := (if_pos ⟨hj, hf, ha⟩).symm
theorem gL {j : Nat} (hj : (j : Int) < f 0) : f (44 + j) = vLd (gV f) j := (if_pos hj).symm
theorem gA {s : Nat} (k : GOk f) (hs : (s : Int) < f 1) : f (54 + 5 * s) = (vA (gV f) s : Int) := by
  show f (54 + 5 * s) = ((if (s : Int) < f 1 then (f (54 + 5 * s)).toNat else 0 : Nat) : Int)
  rw [if_pos hs]
  have := (k.2.2.2.1 s hs).1
  omega
theorem gB {s : Nat} (k : GOk f) (hs : (s : Int) < f 1) : f (54 + 5 * s + 1) = (vB (gV f) s : Int) := by
  show f (54 + 5 * s + 1) = ((if (s : Int) < f 1 then (f (54 + 5 * s + 1)).toNat else 0 : Nat) : Int)
  rw [if_pos hs]
  have := (k.2.2.2.1 s hs).2.1
  omega
theorem gQ {s : Nat} (hs : (s : Int) < f 1) : f (54 + 5 * s + 2) = vQ (gV f) s := (if_pos hs).symm
theorem gW {s : Nat} (hs : (s : Int) < f 1) : f (54 + 5 * s + 3) = vW (gV f) s := (if_pos hs).symm
end GV
def MT (h : Hp) (t : Nat → Int) (L : Nat) : Prop := h.1 0 2 = (L : Int) ∧ L ≤ 200 ∧ ∀ k, k < L → h.1 1 k = t k ∧ 32 ≤ t k ∧ t k ≤ 126
def MP (h : Hp) (k : Nat) (pv : Nat → Nv) : Prop := h.1 0 6 = (k : Int) ∧ k ≤ 6 ∧ ∀ t, t < k → GOk (fun i => h.1 4 (124 * (k - 1 - t) + i)) ∧ gV (fun i => h.1 4 (124 * (k - 1 - t) + i)) = pv t
def MInv (h : Hp) (s : St) : Prop := MOk h.2.2 ∧ (GOk (h.1 2) ∧ gV (h.1 2) = sV s) ∧ MT h (sT s) (sL s) ∧ MP h (sK s) (sP s)
def PM (a : Int × St) : Pst := PI (fun x h' => x = a.1 ∧ MInv h' a.2)
theorem m_in {h : Hp} {v lo hi : Int} (hv : I32 v) (hl : I32 lo) (hh : I32 hi) : Ev mX8_in 0 0 (entL [iv v, iv lo, iv hi] 3) [] h (PE (bi (lo ≤ v ∧ v ≤ hi)) h) := by
  show Ev mX8_in 0 0 [some (iv v), some (iv lo), some (iv hi)] [] h _
  obtain ⟨v1, v2⟩ := hv
  obtain ⟨l1, l2⟩ := hl
  obtain ⟨h1, h2⟩ := hh
  refine Ev.iload_n dX8_in_0 (Eq.refl 1) rfl ?_
  refine Ev.iload_n dX8_in_1 (Eq.refl 2) rfl ?_
  refine Ev.icmp_lt (tgt := 14) dX8_in_2 (Eq.refl 5) (by decide) ⟨by omega, by omega⟩ ⟨by omega, by omega⟩ (fun c2 => ?_) (fun c2 => ?_)
  · refine Ev.iconst dX8_in_14 (Eq.refl 15) ?_
    exact Ev.zret dX8_in_15 rfl (by first | exact bi01 _ | exact Or.inl rfl | exact Or.inr rfl | omega) (PE.of (by first | exact (bi_f (by omega)).symm | exact (bi_t (by omega)).symm))
  · refine Ev.iload_n dX8_in_5 (Eq.refl 6) rfl ?_
    refine Ev.iload_n dX8_in_6 (Eq.refl 7) rfl ?_
    refine Ev.icmp_gt (tgt := 14) dX8_in_7 (Eq.refl 10) (by decide) ⟨by omega, by omega⟩ ⟨by omega, by omega⟩ (fun c7 => ?_) (fun c7 => ?_)
    · refine Ev.iconst dX8_in_14 (Eq.refl 15) ?_
      exact Ev.zret dX8_in_15 rfl (by first | exact bi01 _ | exact Or.inl rfl | exact Or.inr rfl | omega) (PE.of (by first | exact (bi_f (by omega)).symm | exact (bi_t (by omega)).symm))
    · refine Ev.iconst dX8_in_10 (Eq.refl 11) ?_
      refine Ev.goto' (pc' := 15) dX8_in_11 (by decide) ?_
      exact Ev.zret dX8_in_15 rfl (by first | exact bi01 _ | exact Or.inl rfl | exact Or.inr rfl | omega) (PE.of (by first | exact (bi_f (by omega)).symm | exact (bi_t (by omega)).symm))
/-- what a call may change and still leave all that lasts: cells but 1, 2, 4, and of 0 the fields but 2, 6 -/
def Mk (h g : Hp) : Prop := g.2.2 = h.2.2 ∧ (∀ j, g.1 1 j = h.1 1 j) ∧ (∀ j, g.1 2 j = h.1 2 j) ∧ (∀ j, g.1 4 j = h.1 4 j) ∧ g.1 0 2 = h.1 0 2 ∧ g.1 0 6 = h.1 0 6
theorem MP.c {h g : Hp} {k : Nat} {pv : Nat → Nv} (e6 : g.1 0 6 = h.1 0 6) (e4 : ∀ j, g.1 4 j = h.1 4 j) (p : MP h k pv) : MP g k pv := ⟨e6.trans p.1, p.2.1, fun t ht => by
  have : (fun i => g.1 4 (124 * (k - 1 - t) + i)) = fun i => h.1 4 (124 * (k - 1 - t) + i) := funext fun i => e4 _
  rw [this]; exact p.2.2 t ht⟩
theorem MInv.k {h g : Hp} {s : St} (I : MInv h s) (q : Mk h g) : MInv g s := by
  obtain ⟨hR, ⟨ok, hV⟩, hT, hP⟩ := I
  obtain ⟨q1, q2, q3, q4, q5, q6⟩ := q
  have e2 : g.1 2 = h.1 2 := funext q3
  refine ⟨by rw [q1]; exact hR, ⟨by rw [e2]; exact ok, by rw [e2]; exact hV⟩, ⟨q5.trans hT.1, hT.2.1, fun k hk => by rw [q2]; exact hT.2.2 k hk⟩, hP.c q6 q4⟩
theorem Mk.rf {h : Hp} : Mk h h := ⟨rfl, fun _ => rfl, fun _ => rfl, fun _ => rfl, rfl, rfl⟩
theorem Mk.w {h g : Hp} {i k : Nat} {x : Int} (q : Mk h g) (h1 : i ≠ 1 ∧ i ≠ 2 ∧ i ≠ 4 ∧ (i ≠ 0 ∨ (k ≠ 2 ∧ k ≠ 6))) : Mk h (hI g i k x) := by
  obtain ⟨q1, q2, q3, q4, q5, q6⟩ := q
  refine ⟨q1, fun j => by rw [hI_ni (by omega)]; exact q2 j, fun j => by rw [hI_ni (by omega)]; exact q3 j, fun j => by rw [hI_ni (by omega)]; exact q4 j, ?_, ?_⟩
  · rw [hI_rd, if_neg (by omega)]; exact q5
  · rw [hI_rd, if_neg (by omega)]; exact q6
theorem Mk.wL {h g : Hp} {i k : Nat} {x : Int} (q : Mk h g) : Mk h (hL g i k x) := q
theorem Mk.tr {h g f : Hp} (q : Mk h g) (p : Mk g f) : Mk h f := ⟨p.1.trans q.1, fun j => (p.2.1 j).trans (q.2.1 j), fun j => (p.2.2.1 j).trans (q.2.2.1 j), fun j => (p.2.2.2.1 j).trans (q.2.2.2.1 j), p.2.2.2.2.1.trans q.2.2.2.2.1, p.2.2.2.2.2.trans q.2.2.2.2.2⟩
theorem m_write {h : Hp} {s : St} {c : Int} (I : MInv h s) (hc : I32 c) : Ev mX8_write 1 0 (entL [.ref 0, iv c] 2) [] h (PM (aWrite s c)) := by
  show Ev mX8_write 1 0 [some (.ref 0), some (iv c)] [] h _
  have I' := I
  obtain ⟨hR, ⟨ok, hV⟩, hT, hP⟩ := I
  have i1 : I32 32 := ⟨by omega, by omega⟩
  have i2 : I32 126 := ⟨by omega, by omega⟩
  have hL1 : (hI h 0 0 0).1 0 2 = (sL s : Int) := by rw [hI_nk (by omega)]; exact hT.1
  have hL2 : sL s ≤ 200 := hT.2.1
  have bk : MInv (hI h 0 0 0) s := I'.k (Mk.rf.w (by omega))
  have fin : ∀ c, 32 ≤ c ∧ c ≤ 126 → sL s < 200 → MInv (hI (hI (hI h 0 0 0) 1 (sL s) c) 0 2 ((sL s : Int) + 1)) (fun i => if i = sL s then c else sT s i, sL s + 1, sV s, sK s, sP s) := fun c hc l => by
    refine ⟨hR, ⟨?_, ?_⟩, ⟨?_, by show sL s + 1 ≤ 200; omega, fun k hk => ?_⟩, ?_⟩
    · have e : (hI (hI (hI h 0 0 0) 1 (sL s) c) 0 2 ((sL s : Int) + 1)).1 2 = h.1 2 := funext fun j => by rw [hI_ni (by omega), hI_ni (by omega), hI_ni (by omega)]
      rw [e]; exact ok
    · have e : (hI (hI (hI h 0 0 0) 1 (sL s) c) 0 2 ((sL s : Int) + 1)).1 2 = h.1 2 := funext fun j => by rw [hI_ni (by omega), hI_ni (by omega), hI_ni (by omega)]
      rw [e]; exact hV
    · rw [hI_eq]; show _ = ((sL s + 1 : Nat) : Int); push_cast; rfl
    · show _ = (if k = sL s then c else sT s k) ∧ 32 ≤ (if k = sL s then c else sT s k) ∧ (if k = sL s then c else sT s k) ≤ 126
      have hk : k < sL s + 1 := hk
      rw [hI_ni (by omega), hI_rd]
      by_cases e : k = sL s
      · rw [if_pos e, if_pos ⟨rfl, e⟩]; exact ⟨rfl, hc⟩
      · rw [if_neg e, if_neg (fun z => e z.2), hI_ni (by omega)]; exact hT.2.2 k (by omega)
    · exact hP.c (by rw [hI_nk (by omega), hI_ni (by omega), hI_nk (by omega)]) (fun j => by rw [hI_ni (by omega), hI_ni (by omega), hI_ni (by omega)])
  refine Ev.aload_n dX8_write_0 (Eq.refl 1) rfl ?_
  refine Ev.iconst dX8_write_1 (Eq.refl 2) ?_
  refine Ev.putI dX8_write_2 (Eq.refl 5) fp_X8_69 rfl rfl (Or.inl rfl) ?_
  refine Ev.iload_n dX8_write_5 (Eq.refl 6) rfl ?_
  refine Ev.bipush dX8_write_6 (Eq.refl 8) (by decide) ?_
  refine Ev.bipush dX8_write_8 (Eq.refl 10) (by decide) ?_
  refine Ev.cs3E dX8_write_10 (Eq.refl 13) cw_X8_73 (Nat.le_of_ble_eq_true rfl) (by decide) rfl (Nat.le_of_ble_eq_true rfl) (m_in (by assumption) (by assumption) (by assumption)) ?_
  refine Ev.if_neB (tgt := 18) dX8_write_13 (Eq.refl 16) (by decide) (fun c13 => ?_) (fun c13 => ?_)
  · refine Ev.aload_n dX8_write_18 (Eq.refl 19) rfl ?_
    refine Ev.getI dX8_write_19 (Eq.refl 22) fg_X8_77 rfl rfl ?_
    rw [hL1]
    refine Ev.sipush dX8_write_22 (Eq.refl 25) (by decide) ?_
    refine Ev.icmp_ne (tgt := 31) dX8_write_25 (Eq.refl 28) (by decide) ⟨by omega, by omega⟩ ⟨by omega, by omega⟩ (fun c25 => ?_) (fun c25 => ?_)
    · have e : aWrite s c = ((sL s : Int) + 1, (fun i => if i = sL s then c else sT s i, sL s + 1, sV s, sK s, sP s)) := (if_pos c13).trans (if_pos (by omega))
      refine Ev.aload_n dX8_write_31 (Eq.refl 32) rfl ?_
      refine Ev.getR dX8_write_32 (Eq.refl 35) fg_X8_7 rfl rfl (rX8_1 hR) ?_
      refine Ev.aload_n dX8_write_35 (Eq.refl 36) rfl ?_
      refine Ev.getI dX8_write_36 (Eq.refl 39) fg_X8_77 rfl rfl ?_
      rw [hL1]
      refine Ev.iload_n dX8_write_39 (Eq.refl 40) rfl ?_
      refine Ev.i2b dX8_write_40 (Eq.refl 41) (by omega) ?_
      refine Ev.bastore dX8_write_41 (Eq.refl 42) rfl rfl (by omega) (by decide) (by omega) (by first | with_reducible exact Int.toNat_natCast _ | exact Eq.refl _) ?_
      refine Ev.aload_n dX8_write_42 (Eq.refl 43) rfl ?_
      refine Ev.dupR dX8_write_43 (Eq.refl 44) ?_
      refine Ev.getI dX8_write_44 (Eq.refl 47) fg_X8_77 rfl rfl ?_
      rw [hI_ni (by omega), hL1]
      refine Ev.iconst dX8_write_47 (Eq.refl 48) ?_
      refine Ev.iadd dX8_write_48 (Eq.refl 49) ?_
      refine Ev.putI dX8_write_49 (Eq.refl 52) fp_X8_77 rfl rfl (Or.inl rfl) ?_
      refine Ev.aload_n dX8_write_52 (Eq.refl 53) rfl ?_
      refine Ev.getI dX8_write_53 (Eq.refl 56) fg_X8_77 rfl rfl ?_
      rw [hI_eq]
      exact Ev.iret dX8_write_56 rfl ((by rw [e]; exact ⟨_, rfl, rfl, fin c c13 (by omega)⟩))
    · have e : aWrite s c = (-3, s) := (if_pos c13).trans (if_neg (by omega))
      refine Ev.bipush dX8_write_28 (Eq.refl 30) (by decide) ?_
      exact Ev.iret dX8_write_30 rfl ((by rw [e]; exact ⟨_, rfl, rfl, bk⟩))
  · have e : aWrite s c = (-1, s) := if_neg c13
    refine Ev.iconst dX8_write_16 (Eq.refl 17) ?_
    exact Ev.iret dX8_write_17 rfl ((by rw [e]; exact ⟨_, rfl, rfl, bk⟩))
theorem m_wipe {h : Hp} {s : St} (I : MInv h s) : Ev mX8_wipe 0 0 (entL [.ref 0] 2) [] h (PM (aWipe s)) := by
  show Ev mX8_wipe 0 0 [some (.ref 0), none] [] h _
  obtain ⟨hR, ⟨ok, hV⟩, hT, hP⟩ := I
  have e2 : ∀ g, g = hI (hI h 0 0 0) 0 2 0 → g.1 2 = h.1 2 := fun g e => funext fun j => by rw [e, hI_ni (by omega), hI_ni (by omega)]
  refine Ev.aload_n dX8_wipe_0 (Eq.refl 1) rfl ?_
  refine Ev.iconst dX8_wipe_1 (Eq.refl 2) ?_
  refine Ev.putI dX8_wipe_2 (Eq.refl 5) fp_X8_69 rfl rfl (Or.inl rfl) ?_
  refine Ev.aload_n dX8_wipe_5 (Eq.refl 6) rfl ?_
  refine Ev.getI dX8_wipe_6 (Eq.refl 9) fg_X8_77 rfl rfl ?_
  rw [hI_nk (by omega), hT.1]
  refine Ev.is1 dX8_wipe_9 (Eq.refl 10) (by decide) rfl ?_
  refine Ev.aload_n dX8_wipe_10 (Eq.refl 11) rfl ?_
  refine Ev.iconst dX8_wipe_11 (Eq.refl 12) ?_
  refine Ev.putI dX8_wipe_12 (Eq.refl 15) fp_X8_77 rfl rfl (Or.inl rfl) ?_
  refine Ev.iload_n dX8_wipe_15 (Eq.refl 16) rfl ?_
  exact Ev.iret dX8_wipe_16 rfl (⟨_, rfl, rfl, hR, ⟨by rw [e2 _ rfl]; exact ok, by rw [e2 _ rfl]; exact hV⟩, ⟨hI_eq, Nat.zero_le _, fun i hi => absurd hi (Nat.not_lt_zero i)⟩, hP.c (by rw [hI_nk (by omega), hI_nk (by omega)]) (fun j => by rw [hI_ni (by omega), hI_ni (by omega)])⟩)
