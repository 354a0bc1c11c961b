/-! The class's calls: told. -/
def CInv (h : Hp) (s : St) : Prop := ROk h.2.2 ∧ (∃ n d : Nat, (n = 24 ∧ d = 31 ∨ n = 31 ∧ d = 24) ∧ h.2.2 0 6 = n ∧ h.2.2 0 7 = d ∧ NOk h n ∧ cV h n = sV s) ∧ TX h (sT s) (sL s) ∧ PastOk h (sK s) (sP s)
def PA (a : Int × St) : Pst := PI (fun x h' => x = a.1 ∧ CInv h' a.2)
/-- cells that hold nothing that lasts -/
def inQ (i : Nat) : Prop := i = 3 ∨ i = 4 ∨ (7 ≤ i ∧ i ≤ 23) ∨ (38 ≤ i ∧ i ≤ 44) ∨ (87 ≤ i ∧ i ≤ 96)
theorem TX.fr {S : Nat → Prop} {h g : Hp} {t : Nat → Int} {L : Nat} (hF : Fr S h g) (h1 : ¬ S 1) (h2 : ¬ S 2) (k : TX h t L) : TX g t L := ⟨by rw [hF.1 1 h1]; exact k.1, k.2.1, fun i hi => by rw [hF.1 2 h2]; exact k.2.2 i hi⟩
theorem PastOk.fr {S : Nat → Prop} {h g : Hp} {k : Nat} {pv : Nat → Nv} (hF : Fr S h g) (h5 : ∀ i, S i → i ≠ 5 ∧ (i < 45 ∨ 86 < i)) (q : PastOk h k pv) : PastOk g k pv := by
  obtain ⟨i, hi, e1, e2, hk, hp⟩ := q
  have n5 : ¬ S 5 := fun z => (h5 5 z).1 rfl
  refine ⟨i, hi, by rw [hF.1 5 n5]; exact e1, by rw [hF.1 5 n5]; exact e2, hk, fun t ht => ?_⟩
  have s2 := hF.same (n := 45 + 7 * ((i + 5 - t) % 6)) (fun a h1 h2 z => by have := h5 a z; omega)
  exact ⟨s2.ok (hp t ht).1, s2.V.trans (hp t ht).2⟩
theorem CInv.fr {S : Nat → Prop} {h g : Hp} {s : St} {n d : Nat} (hF : Fr S h g) (hR : ROk h.2.2) (hnd : n = 24 ∧ d = 31 ∨ n = 31 ∧ d = 24) (hN : h.2.2 0 6 = n) (hD : h.2.2 0 7 = d) (ok : NOk h n) (hV : cV h n = sV s) (hT : TX h (sT s) (sL s)) (hP : PastOk h (sK s) (sP s)) (hS : ∀ i, S i → inQ i ∨ inN d i) : CInv g s := by
  have nS : ∀ i, n ≤ i → i ≤ n + 6 → ¬ S i := fun i h1 h2 z => by rcases hS i z with q | q <;> unfold inQ at * <;> unfold inN at * <;> omega
  have s2 := hF.same (n := n) nS
  refine ⟨hF.R hR, ⟨n, d, hnd, by rw [hF.2.2]; exact hN, by rw [hF.2.2]; exact hD, s2.ok ok, s2.V.trans hV⟩, hT.fr hF ?_ ?_, hP.fr hF ?_⟩
  · intro z; rcases hS 1 z with q | q <;> unfold inQ at * <;> unfold inN at * <;> omega
  · intro z; rcases hS 2 z with q | q <;> unfold inQ at * <;> unfold inN at * <;> omega
  · intro i z; rcases hS i z with q | q <;> unfold inQ at * <;> unfold inN at * <;> omega
theorem p_write {h : Hp} {s : St} {c : Int} (I : CInv h s) (hc : I32 c) : Ev mX7_write 1 0 (entL [.ref 0, iv c] 2) [] h (PA (aWrite s c)) := by
  show Ev mX7_write 1 0 [some (.ref 0), some (iv c)] [] h _
  obtain ⟨t, L, v, k, pv⟩ := s
  obtain ⟨hR, ⟨n, d, hnd, hN, hD, ok, rfl⟩, hT, hP⟩ := I
  have i1 : I32 32 := ⟨by omega, by omega⟩
  have i2 : I32 126 := ⟨by omega, by omega⟩
  have hL : h.1 1 1 = (L : Int) := hT.1
  have hL2 : L ≤ 200 := hT.2.1
  have e1 : ¬ (32 ≤ c ∧ c ≤ 126) → aWrite (t, L, cV h n, k, pv) c = (-1, (t, L, cV h n, k, pv)) := fun q => if_neg q
  have e2 : 32 ≤ c ∧ c ≤ 126 → ¬ L < 200 → aWrite (t, L, cV h n, k, pv) c = (-3, (t, L, cV h n, k, pv)) := fun q r => (if_pos q).trans (if_neg r)
  have e3 : 32 ≤ c ∧ c ≤ 126 → L < 200 → aWrite (t, L, cV h n, k, pv) c = ((L : Int) + 1, (fun i => if i = L then c else t i, L + 1, cV h n, k, pv)) := fun q r => (if_pos q).trans (if_pos r)
  have back : CInv h (t, L, cV h n, k, pv) := ⟨hR, ⟨n, d, hnd, hN, hD, ok, rfl⟩, hT, hP⟩
  have fin : 32 ≤ c ∧ c ≤ 126 → L < 200 → CInv (cApp h c) (fun i => if i = L then c else t i, L + 1, cV h n, k, pv) := fun q r => by
    have hF : Fr (fun i => i = 1 ∨ i = 2) h (cApp h c) := (Fr.rf.wI (Or.inr rfl)).wI (Or.inl rfl)
    have s2 := hF.same (n := n) (fun i h1 h2 => by omega)
    refine ⟨hR, ⟨n, d, hnd, hN, hD, s2.ok ok, s2.V⟩, ⟨?_, by show L + 1 ≤ 200; omega, fun i hi => ?_⟩, hP.fr hF (fun i z => by omega)⟩
    · show (cApp h c).1 1 1 = ((L + 1 : Nat) : Int)
      unfold cApp
      rw [hI_eq, hL]; push_cast; rfl
    · show (cApp h c).1 2 i = (if i = L then c else t i) ∧ 32 ≤ (if i = L then c else t i) ∧ (if i = L then c else t i) ≤ 126
      have hi : i < L + 1 := hi
      unfold cApp
      rw [hI_ni (by omega), hI_rd, hL, Int.toNat_natCast]
      by_cases e : i = L
      · rw [if_pos e, if_pos ⟨rfl, e⟩]; exact ⟨rfl, q⟩
      · rw [if_neg e, if_neg (fun z => e z.2)]; exact hT.2.2 i (show i < L by omega)
  refine Ev.iload_n dX7_write_0 (Eq.refl 1) rfl ?_
  refine Ev.bipush dX7_write_1 (Eq.refl 3) (by decide) ?_
  refine Ev.bipush dX7_write_3 (Eq.refl 5) (by decide) ?_
  refine Ev.cs3E dX7_write_5 (Eq.refl 8) cw_X7_85 (Nat.le_of_ble_eq_true rfl) (by decide) rfl (Nat.le_of_ble_eq_true rfl) (c_isWithin (by assumption) (by assumption) (by assumption)) ?_
  refine Ev.if_neB (tgt := 13) dX7_write_8 (Eq.refl 11) (by decide) (fun c8 => ?_) (fun c8 => ?_)
  · refine Ev.aload_n dX7_write_13 (Eq.refl 14) rfl ?_
    refine Ev.getR dX7_write_14 (Eq.refl 17) fg_X7_10 rfl rfl (rX7_0 hR) ?_
    refine Ev.iload_n dX7_write_17 (Eq.refl 18) rfl ?_
    refine Ev.i2c dX7_write_18 (Eq.refl 19) (by omega) ?_
    refine Ev.cv1P dX7_write_19 (Eq.refl 22) cw_X7_73 (Nat.le_of_ble_eq_true rfl) (by decide) rfl rfl rfl (Nat.le_of_ble_eq_true rfl) (c_append hR (by omega) (by omega)) (fun c19 => ?_) (fun c19 => ?_)
    · have q := e3 c8 (by omega)
      have fn := fin c8 (by omega)
      refine Ev.if_eq (tgt := 35) dX7_write_22 (Eq.refl 25) (by decide) ⟨by decide, by decide⟩ (fun c => absurd c (by decide)) (fun _ => ?_)
      refine Ev.aload_n dX7_write_25 (Eq.refl 26) rfl ?_
      refine Ev.getR dX7_write_26 (Eq.refl 29) fg_X7_10 rfl rfl (rX7_0 hR) ?_
      refine Ev.getI dX7_write_29 (Eq.refl 32) fg_X7_81 rfl rfl ?_
      refine Ev.goto' (pc' := 37) dX7_write_32 (by decide) ?_
      exact Ev.iret dX7_write_37 rfl ((by rw [q]; first | exact ⟨_, rfl, by show (cApp h c).1 1 1 = _; unfold cApp; rw [hI_eq, hL], fn⟩ | exact ⟨_, rfl, rfl, back⟩))
    · have q := e2 c8 (by omega)
      refine Ev.if_eq (tgt := 35) dX7_write_22 (Eq.refl 25) (by decide) ⟨by decide, by decide⟩ (fun _ => ?_) (fun c => absurd (by decide) c)
      refine Ev.bipush dX7_write_35 (Eq.refl 37) (by decide) ?_
      exact Ev.iret dX7_write_37 rfl ((by rw [q]; first | exact ⟨_, rfl, by show (cApp h c).1 1 1 = _; unfold cApp; rw [hI_eq, hL], fn⟩ | exact ⟨_, rfl, rfl, back⟩))
  · have q := e1 c8
    refine Ev.iconst dX7_write_11 (Eq.refl 12) ?_
    exact Ev.iret dX7_write_12 rfl ((by rw [q]; exact ⟨_, rfl, rfl, back⟩))
theorem p_wipe {h : Hp} {s : St} (I : CInv h s) : Ev mX7_wipe 0 0 (entL [.ref 0] 2) [] h (PA (aWipe s)) := by
  show Ev mX7_wipe 0 0 [some (.ref 0), none] [] h _
  obtain ⟨t, L, v, k, pv⟩ := s
  obtain ⟨hR, ⟨n, d, hnd, hN, hD, ok, rfl⟩, hT, hP⟩ := I
  have hL : h.1 1 1 = (L : Int) := hT.1
  have hF : Fr (fun i => i = 1) h (hI h 1 1 0) := Fr.rf.wI rfl
  have s2 := hF.same (n := n) (fun i h1 h2 => by omega)
  refine Ev.aload_n dX7_wipe_0 (Eq.refl 1) rfl ?_
  refine Ev.getR dX7_wipe_1 (Eq.refl 4) fg_X7_10 rfl rfl (rX7_0 hR) ?_
  refine Ev.getI dX7_wipe_4 (Eq.refl 7) fg_X7_81 rfl rfl ?_
  rw [hL]
  refine Ev.is1 dX7_wipe_7 (Eq.refl 8) (by decide) rfl ?_
  refine Ev.aload_n dX7_wipe_8 (Eq.refl 9) rfl ?_
  refine Ev.getR dX7_wipe_9 (Eq.refl 12) fg_X7_10 rfl rfl (rX7_0 hR) ?_
  refine Ev.iconst dX7_wipe_12 (Eq.refl 13) ?_
  refine Ev.putI dX7_wipe_13 (Eq.refl 16) fp_X7_81 rfl rfl (Or.inl rfl) ?_
  refine Ev.iload_n dX7_wipe_16 (Eq.refl 17) rfl ?_
  exact Ev.iret dX7_wipe_17 rfl (⟨_, rfl, rfl, hR, ⟨n, d, hnd, hN, hD, s2.ok ok, s2.V⟩, ⟨hI_eq, Nat.zero_le _, fun i hi => absurd hi (Nat.not_lt_zero i)⟩, hP.fr hF (fun i z => by omega)⟩)
theorem p_fault {h : Hp} {s : St} (I : CInv h s) : Ev mX7_fault 6 0 (entL [.ref 0] 1) [] h (PA (aFault s)) := by
  show Ev mX7_fault 6 0 [some (.ref 0)] [] h _
  obtain ⟨hR, ⟨n, d, hnd, hN, hD, ok, hV⟩, hT, hP⟩ := I
  have hn : isNet d := by omega
  refine Ev.aload_n dX7_fault_0 (Eq.refl 1) rfl ?_
  refine Ev.getR dX7_fault_1 (Eq.refl 4) fg_X7_19 rfl rfl (rX7_1 hR) ?_
  refine Ev.aload_n dX7_fault_4 (Eq.refl 5) rfl ?_
  refine Ev.getR dX7_fault_5 (Eq.refl 8) fg_X7_58 rfl rfl hD ?_
  refine Ev.aload_n dX7_fault_8 (Eq.refl 9) rfl ?_
  refine Ev.getR dX7_fault_9 (Eq.refl 12) fg_X7_10 rfl rfl (rX7_0 hR) ?_
  refine Ev.cv2I dX7_fault_12 (Eq.refl 15) cw_X7_77 (Nat.le_of_ble_eq_true rfl) (by decide) rfl rfl rfl (Nat.le_of_ble_eq_true rfl) (c_readInto hR (by assumption) hT) (fun x12 g12 hp12 => ?_)
  obtain ⟨hF, hx⟩ := hp12
  have q := (hx (sL s + 1) (by omega)).1
  exact Ev.iret dX7_fault_15 rfl (⟨_, rfl, q, CInv.fr hF hR hnd hN hD ok hV hT hP (fun i z => by unfold inR at z; unfold inQ; rcases z with z | z; omega; exact Or.inr z)⟩)
