/-! The class's calls: told. -/
def CInv (h : Hp) (s : St) : Prop := ROk h.2.2 ∧ (∃ n d : Nat, (n = 24 ∧ d = 31 ∨ n = 31 ∧ d = 24) ∧ h.2.2 0 6 = n ∧ h.2.2 0 7 = d ∧ NOk h n ∧ cV h n = sV s) ∧ TX h (sT s) (sL s) ∧ PastOk h (sK s) (sP s)
def PA (a : Int × St) : Pst := PI (fun x h' => x = a.1 ∧ CInv h' a.2)
/-- cells that hold nothing that lasts -/
def inQ (i : Nat) : Prop := i = 3 ∨ i = 4 ∨ (7 ≤ i ∧ i ≤ 23) ∨ (38 ≤ i ∧ i ≤ 44) ∨ (87 ≤ i ∧ i ≤ 96)
theorem TX.fr {S : Nat → Prop} {h g : Hp} {t : Nat → Int} {L : Nat} (hF : Fr S h g) (h1 : ¬ S 1) (h2 : ¬ S 2) (k : TX h t L) : TX g t L := ⟨by rw [hF.1 1 h1]; exact k.1, k.2.1, fun i hi => by rw [hF.1 2 h2]; exact k.2.2 i hi⟩
theorem PastOk.fr {S : Nat → Prop} {h g : Hp} {k : Nat} {pv : Nat → Nv} (hF : Fr S h g) (h5 : ∀ i, S i → i ≠ 5 ∧ (i < 45 ∨ 86 < i)) (q : PastOk h k pv) : PastOk g k pv := by
  obtain ⟨i, hi, e1, e2, hk, hp⟩ := q
  have n5 : ¬ S 5 := fun z => (h5 5 z).1 rfl
  refine ⟨i, hi, by rw [hF.1 5 n5]; exact e1, by rw [hF.1 5 n5]; exact e2, hk, fun t ht => ?_⟩
  have s2 := hF.same (n := 45 + 7 * ((i + 5 - t) % 6)) (fun a h1 h2 z => by have := h5 a z; omega)
  exact ⟨s2.ok (hp t ht).1, s2.V.trans (hp t ht).2⟩
theorem CInv.fr {S : Nat → Prop} {h g : Hp} {s : St} {n d : Nat} (hF : Fr S h g) (hR : ROk h.2.2) (hnd : n = 24 ∧ d = 31 ∨ n = 31 ∧ d = 24) (hN : h.2.2 0 6 = n) (hD : h.2.2 0 7 = d) (ok : NOk h n) (hV : cV h n = sV s) (hT : TX h (sT s) (sL s)) (hP : PastOk h (sK s) (sP s)) (hS : ∀ i, S i → inQ i ∨ inN d i) : CInv g s := by
  have nS : ∀ i, n ≤ i → i ≤ n + 6 → ¬ S i := fun i h1 h2 z => by rcases hS i z with q | q <;> unfold inQ at * <;> unfold inN at * <;> omega
  have s2 := hF.same (n := n) nS
  refine ⟨hF.R hR, ⟨n, d, hnd, by rw [hF.2.2]; exact hN, by rw [hF.2.2]; exact hD, s2.ok ok, s2.V.trans hV⟩, hT.fr hF ?_ ?_, hP.fr hF ?_⟩
  · intro z; rcases hS 1 z with q | q <;> unfold inQ at * <;> unfold inN at * <;> omega
  · intro z; rcases hS 2 z with q | q <;> unfold inQ at * <;> unfold inN at * <;> omega
  · intro i z; rcases hS i z with q | q <;> unfold inQ at * <;> unfold inN at * <;> omega
theorem p_write {h : Hp} {s : St} {c : Int} (I : CInv h s) (hc : I32 c) : Ev mX7_write 1 0 (entL [.ref 0, iv c] 2) [] h (PA (aWrite s c)) := by
  show Ev mX7_write 1 0 [some (.ref 0), some (iv c)] [] h _
  obtain ⟨t, L, v, k, pv⟩ := s
  obtain ⟨hR, ⟨n, d, hnd, hN, hD, ok, rfl⟩, hT, hP⟩ := I
  have i1 : I32 32 := ⟨by omega, by omega⟩
  have i2 : I32 126 := ⟨by omega, by omega⟩
  have hL : h.1 1 1 = (L : Int) := hT.1
  have hL2 : L ≤ 200 := hT.2.1
  have e1 : ¬ (32 ≤ c ∧ c ≤ 126) → aWrite (t, L, cV h n, k, pv) c = (-1, (t, L, cV h n, k, pv)) := fun q => if_neg q
  have e2 : 32 ≤ c ∧ c ≤ 126 → ¬ L < 200 → aWrite (t, L, cV h n, k, pv) c = (-3, (t, L, cV h n, k, pv)) := fun q r => (if_pos q).trans (if_neg r)
  have e3 : 32 ≤ c ∧ c ≤ 126 → L < 200 → aWrite (t, L, cV h n, k, pv) c = ((L : Int) + 1, (fun i => if i = L then c else t i, L + 1, cV h n, k, pv)) := fun q r => (if_pos q).trans (if_pos r)
  have back : CInv h (t, L, cV h n, k, pv) := ⟨hR, ⟨n, d, hnd, hN, hD, ok, rfl⟩, hT, hP⟩
  have fin : 32 ≤ c ∧ c ≤ 126 → L < 200 → CInv (cApp h c) (fun i => if i = L then c else t i, L + 1, cV h n, k, pv) := fun q r => by
    have hF : Fr (fun i => i = 1 ∨ i = 2) h (cApp h c) := (Fr.rf.wI (Or.inr rfl)).wI (Or.inl rfl)
    have s2 := hF.same (n := n) (fun i h1 h2 => by omega)
    refine ⟨hR, ⟨n, d, hnd, hN, hD, s2.ok ok, s2.V⟩, ⟨?_, by show L + 1 ≤ 200; omega, fun i hi => ?_⟩, hP.fr hF (fun i z => by omega)⟩
    · show (cApp h c).1 1 1 = ((L + 1 : Nat) : Int)
      unfold cApp
      rw [hI_eq, hL]; push_cast; rfl
    · show (cApp h c).1 2 i = (if i = L then c else t i) ∧ 32 ≤ (if i = L then c else t i) ∧ (if i = L then c else t i) ≤ 126
      have hi : i < L + 1 := hi
      unfold cApp
      rw [hI_ni (by omega), hI_rd, hL, Int.toNat_natCast]
      by_cases e : i = L
      · rw [if_pos e, if_pos ⟨rfl, e⟩]; exact ⟨rfl, q⟩
      · rw [if_neg e, if_neg (fun z => e z.2)]; exact hT.2.2 i (show i < L by omega)
  refine Ev.iload_n dX7_write_0 (Eq.refl 1) rfl ?_
  refine Ev.bipush dX7_write_1 (Eq.refl 3) (by decide) ?_
  refine Ev.bipush dX7_write_3 (Eq.refl 5) (by decide) ?_
  refine Ev.cs3E dX7_write_5 (Eq.refl 8) cw_X7_85 (Nat.le_of_ble_eq_true rfl) (by decide) rfl (Nat.le_of_ble_eq_true rfl) (c_isWithin (by assumption) (by assumption) (by assumption)) ?_
  refine Ev.if_neB (tgt := 13) dX7_write_8 (Eq.refl 11) (by decide) (fun c8 => ?_) (fun c8 => ?_)
  · refine Ev.aload_n dX7_write_13 (Eq.refl 14) rfl ?_
    refine Ev.getR dX7_write_14 (Eq.refl 17) fg_X7_10 rfl rfl (rX7_0 hR) ?_
    refine Ev.iload_n dX7_write_17 (Eq.refl 18) rfl ?_
    refine Ev.i2c dX7_write_18 (Eq.refl 19) (by omega) ?_
    refine Ev.cv1P dX7_write_19 (Eq.refl 22) cw_X7_73 (Nat.le_of_ble_eq_true rfl) (by decide) rfl rfl rfl (Nat.le_of_ble_eq_true rfl) (c_append hR (by omega) (by omega)) (fun c19 => ?_) (fun c19 => ?_)
    · have q := e3 c8 (by omega)
      have fn := fin c8 (by omega)
      refine Ev.if_eq (tgt := 35) dX7_write_22 (Eq.refl 25) (by decide) ⟨by decide, by decide⟩ (fun c => absurd c (by decide)) (fun _ => ?_)
      refine Ev.aload_n dX7_write_25 (Eq.refl 26) rfl ?_
      refine Ev.getR dX7_write_26 (Eq.refl 29) fg_X7_10 rfl rfl (rX7_0 hR) ?_
      refine Ev.getI dX7_write_29 (Eq.refl 32) fg_X7_81 rfl rfl ?_
      refine Ev.goto' (pc' := 37) dX7_write_32 (by decide) ?_
      exact Ev.iret dX7_write_37 rfl ((by rw [q]; first | exact ⟨_, rfl, by show (cApp h c).1 1 1 = _; unfold cApp; rw [hI_eq, hL], fn⟩ | exact ⟨_, rfl, rfl, back⟩))
    · have q := e2 c8 (by omega)
      refine Ev.if_eq (tgt := 35) dX7_write_22 (Eq.refl 25) (by decide) ⟨by decide, by decide⟩ (fun _ => ?_) (fun c => absurd (by decide) c)
      refine Ev.bipush dX7_write_35 (Eq.refl 37) (by decide) ?_
      exact Ev.iret dX7_write_37 rfl ((by rw [q]; first | exact ⟨_, rfl, by show (cApp h c).1 1 1 = _; unfold cApp; rw [hI_eq, hL], fn⟩ | exact ⟨_, rfl, rfl, back⟩))
  · have q := e1 c8
    refine Ev.iconst dX7_write_11 (Eq.refl 12) ?_
    exact Ev.iret dX7_write_12 rfl ((by rw [q]; exact ⟨_, rfl, rfl, back⟩))
theorem p_wipe {h : Hp} {s : St} (I : CInv h s) : Ev mX7_wipe 0 0 (entL [.ref 0] 2) [] h (PA (aWipe s)) := by
  show Ev mX7_wipe 0 0 [some (.ref 0), none] [] h _
  obtain ⟨t, L, v, k, pv⟩ := s
  obtain ⟨hR, ⟨n, d, hnd, hN, hD, ok, rfl⟩, hT, hP⟩ := I
  have hL : h.1 1 1 = (L : Int) := hT.1
  have hF : Fr (fun i => i = 1) h (hI h 1 1 0) := Fr.rf.wI rfl
  have s2 := hF.same (n := n) (fun i h1 h2 => by omega)
  refine Ev.aload_n dX7_wipe_0 (Eq.refl 1) rfl ?_
  refine Ev.getR dX7_wipe_1 (Eq.refl 4) fg_X7_10 rfl rfl (rX7_0 hR) ?_
  refine Ev.getI dX7_wipe_4 (Eq.refl 7) fg_X7_81 rfl rfl ?_
  rw [hL]
  refine Ev.is1 dX7_wipe_7 (Eq.refl 8) (by decide) rfl ?_
  refine Ev.aload_n dX7_wipe_8 (Eq.refl 9) rfl ?_
  refine Ev.getR dX7_wipe_9 (Eq.refl 12) fg_X7_10 rfl rfl (rX7_0 hR) ?_
  refine Ev.iconst dX7_wipe_12 (Eq.refl 13) ?_
  refine Ev.putI dX7_wipe_13 (Eq.refl 16) fp_X7_81 rfl rfl (Or.inl rfl) ?_
  refine Ev.iload_n dX7_wipe_16 (Eq.refl 17) rfl ?_
  exact Ev.iret dX7_wipe_17 rfl (⟨_, rfl, rfl, hR, ⟨n, d, hnd, hN, hD, s2.ok ok, s2.V⟩, ⟨hI_eq, Nat.zero_le _, fun i hi => absurd hi (Nat.not_lt_zero i)⟩, hP.fr hF (fun i z => by omega)⟩)
theorem p_fault {h : Hp} {s : St} (I : CInv h s) : Ev mX7_fault 6 0 (entL [.ref 0] 1) [] h (PA (aFault s)) := by
  show Ev mX7_fault 6 0 [some (.ref 0)] [] h _
  obtain ⟨hR, ⟨n, d, hnd, hN, hD, ok, hV⟩, hT, hP⟩ := I
  have hn : isNet d := by omega
  refine Ev.aload_n dX7_fault_0 (Eq.refl 1) rfl ?_
  refine Ev.getR dX7_fault_1 (Eq.refl 4) fg_X7_19 rfl rfl (rX7_1 hR) ?_
  refine Ev.aload_n dX7_fault_4 (Eq.refl 5) rfl ?_
  refine Ev.getR dX7_fault_5 (Eq.refl 8) fg_X7_58 rfl rfl hD ?_
  refine Ev.aload_n dX7_fault_8 (Eq.refl 9) rfl ?_
  refine Ev.getR dX7_fault_9 (Eq.refl 12) fg_X7_10 rfl rfl (rX7_0 hR) ?_
  refine Ev.cv2I dX7_fault_12 (Eq.refl 15) cw_X7_77 (Nat.le_of_ble_eq_true rfl) (by decide) rfl rfl rfl (Nat.le_of_ble_eq_true rfl) (c_readInto hR (by assumption) hT) (fun x12 g12 hp12 => ?_)
  obtain ⟨hF, hx⟩ := hp12
  have q := (hx (sL s + 1) (by omega)).1
  exact Ev.iret dX7_fault_15 rfl (⟨_, rfl, q, CInv.fr hF hR hnd hN hD ok hV hT hP (fun i z => by unfold inR at z; unfold inQ; rcases z with z | z; omega; exact Or.inr z)⟩)
theorem pAll_r {t : Nat → Int} {L : Nat} : ∀ k p v, (pAll t L k p v).1 = -4 ∨ (0 ≤ (pAll t L k p v).1 ∧ (pAll t L k p v).1 < L)
  | 0, _, _ => Or.inl rfl
  | k + 1, p, v => by
    unfold pAll
    by_cases q : p < L
    · rw [if_pos q]
      cases e : pItem t L p v with
      | none => exact Or.inr ⟨by show (0 : Int) ≤ (p : Int); omega, by show (p : Int) < L; omega⟩
      | some r => exact pAll_r k r.1 r.2
    · rw [if_neg q]; exact Or.inl rfl
theorem ROk_w {h : Hp} {y : Nat} {k : Nat} (hk : k = 6 ∨ k = 7) (q : ROk h.2.2) : ROk (hR h 0 k y).2.2 := by
  have e : ∀ a b, (a ≠ 0 ∨ b ≠ k) → (hR h 0 k y).2.2 a b = h.2.2 a b := fun a b z => by
    show (if a = 0 ∧ b = k then y else h.2.2 a b) = _
    exact if_neg (by omega)
  obtain ⟨q1, q2, q3, q4, q5, q6⟩ := q
  refine ⟨fun n hn => ?_, fun s hs => ?_, ?_, ?_, ?_, ?_⟩
  · simp only [e n _ (Or.inl (by omega))]; exact q1 n hn
  · have a := q2 s hs
    refine ⟨by rw [e s _ (Or.inl (by omega))]; exact a.1, by rw [e s _ (Or.inl (by omega))]; exact a.2.1, by rw [e s _ (Or.inl (by omega))]; exact a.2.2.1, by rw [e s _ (Or.inl (by omega))]; exact a.2.2.2.1, fun i hi => by rw [e (s + 2) _ (Or.inl (by omega))]; exact a.2.2.2.2 i hi⟩
  · exact ⟨by rw [e _ _ (by omega)]; exact q3.1, by rw [e _ _ (by omega)]; exact q3.2.1, by rw [e _ _ (by omega)]; exact q3.2.2.1, by rw [e _ _ (by omega)]; exact q3.2.2.2.1, by rw [e _ _ (by omega)]; exact q3.2.2.2.2.1, by rw [e _ _ (by omega)]; exact q3.2.2.2.2.2⟩
  · exact ⟨by rw [e _ _ (by omega)]; exact q4.1, by rw [e _ _ (by omega)]; exact q4.2.1, by rw [e _ _ (by omega)]; exact q4.2.2.1, fun i hi => by rw [e _ _ (by omega)]; exact q4.2.2.2 i hi⟩
  · exact ⟨by rw [e _ _ (by omega)]; exact q5.1, by rw [e _ _ (by omega)]; exact q5.2⟩
  · exact ⟨by rw [e _ _ (by omega)]; exact q6.1, by rw [e _ _ (by omega)]; exact q6.2.1, by rw [e _ _ (by omega)]; exact q6.2.2.1, by rw [e _ _ (by omega)]; exact q6.2.2.2.1, by rw [e _ _ (by omega)]; exact q6.2.2.2.2⟩
theorem lay_6 {g : Hp} {n d : Nat} : (hI (hR (hR g 0 7 n) 0 6 d) 5 2 0).2.2 0 6 = d := rfl
theorem lay_7 {g : Hp} {n d : Nat} : (hI (hR (hR g 0 7 n) 0 6 d) 5 2 0).2.2 0 7 = n := rfl
theorem lay_w {g : Hp} {s : St} {n d : Nat} {v : Nv} (bk : CInv g s) (hnd : n = 24 ∧ d = 31 ∨ n = 31 ∧ d = 24) (q3 : cV g d = v) (q4 : NOk g d) : CInv (hI (hR (hR g 0 7 n) 0 6 d) 5 2 0) (sT s, sL s, v, 0, sP s) := by
  have e1 : ∀ a b, a ≠ 5 → (hI (hR (hR g 0 7 n) 0 6 d) 5 2 0).1 a b = g.1 a b := fun a b h => hI_ni h
  refine ⟨ROk_w (Or.inl rfl) (ROk_w (Or.inr rfl) bk.1), ⟨d, n, by omega, lay_6, lay_7, sameN.ok (g := g) (fun a ha b => e1 _ _ (by omega)) q4, (sameN.V (g := g) (fun a ha b => e1 _ _ (by omega))).trans q3⟩, ?_, ?_⟩
  · have := bk.2.2.1
    exact ⟨(e1 _ _ (by omega)).trans this.1, this.2.1, fun k hk => by rw [e1 _ _ (by omega)]; exact this.2.2 k hk⟩
  · obtain ⟨i, i1, i2, i3, i4, i5⟩ := bk.2.2.2
    exact ⟨i, i1, (hI_nk (by omega)).trans i2, hI_eq, Nat.zero_le _, fun t ht => absurd ht (Nat.not_lt_zero t)⟩
theorem p_lay {h : Hp} {s : St} (I : CInv h s) : Ev mX7_lay 6 0 (entL [.ref 0] 2) [] h (PA (aLay s)) := by
  show Ev mX7_lay 6 0 [some (.ref 0), none] [] h _
  obtain ⟨hR, ⟨n, d, hnd, hN, hD, ok, hV⟩, hT, hP⟩ := I
  have hn : isNet d := by omega
  have hn2 : isNet n := by omega
  have e1 : ¬ ((rdA s).1 = -4 ∧ vJ (rdA s).2 ≠ 0) → aLay s = (-2, s) := fun q => if_neg q
  have e2 : (rdA s).1 = -4 ∧ vJ (rdA s).2 ≠ 0 → aLay s = ((vJ (rdA s).2 : Int), (sT s, sL s, (rdA s).2, 0, sP s)) := fun q => if_pos q
  have pr := pAll_r (t := sT s) (L := sL s) (sL s + 1) 0 v0
  have L2 : sL s ≤ 200 := hT.2.1
  refine Ev.aload_n dX7_lay_0 (Eq.refl 1) rfl ?_
  refine Ev.getR dX7_lay_1 (Eq.refl 4) fg_X7_19 rfl rfl (rX7_1 hR) ?_
  refine Ev.aload_n dX7_lay_4 (Eq.refl 5) rfl ?_
  refine Ev.getR dX7_lay_5 (Eq.refl 8) fg_X7_58 rfl rfl hD ?_
  refine Ev.aload_n dX7_lay_8 (Eq.refl 9) rfl ?_
  refine Ev.getR dX7_lay_9 (Eq.refl 12) fg_X7_10 rfl rfl (rX7_0 hR) ?_
  refine Ev.cv2I dX7_lay_12 (Eq.refl 15) cw_X7_77 (Nat.le_of_ble_eq_true rfl) (by decide) rfl rfl rfl (Nat.le_of_ble_eq_true rfl) (c_readInto hR (by assumption) hT) (fun x12 g12 hp12 => ?_)
  obtain ⟨hF, hx⟩ := hp12
  obtain ⟨q1, q2⟩ := hx (sL s + 1) (by omega)
  have bk : CInv g12 s := CInv.fr hF hR hnd hN hD ok hV hT hP (fun i z => by unfold inR at z; unfold inQ; rcases z with z | z; omega; exact Or.inr z)
  have xb : -4 ≤ x12 ∧ x12 ≤ 200 := by rw [q1]; omega
  have q1 : x12 = (rdA s).1 := q1
  have hRg := hF.R hR
  have hD : g12.2.2 0 7 = d := by rw [hF.2.2]; exact hD
  have hN : g12.2.2 0 6 = n := by rw [hF.2.2]; exact hN
  refine Ev.bipush dX7_lay_15 (Eq.refl 17) (by decide) ?_
  refine Ev.icmp_ne (tgt := 30) dX7_lay_17 (Eq.refl 20) (by decide) ⟨by omega, by omega⟩ ⟨by omega, by omega⟩ (fun c17 => ?_) (fun c17 => ?_)
  · have q := e1 (fun z => c17 (q1.trans z.1))
    refine Ev.bipush dX7_lay_30 (Eq.refl 32) (by decide) ?_
    exact Ev.iret dX7_lay_32 rfl ((by rw [q]; exact ⟨_, rfl, rfl, bk⟩))
  · obtain ⟨q3, q4⟩ := q2 c17
    have q3 : cV g12 d = (rdA s).2 := q3
    have eJ := cV_J q4
    have bJ := q4.1
    rw [q3] at eJ
    refine Ev.aload_n dX7_lay_20 (Eq.refl 21) rfl ?_
    refine Ev.getR dX7_lay_21 (Eq.refl 24) fg_X7_58 rfl rfl hD ?_
    refine Ev.getI dX7_lay_24 (Eq.refl 27) fg_X7_89 (lyN0 (by assumption)) rfl ?_
    refine Ev.if_ne (tgt := 33) dX7_lay_27 (Eq.refl 30) (by decide) ⟨by omega, by omega⟩ (fun c27 => ?_) (fun c27 => ?_)
    · have q := e2 ⟨q1.symm.trans c17, by omega⟩
      refine Ev.aload_n dX7_lay_33 (Eq.refl 34) rfl ?_
      refine Ev.getR dX7_lay_34 (Eq.refl 37) fg_X7_58 rfl rfl hD ?_
      refine Ev.as1 dX7_lay_37 (Eq.refl 38) (by decide) rfl ?_
      refine Ev.aload_n dX7_lay_38 (Eq.refl 39) rfl ?_
      refine Ev.aload_n dX7_lay_39 (Eq.refl 40) rfl ?_
      refine Ev.getR dX7_lay_40 (Eq.refl 43) fg_X7_54 rfl rfl hN ?_
      refine Ev.putR dX7_lay_43 (Eq.refl 46) fp_X7_58 rfl rfl ⟨_, rfl⟩ ?_
      refine Ev.aload_n dX7_lay_46 (Eq.refl 47) rfl ?_
      refine Ev.aload_n dX7_lay_47 (Eq.refl 48) rfl ?_
      refine Ev.putR dX7_lay_48 (Eq.refl 51) fp_X7_54 rfl rfl ⟨_, rfl⟩ ?_
      refine Ev.aload_n dX7_lay_51 (Eq.refl 52) rfl ?_
      refine Ev.getR dX7_lay_52 (Eq.refl 55) fg_X7_26 rfl rfl (rX7_2 (R := g12.2.2) hRg) ?_
      refine Ev.iconst dX7_lay_55 (Eq.refl 56) ?_
      refine Ev.putI dX7_lay_56 (Eq.refl 59) fp_X7_92 rfl rfl (Or.inl rfl) ?_
      refine Ev.aload_n dX7_lay_59 (Eq.refl 60) rfl ?_
      refine Ev.getR dX7_lay_60 (Eq.refl 63) fg_X7_54 rfl rfl lay_6 ?_
      refine Ev.getI dX7_lay_63 (Eq.refl 66) fg_X7_89 (lyN0 (by assumption)) rfl ?_
      exact Ev.iret dX7_lay_66 rfl ((by rw [q]; exact ⟨_, rfl, by show (hI g12 5 2 0).1 d 0 = _; rw [hI_ni (by omega)]; exact eJ, lay_w bk hnd q3 q4⟩))
    · have q := e1 (fun z => z.2 (by omega))
      refine Ev.bipush dX7_lay_30 (Eq.refl 32) (by decide) ?_
      exact Ev.iret dX7_lay_32 rfl ((by rw [q]; exact ⟨_, rfl, rfl, bk⟩))
