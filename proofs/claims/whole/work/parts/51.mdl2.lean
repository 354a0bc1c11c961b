/-! The model: numbers of an item. -/
theorem m_isFigure {h : Hp} {t : Nat → Int} {L : Nat} {p : Int} (hR : MOk h.2.2) (hT : MT h t L) (hp : 0 ≤ p ∧ p ≤ 1000) : Ev mX8_isFigure 1 0 (entL [.ref 0, iv p] 2) [] h (PE (bi (fig t L p.toNat)) h) := by
  show Ev mX8_isFigure 1 0 [some (.ref 0), some (iv p)] [] h _
  obtain ⟨h1, h2, h3⟩ := hT
  have i1 : I32 48 := ⟨by omega, by omega⟩
  have i2 : I32 57 := ⟨by omega, by omega⟩
  refine Ev.iload_n dX8_isFigure_0 (Eq.refl 1) rfl ?_
  refine Ev.aload_n dX8_isFigure_1 (Eq.refl 2) rfl ?_
  refine Ev.getI dX8_isFigure_2 (Eq.refl 5) fg_X8_77 rfl rfl ?_
  rw [h1]
  refine Ev.icmp_ge (tgt := 28) dX8_isFigure_5 (Eq.refl 8) (by decide) ⟨by omega, by omega⟩ ⟨by omega, by omega⟩ (fun c5 => ?_) (fun c5 => ?_)
  · have e : ¬ fig t L p.toNat := fun z => by have : tA t L p.toNat = 0 := if_neg (by omega); omega
    refine Ev.iconst dX8_isFigure_28 (Eq.refl 29) ?_
    exact Ev.zret dX8_isFigure_29 rfl (by first | exact bi01 _ | exact Or.inl rfl | exact Or.inr rfl | omega) (PE.of (by first | exact (bi_f e).symm | exact (bi_t e).symm))
  · have h4 := h3 p.toNat (by omega)
    have eA : tA t L p.toNat = t p.toNat := if_pos (by omega)
    have i3 : I32 (t p.toNat) := ⟨by omega, by omega⟩
    refine Ev.aload_n dX8_isFigure_8 (Eq.refl 9) rfl ?_
    refine Ev.getR dX8_isFigure_9 (Eq.refl 12) fg_X8_7 rfl rfl (rX8_1 hR) ?_
    refine Ev.iload_n dX8_isFigure_12 (Eq.refl 13) rfl ?_
    refine Ev.baload dX8_isFigure_13 (Eq.refl 14) rfl rfl (by omega) (by decide) (by first | with_reducible exact Int.toNat_natCast _ | exact Eq.refl _) ?_
    rw [h4.1]
    refine Ev.bipush dX8_isFigure_14 (Eq.refl 16) (by decide) ?_
    refine Ev.bipush dX8_isFigure_16 (Eq.refl 18) (by decide) ?_
    refine Ev.cs3E dX8_isFigure_18 (Eq.refl 21) cw_X8_73 (Nat.le_of_ble_eq_true rfl) (by decide) rfl (Nat.le_of_ble_eq_true rfl) (m_in (by assumption) (by assumption) (by assumption)) ?_
    refine Ev.if_eqB (tgt := 28) dX8_isFigure_21 (Eq.refl 24) (by decide) (fun c21 => ?_) (fun c21 => ?_)
    · have e : ¬ fig t L p.toNat := fun z => c21 (by rw [← eA]; exact z)
      refine Ev.iconst dX8_isFigure_28 (Eq.refl 29) ?_
      exact Ev.zret dX8_isFigure_29 rfl (by first | exact bi01 _ | exact Or.inl rfl | exact Or.inr rfl | omega) (PE.of (by first | exact (bi_f e).symm | exact (bi_t e).symm))
    · have e : fig t L p.toNat := by show 48 ≤ tA t L p.toNat ∧ tA t L p.toNat ≤ 57; rw [eA]; exact c21
      refine Ev.iconst dX8_isFigure_24 (Eq.refl 25) ?_
      refine Ev.goto' (pc' := 29) dX8_isFigure_25 (by decide) ?_
      exact Ev.zret dX8_isFigure_29 rfl (by first | exact bi01 _ | exact Or.inl rfl | exact Or.inr rfl | omega) (PE.of (by first | exact (bi_f e).symm | exact (bi_t e).symm))
/-- only 'at' and 'isSo' changed -/
def Mx (h h' : Hp) (p' : Nat) (b' : Int) : Prop := h'.2 = h.2 ∧ (∀ i j, ¬ (i = 0 ∧ (j = 8 ∨ j = 9)) → h'.1 i j = h.1 i j) ∧ h'.1 0 8 = (p' : Int) ∧ h'.1 0 9 = b'
theorem MT.c {h g : Hp} {t : Nat → Int} {L : Nat} (hT : MT h t L) (e2 : g.1 0 2 = h.1 0 2) (e1 : ∀ j, g.1 1 j = h.1 1 j) : MT g t L := ⟨e2.trans hT.1, hT.2.1, fun k hk => by rw [e1]; exact hT.2.2 k hk⟩
theorem Mx.T {h h' : Hp} {p' : Nat} {b' : Int} {t : Nat → Int} {L : Nat} (q : Mx h h' p' b') (hT : MT h t L) : MT h' t L := hT.c (q.2.1 _ _ (by omega)) (fun j => q.2.1 _ _ (by omega))
theorem m_takes {h : Hp} {t : Nat → Int} {L p : Nat} {b c : Int} (hR : MOk h.2.2) (hT : MT h t L) (h8 : h.1 0 8 = (p : Int)) (h9 : h.1 0 9 = b) (hp : p ≤ L) (hc : 1 ≤ c ∧ c ≤ 126) : Ev mX8_takes 0 0 (entL [.ref 0, iv c] 2) [] h (PV (fun h' => Mx h h' (if tA t L p = c then p + 1 else p) (if tA t L p = c then b else 0) ∧ (tA t L p = c → p < L))) := by
  show Ev mX8_takes 0 0 [some (.ref 0), some (iv c)] [] h _
  obtain ⟨h1, h2, h3⟩ := hT
  have no : ∀ e : ¬ tA t L p = c, Mx h (hI h 0 9 0) (if tA t L p = c then p + 1 else p) (if tA t L p = c then b else 0) ∧ (tA t L p = c → p < L) := fun e => by
    rw [if_neg e, if_neg e]
    exact ⟨⟨rfl, fun i j z => by rw [hI_rd, if_neg (by omega)], by rw [hI_nk (by omega)]; exact h8, hI_eq⟩, fun z => absurd z e⟩
  have yes : ∀ e : tA t L p = c, p < L → Mx h (hI h 0 8 ((p : Int) + 1)) (if tA t L p = c then p + 1 else p) (if tA t L p = c then b else 0) ∧ (tA t L p = c → p < L) := fun e l => by
    rw [if_pos e, if_pos e]
    exact ⟨⟨rfl, fun i j z => by rw [hI_rd, if_neg (by omega)], by rw [hI_eq]; push_cast; rfl, by rw [hI_nk (by omega)]; exact h9⟩, fun _ => l⟩
  refine Ev.aload_n dX8_takes_0 (Eq.refl 1) rfl ?_
  refine Ev.getI dX8_takes_1 (Eq.refl 4) fg_X8_80 rfl rfl ?_
  rw [h8]
  refine Ev.aload_n dX8_takes_4 (Eq.refl 5) rfl ?_
  refine Ev.getI dX8_takes_5 (Eq.refl 8) fg_X8_77 rfl rfl ?_
  rw [h1]
  refine Ev.icmp_ge (tgt := 37) dX8_takes_8 (Eq.refl 11) (by decide) ⟨by omega, by omega⟩ ⟨by omega, by omega⟩ (fun c8 => ?_) (fun c8 => ?_)
  · have e : ¬ tA t L p = c := fun z => by have : tA t L p = 0 := if_neg (by omega); omega
    refine Ev.aload_n dX8_takes_37 (Eq.refl 38) rfl ?_
    refine Ev.iconst dX8_takes_38 (Eq.refl 39) ?_
    refine Ev.putI dX8_takes_39 (Eq.refl 42) fp_X8_83 rfl rfl (Or.inr ⟨rfl, by omega⟩) ?_
    exact Ev.vret dX8_takes_42 rfl ((by first | exact ⟨rfl, no e⟩ | exact ⟨rfl, yes e l⟩))
  · have l : p < L := by omega
    have h4 := h3 p l
    have eA : tA t L p = t p := if_pos l
    refine Ev.aload_n dX8_takes_11 (Eq.refl 12) rfl ?_
    refine Ev.getR dX8_takes_12 (Eq.refl 15) fg_X8_7 rfl rfl (rX8_1 hR) ?_
    refine Ev.aload_n dX8_takes_15 (Eq.refl 16) rfl ?_
    refine Ev.getI dX8_takes_16 (Eq.refl 19) fg_X8_80 rfl rfl ?_
    rw [h8]
    refine Ev.baload dX8_takes_19 (Eq.refl 20) rfl rfl (by omega) (by decide) (by first | with_reducible exact Int.toNat_natCast _ | exact Eq.refl _) ?_
    rw [h4.1]
    refine Ev.iload_n dX8_takes_20 (Eq.refl 21) rfl ?_
    refine Ev.icmp_ne (tgt := 37) dX8_takes_21 (Eq.refl 24) (by decide) ⟨by omega, by omega⟩ ⟨by omega, by omega⟩ (fun c21 => ?_) (fun c21 => ?_)
    · have e : ¬ tA t L p = c := by rw [eA]; exact c21
      refine Ev.aload_n dX8_takes_37 (Eq.refl 38) rfl ?_
      refine Ev.iconst dX8_takes_38 (Eq.refl 39) ?_
      refine Ev.putI dX8_takes_39 (Eq.refl 42) fp_X8_83 rfl rfl (Or.inr ⟨rfl, by omega⟩) ?_
      exact Ev.vret dX8_takes_42 rfl ((by first | exact ⟨rfl, no e⟩ | exact ⟨rfl, yes e l⟩))
    · have e : tA t L p = c := by rw [eA]; exact c21
      refine Ev.aload_n dX8_takes_24 (Eq.refl 25) rfl ?_
      refine Ev.dupR dX8_takes_25 (Eq.refl 26) ?_
      refine Ev.getI dX8_takes_26 (Eq.refl 29) fg_X8_80 rfl rfl ?_
      rw [h8]
      refine Ev.iconst dX8_takes_29 (Eq.refl 30) ?_
      refine Ev.iadd dX8_takes_30 (Eq.refl 31) ?_
      refine Ev.putI dX8_takes_31 (Eq.refl 34) fp_X8_80 rfl rfl (Or.inl rfl) ?_
      refine Ev.goto' (pc' := 42) dX8_takes_34 (by decide) ?_
      exact Ev.vret dX8_takes_42 rfl ((by first | exact ⟨rfl, no e⟩ | exact ⟨rfl, yes e l⟩))
theorem m_takesNumber {h : Hp} {t : Nat → Int} {L p : Nat} {b : Int} (hR : MOk h.2.2) (hT : MT h t L) (h8 : h.1 0 8 = (p : Int)) (h9 : h.1 0 9 = b) (hp : p ≤ L) (hb : 0 ≤ b ∧ b ≤ 1) : Ev mX8_takesNumber 2 0 (entL [.ref 0, iv 0, iv 99] 4) [] h (PI (fun y h' => match pNum t L p with
    | none => y = -1 ∧ Mx h h' p 0
    | some q => y = q.1 ∧ Mx h h' q.2 b ∧ p < q.2 ∧ q.2 ≤ L ∧ 0 ≤ q.1 ∧ q.1 ≤ 99)) := by
  show Ev mX8_takesNumber 2 0 [some (.ref 0), some (iv 0), some (iv 99), none] [] h _
  have hT' := hT
  obtain ⟨h1, h2, h3⟩ := hT
  have i0 : I32 0 := ⟨by omega, by omega⟩
  have i9 : I32 99 := ⟨by omega, by omega⟩
  have hT1 : MT (hI h 0 8 ((p : Int) + 1)) t L := hT'.c (hI_nk (by omega)) (fun j => hI_ni (by omega))
  have fl : ∀ q, fig t L q → q < L ∧ tA t L q = t q ∧ h.1 1 q = t q := fun q z => by
    have l : q < L := Nat.lt_of_not_le fun w => by have : tA t L q = 0 := if_neg (by omega); unfold fig at z; omega
    exact ⟨l, if_pos l, (h3 q l).1⟩
  by_cases f0 : fig t L p
  · obtain ⟨l0, a0, r0⟩ := fl p f0
    have f0' : 48 ≤ t p ∧ t p ≤ 57 := by rw [← a0]; exact f0
    by_cases f1 : fig t L (p + 1)
    · obtain ⟨l1, a1, r1⟩ := fl (p + 1) f1
      have f1' : 48 ≤ t (p + 1) ∧ t (p + 1) ≤ 57 := by rw [← a1]; exact f1
      have eN : pNum t L p = some ((tA t L p - 48) * 10 + tA t L (p + 1) - 48, p + 2) := by unfold pNum; rw [if_pos f0, if_pos f1]
      rw [eN]
      have iv1 : I32 (10 * (t p - 48) + t (p + 1) - 48) := ⟨by omega, by omega⟩
      refine Ev.iconst dX8_takesNumber_0 (Eq.refl 1) ?_
      refine Ev.is3 dX8_takesNumber_1 (Eq.refl 2) (by decide) rfl ?_
      refine Ev.aload_n dX8_takesNumber_2 (Eq.refl 3) rfl ?_
      refine Ev.aload_n dX8_takesNumber_3 (Eq.refl 4) rfl ?_
      refine Ev.getI dX8_takesNumber_4 (Eq.refl 7) fg_X8_80 rfl rfl ?_
      rw [h8]
      refine Ev.cv1E dX8_takesNumber_7 (Eq.refl 10) cw_X8_87 (Nat.le_of_ble_eq_true rfl) (by decide) rfl rfl rfl (Nat.le_of_ble_eq_true rfl) (m_isFigure hR hT' (by omega)) ?_
      refine Ev.if_eqB (tgt := 75) dX8_takesNumber_10 (Eq.refl 13) (by decide) (fun c10 => ?_) (fun c10 => ?_)
      · exact absurd f0 (by rw [Int.toNat_natCast] at c10; exact c10)
      · refine Ev.aload_n dX8_takesNumber_13 (Eq.refl 14) rfl ?_
        refine Ev.getR dX8_takesNumber_14 (Eq.refl 17) fg_X8_7 rfl rfl (rX8_1 hR) ?_
        refine Ev.aload_n dX8_takesNumber_17 (Eq.refl 18) rfl ?_
        refine Ev.getI dX8_takesNumber_18 (Eq.refl 21) fg_X8_80 rfl rfl ?_
        rw [h8]
        refine Ev.baload dX8_takesNumber_21 (Eq.refl 22) rfl rfl (by omega) (by decide) (by first | with_reducible exact Int.toNat_natCast _ | exact Eq.refl _) ?_
        rw [r0]
        refine Ev.bipush dX8_takesNumber_22 (Eq.refl 24) (by decide) ?_
        refine Ev.isub dX8_takesNumber_24 (Eq.refl 25) ?_
        refine Ev.is3 dX8_takesNumber_25 (Eq.refl 26) (by decide) rfl ?_
        refine Ev.aload_n dX8_takesNumber_26 (Eq.refl 27) rfl ?_
        refine Ev.dupR dX8_takesNumber_27 (Eq.refl 28) ?_
        refine Ev.getI dX8_takesNumber_28 (Eq.refl 31) fg_X8_80 rfl rfl ?_
        rw [h8]
        refine Ev.iconst dX8_takesNumber_31 (Eq.refl 32) ?_
        refine Ev.iadd dX8_takesNumber_32 (Eq.refl 33) ?_
        refine Ev.putI dX8_takesNumber_33 (Eq.refl 36) fp_X8_80 rfl rfl (Or.inl rfl) ?_
        refine Ev.aload_n dX8_takesNumber_36 (Eq.refl 37) rfl ?_
        refine Ev.aload_n dX8_takesNumber_37 (Eq.refl 38) rfl ?_
        refine Ev.getI dX8_takesNumber_38 (Eq.refl 41) fg_X8_80 rfl rfl ?_
        rw [hI_eq]
        refine Ev.cv1E dX8_takesNumber_41 (Eq.refl 44) cw_X8_87 (Nat.le_of_ble_eq_true rfl) (by decide) rfl rfl rfl (Nat.le_of_ble_eq_true rfl) ((show Ev mX8_isFigure 1 0 (entL [.ref 0, iv ((p : Int) + 1)] 2) [] (hI h 0 8 ((p : Int) + 1)) (PE (bi (fig t L (p + 1))) (hI h 0 8 ((p : Int) + 1))) from by have := m_isFigure (h := hI h 0 8 ((p : Int) + 1)) (p := (p : Int) + 1) hR hT1 (by omega); rw [show ((p : Int) + 1).toNat = p + 1 by omega] at this; exact this)) ?_
        refine Ev.if_eqB (tgt := 75) dX8_takesNumber_44 (Eq.refl 47) (by decide) (fun c44 => ?_) (fun c44 => ?_)
        · exact absurd f1 c44
        · refine Ev.bipush dX8_takesNumber_47 (Eq.refl 49) (by decide) ?_
          refine Ev.iload_n dX8_takesNumber_49 (Eq.refl 50) rfl ?_
          refine Ev.imul dX8_takesNumber_50 (Eq.refl 51) ?_
          refine Ev.aload_n dX8_takesNumber_51 (Eq.refl 52) rfl ?_
          refine Ev.getR dX8_takesNumber_52 (Eq.refl 55) fg_X8_7 rfl rfl (rX8_1 hR) ?_
          refine Ev.aload_n dX8_takesNumber_55 (Eq.refl 56) rfl ?_
          refine Ev.getI dX8_takesNumber_56 (Eq.refl 59) fg_X8_80 rfl rfl ?_
          rw [hI_eq]
          refine Ev.baload dX8_takesNumber_59 (Eq.refl 60) rfl rfl (by omega) (by decide) (show ((p : Int) + 1).toNat = p + 1 by omega) ?_
          rw [hI_ni (by omega), r1]
          refine Ev.iadd dX8_takesNumber_60 (Eq.refl 61) ?_
          refine Ev.bipush dX8_takesNumber_61 (Eq.refl 63) (by decide) ?_
          refine Ev.isub dX8_takesNumber_63 (Eq.refl 64) ?_
          refine Ev.is3 dX8_takesNumber_64 (Eq.refl 65) (by decide) rfl ?_
          refine Ev.aload_n dX8_takesNumber_65 (Eq.refl 66) rfl ?_
          refine Ev.dupR dX8_takesNumber_66 (Eq.refl 67) ?_
          refine Ev.getI dX8_takesNumber_67 (Eq.refl 70) fg_X8_80 rfl rfl ?_
          rw [hI_eq]
          refine Ev.iconst dX8_takesNumber_70 (Eq.refl 71) ?_
          refine Ev.iadd dX8_takesNumber_71 (Eq.refl 72) ?_
          refine Ev.putI dX8_takesNumber_72 (Eq.refl 75) fp_X8_80 rfl rfl (Or.inl rfl) ?_
          refine Ev.aload_n dX8_takesNumber_75 (Eq.refl 76) rfl ?_
          refine Ev.aload_n dX8_takesNumber_76 (Eq.refl 77) rfl ?_
          refine Ev.getI dX8_takesNumber_77 (Eq.refl 80) fg_X8_83 rfl rfl ?_
          rw [hI_nk (by omega), hI_nk (by omega), h9]
          refine Ev.if_eq (tgt := 96) dX8_takesNumber_80 (Eq.refl 83) (by decide) ⟨by omega, by omega⟩ (fun c80 => ?_) (fun c80 => ?_)
          · refine Ev.iconst dX8_takesNumber_96 (Eq.refl 97) ?_
            refine Ev.putI dX8_takesNumber_97 (Eq.refl 100) fp_X8_83 rfl rfl (Or.inr ⟨rfl, by omega⟩) ?_
            refine Ev.iload_n dX8_takesNumber_100 (Eq.refl 101) rfl ?_
            exact Ev.iret dX8_takesNumber_101 rfl (⟨_, rfl, by rw [a0, a1]; omega, ⟨rfl, fun i j z => by rw [hI_rd, if_neg (by omega), hI_rd, if_neg (by omega), hI_rd, if_neg (by omega)], by rw [hI_nk (by omega), hI_eq]; push_cast; omega, by rw [hI_eq]; omega⟩, by simp only []; omega, by simp only []; omega, by rw [a0, a1]; omega, by rw [a0, a1]; omega⟩)
          · refine Ev.iload_n dX8_takesNumber_83 (Eq.refl 84) rfl ?_
            refine Ev.iload_n dX8_takesNumber_84 (Eq.refl 85) rfl ?_
            refine Ev.iload_n dX8_takesNumber_85 (Eq.refl 86) rfl ?_
            refine Ev.cs3E dX8_takesNumber_86 (Eq.refl 89) cw_X8_73 (Nat.le_of_ble_eq_true rfl) (by decide) rfl (Nat.le_of_ble_eq_true rfl) (m_in (by assumption) (by assumption) (by assumption)) ?_
            refine Ev.if_eqB (tgt := 96) dX8_takesNumber_89 (Eq.refl 92) (by decide) (fun c89 => ?_) (fun c89 => ?_)
            · omega
            · refine Ev.iconst dX8_takesNumber_92 (Eq.refl 93) ?_
              refine Ev.goto' (pc' := 97) dX8_takesNumber_93 (by decide) ?_
              refine Ev.putI dX8_takesNumber_97 (Eq.refl 100) fp_X8_83 rfl rfl (Or.inr ⟨rfl, by omega⟩) ?_
              refine Ev.iload_n dX8_takesNumber_100 (Eq.refl 101) rfl ?_
              exact Ev.iret dX8_takesNumber_101 rfl (⟨_, rfl, by rw [a0, a1]; omega, ⟨rfl, fun i j z => by rw [hI_rd, if_neg (by omega), hI_rd, if_neg (by omega), hI_rd, if_neg (by omega)], by rw [hI_nk (by omega), hI_eq]; push_cast; omega, by rw [hI_eq]; omega⟩, by simp only []; omega, by simp only []; omega, by rw [a0, a1]; omega, by rw [a0, a1]; omega⟩)
    · have eN : pNum t L p = some (tA t L p - 48, p + 1) := by unfold pNum; rw [if_pos f0, if_neg f1]
      rw [eN]
      have iv1 : I32 (t p - 48) := ⟨by omega, by omega⟩
      refine Ev.iconst dX8_takesNumber_0 (Eq.refl 1) ?_
      refine Ev.is3 dX8_takesNumber_1 (Eq.refl 2) (by decide) rfl ?_
      refine Ev.aload_n dX8_takesNumber_2 (Eq.refl 3) rfl ?_
      refine Ev.aload_n dX8_takesNumber_3 (Eq.refl 4) rfl ?_
      refine Ev.getI dX8_takesNumber_4 (Eq.refl 7) fg_X8_80 rfl rfl ?_
      rw [h8]
      refine Ev.cv1E dX8_takesNumber_7 (Eq.refl 10) cw_X8_87 (Nat.le_of_ble_eq_true rfl) (by decide) rfl rfl rfl (Nat.le_of_ble_eq_true rfl) (m_isFigure hR hT' (by omega)) ?_
      refine Ev.if_eqB (tgt := 75) dX8_takesNumber_10 (Eq.refl 13) (by decide) (fun c10 => ?_) (fun c10 => ?_)
      · exact absurd f0 (by rw [Int.toNat_natCast] at c10; exact c10)
      · refine Ev.aload_n dX8_takesNumber_13 (Eq.refl 14) rfl ?_
        refine Ev.getR dX8_takesNumber_14 (Eq.refl 17) fg_X8_7 rfl rfl (rX8_1 hR) ?_
        refine Ev.aload_n dX8_takesNumber_17 (Eq.refl 18) rfl ?_
        refine Ev.getI dX8_takesNumber_18 (Eq.refl 21) fg_X8_80 rfl rfl ?_
        rw [h8]
        refine Ev.baload dX8_takesNumber_21 (Eq.refl 22) rfl rfl (by omega) (by decide) (by first | with_reducible exact Int.toNat_natCast _ | exact Eq.refl _) ?_
        rw [r0]
        refine Ev.bipush dX8_takesNumber_22 (Eq.refl 24) (by decide) ?_
        refine Ev.isub dX8_takesNumber_24 (Eq.refl 25) ?_
        refine Ev.is3 dX8_takesNumber_25 (Eq.refl 26) (by decide) rfl ?_
        refine Ev.aload_n dX8_takesNumber_26 (Eq.refl 27) rfl ?_
        refine Ev.dupR dX8_takesNumber_27 (Eq.refl 28) ?_
        refine Ev.getI dX8_takesNumber_28 (Eq.refl 31) fg_X8_80 rfl rfl ?_
        rw [h8]
        refine Ev.iconst dX8_takesNumber_31 (Eq.refl 32) ?_
        refine Ev.iadd dX8_takesNumber_32 (Eq.refl 33) ?_
        refine Ev.putI dX8_takesNumber_33 (Eq.refl 36) fp_X8_80 rfl rfl (Or.inl rfl) ?_
        refine Ev.aload_n dX8_takesNumber_36 (Eq.refl 37) rfl ?_
        refine Ev.aload_n dX8_takesNumber_37 (Eq.refl 38) rfl ?_
        refine Ev.getI dX8_takesNumber_38 (Eq.refl 41) fg_X8_80 rfl rfl ?_
        rw [hI_eq]
        refine Ev.cv1E dX8_takesNumber_41 (Eq.refl 44) cw_X8_87 (Nat.le_of_ble_eq_true rfl) (by decide) rfl rfl rfl (Nat.le_of_ble_eq_true rfl) ((show Ev mX8_isFigure 1 0 (entL [.ref 0, iv ((p : Int) + 1)] 2) [] (hI h 0 8 ((p : Int) + 1)) (PE (bi (fig t L (p + 1))) (hI h 0 8 ((p : Int) + 1))) from by have := m_isFigure (h := hI h 0 8 ((p : Int) + 1)) (p := (p : Int) + 1) hR hT1 (by omega); rw [show ((p : Int) + 1).toNat = p + 1 by omega] at this; exact this)) ?_
        refine Ev.if_eqB (tgt := 75) dX8_takesNumber_44 (Eq.refl 47) (by decide) (fun c44 => ?_) (fun c44 => ?_)
        · refine Ev.aload_n dX8_takesNumber_75 (Eq.refl 76) rfl ?_
          refine Ev.aload_n dX8_takesNumber_76 (Eq.refl 77) rfl ?_
          refine Ev.getI dX8_takesNumber_77 (Eq.refl 80) fg_X8_83 rfl rfl ?_
          rw [hI_nk (by omega), h9]
          refine Ev.if_eq (tgt := 96) dX8_takesNumber_80 (Eq.refl 83) (by decide) ⟨by omega, by omega⟩ (fun c80 => ?_) (fun c80 => ?_)
          · refine Ev.iconst dX8_takesNumber_96 (Eq.refl 97) ?_
            refine Ev.putI dX8_takesNumber_97 (Eq.refl 100) fp_X8_83 rfl rfl (Or.inr ⟨rfl, by omega⟩) ?_
            refine Ev.iload_n dX8_takesNumber_100 (Eq.refl 101) rfl ?_
            exact Ev.iret dX8_takesNumber_101 rfl (⟨_, rfl, by rw [a0], ⟨rfl, fun i j z => by rw [hI_rd, if_neg (by omega), hI_rd, if_neg (by omega)], by rw [hI_nk (by omega), hI_eq]; push_cast; rfl, by rw [hI_eq]; omega⟩, by simp only []; omega, by simp only []; omega, by rw [a0]; omega, by rw [a0]; omega⟩)
          · refine Ev.iload_n dX8_takesNumber_83 (Eq.refl 84) rfl ?_
            refine Ev.iload_n dX8_takesNumber_84 (Eq.refl 85) rfl ?_
            refine Ev.iload_n dX8_takesNumber_85 (Eq.refl 86) rfl ?_
            refine Ev.cs3E dX8_takesNumber_86 (Eq.refl 89) cw_X8_73 (Nat.le_of_ble_eq_true rfl) (by decide) rfl (Nat.le_of_ble_eq_true rfl) (m_in (by assumption) (by assumption) (by assumption)) ?_
            refine Ev.if_eqB (tgt := 96) dX8_takesNumber_89 (Eq.refl 92) (by decide) (fun c89 => ?_) (fun c89 => ?_)
            · omega
            · refine Ev.iconst dX8_takesNumber_92 (Eq.refl 93) ?_
              refine Ev.goto' (pc' := 97) dX8_takesNumber_93 (by decide) ?_
              refine Ev.putI dX8_takesNumber_97 (Eq.refl 100) fp_X8_83 rfl rfl (Or.inr ⟨rfl, by omega⟩) ?_
              refine Ev.iload_n dX8_takesNumber_100 (Eq.refl 101) rfl ?_
              exact Ev.iret dX8_takesNumber_101 rfl (⟨_, rfl, by rw [a0], ⟨rfl, fun i j z => by rw [hI_rd, if_neg (by omega), hI_rd, if_neg (by omega)], by rw [hI_nk (by omega), hI_eq]; push_cast; rfl, by rw [hI_eq]; omega⟩, by simp only []; omega, by simp only []; omega, by rw [a0]; omega, by rw [a0]; omega⟩)
        · exact absurd c44 f1
  · have eN : pNum t L p = none := by unfold pNum; rw [if_neg f0]
    rw [eN]
    have iv1 : I32 (-1) := ⟨by omega, by omega⟩
    refine Ev.iconst dX8_takesNumber_0 (Eq.refl 1) ?_
    refine Ev.is3 dX8_takesNumber_1 (Eq.refl 2) (by decide) rfl ?_
    refine Ev.aload_n dX8_takesNumber_2 (Eq.refl 3) rfl ?_
    refine Ev.aload_n dX8_takesNumber_3 (Eq.refl 4) rfl ?_
    refine Ev.getI dX8_takesNumber_4 (Eq.refl 7) fg_X8_80 rfl rfl ?_
    rw [h8]
    refine Ev.cv1E dX8_takesNumber_7 (Eq.refl 10) cw_X8_87 (Nat.le_of_ble_eq_true rfl) (by decide) rfl rfl rfl (Nat.le_of_ble_eq_true rfl) (m_isFigure hR hT' (by omega)) ?_
    refine Ev.if_eqB (tgt := 75) dX8_takesNumber_10 (Eq.refl 13) (by decide) (fun c10 => ?_) (fun c10 => ?_)
    · refine Ev.aload_n dX8_takesNumber_75 (Eq.refl 76) rfl ?_
      refine Ev.aload_n dX8_takesNumber_76 (Eq.refl 77) rfl ?_
      refine Ev.getI dX8_takesNumber_77 (Eq.refl 80) fg_X8_83 rfl rfl ?_
      rw [h9]
      refine Ev.if_eq (tgt := 96) dX8_takesNumber_80 (Eq.refl 83) (by decide) ⟨by omega, by omega⟩ (fun c80 => ?_) (fun c80 => ?_)
      · refine Ev.iconst dX8_takesNumber_96 (Eq.refl 97) ?_
        refine Ev.putI dX8_takesNumber_97 (Eq.refl 100) fp_X8_83 rfl rfl (Or.inr ⟨rfl, by omega⟩) ?_
        refine Ev.iload_n dX8_takesNumber_100 (Eq.refl 101) rfl ?_
        exact Ev.iret dX8_takesNumber_101 rfl (⟨_, rfl, rfl, ⟨rfl, fun i j z => by rw [hI_rd, if_neg (by omega)], by rw [hI_nk (by omega)]; exact h8, hI_eq⟩⟩)
      · refine Ev.iload_n dX8_takesNumber_83 (Eq.refl 84) rfl ?_
        refine Ev.iload_n dX8_takesNumber_84 (Eq.refl 85) rfl ?_
        refine Ev.iload_n dX8_takesNumber_85 (Eq.refl 86) rfl ?_
        refine Ev.cs3E dX8_takesNumber_86 (Eq.refl 89) cw_X8_73 (Nat.le_of_ble_eq_true rfl) (by decide) rfl (Nat.le_of_ble_eq_true rfl) (m_in (by assumption) (by assumption) (by assumption)) ?_
        refine Ev.if_eqB (tgt := 96) dX8_takesNumber_89 (Eq.refl 92) (by decide) (fun c89 => ?_) (fun c89 => ?_)
        · refine Ev.iconst dX8_takesNumber_96 (Eq.refl 97) ?_
          refine Ev.putI dX8_takesNumber_97 (Eq.refl 100) fp_X8_83 rfl rfl (Or.inr ⟨rfl, by omega⟩) ?_
          refine Ev.iload_n dX8_takesNumber_100 (Eq.refl 101) rfl ?_
          exact Ev.iret dX8_takesNumber_101 rfl (⟨_, rfl, rfl, ⟨rfl, fun i j z => by rw [hI_rd, if_neg (by omega)], by rw [hI_nk (by omega)]; exact h8, hI_eq⟩⟩)
        · omega
    · exact absurd (by rw [Int.toNat_natCast] at c10; exact c10) f0
/-- 'at', 'isSo' and the numbers changed -/
def My (h h' : Hp) (p' : Nat) (b' : Int) : Prop := h'.2 = h.2 ∧ (∀ i j, ¬ (i = 0 ∧ (j = 8 ∨ j = 9)) → i ≠ 6 → h'.1 i j = h.1 i j) ∧ h'.1 0 8 = (p' : Int) ∧ h'.1 0 9 = b'
theorem My.T {h h' : Hp} {p' : Nat} {b' : Int} {t : Nat → Int} {L : Nat} (q : My h h' p' b') (hT : MT h t L) : MT h' t L := hT.c (q.2.1 _ _ (by omega) (by omega)) (fun j => q.2.1 _ _ (by omega) (by omega))
theorem Mx.y {h g f : Hp} {p q : Nat} {b c : Int} (x : Mx h g p b) (y : My g f q c) : My h f q c := ⟨y.1.trans x.1, fun i j z w => (y.2.1 i j z w).trans (x.2.1 i j z), y.2.2⟩
def cont (t : Nat → Int) (L m k p : Nat) : Option (List Int × Nat) := if k = 0 then pNs t L m p else if k < m then (if tA t L p = 44 then pNs t L (m - k) (p + 1) else none) else if tA t L p = 59 then some ([], p + 1) else none
theorem pNs_c {t : Nat → Int} {L m k p : Nat} (hk : k < m) : pNs t L (m - k) p = match pNum t L p with
    | none => none
    | some q => match cont t L m (k + 1) q.2 with
      | none => none
      | some r => some (q.1 :: r.1, r.2) := by
  obtain ⟨n, hn⟩ : ∃ n, m - k = n + 1 := ⟨m - k - 1, by omega⟩
  rw [hn]
  unfold pNs
  cases pNum t L p with
  | none => rfl
  | some q =>
    simp only []
    unfold cont
    rw [if_neg (show ¬ k + 1 = 0 by omega)]
    by_cases e : n = 0
    · rw [if_pos e, if_neg (show ¬ k + 1 < m by omega)]
      by_cases e2 : tA t L q.2 = 59
      · rw [if_pos e2, if_pos e2]
      · rw [if_neg e2, if_neg e2]
    · rw [if_neg e, if_pos (show k + 1 < m by omega), show m - (k + 1) = n by omega]
      by_cases e2 : tA t L q.2 = 44
      · rw [if_pos e2, if_pos e2]; rfl
      · rw [if_neg e2, if_neg e2]
def TN (t : Nat → Int) (L m k p : Nat) (b : Int) (g h' : Hp) : Prop := ∃ p' b', My g h' p' b' ∧ p ≤ p' ∧ p' ≤ L ∧ (b' = 0 ∨ b' = 1) ∧ (b = 0 → b' = 0) ∧ (∀ i, i < k → h'.1 6 i = g.1 6 i) ∧ (b = 1 → match cont t L m k p with
  | none => b' = 0
  | some r => b' = 1 ∧ p' = r.2 ∧ ∀ i, i < m - k → h'.1 6 (k + i) = r.1.getD i 0 ∧ 0 ≤ r.1.getD i 0 ∧ r.1.getD i 0 ≤ 99)
theorem m_takesNumbers {h : Hp} {t : Nat → Int} {L m p : Nat} {b : Int} (hR : MOk h.2.2) (hT : MT h t L) (h8 : h.1 0 8 = (p : Int)) (h9 : h.1 0 9 = b) (hp : p ≤ L) (hb : 0 ≤ b ∧ b ≤ 1) (hm : 1 ≤ m ∧ m ≤ 4) : Ev mX8_takesNumbers 3 0 (entL [.ref 0, iv (m : Int)] 3) [] h (PV (fun h' => TN t L m 0 p b h h')) := by
  show Ev mX8_takesNumbers 3 0 [some (.ref 0), some (iv (m : Int)), none] [] h _
  have STEP : ∀ (k p : Nat) (b : Int) (g : Hp), k < m → MOk g.2.2 → MT g t L → g.1 0 8 = (p : Int) → g.1 0 9 = b → p ≤ L → 0 ≤ b ∧ b ≤ 1 → (∀ (p : Nat) (b : Int) (g : Hp), MOk g.2.2 → MT g t L → g.1 0 8 = (p : Int) → g.1 0 9 = b → p ≤ L → 0 ≤ b ∧ b ≤ 1 → Ev mX8_takesNumbers 3 2 [some (.ref 0), some (iv (m : Int)), some (iv ((k : Int) + 1))] [] g (PV (fun h' => TN t L m (k + 1) p b g h'))) → Ev mX8_takesNumbers 3 17 [some (.ref 0), some (iv (m : Int)), some (iv (k : Int))] [] g (PV (fun h' => ∃ p' b', My g h' p' b' ∧ p ≤ p' ∧ p' ≤ L ∧ (b' = 0 ∨ b' = 1) ∧ (b = 0 → b' = 0) ∧ (∀ i, i < k → h'.1 6 i = g.1 6 i) ∧ (b = 1 → match pNs t L (m - k) p with
      | none => b' = 0
      | some r => b' = 1 ∧ p' = r.2 ∧ ∀ i, i < m - k → h'.1 6 (k + i) = r.1.getD i 0 ∧ 0 ≤ r.1.getD i 0 ∧ r.1.getD i 0 ≤ 99))) := by
    intro k p b g hk hR hT g8 g9 hp hb nx
    have hpc := pNs_c (t := t) (L := L) (m := m) (k := k) (p := p) hk
    refine Ev.aload_n dX8_takesNumbers_17 (Eq.refl 18) rfl ?_
    refine Ev.getR dX8_takesNumbers_18 (Eq.refl 21) fg_X8_26 rfl rfl (rX8_10 hR) ?_
    refine Ev.iload_n dX8_takesNumbers_21 (Eq.refl 22) rfl ?_
    refine Ev.aload_n dX8_takesNumbers_22 (Eq.refl 23) rfl ?_
    refine Ev.iconst dX8_takesNumbers_23 (Eq.refl 24) ?_
    refine Ev.bipush dX8_takesNumbers_24 (Eq.refl 26) (by decide) ?_
    refine Ev.cv2I dX8_takesNumbers_26 (Eq.refl 29) cw_X8_95 (Nat.le_of_ble_eq_true rfl) (by decide) rfl rfl rfl (Nat.le_of_ble_eq_true rfl) (m_takesNumber hR hT g8 g9 hp hb) (fun x26 g26 hp26 => ?_)
    cases hpn : pNum t L p with
    | none =>
      rw [hpn] at hp26 hpc
      obtain ⟨rfl, hx⟩ := hp26
      refine Ev.iastore dX8_takesNumbers_29 (Eq.refl 30) rfl rfl (by omega) (by decide) (by first | with_reducible exact Int.toNat_natCast _ | exact Eq.refl _) ?_
      refine Ev.ii2 dX8_takesNumbers_30 (Eq.refl 33) (by decide) rfl ?_
      refine Ev.goto' (pc' := 2) dX8_takesNumbers_33 (by decide) ?_
      refine Ev.mono (nx p 0 (hI g26 6 k (-1)) (show MOk g26.2.2 by rw [hx.1]; exact hR) ((hx.T hT).c (hI_ni (by omega)) (fun j => hI_ni (by omega))) (by rw [hI_ni (by omega)]; exact hx.2.2.1) (by rw [hI_ni (by omega)]; exact hx.2.2.2) hp (by omega)) ?_
      rintro v h' ⟨rfl, p', b', y1, y2, y3, y4, y5, y6, y7⟩
      refine ⟨rfl, p', b', ⟨y1.1.trans hx.1, fun i j z w => (y1.2.1 i j z w).trans (by rw [hI_ni w]; exact hx.2.1 i j z), y1.2.2⟩, y2, y3, y4, fun _ => y5 rfl, fun i hi => by rw [y6 i (by omega), hI_nk (by omega)]; exact hx.2.1 _ _ (by omega), fun _ => ?_⟩
      rw [hpc]
      exact y5 rfl
    | some q =>
      rw [hpn] at hp26 hpc
      obtain ⟨rfl, hx, q1, q2, q3, q4⟩ := hp26
      refine Ev.iastore dX8_takesNumbers_29 (Eq.refl 30) rfl rfl (by omega) (by decide) (by first | with_reducible exact Int.toNat_natCast _ | exact Eq.refl _) ?_
      refine Ev.ii2 dX8_takesNumbers_30 (Eq.refl 33) (by decide) rfl ?_
      refine Ev.goto' (pc' := 2) dX8_takesNumbers_33 (by decide) ?_
      refine Ev.mono (nx q.2 b (hI g26 6 k q.1) (show MOk g26.2.2 by rw [hx.1]; exact hR) ((hx.T hT).c (hI_ni (by omega)) (fun j => hI_ni (by omega))) (by rw [hI_ni (by omega)]; exact hx.2.2.1) (by rw [hI_ni (by omega)]; exact hx.2.2.2) q2 hb) ?_
      rintro v h' ⟨rfl, p', b', y1, y2, y3, y4, y5, y6, y7⟩
      refine ⟨rfl, p', b', ⟨y1.1.trans hx.1, fun i j z w => (y1.2.1 i j z w).trans (by rw [hI_ni w]; exact hx.2.1 i j z), y1.2.2⟩, by omega, y3, y4, y5, fun i hi => by rw [y6 i (by omega), hI_nk (by omega)]; exact hx.2.1 _ _ (by omega), fun z => ?_⟩
      have y8 := y7 z
      have hpc2 : pNs t L (m - k) p = (match cont t L m (k + 1) q.2 with | none => none | some r => some (q.1 :: r.1, r.2)) := hpc
      cases hc : cont t L m (k + 1) q.2 with
      | none => rw [hc] at y8 hpc2; rw [hpc2]; exact y8
      | some r =>
        rw [hc] at y8 hpc2
        rw [hpc2]
        refine ⟨y8.1, y8.2.1, fun i hi => ?_⟩
        cases i with
        | zero => rw [Nat.add_zero, y6 k (by omega), hI_eq]; exact ⟨rfl, q3, q4⟩
        | succ i => have := y8.2.2 i (by omega); rw [show k + 1 + i = k + (i + 1) by omega] at this; exact this
  have LOOP : ∀ (w k p : Nat) (b : Int) (g : Hp), m - k = w → k ≤ m → MOk g.2.2 → MT g t L → g.1 0 8 = (p : Int) → g.1 0 9 = b → p ≤ L → 0 ≤ b ∧ b ≤ 1 → Ev mX8_takesNumbers 3 2 [some (.ref 0), some (iv (m : Int)), some (iv (k : Int))] [] g (PV (fun h' => TN t L m k p b g h')) := by
    intro w
    induction w with
    | zero =>
      intro k p b g hw hk hR hT g8 g9 hp hb
      have e : k = m := by omega
      subst e
      have ec : cont t L k k p = if tA t L p = 59 then some ([], p + 1) else none := by unfold cont; rw [if_neg (by omega), if_neg (by omega)]
      refine Ev.iload_n dX8_takesNumbers_2 (Eq.refl 3) rfl ?_
      refine Ev.iload_n dX8_takesNumbers_3 (Eq.refl 4) rfl ?_
      refine Ev.icmp_ge (tgt := 36) dX8_takesNumbers_4 (Eq.refl 7) (by decide) ⟨by omega, by omega⟩ ⟨by omega, by omega⟩ (fun c4 => ?_) (fun c4 => ?_)
      · refine Ev.aload_n dX8_takesNumbers_36 (Eq.refl 37) rfl ?_
        refine Ev.bipush dX8_takesNumbers_37 (Eq.refl 39) (by decide) ?_
        refine Ev.cv1V dX8_takesNumbers_39 (Eq.refl 42) cw_X8_91 (Nat.le_of_ble_eq_true rfl) (by decide) rfl rfl rfl (Nat.le_of_ble_eq_true rfl) (m_takes hR hT g8 g9 hp (by omega)) (fun g39 hp39 => ?_)
        obtain ⟨hx, hl⟩ := hp39
        by_cases q : tA t L p = 59
        · rw [if_pos q, if_pos q] at hx
          rw [if_pos q] at ec
          have l := hl q
          exact Ev.vret dX8_takesNumbers_42 rfl ⟨rfl, p + 1, b, ⟨hx.1, fun i j z _ => hx.2.1 i j z, hx.2.2⟩, by omega, by omega, by omega, fun z => z, fun i _ => hx.2.1 _ _ (by omega), fun z => by rw [ec]; exact ⟨z, rfl, fun i hi => by omega⟩⟩
        · rw [if_neg q, if_neg q] at hx
          rw [if_neg q] at ec
          exact Ev.vret dX8_takesNumbers_42 rfl ⟨rfl, p, 0, ⟨hx.1, fun i j z _ => hx.2.1 i j z, hx.2.2⟩, by omega, by omega, by omega, fun _ => rfl, fun i _ => hx.2.1 _ _ (by omega), fun z => by rw [ec]⟩
      · omega
    | succ w ih =>
      intro k p b g hw hk hR hT g8 g9 hp hb
      have hk2 : k < m := by omega
      have st := fun (p : Nat) (b : Int) (g : Hp) (hR : MOk g.2.2) (hT : MT g t L) (g8 : g.1 0 8 = (p : Int)) (g9 : g.1 0 9 = b) (hp : p ≤ L) (hb : 0 ≤ b ∧ b ≤ 1) => STEP k p b g hk2 hR hT g8 g9 hp hb (fun p b g a1 a2 a3 a4 a5 a6 => ih (k + 1) p b g (by omega) (by omega) a1 a2 a3 a4 a5 a6)
      by_cases k0 : k = 0
      · subst k0
        refine Ev.iload_n dX8_takesNumbers_2 (Eq.refl 3) rfl ?_
        refine Ev.iload_n dX8_takesNumbers_3 (Eq.refl 4) rfl ?_
        refine Ev.icmp_ge (tgt := 36) dX8_takesNumbers_4 (Eq.refl 7) (by decide) ⟨by omega, by omega⟩ ⟨by omega, by omega⟩ (fun c4 => ?_) (fun c4 => ?_)
        · omega
        · refine Ev.iload_n dX8_takesNumbers_7 (Eq.refl 8) rfl ?_
          refine Ev.if_le (tgt := 17) dX8_takesNumbers_8 (Eq.refl 11) (by decide) ⟨by omega, by omega⟩ (fun c8 => ?_) (fun c8 => ?_)
          · refine Ev.mono (st p b g hR hT g8 g9 hp hb) ?_
            rintro v h' ⟨rfl, p', b', y1, y2, y3, y4, y5, y6, y7⟩
            exact ⟨rfl, p', b', y1, y2, y3, y4, y5, y6, y7⟩
          · omega
      · have ec : cont t L m k p = if tA t L p = 44 then pNs t L (m - k) (p + 1) else none := by unfold cont; rw [if_neg k0, if_pos hk2]
        refine Ev.iload_n dX8_takesNumbers_2 (Eq.refl 3) rfl ?_
        refine Ev.iload_n dX8_takesNumbers_3 (Eq.refl 4) rfl ?_
        refine Ev.icmp_ge (tgt := 36) dX8_takesNumbers_4 (Eq.refl 7) (by decide) ⟨by omega, by omega⟩ ⟨by omega, by omega⟩ (fun c4 => ?_) (fun c4 => ?_)
        · omega
        · refine Ev.iload_n dX8_takesNumbers_7 (Eq.refl 8) rfl ?_
          refine Ev.if_le (tgt := 17) dX8_takesNumbers_8 (Eq.refl 11) (by decide) ⟨by omega, by omega⟩ (fun c8 => ?_) (fun c8 => ?_)
          · omega
          · refine Ev.aload_n dX8_takesNumbers_11 (Eq.refl 12) rfl ?_
            refine Ev.bipush dX8_takesNumbers_12 (Eq.refl 14) (by decide) ?_
            refine Ev.cv1V dX8_takesNumbers_14 (Eq.refl 17) cw_X8_91 (Nat.le_of_ble_eq_true rfl) (by decide) rfl rfl rfl (Nat.le_of_ble_eq_true rfl) (m_takes hR hT g8 g9 hp (by omega)) (fun g14 hp14 => ?_)
            obtain ⟨hx, hl⟩ := hp14
            have hR1 : MOk g14.2.2 := by rw [hx.1]; exact hR
            have hT1 := hx.T hT
            by_cases q : tA t L p = 44
            · rw [if_pos q, if_pos q] at hx
              have l := hl q
              refine Ev.mono (st (p + 1) b g14 hR1 hT1 hx.2.2.1 hx.2.2.2 (by omega) hb) ?_
              rintro v h' ⟨rfl, p', b', y1, y2, y3, y4, y5, y6, y7⟩
              exact ⟨rfl, p', b', hx.y y1, by omega, y3, y4, y5, fun i hi => (y6 i hi).trans (hx.2.1 _ _ (by omega)), fun z => by rw [ec, if_pos q]; exact y7 z⟩
            · rw [if_neg q, if_neg q] at hx
              refine Ev.mono (st p 0 g14 hR1 hT1 hx.2.2.1 hx.2.2.2 hp (by omega)) ?_
              rintro v h' ⟨rfl, p', b', y1, y2, y3, y4, y5, y6, y7⟩
              exact ⟨rfl, p', b', hx.y y1, y2, y3, y4, fun _ => y5 rfl, fun i hi => (y6 i hi).trans (hx.2.1 _ _ (by omega)), fun z => by rw [ec, if_neg q]; exact y5 rfl⟩
  refine Ev.iconst dX8_takesNumbers_0 (Eq.refl 1) ?_
  refine Ev.is2 dX8_takesNumbers_1 (Eq.refl 2) (by decide) rfl ?_
  exact LOOP _ 0 p b h rfl (by omega) hR hT h8 h9 hp hb
