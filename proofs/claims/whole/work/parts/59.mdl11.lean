/-! The model: small questions -/
section MQ
variable {h : Hp}
theorem m_isJoint {j : Int} (hR : MOk h.2.2) (ok : GOk (h.1 2)) (hj : I32 j) : Ev mX8_isJoint 1 0 (entL [.ref 0, iv j] 2) [] h (PE (bi (isJ (gV (h.1 2)) j)) h) := by
  show Ev mX8_isJoint 1 0 [some (.ref 0), some (iv j)] [] h _
  have eJ := gJ ok
  have bJ := ok.1
  have i0 : I32 0 := ⟨by omega, by omega⟩
  have i1 : I32 (h.1 2 0 - 1) := ⟨by omega, by omega⟩
  refine Ev.iload_n dX8_isJoint_0 (Eq.refl 1) rfl ?_
  refine Ev.iconst dX8_isJoint_1 (Eq.refl 2) ?_
  refine Ev.aload_n dX8_isJoint_2 (Eq.refl 3) rfl ?_
  refine Ev.getR dX8_isJoint_3 (Eq.refl 6) fg_X8_13 rfl rfl (rX8_3 hR) ?_
  refine Ev.iconst dX8_isJoint_6 (Eq.refl 7) ?_
  refine Ev.iaload dX8_isJoint_7 (Eq.refl 8) rfl rfl (by omega) (by decide) (show (0 : Int).toNat = 0 from rfl) ?_
  refine Ev.iconst dX8_isJoint_8 (Eq.refl 9) ?_
  refine Ev.isub dX8_isJoint_9 (Eq.refl 10) ?_
  refine Ev.cs3E dX8_isJoint_10 (Eq.refl 13) cw_X8_73 (Nat.le_of_ble_eq_true rfl) (by decide) rfl (Nat.le_of_ble_eq_true rfl) (m_in (by assumption) (by assumption) (by assumption)) ?_
  exact Ev.zret dX8_isJoint_13 rfl (by first | exact bi01 _ | exact Or.inl rfl | exact Or.inr rfl | omega) (PE.of (bi_c ⟨fun z => ⟨z.1, by omega⟩, fun z => ⟨z.1, by have := z.2; omega⟩⟩))
theorem m_isStrand {j : Int} (hR : MOk h.2.2) (ok : GOk (h.1 2)) (hj : I32 j) : Ev mX8_isStrand 1 0 (entL [.ref 0, iv j] 2) [] h (PE (bi (isS (gV (h.1 2)) j)) h) := by
  show Ev mX8_isStrand 1 0 [some (.ref 0), some (iv j)] [] h _
  have eS := gS ok
  have bS := ok.2.1
  have i0 : I32 0 := ⟨by omega, by omega⟩
  have i1 : I32 (h.1 2 1 - 1) := ⟨by omega, by omega⟩
  refine Ev.iload_n dX8_isStrand_0 (Eq.refl 1) rfl ?_
  refine Ev.iconst dX8_isStrand_1 (Eq.refl 2) ?_
  refine Ev.aload_n dX8_isStrand_2 (Eq.refl 3) rfl ?_
  refine Ev.getR dX8_isStrand_3 (Eq.refl 6) fg_X8_13 rfl rfl (rX8_3 hR) ?_
  refine Ev.iconst dX8_isStrand_6 (Eq.refl 7) ?_
  refine Ev.iaload dX8_isStrand_7 (Eq.refl 8) rfl rfl (by omega) (by decide) (show (1 : Int).toNat = 1 from rfl) ?_
  refine Ev.iconst dX8_isStrand_8 (Eq.refl 9) ?_
  refine Ev.isub dX8_isStrand_9 (Eq.refl 10) ?_
  refine Ev.cs3E dX8_isStrand_10 (Eq.refl 13) cw_X8_73 (Nat.le_of_ble_eq_true rfl) (by decide) rfl (Nat.le_of_ble_eq_true rfl) (m_in (by assumption) (by assumption) (by assumption)) ?_
  exact Ev.zret dX8_isStrand_13 rfl (by first | exact bi01 _ | exact Or.inl rfl | exact Or.inr rfl | omega) (PE.of (bi_c ⟨fun z => ⟨z.1, by omega⟩, fun z => ⟨z.1, by have := z.2; omega⟩⟩))
theorem m_isFree {j : Nat} (hR : MOk h.2.2) (ok : GOk (h.1 2)) (hj : j < vJ (gV (h.1 2))) : Ev mX8_isFree 0 0 (entL [.ref 0, iv (j : Int)] 2) [] h (PE (bi (vF (gV (h.1 2)) j = true)) h) := by
  show Ev mX8_isFree 0 0 [some (.ref 0), some (iv (j : Int))] [] h _
  have eJ := gJ ok
  have bJ := ok.1
  have ek := gKind ok hj
  by_cases z : vF (gV (h.1 2)) j = true
  · rw [if_pos z] at ek
    refine Ev.aload_n dX8_isFree_0 (Eq.refl 1) rfl ?_
    refine Ev.getR dX8_isFree_1 (Eq.refl 4) fg_X8_13 rfl rfl (rX8_3 hR) ?_
    refine Ev.iconst dX8_isFree_4 (Eq.refl 5) ?_
    refine Ev.iload_n dX8_isFree_5 (Eq.refl 6) rfl ?_
    refine Ev.iadd dX8_isFree_6 (Eq.refl 7) ?_
    refine Ev.iaload dX8_isFree_7 (Eq.refl 8) rfl rfl (by omega) (by decide) (show ((4 : Int) + (j : Int)).toNat = 4 + j by omega) ?_
    rw [ek]
    refine Ev.iconst dX8_isFree_8 (Eq.refl 9) ?_
    refine Ev.icmp_ne (tgt := 16) dX8_isFree_9 (Eq.refl 12) (by decide) ⟨by omega, by omega⟩ ⟨by omega, by omega⟩ (fun c9 => ?_) (fun c9 => ?_)
    · omega
    · refine Ev.iconst dX8_isFree_12 (Eq.refl 13) ?_
      refine Ev.goto' (pc' := 17) dX8_isFree_13 (by decide) ?_
      exact Ev.zret dX8_isFree_17 rfl (by first | exact bi01 _ | exact Or.inl rfl | exact Or.inr rfl | omega) (PE.of (bi_t z).symm)
  · rw [if_neg z] at ek
    refine Ev.aload_n dX8_isFree_0 (Eq.refl 1) rfl ?_
    refine Ev.getR dX8_isFree_1 (Eq.refl 4) fg_X8_13 rfl rfl (rX8_3 hR) ?_
    refine Ev.iconst dX8_isFree_4 (Eq.refl 5) ?_
    refine Ev.iload_n dX8_isFree_5 (Eq.refl 6) rfl ?_
    refine Ev.iadd dX8_isFree_6 (Eq.refl 7) ?_
    refine Ev.iaload dX8_isFree_7 (Eq.refl 8) rfl rfl (by omega) (by decide) (show ((4 : Int) + (j : Int)).toNat = 4 + j by omega) ?_
    rw [ek]
    refine Ev.iconst dX8_isFree_8 (Eq.refl 9) ?_
    refine Ev.icmp_ne (tgt := 16) dX8_isFree_9 (Eq.refl 12) (by decide) ⟨by omega, by omega⟩ ⟨by omega, by omega⟩ (fun c9 => ?_) (fun c9 => ?_)
    · refine Ev.iconst dX8_isFree_16 (Eq.refl 17) ?_
      exact Ev.zret dX8_isFree_17 rfl (by first | exact bi01 _ | exact Or.inl rfl | exact Or.inr rfl | omega) (PE.of (bi_f z).symm)
    · omega
theorem m_of {k w : Nat} (hR : MOk h.2.2) (hk : k < 14) (hw : w < 5) : Ev mX8_of 0 0 (entL [.ref 0, iv (k : Int), iv (w : Int)] 3) [] h (PE (h.1 2 (54 + 5 * k + w)) h) := by
  show Ev mX8_of 0 0 [some (.ref 0), some (iv (k : Int)), some (iv (w : Int))] [] h _
  refine Ev.aload_n dX8_of_0 (Eq.refl 1) rfl ?_
  refine Ev.getR dX8_of_1 (Eq.refl 4) fg_X8_13 rfl rfl (rX8_3 hR) ?_
  refine Ev.bipush dX8_of_4 (Eq.refl 6) (by decide) ?_
  refine Ev.iconst dX8_of_6 (Eq.refl 7) ?_
  refine Ev.iload_n dX8_of_7 (Eq.refl 8) rfl ?_
  refine Ev.imul dX8_of_8 (Eq.refl 9) ?_
  refine Ev.iadd dX8_of_9 (Eq.refl 10) ?_
  refine Ev.iload_n dX8_of_10 (Eq.refl 11) rfl ?_
  refine Ev.iadd dX8_of_11 (Eq.refl 12) ?_
  refine Ev.iaload dX8_of_12 (Eq.refl 13) rfl rfl (by omega) (by decide) (show ((54 : Int) + 5 * (k : Int) + (w : Int)).toNat = 54 + 5 * k + w by omega) ?_
  exact Ev.iret dX8_of_13 rfl (PE.mk)
theorem m_ofA {k : Nat} (hR : MOk h.2.2) (ok : GOk (h.1 2)) (hk : k < vS (gV (h.1 2))) : Ev mX8_of 0 0 (entL [.ref 0, iv (k : Int), iv 0] 3) [] h (PE (vA (gV (h.1 2)) k : Nat) h) := by
  have eS := gS ok
  have bS := ok.2.1
  have := m_of (h := h) (k := k) (w := 0) hR (by omega) (by omega)
  rw [Nat.add_zero, gA ok (by omega)] at this
  exact this
theorem m_ofB {k : Nat} (hR : MOk h.2.2) (ok : GOk (h.1 2)) (hk : k < vS (gV (h.1 2))) : Ev mX8_of 0 0 (entL [.ref 0, iv (k : Int), iv 1] 3) [] h (PE (vB (gV (h.1 2)) k : Nat) h) := by
  have eS := gS ok
  have bS := ok.2.1
  have := m_of (h := h) (k := k) (w := 1) hR (by omega) (by omega)
  rw [gB ok (by omega)] at this
  exact this
theorem m_ofQ {k : Nat} (hR : MOk h.2.2) (ok : GOk (h.1 2)) (hk : k < vS (gV (h.1 2))) : Ev mX8_of 0 0 (entL [.ref 0, iv (k : Int), iv 2] 3) [] h (PE (vQ (gV (h.1 2)) k) h) := by
  have eS := gS ok
  have bS := ok.2.1
  have := m_of (h := h) (k := k) (w := 2) hR (by omega) (by omega)
  rw [gQ (f := h.1 2) (s := k) (by omega)] at this
  exact this
theorem m_ofW {k : Nat} (hR : MOk h.2.2) (ok : GOk (h.1 2)) (hk : k < vS (gV (h.1 2))) : Ev mX8_of 0 0 (entL [.ref 0, iv (k : Int), iv 3] 3) [] h (PE (vW (gV (h.1 2)) k) h) := by
  have eS := gS ok
  have bS := ok.2.1
  have := m_of (h := h) (k := k) (w := 3) hR (by omega) (by omega)
  rw [gW (f := h.1 2) (s := k) (by omega)] at this
  exact this
theorem m_hangs {k : Nat} (hR : MOk h.2.2) (ok : GOk (h.1 2)) (hk : k < vS (gV (h.1 2))) : Ev mX8_hangs 1 0 (entL [.ref 0, iv (k : Int)] 2) [] h (PE (bi (vH (gV (h.1 2)) k = true)) h) := by
  show Ev mX8_hangs 1 0 [some (.ref 0), some (iv (k : Int))] [] h _
  have eS := gS ok
  have bS := ok.2.1
  have hD := ok.2.2.2.1 k (by omega)
  have hq := gH (f := h.1 2) (s := k) (by omega)
  refine Ev.aload_n dX8_hangs_0 (Eq.refl 1) rfl ?_
  refine Ev.iload_n dX8_hangs_1 (Eq.refl 2) rfl ?_
  refine Ev.iconst dX8_hangs_2 (Eq.refl 3) ?_
  refine Ev.cv2E dX8_hangs_3 (Eq.refl 6) cw_X8_131 (Nat.le_of_ble_eq_true rfl) (by decide) rfl rfl rfl (Nat.le_of_ble_eq_true rfl) (m_of (k := k) (w := 4) hR (by omega) (by omega)) ?_
  refine Ev.if_ne (tgt := 13) dX8_hangs_6 (Eq.refl 9) (by decide) ⟨by omega, by omega⟩ (fun c6 => ?_) (fun c6 => ?_)
  · refine Ev.iconst dX8_hangs_13 (Eq.refl 14) ?_
    exact Ev.zret dX8_hangs_14 rfl (by first | exact bi01 _ | exact Or.inl rfl | exact Or.inr rfl | omega) (PE.of (by first | exact (bi_t (hq.mp c6)).symm | exact (bi_f (fun z => c6 (hq.mpr z))).symm))
  · refine Ev.iconst dX8_hangs_9 (Eq.refl 10) ?_
    refine Ev.goto' (pc' := 14) dX8_hangs_10 (by decide) ?_
    exact Ev.zret dX8_hangs_14 rfl (by first | exact bi01 _ | exact Or.inl rfl | exact Or.inr rfl | omega) (PE.of (by first | exact (bi_t (hq.mp c6)).symm | exact (bi_f (fun z => c6 (hq.mpr z))).symm))
theorem m_isOf {k j : Nat} (hR : MOk h.2.2) (ok : GOk (h.1 2)) (hk : k < vS (gV (h.1 2))) (hj : j < 100) : Ev mX8_isOf 1 0 (entL [.ref 0, iv (k : Int), iv (j : Int)] 3) [] h (PE (bi (vA (gV (h.1 2)) k = j ∨ vB (gV (h.1 2)) k = j)) h) := by
  show Ev mX8_isOf 1 0 [some (.ref 0), some (iv (k : Int)), some (iv (j : Int))] [] h _
  have b := ok.2.2.2.2.2.2.2.1 k hk
  have bJ := ok.1
  have eJ := gJ ok
  refine Ev.aload_n dX8_isOf_0 (Eq.refl 1) rfl ?_
  refine Ev.iload_n dX8_isOf_1 (Eq.refl 2) rfl ?_
  refine Ev.iconst dX8_isOf_2 (Eq.refl 3) ?_
  refine Ev.cv2E dX8_isOf_3 (Eq.refl 6) cw_X8_131 (Nat.le_of_ble_eq_true rfl) (by decide) rfl rfl rfl (Nat.le_of_ble_eq_true rfl) (m_ofA hR ok hk) ?_
  refine Ev.iload_n dX8_isOf_6 (Eq.refl 7) rfl ?_
  refine Ev.icmp_eq (tgt := 20) dX8_isOf_7 (Eq.refl 10) (by decide) ⟨by omega, by omega⟩ ⟨by omega, by omega⟩ (fun c7 => ?_) (fun c7 => ?_)
  · refine Ev.iconst dX8_isOf_20 (Eq.refl 21) ?_
    refine Ev.goto' (pc' := 25) dX8_isOf_21 (by decide) ?_
    exact Ev.zret dX8_isOf_25 rfl (by first | exact bi01 _ | exact Or.inl rfl | exact Or.inr rfl | omega) (PE.of (by first | exact (bi_t (by omega)).symm | exact (bi_f (by omega)).symm))
  · refine Ev.aload_n dX8_isOf_10 (Eq.refl 11) rfl ?_
    refine Ev.iload_n dX8_isOf_11 (Eq.refl 12) rfl ?_
    refine Ev.iconst dX8_isOf_12 (Eq.refl 13) ?_
    refine Ev.cv2E dX8_isOf_13 (Eq.refl 16) cw_X8_131 (Nat.le_of_ble_eq_true rfl) (by decide) rfl rfl rfl (Nat.le_of_ble_eq_true rfl) (m_ofB hR ok hk) ?_
    refine Ev.iload_n dX8_isOf_16 (Eq.refl 17) rfl ?_
    refine Ev.icmp_ne (tgt := 24) dX8_isOf_17 (Eq.refl 20) (by decide) ⟨by omega, by omega⟩ ⟨by omega, by omega⟩ (fun c17 => ?_) (fun c17 => ?_)
    · refine Ev.iconst dX8_isOf_24 (Eq.refl 25) ?_
      exact Ev.zret dX8_isOf_25 rfl (by first | exact bi01 _ | exact Or.inl rfl | exact Or.inr rfl | omega) (PE.of (by first | exact (bi_t (by omega)).symm | exact (bi_f (by omega)).symm))
    · refine Ev.iconst dX8_isOf_20 (Eq.refl 21) ?_
      refine Ev.goto' (pc' := 25) dX8_isOf_21 (by decide) ?_
      exact Ev.zret dX8_isOf_25 rfl (by first | exact bi01 _ | exact Or.inl rfl | exact Or.inr rfl | omega) (PE.of (by first | exact (bi_t (by omega)).symm | exact (bi_f (by omega)).symm))
theorem m_other {k j : Nat} (hR : MOk h.2.2) (ok : GOk (h.1 2)) (hk : k < vS (gV (h.1 2))) (hj : j < 100) : Ev mX8_other 1 0 (entL [.ref 0, iv (k : Int), iv (j : Int)] 3) [] h (PE (oth (gV (h.1 2)) k j : Nat) h) := by
  show Ev mX8_other 1 0 [some (.ref 0), some (iv (k : Int)), some (iv (j : Int))] [] h _
  have b := ok.2.2.2.2.2.2.2.1 k hk
  have bJ := ok.1
  have eJ := gJ ok
  refine Ev.aload_n dX8_other_0 (Eq.refl 1) rfl ?_
  refine Ev.iload_n dX8_other_1 (Eq.refl 2) rfl ?_
  refine Ev.iconst dX8_other_2 (Eq.refl 3) ?_
  refine Ev.cv2E dX8_other_3 (Eq.refl 6) cw_X8_131 (Nat.le_of_ble_eq_true rfl) (by decide) rfl rfl rfl (Nat.le_of_ble_eq_true rfl) (m_ofA hR ok hk) ?_
  refine Ev.iload_n dX8_other_6 (Eq.refl 7) rfl ?_
  refine Ev.icmp_ne (tgt := 19) dX8_other_7 (Eq.refl 10) (by decide) ⟨by omega, by omega⟩ ⟨by omega, by omega⟩ (fun c7 => ?_) (fun c7 => ?_)
  · refine Ev.aload_n dX8_other_19 (Eq.refl 20) rfl ?_
    refine Ev.iload_n dX8_other_20 (Eq.refl 21) rfl ?_
    refine Ev.iconst dX8_other_21 (Eq.refl 22) ?_
    refine Ev.cv2E dX8_other_22 (Eq.refl 25) cw_X8_131 (Nat.le_of_ble_eq_true rfl) (by decide) rfl rfl rfl (Nat.le_of_ble_eq_true rfl) (m_ofA hR ok hk) ?_
    exact Ev.iret dX8_other_25 rfl (PE.of (by unfold oth; first | rw [if_pos (by omega)] | rw [if_neg (by omega)]))
  · refine Ev.aload_n dX8_other_10 (Eq.refl 11) rfl ?_
    refine Ev.iload_n dX8_other_11 (Eq.refl 12) rfl ?_
    refine Ev.iconst dX8_other_12 (Eq.refl 13) ?_
    refine Ev.cv2E dX8_other_13 (Eq.refl 16) cw_X8_131 (Nat.le_of_ble_eq_true rfl) (by decide) rfl rfl rfl (Nat.le_of_ble_eq_true rfl) (m_ofB hR ok hk) ?_
    refine Ev.goto' (pc' := 25) dX8_other_16 (by decide) ?_
    exact Ev.iret dX8_other_25 rfl (PE.of (by unfold oth; first | rw [if_pos (by omega)] | rw [if_neg (by omega)]))
end MQ
