/-! The class's calls: strand, greatest, rolls, rollOf, count. -/
theorem c_hangSt {h : Hp} {s : St} {k w : Int} (I : CInv h s) (hw : I32 w) (hk : 0 ≤ k ∧ k < (vS (sV s) : Int)) (w5 : 5 ≤ w ∧ w ≤ 8) : Ev mX7_hangingStrand 4 0 (entL [.ref 0, iv k, iv w] 3) [] h (PI (fun x h' => x = cif (aH (sV s) (hgV (sV s))) (hst (sV s) k.toNat w) (-2) ∧ CInv h' s)) := by
  show Ev mX7_hangingStrand 4 0 [some (.ref 0), some (iv k), some (iv w)] [] h _
  have I' := I
  obtain ⟨hR, ⟨n, d, hnd, hN, hD, ok, hV⟩, hT, hP⟩ := I
  have hn : isNet n := by omega
  have h7 : isShp 7 := Or.inl rfl
  have hv := ok.2.2.2.2.2
  rw [hV] at hv
  have hS14 := hv.2.1
  have kk : k = ((k.toNat : Nat) : Int) := by omega
  have hE := hv.2.2.2.1 k.toNat (by omega)
  by_cases ha : aH (cV h n) (hgV (cV h n))
  · have ha2 : aH (sV s) (hgV (sV s)) := by rw [← hV]; exact ha
    rw [cif_t ha2]
    refine Ev.aload_n dX7_hangingStrand_0 (Eq.refl 1) rfl ?_
    refine Ev.getR dX7_hangingStrand_1 (Eq.refl 4) fg_X7_33 rfl rfl (rX7_3 hR) ?_
    refine Ev.aload_n dX7_hangingStrand_4 (Eq.refl 5) rfl ?_
    refine Ev.getR dX7_hangingStrand_5 (Eq.refl 8) fg_X7_54 rfl rfl hN ?_
    refine Ev.cv1I dX7_hangingStrand_8 (Eq.refl 11) cw_X7_144 (Nat.le_of_ble_eq_true rfl) (by decide) (lyS0 (by assumption)) rfl rfl (Nat.le_of_ble_eq_true rfl) (c_find1 hR hn h7 ok ha) (fun x8 g8 hp8 => ?_)
    obtain ⟨rfl, hF2, s2, ok2, hR2, so⟩ := hp8
    have hR := hR2
    have hN : g8.2.2 0 6 = n := by rw [hF2.2.2]; exact hN
    have ev2 := s2.V.trans hV
    have bk := I'.q hF2 inS7
    have hH := ok2.2.2.2.1.1
    have hH2 := ok2.f3
    have hhg := cV_H (s := k.toNat) ok2
    have eSt := cV_S ok2
    have eW := cV_W (h := g8) (n := n) (s := k.toNat) (by rw [ev2] at eSt; omega)
    rw [ev2] at hhg eSt eW
    have kl : k.toNat < vS (cV g8 n) := by rw [ev2]; omega
    refine Ev.if_ne (tgt := 17) dX7_hangingStrand_11 (Eq.refl 14) (by decide) ⟨by omega, by omega⟩ (fun c11 => ?_) (fun c11 => ?_)
    · refine Ev.aload_n dX7_hangingStrand_17 (Eq.refl 18) rfl ?_
      refine Ev.getR dX7_hangingStrand_18 (Eq.refl 21) fg_X7_54 rfl rfl hN ?_
      refine Ev.iload_n dX7_hangingStrand_21 (Eq.refl 22) rfl ?_
      refine Ev.cv1E dX7_hangingStrand_22 (Eq.refl 25) cw_X7_128 (Nat.le_of_ble_eq_true rfl) (by decide) (lyN0 (by assumption)) rfl rfl (Nat.le_of_ble_eq_true rfl) (c_hangs (by assumption) (by omega) (by omega)) ?_
      refine Ev.if_eqB (tgt := 46) dX7_hangingStrand_25 (Eq.refl 28) (by decide) (fun c25 => ?_) (fun c25 => ?_)
      · have e0 : hst (sV s) k.toNat w = -4 := if_pos (Or.inl (by cases z : vH (sV s) k.toNat with | false => rfl | true => exact absurd (hhg.mpr z) c25))
        refine Ev.bipush dX7_hangingStrand_46 (Eq.refl 48) (by decide) ?_
        exact Ev.iret dX7_hangingStrand_48 rfl (⟨_, rfl, e0.symm, bk⟩)
      · have hh : ¬ vH (sV s) k.toNat = false := by rw [hhg.mp c25]; decide
        refine Ev.iload_n dX7_hangingStrand_28 (Eq.refl 29) rfl ?_
        refine Ev.bipush dX7_hangingStrand_29 (Eq.refl 31) (by decide) ?_
        refine Ev.icmp_ne (tgt := 49) dX7_hangingStrand_31 (Eq.refl 34) (by decide) ⟨by omega, by omega⟩ ⟨by omega, by omega⟩ (fun c31 => ?_) (fun c31 => ?_)
        · have n0 : ¬ (vH (sV s) k.toNat = false ∨ (w = 7 ∧ vW (sV s) k.toNat = 0)) := fun z => (by rcases z with z | z; exact hh z; exact c31 z.1)
          refine Ev.iload_n dX7_hangingStrand_49 (Eq.refl 50) rfl ?_
          rcases (by omega : (w < 5 ∨ 7 < w) ∨ w = 5 ∨ w = 6 ∨ w = 7) with c50 | c50 | c50 | c50
          · refine Ev.tabOut (tgt := 112) dX7_hangingStrand_50 ⟨by omega, by omega⟩ (by omega) (by decide) ?_
            refine Ev.aload_n dX7_hangingStrand_112 (Eq.refl 113) rfl ?_
            refine Ev.getR dX7_hangingStrand_113 (Eq.refl 116) fg_X7_54 rfl rfl hN ?_
            refine Ev.iload_n dX7_hangingStrand_116 (Eq.refl 117) rfl ?_
            refine Ev.cv1E dX7_hangingStrand_117 (Eq.refl 120) cw_X7_213 (Nat.le_of_ble_eq_true rfl) (by decide) (lyN0 (by assumption)) rfl rfl (Nat.le_of_ble_eq_true rfl) ((show Ev mX2_isNeeded 1 0 (entL [.ref n, iv k] 2) [] g8 (PE (bi (ndd (sV s) k.toNat)) g8) by rw [← ev2]; have := c_isNeeded (k := k.toNat) hR hn ok2 (by omega); rw [← kk] at this; exact this)) ?_
            refine Ev.if_eqB (tgt := 127) dX7_hangingStrand_120 (Eq.refl 123) (by decide) (fun c120 => ?_) (fun c120 => ?_)
            · refine Ev.iconst dX7_hangingStrand_127 (Eq.refl 128) ?_
              exact Ev.iret dX7_hangingStrand_128 rfl (⟨_, rfl, by unfold hst; rw [if_neg n0, if_neg (by omega), if_neg (by omega), if_neg (by omega)]; first | exact (bi_t c120).symm | exact (bi_f c120).symm, bk⟩)
            · refine Ev.iconst dX7_hangingStrand_123 (Eq.refl 124) ?_
              refine Ev.goto' (pc' := 128) dX7_hangingStrand_124 (by decide) ?_
              exact Ev.iret dX7_hangingStrand_128 rfl (⟨_, rfl, by unfold hst; rw [if_neg n0, if_neg (by omega), if_neg (by omega), if_neg (by omega)]; first | exact (bi_t c120).symm | exact (bi_f c120).symm, bk⟩)
          · refine Ev.tabIn (tgt := 76) (off := 26) dX7_hangingStrand_50 ⟨by omega, by omega⟩ (by omega) (by omega) (by rw [c50] <;> rfl) (by decide) ?_
            refine Ev.aload_n dX7_hangingStrand_76 (Eq.refl 77) rfl ?_
            refine Ev.getR dX7_hangingStrand_77 (Eq.refl 80) fg_X7_33 rfl rfl (rX7_3 hR) ?_
            refine Ev.getR dX7_hangingStrand_80 (Eq.refl 83) fg_X7_148 (lyS0 (by assumption)) rfl (rS3 hR (by assumption)) ?_
            refine Ev.iload_n dX7_hangingStrand_83 (Eq.refl 84) rfl ?_
            refine Ev.iaload dX7_hangingStrand_84 (Eq.refl 85) (lyS4 (by assumption)) rfl (by omega) (by decide) (by first | with_reducible exact Int.toNat_natCast _ | exact Eq.refl _) ?_
            rw [so.2.2.2 k.toNat kl, ev2]
            exact Ev.iret dX7_hangingStrand_85 rfl (⟨_, rfl, by unfold hst; rw [if_neg n0, if_pos c50], bk⟩)
          · refine Ev.tabIn (tgt := 86) (off := 36) dX7_hangingStrand_50 ⟨by omega, by omega⟩ (by omega) (by omega) (by rw [c50] <;> rfl) (by decide) ?_
            refine Ev.aload_n dX7_hangingStrand_86 (Eq.refl 87) rfl ?_
            refine Ev.getR dX7_hangingStrand_87 (Eq.refl 90) fg_X7_33 rfl rfl (rX7_3 hR) ?_
            refine Ev.aload_n dX7_hangingStrand_90 (Eq.refl 91) rfl ?_
            refine Ev.getR dX7_hangingStrand_91 (Eq.refl 94) fg_X7_54 rfl rfl hN ?_
            refine Ev.iload_n dX7_hangingStrand_94 (Eq.refl 95) rfl ?_
            refine Ev.cv2E dX7_hangingStrand_95 (Eq.refl 98) cw_X7_206 (Nat.le_of_ble_eq_true rfl) (by decide) (lyS0 (by assumption)) rfl rfl (Nat.le_of_ble_eq_true rfl) ((show Ev mX4_pull 0 0 (entL [.ref 7, .ref n, iv k] 3) [] g8 (PE (vQ (sV s) k.toNat * len (sV s) k.toNat) g8) by rw [← ev2]; have := c_pull (k := k.toNat) hR hn h7 ok2 so kl; rw [← kk] at this; exact this)) ?_
            exact Ev.iret dX7_hangingStrand_98 rfl (⟨_, rfl, by unfold hst; rw [if_neg n0, if_neg (by omega), if_pos c50], bk⟩)
          · refine Ev.tabIn (tgt := 99) (off := 49) dX7_hangingStrand_50 ⟨by omega, by omega⟩ (by omega) (by omega) (by rw [c50] <;> rfl) (by decide) ?_
            refine Ev.aload_n dX7_hangingStrand_99 (Eq.refl 100) rfl ?_
            refine Ev.getR dX7_hangingStrand_100 (Eq.refl 103) fg_X7_33 rfl rfl (rX7_3 hR) ?_
            refine Ev.aload_n dX7_hangingStrand_103 (Eq.refl 104) rfl ?_
            refine Ev.getR dX7_hangingStrand_104 (Eq.refl 107) fg_X7_54 rfl rfl hN ?_
            refine Ev.iload_n dX7_hangingStrand_107 (Eq.refl 108) rfl ?_
            refine Ev.cv2E dX7_hangingStrand_108 (Eq.refl 111) cw_X7_210 (Nat.le_of_ble_eq_true rfl) (by decide) (lyS0 (by assumption)) rfl rfl (Nat.le_of_ble_eq_true rfl) ((show Ev mX4_off 1 0 (entL [.ref 7, .ref n, iv k] 3) [] g8 (PE (offV (sV s) k.toNat) g8) by rw [← ev2]; have := c_off (k := k.toNat) hR hn h7 ok2 so kl; rw [← kk] at this; exact this)) ?_
            exact Ev.iret dX7_hangingStrand_111 rfl (⟨_, rfl, by unfold hst; rw [if_neg n0, if_neg (by omega), if_neg (by omega), if_pos c50], bk⟩)
        · refine Ev.aload_n dX7_hangingStrand_34 (Eq.refl 35) rfl ?_
          refine Ev.getR dX7_hangingStrand_35 (Eq.refl 38) fg_X7_54 rfl rfl hN ?_
          refine Ev.getR dX7_hangingStrand_38 (Eq.refl 41) fg_X7_107 (lyN0 (by assumption)) rfl (rN11 hR (by assumption)) ?_
          refine Ev.iload_n dX7_hangingStrand_41 (Eq.refl 42) rfl ?_
          refine Ev.iaload dX7_hangingStrand_42 (Eq.refl 43) (lyN6 (by assumption)) rfl (by omega) (by decide) (by first | with_reducible exact Int.toNat_natCast _ | exact Eq.refl _) ?_
          rw [eW]
          refine Ev.if_ne (tgt := 49) dX7_hangingStrand_43 (Eq.refl 46) (by decide) ⟨by omega, by omega⟩ (fun c43 => ?_) (fun c43 => ?_)
          · have n0 : ¬ (vH (sV s) k.toNat = false ∨ (w = 7 ∧ vW (sV s) k.toNat = 0)) := fun z => (by rcases z with z | z; exact hh z; exact c43 z.2)
            refine Ev.iload_n dX7_hangingStrand_49 (Eq.refl 50) rfl ?_
            rcases (by omega : (w < 5 ∨ 7 < w) ∨ w = 5 ∨ w = 6 ∨ w = 7) with c50 | c50 | c50 | c50
            · refine Ev.tabOut (tgt := 112) dX7_hangingStrand_50 ⟨by omega, by omega⟩ (by omega) (by decide) ?_
              refine Ev.aload_n dX7_hangingStrand_112 (Eq.refl 113) rfl ?_
              refine Ev.getR dX7_hangingStrand_113 (Eq.refl 116) fg_X7_54 rfl rfl hN ?_
              refine Ev.iload_n dX7_hangingStrand_116 (Eq.refl 117) rfl ?_
              refine Ev.cv1E dX7_hangingStrand_117 (Eq.refl 120) cw_X7_213 (Nat.le_of_ble_eq_true rfl) (by decide) (lyN0 (by assumption)) rfl rfl (Nat.le_of_ble_eq_true rfl) ((show Ev mX2_isNeeded 1 0 (entL [.ref n, iv k] 2) [] g8 (PE (bi (ndd (sV s) k.toNat)) g8) by rw [← ev2]; have := c_isNeeded (k := k.toNat) hR hn ok2 (by omega); rw [← kk] at this; exact this)) ?_
              refine Ev.if_eqB (tgt := 127) dX7_hangingStrand_120 (Eq.refl 123) (by decide) (fun c120 => ?_) (fun c120 => ?_)
              · refine Ev.iconst dX7_hangingStrand_127 (Eq.refl 128) ?_
                exact Ev.iret dX7_hangingStrand_128 rfl (⟨_, rfl, by unfold hst; rw [if_neg n0, if_neg (by omega), if_neg (by omega), if_neg (by omega)]; first | exact (bi_t c120).symm | exact (bi_f c120).symm, bk⟩)
              · refine Ev.iconst dX7_hangingStrand_123 (Eq.refl 124) ?_
                refine Ev.goto' (pc' := 128) dX7_hangingStrand_124 (by decide) ?_
                exact Ev.iret dX7_hangingStrand_128 rfl (⟨_, rfl, by unfold hst; rw [if_neg n0, if_neg (by omega), if_neg (by omega), if_neg (by omega)]; first | exact (bi_t c120).symm | exact (bi_f c120).symm, bk⟩)
            · refine Ev.tabIn (tgt := 76) (off := 26) dX7_hangingStrand_50 ⟨by omega, by omega⟩ (by omega) (by omega) (by rw [c50] <;> rfl) (by decide) ?_
              refine Ev.aload_n dX7_hangingStrand_76 (Eq.refl 77) rfl ?_
              refine Ev.getR dX7_hangingStrand_77 (Eq.refl 80) fg_X7_33 rfl rfl (rX7_3 hR) ?_
              refine Ev.getR dX7_hangingStrand_80 (Eq.refl 83) fg_X7_148 (lyS0 (by assumption)) rfl (rS3 hR (by assumption)) ?_
              refine Ev.iload_n dX7_hangingStrand_83 (Eq.refl 84) rfl ?_
              refine Ev.iaload dX7_hangingStrand_84 (Eq.refl 85) (lyS4 (by assumption)) rfl (by omega) (by decide) (by first | with_reducible exact Int.toNat_natCast _ | exact Eq.refl _) ?_
              rw [so.2.2.2 k.toNat kl, ev2]
              exact Ev.iret dX7_hangingStrand_85 rfl (⟨_, rfl, by unfold hst; rw [if_neg n0, if_pos c50], bk⟩)
            · refine Ev.tabIn (tgt := 86) (off := 36) dX7_hangingStrand_50 ⟨by omega, by omega⟩ (by omega) (by omega) (by rw [c50] <;> rfl) (by decide) ?_
              refine Ev.aload_n dX7_hangingStrand_86 (Eq.refl 87) rfl ?_
              refine Ev.getR dX7_hangingStrand_87 (Eq.refl 90) fg_X7_33 rfl rfl (rX7_3 hR) ?_
              refine Ev.aload_n dX7_hangingStrand_90 (Eq.refl 91) rfl ?_
              refine Ev.getR dX7_hangingStrand_91 (Eq.refl 94) fg_X7_54 rfl rfl hN ?_
              refine Ev.iload_n dX7_hangingStrand_94 (Eq.refl 95) rfl ?_
              refine Ev.cv2E dX7_hangingStrand_95 (Eq.refl 98) cw_X7_206 (Nat.le_of_ble_eq_true rfl) (by decide) (lyS0 (by assumption)) rfl rfl (Nat.le_of_ble_eq_true rfl) ((show Ev mX4_pull 0 0 (entL [.ref 7, .ref n, iv k] 3) [] g8 (PE (vQ (sV s) k.toNat * len (sV s) k.toNat) g8) by rw [← ev2]; have := c_pull (k := k.toNat) hR hn h7 ok2 so kl; rw [← kk] at this; exact this)) ?_
              exact Ev.iret dX7_hangingStrand_98 rfl (⟨_, rfl, by unfold hst; rw [if_neg n0, if_neg (by omega), if_pos c50], bk⟩)
            · refine Ev.tabIn (tgt := 99) (off := 49) dX7_hangingStrand_50 ⟨by omega, by omega⟩ (by omega) (by omega) (by rw [c50] <;> rfl) (by decide) ?_
              refine Ev.aload_n dX7_hangingStrand_99 (Eq.refl 100) rfl ?_
              refine Ev.getR dX7_hangingStrand_100 (Eq.refl 103) fg_X7_33 rfl rfl (rX7_3 hR) ?_
              refine Ev.aload_n dX7_hangingStrand_103 (Eq.refl 104) rfl ?_
              refine Ev.getR dX7_hangingStrand_104 (Eq.refl 107) fg_X7_54 rfl rfl hN ?_
              refine Ev.iload_n dX7_hangingStrand_107 (Eq.refl 108) rfl ?_
              refine Ev.cv2E dX7_hangingStrand_108 (Eq.refl 111) cw_X7_210 (Nat.le_of_ble_eq_true rfl) (by decide) (lyS0 (by assumption)) rfl rfl (Nat.le_of_ble_eq_true rfl) ((show Ev mX4_off 1 0 (entL [.ref 7, .ref n, iv k] 3) [] g8 (PE (offV (sV s) k.toNat) g8) by rw [← ev2]; have := c_off (k := k.toNat) hR hn h7 ok2 so kl; rw [← kk] at this; exact this)) ?_
              exact Ev.iret dX7_hangingStrand_111 rfl (⟨_, rfl, by unfold hst; rw [if_neg n0, if_neg (by omega), if_neg (by omega), if_pos c50], bk⟩)
          · have e0 : hst (sV s) k.toNat w = -4 := if_pos (Or.inr ⟨by omega, c43⟩)
            refine Ev.bipush dX7_hangingStrand_46 (Eq.refl 48) (by decide) ?_
            exact Ev.iret dX7_hangingStrand_48 rfl (⟨_, rfl, e0.symm, bk⟩)
    · omega
  · rw [cif_f (by rw [← hV]; exact ha)]
    refine Ev.aload_n dX7_hangingStrand_0 (Eq.refl 1) rfl ?_
    refine Ev.getR dX7_hangingStrand_1 (Eq.refl 4) fg_X7_33 rfl rfl (rX7_3 hR) ?_
    refine Ev.aload_n dX7_hangingStrand_4 (Eq.refl 5) rfl ?_
    refine Ev.getR dX7_hangingStrand_5 (Eq.refl 8) fg_X7_54 rfl rfl hN ?_
    refine Ev.cv1I dX7_hangingStrand_8 (Eq.refl 11) cw_X7_144 (Nat.le_of_ble_eq_true rfl) (by decide) (lyS0 (by assumption)) rfl rfl (Nat.le_of_ble_eq_true rfl) (c_find0 hR hn h7 ok ha) (fun x8 g8 hp8 => ?_)
    obtain ⟨rfl, rfl⟩ := hp8
    refine Ev.if_ne (tgt := 17) dX7_hangingStrand_11 (Eq.refl 14) (by decide) ⟨by omega, by omega⟩ (fun c11 => ?_) (fun c11 => ?_)
    · omega
    · refine Ev.bipush dX7_hangingStrand_14 (Eq.refl 16) (by decide) ?_
      exact Ev.iret dX7_hangingStrand_16 rfl (⟨_, rfl, rfl, I'⟩)
theorem p_strand {h : Hp} {s : St} {k w : Int} (I : CInv h s) (hk : I32 k) (hw : I32 w) : Ev mX7_strand 5 0 (entL [.ref 0, iv k, iv w] 3) [] h (PA (aStrand s k w)) := by
  show Ev mX7_strand 5 0 [some (.ref 0), some (iv k), some (iv w)] [] h _
  have I' := I
  obtain ⟨hR, ⟨n, d, hnd, hN, hD, ok, hV⟩, hT, hP⟩ := I
  have hn : isNet n := by omega
  have bS := ok.2.2.1
  have eSt := cV_S ok
  have hH := ok.2.2.2.1.1
  have hH2 := ok.f3
  have hhg := cV_H (s := k.toNat) ok
  rw [hV] at eSt hhg
  have i0 : I32 0 := ⟨by omega, by omega⟩
  have i8 : I32 8 := ⟨by omega, by omega⟩
  refine Ev.aload_n dX7_strand_0 (Eq.refl 1) rfl ?_
  refine Ev.getR dX7_strand_1 (Eq.refl 4) fg_X7_54 rfl rfl hN ?_
  refine Ev.iload_n dX7_strand_4 (Eq.refl 5) rfl ?_
  refine Ev.cv1E dX7_strand_5 (Eq.refl 8) cw_X7_95 (Nat.le_of_ble_eq_true rfl) (by decide) (lyN0 (by assumption)) rfl rfl (Nat.le_of_ble_eq_true rfl) (c_hasStrand (by assumption) (by assumption) (by omega)) ?_
  refine Ev.if_eqB (tgt := 21) dX7_strand_8 (Eq.refl 11) (by decide) (fun c8 => ?_) (fun c8 => ?_)
  · have e : aStrand s k w = (-1, s) := Prod.ext (if_neg (fun z => c8 ⟨z.1.1, by have := z.1.2; omega⟩)) rfl
    refine Ev.iconst dX7_strand_21 (Eq.refl 22) ?_
    exact Ev.iret dX7_strand_22 rfl ((by rw [e]; exact ⟨_, rfl, rfl, I'⟩))
  · refine Ev.iload_n dX7_strand_11 (Eq.refl 12) rfl ?_
    refine Ev.iconst dX7_strand_12 (Eq.refl 13) ?_
    refine Ev.bipush dX7_strand_13 (Eq.refl 15) (by decide) ?_
    refine Ev.cs3E dX7_strand_15 (Eq.refl 18) cw_X7_85 (Nat.le_of_ble_eq_true rfl) (by decide) rfl (Nat.le_of_ble_eq_true rfl) (c_isWithin (by assumption) (by assumption) (by assumption)) ?_
    refine Ev.if_neB (tgt := 23) dX7_strand_18 (Eq.refl 21) (by decide) (fun c18 => ?_) (fun c18 => ?_)
    · have e : aStrand s k w = (strd (sV s) k.toNat w, s) := Prod.ext (if_pos ⟨⟨c8.1, by omega⟩, c18⟩) rfl
      have kS : ((k.toNat : Nat) : Int) < h.1 n 2 := by omega
      have eA := cV_A ok kS
      have eB := cV_B ok kS
      have eQ := cV_Q kS
      have eW := cV_W kS
      rw [hV] at eA eB eQ eW
      refine Ev.iload_n dX7_strand_23 (Eq.refl 24) rfl ?_
      refine Ev.iconst dX7_strand_24 (Eq.refl 25) ?_
      refine Ev.icmp_lt (tgt := 35) dX7_strand_25 (Eq.refl 28) (by decide) ⟨by omega, by omega⟩ ⟨by omega, by omega⟩ (fun c25 => ?_) (fun c25 => ?_)
      · refine Ev.iload_n dX7_strand_35 (Eq.refl 36) rfl ?_
        rcases (by omega : (w < 0 ∨ 3 < w) ∨ w = 0 ∨ w = 1 ∨ w = 2 ∨ w = 3) with c36 | c36 | c36 | c36 | c36
        · refine Ev.tabOut (tgt := 108) dX7_strand_36 ⟨by omega, by omega⟩ (by omega) (by decide) ?_
          refine Ev.aload_n dX7_strand_108 (Eq.refl 109) rfl ?_
          refine Ev.getR dX7_strand_109 (Eq.refl 112) fg_X7_54 rfl rfl hN ?_
          refine Ev.iload_n dX7_strand_112 (Eq.refl 113) rfl ?_
          refine Ev.cv1E dX7_strand_113 (Eq.refl 116) cw_X7_128 (Nat.le_of_ble_eq_true rfl) (by decide) (lyN0 (by assumption)) rfl rfl (Nat.le_of_ble_eq_true rfl) (c_hangs (by assumption) (by omega) (by omega)) ?_
          refine Ev.if_eqB (tgt := 123) dX7_strand_116 (Eq.refl 119) (by decide) (fun c116 => ?_) (fun c116 => ?_)
          · refine Ev.iconst dX7_strand_123 (Eq.refl 124) ?_
            exact Ev.iret dX7_strand_124 rfl ((by rw [e]; refine ⟨_, rfl, ?_, I'⟩; unfold strd; rw [if_neg (by omega), if_neg (by omega), if_neg (by omega), if_neg (by omega), if_pos (by omega)]; first | (rw [if_pos (hhg.mp c116)]; done) | (rw [if_neg (fun z => c116 (hhg.mpr z))]; done)))
          · refine Ev.iconst dX7_strand_119 (Eq.refl 120) ?_
            refine Ev.goto' (pc' := 124) dX7_strand_120 (by decide) ?_
            exact Ev.iret dX7_strand_124 rfl ((by rw [e]; refine ⟨_, rfl, ?_, I'⟩; unfold strd; rw [if_neg (by omega), if_neg (by omega), if_neg (by omega), if_neg (by omega), if_pos (by omega)]; first | (rw [if_pos (hhg.mp c116)]; done) | (rw [if_neg (fun z => c116 (hhg.mpr z))]; done)))
        · refine Ev.tabIn (tgt := 68) (off := 32) dX7_strand_36 ⟨by omega, by omega⟩ (by omega) (by omega) (by rw [c36] <;> rfl) (by decide) ?_
          refine Ev.aload_n dX7_strand_68 (Eq.refl 69) rfl ?_
          refine Ev.getR dX7_strand_69 (Eq.refl 72) fg_X7_54 rfl rfl hN ?_
          refine Ev.getR dX7_strand_72 (Eq.refl 75) fg_X7_200 (lyN0 (by assumption)) rfl (rN8 hR (by assumption)) ?_
          refine Ev.iload_n dX7_strand_75 (Eq.refl 76) rfl ?_
          refine Ev.iaload dX7_strand_76 (Eq.refl 77) (lyN3 (by assumption)) rfl (by omega) (by decide) (by first | with_reducible exact Int.toNat_natCast _ | exact Eq.refl _) ?_
          rw [eA]
          exact Ev.iret dX7_strand_77 rfl ((by rw [e]; exact ⟨_, rfl, by unfold strd; rw [if_pos c36], I'⟩))
        · refine Ev.tabIn (tgt := 78) (off := 42) dX7_strand_36 ⟨by omega, by omega⟩ (by omega) (by omega) (by rw [c36] <;> rfl) (by decide) ?_
          refine Ev.aload_n dX7_strand_78 (Eq.refl 79) rfl ?_
          refine Ev.getR dX7_strand_79 (Eq.refl 82) fg_X7_54 rfl rfl hN ?_
          refine Ev.getR dX7_strand_82 (Eq.refl 85) fg_X7_203 (lyN0 (by assumption)) rfl (rN9 hR (by assumption)) ?_
          refine Ev.iload_n dX7_strand_85 (Eq.refl 86) rfl ?_
          refine Ev.iaload dX7_strand_86 (Eq.refl 87) (lyN4 (by assumption)) rfl (by omega) (by decide) (by first | with_reducible exact Int.toNat_natCast _ | exact Eq.refl _) ?_
          rw [eB]
          exact Ev.iret dX7_strand_87 rfl ((by rw [e]; exact ⟨_, rfl, by unfold strd; rw [if_neg (by omega), if_pos c36], I'⟩))
        · refine Ev.tabIn (tgt := 88) (off := 52) dX7_strand_36 ⟨by omega, by omega⟩ (by omega) (by omega) (by rw [c36] <;> rfl) (by decide) ?_
          refine Ev.aload_n dX7_strand_88 (Eq.refl 89) rfl ?_
          refine Ev.getR dX7_strand_89 (Eq.refl 92) fg_X7_54 rfl rfl hN ?_
          refine Ev.getR dX7_strand_92 (Eq.refl 95) fg_X7_99 (lyN0 (by assumption)) rfl (rN10 hR (by assumption)) ?_
          refine Ev.iload_n dX7_strand_95 (Eq.refl 96) rfl ?_
          refine Ev.iaload dX7_strand_96 (Eq.refl 97) (lyN5 (by assumption)) rfl (by omega) (by decide) (by first | with_reducible exact Int.toNat_natCast _ | exact Eq.refl _) ?_
          rw [eQ]
          exact Ev.iret dX7_strand_97 rfl ((by rw [e]; exact ⟨_, rfl, by unfold strd; rw [if_neg (by omega), if_neg (by omega), if_pos c36], I'⟩))
        · refine Ev.tabIn (tgt := 98) (off := 62) dX7_strand_36 ⟨by omega, by omega⟩ (by omega) (by omega) (by rw [c36] <;> rfl) (by decide) ?_
          refine Ev.aload_n dX7_strand_98 (Eq.refl 99) rfl ?_
          refine Ev.getR dX7_strand_99 (Eq.refl 102) fg_X7_54 rfl rfl hN ?_
          refine Ev.getR dX7_strand_102 (Eq.refl 105) fg_X7_107 (lyN0 (by assumption)) rfl (rN11 hR (by assumption)) ?_
          refine Ev.iload_n dX7_strand_105 (Eq.refl 106) rfl ?_
          refine Ev.iaload dX7_strand_106 (Eq.refl 107) (lyN6 (by assumption)) rfl (by omega) (by decide) (by first | with_reducible exact Int.toNat_natCast _ | exact Eq.refl _) ?_
          rw [eW]
          exact Ev.iret dX7_strand_107 rfl ((by rw [e]; exact ⟨_, rfl, by unfold strd; rw [if_neg (by omega), if_neg (by omega), if_neg (by omega), if_pos c36], I'⟩))
      · refine Ev.aload_n dX7_strand_28 (Eq.refl 29) rfl ?_
        refine Ev.iload_n dX7_strand_29 (Eq.refl 30) rfl ?_
        refine Ev.iload_n dX7_strand_30 (Eq.refl 31) rfl ?_
        refine Ev.cv2I dX7_strand_31 (Eq.refl 34) cw_X7_196 (Nat.le_of_ble_eq_true rfl) (by decide) rfl rfl rfl (Nat.le_of_ble_eq_true rfl) (c_hangSt I' (by assumption) (by omega) (by omega)) (fun x31 g31 hp31 => ?_)
        obtain ⟨hx, bk⟩ := hp31
        exact Ev.iret dX7_strand_34 rfl ((by rw [e]; exact ⟨_, rfl, by rw [hx]; unfold strd; rw [if_neg (by omega), if_neg (by omega), if_neg (by omega), if_neg (by omega), if_neg (by omega)], bk⟩))
    · have e : aStrand s k w = (-1, s) := Prod.ext (if_neg (fun z => c18 z.2)) rfl
      refine Ev.iconst dX7_strand_21 (Eq.refl 22) ?_
      exact Ev.iret dX7_strand_22 rfl ((by rw [e]; exact ⟨_, rfl, rfl, I'⟩))
theorem p_greatest {h : Hp} {s : St} {w : Int} (I : CInv h s) (hw : I32 w) : Ev mX7_greatest 4 0 (entL [.ref 0, iv w] 6) [] h (PA (aGreatest s w)) := by
  show Ev mX7_greatest 4 0 [some (.ref 0), some (iv w), none, none, none, none] [] h _
  have I' := I
  obtain ⟨hR, ⟨n, d, hnd, hN, hD, ok, hV⟩, hT, hP⟩ := I
  have hn : isNet n := by omega
  have h7 : isShp 7 := Or.inl rfl
  have hv := ok.2.2.2.2.2
  rw [hV] at hv
  have hS14 := hv.2.1
  have i0 : I32 0 := ⟨by omega, by omega⟩
  have i1 : I32 1 := ⟨by omega, by omega⟩
  by_cases ha : aH (cV h n) (hgV (cV h n))
  · have ha2 : aH (sV s) (hgV (sV s)) := by rw [← hV]; exact ha
    have gb : ∀ k, k < vS (sV s) → 0 ≤ gsz (sV s) w k ∧ gsz (sV s) w k ≤ 450000 := fun k hk => by
      have a := len_b hv ha2 hk
      have b := hv.2.2.2.1 k hk
      have c := Int.mul_nonneg (show 0 ≤ vQ (sV s) k by omega) a.1
      have c2 : vQ (sV s) k * len (sV s) k ≤ 5 * 90000 := Int.mul_le_mul (by omega) (by omega) a.1 (by omega)
      unfold gsz; split <;> omega
    have mb : ∀ k, k ≤ vS (sV s) → -1 ≤ (grt (sV s) w k).2 ∧ (grt (sV s) w k).2 ≤ 450000 := by
      intro k
      induction k with
      | zero => intro _; show -1 ≤ (-1 : Int) ∧ (-1 : Int) ≤ 450000; omega
      | succ k ih =>
        intro hk
        have a := ih (by omega)
        have b := gb k (by omega)
        show -1 ≤ (if vH (sV s) k = true ∧ (grt (sV s) w k).2 < gsz (sV s) w k then ((k : Int), gsz (sV s) w k) else grt (sV s) w k).2 ∧ (if vH (sV s) k = true ∧ (grt (sV s) w k).2 < gsz (sV s) w k then ((k : Int), gsz (sV s) w k) else grt (sV s) w k).2 ≤ 450000
        split
        · show -1 ≤ gsz (sV s) w k ∧ gsz (sV s) w k ≤ 450000; omega
        · exact a
    have LOOP : 0 ≤ w ∧ w ≤ 1 → ∀ g, Fr (inS 7) h g → sameN g h n → NOk g n → ROk g.2.2 → ShOk g 7 (cV g n) → ∀ (m k : Nat) (x : Option Value), vS (sV s) - k = m → k ≤ vS (sV s) → Ev mX7_greatest 4 36 [some (.ref 0), some (iv w), some (iv (grt (sV s) w k).1), some (iv (grt (sV s) w k).2), some (iv (k : Int)), x] [] g (PA ((grt (sV s) w (vS (sV s))).1, s)) := by
      intro hw1 g hF2 s2 ok2 hR so m
      have hNg : g.2.2 0 6 = n := by rw [hF2.2.2]; exact hN
      have ev2 := s2.V.trans hV
      have hH := ok2.2.2.2.1.1
      have hH2 := ok2.f3
      have eSt := cV_S ok2
      rw [ev2] at eSt
      induction m using Nat.strongRecOn with
      | ind m ih =>
        intro k x hm hk
        have mk := mb k hk
        have hhg := cV_H (s := k) ok2
        rw [ev2] at hhg
        by_cases hk2 : k < vS (sV s)
        · have gk := gb k hk2
          have kl : k < vS (cV g n) := by rw [ev2]; exact hk2
          have nx0 : ¬ (vH (sV s) k = true ∧ (grt (sV s) w k).2 < gsz (sV s) w k) → grt (sV s) w (k + 1) = grt (sV s) w k := fun z => if_neg z
          have nx1 : (vH (sV s) k = true ∧ (grt (sV s) w k).2 < gsz (sV s) w k) → grt (sV s) w (k + 1) = ((k : Int), gsz (sV s) w k) := fun z => if_pos z
          by_cases w0 : w = 0
          · have eg : gsz (sV s) w k = len (sV s) k := if_pos w0
            refine Ev.iload dX7_greatest_36 (Eq.refl 38) rfl ?_
            refine Ev.aload_n dX7_greatest_38 (Eq.refl 39) rfl ?_
            refine Ev.getR dX7_greatest_39 (Eq.refl 42) fg_X7_54 rfl rfl hNg ?_
            refine Ev.getI dX7_greatest_42 (Eq.refl 45) fg_X7_234 (lyN0 (by assumption)) rfl ?_
            rw [eSt]
            refine Ev.icmp_ge (tgt := 110) dX7_greatest_45 (Eq.refl 48) (by decide) ⟨by omega, by omega⟩ ⟨by omega, by omega⟩ (fun c45 => ?_) (fun c45 => ?_)
            · omega
            · refine Ev.iload_n dX7_greatest_48 (Eq.refl 49) rfl ?_
              refine Ev.if_ne (tgt := 65) dX7_greatest_49 (Eq.refl 52) (by decide) ⟨by omega, by omega⟩ (fun c49 => ?_) (fun c49 => ?_)
              · omega
              · refine Ev.aload_n dX7_greatest_52 (Eq.refl 53) rfl ?_
                refine Ev.getR dX7_greatest_53 (Eq.refl 56) fg_X7_33 rfl rfl (rX7_3 hR) ?_
                refine Ev.getR dX7_greatest_56 (Eq.refl 59) fg_X7_148 (lyS0 (by assumption)) rfl (rS3 hR (by assumption)) ?_
                refine Ev.iload dX7_greatest_59 (Eq.refl 61) rfl ?_
                refine Ev.iaload dX7_greatest_61 (Eq.refl 62) (lyS4 (by assumption)) rfl (by omega) (by decide) (by first | with_reducible exact Int.toNat_natCast _ | exact Eq.refl _) ?_
                rw [so.2.2.2 k kl, ev2, ← eg]
                refine Ev.goto' (pc' := 78) dX7_greatest_62 (by decide) ?_
                refine Ev.is5 dX7_greatest_78 (Eq.refl 80) (by decide) rfl ?_
                refine Ev.aload_n dX7_greatest_80 (Eq.refl 81) rfl ?_
                refine Ev.getR dX7_greatest_81 (Eq.refl 84) fg_X7_54 rfl rfl hNg ?_
                refine Ev.iload dX7_greatest_84 (Eq.refl 86) rfl ?_
                refine Ev.cv1E dX7_greatest_86 (Eq.refl 89) cw_X7_128 (Nat.le_of_ble_eq_true rfl) (by decide) (lyN0 (by assumption)) rfl rfl (Nat.le_of_ble_eq_true rfl) (c_hangs (by assumption) (by omega) (by omega)) ?_
                rw [Int.toNat_natCast]
                refine Ev.if_eqB (tgt := 104) dX7_greatest_89 (Eq.refl 92) (by decide) (fun c89 => ?_) (fun c89 => ?_)
                · have en := nx0 (fun z => c89 (hhg.mpr z.1))
                  refine Ev.ii4 dX7_greatest_104 (Eq.refl 107) (by decide) rfl ?_
                  refine Ev.goto' (pc' := 36) dX7_greatest_107 (by decide) ?_
                  have L := ih _ (by omega) (k + 1) (some (iv (gsz (sV s) w k))) rfl (by omega)
                  rw [en] at L
                  exact L
                · refine Ev.iload dX7_greatest_92 (Eq.refl 94) rfl ?_
                  refine Ev.iload_n dX7_greatest_94 (Eq.refl 95) rfl ?_
                  refine Ev.icmp_le (tgt := 104) dX7_greatest_95 (Eq.refl 98) (by decide) ⟨by omega, by omega⟩ ⟨by omega, by omega⟩ (fun c95 => ?_) (fun c95 => ?_)
                  · have en := nx0 (fun z => by have := z.2; omega)
                    refine Ev.ii4 dX7_greatest_104 (Eq.refl 107) (by decide) rfl ?_
                    refine Ev.goto' (pc' := 36) dX7_greatest_107 (by decide) ?_
                    have L := ih _ (by omega) (k + 1) (some (iv (gsz (sV s) w k))) rfl (by omega)
                    rw [en] at L
                    exact L
                  · have en := nx1 ⟨hhg.mp c89, by omega⟩
                    refine Ev.iload dX7_greatest_98 (Eq.refl 100) rfl ?_
                    refine Ev.is2 dX7_greatest_100 (Eq.refl 101) (by decide) rfl ?_
                    refine Ev.iload dX7_greatest_101 (Eq.refl 103) rfl ?_
                    refine Ev.is3 dX7_greatest_103 (Eq.refl 104) (by decide) rfl ?_
                    refine Ev.ii4 dX7_greatest_104 (Eq.refl 107) (by decide) rfl ?_
                    refine Ev.goto' (pc' := 36) dX7_greatest_107 (by decide) ?_
                    have L := ih _ (by omega) (k + 1) (some (iv (gsz (sV s) w k))) rfl (by omega)
                    rw [en] at L
                    exact L
          · have eg : gsz (sV s) w k = vQ (sV s) k * len (sV s) k := if_neg w0
            refine Ev.iload dX7_greatest_36 (Eq.refl 38) rfl ?_
            refine Ev.aload_n dX7_greatest_38 (Eq.refl 39) rfl ?_
            refine Ev.getR dX7_greatest_39 (Eq.refl 42) fg_X7_54 rfl rfl hNg ?_
            refine Ev.getI dX7_greatest_42 (Eq.refl 45) fg_X7_234 (lyN0 (by assumption)) rfl ?_
            rw [eSt]
            refine Ev.icmp_ge (tgt := 110) dX7_greatest_45 (Eq.refl 48) (by decide) ⟨by omega, by omega⟩ ⟨by omega, by omega⟩ (fun c45 => ?_) (fun c45 => ?_)
            · omega
            · refine Ev.iload_n dX7_greatest_48 (Eq.refl 49) rfl ?_
              refine Ev.if_ne (tgt := 65) dX7_greatest_49 (Eq.refl 52) (by decide) ⟨by omega, by omega⟩ (fun c49 => ?_) (fun c49 => ?_)
              · refine Ev.aload_n dX7_greatest_65 (Eq.refl 66) rfl ?_
                refine Ev.getR dX7_greatest_66 (Eq.refl 69) fg_X7_33 rfl rfl (rX7_3 hR) ?_
                refine Ev.aload_n dX7_greatest_69 (Eq.refl 70) rfl ?_
                refine Ev.getR dX7_greatest_70 (Eq.refl 73) fg_X7_54 rfl rfl hNg ?_
                refine Ev.iload dX7_greatest_73 (Eq.refl 75) rfl ?_
                refine Ev.cv2E dX7_greatest_75 (Eq.refl 78) cw_X7_206 (Nat.le_of_ble_eq_true rfl) (by decide) (lyS0 (by assumption)) rfl rfl (Nat.le_of_ble_eq_true rfl) (c_pull (k := k) hR hn h7 ok2 so kl) ?_
                rw [ev2, ← eg]
                refine Ev.is5 dX7_greatest_78 (Eq.refl 80) (by decide) rfl ?_
                refine Ev.aload_n dX7_greatest_80 (Eq.refl 81) rfl ?_
                refine Ev.getR dX7_greatest_81 (Eq.refl 84) fg_X7_54 rfl rfl hNg ?_
                refine Ev.iload dX7_greatest_84 (Eq.refl 86) rfl ?_
                refine Ev.cv1E dX7_greatest_86 (Eq.refl 89) cw_X7_128 (Nat.le_of_ble_eq_true rfl) (by decide) (lyN0 (by assumption)) rfl rfl (Nat.le_of_ble_eq_true rfl) (c_hangs (by assumption) (by omega) (by omega)) ?_
                rw [Int.toNat_natCast]
                refine Ev.if_eqB (tgt := 104) dX7_greatest_89 (Eq.refl 92) (by decide) (fun c89 => ?_) (fun c89 => ?_)
                · have en := nx0 (fun z => c89 (hhg.mpr z.1))
                  refine Ev.ii4 dX7_greatest_104 (Eq.refl 107) (by decide) rfl ?_
                  refine Ev.goto' (pc' := 36) dX7_greatest_107 (by decide) ?_
                  have L := ih _ (by omega) (k + 1) (some (iv (gsz (sV s) w k))) rfl (by omega)
                  rw [en] at L
                  exact L
                · refine Ev.iload dX7_greatest_92 (Eq.refl 94) rfl ?_
                  refine Ev.iload_n dX7_greatest_94 (Eq.refl 95) rfl ?_
                  refine Ev.icmp_le (tgt := 104) dX7_greatest_95 (Eq.refl 98) (by decide) ⟨by omega, by omega⟩ ⟨by omega, by omega⟩ (fun c95 => ?_) (fun c95 => ?_)
                  · have en := nx0 (fun z => by have := z.2; omega)
                    refine Ev.ii4 dX7_greatest_104 (Eq.refl 107) (by decide) rfl ?_
                    refine Ev.goto' (pc' := 36) dX7_greatest_107 (by decide) ?_
                    have L := ih _ (by omega) (k + 1) (some (iv (gsz (sV s) w k))) rfl (by omega)
                    rw [en] at L
                    exact L
                  · have en := nx1 ⟨hhg.mp c89, by omega⟩
                    refine Ev.iload dX7_greatest_98 (Eq.refl 100) rfl ?_
                    refine Ev.is2 dX7_greatest_100 (Eq.refl 101) (by decide) rfl ?_
                    refine Ev.iload dX7_greatest_101 (Eq.refl 103) rfl ?_
                    refine Ev.is3 dX7_greatest_103 (Eq.refl 104) (by decide) rfl ?_
                    refine Ev.ii4 dX7_greatest_104 (Eq.refl 107) (by decide) rfl ?_
                    refine Ev.goto' (pc' := 36) dX7_greatest_107 (by decide) ?_
                    have L := ih _ (by omega) (k + 1) (some (iv (gsz (sV s) w k))) rfl (by omega)
                    rw [en] at L
                    exact L
              · omega
        · have e : k = vS (sV s) := by omega
          subst e
          refine Ev.iload dX7_greatest_36 (Eq.refl 38) rfl ?_
          refine Ev.aload_n dX7_greatest_38 (Eq.refl 39) rfl ?_
          refine Ev.getR dX7_greatest_39 (Eq.refl 42) fg_X7_54 rfl rfl hNg ?_
          refine Ev.getI dX7_greatest_42 (Eq.refl 45) fg_X7_234 (lyN0 (by assumption)) rfl ?_
          rw [eSt]
          refine Ev.icmp_ge (tgt := 110) dX7_greatest_45 (Eq.refl 48) (by decide) ⟨by omega, by omega⟩ ⟨by omega, by omega⟩ (fun c45 => ?_) (fun c45 => ?_)
          · refine Ev.iload_n dX7_greatest_110 (Eq.refl 111) rfl ?_
            exact Ev.iret dX7_greatest_111 rfl (⟨_, rfl, rfl, I'.q hF2 inS7⟩)
          · omega
    refine Ev.iload_n dX7_greatest_0 (Eq.refl 1) rfl ?_
    refine Ev.iconst dX7_greatest_1 (Eq.refl 2) ?_
    refine Ev.iconst dX7_greatest_2 (Eq.refl 3) ?_
    refine Ev.cs3E dX7_greatest_3 (Eq.refl 6) cw_X7_85 (Nat.le_of_ble_eq_true rfl) (by decide) rfl (Nat.le_of_ble_eq_true rfl) (c_isWithin (by assumption) (by assumption) (by assumption)) ?_
    refine Ev.if_neB (tgt := 11) dX7_greatest_6 (Eq.refl 9) (by decide) (fun c6 => ?_) (fun c6 => ?_)
    · have e : aGreatest s w = ((grt (sV s) w (vS (sV s))).1, s) := Prod.ext ((if_pos c6).trans (cif_t ha2)) rfl
      refine Ev.aload_n dX7_greatest_11 (Eq.refl 12) rfl ?_
      refine Ev.getR dX7_greatest_12 (Eq.refl 15) fg_X7_33 rfl rfl (rX7_3 hR) ?_
      refine Ev.aload_n dX7_greatest_15 (Eq.refl 16) rfl ?_
      refine Ev.getR dX7_greatest_16 (Eq.refl 19) fg_X7_54 rfl rfl hN ?_
      refine Ev.cv1I dX7_greatest_19 (Eq.refl 22) cw_X7_144 (Nat.le_of_ble_eq_true rfl) (by decide) (lyS0 (by assumption)) rfl rfl (Nat.le_of_ble_eq_true rfl) (c_find1 hR hn h7 ok ha) (fun x19 g19 hp19 => ?_)
      obtain ⟨rfl, hF2, s2, ok2, hR2, so⟩ := hp19
      refine Ev.if_ne (tgt := 28) dX7_greatest_22 (Eq.refl 25) (by decide) ⟨by omega, by omega⟩ (fun c22 => ?_) (fun c22 => ?_)
      · refine Ev.bipush dX7_greatest_28 (Eq.refl 30) (by decide) ?_
        refine Ev.is2 dX7_greatest_30 (Eq.refl 31) (by decide) rfl ?_
        refine Ev.iconst dX7_greatest_31 (Eq.refl 32) ?_
        refine Ev.is3 dX7_greatest_32 (Eq.refl 33) (by decide) rfl ?_
        refine Ev.iconst dX7_greatest_33 (Eq.refl 34) ?_
        refine Ev.is4 dX7_greatest_34 (Eq.refl 36) (by decide) rfl ?_
        rw [e]
        exact LOOP c6 _ hF2 s2 ok2 hR2 so _ 0 _ rfl (by omega)
      · omega
    · have e : aGreatest s w = (-1, s) := Prod.ext (if_neg c6) rfl
      refine Ev.iconst dX7_greatest_9 (Eq.refl 10) ?_
      exact Ev.iret dX7_greatest_10 rfl ((by rw [e]; exact ⟨_, rfl, rfl, I'⟩))
  · have h8 : isShp 7 := h7
    refine Ev.iload_n dX7_greatest_0 (Eq.refl 1) rfl ?_
    refine Ev.iconst dX7_greatest_1 (Eq.refl 2) ?_
    refine Ev.iconst dX7_greatest_2 (Eq.refl 3) ?_
    refine Ev.cs3E dX7_greatest_3 (Eq.refl 6) cw_X7_85 (Nat.le_of_ble_eq_true rfl) (by decide) rfl (Nat.le_of_ble_eq_true rfl) (c_isWithin (by assumption) (by assumption) (by assumption)) ?_
    refine Ev.if_neB (tgt := 11) dX7_greatest_6 (Eq.refl 9) (by decide) (fun c6 => ?_) (fun c6 => ?_)
    · have e : aGreatest s w = (-2, s) := Prod.ext ((if_pos c6).trans (cif_f (by rw [← hV]; exact ha))) rfl
      refine Ev.aload_n dX7_greatest_11 (Eq.refl 12) rfl ?_
      refine Ev.getR dX7_greatest_12 (Eq.refl 15) fg_X7_33 rfl rfl (rX7_3 hR) ?_
      refine Ev.aload_n dX7_greatest_15 (Eq.refl 16) rfl ?_
      refine Ev.getR dX7_greatest_16 (Eq.refl 19) fg_X7_54 rfl rfl hN ?_
      refine Ev.cv1I dX7_greatest_19 (Eq.refl 22) cw_X7_144 (Nat.le_of_ble_eq_true rfl) (by decide) (lyS0 (by assumption)) rfl rfl (Nat.le_of_ble_eq_true rfl) (c_find0 hR hn h7 ok ha) (fun x19 g19 hp19 => ?_)
      obtain ⟨rfl, rfl⟩ := hp19
      refine Ev.if_ne (tgt := 28) dX7_greatest_22 (Eq.refl 25) (by decide) ⟨by omega, by omega⟩ (fun c22 => ?_) (fun c22 => ?_)
      · omega
      · refine Ev.bipush dX7_greatest_25 (Eq.refl 27) (by decide) ?_
        exact Ev.iret dX7_greatest_27 rfl ((by rw [e]; exact ⟨_, rfl, rfl, I'⟩))
    · have e : aGreatest s w = (-1, s) := Prod.ext (if_neg c6) rfl
      refine Ev.iconst dX7_greatest_9 (Eq.refl 10) ?_
      exact Ev.iret dX7_greatest_10 rfl ((by rw [e]; exact ⟨_, rfl, rfl, I'⟩))
